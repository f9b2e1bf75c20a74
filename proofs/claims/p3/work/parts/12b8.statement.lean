-- pure: scopes and statements of the model
theorem n_S_h {σ τ : S0} {wv wa wb : List Nat} (h : n_S σ) (hf : f_r wv wa wb σ τ) (d1 : [3, 5, 13].all (fun i => !wv.contains i) = true) (d2 : [11, 13, 14, 16, 31].all (fun i => !wa.contains i) = true) : n_S τ := by
  unfold n_S
  rw [hf.1 3 (n_fl d1 3 (by decide)), hf.1 5 (n_fl d1 5 (by decide)), hf.1 13 (n_fl d1 13 (by decide)), hf.2.1 11 (n_fl d2 11 (by decide)), hf.2.1 13 (n_fl d2 13 (by decide)), hf.2.1 14 (n_fl d2 14 (by decide)), hf.2.1 16 (n_fl d2 16 (by decide)), hf.2.1 31 (n_fl d2 31 (by decide))]
  exact h
theorem n_J_hh {σ τ : S0} {wv wa wb : List Nat} (h : n_J σ) (hf : f_r wv wa wb σ τ) (d1 : [3, 5].all (fun i => !wv.contains i) = true) (d2 : [8, 10, 12, 13, 14, 15, 16, 17, 18, 19, 20, 25, 26, 27, 28].all (fun i => !wa.contains i) = true) : n_J τ := by
  show n_Jn (τ.1 5) τ
  rw [hf.1 5 (n_fl d1 5 (by decide))]
  exact n_J_g h (hf.1 3 (n_fl d1 3 (by decide))) (fun k hk => hf.2.1 k (n_fl d2 k hk))
set_option maxHeartbeats 1000000 in
theorem K3_X13_dropTo {n1 : Int} {n2 : Int} {n3 : Int} {σ : S0} (hT : m_T σ) (p1 : 0 ≤ n1) (p2 : 0 ≤ n2) (p3 : 0 ≤ n3) (p4 : (σ.1 12) ≤ ca (σ.2.1 9) (σ.1 3)) : W_X13_dropTo n1 n2 n3 σ (fun (τ : S0) => (m_T τ) ∧ (n1 ≤ (σ.1 12) → (τ.1 12) = n1) ∧ (n2 ≤ (σ.1 13) → (τ.1 13) = n2) ∧ (n3 ≤ (σ.1 14) → (τ.1 14) = n3) ∧ ((τ.1 12) ≤ (σ.1 12)) ∧ ((τ.1 13) ≤ (σ.1 13)) ∧ ((τ.1 14) ≤ (σ.1 14)) ∧ ((τ.1 12) ≤ ca (τ.2.1 9) (τ.1 3)) ∧ (n_S σ → n_S τ) ∧ ((σ.1 13) ≤ n2 → (τ.1 13) = (σ.1 13))) := by
  have A9 : ∀ j, 0 ≤ σ.2.1 9 j ∧ σ.2.1 9 j ≤ 1 := fun j => hT.2 9 j
  have A11 : ∀ j, (-1) ≤ σ.2.1 11 j ∧ σ.2.1 11 j ≤ 1499 := fun j => hT.2 11 j
  have A13 : ∀ j, 0 ≤ σ.2.1 13 j ∧ σ.2.1 13 j ≤ 4 := fun j => hT.2 13 j
  have A14 : ∀ j, 0 ≤ σ.2.1 14 j ∧ σ.2.1 14 j ≤ 30000 := fun j => hT.2 14 j
  have A16 : ∀ j, 0 ≤ σ.2.1 16 j ∧ σ.2.1 16 j ≤ 999 := fun j => hT.2 16 j
  have A31 : ∀ j, 0 ≤ σ.2.1 31 j ∧ σ.2.1 31 j ≤ 1499 := fun j => hT.2 31 j
  have v3 : 0 ≤ σ.1 3 ∧ σ.1 3 ≤ 1000 := hT.1 3
  have v12 : 0 ≤ σ.1 12 ∧ σ.1 12 ≤ 1000 := hT.1 12
  have v13 : 0 ≤ σ.1 13 ∧ σ.1 13 ≤ 1500 := hT.1 13
  have v14 : 0 ≤ σ.1 14 ∧ σ.1 14 ≤ 1000 := hT.1 14
  have W3 : σ.1 3 = σ.1 3 := rfl
  have G13 : σ.2.1 13 = σ.2.1 13 := rfl
  have G14 : σ.2.1 14 = σ.2.1 14 := rfl
  have G16 : σ.2.1 16 = σ.2.1 16 := rfl
  have G31 : σ.2.1 31 = σ.2.1 31 := rfl
  intro P0 P36 P98 h0 h36 h98
  have AVt : (σ.1 12) ≤ ca (σ.2.1 9) (σ.1 3) := p4
  have AVt_0 := AVt
  have l_98 : ∀ (m_98 : Nat) (τ_98 : S0), (τ_98.1 14) < (m_98 : Int) → (m_T τ_98) → (τ_98.1 3 = σ.1 3) → (τ_98.2.1 13 = σ.2.1 13) → (τ_98.2.1 14 = σ.2.1 14) → (τ_98.2.1 16 = σ.2.1 16) → (τ_98.2.1 31 = σ.2.1 31) → (n1 ≤ (σ.1 12) → n1 = (τ_98.1 12)) → ((τ_98.1 12) ≤ (σ.1 12)) → (n2 ≤ (σ.1 13) → n2 = (τ_98.1 13)) → ((τ_98.1 13) ≤ (σ.1 13)) → (n3 ≤ (σ.1 14) → n3 ≤ (τ_98.1 14)) → ((τ_98.1 14) ≤ (σ.1 14)) → ((τ_98.1 12) ≤ ca (τ_98.2.1 9) (τ_98.1 3)) → (n_S σ → n_S τ_98) → ((σ.1 13) ≤ n2 → (τ_98.1 13) = (σ.1 13)) → P98 n3 τ_98 := by
    intro m_98
    induction m_98 with
    | zero =>
      intro τ_98 hm hT W3 G13 G14 G16 G31 i98_1 i98_2 i98_3 i98_4 i98_5 i98_6 i98_7 i98_8 i98_9
      have A9 : ∀ j, 0 ≤ τ_98.2.1 9 j ∧ τ_98.2.1 9 j ≤ 1 := fun j => hT.2 9 j
      have A11 : ∀ j, (-1) ≤ τ_98.2.1 11 j ∧ τ_98.2.1 11 j ≤ 1499 := fun j => hT.2 11 j
      have A13 : ∀ j, 0 ≤ τ_98.2.1 13 j ∧ τ_98.2.1 13 j ≤ 4 := fun j => hT.2 13 j
      have A14 : ∀ j, 0 ≤ τ_98.2.1 14 j ∧ τ_98.2.1 14 j ≤ 30000 := fun j => hT.2 14 j
      have A16 : ∀ j, 0 ≤ τ_98.2.1 16 j ∧ τ_98.2.1 16 j ≤ 999 := fun j => hT.2 16 j
      have A31 : ∀ j, 0 ≤ τ_98.2.1 31 j ∧ τ_98.2.1 31 j ≤ 1499 := fun j => hT.2 31 j
      have v3 : 0 ≤ τ_98.1 3 ∧ τ_98.1 3 ≤ 1000 := hT.1 3
      have v12 : 0 ≤ τ_98.1 12 ∧ τ_98.1 12 ≤ 1000 := hT.1 12
      have v13 : 0 ≤ τ_98.1 13 ∧ τ_98.1 13 ≤ 1500 := hT.1 13
      have v14 : 0 ≤ τ_98.1 14 ∧ τ_98.1 14 ≤ 1000 := hT.1 14
      exfalso; (first | omega | (simp only [st_s] <;> omega) | assumption | omega | fail)
    | succ m_98 ih_98 =>
      intro τ_98 hm_98 hT W3 G13 G14 G16 G31 i98_1 i98_2 i98_3 i98_4 i98_5 i98_6 i98_7 i98_8 i98_9
      have A9 : ∀ j, 0 ≤ τ_98.2.1 9 j ∧ τ_98.2.1 9 j ≤ 1 := fun j => hT.2 9 j
      have A11 : ∀ j, (-1) ≤ τ_98.2.1 11 j ∧ τ_98.2.1 11 j ≤ 1499 := fun j => hT.2 11 j
      have A13 : ∀ j, 0 ≤ τ_98.2.1 13 j ∧ τ_98.2.1 13 j ≤ 4 := fun j => hT.2 13 j
      have A14 : ∀ j, 0 ≤ τ_98.2.1 14 j ∧ τ_98.2.1 14 j ≤ 30000 := fun j => hT.2 14 j
      have A16 : ∀ j, 0 ≤ τ_98.2.1 16 j ∧ τ_98.2.1 16 j ≤ 999 := fun j => hT.2 16 j
      have A31 : ∀ j, 0 ≤ τ_98.2.1 31 j ∧ τ_98.2.1 31 j ≤ 1499 := fun j => hT.2 31 j
      have v3 : 0 ≤ τ_98.1 3 ∧ τ_98.1 3 ≤ 1000 := hT.1 3
      have v12 : 0 ≤ τ_98.1 12 ∧ τ_98.1 12 ≤ 1000 := hT.1 12
      have v13 : 0 ≤ τ_98.1 13 ∧ τ_98.1 13 ≤ 1500 := hT.1 13
      have v14 : 0 ≤ τ_98.1 14 ∧ τ_98.1 14 ≤ 1000 := hT.1 14
      have AVt : (τ_98.1 12) ≤ ca (τ_98.2.1 9) (τ_98.1 3) := i98_7
      refine h98 n3 τ_98 ?_
      refine ⟨fun c17 => ?_, fun c17 => ?_⟩
      ·
        exact ⟨hT, (show n1 ≤ (σ.1 12) → (τ_98.1 12) = n1 from by (first | omega | (simp only [st_s] <;> omega) | assumption | omega | fail)), (show n2 ≤ (σ.1 13) → (τ_98.1 13) = n2 from by (first | omega | (simp only [st_s] <;> omega) | assumption | omega | fail)), (show n3 ≤ (σ.1 14) → (τ_98.1 14) = n3 from by (first | omega | (simp only [st_s] <;> omega) | assumption | omega | fail)), (show (τ_98.1 12) ≤ (σ.1 12) from by (first | omega | (simp only [st_s] <;> omega) | assumption | omega | fail)), (show (τ_98.1 13) ≤ (σ.1 13) from by (first | omega | (simp only [st_s] <;> omega) | assumption | omega | fail)), (show (τ_98.1 14) ≤ (σ.1 14) from by (first | omega | (simp only [st_s] <;> omega) | assumption | omega | fail)), (show (τ_98.1 12) ≤ ca (τ_98.2.1 9) (τ_98.1 3) from AVt), (show n_S σ → n_S τ_98 from by exact i98_8), (show (σ.1 13) ≤ n2 → (τ_98.1 13) = (σ.1 13) from by (first | omega | (simp only [st_s] <;> omega) | assumption | omega | fail))⟩
      ·
        refine ⟨(⟨by (first | omega | (simp only [st_s] <;> omega) | assumption | omega | fail), by (first | omega | (simp only [st_s] <;> omega) | assumption | omega | fail)⟩ : rg (τ_98.1 14 - 1)), ?_⟩
        replace hT := mT_v (i := 14) hT (show 0 ≤ (τ_98.1 14 - 1) ∧ (τ_98.1 14 - 1) ≤ 1000 from by (first | omega | (simp only [st_s] <;> omega) | assumption | omega | fail))
        refine ⟨(show 0 ≤ (τ_98.1 14 - 1) ∧ (τ_98.1 14 - 1) < 1001 from by (first | omega | (simp only [st_s] <;> omega) | assumption | omega | fail)), ?_⟩
        intro x20 r_x20 e_x20
        have b_x20 : 0 ≤ x20 ∧ x20 ≤ 999 := by rw [e_x20]; exact hT.2 32 _
        intro x21 r_x21 e_x21
        have b_x21 : 0 ≤ x21 ∧ x21 ≤ 999 := by rw [e_x21]; exact hT.2 33 _
        refine ⟨_, K_X13_setApart hT (show 0 ≤ x20 from by (first | omega | (simp only [st_s] <;> omega) | assumption | omega | fail)) (show x20 < 1000 from by (first | omega | (simp only [st_s] <;> omega) | assumption | omega | fail)) (show 0 ≤ x21 from by (first | omega | (simp only [st_s] <;> omega) | assumption | omega | fail)) (show x21 < 1000 from by (first | omega | (simp only [st_s] <;> omega) | assumption | omega | fail)), ?_⟩
        intro τ24 hn_τ24 hf_τ24 hq
        replace hT := hq
        have w3_τ24 : τ24.1 3 = τ_98.1 3 := hf_τ24.1 3 (by decide)
        have w12_τ24 : τ24.1 12 = τ_98.1 12 := hf_τ24.1 12 (by decide)
        have w13_τ24 : τ24.1 13 = τ_98.1 13 := hf_τ24.1 13 (by decide)
        have w14_τ24 : τ24.1 14 = (τ_98.1 14 - 1) := hf_τ24.1 14 (by decide)
        have g9_τ24 : τ24.2.1 9 = τ_98.2.1 9 := hf_τ24.2.1 9 (by decide)
        have g11_τ24 : τ24.2.1 11 = τ_98.2.1 11 := hf_τ24.2.1 11 (by decide)
        have g13_τ24 : τ24.2.1 13 = τ_98.2.1 13 := hf_τ24.2.1 13 (by decide)
        have g14_τ24 : τ24.2.1 14 = τ_98.2.1 14 := hf_τ24.2.1 14 (by decide)
        have g16_τ24 : τ24.2.1 16 = τ_98.2.1 16 := hf_τ24.2.1 16 (by decide)
        have g31_τ24 : τ24.2.1 31 = τ_98.2.1 31 := hf_τ24.2.1 31 (by decide)
        first | (have ca_τ24 := congr (congrArg ca g9_τ24) w3_τ24) | skip
        have W3 : τ24.1 3 = σ.1 3 := by first | exact w3_τ24.trans W3 | omega
        have G13 : τ24.2.1 13 = σ.2.1 13 := (g13_τ24).trans G13
        have G14 : τ24.2.1 14 = σ.2.1 14 := (g14_τ24).trans G14
        have G16 : τ24.2.1 16 = σ.2.1 16 := (g16_τ24).trans G16
        have G31 : τ24.2.1 31 = σ.2.1 31 := (g31_τ24).trans G31
        have AVt : (τ24.1 12) ≤ ca (τ24.2.1 9) (τ24.1 3) := by rw [show ((τ24.1 12) ≤ ca (τ24.2.1 9) (τ24.1 3)) = ((τ_98.1 12) ≤ ca (τ_98.2.1 9) (τ_98.1 3)) from by rw [w3_τ24, w12_τ24, g9_τ24]]; exact AVt
        have A9 : ∀ j, 0 ≤ τ24.2.1 9 j ∧ τ24.2.1 9 j ≤ 1 := fun j => hT.2 9 j
        have A11 : ∀ j, (-1) ≤ τ24.2.1 11 j ∧ τ24.2.1 11 j ≤ 1499 := fun j => hT.2 11 j
        have A13 : ∀ j, 0 ≤ τ24.2.1 13 j ∧ τ24.2.1 13 j ≤ 4 := fun j => hT.2 13 j
        have A14 : ∀ j, 0 ≤ τ24.2.1 14 j ∧ τ24.2.1 14 j ≤ 30000 := fun j => hT.2 14 j
        have A16 : ∀ j, 0 ≤ τ24.2.1 16 j ∧ τ24.2.1 16 j ≤ 999 := fun j => hT.2 16 j
        have A31 : ∀ j, 0 ≤ τ24.2.1 31 j ∧ τ24.2.1 31 j ≤ 1499 := fun j => hT.2 31 j
        have v3 : 0 ≤ τ24.1 3 ∧ τ24.1 3 ≤ 1000 := hT.1 3
        have v12 : 0 ≤ τ24.1 12 ∧ τ24.1 12 ≤ 1000 := hT.1 12
        have v13 : 0 ≤ τ24.1 13 ∧ τ24.1 13 ≤ 1500 := hT.1 13
        have v14 : 0 ≤ τ24.1 14 ∧ τ24.1 14 ≤ 1000 := hT.1 14
        exact ih_98 _ (show ((τ24.1 14) : Int) < ((m_98 : Nat) : Int) from by ((first | omega | (simp only [st_s] <;> omega) | assumption | omega | fail))) hT (show τ24.1 3 = σ.1 3 from by first | exact W3 | omega) G13 G14 G16 G31 (show n1 ≤ (σ.1 12) → n1 = (τ24.1 12) from by (first | omega | (simp only [st_s] <;> omega) | assumption | omega | fail)) (show (τ24.1 12) ≤ (σ.1 12) from by (first | omega | (simp only [st_s] <;> omega) | assumption | omega | fail)) (show n2 ≤ (σ.1 13) → n2 = (τ24.1 13) from by (first | omega | (simp only [st_s] <;> omega) | assumption | omega | fail)) (show (τ24.1 13) ≤ (σ.1 13) from by (first | omega | (simp only [st_s] <;> omega) | assumption | omega | fail)) (show n3 ≤ (σ.1 14) → n3 ≤ (τ24.1 14) from by (first | omega | (simp only [st_s] <;> omega) | assumption | omega | fail)) (show (τ24.1 14) ≤ (σ.1 14) from by (first | omega | (simp only [st_s] <;> omega) | assumption | omega | fail)) (show (τ24.1 12) ≤ ca (τ24.2.1 9) (τ24.1 3) from AVt) (show n_S σ → n_S τ24 from by (first | exact i36_7 | exact fun h => n_S_h (show n_S (s_v τ_98 14 (τ_98.1 14 - 1)) from i98_8 h) hf_τ24 rfl rfl | fail)) (show (σ.1 13) ≤ n2 → (τ24.1 13) = (σ.1 13) from by (first | omega | (simp only [st_s] <;> omega) | assumption | omega | fail))
  have l_36 : ∀ (m_36 : Nat) (τ_36 : S0), (τ_36.1 13) < (m_36 : Int) → (m_T τ_36) → (τ_36.1 3 = σ.1 3) → (τ_36.2.1 13 = σ.2.1 13) → (τ_36.2.1 14 = σ.2.1 14) → (τ_36.2.1 16 = σ.2.1 16) → (τ_36.2.1 31 = σ.2.1 31) → (n1 ≤ (σ.1 12) → n1 = (τ_36.1 12)) → ((τ_36.1 12) ≤ (σ.1 12)) → (n2 ≤ (σ.1 13) → n2 ≤ (τ_36.1 13)) → ((τ_36.1 13) ≤ (σ.1 13)) → ((τ_36.1 14) = (σ.1 14)) → ((τ_36.1 12) ≤ ca (τ_36.2.1 9) (τ_36.1 3)) → (n_S σ → n_S τ_36) → ((σ.1 13) ≤ n2 → (τ_36.1 13) = (σ.1 13)) → P36 n2 n3 τ_36 := by
    intro m_36
    induction m_36 with
    | zero =>
      intro τ_36 hm hT W3 G13 G14 G16 G31 i36_1 i36_2 i36_3 i36_4 i36_5 i36_6 i36_7 i36_8
      have A9 : ∀ j, 0 ≤ τ_36.2.1 9 j ∧ τ_36.2.1 9 j ≤ 1 := fun j => hT.2 9 j
      have A11 : ∀ j, (-1) ≤ τ_36.2.1 11 j ∧ τ_36.2.1 11 j ≤ 1499 := fun j => hT.2 11 j
      have A13 : ∀ j, 0 ≤ τ_36.2.1 13 j ∧ τ_36.2.1 13 j ≤ 4 := fun j => hT.2 13 j
      have A14 : ∀ j, 0 ≤ τ_36.2.1 14 j ∧ τ_36.2.1 14 j ≤ 30000 := fun j => hT.2 14 j
      have A16 : ∀ j, 0 ≤ τ_36.2.1 16 j ∧ τ_36.2.1 16 j ≤ 999 := fun j => hT.2 16 j
      have A31 : ∀ j, 0 ≤ τ_36.2.1 31 j ∧ τ_36.2.1 31 j ≤ 1499 := fun j => hT.2 31 j
      have v3 : 0 ≤ τ_36.1 3 ∧ τ_36.1 3 ≤ 1000 := hT.1 3
      have v12 : 0 ≤ τ_36.1 12 ∧ τ_36.1 12 ≤ 1000 := hT.1 12
      have v13 : 0 ≤ τ_36.1 13 ∧ τ_36.1 13 ≤ 1500 := hT.1 13
      have v14 : 0 ≤ τ_36.1 14 ∧ τ_36.1 14 ≤ 1000 := hT.1 14
      exfalso; (first | omega | (simp only [st_s] <;> omega) | assumption | omega | fail)
    | succ m_36 ih_36 =>
      intro τ_36 hm_36 hT W3 G13 G14 G16 G31 i36_1 i36_2 i36_3 i36_4 i36_5 i36_6 i36_7 i36_8
      have A9 : ∀ j, 0 ≤ τ_36.2.1 9 j ∧ τ_36.2.1 9 j ≤ 1 := fun j => hT.2 9 j
      have A11 : ∀ j, (-1) ≤ τ_36.2.1 11 j ∧ τ_36.2.1 11 j ≤ 1499 := fun j => hT.2 11 j
      have A13 : ∀ j, 0 ≤ τ_36.2.1 13 j ∧ τ_36.2.1 13 j ≤ 4 := fun j => hT.2 13 j
      have A14 : ∀ j, 0 ≤ τ_36.2.1 14 j ∧ τ_36.2.1 14 j ≤ 30000 := fun j => hT.2 14 j
      have A16 : ∀ j, 0 ≤ τ_36.2.1 16 j ∧ τ_36.2.1 16 j ≤ 999 := fun j => hT.2 16 j
      have A31 : ∀ j, 0 ≤ τ_36.2.1 31 j ∧ τ_36.2.1 31 j ≤ 1499 := fun j => hT.2 31 j
      have v3 : 0 ≤ τ_36.1 3 ∧ τ_36.1 3 ≤ 1000 := hT.1 3
      have v12 : 0 ≤ τ_36.1 12 ∧ τ_36.1 12 ≤ 1000 := hT.1 12
      have v13 : 0 ≤ τ_36.1 13 ∧ τ_36.1 13 ≤ 1500 := hT.1 13
      have v14 : 0 ≤ τ_36.1 14 ∧ τ_36.1 14 ≤ 1000 := hT.1 14
      have AVt : (τ_36.1 12) ≤ ca (τ_36.2.1 9) (τ_36.1 3) := i36_6
      refine h36 n2 n3 τ_36 ?_
      refine ⟨fun c6 => ?_, fun c6 => ?_⟩
      ·
        exact l_98 (((τ_36.1 14) : Int).toNat + 1) _ (show ((τ_36.1 14) : Int) < ((((τ_36.1 14) : Int).toNat + 1 : Nat) : Int) from by ((first | omega | (simp only [st_s] <;> omega) | assumption | omega | fail))) hT (show τ_36.1 3 = σ.1 3 from by first | exact W3 | omega) G13 G14 G16 G31 (show n1 ≤ (σ.1 12) → n1 = (τ_36.1 12) from by (first | omega | (simp only [st_s] <;> omega) | assumption | omega | fail)) (show (τ_36.1 12) ≤ (σ.1 12) from by (first | omega | (simp only [st_s] <;> omega) | assumption | omega | fail)) (show n2 ≤ (σ.1 13) → n2 = (τ_36.1 13) from by (first | omega | (simp only [st_s] <;> omega) | assumption | omega | fail)) (show (τ_36.1 13) ≤ (σ.1 13) from by (first | omega | (simp only [st_s] <;> omega) | assumption | omega | fail)) (show n3 ≤ (σ.1 14) → n3 ≤ (τ_36.1 14) from by (first | omega | (simp only [st_s] <;> omega) | assumption | omega | fail)) (show (τ_36.1 14) ≤ (σ.1 14) from by (first | omega | (simp only [st_s] <;> omega) | assumption | omega | fail)) (show (τ_36.1 12) ≤ ca (τ_36.2.1 9) (τ_36.1 3) from AVt) (show n_S σ → n_S τ_36 from by (first | exact i36_7 | exact fun h => n_S_h (show n_S (s_v τ_98 14 (τ_98.1 14 - 1)) from i98_8 h) hf_τ24 rfl rfl | fail)) (show (σ.1 13) ≤ n2 → (τ_36.1 13) = (σ.1 13) from by (first | omega | (simp only [st_s] <;> omega) | assumption | omega | fail))
      ·
        refine ⟨(⟨by (first | omega | (simp only [st_s] <;> omega) | assumption | omega | fail), by (first | omega | (simp only [st_s] <;> omega) | assumption | omega | fail)⟩ : rg (τ_36.1 13 - 1)), ?_⟩
        replace hT := mT_v (i := 13) hT (show 0 ≤ (τ_36.1 13 - 1) ∧ (τ_36.1 13 - 1) ≤ 1500 from by (first | omega | (simp only [st_s] <;> omega) | assumption | omega | fail))
        refine ⟨(show 0 ≤ (τ_36.1 13 - 1) ∧ (τ_36.1 13 - 1) < 1501 from by (first | omega | (simp only [st_s] <;> omega) | assumption | omega | fail)), ?_⟩
        intro x9 r_x9 e_x9
        have b_x9 : 0 ≤ x9 ∧ x9 ≤ 1499 := by rw [e_x9]; exact hT.2 31 _
        refine ⟨(show 0 ≤ x9 ∧ x9 < 1501 from by (first | omega | (simp only [st_s] <;> omega) | assumption | omega | fail)), ?_⟩
        intro x11 r_x11 e_x11
        have b_x11 : 0 ≤ x11 ∧ x11 ≤ 4 := by rw [e_x11]; exact hT.2 13 _
        refine ⟨fun c12 => ?_, fun c12 => ?_⟩
        ·
          exact ih_36 _ (show (((τ_36.1 13 - 1)) : Int) < ((m_36 : Nat) : Int) from by ((first | omega | (simp only [st_s] <;> omega) | assumption | omega | fail))) hT (show τ_36.1 3 = σ.1 3 from by first | exact W3 | omega) G13 G14 G16 G31 (show n1 ≤ (σ.1 12) → n1 = (τ_36.1 12) from by (first | omega | (simp only [st_s] <;> omega) | assumption | omega | fail)) (show (τ_36.1 12) ≤ (σ.1 12) from by (first | omega | (simp only [st_s] <;> omega) | assumption | omega | fail)) (show n2 ≤ (σ.1 13) → n2 ≤ ((τ_36.1 13 - 1)) from by (first | omega | (simp only [st_s] <;> omega) | assumption | omega | fail)) (show ((τ_36.1 13 - 1)) ≤ (σ.1 13) from by (first | omega | (simp only [st_s] <;> omega) | assumption | omega | fail)) (show (τ_36.1 14) = (σ.1 14) from by (first | omega | (simp only [st_s] <;> omega) | assumption | omega | fail)) (show (τ_36.1 12) ≤ ca (τ_36.2.1 9) (τ_36.1 3) from AVt) (show n_S σ → n_S (s_v τ_36 13 (τ_36.1 13 - 1)) from by (first | exact i0_6 | exact fun h => n_S_d (i36_7 h) (by omega) rfl rfl rfl rfl rfl rfl rfl (Or.inl ⟨by (rw [← e_x9, ← e_x11]; assumption), rfl⟩) | exact fun h => n_S_d (i36_7 h) (by omega) rfl rfl rfl rfl rfl rfl rfl (Or.inr ⟨by (rw [← e_x9, ← e_x11]; assumption), by (rw [← e_x9, ← e_x13, ← e_x15]; rfl)⟩) | fail)) (show (σ.1 13) ≤ n2 → ((τ_36.1 13 - 1)) = (σ.1 13) from by (first | omega | (simp only [st_s] <;> omega) | assumption | omega | fail))
        ·
          intro x13 r_x13 e_x13
          have b_x13 : 0 ≤ x13 ∧ x13 ≤ 30000 := by rw [e_x13]; exact hT.2 14 _
          refine ⟨(show 0 ≤ (x13 + 1) ∧ (x13 + 1) < 30400 from by (first | omega | (simp only [st_s] <;> omega) | assumption | omega | fail)), ?_⟩
          intro x15 r_x15 e_x15
          have b_x15 : 0 ≤ x15 ∧ x15 ≤ 999 := by rw [e_x15]; exact hT.2 16 _
          refine ⟨(show 0 ≤ x15 ∧ x15 < 1001 from by (first | omega | (simp only [st_s] <;> omega) | assumption | omega | fail)), ?_⟩
          replace hT := mT_a (k := 11) (j := x15) hT (show (-1 : Int) ≤ (-1) ∧ (-1) ≤ 1499 from by (first | omega | (simp only [st_s] <;> omega) | assumption | omega | fail))
          exact ih_36 _ (show (((τ_36.1 13 - 1)) : Int) < ((m_36 : Nat) : Int) from by ((first | omega | (simp only [st_s] <;> omega) | assumption | omega | fail))) hT (show τ_36.1 3 = σ.1 3 from by first | exact W3 | omega) G13 G14 G16 G31 (show n1 ≤ (σ.1 12) → n1 = (τ_36.1 12) from by (first | omega | (simp only [st_s] <;> omega) | assumption | omega | fail)) (show (τ_36.1 12) ≤ (σ.1 12) from by (first | omega | (simp only [st_s] <;> omega) | assumption | omega | fail)) (show n2 ≤ (σ.1 13) → n2 ≤ ((τ_36.1 13 - 1)) from by (first | omega | (simp only [st_s] <;> omega) | assumption | omega | fail)) (show ((τ_36.1 13 - 1)) ≤ (σ.1 13) from by (first | omega | (simp only [st_s] <;> omega) | assumption | omega | fail)) (show (τ_36.1 14) = (σ.1 14) from by (first | omega | (simp only [st_s] <;> omega) | assumption | omega | fail)) (show (τ_36.1 12) ≤ ca (τ_36.2.1 9) (τ_36.1 3) from AVt) (show n_S σ → n_S (s_a (s_v τ_36 13 (τ_36.1 13 - 1)) 11 x15 (-1)) from by (first | exact i0_6 | exact fun h => n_S_d (i36_7 h) (by omega) rfl rfl rfl rfl rfl rfl rfl (Or.inl ⟨by (rw [← e_x9, ← e_x11]; assumption), rfl⟩) | exact fun h => n_S_d (i36_7 h) (by omega) rfl rfl rfl rfl rfl rfl rfl (Or.inr ⟨by (rw [← e_x9, ← e_x11]; assumption), by (rw [← e_x9, ← e_x13, ← e_x15]; rfl)⟩) | fail)) (show (σ.1 13) ≤ n2 → ((τ_36.1 13 - 1)) = (σ.1 13) from by (first | omega | (simp only [st_s] <;> omega) | assumption | omega | fail))
  have l_0 : ∀ (m_0 : Nat) (τ_0 : S0), (τ_0.1 12) < (m_0 : Int) → (m_T τ_0) → (τ_0.1 3 = σ.1 3) → (τ_0.2.1 13 = σ.2.1 13) → (τ_0.2.1 14 = σ.2.1 14) → (τ_0.2.1 16 = σ.2.1 16) → (τ_0.2.1 31 = σ.2.1 31) → (n1 ≤ (σ.1 12) → n1 ≤ (τ_0.1 12)) → ((τ_0.1 12) ≤ (σ.1 12)) → ((τ_0.1 13) = (σ.1 13)) → ((τ_0.1 14) = (σ.1 14)) → ((τ_0.1 12) ≤ ca (τ_0.2.1 9) (τ_0.1 3)) → (n_S σ → n_S τ_0) → P0 n1 n2 n3 τ_0 := by
    intro m_0
    induction m_0 with
    | zero =>
      intro τ_0 hm hT W3 G13 G14 G16 G31 i0_1 i0_2 i0_3 i0_4 i0_5 i0_6
      have A9 : ∀ j, 0 ≤ τ_0.2.1 9 j ∧ τ_0.2.1 9 j ≤ 1 := fun j => hT.2 9 j
      have A11 : ∀ j, (-1) ≤ τ_0.2.1 11 j ∧ τ_0.2.1 11 j ≤ 1499 := fun j => hT.2 11 j
      have A13 : ∀ j, 0 ≤ τ_0.2.1 13 j ∧ τ_0.2.1 13 j ≤ 4 := fun j => hT.2 13 j
      have A14 : ∀ j, 0 ≤ τ_0.2.1 14 j ∧ τ_0.2.1 14 j ≤ 30000 := fun j => hT.2 14 j
      have A16 : ∀ j, 0 ≤ τ_0.2.1 16 j ∧ τ_0.2.1 16 j ≤ 999 := fun j => hT.2 16 j
      have A31 : ∀ j, 0 ≤ τ_0.2.1 31 j ∧ τ_0.2.1 31 j ≤ 1499 := fun j => hT.2 31 j
      have v3 : 0 ≤ τ_0.1 3 ∧ τ_0.1 3 ≤ 1000 := hT.1 3
      have v12 : 0 ≤ τ_0.1 12 ∧ τ_0.1 12 ≤ 1000 := hT.1 12
      have v13 : 0 ≤ τ_0.1 13 ∧ τ_0.1 13 ≤ 1500 := hT.1 13
      have v14 : 0 ≤ τ_0.1 14 ∧ τ_0.1 14 ≤ 1000 := hT.1 14
      exfalso; (first | omega | (simp only [st_s] <;> omega) | assumption | omega | fail)
    | succ m_0 ih_0 =>
      intro τ_0 hm_0 hT W3 G13 G14 G16 G31 i0_1 i0_2 i0_3 i0_4 i0_5 i0_6
      have A9 : ∀ j, 0 ≤ τ_0.2.1 9 j ∧ τ_0.2.1 9 j ≤ 1 := fun j => hT.2 9 j
      have A11 : ∀ j, (-1) ≤ τ_0.2.1 11 j ∧ τ_0.2.1 11 j ≤ 1499 := fun j => hT.2 11 j
      have A13 : ∀ j, 0 ≤ τ_0.2.1 13 j ∧ τ_0.2.1 13 j ≤ 4 := fun j => hT.2 13 j
      have A14 : ∀ j, 0 ≤ τ_0.2.1 14 j ∧ τ_0.2.1 14 j ≤ 30000 := fun j => hT.2 14 j
      have A16 : ∀ j, 0 ≤ τ_0.2.1 16 j ∧ τ_0.2.1 16 j ≤ 999 := fun j => hT.2 16 j
      have A31 : ∀ j, 0 ≤ τ_0.2.1 31 j ∧ τ_0.2.1 31 j ≤ 1499 := fun j => hT.2 31 j
      have v3 : 0 ≤ τ_0.1 3 ∧ τ_0.1 3 ≤ 1000 := hT.1 3
      have v12 : 0 ≤ τ_0.1 12 ∧ τ_0.1 12 ≤ 1000 := hT.1 12
      have v13 : 0 ≤ τ_0.1 13 ∧ τ_0.1 13 ≤ 1500 := hT.1 13
      have v14 : 0 ≤ τ_0.1 14 ∧ τ_0.1 14 ≤ 1000 := hT.1 14
      have AVt : (τ_0.1 12) ≤ ca (τ_0.2.1 9) (τ_0.1 3) := i0_5
      refine h0 n1 n2 n3 τ_0 ?_
      refine ⟨fun c1 => ?_, fun c1 => ?_⟩
      ·
        exact l_36 (((τ_0.1 13) : Int).toNat + 1) _ (show ((τ_0.1 13) : Int) < ((((τ_0.1 13) : Int).toNat + 1 : Nat) : Int) from by ((first | omega | (simp only [st_s] <;> omega) | assumption | omega | fail))) hT (show τ_0.1 3 = σ.1 3 from by first | exact W3 | omega) G13 G14 G16 G31 (show n1 ≤ (σ.1 12) → n1 = (τ_0.1 12) from by (first | omega | (simp only [st_s] <;> omega) | assumption | omega | fail)) (show (τ_0.1 12) ≤ (σ.1 12) from by (first | omega | (simp only [st_s] <;> omega) | assumption | omega | fail)) (show n2 ≤ (σ.1 13) → n2 ≤ (τ_0.1 13) from by (first | omega | (simp only [st_s] <;> omega) | assumption | omega | fail)) (show (τ_0.1 13) ≤ (σ.1 13) from by (first | omega | (simp only [st_s] <;> omega) | assumption | omega | fail)) (show (τ_0.1 14) = (σ.1 14) from by (first | omega | (simp only [st_s] <;> omega) | assumption | omega | fail)) (show (τ_0.1 12) ≤ ca (τ_0.2.1 9) (τ_0.1 3) from AVt) (show n_S σ → n_S τ_0 from by (first | exact i0_6 | exact fun h => n_S_d (i36_7 h) (by omega) rfl rfl rfl rfl rfl rfl rfl (Or.inl ⟨by (rw [← e_x9, ← e_x11]; assumption), rfl⟩) | exact fun h => n_S_d (i36_7 h) (by omega) rfl rfl rfl rfl rfl rfl rfl (Or.inr ⟨by (rw [← e_x9, ← e_x11]; assumption), by (rw [← e_x9, ← e_x13, ← e_x15]; rfl)⟩) | fail)) (show (σ.1 13) ≤ n2 → (τ_0.1 13) = (σ.1 13) from by (first | omega | (simp only [st_s] <;> omega) | assumption | omega | fail))
      ·
        refine ⟨(⟨by (first | omega | (simp only [st_s] <;> omega) | assumption | omega | fail), by (first | omega | (simp only [st_s] <;> omega) | assumption | omega | fail)⟩ : rg (τ_0.1 12 - 1)), ?_⟩
        replace hT := mT_v (i := 12) hT (show 0 ≤ (τ_0.1 12 - 1) ∧ (τ_0.1 12 - 1) ≤ 1000 from by (first | omega | (simp only [st_s] <;> omega) | assumption | omega | fail))
        refine ⟨(show 0 ≤ (τ_0.1 12 - 1) ∧ (τ_0.1 12 - 1) < 1001 from by (first | omega | (simp only [st_s] <;> omega) | assumption | omega | fail)), ?_⟩
        intro x4 r_x4 e_x4
        have b_x4 : 0 ≤ x4 ∧ x4 ≤ 999 := by rw [e_x4]; exact hT.2 30 _
        have ct := ca_t0 (τ_0.2.1 9) x4 (τ_0.1 3) 0 (by omega) (by omega)
        refine ⟨(show 0 ≤ x4 ∧ x4 < 1001 from by (first | omega | (simp only [st_s] <;> omega) | assumption | omega | fail)), ?_⟩
        replace hT := mT_a (k := 9) (j := x4) hT (show (0 : Int) ≤ 0 ∧ 0 ≤ 1 from by (first | omega | (simp only [st_s] <;> omega) | assumption | omega | fail))
        exact ih_0 _ (show (((τ_0.1 12 - 1)) : Int) < ((m_0 : Nat) : Int) from by ((first | omega | (simp only [st_s] <;> omega) | assumption | omega | fail))) hT (show τ_0.1 3 = σ.1 3 from by first | exact W3 | omega) G13 G14 G16 G31 (show n1 ≤ (σ.1 12) → n1 ≤ ((τ_0.1 12 - 1)) from by (first | omega | (simp only [st_s] <;> omega) | assumption | omega | fail)) (show ((τ_0.1 12 - 1)) ≤ (σ.1 12) from by (first | omega | (simp only [st_s] <;> omega) | assumption | omega | fail)) (show (τ_0.1 13) = (σ.1 13) from by (first | omega | (simp only [st_s] <;> omega) | assumption | omega | fail)) (show (τ_0.1 14) = (σ.1 14) from by (first | omega | (simp only [st_s] <;> omega) | assumption | omega | fail)) (show ((τ_0.1 12 - 1)) ≤ ca ((st (τ_0.2.1 9) x4 0)) (τ_0.1 3) from by (first | omega | (simp only [st_s] <;> omega) | assumption | omega | fail)) (show n_S σ → n_S (s_a (s_v τ_0 12 (τ_0.1 12 - 1)) 9 x4 0) from by (first | exact i0_6 | exact fun h => h | fail))
  exact l_0 (((σ.1 12) : Int).toNat + 1) _ (show ((σ.1 12) : Int) < ((((σ.1 12) : Int).toNat + 1 : Nat) : Int) from by ((first | omega | (simp only [st_s] <;> omega) | assumption | omega | fail))) hT (show σ.1 3 = σ.1 3 from by first | exact W3 | omega) G13 G14 G16 G31 (show n1 ≤ (σ.1 12) → n1 ≤ (σ.1 12) from by (first | omega | (simp only [st_s] <;> omega) | assumption | omega | fail)) (show (σ.1 12) ≤ (σ.1 12) from by (first | omega | (simp only [st_s] <;> omega) | assumption | omega | fail)) (show (σ.1 13) = (σ.1 13) from by (first | omega | (simp only [st_s] <;> omega) | assumption | omega | fail)) (show (σ.1 14) = (σ.1 14) from by (first | omega | (simp only [st_s] <;> omega) | assumption | omega | fail)) (show (σ.1 12) ≤ ca (σ.2.1 9) (σ.1 3) from AVt) (show n_S σ → n_S σ from by (first | exact i0_6 | exact fun h => h | fail))
set_option maxHeartbeats 1000000 in
theorem K3_X13_readScope {n1 : Int} {σ : S0} (hT : m_T σ) (p1 : 0 ≤ n1) (p2 : n1 ≤ 1) (p3 : (σ.1 17) + (σ.1 18) ≤ (σ.1 0)) (p4 : (σ.1 12) ≤ ca (σ.2.1 9) (σ.1 3)) : W_X13_readScope n1 σ (fun (τ : S0) => (m_T τ) ∧ (¬ (σ.1 20) = 0 → (τ.1 20) = (σ.1 20)) ∧ ((τ.1 12) ≤ ca (τ.2.1 9) (τ.1 3)) ∧ ((τ.1 13) ≤ (σ.1 13)) ∧ (n_S σ → n_S τ) ∧ (n_hk σ τ)) := by
  have A9 : ∀ j, 0 ≤ σ.2.1 9 j ∧ σ.2.1 9 j ≤ 1 := fun j => hT.2 9 j
  have A31 : ∀ j, 0 ≤ σ.2.1 31 j ∧ σ.2.1 31 j ≤ 1499 := fun j => hT.2 31 j
  have A35 : ∀ j, 0 ≤ σ.2.1 35 j ∧ σ.2.1 35 j ≤ 1500 := fun j => hT.2 35 j
  have v0 : 0 ≤ σ.1 0 ∧ σ.1 0 ≤ 60000 := hT.1 0
  have v3 : 0 ≤ σ.1 3 ∧ σ.1 3 ≤ 1000 := hT.1 3
  have v12 : 0 ≤ σ.1 12 ∧ σ.1 12 ≤ 1000 := hT.1 12
  have v13 : 0 ≤ σ.1 13 ∧ σ.1 13 ≤ 1500 := hT.1 13
  have v14 : 0 ≤ σ.1 14 ∧ σ.1 14 ≤ 1000 := hT.1 14
  have v15 : 0 ≤ σ.1 15 ∧ σ.1 15 ≤ 50 := hT.1 15
  have v17 : 0 ≤ σ.1 17 ∧ σ.1 17 ≤ 60000 := hT.1 17
  have v18 : 0 ≤ σ.1 18 ∧ σ.1 18 ≤ 60000 := hT.1 18
  have v20 : 0 ≤ σ.1 20 ∧ σ.1 20 ≤ 19 := hT.1 20
  have W0 : σ.1 0 = σ.1 0 := rfl
  have W3 : σ.1 3 = σ.1 3 := rfl
  have W17 : σ.1 17 = σ.1 17 := rfl
  have W18 : σ.1 18 = σ.1 18 := rfl
  have G31 : σ.2.1 31 = σ.2.1 31 := rfl
  intro P21 h21
  have AVt : (σ.1 12) ≤ ca (σ.2.1 9) (σ.1 3) := p4
  have AVt_0 := AVt
  refine ⟨fun c1 => ?_, fun c1 => ?_⟩
  ·
    refine h21 _ _ ?_
    refine ⟨fun c6 => ?_, fun c6 => ?_⟩
    ·
      refine ⟨fun c7 => ?_, fun c7 => ?_⟩
      ·
        refine ⟨(⟨by (first | omega | (simp only [st_s] <;> omega) | assumption | omega | fail), by (first | omega | (simp only [st_s] <;> omega) | assumption | omega | fail)⟩ : rg (σ.1 15 - 1)), ?_⟩
        replace hT := mT_v (i := 15) hT (show 0 ≤ (σ.1 15 - 1) ∧ (σ.1 15 - 1) ≤ 50 from by (first | omega | (simp only [st_s] <;> omega) | assumption | omega | fail))
        refine ⟨(show 0 ≤ (σ.1 15 - 1) ∧ (σ.1 15 - 1) < 51 from by (first | omega | (simp only [st_s] <;> omega) | assumption | omega | fail)), ?_⟩
        intro x10 r_x10 e_x10
        have b_x10 : 0 ≤ x10 ∧ x10 ≤ 1000 := by rw [e_x10]; exact hT.2 34 _
        intro x11 r_x11 e_x11
        have b_x11 : 0 ≤ x11 ∧ x11 ≤ 1500 := by rw [e_x11]; exact hT.2 35 _
        intro x12 r_x12 e_x12
        have b_x12 : 0 ≤ x12 ∧ x12 ≤ 1000 := by rw [e_x12]; exact hT.2 36 _
        refine ⟨_, K3_X13_dropTo hT (show 0 ≤ x10 from by (first | omega | (simp only [st_s] <;> omega) | assumption | omega | fail)) (show 0 ≤ x11 from by (first | omega | (simp only [st_s] <;> omega) | assumption | omega | fail)) (show 0 ≤ x12 from by (first | omega | (simp only [st_s] <;> omega) | assumption | omega | fail)) (show (σ.1 12) ≤ ca (σ.2.1 9) (σ.1 3) from AVt), ?_⟩
        intro τ15 hn_τ15 hf_τ15 hq
        obtain ⟨hT, q13_1, q13_2, q13_3, q13_4, q13_5, q13_6, q13_7, q13_8, q13_9⟩ := hq
        replace q13_1 : x10 ≤ (σ.1 12) → (τ15.1 12) = x10 := q13_1
        replace q13_2 : x11 ≤ (σ.1 13) → (τ15.1 13) = x11 := q13_2
        replace q13_3 : x12 ≤ (σ.1 14) → (τ15.1 14) = x12 := q13_3
        replace q13_4 : (τ15.1 12) ≤ (σ.1 12) := q13_4
        replace q13_5 : (τ15.1 13) ≤ (σ.1 13) := q13_5
        replace q13_6 : (τ15.1 14) ≤ (σ.1 14) := q13_6
        replace q13_7 : (τ15.1 12) ≤ ca (τ15.2.1 9) (τ15.1 3) := q13_7
        replace q13_8 : n_S (s_v σ 15 (σ.1 15 - 1)) → n_S τ15 := q13_8
        replace q13_9 : (σ.1 13) ≤ x11 → (τ15.1 13) = (σ.1 13) := q13_9
        have w0_τ15 : τ15.1 0 = σ.1 0 := hf_τ15.1 0 (by decide)
        have w3_τ15 : τ15.1 3 = σ.1 3 := hf_τ15.1 3 (by decide)
        have w15_τ15 : τ15.1 15 = (σ.1 15 - 1) := hf_τ15.1 15 (by decide)
        have w17_τ15 : τ15.1 17 = σ.1 17 := hf_τ15.1 17 (by decide)
        have w18_τ15 : τ15.1 18 = σ.1 18 := hf_τ15.1 18 (by decide)
        have w20_τ15 : τ15.1 20 = σ.1 20 := hf_τ15.1 20 (by decide)
        have g31_τ15 : τ15.2.1 31 = σ.2.1 31 := hf_τ15.2.1 31 (by decide)
        have g35_τ15 : τ15.2.1 35 = σ.2.1 35 := hf_τ15.2.1 35 (by decide)
        first | (have ca_τ15 := congr (congrArg ca g9_τ15) w3_τ15) | skip
        have W0 : τ15.1 0 = σ.1 0 := by first | exact w0_τ15.trans W0 | omega
        have W3 : τ15.1 3 = σ.1 3 := by first | exact w3_τ15.trans W3 | omega
        have W17 : τ15.1 17 = σ.1 17 := by first | exact w17_τ15.trans W17 | omega
        have W18 : τ15.1 18 = σ.1 18 := by first | exact w18_τ15.trans W18 | omega
        have G31 : τ15.2.1 31 = σ.2.1 31 := (g31_τ15).trans G31
        have AVt : (τ15.1 12) ≤ ca (τ15.2.1 9) (τ15.1 3) := q13_7
        have A9 : ∀ j, 0 ≤ τ15.2.1 9 j ∧ τ15.2.1 9 j ≤ 1 := fun j => hT.2 9 j
        have A31 : ∀ j, 0 ≤ τ15.2.1 31 j ∧ τ15.2.1 31 j ≤ 1499 := fun j => hT.2 31 j
        have A35 : ∀ j, 0 ≤ τ15.2.1 35 j ∧ τ15.2.1 35 j ≤ 1500 := fun j => hT.2 35 j
        have v0 : 0 ≤ τ15.1 0 ∧ τ15.1 0 ≤ 60000 := hT.1 0
        have v3 : 0 ≤ τ15.1 3 ∧ τ15.1 3 ≤ 1000 := hT.1 3
        have v12 : 0 ≤ τ15.1 12 ∧ τ15.1 12 ≤ 1000 := hT.1 12
        have v13 : 0 ≤ τ15.1 13 ∧ τ15.1 13 ≤ 1500 := hT.1 13
        have v14 : 0 ≤ τ15.1 14 ∧ τ15.1 14 ≤ 1000 := hT.1 14
        have v15 : 0 ≤ τ15.1 15 ∧ τ15.1 15 ≤ 50 := hT.1 15
        have v17 : 0 ≤ τ15.1 17 ∧ τ15.1 17 ≤ 60000 := hT.1 17
        have v18 : 0 ≤ τ15.1 18 ∧ τ15.1 18 ≤ 60000 := hT.1 18
        have v20 : 0 ≤ τ15.1 20 ∧ τ15.1 20 ≤ 19 := hT.1 20
        exact ⟨hT, (show ¬ (σ.1 20) = 0 → (τ15.1 20) = (σ.1 20) from by (first | omega | (simp only [st_s] <;> omega) | assumption | omega | fail)), (show (τ15.1 12) ≤ ca (τ15.2.1 9) (τ15.1 3) from AVt), (show (τ15.1 13) ≤ (σ.1 13) from by (first | omega | (simp only [st_s] <;> omega) | assumption | omega | fail)), (show n_S σ → n_S τ15 from by (first | exact fun h => n_S_h h hf_τ5 rfl rfl | exact fun h => n_S_h h hf_τ18 rfl rfl | exact q13_8 | exact fun h => h | fail)), (show n_hk σ τ15 from by (first | exact n_hk_h hf_τ5 rfl rfl | exact n_hk_h hf_τ18 rfl rfl | exact n_hk_c (by omega) (by (rw [← e_x11]; omega)) (by omega) g31_τ15 g35_τ15 | exact n_hk_o rfl rfl rfl rfl | fail))⟩
      ·
        refine ⟨_, K_X13_failHere hT (show 0 ≤ (4 : Int) from by (first | omega | (simp only [st_s] <;> omega) | assumption | omega | fail)) (show (4 : Int) ≤ 19 from by (first | omega | (simp only [st_s] <;> omega) | assumption | omega | fail)), ?_⟩
        intro τ18 hn_τ18 hf_τ18 hq
        obtain ⟨hT, q16_1, q16_2⟩ := hq
        replace q16_1 : ¬ (σ.1 20) = 0 → (τ18.1 20) = (σ.1 20) := q16_1
        replace q16_2 : (σ.1 20) = 0 → (τ18.1 20) = (4 : Int) := q16_2
        have w0_τ18 : τ18.1 0 = σ.1 0 := hf_τ18.1 0 (by decide)
        have w3_τ18 : τ18.1 3 = σ.1 3 := hf_τ18.1 3 (by decide)
        have w12_τ18 : τ18.1 12 = σ.1 12 := hf_τ18.1 12 (by decide)
        have w13_τ18 : τ18.1 13 = σ.1 13 := hf_τ18.1 13 (by decide)
        have w14_τ18 : τ18.1 14 = σ.1 14 := hf_τ18.1 14 (by decide)
        have w15_τ18 : τ18.1 15 = σ.1 15 := hf_τ18.1 15 (by decide)
        have w17_τ18 : τ18.1 17 = σ.1 17 := hf_τ18.1 17 (by decide)
        have w18_τ18 : τ18.1 18 = σ.1 18 := hf_τ18.1 18 (by decide)
        have g9_τ18 : τ18.2.1 9 = σ.2.1 9 := hf_τ18.2.1 9 (by decide)
        have g31_τ18 : τ18.2.1 31 = σ.2.1 31 := hf_τ18.2.1 31 (by decide)
        have g35_τ18 : τ18.2.1 35 = σ.2.1 35 := hf_τ18.2.1 35 (by decide)
        first | (have ca_τ18 := congr (congrArg ca g9_τ18) w3_τ18) | skip
        have W0 : τ18.1 0 = σ.1 0 := by first | exact w0_τ18.trans W0 | omega
        have W3 : τ18.1 3 = σ.1 3 := by first | exact w3_τ18.trans W3 | omega
        have W17 : τ18.1 17 = σ.1 17 := by first | exact w17_τ18.trans W17 | omega
        have W18 : τ18.1 18 = σ.1 18 := by first | exact w18_τ18.trans W18 | omega
        have G31 : τ18.2.1 31 = σ.2.1 31 := (g31_τ18).trans G31
        have AVt : (τ18.1 12) ≤ ca (τ18.2.1 9) (τ18.1 3) := by rw [show ((τ18.1 12) ≤ ca (τ18.2.1 9) (τ18.1 3)) = ((σ.1 12) ≤ ca (σ.2.1 9) (σ.1 3)) from by rw [w3_τ18, w12_τ18, g9_τ18]]; exact AVt
        have A9 : ∀ j, 0 ≤ τ18.2.1 9 j ∧ τ18.2.1 9 j ≤ 1 := fun j => hT.2 9 j
        have A31 : ∀ j, 0 ≤ τ18.2.1 31 j ∧ τ18.2.1 31 j ≤ 1499 := fun j => hT.2 31 j
        have A35 : ∀ j, 0 ≤ τ18.2.1 35 j ∧ τ18.2.1 35 j ≤ 1500 := fun j => hT.2 35 j
        have v0 : 0 ≤ τ18.1 0 ∧ τ18.1 0 ≤ 60000 := hT.1 0
        have v3 : 0 ≤ τ18.1 3 ∧ τ18.1 3 ≤ 1000 := hT.1 3
        have v12 : 0 ≤ τ18.1 12 ∧ τ18.1 12 ≤ 1000 := hT.1 12
        have v13 : 0 ≤ τ18.1 13 ∧ τ18.1 13 ≤ 1500 := hT.1 13
        have v14 : 0 ≤ τ18.1 14 ∧ τ18.1 14 ≤ 1000 := hT.1 14
        have v15 : 0 ≤ τ18.1 15 ∧ τ18.1 15 ≤ 50 := hT.1 15
        have v17 : 0 ≤ τ18.1 17 ∧ τ18.1 17 ≤ 60000 := hT.1 17
        have v18 : 0 ≤ τ18.1 18 ∧ τ18.1 18 ≤ 60000 := hT.1 18
        have v20 : 0 ≤ τ18.1 20 ∧ τ18.1 20 ≤ 19 := hT.1 20
        exact ⟨hT, (show ¬ (σ.1 20) = 0 → (τ18.1 20) = (σ.1 20) from by (first | omega | (simp only [st_s] <;> omega) | assumption | omega | fail)), (show (τ18.1 12) ≤ ca (τ18.2.1 9) (τ18.1 3) from AVt), (show (τ18.1 13) ≤ (σ.1 13) from by (first | omega | (simp only [st_s] <;> omega) | assumption | omega | fail)), (show n_S σ → n_S τ18 from by (first | exact fun h => n_S_h h hf_τ5 rfl rfl | exact fun h => n_S_h h hf_τ18 rfl rfl | exact q13_8 | exact fun h => h | fail)), (show n_hk σ τ18 from by (first | exact n_hk_h hf_τ5 rfl rfl | exact n_hk_h hf_τ18 rfl rfl | exact n_hk_c (by omega) (by (rw [← e_x11]; omega)) (by omega) g31_τ15 g35_τ15 | exact n_hk_o rfl rfl rfl rfl | fail))⟩
    ·
      refine ⟨(show 0 ≤ σ.1 15 ∧ σ.1 15 < 51 from by (first | omega | (simp only [st_s] <;> omega) | assumption | omega | fail)), ?_⟩
      replace hT := mT_a (k := 34) (j := (σ.1 15)) hT (show (0 : Int) ≤ (σ.1 12) ∧ (σ.1 12) ≤ 1000 from by (first | omega | (simp only [st_s] <;> omega) | assumption | omega | fail))
      replace hT := mT_a (k := 35) (j := (σ.1 15)) hT (show (0 : Int) ≤ (σ.1 13) ∧ (σ.1 13) ≤ 1500 from by (first | omega | (simp only [st_s] <;> omega) | assumption | omega | fail))
      replace hT := mT_a (k := 36) (j := (σ.1 15)) hT (show (0 : Int) ≤ (σ.1 14) ∧ (σ.1 14) ≤ 1000 from by (first | omega | (simp only [st_s] <;> omega) | assumption | omega | fail))
      refine ⟨(⟨by (first | omega | (simp only [st_s] <;> omega) | assumption | omega | fail), by (first | omega | (simp only [st_s] <;> omega) | assumption | omega | fail)⟩ : rg (σ.1 15 + 1)), ?_⟩
      replace hT := mT_v (i := 15) hT (show 0 ≤ (σ.1 15 + 1) ∧ (σ.1 15 + 1) ≤ 50 from by (first | omega | (simp only [st_s] <;> omega) | assumption | omega | fail))
      exact ⟨hT, (show ¬ (σ.1 20) = 0 → (σ.1 20) = (σ.1 20) from by (first | omega | (simp only [st_s] <;> omega) | assumption | omega | fail)), (show (σ.1 12) ≤ ca (σ.2.1 9) (σ.1 3) from AVt), (show (σ.1 13) ≤ (σ.1 13) from by (first | omega | (simp only [st_s] <;> omega) | assumption | omega | fail)), (show n_S σ → n_S (s_v (s_a (s_a (s_a σ 34 (σ.1 15) (σ.1 12)) 35 (σ.1 15) (σ.1 13)) 36 (σ.1 15) (σ.1 14)) 15 (σ.1 15 + 1)) from by (first | exact fun h => n_S_h h hf_τ5 rfl rfl | exact fun h => n_S_h h hf_τ18 rfl rfl | exact q13_8 | exact fun h => h | fail)), (show n_hk σ (s_v (s_a (s_a (s_a σ 34 (σ.1 15) (σ.1 12)) 35 (σ.1 15) (σ.1 13)) 36 (σ.1 15) (σ.1 14)) 15 (σ.1 15 + 1)) from by (first | exact n_hk_h hf_τ5 rfl rfl | exact n_hk_h hf_τ18 rfl rfl | exact n_hk_c (by omega) (by (rw [← e_x11]; omega)) (by omega) g31_τ15 g35_τ15 | exact n_hk_o rfl rfl rfl rfl | fail))⟩
  ·
    refine ⟨fun c2 => ?_, fun c2 => ?_⟩
    ·
      refine h21 _ _ ?_
      refine ⟨fun c6 => ?_, fun c6 => ?_⟩
      ·
        refine ⟨fun c7 => ?_, fun c7 => ?_⟩
        ·
          refine ⟨(⟨by (first | omega | (simp only [st_s] <;> omega) | assumption | omega | fail), by (first | omega | (simp only [st_s] <;> omega) | assumption | omega | fail)⟩ : rg (σ.1 15 - 1)), ?_⟩
          replace hT := mT_v (i := 15) hT (show 0 ≤ (σ.1 15 - 1) ∧ (σ.1 15 - 1) ≤ 50 from by (first | omega | (simp only [st_s] <;> omega) | assumption | omega | fail))
          refine ⟨(show 0 ≤ (σ.1 15 - 1) ∧ (σ.1 15 - 1) < 51 from by (first | omega | (simp only [st_s] <;> omega) | assumption | omega | fail)), ?_⟩
          intro x10 r_x10 e_x10
          have b_x10 : 0 ≤ x10 ∧ x10 ≤ 1000 := by rw [e_x10]; exact hT.2 34 _
          intro x11 r_x11 e_x11
          have b_x11 : 0 ≤ x11 ∧ x11 ≤ 1500 := by rw [e_x11]; exact hT.2 35 _
          intro x12 r_x12 e_x12
          have b_x12 : 0 ≤ x12 ∧ x12 ≤ 1000 := by rw [e_x12]; exact hT.2 36 _
          refine ⟨_, K3_X13_dropTo hT (show 0 ≤ x10 from by (first | omega | (simp only [st_s] <;> omega) | assumption | omega | fail)) (show 0 ≤ x11 from by (first | omega | (simp only [st_s] <;> omega) | assumption | omega | fail)) (show 0 ≤ x12 from by (first | omega | (simp only [st_s] <;> omega) | assumption | omega | fail)) (show (σ.1 12) ≤ ca (σ.2.1 9) (σ.1 3) from AVt), ?_⟩
          intro τ15 hn_τ15 hf_τ15 hq
          obtain ⟨hT, q13_1, q13_2, q13_3, q13_4, q13_5, q13_6, q13_7, q13_8, q13_9⟩ := hq
          replace q13_1 : x10 ≤ (σ.1 12) → (τ15.1 12) = x10 := q13_1
          replace q13_2 : x11 ≤ (σ.1 13) → (τ15.1 13) = x11 := q13_2
          replace q13_3 : x12 ≤ (σ.1 14) → (τ15.1 14) = x12 := q13_3
          replace q13_4 : (τ15.1 12) ≤ (σ.1 12) := q13_4
          replace q13_5 : (τ15.1 13) ≤ (σ.1 13) := q13_5
          replace q13_6 : (τ15.1 14) ≤ (σ.1 14) := q13_6
          replace q13_7 : (τ15.1 12) ≤ ca (τ15.2.1 9) (τ15.1 3) := q13_7
          replace q13_8 : n_S (s_v σ 15 (σ.1 15 - 1)) → n_S τ15 := q13_8
          replace q13_9 : (σ.1 13) ≤ x11 → (τ15.1 13) = (σ.1 13) := q13_9
          have w0_τ15 : τ15.1 0 = σ.1 0 := hf_τ15.1 0 (by decide)
          have w3_τ15 : τ15.1 3 = σ.1 3 := hf_τ15.1 3 (by decide)
          have w15_τ15 : τ15.1 15 = (σ.1 15 - 1) := hf_τ15.1 15 (by decide)
          have w17_τ15 : τ15.1 17 = σ.1 17 := hf_τ15.1 17 (by decide)
          have w18_τ15 : τ15.1 18 = σ.1 18 := hf_τ15.1 18 (by decide)
          have w20_τ15 : τ15.1 20 = σ.1 20 := hf_τ15.1 20 (by decide)
          have g31_τ15 : τ15.2.1 31 = σ.2.1 31 := hf_τ15.2.1 31 (by decide)
          have g35_τ15 : τ15.2.1 35 = σ.2.1 35 := hf_τ15.2.1 35 (by decide)
          first | (have ca_τ15 := congr (congrArg ca g9_τ15) w3_τ15) | skip
          have W0 : τ15.1 0 = σ.1 0 := by first | exact w0_τ15.trans W0 | omega
          have W3 : τ15.1 3 = σ.1 3 := by first | exact w3_τ15.trans W3 | omega
          have W17 : τ15.1 17 = σ.1 17 := by first | exact w17_τ15.trans W17 | omega
          have W18 : τ15.1 18 = σ.1 18 := by first | exact w18_τ15.trans W18 | omega
          have G31 : τ15.2.1 31 = σ.2.1 31 := (g31_τ15).trans G31
          have AVt : (τ15.1 12) ≤ ca (τ15.2.1 9) (τ15.1 3) := q13_7
          have A9 : ∀ j, 0 ≤ τ15.2.1 9 j ∧ τ15.2.1 9 j ≤ 1 := fun j => hT.2 9 j
          have A31 : ∀ j, 0 ≤ τ15.2.1 31 j ∧ τ15.2.1 31 j ≤ 1499 := fun j => hT.2 31 j
          have A35 : ∀ j, 0 ≤ τ15.2.1 35 j ∧ τ15.2.1 35 j ≤ 1500 := fun j => hT.2 35 j
          have v0 : 0 ≤ τ15.1 0 ∧ τ15.1 0 ≤ 60000 := hT.1 0
          have v3 : 0 ≤ τ15.1 3 ∧ τ15.1 3 ≤ 1000 := hT.1 3
          have v12 : 0 ≤ τ15.1 12 ∧ τ15.1 12 ≤ 1000 := hT.1 12
          have v13 : 0 ≤ τ15.1 13 ∧ τ15.1 13 ≤ 1500 := hT.1 13
          have v14 : 0 ≤ τ15.1 14 ∧ τ15.1 14 ≤ 1000 := hT.1 14
          have v15 : 0 ≤ τ15.1 15 ∧ τ15.1 15 ≤ 50 := hT.1 15
          have v17 : 0 ≤ τ15.1 17 ∧ τ15.1 17 ≤ 60000 := hT.1 17
          have v18 : 0 ≤ τ15.1 18 ∧ τ15.1 18 ≤ 60000 := hT.1 18
          have v20 : 0 ≤ τ15.1 20 ∧ τ15.1 20 ≤ 19 := hT.1 20
          exact ⟨hT, (show ¬ (σ.1 20) = 0 → (τ15.1 20) = (σ.1 20) from by (first | omega | (simp only [st_s] <;> omega) | assumption | omega | fail)), (show (τ15.1 12) ≤ ca (τ15.2.1 9) (τ15.1 3) from AVt), (show (τ15.1 13) ≤ (σ.1 13) from by (first | omega | (simp only [st_s] <;> omega) | assumption | omega | fail)), (show n_S σ → n_S τ15 from by (first | exact fun h => n_S_h h hf_τ5 rfl rfl | exact fun h => n_S_h h hf_τ18 rfl rfl | exact q13_8 | exact fun h => h | fail)), (show n_hk σ τ15 from by (first | exact n_hk_h hf_τ5 rfl rfl | exact n_hk_h hf_τ18 rfl rfl | exact n_hk_c (by omega) (by (rw [← e_x11]; omega)) (by omega) g31_τ15 g35_τ15 | exact n_hk_o rfl rfl rfl rfl | fail))⟩
        ·
          refine ⟨_, K_X13_failHere hT (show 0 ≤ (4 : Int) from by (first | omega | (simp only [st_s] <;> omega) | assumption | omega | fail)) (show (4 : Int) ≤ 19 from by (first | omega | (simp only [st_s] <;> omega) | assumption | omega | fail)), ?_⟩
          intro τ18 hn_τ18 hf_τ18 hq
          obtain ⟨hT, q16_1, q16_2⟩ := hq
          replace q16_1 : ¬ (σ.1 20) = 0 → (τ18.1 20) = (σ.1 20) := q16_1
          replace q16_2 : (σ.1 20) = 0 → (τ18.1 20) = (4 : Int) := q16_2
          have w0_τ18 : τ18.1 0 = σ.1 0 := hf_τ18.1 0 (by decide)
          have w3_τ18 : τ18.1 3 = σ.1 3 := hf_τ18.1 3 (by decide)
          have w12_τ18 : τ18.1 12 = σ.1 12 := hf_τ18.1 12 (by decide)
          have w13_τ18 : τ18.1 13 = σ.1 13 := hf_τ18.1 13 (by decide)
          have w14_τ18 : τ18.1 14 = σ.1 14 := hf_τ18.1 14 (by decide)
          have w15_τ18 : τ18.1 15 = σ.1 15 := hf_τ18.1 15 (by decide)
          have w17_τ18 : τ18.1 17 = σ.1 17 := hf_τ18.1 17 (by decide)
          have w18_τ18 : τ18.1 18 = σ.1 18 := hf_τ18.1 18 (by decide)
          have g9_τ18 : τ18.2.1 9 = σ.2.1 9 := hf_τ18.2.1 9 (by decide)
          have g31_τ18 : τ18.2.1 31 = σ.2.1 31 := hf_τ18.2.1 31 (by decide)
          have g35_τ18 : τ18.2.1 35 = σ.2.1 35 := hf_τ18.2.1 35 (by decide)
          first | (have ca_τ18 := congr (congrArg ca g9_τ18) w3_τ18) | skip
          have W0 : τ18.1 0 = σ.1 0 := by first | exact w0_τ18.trans W0 | omega
          have W3 : τ18.1 3 = σ.1 3 := by first | exact w3_τ18.trans W3 | omega
          have W17 : τ18.1 17 = σ.1 17 := by first | exact w17_τ18.trans W17 | omega
          have W18 : τ18.1 18 = σ.1 18 := by first | exact w18_τ18.trans W18 | omega
          have G31 : τ18.2.1 31 = σ.2.1 31 := (g31_τ18).trans G31
          have AVt : (τ18.1 12) ≤ ca (τ18.2.1 9) (τ18.1 3) := by rw [show ((τ18.1 12) ≤ ca (τ18.2.1 9) (τ18.1 3)) = ((σ.1 12) ≤ ca (σ.2.1 9) (σ.1 3)) from by rw [w3_τ18, w12_τ18, g9_τ18]]; exact AVt
          have A9 : ∀ j, 0 ≤ τ18.2.1 9 j ∧ τ18.2.1 9 j ≤ 1 := fun j => hT.2 9 j
          have A31 : ∀ j, 0 ≤ τ18.2.1 31 j ∧ τ18.2.1 31 j ≤ 1499 := fun j => hT.2 31 j
          have A35 : ∀ j, 0 ≤ τ18.2.1 35 j ∧ τ18.2.1 35 j ≤ 1500 := fun j => hT.2 35 j
          have v0 : 0 ≤ τ18.1 0 ∧ τ18.1 0 ≤ 60000 := hT.1 0
          have v3 : 0 ≤ τ18.1 3 ∧ τ18.1 3 ≤ 1000 := hT.1 3
          have v12 : 0 ≤ τ18.1 12 ∧ τ18.1 12 ≤ 1000 := hT.1 12
          have v13 : 0 ≤ τ18.1 13 ∧ τ18.1 13 ≤ 1500 := hT.1 13
          have v14 : 0 ≤ τ18.1 14 ∧ τ18.1 14 ≤ 1000 := hT.1 14
          have v15 : 0 ≤ τ18.1 15 ∧ τ18.1 15 ≤ 50 := hT.1 15
          have v17 : 0 ≤ τ18.1 17 ∧ τ18.1 17 ≤ 60000 := hT.1 17
          have v18 : 0 ≤ τ18.1 18 ∧ τ18.1 18 ≤ 60000 := hT.1 18
          have v20 : 0 ≤ τ18.1 20 ∧ τ18.1 20 ≤ 19 := hT.1 20
          exact ⟨hT, (show ¬ (σ.1 20) = 0 → (τ18.1 20) = (σ.1 20) from by (first | omega | (simp only [st_s] <;> omega) | assumption | omega | fail)), (show (τ18.1 12) ≤ ca (τ18.2.1 9) (τ18.1 3) from AVt), (show (τ18.1 13) ≤ (σ.1 13) from by (first | omega | (simp only [st_s] <;> omega) | assumption | omega | fail)), (show n_S σ → n_S τ18 from by (first | exact fun h => n_S_h h hf_τ5 rfl rfl | exact fun h => n_S_h h hf_τ18 rfl rfl | exact q13_8 | exact fun h => h | fail)), (show n_hk σ τ18 from by (first | exact n_hk_h hf_τ5 rfl rfl | exact n_hk_h hf_τ18 rfl rfl | exact n_hk_c (by omega) (by (rw [← e_x11]; omega)) (by omega) g31_τ15 g35_τ15 | exact n_hk_o rfl rfl rfl rfl | fail))⟩
      ·
        refine ⟨(show 0 ≤ σ.1 15 ∧ σ.1 15 < 51 from by (first | omega | (simp only [st_s] <;> omega) | assumption | omega | fail)), ?_⟩
        replace hT := mT_a (k := 34) (j := (σ.1 15)) hT (show (0 : Int) ≤ (σ.1 12) ∧ (σ.1 12) ≤ 1000 from by (first | omega | (simp only [st_s] <;> omega) | assumption | omega | fail))
        replace hT := mT_a (k := 35) (j := (σ.1 15)) hT (show (0 : Int) ≤ (σ.1 13) ∧ (σ.1 13) ≤ 1500 from by (first | omega | (simp only [st_s] <;> omega) | assumption | omega | fail))
        replace hT := mT_a (k := 36) (j := (σ.1 15)) hT (show (0 : Int) ≤ (σ.1 14) ∧ (σ.1 14) ≤ 1000 from by (first | omega | (simp only [st_s] <;> omega) | assumption | omega | fail))
        refine ⟨(⟨by (first | omega | (simp only [st_s] <;> omega) | assumption | omega | fail), by (first | omega | (simp only [st_s] <;> omega) | assumption | omega | fail)⟩ : rg (σ.1 15 + 1)), ?_⟩
        replace hT := mT_v (i := 15) hT (show 0 ≤ (σ.1 15 + 1) ∧ (σ.1 15 + 1) ≤ 50 from by (first | omega | (simp only [st_s] <;> omega) | assumption | omega | fail))
        exact ⟨hT, (show ¬ (σ.1 20) = 0 → (σ.1 20) = (σ.1 20) from by (first | omega | (simp only [st_s] <;> omega) | assumption | omega | fail)), (show (σ.1 12) ≤ ca (σ.2.1 9) (σ.1 3) from AVt), (show (σ.1 13) ≤ (σ.1 13) from by (first | omega | (simp only [st_s] <;> omega) | assumption | omega | fail)), (show n_S σ → n_S (s_v (s_a (s_a (s_a σ 34 (σ.1 15) (σ.1 12)) 35 (σ.1 15) (σ.1 13)) 36 (σ.1 15) (σ.1 14)) 15 (σ.1 15 + 1)) from by (first | exact fun h => n_S_h h hf_τ5 rfl rfl | exact fun h => n_S_h h hf_τ18 rfl rfl | exact q13_8 | exact fun h => h | fail)), (show n_hk σ (s_v (s_a (s_a (s_a σ 34 (σ.1 15) (σ.1 12)) 35 (σ.1 15) (σ.1 13)) 36 (σ.1 15) (σ.1 14)) 15 (σ.1 15 + 1)) from by (first | exact n_hk_h hf_τ5 rfl rfl | exact n_hk_h hf_τ18 rfl rfl | exact n_hk_c (by omega) (by (rw [← e_x11]; omega)) (by omega) g31_τ15 g35_τ15 | exact n_hk_o rfl rfl rfl rfl | fail))⟩
    ·
      refine ⟨_, K_X13_failHere hT (show 0 ≤ (5 : Int) from by (first | omega | (simp only [st_s] <;> omega) | assumption | omega | fail)) (show (5 : Int) ≤ 19 from by (first | omega | (simp only [st_s] <;> omega) | assumption | omega | fail)), ?_⟩
      intro τ5 hn_τ5 hf_τ5 hq
      obtain ⟨hT, q3_1, q3_2⟩ := hq
      replace q3_1 : ¬ (σ.1 20) = 0 → (τ5.1 20) = (σ.1 20) := q3_1
      replace q3_2 : (σ.1 20) = 0 → (τ5.1 20) = (5 : Int) := q3_2
      have w0_τ5 : τ5.1 0 = σ.1 0 := hf_τ5.1 0 (by decide)
      have w3_τ5 : τ5.1 3 = σ.1 3 := hf_τ5.1 3 (by decide)
      have w12_τ5 : τ5.1 12 = σ.1 12 := hf_τ5.1 12 (by decide)
      have w13_τ5 : τ5.1 13 = σ.1 13 := hf_τ5.1 13 (by decide)
      have w14_τ5 : τ5.1 14 = σ.1 14 := hf_τ5.1 14 (by decide)
      have w15_τ5 : τ5.1 15 = σ.1 15 := hf_τ5.1 15 (by decide)
      have w17_τ5 : τ5.1 17 = σ.1 17 := hf_τ5.1 17 (by decide)
      have w18_τ5 : τ5.1 18 = σ.1 18 := hf_τ5.1 18 (by decide)
      have g9_τ5 : τ5.2.1 9 = σ.2.1 9 := hf_τ5.2.1 9 (by decide)
      have g31_τ5 : τ5.2.1 31 = σ.2.1 31 := hf_τ5.2.1 31 (by decide)
      have g35_τ5 : τ5.2.1 35 = σ.2.1 35 := hf_τ5.2.1 35 (by decide)
      first | (have ca_τ5 := congr (congrArg ca g9_τ5) w3_τ5) | skip
      have W0 : τ5.1 0 = σ.1 0 := by first | exact w0_τ5.trans W0 | omega
      have W3 : τ5.1 3 = σ.1 3 := by first | exact w3_τ5.trans W3 | omega
      have W17 : τ5.1 17 = σ.1 17 := by first | exact w17_τ5.trans W17 | omega
      have W18 : τ5.1 18 = σ.1 18 := by first | exact w18_τ5.trans W18 | omega
      have G31 : τ5.2.1 31 = σ.2.1 31 := (g31_τ5).trans G31
      have AVt : (τ5.1 12) ≤ ca (τ5.2.1 9) (τ5.1 3) := by rw [show ((τ5.1 12) ≤ ca (τ5.2.1 9) (τ5.1 3)) = ((σ.1 12) ≤ ca (σ.2.1 9) (σ.1 3)) from by rw [w3_τ5, w12_τ5, g9_τ5]]; exact AVt
      have A9 : ∀ j, 0 ≤ τ5.2.1 9 j ∧ τ5.2.1 9 j ≤ 1 := fun j => hT.2 9 j
      have A31 : ∀ j, 0 ≤ τ5.2.1 31 j ∧ τ5.2.1 31 j ≤ 1499 := fun j => hT.2 31 j
      have A35 : ∀ j, 0 ≤ τ5.2.1 35 j ∧ τ5.2.1 35 j ≤ 1500 := fun j => hT.2 35 j
      have v0 : 0 ≤ τ5.1 0 ∧ τ5.1 0 ≤ 60000 := hT.1 0
      have v3 : 0 ≤ τ5.1 3 ∧ τ5.1 3 ≤ 1000 := hT.1 3
      have v12 : 0 ≤ τ5.1 12 ∧ τ5.1 12 ≤ 1000 := hT.1 12
      have v13 : 0 ≤ τ5.1 13 ∧ τ5.1 13 ≤ 1500 := hT.1 13
      have v14 : 0 ≤ τ5.1 14 ∧ τ5.1 14 ≤ 1000 := hT.1 14
      have v15 : 0 ≤ τ5.1 15 ∧ τ5.1 15 ≤ 50 := hT.1 15
      have v17 : 0 ≤ τ5.1 17 ∧ τ5.1 17 ≤ 60000 := hT.1 17
      have v18 : 0 ≤ τ5.1 18 ∧ τ5.1 18 ≤ 60000 := hT.1 18
      have v20 : 0 ≤ τ5.1 20 ∧ τ5.1 20 ≤ 19 := hT.1 20
      exact ⟨hT, (show ¬ (σ.1 20) = 0 → (τ5.1 20) = (σ.1 20) from by (first | omega | (simp only [st_s] <;> omega) | assumption | omega | fail)), (show (τ5.1 12) ≤ ca (τ5.2.1 9) (τ5.1 3) from AVt), (show (τ5.1 13) ≤ (σ.1 13) from by (first | omega | (simp only [st_s] <;> omega) | assumption | omega | fail)), (show n_S σ → n_S τ5 from by (first | exact fun h => n_S_h h hf_τ5 rfl rfl | exact fun h => n_S_h h hf_τ18 rfl rfl | exact q13_8 | exact fun h => h | fail)), (show n_hk σ τ5 from by (first | exact n_hk_h hf_τ5 rfl rfl | exact n_hk_h hf_τ18 rfl rfl | exact n_hk_c (by omega) (by (rw [← e_x11]; omega)) (by omega) g31_τ15 g35_τ15 | exact n_hk_o rfl rfl rfl rfl | fail))⟩
set_option maxHeartbeats 4000000 in
theorem K3_X13_readStatement {σ : S0} (hT : m_T σ) (p1 : (σ.1 17) + (σ.1 18) ≤ (σ.1 0)) (p2 : (σ.1 16) ≤ (σ.1 0)) (p3 : oc (σ.2.1 6) ≤ (σ.1 3)) (p4 : oc (σ.2.1 7) ≤ (σ.1 5)) (p5 : (σ.1 12) ≤ ca (σ.2.1 9) (σ.1 3)) (p6 : j_l2 (σ.2.1 6) (σ.1 3)) (p7 : ca (σ.2.1 12) ((σ.1 3)) ≤ (σ.1 4)) (p8 : J_pa (σ.2.1 21) (σ.2.1 22)) (p9 : (σ.1 7) ≤ 60 * (σ.1 5)) (p10 : (σ.1 13) ≤ (σ.1 5)) (p11 : n_tb (σ.1 3) (σ.2.1 1) (σ.2.1 2) (σ.2.1 3) (σ.2.1 6)) (p12 : n_nm (σ.1 3) (σ.1 2) (σ.2.1 2) (σ.2.1 3)) (p13 : n_tu (σ.1 3) (σ.1 10) (σ.1 11) (σ.2.1 1) (σ.2.1 2) (σ.2.1 3)) (p14 : n_S σ) (p15 : n_J σ) (p16 : m_J σ) : W_X13_readStatement σ (fun (τ : S0) => (m_T τ) ∧ ((τ.1 16) ≤ (τ.1 0)) ∧ ((τ.1 17) + (τ.1 18) ≤ (τ.1 0)) ∧ (¬ (σ.1 20) = 0 → (τ.1 20) = (σ.1 20)) ∧ (oc (τ.2.1 6) ≤ (τ.1 3)) ∧ ((τ.1 12) ≤ ca (τ.2.1 9) (τ.1 3)) ∧ (j_l2 (τ.2.1 6) (τ.1 3)) ∧ (ca (τ.2.1 12) ((τ.1 3)) ≤ (τ.1 4)) ∧ (J_pa (τ.2.1 21) (τ.2.1 22)) ∧ ((τ.1 13) ≤ (τ.1 5)) ∧ ((τ.1 20) = 0 → oc (τ.2.1 7) ≤ (τ.1 5)) ∧ ((τ.1 20) = 0 → (τ.1 7) ≤ 60 * (τ.1 5)) ∧ (j_eq ((σ.1 9)) (σ.2.1 28) (τ.2.1 28)) ∧ ((τ.1 20) = 0 → m_J σ → m_J τ) ∧ ((σ.1 5) ≤ (τ.1 5)) ∧ ((σ.1 16) ≤ (τ.1 16)) ∧ (m_ag σ τ) ∧ ((τ.1 20) = 0 → n_J τ ∧ n_S τ) ∧ (n_rl σ τ) ∧ (n_hk σ τ) ∧ (n_rc σ τ) ∧ (n_tb (τ.1 3) (τ.2.1 1) (τ.2.1 2) (τ.2.1 3) (τ.2.1 6)) ∧ (n_nm (τ.1 3) (τ.1 2) (τ.2.1 2) (τ.2.1 3)) ∧ (n_tu (τ.1 3) (τ.1 10) (τ.1 11) (τ.2.1 1) (τ.2.1 2) (τ.2.1 3))) := by
  have A1 : ∀ j, 0 ≤ σ.2.1 1 j ∧ σ.2.1 1 j ≤ 255 := fun j => hT.2 1 j
  have A2 : ∀ j, 0 ≤ σ.2.1 2 j ∧ σ.2.1 2 j ≤ 30000 := fun j => hT.2 2 j
  have A3 : ∀ j, 0 ≤ σ.2.1 3 j ∧ σ.2.1 3 j ≤ 60 := fun j => hT.2 3 j
  have A6 : ∀ j, (-1) ≤ σ.2.1 6 j ∧ σ.2.1 6 j ≤ 999 := fun j => hT.2 6 j
  have A7 : ∀ j, (-1) ≤ σ.2.1 7 j ∧ σ.2.1 7 j ≤ 1499 := fun j => hT.2 7 j
  have A9 : ∀ j, 0 ≤ σ.2.1 9 j ∧ σ.2.1 9 j ≤ 1 := fun j => hT.2 9 j
  have A10 : ∀ j, (-1) ≤ σ.2.1 10 j ∧ σ.2.1 10 j ≤ 999 := fun j => hT.2 10 j
  have A11 : ∀ j, (-1) ≤ σ.2.1 11 j ∧ σ.2.1 11 j ≤ 1499 := fun j => hT.2 11 j
  have A12 : ∀ j, 0 ≤ σ.2.1 12 j ∧ σ.2.1 12 j ≤ 1 := fun j => hT.2 12 j
  have A13 : ∀ j, 0 ≤ σ.2.1 13 j ∧ σ.2.1 13 j ≤ 4 := fun j => hT.2 13 j
  have A21 : ∀ j, 0 ≤ σ.2.1 21 j ∧ σ.2.1 21 j ≤ 20000 := fun j => hT.2 21 j
  have A22 : ∀ j, 0 ≤ σ.2.1 22 j ∧ σ.2.1 22 j ≤ 20000 := fun j => hT.2 22 j
  have A28 : ∀ j, 0 ≤ σ.2.1 28 j ∧ σ.2.1 28 j ≤ 1 := fun j => hT.2 28 j
  have A31 : ∀ j, 0 ≤ σ.2.1 31 j ∧ σ.2.1 31 j ≤ 1499 := fun j => hT.2 31 j
  have A35 : ∀ j, 0 ≤ σ.2.1 35 j ∧ σ.2.1 35 j ≤ 1500 := fun j => hT.2 35 j
  have v0 : 0 ≤ σ.1 0 ∧ σ.1 0 ≤ 60000 := hT.1 0
  have v2 : 0 ≤ σ.1 2 ∧ σ.1 2 ≤ 30000 := hT.1 2
  have v3 : 0 ≤ σ.1 3 ∧ σ.1 3 ≤ 1000 := hT.1 3
  have v4 : 0 ≤ σ.1 4 ∧ σ.1 4 ≤ 100 := hT.1 4
  have v5 : 0 ≤ σ.1 5 ∧ σ.1 5 ≤ 1500 := hT.1 5
  have v6 : 0 ≤ σ.1 6 ∧ σ.1 6 ≤ 30000 := hT.1 6
  have v7 : 0 ≤ σ.1 7 ∧ σ.1 7 ≤ 90000 := hT.1 7
  have v8 : 0 ≤ σ.1 8 ∧ σ.1 8 ≤ 20000 := hT.1 8
  have v9 : 0 ≤ σ.1 9 ∧ σ.1 9 ≤ 20000 := hT.1 9
  have v10 : (-1) ≤ σ.1 10 ∧ σ.1 10 ≤ 999 := hT.1 10
  have v11 : (-1) ≤ σ.1 11 ∧ σ.1 11 ≤ 999 := hT.1 11
  have v12 : 0 ≤ σ.1 12 ∧ σ.1 12 ≤ 1000 := hT.1 12
  have v13 : 0 ≤ σ.1 13 ∧ σ.1 13 ≤ 1500 := hT.1 13
  have v15 : 0 ≤ σ.1 15 ∧ σ.1 15 ≤ 50 := hT.1 15
  have v16 : 0 ≤ σ.1 16 ∧ σ.1 16 ≤ 60000 := hT.1 16
  have v17 : 0 ≤ σ.1 17 ∧ σ.1 17 ≤ 60000 := hT.1 17
  have v18 : 0 ≤ σ.1 18 ∧ σ.1 18 ≤ 60000 := hT.1 18
  have v19 : (-1) ≤ σ.1 19 ∧ σ.1 19 ≤ 125 := hT.1 19
  have v20 : 0 ≤ σ.1 20 ∧ σ.1 20 ≤ 19 := hT.1 20
  have W0 : σ.1 0 = σ.1 0 := rfl
  have ag : m_ag σ σ := ag_0 σ
  intro P99 P114 h99 h114
  have hT0 := hT
  have Y8 := j_eq0 (σ.1 9) (σ.2.1 28)
  have Y20 : ca (σ.2.1 12) ((σ.1 3)) ≤ (σ.1 4) := p7
  have Y1 : j_l2 (σ.2.1 6) (σ.1 3) := p6
  have PA : J_pa (σ.2.1 21) (σ.2.1 22) := p8
  have SYt : oc (σ.2.1 6) ≤ (σ.1 3) := p3
  have LAt : oc (σ.2.1 7) ≤ (σ.1 5) := p4
  have AVt : (σ.1 12) ≤ ca (σ.2.1 9) (σ.1 3) := p5
  have STt : j_l2 (σ.2.1 6) (σ.1 3) := p6
  have NTB : n_tb (σ.1 3) (σ.2.1 1) (σ.2.1 2) (σ.2.1 3) (σ.2.1 6) := p11
  have NNM : n_nm (σ.1 3) (σ.1 2) (σ.2.1 2) (σ.2.1 3) := p12
  have NTU : n_tu (σ.1 3) (σ.1 10) (σ.1 11) (σ.2.1 1) (σ.2.1 2) (σ.2.1 3) := p13
  have AVt_0 := AVt
  have LAt_0 := LAt
  have NNM_0 := NNM
  have NTB_0 := NTB
  have NTU_0 := NTU
  have PA_0 := PA
  have STt_0 := STt
  have SYt_0 := SYt
  have Y1_0 := Y1
  have Y20_0 := Y20
  have Y8_0 := Y8
  refine ⟨fun c1 => ?_, fun c1 => ?_⟩
  ·
    refine ⟨fun c2 => ?_, fun c2 => ?_⟩
    ·
      refine ⟨fun c3 => ?_, fun c3 => ?_⟩
      ·
        refine ⟨fun c4 => ?_, fun c4 => ?_⟩
        ·
          refine ⟨fun c5 => ?_, fun c5 => ?_⟩
          ·
            refine h99 _ ?_
            refine ⟨fun c26 => ?_, fun c26 => ?_⟩
            ·
              refine h114 _ _ ?_
              refine ⟨_, K3_X13_readScope hT (show 0 ≤ (0 : Int) from by (first | omega | (simp only [st_s] <;> omega) | assumption | omega | fail)) (show (0 : Int) ≤ 1 from by (first | omega | (simp only [st_s] <;> omega) | assumption | omega | fail)) (show (σ.1 17) + (σ.1 18) ≤ (σ.1 0) from by (first | omega | (simp only [st_s] <;> omega) | assumption | omega | fail)) (show (σ.1 12) ≤ ca (σ.2.1 9) (σ.1 3) from AVt), ?_⟩
              intro τ29 hn_τ29 hf_τ29 hq
              obtain ⟨hT, q27_1, q27_2, q27_3, q27_4, q27_5⟩ := hq
              replace q27_1 : ¬ (σ.1 20) = 0 → (τ29.1 20) = (σ.1 20) := q27_1
              replace q27_2 : (τ29.1 12) ≤ ca (τ29.2.1 9) (τ29.1 3) := q27_2
              replace q27_3 : (τ29.1 13) ≤ (σ.1 13) := q27_3
              replace q27_4 : n_S σ → n_S τ29 := q27_4
              replace q27_5 : n_hk σ τ29 := q27_5
              replace ag : m_ag σ τ29 := ag_r ag hf_τ29 rfl rfl
              have w0_τ29 : τ29.1 0 = σ.1 0 := hf_τ29.1 0 (by decide)
              have w2_τ29 : τ29.1 2 = σ.1 2 := hf_τ29.1 2 (by decide)
              have w3_τ29 : τ29.1 3 = σ.1 3 := hf_τ29.1 3 (by decide)
              have w4_τ29 : τ29.1 4 = σ.1 4 := hf_τ29.1 4 (by decide)
              have w5_τ29 : τ29.1 5 = σ.1 5 := hf_τ29.1 5 (by decide)
              have w6_τ29 : τ29.1 6 = σ.1 6 := hf_τ29.1 6 (by decide)
              have w7_τ29 : τ29.1 7 = σ.1 7 := hf_τ29.1 7 (by decide)
              have w8_τ29 : τ29.1 8 = σ.1 8 := hf_τ29.1 8 (by decide)
              have w9_τ29 : τ29.1 9 = σ.1 9 := hf_τ29.1 9 (by decide)
              have w10_τ29 : τ29.1 10 = σ.1 10 := hf_τ29.1 10 (by decide)
              have w11_τ29 : τ29.1 11 = σ.1 11 := hf_τ29.1 11 (by decide)
              have w16_τ29 : τ29.1 16 = σ.1 16 := hf_τ29.1 16 (by decide)
              have w17_τ29 : τ29.1 17 = σ.1 17 := hf_τ29.1 17 (by decide)
              have w18_τ29 : τ29.1 18 = σ.1 18 := hf_τ29.1 18 (by decide)
              have w19_τ29 : τ29.1 19 = σ.1 19 := hf_τ29.1 19 (by decide)
              have g1_τ29 : τ29.2.1 1 = σ.2.1 1 := hf_τ29.2.1 1 (by decide)
              have g2_τ29 : τ29.2.1 2 = σ.2.1 2 := hf_τ29.2.1 2 (by decide)
              have g3_τ29 : τ29.2.1 3 = σ.2.1 3 := hf_τ29.2.1 3 (by decide)
              have g6_τ29 : τ29.2.1 6 = σ.2.1 6 := hf_τ29.2.1 6 (by decide)
              have g7_τ29 : τ29.2.1 7 = σ.2.1 7 := hf_τ29.2.1 7 (by decide)
              have g10_τ29 : τ29.2.1 10 = σ.2.1 10 := hf_τ29.2.1 10 (by decide)
              have g12_τ29 : τ29.2.1 12 = σ.2.1 12 := hf_τ29.2.1 12 (by decide)
              have g13_τ29 : τ29.2.1 13 = σ.2.1 13 := hf_τ29.2.1 13 (by decide)
              have g21_τ29 : τ29.2.1 21 = σ.2.1 21 := hf_τ29.2.1 21 (by decide)
              have g22_τ29 : τ29.2.1 22 = σ.2.1 22 := hf_τ29.2.1 22 (by decide)
              have g28_τ29 : τ29.2.1 28 = σ.2.1 28 := hf_τ29.2.1 28 (by decide)
              have g31_τ29 : τ29.2.1 31 = σ.2.1 31 := hf_τ29.2.1 31 (by decide)
              first | (have ca_τ29 := congr (congrArg ca g9_τ29) w3_τ29) | skip
              first | (have o6_τ29 := congrArg oc g6_τ29) | skip
              first | (have o7_τ29 := congrArg oc g7_τ29) | skip
              have W0 : τ29.1 0 = σ.1 0 := by first | exact w0_τ29.trans W0 | omega
              have Y20 : ca (τ29.2.1 12) ((τ29.1 3)) ≤ (τ29.1 4) := by rw [show (ca (τ29.2.1 12) ((τ29.1 3)) ≤ (τ29.1 4)) = (ca (σ.2.1 12) ((σ.1 3)) ≤ (σ.1 4)) from by rw [w3_τ29, w4_τ29, g12_τ29]]; exact Y20
              have Y8 : j_eq ((σ.1 9)) (σ.2.1 28) (τ29.2.1 28) := by rw [show (j_eq ((σ.1 9)) (σ.2.1 28) (τ29.2.1 28)) = (j_eq ((σ.1 9)) (σ.2.1 28) (σ.2.1 28)) from by rw [g28_τ29]]; exact Y8
              have Y1 : j_l2 (τ29.2.1 6) (τ29.1 3) := by rw [show (j_l2 (τ29.2.1 6) (τ29.1 3)) = (j_l2 (σ.2.1 6) (σ.1 3)) from by rw [w3_τ29, g6_τ29]]; exact Y1
              have PA : J_pa (τ29.2.1 21) (τ29.2.1 22) := by rw [show (J_pa (τ29.2.1 21) (τ29.2.1 22)) = (J_pa (σ.2.1 21) (σ.2.1 22)) from by rw [g21_τ29, g22_τ29]]; exact PA
              have SYt : oc (τ29.2.1 6) ≤ (τ29.1 3) := by rw [show (oc (τ29.2.1 6) ≤ (τ29.1 3)) = (oc (σ.2.1 6) ≤ (σ.1 3)) from by rw [w3_τ29, g6_τ29]]; exact SYt
              have LAt : oc (τ29.2.1 7) ≤ (τ29.1 5) := by rw [show (oc (τ29.2.1 7) ≤ (τ29.1 5)) = (oc (σ.2.1 7) ≤ (σ.1 5)) from by rw [w5_τ29, g7_τ29]]; exact LAt
              have AVt : (τ29.1 12) ≤ ca (τ29.2.1 9) (τ29.1 3) := q27_2
              have STt : j_l2 (τ29.2.1 6) (τ29.1 3) := by rw [show (j_l2 (τ29.2.1 6) (τ29.1 3)) = (j_l2 (σ.2.1 6) (σ.1 3)) from by rw [w3_τ29, g6_τ29]]; exact STt
              have NTB : n_tb (τ29.1 3) (τ29.2.1 1) (τ29.2.1 2) (τ29.2.1 3) (τ29.2.1 6) := by rw [show (n_tb (τ29.1 3) (τ29.2.1 1) (τ29.2.1 2) (τ29.2.1 3) (τ29.2.1 6)) = (n_tb (σ.1 3) (σ.2.1 1) (σ.2.1 2) (σ.2.1 3) (σ.2.1 6)) from by rw [w3_τ29, g1_τ29, g2_τ29, g3_τ29, g6_τ29]]; exact NTB
              have NNM : n_nm (τ29.1 3) (τ29.1 2) (τ29.2.1 2) (τ29.2.1 3) := by rw [show (n_nm (τ29.1 3) (τ29.1 2) (τ29.2.1 2) (τ29.2.1 3)) = (n_nm (σ.1 3) (σ.1 2) (σ.2.1 2) (σ.2.1 3)) from by rw [w2_τ29, w3_τ29, g2_τ29, g3_τ29]]; exact NNM
              have NTU : n_tu (τ29.1 3) (τ29.1 10) (τ29.1 11) (τ29.2.1 1) (τ29.2.1 2) (τ29.2.1 3) := by rw [show (n_tu (τ29.1 3) (τ29.1 10) (τ29.1 11) (τ29.2.1 1) (τ29.2.1 2) (τ29.2.1 3)) = (n_tu (σ.1 3) (σ.1 10) (σ.1 11) (σ.2.1 1) (σ.2.1 2) (σ.2.1 3)) from by rw [w3_τ29, w10_τ29, w11_τ29, g1_τ29, g2_τ29, g3_τ29]]; exact NTU
              have A1 : ∀ j, 0 ≤ τ29.2.1 1 j ∧ τ29.2.1 1 j ≤ 255 := fun j => hT.2 1 j
              have A2 : ∀ j, 0 ≤ τ29.2.1 2 j ∧ τ29.2.1 2 j ≤ 30000 := fun j => hT.2 2 j
              have A3 : ∀ j, 0 ≤ τ29.2.1 3 j ∧ τ29.2.1 3 j ≤ 60 := fun j => hT.2 3 j
              have A6 : ∀ j, (-1) ≤ τ29.2.1 6 j ∧ τ29.2.1 6 j ≤ 999 := fun j => hT.2 6 j
              have A7 : ∀ j, (-1) ≤ τ29.2.1 7 j ∧ τ29.2.1 7 j ≤ 1499 := fun j => hT.2 7 j
              have A9 : ∀ j, 0 ≤ τ29.2.1 9 j ∧ τ29.2.1 9 j ≤ 1 := fun j => hT.2 9 j
              have A10 : ∀ j, (-1) ≤ τ29.2.1 10 j ∧ τ29.2.1 10 j ≤ 999 := fun j => hT.2 10 j
              have A11 : ∀ j, (-1) ≤ τ29.2.1 11 j ∧ τ29.2.1 11 j ≤ 1499 := fun j => hT.2 11 j
              have A12 : ∀ j, 0 ≤ τ29.2.1 12 j ∧ τ29.2.1 12 j ≤ 1 := fun j => hT.2 12 j
              have A13 : ∀ j, 0 ≤ τ29.2.1 13 j ∧ τ29.2.1 13 j ≤ 4 := fun j => hT.2 13 j
              have A21 : ∀ j, 0 ≤ τ29.2.1 21 j ∧ τ29.2.1 21 j ≤ 20000 := fun j => hT.2 21 j
              have A22 : ∀ j, 0 ≤ τ29.2.1 22 j ∧ τ29.2.1 22 j ≤ 20000 := fun j => hT.2 22 j
              have A28 : ∀ j, 0 ≤ τ29.2.1 28 j ∧ τ29.2.1 28 j ≤ 1 := fun j => hT.2 28 j
              have A31 : ∀ j, 0 ≤ τ29.2.1 31 j ∧ τ29.2.1 31 j ≤ 1499 := fun j => hT.2 31 j
              have A35 : ∀ j, 0 ≤ τ29.2.1 35 j ∧ τ29.2.1 35 j ≤ 1500 := fun j => hT.2 35 j
              have v0 : 0 ≤ τ29.1 0 ∧ τ29.1 0 ≤ 60000 := hT.1 0
              have v2 : 0 ≤ τ29.1 2 ∧ τ29.1 2 ≤ 30000 := hT.1 2
              have v3 : 0 ≤ τ29.1 3 ∧ τ29.1 3 ≤ 1000 := hT.1 3
              have v4 : 0 ≤ τ29.1 4 ∧ τ29.1 4 ≤ 100 := hT.1 4
              have v5 : 0 ≤ τ29.1 5 ∧ τ29.1 5 ≤ 1500 := hT.1 5
              have v6 : 0 ≤ τ29.1 6 ∧ τ29.1 6 ≤ 30000 := hT.1 6
              have v7 : 0 ≤ τ29.1 7 ∧ τ29.1 7 ≤ 90000 := hT.1 7
              have v8 : 0 ≤ τ29.1 8 ∧ τ29.1 8 ≤ 20000 := hT.1 8
              have v9 : 0 ≤ τ29.1 9 ∧ τ29.1 9 ≤ 20000 := hT.1 9
              have v10 : (-1) ≤ τ29.1 10 ∧ τ29.1 10 ≤ 999 := hT.1 10
              have v11 : (-1) ≤ τ29.1 11 ∧ τ29.1 11 ≤ 999 := hT.1 11
              have v12 : 0 ≤ τ29.1 12 ∧ τ29.1 12 ≤ 1000 := hT.1 12
              have v13 : 0 ≤ τ29.1 13 ∧ τ29.1 13 ≤ 1500 := hT.1 13
              have v15 : 0 ≤ τ29.1 15 ∧ τ29.1 15 ≤ 50 := hT.1 15
              have v16 : 0 ≤ τ29.1 16 ∧ τ29.1 16 ≤ 60000 := hT.1 16
              have v17 : 0 ≤ τ29.1 17 ∧ τ29.1 17 ≤ 60000 := hT.1 17
              have v18 : 0 ≤ τ29.1 18 ∧ τ29.1 18 ≤ 60000 := hT.1 18
              have v19 : (-1) ≤ τ29.1 19 ∧ τ29.1 19 ≤ 125 := hT.1 19
              have v20 : 0 ≤ τ29.1 20 ∧ τ29.1 20 ≤ 19 := hT.1 20
              have av3 : σ.1 3 ≤ τ29.1 3 := ag.1 3 (by decide)
              have av5 : σ.1 5 ≤ τ29.1 5 := ag.1 5 (by decide)
              have av6 : σ.1 6 ≤ τ29.1 6 := ag.1 6 (by decide)
              have av7 : σ.1 7 ≤ τ29.1 7 := ag.1 7 (by decide)
              have av8 : σ.1 8 ≤ τ29.1 8 := ag.1 8 (by decide)
              have av9 : σ.1 9 ≤ τ29.1 9 := ag.1 9 (by decide)
              exact ⟨hT, (show (τ29.1 16) ≤ (τ29.1 0) from by (first | omega | (simp only [st_s] <;> omega) | assumption | omega | fail)), (show (τ29.1 17) + (τ29.1 18) ≤ (τ29.1 0) from by (first | omega | (simp only [st_s] <;> omega) | assumption | omega | fail)), (show ¬ (σ.1 20) = 0 → (τ29.1 20) = (σ.1 20) from by (first | omega | (simp only [st_s] <;> omega) | assumption | omega | fail)), (show oc (τ29.2.1 6) ≤ (τ29.1 3) from SYt), (show (τ29.1 12) ≤ ca (τ29.2.1 9) (τ29.1 3) from AVt), (show j_l2 (τ29.2.1 6) (τ29.1 3) from Y1), (show ca (τ29.2.1 12) ((τ29.1 3)) ≤ (τ29.1 4) from Y20), (show J_pa (τ29.2.1 21) (τ29.2.1 22) from PA), (show (τ29.1 13) ≤ (τ29.1 5) from by (first | omega | (simp only [st_s] <;> omega) | assumption | omega | fail)), (show (τ29.1 20) = 0 → oc (τ29.2.1 7) ≤ (τ29.1 5) from by (first | omega | (simp only [st_s] <;> omega) | assumption | omega | fail)), (show (τ29.1 20) = 0 → (τ29.1 7) ≤ 60 * (τ29.1 5) from by (first | omega | (simp only [st_s] <;> omega) | assumption | omega | fail)), (show j_eq ((σ.1 9)) (σ.2.1 28) (τ29.2.1 28) from Y8), (show (τ29.1 20) = 0 → m_J σ → m_J τ29 from by (first | (intro hf; exfalso; omega) | (intro hf hJ; first | exact q23_12 hf hJ | exact m_J_f hJ hf_τ12 rfl rfl | exact m_J_f hJ hf_τ15 rfl rfl | exact m_J_f hJ hf_τ19 rfl rfl | exact m_J_f hJ hf_τ29 rfl rfl) | fail)), (show (σ.1 5) ≤ (τ29.1 5) from by (first | omega | (simp only [st_s] <;> omega) | assumption | omega | fail)), (show (σ.1 16) ≤ (τ29.1 16) from by (first | omega | (simp only [st_s] <;> omega) | assumption | omega | fail)), ag, (show (τ29.1 20) = 0 → n_J τ29 ∧ n_S τ29 from by (first | (intro z; exfalso; omega) | exact q23_15 | exact fun _ => ⟨Jτ15, Sτ15⟩ | exact fun _ => ⟨Jτ19, Sτ19⟩ | exact fun _ => ⟨n_J_hh p15 hf_τ12 rfl rfl, n_S_h p14 hf_τ12 rfl rfl⟩ | exact fun _ => ⟨n_J_hh p15 hf_τ29 rfl rfl, q27_4 p14⟩ | fail)), (show n_rl σ τ29 from by (first | exact q23_16 | exact q13_10 | exact q17_10 | exact n_rl_h hf_τ9 rfl rfl | exact n_rl_h hf_τ12 rfl rfl | exact n_rl_h hf_τ22 rfl rfl | exact n_rl_h hf_τ29 rfl rfl | fail)), (show n_hk σ τ29 from by (first | exact q23_17 | exact q27_5 | exact n_hk_h hf_τ9 rfl rfl | exact n_hk_h hf_τ12 rfl rfl | exact n_hk_h hf_τ22 rfl rfl | exact n_hk_h hf_τ15 rfl rfl | exact n_hk_h hf_τ19 rfl rfl | fail)), (show n_rc σ τ29 from by (first | exact q23_18 | exact q13_11 | exact q17_11 | exact n_rc_h hf_τ9 rfl rfl | exact n_rc_h hf_τ12 rfl rfl | exact n_rc_h hf_τ22 rfl rfl | exact n_rc_h hf_τ29 rfl rfl | fail)), (show n_tb (τ29.1 3) (τ29.2.1 1) (τ29.2.1 2) (τ29.2.1 3) (τ29.2.1 6) from NTB), (show n_nm (τ29.1 3) (τ29.1 2) (τ29.2.1 2) (τ29.2.1 3) from NNM), (show n_tu (τ29.1 3) (τ29.1 10) (τ29.1 11) (τ29.2.1 1) (τ29.2.1 2) (τ29.2.1 3) from NTU)⟩
            ·
              refine h114 _ _ ?_
              refine ⟨_, K3_X13_readScope hT (show 0 ≤ (1 : Int) from by (first | omega | (simp only [st_s] <;> omega) | assumption | omega | fail)) (show (1 : Int) ≤ 1 from by (first | omega | (simp only [st_s] <;> omega) | assumption | omega | fail)) (show (σ.1 17) + (σ.1 18) ≤ (σ.1 0) from by (first | omega | (simp only [st_s] <;> omega) | assumption | omega | fail)) (show (σ.1 12) ≤ ca (σ.2.1 9) (σ.1 3) from AVt), ?_⟩
              intro τ29 hn_τ29 hf_τ29 hq
              obtain ⟨hT, q27_1, q27_2, q27_3, q27_4, q27_5⟩ := hq
              replace q27_1 : ¬ (σ.1 20) = 0 → (τ29.1 20) = (σ.1 20) := q27_1
              replace q27_2 : (τ29.1 12) ≤ ca (τ29.2.1 9) (τ29.1 3) := q27_2
              replace q27_3 : (τ29.1 13) ≤ (σ.1 13) := q27_3
              replace q27_4 : n_S σ → n_S τ29 := q27_4
              replace q27_5 : n_hk σ τ29 := q27_5
              replace ag : m_ag σ τ29 := ag_r ag hf_τ29 rfl rfl
              have w0_τ29 : τ29.1 0 = σ.1 0 := hf_τ29.1 0 (by decide)
              have w2_τ29 : τ29.1 2 = σ.1 2 := hf_τ29.1 2 (by decide)
              have w3_τ29 : τ29.1 3 = σ.1 3 := hf_τ29.1 3 (by decide)
              have w4_τ29 : τ29.1 4 = σ.1 4 := hf_τ29.1 4 (by decide)
              have w5_τ29 : τ29.1 5 = σ.1 5 := hf_τ29.1 5 (by decide)
              have w6_τ29 : τ29.1 6 = σ.1 6 := hf_τ29.1 6 (by decide)
              have w7_τ29 : τ29.1 7 = σ.1 7 := hf_τ29.1 7 (by decide)
              have w8_τ29 : τ29.1 8 = σ.1 8 := hf_τ29.1 8 (by decide)
              have w9_τ29 : τ29.1 9 = σ.1 9 := hf_τ29.1 9 (by decide)
              have w10_τ29 : τ29.1 10 = σ.1 10 := hf_τ29.1 10 (by decide)
              have w11_τ29 : τ29.1 11 = σ.1 11 := hf_τ29.1 11 (by decide)
              have w16_τ29 : τ29.1 16 = σ.1 16 := hf_τ29.1 16 (by decide)
              have w17_τ29 : τ29.1 17 = σ.1 17 := hf_τ29.1 17 (by decide)
              have w18_τ29 : τ29.1 18 = σ.1 18 := hf_τ29.1 18 (by decide)
              have w19_τ29 : τ29.1 19 = σ.1 19 := hf_τ29.1 19 (by decide)
              have g1_τ29 : τ29.2.1 1 = σ.2.1 1 := hf_τ29.2.1 1 (by decide)
              have g2_τ29 : τ29.2.1 2 = σ.2.1 2 := hf_τ29.2.1 2 (by decide)
              have g3_τ29 : τ29.2.1 3 = σ.2.1 3 := hf_τ29.2.1 3 (by decide)
              have g6_τ29 : τ29.2.1 6 = σ.2.1 6 := hf_τ29.2.1 6 (by decide)
              have g7_τ29 : τ29.2.1 7 = σ.2.1 7 := hf_τ29.2.1 7 (by decide)
              have g10_τ29 : τ29.2.1 10 = σ.2.1 10 := hf_τ29.2.1 10 (by decide)
              have g12_τ29 : τ29.2.1 12 = σ.2.1 12 := hf_τ29.2.1 12 (by decide)
              have g13_τ29 : τ29.2.1 13 = σ.2.1 13 := hf_τ29.2.1 13 (by decide)
              have g21_τ29 : τ29.2.1 21 = σ.2.1 21 := hf_τ29.2.1 21 (by decide)
              have g22_τ29 : τ29.2.1 22 = σ.2.1 22 := hf_τ29.2.1 22 (by decide)
              have g28_τ29 : τ29.2.1 28 = σ.2.1 28 := hf_τ29.2.1 28 (by decide)
              have g31_τ29 : τ29.2.1 31 = σ.2.1 31 := hf_τ29.2.1 31 (by decide)
              first | (have ca_τ29 := congr (congrArg ca g9_τ29) w3_τ29) | skip
              first | (have o6_τ29 := congrArg oc g6_τ29) | skip
              first | (have o7_τ29 := congrArg oc g7_τ29) | skip
              have W0 : τ29.1 0 = σ.1 0 := by first | exact w0_τ29.trans W0 | omega
              have Y20 : ca (τ29.2.1 12) ((τ29.1 3)) ≤ (τ29.1 4) := by rw [show (ca (τ29.2.1 12) ((τ29.1 3)) ≤ (τ29.1 4)) = (ca (σ.2.1 12) ((σ.1 3)) ≤ (σ.1 4)) from by rw [w3_τ29, w4_τ29, g12_τ29]]; exact Y20
              have Y8 : j_eq ((σ.1 9)) (σ.2.1 28) (τ29.2.1 28) := by rw [show (j_eq ((σ.1 9)) (σ.2.1 28) (τ29.2.1 28)) = (j_eq ((σ.1 9)) (σ.2.1 28) (σ.2.1 28)) from by rw [g28_τ29]]; exact Y8
              have Y1 : j_l2 (τ29.2.1 6) (τ29.1 3) := by rw [show (j_l2 (τ29.2.1 6) (τ29.1 3)) = (j_l2 (σ.2.1 6) (σ.1 3)) from by rw [w3_τ29, g6_τ29]]; exact Y1
              have PA : J_pa (τ29.2.1 21) (τ29.2.1 22) := by rw [show (J_pa (τ29.2.1 21) (τ29.2.1 22)) = (J_pa (σ.2.1 21) (σ.2.1 22)) from by rw [g21_τ29, g22_τ29]]; exact PA
              have SYt : oc (τ29.2.1 6) ≤ (τ29.1 3) := by rw [show (oc (τ29.2.1 6) ≤ (τ29.1 3)) = (oc (σ.2.1 6) ≤ (σ.1 3)) from by rw [w3_τ29, g6_τ29]]; exact SYt
              have LAt : oc (τ29.2.1 7) ≤ (τ29.1 5) := by rw [show (oc (τ29.2.1 7) ≤ (τ29.1 5)) = (oc (σ.2.1 7) ≤ (σ.1 5)) from by rw [w5_τ29, g7_τ29]]; exact LAt
              have AVt : (τ29.1 12) ≤ ca (τ29.2.1 9) (τ29.1 3) := q27_2
              have STt : j_l2 (τ29.2.1 6) (τ29.1 3) := by rw [show (j_l2 (τ29.2.1 6) (τ29.1 3)) = (j_l2 (σ.2.1 6) (σ.1 3)) from by rw [w3_τ29, g6_τ29]]; exact STt
              have NTB : n_tb (τ29.1 3) (τ29.2.1 1) (τ29.2.1 2) (τ29.2.1 3) (τ29.2.1 6) := by rw [show (n_tb (τ29.1 3) (τ29.2.1 1) (τ29.2.1 2) (τ29.2.1 3) (τ29.2.1 6)) = (n_tb (σ.1 3) (σ.2.1 1) (σ.2.1 2) (σ.2.1 3) (σ.2.1 6)) from by rw [w3_τ29, g1_τ29, g2_τ29, g3_τ29, g6_τ29]]; exact NTB
              have NNM : n_nm (τ29.1 3) (τ29.1 2) (τ29.2.1 2) (τ29.2.1 3) := by rw [show (n_nm (τ29.1 3) (τ29.1 2) (τ29.2.1 2) (τ29.2.1 3)) = (n_nm (σ.1 3) (σ.1 2) (σ.2.1 2) (σ.2.1 3)) from by rw [w2_τ29, w3_τ29, g2_τ29, g3_τ29]]; exact NNM
              have NTU : n_tu (τ29.1 3) (τ29.1 10) (τ29.1 11) (τ29.2.1 1) (τ29.2.1 2) (τ29.2.1 3) := by rw [show (n_tu (τ29.1 3) (τ29.1 10) (τ29.1 11) (τ29.2.1 1) (τ29.2.1 2) (τ29.2.1 3)) = (n_tu (σ.1 3) (σ.1 10) (σ.1 11) (σ.2.1 1) (σ.2.1 2) (σ.2.1 3)) from by rw [w3_τ29, w10_τ29, w11_τ29, g1_τ29, g2_τ29, g3_τ29]]; exact NTU
              have A1 : ∀ j, 0 ≤ τ29.2.1 1 j ∧ τ29.2.1 1 j ≤ 255 := fun j => hT.2 1 j
              have A2 : ∀ j, 0 ≤ τ29.2.1 2 j ∧ τ29.2.1 2 j ≤ 30000 := fun j => hT.2 2 j
              have A3 : ∀ j, 0 ≤ τ29.2.1 3 j ∧ τ29.2.1 3 j ≤ 60 := fun j => hT.2 3 j
              have A6 : ∀ j, (-1) ≤ τ29.2.1 6 j ∧ τ29.2.1 6 j ≤ 999 := fun j => hT.2 6 j
              have A7 : ∀ j, (-1) ≤ τ29.2.1 7 j ∧ τ29.2.1 7 j ≤ 1499 := fun j => hT.2 7 j
              have A9 : ∀ j, 0 ≤ τ29.2.1 9 j ∧ τ29.2.1 9 j ≤ 1 := fun j => hT.2 9 j
              have A10 : ∀ j, (-1) ≤ τ29.2.1 10 j ∧ τ29.2.1 10 j ≤ 999 := fun j => hT.2 10 j
              have A11 : ∀ j, (-1) ≤ τ29.2.1 11 j ∧ τ29.2.1 11 j ≤ 1499 := fun j => hT.2 11 j
              have A12 : ∀ j, 0 ≤ τ29.2.1 12 j ∧ τ29.2.1 12 j ≤ 1 := fun j => hT.2 12 j
              have A13 : ∀ j, 0 ≤ τ29.2.1 13 j ∧ τ29.2.1 13 j ≤ 4 := fun j => hT.2 13 j
              have A21 : ∀ j, 0 ≤ τ29.2.1 21 j ∧ τ29.2.1 21 j ≤ 20000 := fun j => hT.2 21 j
              have A22 : ∀ j, 0 ≤ τ29.2.1 22 j ∧ τ29.2.1 22 j ≤ 20000 := fun j => hT.2 22 j
              have A28 : ∀ j, 0 ≤ τ29.2.1 28 j ∧ τ29.2.1 28 j ≤ 1 := fun j => hT.2 28 j
              have A31 : ∀ j, 0 ≤ τ29.2.1 31 j ∧ τ29.2.1 31 j ≤ 1499 := fun j => hT.2 31 j
              have A35 : ∀ j, 0 ≤ τ29.2.1 35 j ∧ τ29.2.1 35 j ≤ 1500 := fun j => hT.2 35 j
              have v0 : 0 ≤ τ29.1 0 ∧ τ29.1 0 ≤ 60000 := hT.1 0
              have v2 : 0 ≤ τ29.1 2 ∧ τ29.1 2 ≤ 30000 := hT.1 2
              have v3 : 0 ≤ τ29.1 3 ∧ τ29.1 3 ≤ 1000 := hT.1 3
              have v4 : 0 ≤ τ29.1 4 ∧ τ29.1 4 ≤ 100 := hT.1 4
              have v5 : 0 ≤ τ29.1 5 ∧ τ29.1 5 ≤ 1500 := hT.1 5
              have v6 : 0 ≤ τ29.1 6 ∧ τ29.1 6 ≤ 30000 := hT.1 6
              have v7 : 0 ≤ τ29.1 7 ∧ τ29.1 7 ≤ 90000 := hT.1 7
              have v8 : 0 ≤ τ29.1 8 ∧ τ29.1 8 ≤ 20000 := hT.1 8
              have v9 : 0 ≤ τ29.1 9 ∧ τ29.1 9 ≤ 20000 := hT.1 9
              have v10 : (-1) ≤ τ29.1 10 ∧ τ29.1 10 ≤ 999 := hT.1 10
              have v11 : (-1) ≤ τ29.1 11 ∧ τ29.1 11 ≤ 999 := hT.1 11
              have v12 : 0 ≤ τ29.1 12 ∧ τ29.1 12 ≤ 1000 := hT.1 12
              have v13 : 0 ≤ τ29.1 13 ∧ τ29.1 13 ≤ 1500 := hT.1 13
              have v15 : 0 ≤ τ29.1 15 ∧ τ29.1 15 ≤ 50 := hT.1 15
              have v16 : 0 ≤ τ29.1 16 ∧ τ29.1 16 ≤ 60000 := hT.1 16
              have v17 : 0 ≤ τ29.1 17 ∧ τ29.1 17 ≤ 60000 := hT.1 17
              have v18 : 0 ≤ τ29.1 18 ∧ τ29.1 18 ≤ 60000 := hT.1 18
              have v19 : (-1) ≤ τ29.1 19 ∧ τ29.1 19 ≤ 125 := hT.1 19
              have v20 : 0 ≤ τ29.1 20 ∧ τ29.1 20 ≤ 19 := hT.1 20
              have av3 : σ.1 3 ≤ τ29.1 3 := ag.1 3 (by decide)
              have av5 : σ.1 5 ≤ τ29.1 5 := ag.1 5 (by decide)
              have av6 : σ.1 6 ≤ τ29.1 6 := ag.1 6 (by decide)
              have av7 : σ.1 7 ≤ τ29.1 7 := ag.1 7 (by decide)
              have av8 : σ.1 8 ≤ τ29.1 8 := ag.1 8 (by decide)
              have av9 : σ.1 9 ≤ τ29.1 9 := ag.1 9 (by decide)
              exact ⟨hT, (show (τ29.1 16) ≤ (τ29.1 0) from by (first | omega | (simp only [st_s] <;> omega) | assumption | omega | fail)), (show (τ29.1 17) + (τ29.1 18) ≤ (τ29.1 0) from by (first | omega | (simp only [st_s] <;> omega) | assumption | omega | fail)), (show ¬ (σ.1 20) = 0 → (τ29.1 20) = (σ.1 20) from by (first | omega | (simp only [st_s] <;> omega) | assumption | omega | fail)), (show oc (τ29.2.1 6) ≤ (τ29.1 3) from SYt), (show (τ29.1 12) ≤ ca (τ29.2.1 9) (τ29.1 3) from AVt), (show j_l2 (τ29.2.1 6) (τ29.1 3) from Y1), (show ca (τ29.2.1 12) ((τ29.1 3)) ≤ (τ29.1 4) from Y20), (show J_pa (τ29.2.1 21) (τ29.2.1 22) from PA), (show (τ29.1 13) ≤ (τ29.1 5) from by (first | omega | (simp only [st_s] <;> omega) | assumption | omega | fail)), (show (τ29.1 20) = 0 → oc (τ29.2.1 7) ≤ (τ29.1 5) from by (first | omega | (simp only [st_s] <;> omega) | assumption | omega | fail)), (show (τ29.1 20) = 0 → (τ29.1 7) ≤ 60 * (τ29.1 5) from by (first | omega | (simp only [st_s] <;> omega) | assumption | omega | fail)), (show j_eq ((σ.1 9)) (σ.2.1 28) (τ29.2.1 28) from Y8), (show (τ29.1 20) = 0 → m_J σ → m_J τ29 from by (first | (intro hf; exfalso; omega) | (intro hf hJ; first | exact q23_12 hf hJ | exact m_J_f hJ hf_τ12 rfl rfl | exact m_J_f hJ hf_τ15 rfl rfl | exact m_J_f hJ hf_τ19 rfl rfl | exact m_J_f hJ hf_τ29 rfl rfl) | fail)), (show (σ.1 5) ≤ (τ29.1 5) from by (first | omega | (simp only [st_s] <;> omega) | assumption | omega | fail)), (show (σ.1 16) ≤ (τ29.1 16) from by (first | omega | (simp only [st_s] <;> omega) | assumption | omega | fail)), ag, (show (τ29.1 20) = 0 → n_J τ29 ∧ n_S τ29 from by (first | (intro z; exfalso; omega) | exact q23_15 | exact fun _ => ⟨Jτ15, Sτ15⟩ | exact fun _ => ⟨Jτ19, Sτ19⟩ | exact fun _ => ⟨n_J_hh p15 hf_τ12 rfl rfl, n_S_h p14 hf_τ12 rfl rfl⟩ | exact fun _ => ⟨n_J_hh p15 hf_τ29 rfl rfl, q27_4 p14⟩ | fail)), (show n_rl σ τ29 from by (first | exact q23_16 | exact q13_10 | exact q17_10 | exact n_rl_h hf_τ9 rfl rfl | exact n_rl_h hf_τ12 rfl rfl | exact n_rl_h hf_τ22 rfl rfl | exact n_rl_h hf_τ29 rfl rfl | fail)), (show n_hk σ τ29 from by (first | exact q23_17 | exact q27_5 | exact n_hk_h hf_τ9 rfl rfl | exact n_hk_h hf_τ12 rfl rfl | exact n_hk_h hf_τ22 rfl rfl | exact n_hk_h hf_τ15 rfl rfl | exact n_hk_h hf_τ19 rfl rfl | fail)), (show n_rc σ τ29 from by (first | exact q23_18 | exact q13_11 | exact q17_11 | exact n_rc_h hf_τ9 rfl rfl | exact n_rc_h hf_τ12 rfl rfl | exact n_rc_h hf_τ22 rfl rfl | exact n_rc_h hf_τ29 rfl rfl | fail)), (show n_tb (τ29.1 3) (τ29.2.1 1) (τ29.2.1 2) (τ29.2.1 3) (τ29.2.1 6) from NTB), (show n_nm (τ29.1 3) (τ29.1 2) (τ29.2.1 2) (τ29.2.1 3) from NNM), (show n_tu (τ29.1 3) (τ29.1 10) (τ29.1 11) (τ29.2.1 1) (τ29.2.1 2) (τ29.2.1 3) from NTU)⟩
          ·
            refine ⟨fun c6 => ?_, fun c6 => ?_⟩
            ·
              refine ⟨_, K_X13_failHere hT (show 0 ≤ (4 : Int) from by (first | omega | (simp only [st_s] <;> omega) | assumption | omega | fail)) (show (4 : Int) ≤ 19 from by (first | omega | (simp only [st_s] <;> omega) | assumption | omega | fail)), ?_⟩
              intro τ9 hn_τ9 hf_τ9 hq
              obtain ⟨hT, q7_1, q7_2⟩ := hq
              replace q7_1 : ¬ (σ.1 20) = 0 → (τ9.1 20) = (σ.1 20) := q7_1
              replace q7_2 : (σ.1 20) = 0 → (τ9.1 20) = (4 : Int) := q7_2
              replace ag : m_ag σ τ9 := ag_r ag hf_τ9 rfl rfl
              have w0_τ9 : τ9.1 0 = σ.1 0 := hf_τ9.1 0 (by decide)
              have w2_τ9 : τ9.1 2 = σ.1 2 := hf_τ9.1 2 (by decide)
              have w3_τ9 : τ9.1 3 = σ.1 3 := hf_τ9.1 3 (by decide)
              have w4_τ9 : τ9.1 4 = σ.1 4 := hf_τ9.1 4 (by decide)
              have w5_τ9 : τ9.1 5 = σ.1 5 := hf_τ9.1 5 (by decide)
              have w6_τ9 : τ9.1 6 = σ.1 6 := hf_τ9.1 6 (by decide)
              have w7_τ9 : τ9.1 7 = σ.1 7 := hf_τ9.1 7 (by decide)
              have w8_τ9 : τ9.1 8 = σ.1 8 := hf_τ9.1 8 (by decide)
              have w9_τ9 : τ9.1 9 = σ.1 9 := hf_τ9.1 9 (by decide)
              have w10_τ9 : τ9.1 10 = σ.1 10 := hf_τ9.1 10 (by decide)
              have w11_τ9 : τ9.1 11 = σ.1 11 := hf_τ9.1 11 (by decide)
              have w12_τ9 : τ9.1 12 = σ.1 12 := hf_τ9.1 12 (by decide)
              have w13_τ9 : τ9.1 13 = σ.1 13 := hf_τ9.1 13 (by decide)
              have w15_τ9 : τ9.1 15 = σ.1 15 := hf_τ9.1 15 (by decide)
              have w16_τ9 : τ9.1 16 = σ.1 16 := hf_τ9.1 16 (by decide)
              have w17_τ9 : τ9.1 17 = σ.1 17 := hf_τ9.1 17 (by decide)
              have w18_τ9 : τ9.1 18 = σ.1 18 := hf_τ9.1 18 (by decide)
              have w19_τ9 : τ9.1 19 = σ.1 19 := hf_τ9.1 19 (by decide)
              have g1_τ9 : τ9.2.1 1 = σ.2.1 1 := hf_τ9.2.1 1 (by decide)
              have g2_τ9 : τ9.2.1 2 = σ.2.1 2 := hf_τ9.2.1 2 (by decide)
              have g3_τ9 : τ9.2.1 3 = σ.2.1 3 := hf_τ9.2.1 3 (by decide)
              have g6_τ9 : τ9.2.1 6 = σ.2.1 6 := hf_τ9.2.1 6 (by decide)
              have g7_τ9 : τ9.2.1 7 = σ.2.1 7 := hf_τ9.2.1 7 (by decide)
              have g9_τ9 : τ9.2.1 9 = σ.2.1 9 := hf_τ9.2.1 9 (by decide)
              have g10_τ9 : τ9.2.1 10 = σ.2.1 10 := hf_τ9.2.1 10 (by decide)
              have g11_τ9 : τ9.2.1 11 = σ.2.1 11 := hf_τ9.2.1 11 (by decide)
              have g12_τ9 : τ9.2.1 12 = σ.2.1 12 := hf_τ9.2.1 12 (by decide)
              have g13_τ9 : τ9.2.1 13 = σ.2.1 13 := hf_τ9.2.1 13 (by decide)
              have g21_τ9 : τ9.2.1 21 = σ.2.1 21 := hf_τ9.2.1 21 (by decide)
              have g22_τ9 : τ9.2.1 22 = σ.2.1 22 := hf_τ9.2.1 22 (by decide)
              have g28_τ9 : τ9.2.1 28 = σ.2.1 28 := hf_τ9.2.1 28 (by decide)
              have g31_τ9 : τ9.2.1 31 = σ.2.1 31 := hf_τ9.2.1 31 (by decide)
              have g35_τ9 : τ9.2.1 35 = σ.2.1 35 := hf_τ9.2.1 35 (by decide)
              first | (have ca_τ9 := congr (congrArg ca g9_τ9) w3_τ9) | skip
              first | (have o6_τ9 := congrArg oc g6_τ9) | skip
              first | (have o7_τ9 := congrArg oc g7_τ9) | skip
              have W0 : τ9.1 0 = σ.1 0 := by first | exact w0_τ9.trans W0 | omega
              have Y20 : ca (τ9.2.1 12) ((τ9.1 3)) ≤ (τ9.1 4) := by rw [show (ca (τ9.2.1 12) ((τ9.1 3)) ≤ (τ9.1 4)) = (ca (σ.2.1 12) ((σ.1 3)) ≤ (σ.1 4)) from by rw [w3_τ9, w4_τ9, g12_τ9]]; exact Y20
              have Y8 : j_eq ((σ.1 9)) (σ.2.1 28) (τ9.2.1 28) := by rw [show (j_eq ((σ.1 9)) (σ.2.1 28) (τ9.2.1 28)) = (j_eq ((σ.1 9)) (σ.2.1 28) (σ.2.1 28)) from by rw [g28_τ9]]; exact Y8
              have Y1 : j_l2 (τ9.2.1 6) (τ9.1 3) := by rw [show (j_l2 (τ9.2.1 6) (τ9.1 3)) = (j_l2 (σ.2.1 6) (σ.1 3)) from by rw [w3_τ9, g6_τ9]]; exact Y1
              have PA : J_pa (τ9.2.1 21) (τ9.2.1 22) := by rw [show (J_pa (τ9.2.1 21) (τ9.2.1 22)) = (J_pa (σ.2.1 21) (σ.2.1 22)) from by rw [g21_τ9, g22_τ9]]; exact PA
              have SYt : oc (τ9.2.1 6) ≤ (τ9.1 3) := by rw [show (oc (τ9.2.1 6) ≤ (τ9.1 3)) = (oc (σ.2.1 6) ≤ (σ.1 3)) from by rw [w3_τ9, g6_τ9]]; exact SYt
              have LAt : oc (τ9.2.1 7) ≤ (τ9.1 5) := by rw [show (oc (τ9.2.1 7) ≤ (τ9.1 5)) = (oc (σ.2.1 7) ≤ (σ.1 5)) from by rw [w5_τ9, g7_τ9]]; exact LAt
              have AVt : (τ9.1 12) ≤ ca (τ9.2.1 9) (τ9.1 3) := by rw [show ((τ9.1 12) ≤ ca (τ9.2.1 9) (τ9.1 3)) = ((σ.1 12) ≤ ca (σ.2.1 9) (σ.1 3)) from by rw [w3_τ9, w12_τ9, g9_τ9]]; exact AVt
              have STt : j_l2 (τ9.2.1 6) (τ9.1 3) := by rw [show (j_l2 (τ9.2.1 6) (τ9.1 3)) = (j_l2 (σ.2.1 6) (σ.1 3)) from by rw [w3_τ9, g6_τ9]]; exact STt
              have NTB : n_tb (τ9.1 3) (τ9.2.1 1) (τ9.2.1 2) (τ9.2.1 3) (τ9.2.1 6) := by rw [show (n_tb (τ9.1 3) (τ9.2.1 1) (τ9.2.1 2) (τ9.2.1 3) (τ9.2.1 6)) = (n_tb (σ.1 3) (σ.2.1 1) (σ.2.1 2) (σ.2.1 3) (σ.2.1 6)) from by rw [w3_τ9, g1_τ9, g2_τ9, g3_τ9, g6_τ9]]; exact NTB
              have NNM : n_nm (τ9.1 3) (τ9.1 2) (τ9.2.1 2) (τ9.2.1 3) := by rw [show (n_nm (τ9.1 3) (τ9.1 2) (τ9.2.1 2) (τ9.2.1 3)) = (n_nm (σ.1 3) (σ.1 2) (σ.2.1 2) (σ.2.1 3)) from by rw [w2_τ9, w3_τ9, g2_τ9, g3_τ9]]; exact NNM
              have NTU : n_tu (τ9.1 3) (τ9.1 10) (τ9.1 11) (τ9.2.1 1) (τ9.2.1 2) (τ9.2.1 3) := by rw [show (n_tu (τ9.1 3) (τ9.1 10) (τ9.1 11) (τ9.2.1 1) (τ9.2.1 2) (τ9.2.1 3)) = (n_tu (σ.1 3) (σ.1 10) (σ.1 11) (σ.2.1 1) (σ.2.1 2) (σ.2.1 3)) from by rw [w3_τ9, w10_τ9, w11_τ9, g1_τ9, g2_τ9, g3_τ9]]; exact NTU
              have A1 : ∀ j, 0 ≤ τ9.2.1 1 j ∧ τ9.2.1 1 j ≤ 255 := fun j => hT.2 1 j
              have A2 : ∀ j, 0 ≤ τ9.2.1 2 j ∧ τ9.2.1 2 j ≤ 30000 := fun j => hT.2 2 j
              have A3 : ∀ j, 0 ≤ τ9.2.1 3 j ∧ τ9.2.1 3 j ≤ 60 := fun j => hT.2 3 j
              have A6 : ∀ j, (-1) ≤ τ9.2.1 6 j ∧ τ9.2.1 6 j ≤ 999 := fun j => hT.2 6 j
              have A7 : ∀ j, (-1) ≤ τ9.2.1 7 j ∧ τ9.2.1 7 j ≤ 1499 := fun j => hT.2 7 j
              have A9 : ∀ j, 0 ≤ τ9.2.1 9 j ∧ τ9.2.1 9 j ≤ 1 := fun j => hT.2 9 j
              have A10 : ∀ j, (-1) ≤ τ9.2.1 10 j ∧ τ9.2.1 10 j ≤ 999 := fun j => hT.2 10 j
              have A11 : ∀ j, (-1) ≤ τ9.2.1 11 j ∧ τ9.2.1 11 j ≤ 1499 := fun j => hT.2 11 j
              have A12 : ∀ j, 0 ≤ τ9.2.1 12 j ∧ τ9.2.1 12 j ≤ 1 := fun j => hT.2 12 j
              have A13 : ∀ j, 0 ≤ τ9.2.1 13 j ∧ τ9.2.1 13 j ≤ 4 := fun j => hT.2 13 j
              have A21 : ∀ j, 0 ≤ τ9.2.1 21 j ∧ τ9.2.1 21 j ≤ 20000 := fun j => hT.2 21 j
              have A22 : ∀ j, 0 ≤ τ9.2.1 22 j ∧ τ9.2.1 22 j ≤ 20000 := fun j => hT.2 22 j
              have A28 : ∀ j, 0 ≤ τ9.2.1 28 j ∧ τ9.2.1 28 j ≤ 1 := fun j => hT.2 28 j
              have A31 : ∀ j, 0 ≤ τ9.2.1 31 j ∧ τ9.2.1 31 j ≤ 1499 := fun j => hT.2 31 j
              have A35 : ∀ j, 0 ≤ τ9.2.1 35 j ∧ τ9.2.1 35 j ≤ 1500 := fun j => hT.2 35 j
              have v0 : 0 ≤ τ9.1 0 ∧ τ9.1 0 ≤ 60000 := hT.1 0
              have v2 : 0 ≤ τ9.1 2 ∧ τ9.1 2 ≤ 30000 := hT.1 2
              have v3 : 0 ≤ τ9.1 3 ∧ τ9.1 3 ≤ 1000 := hT.1 3
              have v4 : 0 ≤ τ9.1 4 ∧ τ9.1 4 ≤ 100 := hT.1 4
              have v5 : 0 ≤ τ9.1 5 ∧ τ9.1 5 ≤ 1500 := hT.1 5
              have v6 : 0 ≤ τ9.1 6 ∧ τ9.1 6 ≤ 30000 := hT.1 6
              have v7 : 0 ≤ τ9.1 7 ∧ τ9.1 7 ≤ 90000 := hT.1 7
              have v8 : 0 ≤ τ9.1 8 ∧ τ9.1 8 ≤ 20000 := hT.1 8
              have v9 : 0 ≤ τ9.1 9 ∧ τ9.1 9 ≤ 20000 := hT.1 9
              have v10 : (-1) ≤ τ9.1 10 ∧ τ9.1 10 ≤ 999 := hT.1 10
              have v11 : (-1) ≤ τ9.1 11 ∧ τ9.1 11 ≤ 999 := hT.1 11
              have v12 : 0 ≤ τ9.1 12 ∧ τ9.1 12 ≤ 1000 := hT.1 12
              have v13 : 0 ≤ τ9.1 13 ∧ τ9.1 13 ≤ 1500 := hT.1 13
              have v15 : 0 ≤ τ9.1 15 ∧ τ9.1 15 ≤ 50 := hT.1 15
              have v16 : 0 ≤ τ9.1 16 ∧ τ9.1 16 ≤ 60000 := hT.1 16
              have v17 : 0 ≤ τ9.1 17 ∧ τ9.1 17 ≤ 60000 := hT.1 17
              have v18 : 0 ≤ τ9.1 18 ∧ τ9.1 18 ≤ 60000 := hT.1 18
              have v19 : (-1) ≤ τ9.1 19 ∧ τ9.1 19 ≤ 125 := hT.1 19
              have v20 : 0 ≤ τ9.1 20 ∧ τ9.1 20 ≤ 19 := hT.1 20
              have av3 : σ.1 3 ≤ τ9.1 3 := ag.1 3 (by decide)
              have av5 : σ.1 5 ≤ τ9.1 5 := ag.1 5 (by decide)
              have av6 : σ.1 6 ≤ τ9.1 6 := ag.1 6 (by decide)
              have av7 : σ.1 7 ≤ τ9.1 7 := ag.1 7 (by decide)
              have av8 : σ.1 8 ≤ τ9.1 8 := ag.1 8 (by decide)
              have av9 : σ.1 9 ≤ τ9.1 9 := ag.1 9 (by decide)
              exact ⟨hT, (show (τ9.1 16) ≤ (τ9.1 0) from by (first | omega | (simp only [st_s] <;> omega) | assumption | omega | fail)), (show (τ9.1 17) + (τ9.1 18) ≤ (τ9.1 0) from by (first | omega | (simp only [st_s] <;> omega) | assumption | omega | fail)), (show ¬ (σ.1 20) = 0 → (τ9.1 20) = (σ.1 20) from by (first | omega | (simp only [st_s] <;> omega) | assumption | omega | fail)), (show oc (τ9.2.1 6) ≤ (τ9.1 3) from SYt), (show (τ9.1 12) ≤ ca (τ9.2.1 9) (τ9.1 3) from AVt), (show j_l2 (τ9.2.1 6) (τ9.1 3) from Y1), (show ca (τ9.2.1 12) ((τ9.1 3)) ≤ (τ9.1 4) from Y20), (show J_pa (τ9.2.1 21) (τ9.2.1 22) from PA), (show (τ9.1 13) ≤ (τ9.1 5) from by (first | omega | (simp only [st_s] <;> omega) | assumption | omega | fail)), (show (τ9.1 20) = 0 → oc (τ9.2.1 7) ≤ (τ9.1 5) from by (first | omega | (simp only [st_s] <;> omega) | assumption | omega | fail)), (show (τ9.1 20) = 0 → (τ9.1 7) ≤ 60 * (τ9.1 5) from by (first | omega | (simp only [st_s] <;> omega) | assumption | omega | fail)), (show j_eq ((σ.1 9)) (σ.2.1 28) (τ9.2.1 28) from Y8), (show (τ9.1 20) = 0 → m_J σ → m_J τ9 from by (first | (intro hf; exfalso; omega) | (intro hf hJ; first | exact q23_12 hf hJ | exact m_J_f hJ hf_τ12 rfl rfl | exact m_J_f hJ hf_τ15 rfl rfl | exact m_J_f hJ hf_τ19 rfl rfl | exact m_J_f hJ hf_τ29 rfl rfl) | fail)), (show (σ.1 5) ≤ (τ9.1 5) from by (first | omega | (simp only [st_s] <;> omega) | assumption | omega | fail)), (show (σ.1 16) ≤ (τ9.1 16) from by (first | omega | (simp only [st_s] <;> omega) | assumption | omega | fail)), ag, (show (τ9.1 20) = 0 → n_J τ9 ∧ n_S τ9 from by (first | (intro z; exfalso; omega) | exact q23_15 | exact fun _ => ⟨Jτ15, Sτ15⟩ | exact fun _ => ⟨Jτ19, Sτ19⟩ | exact fun _ => ⟨n_J_hh p15 hf_τ12 rfl rfl, n_S_h p14 hf_τ12 rfl rfl⟩ | exact fun _ => ⟨n_J_hh p15 hf_τ29 rfl rfl, q27_4 p14⟩ | fail)), (show n_rl σ τ9 from by (first | exact q23_16 | exact q13_10 | exact q17_10 | exact n_rl_h hf_τ9 rfl rfl | exact n_rl_h hf_τ12 rfl rfl | exact n_rl_h hf_τ22 rfl rfl | exact n_rl_h hf_τ29 rfl rfl | fail)), (show n_hk σ τ9 from by (first | exact q23_17 | exact q27_5 | exact n_hk_h hf_τ9 rfl rfl | exact n_hk_h hf_τ12 rfl rfl | exact n_hk_h hf_τ22 rfl rfl | exact n_hk_h hf_τ15 rfl rfl | exact n_hk_h hf_τ19 rfl rfl | fail)), (show n_rc σ τ9 from by (first | exact q23_18 | exact q13_11 | exact q17_11 | exact n_rc_h hf_τ9 rfl rfl | exact n_rc_h hf_τ12 rfl rfl | exact n_rc_h hf_τ22 rfl rfl | exact n_rc_h hf_τ29 rfl rfl | fail)), (show n_tb (τ9.1 3) (τ9.2.1 1) (τ9.2.1 2) (τ9.2.1 3) (τ9.2.1 6) from NTB), (show n_nm (τ9.1 3) (τ9.1 2) (τ9.2.1 2) (τ9.2.1 3) from NNM), (show n_tu (τ9.1 3) (τ9.1 10) (τ9.1 11) (τ9.2.1 1) (τ9.2.1 2) (τ9.2.1 3) from NTU)⟩
            ·
              refine h99 _ ?_
              refine ⟨fun c26 => ?_, fun c26 => ?_⟩
              ·
                refine h114 _ _ ?_
                refine ⟨_, K3_X13_readScope hT (show 0 ≤ (0 : Int) from by (first | omega | (simp only [st_s] <;> omega) | assumption | omega | fail)) (show (0 : Int) ≤ 1 from by (first | omega | (simp only [st_s] <;> omega) | assumption | omega | fail)) (show (σ.1 17) + (σ.1 18) ≤ (σ.1 0) from by (first | omega | (simp only [st_s] <;> omega) | assumption | omega | fail)) (show (σ.1 12) ≤ ca (σ.2.1 9) (σ.1 3) from AVt), ?_⟩
                intro τ29 hn_τ29 hf_τ29 hq
                obtain ⟨hT, q27_1, q27_2, q27_3, q27_4, q27_5⟩ := hq
                replace q27_1 : ¬ (σ.1 20) = 0 → (τ29.1 20) = (σ.1 20) := q27_1
                replace q27_2 : (τ29.1 12) ≤ ca (τ29.2.1 9) (τ29.1 3) := q27_2
                replace q27_3 : (τ29.1 13) ≤ (σ.1 13) := q27_3
                replace q27_4 : n_S σ → n_S τ29 := q27_4
                replace q27_5 : n_hk σ τ29 := q27_5
                replace ag : m_ag σ τ29 := ag_r ag hf_τ29 rfl rfl
                have w0_τ29 : τ29.1 0 = σ.1 0 := hf_τ29.1 0 (by decide)
                have w2_τ29 : τ29.1 2 = σ.1 2 := hf_τ29.1 2 (by decide)
                have w3_τ29 : τ29.1 3 = σ.1 3 := hf_τ29.1 3 (by decide)
                have w4_τ29 : τ29.1 4 = σ.1 4 := hf_τ29.1 4 (by decide)
                have w5_τ29 : τ29.1 5 = σ.1 5 := hf_τ29.1 5 (by decide)
                have w6_τ29 : τ29.1 6 = σ.1 6 := hf_τ29.1 6 (by decide)
                have w7_τ29 : τ29.1 7 = σ.1 7 := hf_τ29.1 7 (by decide)
                have w8_τ29 : τ29.1 8 = σ.1 8 := hf_τ29.1 8 (by decide)
                have w9_τ29 : τ29.1 9 = σ.1 9 := hf_τ29.1 9 (by decide)
                have w10_τ29 : τ29.1 10 = σ.1 10 := hf_τ29.1 10 (by decide)
                have w11_τ29 : τ29.1 11 = σ.1 11 := hf_τ29.1 11 (by decide)
                have w16_τ29 : τ29.1 16 = σ.1 16 := hf_τ29.1 16 (by decide)
                have w17_τ29 : τ29.1 17 = σ.1 17 := hf_τ29.1 17 (by decide)
                have w18_τ29 : τ29.1 18 = σ.1 18 := hf_τ29.1 18 (by decide)
                have w19_τ29 : τ29.1 19 = σ.1 19 := hf_τ29.1 19 (by decide)
                have g1_τ29 : τ29.2.1 1 = σ.2.1 1 := hf_τ29.2.1 1 (by decide)
                have g2_τ29 : τ29.2.1 2 = σ.2.1 2 := hf_τ29.2.1 2 (by decide)
                have g3_τ29 : τ29.2.1 3 = σ.2.1 3 := hf_τ29.2.1 3 (by decide)
                have g6_τ29 : τ29.2.1 6 = σ.2.1 6 := hf_τ29.2.1 6 (by decide)
                have g7_τ29 : τ29.2.1 7 = σ.2.1 7 := hf_τ29.2.1 7 (by decide)
                have g10_τ29 : τ29.2.1 10 = σ.2.1 10 := hf_τ29.2.1 10 (by decide)
                have g12_τ29 : τ29.2.1 12 = σ.2.1 12 := hf_τ29.2.1 12 (by decide)
                have g13_τ29 : τ29.2.1 13 = σ.2.1 13 := hf_τ29.2.1 13 (by decide)
                have g21_τ29 : τ29.2.1 21 = σ.2.1 21 := hf_τ29.2.1 21 (by decide)
                have g22_τ29 : τ29.2.1 22 = σ.2.1 22 := hf_τ29.2.1 22 (by decide)
                have g28_τ29 : τ29.2.1 28 = σ.2.1 28 := hf_τ29.2.1 28 (by decide)
                have g31_τ29 : τ29.2.1 31 = σ.2.1 31 := hf_τ29.2.1 31 (by decide)
                first | (have ca_τ29 := congr (congrArg ca g9_τ29) w3_τ29) | skip
                first | (have o6_τ29 := congrArg oc g6_τ29) | skip
                first | (have o7_τ29 := congrArg oc g7_τ29) | skip
                have W0 : τ29.1 0 = σ.1 0 := by first | exact w0_τ29.trans W0 | omega
                have Y20 : ca (τ29.2.1 12) ((τ29.1 3)) ≤ (τ29.1 4) := by rw [show (ca (τ29.2.1 12) ((τ29.1 3)) ≤ (τ29.1 4)) = (ca (σ.2.1 12) ((σ.1 3)) ≤ (σ.1 4)) from by rw [w3_τ29, w4_τ29, g12_τ29]]; exact Y20
                have Y8 : j_eq ((σ.1 9)) (σ.2.1 28) (τ29.2.1 28) := by rw [show (j_eq ((σ.1 9)) (σ.2.1 28) (τ29.2.1 28)) = (j_eq ((σ.1 9)) (σ.2.1 28) (σ.2.1 28)) from by rw [g28_τ29]]; exact Y8
                have Y1 : j_l2 (τ29.2.1 6) (τ29.1 3) := by rw [show (j_l2 (τ29.2.1 6) (τ29.1 3)) = (j_l2 (σ.2.1 6) (σ.1 3)) from by rw [w3_τ29, g6_τ29]]; exact Y1
                have PA : J_pa (τ29.2.1 21) (τ29.2.1 22) := by rw [show (J_pa (τ29.2.1 21) (τ29.2.1 22)) = (J_pa (σ.2.1 21) (σ.2.1 22)) from by rw [g21_τ29, g22_τ29]]; exact PA
                have SYt : oc (τ29.2.1 6) ≤ (τ29.1 3) := by rw [show (oc (τ29.2.1 6) ≤ (τ29.1 3)) = (oc (σ.2.1 6) ≤ (σ.1 3)) from by rw [w3_τ29, g6_τ29]]; exact SYt
                have LAt : oc (τ29.2.1 7) ≤ (τ29.1 5) := by rw [show (oc (τ29.2.1 7) ≤ (τ29.1 5)) = (oc (σ.2.1 7) ≤ (σ.1 5)) from by rw [w5_τ29, g7_τ29]]; exact LAt
                have AVt : (τ29.1 12) ≤ ca (τ29.2.1 9) (τ29.1 3) := q27_2
                have STt : j_l2 (τ29.2.1 6) (τ29.1 3) := by rw [show (j_l2 (τ29.2.1 6) (τ29.1 3)) = (j_l2 (σ.2.1 6) (σ.1 3)) from by rw [w3_τ29, g6_τ29]]; exact STt
                have NTB : n_tb (τ29.1 3) (τ29.2.1 1) (τ29.2.1 2) (τ29.2.1 3) (τ29.2.1 6) := by rw [show (n_tb (τ29.1 3) (τ29.2.1 1) (τ29.2.1 2) (τ29.2.1 3) (τ29.2.1 6)) = (n_tb (σ.1 3) (σ.2.1 1) (σ.2.1 2) (σ.2.1 3) (σ.2.1 6)) from by rw [w3_τ29, g1_τ29, g2_τ29, g3_τ29, g6_τ29]]; exact NTB
                have NNM : n_nm (τ29.1 3) (τ29.1 2) (τ29.2.1 2) (τ29.2.1 3) := by rw [show (n_nm (τ29.1 3) (τ29.1 2) (τ29.2.1 2) (τ29.2.1 3)) = (n_nm (σ.1 3) (σ.1 2) (σ.2.1 2) (σ.2.1 3)) from by rw [w2_τ29, w3_τ29, g2_τ29, g3_τ29]]; exact NNM
                have NTU : n_tu (τ29.1 3) (τ29.1 10) (τ29.1 11) (τ29.2.1 1) (τ29.2.1 2) (τ29.2.1 3) := by rw [show (n_tu (τ29.1 3) (τ29.1 10) (τ29.1 11) (τ29.2.1 1) (τ29.2.1 2) (τ29.2.1 3)) = (n_tu (σ.1 3) (σ.1 10) (σ.1 11) (σ.2.1 1) (σ.2.1 2) (σ.2.1 3)) from by rw [w3_τ29, w10_τ29, w11_τ29, g1_τ29, g2_τ29, g3_τ29]]; exact NTU
                have A1 : ∀ j, 0 ≤ τ29.2.1 1 j ∧ τ29.2.1 1 j ≤ 255 := fun j => hT.2 1 j
                have A2 : ∀ j, 0 ≤ τ29.2.1 2 j ∧ τ29.2.1 2 j ≤ 30000 := fun j => hT.2 2 j
                have A3 : ∀ j, 0 ≤ τ29.2.1 3 j ∧ τ29.2.1 3 j ≤ 60 := fun j => hT.2 3 j
                have A6 : ∀ j, (-1) ≤ τ29.2.1 6 j ∧ τ29.2.1 6 j ≤ 999 := fun j => hT.2 6 j
                have A7 : ∀ j, (-1) ≤ τ29.2.1 7 j ∧ τ29.2.1 7 j ≤ 1499 := fun j => hT.2 7 j
                have A9 : ∀ j, 0 ≤ τ29.2.1 9 j ∧ τ29.2.1 9 j ≤ 1 := fun j => hT.2 9 j
                have A10 : ∀ j, (-1) ≤ τ29.2.1 10 j ∧ τ29.2.1 10 j ≤ 999 := fun j => hT.2 10 j
                have A11 : ∀ j, (-1) ≤ τ29.2.1 11 j ∧ τ29.2.1 11 j ≤ 1499 := fun j => hT.2 11 j
                have A12 : ∀ j, 0 ≤ τ29.2.1 12 j ∧ τ29.2.1 12 j ≤ 1 := fun j => hT.2 12 j
                have A13 : ∀ j, 0 ≤ τ29.2.1 13 j ∧ τ29.2.1 13 j ≤ 4 := fun j => hT.2 13 j
                have A21 : ∀ j, 0 ≤ τ29.2.1 21 j ∧ τ29.2.1 21 j ≤ 20000 := fun j => hT.2 21 j
                have A22 : ∀ j, 0 ≤ τ29.2.1 22 j ∧ τ29.2.1 22 j ≤ 20000 := fun j => hT.2 22 j
                have A28 : ∀ j, 0 ≤ τ29.2.1 28 j ∧ τ29.2.1 28 j ≤ 1 := fun j => hT.2 28 j
                have A31 : ∀ j, 0 ≤ τ29.2.1 31 j ∧ τ29.2.1 31 j ≤ 1499 := fun j => hT.2 31 j
                have A35 : ∀ j, 0 ≤ τ29.2.1 35 j ∧ τ29.2.1 35 j ≤ 1500 := fun j => hT.2 35 j
                have v0 : 0 ≤ τ29.1 0 ∧ τ29.1 0 ≤ 60000 := hT.1 0
                have v2 : 0 ≤ τ29.1 2 ∧ τ29.1 2 ≤ 30000 := hT.1 2
                have v3 : 0 ≤ τ29.1 3 ∧ τ29.1 3 ≤ 1000 := hT.1 3
                have v4 : 0 ≤ τ29.1 4 ∧ τ29.1 4 ≤ 100 := hT.1 4
                have v5 : 0 ≤ τ29.1 5 ∧ τ29.1 5 ≤ 1500 := hT.1 5
                have v6 : 0 ≤ τ29.1 6 ∧ τ29.1 6 ≤ 30000 := hT.1 6
                have v7 : 0 ≤ τ29.1 7 ∧ τ29.1 7 ≤ 90000 := hT.1 7
                have v8 : 0 ≤ τ29.1 8 ∧ τ29.1 8 ≤ 20000 := hT.1 8
                have v9 : 0 ≤ τ29.1 9 ∧ τ29.1 9 ≤ 20000 := hT.1 9
                have v10 : (-1) ≤ τ29.1 10 ∧ τ29.1 10 ≤ 999 := hT.1 10
                have v11 : (-1) ≤ τ29.1 11 ∧ τ29.1 11 ≤ 999 := hT.1 11
                have v12 : 0 ≤ τ29.1 12 ∧ τ29.1 12 ≤ 1000 := hT.1 12
                have v13 : 0 ≤ τ29.1 13 ∧ τ29.1 13 ≤ 1500 := hT.1 13
                have v15 : 0 ≤ τ29.1 15 ∧ τ29.1 15 ≤ 50 := hT.1 15
                have v16 : 0 ≤ τ29.1 16 ∧ τ29.1 16 ≤ 60000 := hT.1 16
                have v17 : 0 ≤ τ29.1 17 ∧ τ29.1 17 ≤ 60000 := hT.1 17
                have v18 : 0 ≤ τ29.1 18 ∧ τ29.1 18 ≤ 60000 := hT.1 18
                have v19 : (-1) ≤ τ29.1 19 ∧ τ29.1 19 ≤ 125 := hT.1 19
                have v20 : 0 ≤ τ29.1 20 ∧ τ29.1 20 ≤ 19 := hT.1 20
                have av3 : σ.1 3 ≤ τ29.1 3 := ag.1 3 (by decide)
                have av5 : σ.1 5 ≤ τ29.1 5 := ag.1 5 (by decide)
                have av6 : σ.1 6 ≤ τ29.1 6 := ag.1 6 (by decide)
                have av7 : σ.1 7 ≤ τ29.1 7 := ag.1 7 (by decide)
                have av8 : σ.1 8 ≤ τ29.1 8 := ag.1 8 (by decide)
                have av9 : σ.1 9 ≤ τ29.1 9 := ag.1 9 (by decide)
                exact ⟨hT, (show (τ29.1 16) ≤ (τ29.1 0) from by (first | omega | (simp only [st_s] <;> omega) | assumption | omega | fail)), (show (τ29.1 17) + (τ29.1 18) ≤ (τ29.1 0) from by (first | omega | (simp only [st_s] <;> omega) | assumption | omega | fail)), (show ¬ (σ.1 20) = 0 → (τ29.1 20) = (σ.1 20) from by (first | omega | (simp only [st_s] <;> omega) | assumption | omega | fail)), (show oc (τ29.2.1 6) ≤ (τ29.1 3) from SYt), (show (τ29.1 12) ≤ ca (τ29.2.1 9) (τ29.1 3) from AVt), (show j_l2 (τ29.2.1 6) (τ29.1 3) from Y1), (show ca (τ29.2.1 12) ((τ29.1 3)) ≤ (τ29.1 4) from Y20), (show J_pa (τ29.2.1 21) (τ29.2.1 22) from PA), (show (τ29.1 13) ≤ (τ29.1 5) from by (first | omega | (simp only [st_s] <;> omega) | assumption | omega | fail)), (show (τ29.1 20) = 0 → oc (τ29.2.1 7) ≤ (τ29.1 5) from by (first | omega | (simp only [st_s] <;> omega) | assumption | omega | fail)), (show (τ29.1 20) = 0 → (τ29.1 7) ≤ 60 * (τ29.1 5) from by (first | omega | (simp only [st_s] <;> omega) | assumption | omega | fail)), (show j_eq ((σ.1 9)) (σ.2.1 28) (τ29.2.1 28) from Y8), (show (τ29.1 20) = 0 → m_J σ → m_J τ29 from by (first | (intro hf; exfalso; omega) | (intro hf hJ; first | exact q23_12 hf hJ | exact m_J_f hJ hf_τ12 rfl rfl | exact m_J_f hJ hf_τ15 rfl rfl | exact m_J_f hJ hf_τ19 rfl rfl | exact m_J_f hJ hf_τ29 rfl rfl) | fail)), (show (σ.1 5) ≤ (τ29.1 5) from by (first | omega | (simp only [st_s] <;> omega) | assumption | omega | fail)), (show (σ.1 16) ≤ (τ29.1 16) from by (first | omega | (simp only [st_s] <;> omega) | assumption | omega | fail)), ag, (show (τ29.1 20) = 0 → n_J τ29 ∧ n_S τ29 from by (first | (intro z; exfalso; omega) | exact q23_15 | exact fun _ => ⟨Jτ15, Sτ15⟩ | exact fun _ => ⟨Jτ19, Sτ19⟩ | exact fun _ => ⟨n_J_hh p15 hf_τ12 rfl rfl, n_S_h p14 hf_τ12 rfl rfl⟩ | exact fun _ => ⟨n_J_hh p15 hf_τ29 rfl rfl, q27_4 p14⟩ | fail)), (show n_rl σ τ29 from by (first | exact q23_16 | exact q13_10 | exact q17_10 | exact n_rl_h hf_τ9 rfl rfl | exact n_rl_h hf_τ12 rfl rfl | exact n_rl_h hf_τ22 rfl rfl | exact n_rl_h hf_τ29 rfl rfl | fail)), (show n_hk σ τ29 from by (first | exact q23_17 | exact q27_5 | exact n_hk_h hf_τ9 rfl rfl | exact n_hk_h hf_τ12 rfl rfl | exact n_hk_h hf_τ22 rfl rfl | exact n_hk_h hf_τ15 rfl rfl | exact n_hk_h hf_τ19 rfl rfl | fail)), (show n_rc σ τ29 from by (first | exact q23_18 | exact q13_11 | exact q17_11 | exact n_rc_h hf_τ9 rfl rfl | exact n_rc_h hf_τ12 rfl rfl | exact n_rc_h hf_τ22 rfl rfl | exact n_rc_h hf_τ29 rfl rfl | fail)), (show n_tb (τ29.1 3) (τ29.2.1 1) (τ29.2.1 2) (τ29.2.1 3) (τ29.2.1 6) from NTB), (show n_nm (τ29.1 3) (τ29.1 2) (τ29.2.1 2) (τ29.2.1 3) from NNM), (show n_tu (τ29.1 3) (τ29.1 10) (τ29.1 11) (τ29.2.1 1) (τ29.2.1 2) (τ29.2.1 3) from NTU)⟩
              ·
                refine h114 _ _ ?_
                refine ⟨_, K3_X13_readScope hT (show 0 ≤ (1 : Int) from by (first | omega | (simp only [st_s] <;> omega) | assumption | omega | fail)) (show (1 : Int) ≤ 1 from by (first | omega | (simp only [st_s] <;> omega) | assumption | omega | fail)) (show (σ.1 17) + (σ.1 18) ≤ (σ.1 0) from by (first | omega | (simp only [st_s] <;> omega) | assumption | omega | fail)) (show (σ.1 12) ≤ ca (σ.2.1 9) (σ.1 3) from AVt), ?_⟩
                intro τ29 hn_τ29 hf_τ29 hq
                obtain ⟨hT, q27_1, q27_2, q27_3, q27_4, q27_5⟩ := hq
                replace q27_1 : ¬ (σ.1 20) = 0 → (τ29.1 20) = (σ.1 20) := q27_1
                replace q27_2 : (τ29.1 12) ≤ ca (τ29.2.1 9) (τ29.1 3) := q27_2
                replace q27_3 : (τ29.1 13) ≤ (σ.1 13) := q27_3
                replace q27_4 : n_S σ → n_S τ29 := q27_4
                replace q27_5 : n_hk σ τ29 := q27_5
                replace ag : m_ag σ τ29 := ag_r ag hf_τ29 rfl rfl
                have w0_τ29 : τ29.1 0 = σ.1 0 := hf_τ29.1 0 (by decide)
                have w2_τ29 : τ29.1 2 = σ.1 2 := hf_τ29.1 2 (by decide)
                have w3_τ29 : τ29.1 3 = σ.1 3 := hf_τ29.1 3 (by decide)
                have w4_τ29 : τ29.1 4 = σ.1 4 := hf_τ29.1 4 (by decide)
                have w5_τ29 : τ29.1 5 = σ.1 5 := hf_τ29.1 5 (by decide)
                have w6_τ29 : τ29.1 6 = σ.1 6 := hf_τ29.1 6 (by decide)
                have w7_τ29 : τ29.1 7 = σ.1 7 := hf_τ29.1 7 (by decide)
                have w8_τ29 : τ29.1 8 = σ.1 8 := hf_τ29.1 8 (by decide)
                have w9_τ29 : τ29.1 9 = σ.1 9 := hf_τ29.1 9 (by decide)
                have w10_τ29 : τ29.1 10 = σ.1 10 := hf_τ29.1 10 (by decide)
                have w11_τ29 : τ29.1 11 = σ.1 11 := hf_τ29.1 11 (by decide)
                have w16_τ29 : τ29.1 16 = σ.1 16 := hf_τ29.1 16 (by decide)
                have w17_τ29 : τ29.1 17 = σ.1 17 := hf_τ29.1 17 (by decide)
                have w18_τ29 : τ29.1 18 = σ.1 18 := hf_τ29.1 18 (by decide)
                have w19_τ29 : τ29.1 19 = σ.1 19 := hf_τ29.1 19 (by decide)
                have g1_τ29 : τ29.2.1 1 = σ.2.1 1 := hf_τ29.2.1 1 (by decide)
                have g2_τ29 : τ29.2.1 2 = σ.2.1 2 := hf_τ29.2.1 2 (by decide)
                have g3_τ29 : τ29.2.1 3 = σ.2.1 3 := hf_τ29.2.1 3 (by decide)
                have g6_τ29 : τ29.2.1 6 = σ.2.1 6 := hf_τ29.2.1 6 (by decide)
                have g7_τ29 : τ29.2.1 7 = σ.2.1 7 := hf_τ29.2.1 7 (by decide)
                have g10_τ29 : τ29.2.1 10 = σ.2.1 10 := hf_τ29.2.1 10 (by decide)
                have g12_τ29 : τ29.2.1 12 = σ.2.1 12 := hf_τ29.2.1 12 (by decide)
                have g13_τ29 : τ29.2.1 13 = σ.2.1 13 := hf_τ29.2.1 13 (by decide)
                have g21_τ29 : τ29.2.1 21 = σ.2.1 21 := hf_τ29.2.1 21 (by decide)
                have g22_τ29 : τ29.2.1 22 = σ.2.1 22 := hf_τ29.2.1 22 (by decide)
                have g28_τ29 : τ29.2.1 28 = σ.2.1 28 := hf_τ29.2.1 28 (by decide)
                have g31_τ29 : τ29.2.1 31 = σ.2.1 31 := hf_τ29.2.1 31 (by decide)
                first | (have ca_τ29 := congr (congrArg ca g9_τ29) w3_τ29) | skip
                first | (have o6_τ29 := congrArg oc g6_τ29) | skip
                first | (have o7_τ29 := congrArg oc g7_τ29) | skip
                have W0 : τ29.1 0 = σ.1 0 := by first | exact w0_τ29.trans W0 | omega
                have Y20 : ca (τ29.2.1 12) ((τ29.1 3)) ≤ (τ29.1 4) := by rw [show (ca (τ29.2.1 12) ((τ29.1 3)) ≤ (τ29.1 4)) = (ca (σ.2.1 12) ((σ.1 3)) ≤ (σ.1 4)) from by rw [w3_τ29, w4_τ29, g12_τ29]]; exact Y20
                have Y8 : j_eq ((σ.1 9)) (σ.2.1 28) (τ29.2.1 28) := by rw [show (j_eq ((σ.1 9)) (σ.2.1 28) (τ29.2.1 28)) = (j_eq ((σ.1 9)) (σ.2.1 28) (σ.2.1 28)) from by rw [g28_τ29]]; exact Y8
                have Y1 : j_l2 (τ29.2.1 6) (τ29.1 3) := by rw [show (j_l2 (τ29.2.1 6) (τ29.1 3)) = (j_l2 (σ.2.1 6) (σ.1 3)) from by rw [w3_τ29, g6_τ29]]; exact Y1
                have PA : J_pa (τ29.2.1 21) (τ29.2.1 22) := by rw [show (J_pa (τ29.2.1 21) (τ29.2.1 22)) = (J_pa (σ.2.1 21) (σ.2.1 22)) from by rw [g21_τ29, g22_τ29]]; exact PA
                have SYt : oc (τ29.2.1 6) ≤ (τ29.1 3) := by rw [show (oc (τ29.2.1 6) ≤ (τ29.1 3)) = (oc (σ.2.1 6) ≤ (σ.1 3)) from by rw [w3_τ29, g6_τ29]]; exact SYt
                have LAt : oc (τ29.2.1 7) ≤ (τ29.1 5) := by rw [show (oc (τ29.2.1 7) ≤ (τ29.1 5)) = (oc (σ.2.1 7) ≤ (σ.1 5)) from by rw [w5_τ29, g7_τ29]]; exact LAt
                have AVt : (τ29.1 12) ≤ ca (τ29.2.1 9) (τ29.1 3) := q27_2
                have STt : j_l2 (τ29.2.1 6) (τ29.1 3) := by rw [show (j_l2 (τ29.2.1 6) (τ29.1 3)) = (j_l2 (σ.2.1 6) (σ.1 3)) from by rw [w3_τ29, g6_τ29]]; exact STt
                have NTB : n_tb (τ29.1 3) (τ29.2.1 1) (τ29.2.1 2) (τ29.2.1 3) (τ29.2.1 6) := by rw [show (n_tb (τ29.1 3) (τ29.2.1 1) (τ29.2.1 2) (τ29.2.1 3) (τ29.2.1 6)) = (n_tb (σ.1 3) (σ.2.1 1) (σ.2.1 2) (σ.2.1 3) (σ.2.1 6)) from by rw [w3_τ29, g1_τ29, g2_τ29, g3_τ29, g6_τ29]]; exact NTB
                have NNM : n_nm (τ29.1 3) (τ29.1 2) (τ29.2.1 2) (τ29.2.1 3) := by rw [show (n_nm (τ29.1 3) (τ29.1 2) (τ29.2.1 2) (τ29.2.1 3)) = (n_nm (σ.1 3) (σ.1 2) (σ.2.1 2) (σ.2.1 3)) from by rw [w2_τ29, w3_τ29, g2_τ29, g3_τ29]]; exact NNM
                have NTU : n_tu (τ29.1 3) (τ29.1 10) (τ29.1 11) (τ29.2.1 1) (τ29.2.1 2) (τ29.2.1 3) := by rw [show (n_tu (τ29.1 3) (τ29.1 10) (τ29.1 11) (τ29.2.1 1) (τ29.2.1 2) (τ29.2.1 3)) = (n_tu (σ.1 3) (σ.1 10) (σ.1 11) (σ.2.1 1) (σ.2.1 2) (σ.2.1 3)) from by rw [w3_τ29, w10_τ29, w11_τ29, g1_τ29, g2_τ29, g3_τ29]]; exact NTU
                have A1 : ∀ j, 0 ≤ τ29.2.1 1 j ∧ τ29.2.1 1 j ≤ 255 := fun j => hT.2 1 j
                have A2 : ∀ j, 0 ≤ τ29.2.1 2 j ∧ τ29.2.1 2 j ≤ 30000 := fun j => hT.2 2 j
                have A3 : ∀ j, 0 ≤ τ29.2.1 3 j ∧ τ29.2.1 3 j ≤ 60 := fun j => hT.2 3 j
                have A6 : ∀ j, (-1) ≤ τ29.2.1 6 j ∧ τ29.2.1 6 j ≤ 999 := fun j => hT.2 6 j
                have A7 : ∀ j, (-1) ≤ τ29.2.1 7 j ∧ τ29.2.1 7 j ≤ 1499 := fun j => hT.2 7 j
                have A9 : ∀ j, 0 ≤ τ29.2.1 9 j ∧ τ29.2.1 9 j ≤ 1 := fun j => hT.2 9 j
                have A10 : ∀ j, (-1) ≤ τ29.2.1 10 j ∧ τ29.2.1 10 j ≤ 999 := fun j => hT.2 10 j
                have A11 : ∀ j, (-1) ≤ τ29.2.1 11 j ∧ τ29.2.1 11 j ≤ 1499 := fun j => hT.2 11 j
                have A12 : ∀ j, 0 ≤ τ29.2.1 12 j ∧ τ29.2.1 12 j ≤ 1 := fun j => hT.2 12 j
                have A13 : ∀ j, 0 ≤ τ29.2.1 13 j ∧ τ29.2.1 13 j ≤ 4 := fun j => hT.2 13 j
                have A21 : ∀ j, 0 ≤ τ29.2.1 21 j ∧ τ29.2.1 21 j ≤ 20000 := fun j => hT.2 21 j
                have A22 : ∀ j, 0 ≤ τ29.2.1 22 j ∧ τ29.2.1 22 j ≤ 20000 := fun j => hT.2 22 j
                have A28 : ∀ j, 0 ≤ τ29.2.1 28 j ∧ τ29.2.1 28 j ≤ 1 := fun j => hT.2 28 j
                have A31 : ∀ j, 0 ≤ τ29.2.1 31 j ∧ τ29.2.1 31 j ≤ 1499 := fun j => hT.2 31 j
                have A35 : ∀ j, 0 ≤ τ29.2.1 35 j ∧ τ29.2.1 35 j ≤ 1500 := fun j => hT.2 35 j
                have v0 : 0 ≤ τ29.1 0 ∧ τ29.1 0 ≤ 60000 := hT.1 0
                have v2 : 0 ≤ τ29.1 2 ∧ τ29.1 2 ≤ 30000 := hT.1 2
                have v3 : 0 ≤ τ29.1 3 ∧ τ29.1 3 ≤ 1000 := hT.1 3
                have v4 : 0 ≤ τ29.1 4 ∧ τ29.1 4 ≤ 100 := hT.1 4
                have v5 : 0 ≤ τ29.1 5 ∧ τ29.1 5 ≤ 1500 := hT.1 5
                have v6 : 0 ≤ τ29.1 6 ∧ τ29.1 6 ≤ 30000 := hT.1 6
                have v7 : 0 ≤ τ29.1 7 ∧ τ29.1 7 ≤ 90000 := hT.1 7
                have v8 : 0 ≤ τ29.1 8 ∧ τ29.1 8 ≤ 20000 := hT.1 8
                have v9 : 0 ≤ τ29.1 9 ∧ τ29.1 9 ≤ 20000 := hT.1 9
                have v10 : (-1) ≤ τ29.1 10 ∧ τ29.1 10 ≤ 999 := hT.1 10
                have v11 : (-1) ≤ τ29.1 11 ∧ τ29.1 11 ≤ 999 := hT.1 11
                have v12 : 0 ≤ τ29.1 12 ∧ τ29.1 12 ≤ 1000 := hT.1 12
                have v13 : 0 ≤ τ29.1 13 ∧ τ29.1 13 ≤ 1500 := hT.1 13
                have v15 : 0 ≤ τ29.1 15 ∧ τ29.1 15 ≤ 50 := hT.1 15
                have v16 : 0 ≤ τ29.1 16 ∧ τ29.1 16 ≤ 60000 := hT.1 16
                have v17 : 0 ≤ τ29.1 17 ∧ τ29.1 17 ≤ 60000 := hT.1 17
                have v18 : 0 ≤ τ29.1 18 ∧ τ29.1 18 ≤ 60000 := hT.1 18
                have v19 : (-1) ≤ τ29.1 19 ∧ τ29.1 19 ≤ 125 := hT.1 19
                have v20 : 0 ≤ τ29.1 20 ∧ τ29.1 20 ≤ 19 := hT.1 20
                have av3 : σ.1 3 ≤ τ29.1 3 := ag.1 3 (by decide)
                have av5 : σ.1 5 ≤ τ29.1 5 := ag.1 5 (by decide)
                have av6 : σ.1 6 ≤ τ29.1 6 := ag.1 6 (by decide)
                have av7 : σ.1 7 ≤ τ29.1 7 := ag.1 7 (by decide)
                have av8 : σ.1 8 ≤ τ29.1 8 := ag.1 8 (by decide)
                have av9 : σ.1 9 ≤ τ29.1 9 := ag.1 9 (by decide)
                exact ⟨hT, (show (τ29.1 16) ≤ (τ29.1 0) from by (first | omega | (simp only [st_s] <;> omega) | assumption | omega | fail)), (show (τ29.1 17) + (τ29.1 18) ≤ (τ29.1 0) from by (first | omega | (simp only [st_s] <;> omega) | assumption | omega | fail)), (show ¬ (σ.1 20) = 0 → (τ29.1 20) = (σ.1 20) from by (first | omega | (simp only [st_s] <;> omega) | assumption | omega | fail)), (show oc (τ29.2.1 6) ≤ (τ29.1 3) from SYt), (show (τ29.1 12) ≤ ca (τ29.2.1 9) (τ29.1 3) from AVt), (show j_l2 (τ29.2.1 6) (τ29.1 3) from Y1), (show ca (τ29.2.1 12) ((τ29.1 3)) ≤ (τ29.1 4) from Y20), (show J_pa (τ29.2.1 21) (τ29.2.1 22) from PA), (show (τ29.1 13) ≤ (τ29.1 5) from by (first | omega | (simp only [st_s] <;> omega) | assumption | omega | fail)), (show (τ29.1 20) = 0 → oc (τ29.2.1 7) ≤ (τ29.1 5) from by (first | omega | (simp only [st_s] <;> omega) | assumption | omega | fail)), (show (τ29.1 20) = 0 → (τ29.1 7) ≤ 60 * (τ29.1 5) from by (first | omega | (simp only [st_s] <;> omega) | assumption | omega | fail)), (show j_eq ((σ.1 9)) (σ.2.1 28) (τ29.2.1 28) from Y8), (show (τ29.1 20) = 0 → m_J σ → m_J τ29 from by (first | (intro hf; exfalso; omega) | (intro hf hJ; first | exact q23_12 hf hJ | exact m_J_f hJ hf_τ12 rfl rfl | exact m_J_f hJ hf_τ15 rfl rfl | exact m_J_f hJ hf_τ19 rfl rfl | exact m_J_f hJ hf_τ29 rfl rfl) | fail)), (show (σ.1 5) ≤ (τ29.1 5) from by (first | omega | (simp only [st_s] <;> omega) | assumption | omega | fail)), (show (σ.1 16) ≤ (τ29.1 16) from by (first | omega | (simp only [st_s] <;> omega) | assumption | omega | fail)), ag, (show (τ29.1 20) = 0 → n_J τ29 ∧ n_S τ29 from by (first | (intro z; exfalso; omega) | exact q23_15 | exact fun _ => ⟨Jτ15, Sτ15⟩ | exact fun _ => ⟨Jτ19, Sτ19⟩ | exact fun _ => ⟨n_J_hh p15 hf_τ12 rfl rfl, n_S_h p14 hf_τ12 rfl rfl⟩ | exact fun _ => ⟨n_J_hh p15 hf_τ29 rfl rfl, q27_4 p14⟩ | fail)), (show n_rl σ τ29 from by (first | exact q23_16 | exact q13_10 | exact q17_10 | exact n_rl_h hf_τ9 rfl rfl | exact n_rl_h hf_τ12 rfl rfl | exact n_rl_h hf_τ22 rfl rfl | exact n_rl_h hf_τ29 rfl rfl | fail)), (show n_hk σ τ29 from by (first | exact q23_17 | exact q27_5 | exact n_hk_h hf_τ9 rfl rfl | exact n_hk_h hf_τ12 rfl rfl | exact n_hk_h hf_τ22 rfl rfl | exact n_hk_h hf_τ15 rfl rfl | exact n_hk_h hf_τ19 rfl rfl | fail)), (show n_rc σ τ29 from by (first | exact q23_18 | exact q13_11 | exact q17_11 | exact n_rc_h hf_τ9 rfl rfl | exact n_rc_h hf_τ12 rfl rfl | exact n_rc_h hf_τ22 rfl rfl | exact n_rc_h hf_τ29 rfl rfl | fail)), (show n_tb (τ29.1 3) (τ29.2.1 1) (τ29.2.1 2) (τ29.2.1 3) (τ29.2.1 6) from NTB), (show n_nm (τ29.1 3) (τ29.1 2) (τ29.2.1 2) (τ29.2.1 3) from NNM), (show n_tu (τ29.1 3) (τ29.1 10) (τ29.1 11) (τ29.2.1 1) (τ29.2.1 2) (τ29.2.1 3) from NTU)⟩
        ·
          refine ⟨_, K_X13_readApart hT (show (σ.1 16) ≤ (σ.1 0) from by (first | omega | (simp only [st_s] <;> omega) | assumption | omega | fail)) (show oc (σ.2.1 6) < 4096 from by (first | omega | (simp only [st_s] <;> omega) | assumption | omega | fail)) (show oc (σ.2.1 7) < 4096 from by (first | omega | (simp only [st_s] <;> omega) | assumption | omega | fail)), ?_⟩
          intro τ12 hn_τ12 hf_τ12 hq
          obtain ⟨hT, q10_1, q10_2, q10_3, q10_4⟩ := hq
          replace q10_1 : (τ12.1 16) ≤ (τ12.1 0) := q10_1
          replace q10_2 : (τ12.1 17) + (τ12.1 18) ≤ (τ12.1 0) := q10_2
          replace q10_3 : ¬ (σ.1 20) = 0 → (τ12.1 20) = (σ.1 20) := q10_3
          replace q10_4 : (σ.1 16) ≤ (τ12.1 16) := q10_4
          replace ag : m_ag σ τ12 := ag_r ag hf_τ12 rfl rfl
          have w0_τ12 : τ12.1 0 = σ.1 0 := hf_τ12.1 0 (by decide)
          have w2_τ12 : τ12.1 2 = σ.1 2 := hf_τ12.1 2 (by decide)
          have w3_τ12 : τ12.1 3 = σ.1 3 := hf_τ12.1 3 (by decide)
          have w4_τ12 : τ12.1 4 = σ.1 4 := hf_τ12.1 4 (by decide)
          have w5_τ12 : τ12.1 5 = σ.1 5 := hf_τ12.1 5 (by decide)
          have w6_τ12 : τ12.1 6 = σ.1 6 := hf_τ12.1 6 (by decide)
          have w7_τ12 : τ12.1 7 = σ.1 7 := hf_τ12.1 7 (by decide)
          have w8_τ12 : τ12.1 8 = σ.1 8 := hf_τ12.1 8 (by decide)
          have w9_τ12 : τ12.1 9 = σ.1 9 := hf_τ12.1 9 (by decide)
          have w10_τ12 : τ12.1 10 = σ.1 10 := hf_τ12.1 10 (by decide)
          have w11_τ12 : τ12.1 11 = σ.1 11 := hf_τ12.1 11 (by decide)
          have w12_τ12 : τ12.1 12 = σ.1 12 := hf_τ12.1 12 (by decide)
          have w13_τ12 : τ12.1 13 = σ.1 13 := hf_τ12.1 13 (by decide)
          have w15_τ12 : τ12.1 15 = σ.1 15 := hf_τ12.1 15 (by decide)
          have g1_τ12 : τ12.2.1 1 = σ.2.1 1 := hf_τ12.2.1 1 (by decide)
          have g2_τ12 : τ12.2.1 2 = σ.2.1 2 := hf_τ12.2.1 2 (by decide)
          have g3_τ12 : τ12.2.1 3 = σ.2.1 3 := hf_τ12.2.1 3 (by decide)
          have g6_τ12 : τ12.2.1 6 = σ.2.1 6 := hf_τ12.2.1 6 (by decide)
          have g7_τ12 : τ12.2.1 7 = σ.2.1 7 := hf_τ12.2.1 7 (by decide)
          have g9_τ12 : τ12.2.1 9 = σ.2.1 9 := hf_τ12.2.1 9 (by decide)
          have g10_τ12 : τ12.2.1 10 = σ.2.1 10 := hf_τ12.2.1 10 (by decide)
          have g11_τ12 : τ12.2.1 11 = σ.2.1 11 := hf_τ12.2.1 11 (by decide)
          have g12_τ12 : τ12.2.1 12 = σ.2.1 12 := hf_τ12.2.1 12 (by decide)
          have g13_τ12 : τ12.2.1 13 = σ.2.1 13 := hf_τ12.2.1 13 (by decide)
          have g21_τ12 : τ12.2.1 21 = σ.2.1 21 := hf_τ12.2.1 21 (by decide)
          have g22_τ12 : τ12.2.1 22 = σ.2.1 22 := hf_τ12.2.1 22 (by decide)
          have g28_τ12 : τ12.2.1 28 = σ.2.1 28 := hf_τ12.2.1 28 (by decide)
          have g31_τ12 : τ12.2.1 31 = σ.2.1 31 := hf_τ12.2.1 31 (by decide)
          have g35_τ12 : τ12.2.1 35 = σ.2.1 35 := hf_τ12.2.1 35 (by decide)
          first | (have ca_τ12 := congr (congrArg ca g9_τ12) w3_τ12) | skip
          first | (have o6_τ12 := congrArg oc g6_τ12) | skip
          first | (have o7_τ12 := congrArg oc g7_τ12) | skip
          have W0 : τ12.1 0 = σ.1 0 := by first | exact w0_τ12.trans W0 | omega
          have Y20 : ca (τ12.2.1 12) ((τ12.1 3)) ≤ (τ12.1 4) := by rw [show (ca (τ12.2.1 12) ((τ12.1 3)) ≤ (τ12.1 4)) = (ca (σ.2.1 12) ((σ.1 3)) ≤ (σ.1 4)) from by rw [w3_τ12, w4_τ12, g12_τ12]]; exact Y20
          have Y8 : j_eq ((σ.1 9)) (σ.2.1 28) (τ12.2.1 28) := by rw [show (j_eq ((σ.1 9)) (σ.2.1 28) (τ12.2.1 28)) = (j_eq ((σ.1 9)) (σ.2.1 28) (σ.2.1 28)) from by rw [g28_τ12]]; exact Y8
          have Y1 : j_l2 (τ12.2.1 6) (τ12.1 3) := by rw [show (j_l2 (τ12.2.1 6) (τ12.1 3)) = (j_l2 (σ.2.1 6) (σ.1 3)) from by rw [w3_τ12, g6_τ12]]; exact Y1
          have PA : J_pa (τ12.2.1 21) (τ12.2.1 22) := by rw [show (J_pa (τ12.2.1 21) (τ12.2.1 22)) = (J_pa (σ.2.1 21) (σ.2.1 22)) from by rw [g21_τ12, g22_τ12]]; exact PA
          have SYt : oc (τ12.2.1 6) ≤ (τ12.1 3) := by rw [show (oc (τ12.2.1 6) ≤ (τ12.1 3)) = (oc (σ.2.1 6) ≤ (σ.1 3)) from by rw [w3_τ12, g6_τ12]]; exact SYt
          have LAt : oc (τ12.2.1 7) ≤ (τ12.1 5) := by rw [show (oc (τ12.2.1 7) ≤ (τ12.1 5)) = (oc (σ.2.1 7) ≤ (σ.1 5)) from by rw [w5_τ12, g7_τ12]]; exact LAt
          have AVt : (τ12.1 12) ≤ ca (τ12.2.1 9) (τ12.1 3) := by rw [show ((τ12.1 12) ≤ ca (τ12.2.1 9) (τ12.1 3)) = ((σ.1 12) ≤ ca (σ.2.1 9) (σ.1 3)) from by rw [w3_τ12, w12_τ12, g9_τ12]]; exact AVt
          have STt : j_l2 (τ12.2.1 6) (τ12.1 3) := by rw [show (j_l2 (τ12.2.1 6) (τ12.1 3)) = (j_l2 (σ.2.1 6) (σ.1 3)) from by rw [w3_τ12, g6_τ12]]; exact STt
          have NTB : n_tb (τ12.1 3) (τ12.2.1 1) (τ12.2.1 2) (τ12.2.1 3) (τ12.2.1 6) := by rw [show (n_tb (τ12.1 3) (τ12.2.1 1) (τ12.2.1 2) (τ12.2.1 3) (τ12.2.1 6)) = (n_tb (σ.1 3) (σ.2.1 1) (σ.2.1 2) (σ.2.1 3) (σ.2.1 6)) from by rw [w3_τ12, g1_τ12, g2_τ12, g3_τ12, g6_τ12]]; exact NTB
          have NNM : n_nm (τ12.1 3) (τ12.1 2) (τ12.2.1 2) (τ12.2.1 3) := by rw [show (n_nm (τ12.1 3) (τ12.1 2) (τ12.2.1 2) (τ12.2.1 3)) = (n_nm (σ.1 3) (σ.1 2) (σ.2.1 2) (σ.2.1 3)) from by rw [w2_τ12, w3_τ12, g2_τ12, g3_τ12]]; exact NNM
          have NTU : n_tu (τ12.1 3) (τ12.1 10) (τ12.1 11) (τ12.2.1 1) (τ12.2.1 2) (τ12.2.1 3) := by rw [show (n_tu (τ12.1 3) (τ12.1 10) (τ12.1 11) (τ12.2.1 1) (τ12.2.1 2) (τ12.2.1 3)) = (n_tu (σ.1 3) (σ.1 10) (σ.1 11) (σ.2.1 1) (σ.2.1 2) (σ.2.1 3)) from by rw [w3_τ12, w10_τ12, w11_τ12, g1_τ12, g2_τ12, g3_τ12]]; exact NTU
          have A1 : ∀ j, 0 ≤ τ12.2.1 1 j ∧ τ12.2.1 1 j ≤ 255 := fun j => hT.2 1 j
          have A2 : ∀ j, 0 ≤ τ12.2.1 2 j ∧ τ12.2.1 2 j ≤ 30000 := fun j => hT.2 2 j
          have A3 : ∀ j, 0 ≤ τ12.2.1 3 j ∧ τ12.2.1 3 j ≤ 60 := fun j => hT.2 3 j
          have A6 : ∀ j, (-1) ≤ τ12.2.1 6 j ∧ τ12.2.1 6 j ≤ 999 := fun j => hT.2 6 j
          have A7 : ∀ j, (-1) ≤ τ12.2.1 7 j ∧ τ12.2.1 7 j ≤ 1499 := fun j => hT.2 7 j
          have A9 : ∀ j, 0 ≤ τ12.2.1 9 j ∧ τ12.2.1 9 j ≤ 1 := fun j => hT.2 9 j
          have A10 : ∀ j, (-1) ≤ τ12.2.1 10 j ∧ τ12.2.1 10 j ≤ 999 := fun j => hT.2 10 j
          have A11 : ∀ j, (-1) ≤ τ12.2.1 11 j ∧ τ12.2.1 11 j ≤ 1499 := fun j => hT.2 11 j
          have A12 : ∀ j, 0 ≤ τ12.2.1 12 j ∧ τ12.2.1 12 j ≤ 1 := fun j => hT.2 12 j
          have A13 : ∀ j, 0 ≤ τ12.2.1 13 j ∧ τ12.2.1 13 j ≤ 4 := fun j => hT.2 13 j
          have A21 : ∀ j, 0 ≤ τ12.2.1 21 j ∧ τ12.2.1 21 j ≤ 20000 := fun j => hT.2 21 j
          have A22 : ∀ j, 0 ≤ τ12.2.1 22 j ∧ τ12.2.1 22 j ≤ 20000 := fun j => hT.2 22 j
          have A28 : ∀ j, 0 ≤ τ12.2.1 28 j ∧ τ12.2.1 28 j ≤ 1 := fun j => hT.2 28 j
          have A31 : ∀ j, 0 ≤ τ12.2.1 31 j ∧ τ12.2.1 31 j ≤ 1499 := fun j => hT.2 31 j
          have A35 : ∀ j, 0 ≤ τ12.2.1 35 j ∧ τ12.2.1 35 j ≤ 1500 := fun j => hT.2 35 j
          have v0 : 0 ≤ τ12.1 0 ∧ τ12.1 0 ≤ 60000 := hT.1 0
          have v2 : 0 ≤ τ12.1 2 ∧ τ12.1 2 ≤ 30000 := hT.1 2
          have v3 : 0 ≤ τ12.1 3 ∧ τ12.1 3 ≤ 1000 := hT.1 3
          have v4 : 0 ≤ τ12.1 4 ∧ τ12.1 4 ≤ 100 := hT.1 4
          have v5 : 0 ≤ τ12.1 5 ∧ τ12.1 5 ≤ 1500 := hT.1 5
          have v6 : 0 ≤ τ12.1 6 ∧ τ12.1 6 ≤ 30000 := hT.1 6
          have v7 : 0 ≤ τ12.1 7 ∧ τ12.1 7 ≤ 90000 := hT.1 7
          have v8 : 0 ≤ τ12.1 8 ∧ τ12.1 8 ≤ 20000 := hT.1 8
          have v9 : 0 ≤ τ12.1 9 ∧ τ12.1 9 ≤ 20000 := hT.1 9
          have v10 : (-1) ≤ τ12.1 10 ∧ τ12.1 10 ≤ 999 := hT.1 10
          have v11 : (-1) ≤ τ12.1 11 ∧ τ12.1 11 ≤ 999 := hT.1 11
          have v12 : 0 ≤ τ12.1 12 ∧ τ12.1 12 ≤ 1000 := hT.1 12
          have v13 : 0 ≤ τ12.1 13 ∧ τ12.1 13 ≤ 1500 := hT.1 13
          have v15 : 0 ≤ τ12.1 15 ∧ τ12.1 15 ≤ 50 := hT.1 15
          have v16 : 0 ≤ τ12.1 16 ∧ τ12.1 16 ≤ 60000 := hT.1 16
          have v17 : 0 ≤ τ12.1 17 ∧ τ12.1 17 ≤ 60000 := hT.1 17
          have v18 : 0 ≤ τ12.1 18 ∧ τ12.1 18 ≤ 60000 := hT.1 18
          have v19 : (-1) ≤ τ12.1 19 ∧ τ12.1 19 ≤ 125 := hT.1 19
          have v20 : 0 ≤ τ12.1 20 ∧ τ12.1 20 ≤ 19 := hT.1 20
          have av3 : σ.1 3 ≤ τ12.1 3 := ag.1 3 (by decide)
          have av5 : σ.1 5 ≤ τ12.1 5 := ag.1 5 (by decide)
          have av6 : σ.1 6 ≤ τ12.1 6 := ag.1 6 (by decide)
          have av7 : σ.1 7 ≤ τ12.1 7 := ag.1 7 (by decide)
          have av8 : σ.1 8 ≤ τ12.1 8 := ag.1 8 (by decide)
          have av9 : σ.1 9 ≤ τ12.1 9 := ag.1 9 (by decide)
          exact ⟨hT, (show (τ12.1 16) ≤ (τ12.1 0) from by (first | omega | (simp only [st_s] <;> omega) | assumption | omega | fail)), (show (τ12.1 17) + (τ12.1 18) ≤ (τ12.1 0) from by (first | omega | (simp only [st_s] <;> omega) | assumption | omega | fail)), (show ¬ (σ.1 20) = 0 → (τ12.1 20) = (σ.1 20) from by (first | omega | (simp only [st_s] <;> omega) | assumption | omega | fail)), (show oc (τ12.2.1 6) ≤ (τ12.1 3) from SYt), (show (τ12.1 12) ≤ ca (τ12.2.1 9) (τ12.1 3) from AVt), (show j_l2 (τ12.2.1 6) (τ12.1 3) from Y1), (show ca (τ12.2.1 12) ((τ12.1 3)) ≤ (τ12.1 4) from Y20), (show J_pa (τ12.2.1 21) (τ12.2.1 22) from PA), (show (τ12.1 13) ≤ (τ12.1 5) from by (first | omega | (simp only [st_s] <;> omega) | assumption | omega | fail)), (show (τ12.1 20) = 0 → oc (τ12.2.1 7) ≤ (τ12.1 5) from by (first | omega | (simp only [st_s] <;> omega) | assumption | omega | fail)), (show (τ12.1 20) = 0 → (τ12.1 7) ≤ 60 * (τ12.1 5) from by (first | omega | (simp only [st_s] <;> omega) | assumption | omega | fail)), (show j_eq ((σ.1 9)) (σ.2.1 28) (τ12.2.1 28) from Y8), (show (τ12.1 20) = 0 → m_J σ → m_J τ12 from by (first | (intro hf; exfalso; omega) | (intro hf hJ; first | exact q23_12 hf hJ | exact m_J_f hJ hf_τ12 rfl rfl | exact m_J_f hJ hf_τ15 rfl rfl | exact m_J_f hJ hf_τ19 rfl rfl | exact m_J_f hJ hf_τ29 rfl rfl) | fail)), (show (σ.1 5) ≤ (τ12.1 5) from by (first | omega | (simp only [st_s] <;> omega) | assumption | omega | fail)), (show (σ.1 16) ≤ (τ12.1 16) from by (first | omega | (simp only [st_s] <;> omega) | assumption | omega | fail)), ag, (show (τ12.1 20) = 0 → n_J τ12 ∧ n_S τ12 from by (first | (intro z; exfalso; omega) | exact q23_15 | exact fun _ => ⟨Jτ15, Sτ15⟩ | exact fun _ => ⟨Jτ19, Sτ19⟩ | exact fun _ => ⟨n_J_hh p15 hf_τ12 rfl rfl, n_S_h p14 hf_τ12 rfl rfl⟩ | exact fun _ => ⟨n_J_hh p15 hf_τ29 rfl rfl, q27_4 p14⟩ | fail)), (show n_rl σ τ12 from by (first | exact q23_16 | exact q13_10 | exact q17_10 | exact n_rl_h hf_τ9 rfl rfl | exact n_rl_h hf_τ12 rfl rfl | exact n_rl_h hf_τ22 rfl rfl | exact n_rl_h hf_τ29 rfl rfl | fail)), (show n_hk σ τ12 from by (first | exact q23_17 | exact q27_5 | exact n_hk_h hf_τ9 rfl rfl | exact n_hk_h hf_τ12 rfl rfl | exact n_hk_h hf_τ22 rfl rfl | exact n_hk_h hf_τ15 rfl rfl | exact n_hk_h hf_τ19 rfl rfl | fail)), (show n_rc σ τ12 from by (first | exact q23_18 | exact q13_11 | exact q17_11 | exact n_rc_h hf_τ9 rfl rfl | exact n_rc_h hf_τ12 rfl rfl | exact n_rc_h hf_τ22 rfl rfl | exact n_rc_h hf_τ29 rfl rfl | fail)), (show n_tb (τ12.1 3) (τ12.2.1 1) (τ12.2.1 2) (τ12.2.1 3) (τ12.2.1 6) from NTB), (show n_nm (τ12.1 3) (τ12.1 2) (τ12.2.1 2) (τ12.2.1 3) from NNM), (show n_tu (τ12.1 3) (τ12.1 10) (τ12.1 11) (τ12.2.1 1) (τ12.2.1 2) (τ12.2.1 3) from NTU)⟩
      ·
        refine ⟨_, K3_X13_readDeclared hT (show 0 ≤ (1 : Int) ∧ (1 : Int) ≤ 1 from by (first | omega | (simp only [st_s] <;> omega) | assumption | omega | fail)) (show (σ.1 16) ≤ (σ.1 0) from by (first | omega | (simp only [st_s] <;> omega) | assumption | omega | fail)) (show oc (σ.2.1 6) ≤ (σ.1 3) from SYt) (show oc (σ.2.1 7) < 4096 from by (first | omega | (simp only [st_s] <;> omega) | assumption | omega | fail)) (show (σ.1 12) ≤ ca (σ.2.1 9) (σ.1 3) from AVt) (show j_l2 (σ.2.1 6) (σ.1 3) from Y1) (show ca (σ.2.1 12) ((σ.1 3)) ≤ (σ.1 4) from Y20) (show n_tb (σ.1 3) (σ.2.1 1) (σ.2.1 2) (σ.2.1 3) (σ.2.1 6) from NTB) (show n_nm (σ.1 3) (σ.1 2) (σ.2.1 2) (σ.2.1 3) from NNM) (show n_tu (σ.1 3) (σ.1 10) (σ.1 11) (σ.2.1 1) (σ.2.1 2) (σ.2.1 3) from NTU), ?_⟩
        intro τ15 hn_τ15 hf_τ15 hq
        obtain ⟨hT, q13_1, q13_2, q13_3, q13_4, q13_5, q13_6, q13_7, q13_8, q13_9, q13_10, q13_11, q13_12, q13_13, q13_14, q13_15⟩ := hq
        replace q13_1 : oc (τ15.2.1 6) ≤ (τ15.1 3) := q13_1
        replace q13_2 : (τ15.1 12) ≤ ca (τ15.2.1 9) (τ15.1 3) := q13_2
        replace q13_3 : (τ15.1 16) ≤ (τ15.1 0) := q13_3
        replace q13_4 : ¬ (σ.1 20) = 0 → (τ15.1 20) = (σ.1 20) := q13_4
        replace q13_5 : j_l2 (τ15.2.1 6) (τ15.1 3) := q13_5
        replace q13_6 : ca (τ15.2.1 12) ((τ15.1 3)) ≤ (τ15.1 4) := q13_6
        replace q13_7 : (τ15.1 17) + (τ15.1 18) ≤ (τ15.1 0) := q13_7
        replace q13_8 : (σ.1 16) ≤ (τ15.1 16) := q13_8
        replace q13_9 : m_ag σ τ15 := q13_9
        replace q13_10 : n_rl σ τ15 := q13_10
        replace q13_11 : n_rc σ τ15 := q13_11
        replace q13_12 : n_fo σ τ15 := q13_12
        replace q13_13 : n_tb (τ15.1 3) (τ15.2.1 1) (τ15.2.1 2) (τ15.2.1 3) (τ15.2.1 6) := q13_13
        replace q13_14 : n_nm (τ15.1 3) (τ15.1 2) (τ15.2.1 2) (τ15.2.1 3) := q13_14
        replace q13_15 : n_tu (τ15.1 3) (τ15.1 10) (τ15.1 11) (τ15.2.1 1) (τ15.2.1 2) (τ15.2.1 3) := q13_15
        replace ag : m_ag σ τ15 := ag_t ag q13_9 rfl
        have w0_τ15 : τ15.1 0 = σ.1 0 := hf_τ15.1 0 (by decide)
        have w4_τ15 : τ15.1 4 = σ.1 4 := hf_τ15.1 4 (by decide)
        have w5_τ15 : τ15.1 5 = σ.1 5 := hf_τ15.1 5 (by decide)
        have w6_τ15 : τ15.1 6 = σ.1 6 := hf_τ15.1 6 (by decide)
        have w7_τ15 : τ15.1 7 = σ.1 7 := hf_τ15.1 7 (by decide)
        have w8_τ15 : τ15.1 8 = σ.1 8 := hf_τ15.1 8 (by decide)
        have w9_τ15 : τ15.1 9 = σ.1 9 := hf_τ15.1 9 (by decide)
        have w13_τ15 : τ15.1 13 = σ.1 13 := hf_τ15.1 13 (by decide)
        have w15_τ15 : τ15.1 15 = σ.1 15 := hf_τ15.1 15 (by decide)
        have g7_τ15 : τ15.2.1 7 = σ.2.1 7 := hf_τ15.2.1 7 (by decide)
        have g13_τ15 : τ15.2.1 13 = σ.2.1 13 := hf_τ15.2.1 13 (by decide)
        have g21_τ15 : τ15.2.1 21 = σ.2.1 21 := hf_τ15.2.1 21 (by decide)
        have g22_τ15 : τ15.2.1 22 = σ.2.1 22 := hf_τ15.2.1 22 (by decide)
        have g28_τ15 : τ15.2.1 28 = σ.2.1 28 := hf_τ15.2.1 28 (by decide)
        have g31_τ15 : τ15.2.1 31 = σ.2.1 31 := hf_τ15.2.1 31 (by decide)
        have g35_τ15 : τ15.2.1 35 = σ.2.1 35 := hf_τ15.2.1 35 (by decide)
        first | (have ca_τ15 := congr (congrArg ca g9_τ15) w3_τ15) | skip
        first | (have o6_τ15 := congrArg oc g6_τ15) | skip
        first | (have o7_τ15 := congrArg oc g7_τ15) | skip
        have W0 : τ15.1 0 = σ.1 0 := by first | exact w0_τ15.trans W0 | omega
        have Y20 : ca (τ15.2.1 12) ((τ15.1 3)) ≤ (τ15.1 4) := q13_6
        have Y8 : j_eq ((σ.1 9)) (σ.2.1 28) (τ15.2.1 28) := by rw [show (j_eq ((σ.1 9)) (σ.2.1 28) (τ15.2.1 28)) = (j_eq ((σ.1 9)) (σ.2.1 28) (σ.2.1 28)) from by rw [g28_τ15]]; exact Y8
        have Y1 : j_l2 (τ15.2.1 6) (τ15.1 3) := q13_5
        have PA : J_pa (τ15.2.1 21) (τ15.2.1 22) := by rw [show (J_pa (τ15.2.1 21) (τ15.2.1 22)) = (J_pa (σ.2.1 21) (σ.2.1 22)) from by rw [g21_τ15, g22_τ15]]; exact PA
        have SYt : oc (τ15.2.1 6) ≤ (τ15.1 3) := q13_1
        have LAt : oc (τ15.2.1 7) ≤ (τ15.1 5) := by rw [show (oc (τ15.2.1 7) ≤ (τ15.1 5)) = (oc (σ.2.1 7) ≤ (σ.1 5)) from by rw [w5_τ15, g7_τ15]]; exact LAt
        have AVt : (τ15.1 12) ≤ ca (τ15.2.1 9) (τ15.1 3) := q13_2
        have STt : j_l2 (τ15.2.1 6) (τ15.1 3) := q13_5
        have NTB : n_tb (τ15.1 3) (τ15.2.1 1) (τ15.2.1 2) (τ15.2.1 3) (τ15.2.1 6) := q13_13
        have NNM : n_nm (τ15.1 3) (τ15.1 2) (τ15.2.1 2) (τ15.2.1 3) := q13_14
        have NTU : n_tu (τ15.1 3) (τ15.1 10) (τ15.1 11) (τ15.2.1 1) (τ15.2.1 2) (τ15.2.1 3) := q13_15
        have A1 : ∀ j, 0 ≤ τ15.2.1 1 j ∧ τ15.2.1 1 j ≤ 255 := fun j => hT.2 1 j
        have A2 : ∀ j, 0 ≤ τ15.2.1 2 j ∧ τ15.2.1 2 j ≤ 30000 := fun j => hT.2 2 j
        have A3 : ∀ j, 0 ≤ τ15.2.1 3 j ∧ τ15.2.1 3 j ≤ 60 := fun j => hT.2 3 j
        have A6 : ∀ j, (-1) ≤ τ15.2.1 6 j ∧ τ15.2.1 6 j ≤ 999 := fun j => hT.2 6 j
        have A7 : ∀ j, (-1) ≤ τ15.2.1 7 j ∧ τ15.2.1 7 j ≤ 1499 := fun j => hT.2 7 j
        have A9 : ∀ j, 0 ≤ τ15.2.1 9 j ∧ τ15.2.1 9 j ≤ 1 := fun j => hT.2 9 j
        have A10 : ∀ j, (-1) ≤ τ15.2.1 10 j ∧ τ15.2.1 10 j ≤ 999 := fun j => hT.2 10 j
        have A11 : ∀ j, (-1) ≤ τ15.2.1 11 j ∧ τ15.2.1 11 j ≤ 1499 := fun j => hT.2 11 j
        have A12 : ∀ j, 0 ≤ τ15.2.1 12 j ∧ τ15.2.1 12 j ≤ 1 := fun j => hT.2 12 j
        have A13 : ∀ j, 0 ≤ τ15.2.1 13 j ∧ τ15.2.1 13 j ≤ 4 := fun j => hT.2 13 j
        have A21 : ∀ j, 0 ≤ τ15.2.1 21 j ∧ τ15.2.1 21 j ≤ 20000 := fun j => hT.2 21 j
        have A22 : ∀ j, 0 ≤ τ15.2.1 22 j ∧ τ15.2.1 22 j ≤ 20000 := fun j => hT.2 22 j
        have A28 : ∀ j, 0 ≤ τ15.2.1 28 j ∧ τ15.2.1 28 j ≤ 1 := fun j => hT.2 28 j
        have A31 : ∀ j, 0 ≤ τ15.2.1 31 j ∧ τ15.2.1 31 j ≤ 1499 := fun j => hT.2 31 j
        have A35 : ∀ j, 0 ≤ τ15.2.1 35 j ∧ τ15.2.1 35 j ≤ 1500 := fun j => hT.2 35 j
        have v0 : 0 ≤ τ15.1 0 ∧ τ15.1 0 ≤ 60000 := hT.1 0
        have v2 : 0 ≤ τ15.1 2 ∧ τ15.1 2 ≤ 30000 := hT.1 2
        have v3 : 0 ≤ τ15.1 3 ∧ τ15.1 3 ≤ 1000 := hT.1 3
        have v4 : 0 ≤ τ15.1 4 ∧ τ15.1 4 ≤ 100 := hT.1 4
        have v5 : 0 ≤ τ15.1 5 ∧ τ15.1 5 ≤ 1500 := hT.1 5
        have v6 : 0 ≤ τ15.1 6 ∧ τ15.1 6 ≤ 30000 := hT.1 6
        have v7 : 0 ≤ τ15.1 7 ∧ τ15.1 7 ≤ 90000 := hT.1 7
        have v8 : 0 ≤ τ15.1 8 ∧ τ15.1 8 ≤ 20000 := hT.1 8
        have v9 : 0 ≤ τ15.1 9 ∧ τ15.1 9 ≤ 20000 := hT.1 9
        have v10 : (-1) ≤ τ15.1 10 ∧ τ15.1 10 ≤ 999 := hT.1 10
        have v11 : (-1) ≤ τ15.1 11 ∧ τ15.1 11 ≤ 999 := hT.1 11
        have v12 : 0 ≤ τ15.1 12 ∧ τ15.1 12 ≤ 1000 := hT.1 12
        have v13 : 0 ≤ τ15.1 13 ∧ τ15.1 13 ≤ 1500 := hT.1 13
        have v15 : 0 ≤ τ15.1 15 ∧ τ15.1 15 ≤ 50 := hT.1 15
        have v16 : 0 ≤ τ15.1 16 ∧ τ15.1 16 ≤ 60000 := hT.1 16
        have v17 : 0 ≤ τ15.1 17 ∧ τ15.1 17 ≤ 60000 := hT.1 17
        have v18 : 0 ≤ τ15.1 18 ∧ τ15.1 18 ≤ 60000 := hT.1 18
        have v19 : (-1) ≤ τ15.1 19 ∧ τ15.1 19 ≤ 125 := hT.1 19
        have v20 : 0 ≤ τ15.1 20 ∧ τ15.1 20 ≤ 19 := hT.1 20
        have av3 : σ.1 3 ≤ τ15.1 3 := ag.1 3 (by decide)
        have av5 : σ.1 5 ≤ τ15.1 5 := ag.1 5 (by decide)
        have av6 : σ.1 6 ≤ τ15.1 6 := ag.1 6 (by decide)
        have av7 : σ.1 7 ≤ τ15.1 7 := ag.1 7 (by decide)
        have av8 : σ.1 8 ≤ τ15.1 8 := ag.1 8 (by decide)
        have av9 : σ.1 9 ≤ τ15.1 9 := ag.1 9 (by decide)
        have Jτ15 : n_J τ15 := by (have w := n_J_ag p15 p16 q13_9 q13_10 (by (rw [g28_τ15]; exact j_eq0 _ _)) hT0; rw [show σ.1 5 = τ15.1 5 from by omega] at w; exact w)
        have Sτ15 : n_S τ15 := n_S_ag p14 p15 p16 hT0 q13_9 (by omega) g31_τ15 q13_12.1 q13_12.2.1
        have NTB := q13_13
        have NNM := q13_14
        have NTU := q13_15
        exact ⟨hT, (show (τ15.1 16) ≤ (τ15.1 0) from by (first | omega | (simp only [st_s] <;> omega) | assumption | omega | fail)), (show (τ15.1 17) + (τ15.1 18) ≤ (τ15.1 0) from by (first | omega | (simp only [st_s] <;> omega) | assumption | omega | fail)), (show ¬ (σ.1 20) = 0 → (τ15.1 20) = (σ.1 20) from by (first | omega | (simp only [st_s] <;> omega) | assumption | omega | fail)), (show oc (τ15.2.1 6) ≤ (τ15.1 3) from SYt), (show (τ15.1 12) ≤ ca (τ15.2.1 9) (τ15.1 3) from AVt), (show j_l2 (τ15.2.1 6) (τ15.1 3) from Y1), (show ca (τ15.2.1 12) ((τ15.1 3)) ≤ (τ15.1 4) from Y20), (show J_pa (τ15.2.1 21) (τ15.2.1 22) from PA), (show (τ15.1 13) ≤ (τ15.1 5) from by (first | omega | (simp only [st_s] <;> omega) | assumption | omega | fail)), (show (τ15.1 20) = 0 → oc (τ15.2.1 7) ≤ (τ15.1 5) from by (first | omega | (simp only [st_s] <;> omega) | assumption | omega | fail)), (show (τ15.1 20) = 0 → (τ15.1 7) ≤ 60 * (τ15.1 5) from by (first | omega | (simp only [st_s] <;> omega) | assumption | omega | fail)), (show j_eq ((σ.1 9)) (σ.2.1 28) (τ15.2.1 28) from Y8), (show (τ15.1 20) = 0 → m_J σ → m_J τ15 from by (first | (intro hf; exfalso; omega) | (intro hf hJ; first | exact q23_12 hf hJ | exact m_J_f hJ hf_τ12 rfl rfl | exact m_J_f hJ hf_τ15 rfl rfl | exact m_J_f hJ hf_τ19 rfl rfl | exact m_J_f hJ hf_τ29 rfl rfl) | fail)), (show (σ.1 5) ≤ (τ15.1 5) from by (first | omega | (simp only [st_s] <;> omega) | assumption | omega | fail)), (show (σ.1 16) ≤ (τ15.1 16) from by (first | omega | (simp only [st_s] <;> omega) | assumption | omega | fail)), ag, (show (τ15.1 20) = 0 → n_J τ15 ∧ n_S τ15 from by (first | (intro z; exfalso; omega) | exact q23_15 | exact fun _ => ⟨Jτ15, Sτ15⟩ | exact fun _ => ⟨Jτ19, Sτ19⟩ | exact fun _ => ⟨n_J_hh p15 hf_τ12 rfl rfl, n_S_h p14 hf_τ12 rfl rfl⟩ | exact fun _ => ⟨n_J_hh p15 hf_τ29 rfl rfl, q27_4 p14⟩ | fail)), (show n_rl σ τ15 from by (first | exact q23_16 | exact q13_10 | exact q17_10 | exact n_rl_h hf_τ9 rfl rfl | exact n_rl_h hf_τ12 rfl rfl | exact n_rl_h hf_τ22 rfl rfl | exact n_rl_h hf_τ29 rfl rfl | fail)), (show n_hk σ τ15 from by (first | exact q23_17 | exact q27_5 | exact n_hk_h hf_τ9 rfl rfl | exact n_hk_h hf_τ12 rfl rfl | exact n_hk_h hf_τ22 rfl rfl | exact n_hk_h hf_τ15 rfl rfl | exact n_hk_h hf_τ19 rfl rfl | fail)), (show n_rc σ τ15 from by (first | exact q23_18 | exact q13_11 | exact q17_11 | exact n_rc_h hf_τ9 rfl rfl | exact n_rc_h hf_τ12 rfl rfl | exact n_rc_h hf_τ22 rfl rfl | exact n_rc_h hf_τ29 rfl rfl | fail)), (show n_tb (τ15.1 3) (τ15.2.1 1) (τ15.2.1 2) (τ15.2.1 3) (τ15.2.1 6) from NTB), (show n_nm (τ15.1 3) (τ15.1 2) (τ15.2.1 2) (τ15.2.1 3) from NNM), (show n_tu (τ15.1 3) (τ15.1 10) (τ15.1 11) (τ15.2.1 1) (τ15.2.1 2) (τ15.2.1 3) from NTU)⟩
    ·
      refine ⟨fun c16 => ?_, fun c16 => ?_⟩
      ·
        refine ⟨_, K3_X13_readDeclared hT (show 0 ≤ (0 : Int) ∧ (0 : Int) ≤ 1 from by (first | omega | (simp only [st_s] <;> omega) | assumption | omega | fail)) (show (σ.1 16) ≤ (σ.1 0) from by (first | omega | (simp only [st_s] <;> omega) | assumption | omega | fail)) (show oc (σ.2.1 6) ≤ (σ.1 3) from SYt) (show oc (σ.2.1 7) < 4096 from by (first | omega | (simp only [st_s] <;> omega) | assumption | omega | fail)) (show (σ.1 12) ≤ ca (σ.2.1 9) (σ.1 3) from AVt) (show j_l2 (σ.2.1 6) (σ.1 3) from Y1) (show ca (σ.2.1 12) ((σ.1 3)) ≤ (σ.1 4) from Y20) (show n_tb (σ.1 3) (σ.2.1 1) (σ.2.1 2) (σ.2.1 3) (σ.2.1 6) from NTB) (show n_nm (σ.1 3) (σ.1 2) (σ.2.1 2) (σ.2.1 3) from NNM) (show n_tu (σ.1 3) (σ.1 10) (σ.1 11) (σ.2.1 1) (σ.2.1 2) (σ.2.1 3) from NTU), ?_⟩
        intro τ19 hn_τ19 hf_τ19 hq
        obtain ⟨hT, q17_1, q17_2, q17_3, q17_4, q17_5, q17_6, q17_7, q17_8, q17_9, q17_10, q17_11, q17_12, q17_13, q17_14, q17_15⟩ := hq
        replace q17_1 : oc (τ19.2.1 6) ≤ (τ19.1 3) := q17_1
        replace q17_2 : (τ19.1 12) ≤ ca (τ19.2.1 9) (τ19.1 3) := q17_2
        replace q17_3 : (τ19.1 16) ≤ (τ19.1 0) := q17_3
        replace q17_4 : ¬ (σ.1 20) = 0 → (τ19.1 20) = (σ.1 20) := q17_4
        replace q17_5 : j_l2 (τ19.2.1 6) (τ19.1 3) := q17_5
        replace q17_6 : ca (τ19.2.1 12) ((τ19.1 3)) ≤ (τ19.1 4) := q17_6
        replace q17_7 : (τ19.1 17) + (τ19.1 18) ≤ (τ19.1 0) := q17_7
        replace q17_8 : (σ.1 16) ≤ (τ19.1 16) := q17_8
        replace q17_9 : m_ag σ τ19 := q17_9
        replace q17_10 : n_rl σ τ19 := q17_10
        replace q17_11 : n_rc σ τ19 := q17_11
        replace q17_12 : n_fo σ τ19 := q17_12
        replace q17_13 : n_tb (τ19.1 3) (τ19.2.1 1) (τ19.2.1 2) (τ19.2.1 3) (τ19.2.1 6) := q17_13
        replace q17_14 : n_nm (τ19.1 3) (τ19.1 2) (τ19.2.1 2) (τ19.2.1 3) := q17_14
        replace q17_15 : n_tu (τ19.1 3) (τ19.1 10) (τ19.1 11) (τ19.2.1 1) (τ19.2.1 2) (τ19.2.1 3) := q17_15
        replace ag : m_ag σ τ19 := ag_t ag q17_9 rfl
        have w0_τ19 : τ19.1 0 = σ.1 0 := hf_τ19.1 0 (by decide)
        have w4_τ19 : τ19.1 4 = σ.1 4 := hf_τ19.1 4 (by decide)
        have w5_τ19 : τ19.1 5 = σ.1 5 := hf_τ19.1 5 (by decide)
        have w6_τ19 : τ19.1 6 = σ.1 6 := hf_τ19.1 6 (by decide)
        have w7_τ19 : τ19.1 7 = σ.1 7 := hf_τ19.1 7 (by decide)
        have w8_τ19 : τ19.1 8 = σ.1 8 := hf_τ19.1 8 (by decide)
        have w9_τ19 : τ19.1 9 = σ.1 9 := hf_τ19.1 9 (by decide)
        have w13_τ19 : τ19.1 13 = σ.1 13 := hf_τ19.1 13 (by decide)
        have w15_τ19 : τ19.1 15 = σ.1 15 := hf_τ19.1 15 (by decide)
        have g7_τ19 : τ19.2.1 7 = σ.2.1 7 := hf_τ19.2.1 7 (by decide)
        have g13_τ19 : τ19.2.1 13 = σ.2.1 13 := hf_τ19.2.1 13 (by decide)
        have g21_τ19 : τ19.2.1 21 = σ.2.1 21 := hf_τ19.2.1 21 (by decide)
        have g22_τ19 : τ19.2.1 22 = σ.2.1 22 := hf_τ19.2.1 22 (by decide)
        have g28_τ19 : τ19.2.1 28 = σ.2.1 28 := hf_τ19.2.1 28 (by decide)
        have g31_τ19 : τ19.2.1 31 = σ.2.1 31 := hf_τ19.2.1 31 (by decide)
        have g35_τ19 : τ19.2.1 35 = σ.2.1 35 := hf_τ19.2.1 35 (by decide)
        first | (have ca_τ19 := congr (congrArg ca g9_τ19) w3_τ19) | skip
        first | (have o6_τ19 := congrArg oc g6_τ19) | skip
        first | (have o7_τ19 := congrArg oc g7_τ19) | skip
        have W0 : τ19.1 0 = σ.1 0 := by first | exact w0_τ19.trans W0 | omega
        have Y20 : ca (τ19.2.1 12) ((τ19.1 3)) ≤ (τ19.1 4) := q17_6
        have Y8 : j_eq ((σ.1 9)) (σ.2.1 28) (τ19.2.1 28) := by rw [show (j_eq ((σ.1 9)) (σ.2.1 28) (τ19.2.1 28)) = (j_eq ((σ.1 9)) (σ.2.1 28) (σ.2.1 28)) from by rw [g28_τ19]]; exact Y8
        have Y1 : j_l2 (τ19.2.1 6) (τ19.1 3) := q17_5
        have PA : J_pa (τ19.2.1 21) (τ19.2.1 22) := by rw [show (J_pa (τ19.2.1 21) (τ19.2.1 22)) = (J_pa (σ.2.1 21) (σ.2.1 22)) from by rw [g21_τ19, g22_τ19]]; exact PA
        have SYt : oc (τ19.2.1 6) ≤ (τ19.1 3) := q17_1
        have LAt : oc (τ19.2.1 7) ≤ (τ19.1 5) := by rw [show (oc (τ19.2.1 7) ≤ (τ19.1 5)) = (oc (σ.2.1 7) ≤ (σ.1 5)) from by rw [w5_τ19, g7_τ19]]; exact LAt
        have AVt : (τ19.1 12) ≤ ca (τ19.2.1 9) (τ19.1 3) := q17_2
        have STt : j_l2 (τ19.2.1 6) (τ19.1 3) := q17_5
        have NTB : n_tb (τ19.1 3) (τ19.2.1 1) (τ19.2.1 2) (τ19.2.1 3) (τ19.2.1 6) := q17_13
        have NNM : n_nm (τ19.1 3) (τ19.1 2) (τ19.2.1 2) (τ19.2.1 3) := q17_14
        have NTU : n_tu (τ19.1 3) (τ19.1 10) (τ19.1 11) (τ19.2.1 1) (τ19.2.1 2) (τ19.2.1 3) := q17_15
        have A1 : ∀ j, 0 ≤ τ19.2.1 1 j ∧ τ19.2.1 1 j ≤ 255 := fun j => hT.2 1 j
        have A2 : ∀ j, 0 ≤ τ19.2.1 2 j ∧ τ19.2.1 2 j ≤ 30000 := fun j => hT.2 2 j
        have A3 : ∀ j, 0 ≤ τ19.2.1 3 j ∧ τ19.2.1 3 j ≤ 60 := fun j => hT.2 3 j
        have A6 : ∀ j, (-1) ≤ τ19.2.1 6 j ∧ τ19.2.1 6 j ≤ 999 := fun j => hT.2 6 j
        have A7 : ∀ j, (-1) ≤ τ19.2.1 7 j ∧ τ19.2.1 7 j ≤ 1499 := fun j => hT.2 7 j
        have A9 : ∀ j, 0 ≤ τ19.2.1 9 j ∧ τ19.2.1 9 j ≤ 1 := fun j => hT.2 9 j
        have A10 : ∀ j, (-1) ≤ τ19.2.1 10 j ∧ τ19.2.1 10 j ≤ 999 := fun j => hT.2 10 j
        have A11 : ∀ j, (-1) ≤ τ19.2.1 11 j ∧ τ19.2.1 11 j ≤ 1499 := fun j => hT.2 11 j
        have A12 : ∀ j, 0 ≤ τ19.2.1 12 j ∧ τ19.2.1 12 j ≤ 1 := fun j => hT.2 12 j
        have A13 : ∀ j, 0 ≤ τ19.2.1 13 j ∧ τ19.2.1 13 j ≤ 4 := fun j => hT.2 13 j
        have A21 : ∀ j, 0 ≤ τ19.2.1 21 j ∧ τ19.2.1 21 j ≤ 20000 := fun j => hT.2 21 j
        have A22 : ∀ j, 0 ≤ τ19.2.1 22 j ∧ τ19.2.1 22 j ≤ 20000 := fun j => hT.2 22 j
        have A28 : ∀ j, 0 ≤ τ19.2.1 28 j ∧ τ19.2.1 28 j ≤ 1 := fun j => hT.2 28 j
        have A31 : ∀ j, 0 ≤ τ19.2.1 31 j ∧ τ19.2.1 31 j ≤ 1499 := fun j => hT.2 31 j
        have A35 : ∀ j, 0 ≤ τ19.2.1 35 j ∧ τ19.2.1 35 j ≤ 1500 := fun j => hT.2 35 j
        have v0 : 0 ≤ τ19.1 0 ∧ τ19.1 0 ≤ 60000 := hT.1 0
        have v2 : 0 ≤ τ19.1 2 ∧ τ19.1 2 ≤ 30000 := hT.1 2
        have v3 : 0 ≤ τ19.1 3 ∧ τ19.1 3 ≤ 1000 := hT.1 3
        have v4 : 0 ≤ τ19.1 4 ∧ τ19.1 4 ≤ 100 := hT.1 4
        have v5 : 0 ≤ τ19.1 5 ∧ τ19.1 5 ≤ 1500 := hT.1 5
        have v6 : 0 ≤ τ19.1 6 ∧ τ19.1 6 ≤ 30000 := hT.1 6
        have v7 : 0 ≤ τ19.1 7 ∧ τ19.1 7 ≤ 90000 := hT.1 7
        have v8 : 0 ≤ τ19.1 8 ∧ τ19.1 8 ≤ 20000 := hT.1 8
        have v9 : 0 ≤ τ19.1 9 ∧ τ19.1 9 ≤ 20000 := hT.1 9
        have v10 : (-1) ≤ τ19.1 10 ∧ τ19.1 10 ≤ 999 := hT.1 10
        have v11 : (-1) ≤ τ19.1 11 ∧ τ19.1 11 ≤ 999 := hT.1 11
        have v12 : 0 ≤ τ19.1 12 ∧ τ19.1 12 ≤ 1000 := hT.1 12
        have v13 : 0 ≤ τ19.1 13 ∧ τ19.1 13 ≤ 1500 := hT.1 13
        have v15 : 0 ≤ τ19.1 15 ∧ τ19.1 15 ≤ 50 := hT.1 15
        have v16 : 0 ≤ τ19.1 16 ∧ τ19.1 16 ≤ 60000 := hT.1 16
        have v17 : 0 ≤ τ19.1 17 ∧ τ19.1 17 ≤ 60000 := hT.1 17
        have v18 : 0 ≤ τ19.1 18 ∧ τ19.1 18 ≤ 60000 := hT.1 18
        have v19 : (-1) ≤ τ19.1 19 ∧ τ19.1 19 ≤ 125 := hT.1 19
        have v20 : 0 ≤ τ19.1 20 ∧ τ19.1 20 ≤ 19 := hT.1 20
        have av3 : σ.1 3 ≤ τ19.1 3 := ag.1 3 (by decide)
        have av5 : σ.1 5 ≤ τ19.1 5 := ag.1 5 (by decide)
        have av6 : σ.1 6 ≤ τ19.1 6 := ag.1 6 (by decide)
        have av7 : σ.1 7 ≤ τ19.1 7 := ag.1 7 (by decide)
        have av8 : σ.1 8 ≤ τ19.1 8 := ag.1 8 (by decide)
        have av9 : σ.1 9 ≤ τ19.1 9 := ag.1 9 (by decide)
        have Jτ19 : n_J τ19 := by (have w := n_J_ag p15 p16 q17_9 q17_10 (by (rw [g28_τ19]; exact j_eq0 _ _)) hT0; rw [show σ.1 5 = τ19.1 5 from by omega] at w; exact w)
        have Sτ19 : n_S τ19 := n_S_ag p14 p15 p16 hT0 q17_9 (by omega) g31_τ19 q17_12.1 q17_12.2.1
        have NTB := q17_13
        have NNM := q17_14
        have NTU := q17_15
        exact ⟨hT, (show (τ19.1 16) ≤ (τ19.1 0) from by (first | omega | (simp only [st_s] <;> omega) | assumption | omega | fail)), (show (τ19.1 17) + (τ19.1 18) ≤ (τ19.1 0) from by (first | omega | (simp only [st_s] <;> omega) | assumption | omega | fail)), (show ¬ (σ.1 20) = 0 → (τ19.1 20) = (σ.1 20) from by (first | omega | (simp only [st_s] <;> omega) | assumption | omega | fail)), (show oc (τ19.2.1 6) ≤ (τ19.1 3) from SYt), (show (τ19.1 12) ≤ ca (τ19.2.1 9) (τ19.1 3) from AVt), (show j_l2 (τ19.2.1 6) (τ19.1 3) from Y1), (show ca (τ19.2.1 12) ((τ19.1 3)) ≤ (τ19.1 4) from Y20), (show J_pa (τ19.2.1 21) (τ19.2.1 22) from PA), (show (τ19.1 13) ≤ (τ19.1 5) from by (first | omega | (simp only [st_s] <;> omega) | assumption | omega | fail)), (show (τ19.1 20) = 0 → oc (τ19.2.1 7) ≤ (τ19.1 5) from by (first | omega | (simp only [st_s] <;> omega) | assumption | omega | fail)), (show (τ19.1 20) = 0 → (τ19.1 7) ≤ 60 * (τ19.1 5) from by (first | omega | (simp only [st_s] <;> omega) | assumption | omega | fail)), (show j_eq ((σ.1 9)) (σ.2.1 28) (τ19.2.1 28) from Y8), (show (τ19.1 20) = 0 → m_J σ → m_J τ19 from by (first | (intro hf; exfalso; omega) | (intro hf hJ; first | exact q23_12 hf hJ | exact m_J_f hJ hf_τ12 rfl rfl | exact m_J_f hJ hf_τ15 rfl rfl | exact m_J_f hJ hf_τ19 rfl rfl | exact m_J_f hJ hf_τ29 rfl rfl) | fail)), (show (σ.1 5) ≤ (τ19.1 5) from by (first | omega | (simp only [st_s] <;> omega) | assumption | omega | fail)), (show (σ.1 16) ≤ (τ19.1 16) from by (first | omega | (simp only [st_s] <;> omega) | assumption | omega | fail)), ag, (show (τ19.1 20) = 0 → n_J τ19 ∧ n_S τ19 from by (first | (intro z; exfalso; omega) | exact q23_15 | exact fun _ => ⟨Jτ15, Sτ15⟩ | exact fun _ => ⟨Jτ19, Sτ19⟩ | exact fun _ => ⟨n_J_hh p15 hf_τ12 rfl rfl, n_S_h p14 hf_τ12 rfl rfl⟩ | exact fun _ => ⟨n_J_hh p15 hf_τ29 rfl rfl, q27_4 p14⟩ | fail)), (show n_rl σ τ19 from by (first | exact q23_16 | exact q13_10 | exact q17_10 | exact n_rl_h hf_τ9 rfl rfl | exact n_rl_h hf_τ12 rfl rfl | exact n_rl_h hf_τ22 rfl rfl | exact n_rl_h hf_τ29 rfl rfl | fail)), (show n_hk σ τ19 from by (first | exact q23_17 | exact q27_5 | exact n_hk_h hf_τ9 rfl rfl | exact n_hk_h hf_τ12 rfl rfl | exact n_hk_h hf_τ22 rfl rfl | exact n_hk_h hf_τ15 rfl rfl | exact n_hk_h hf_τ19 rfl rfl | fail)), (show n_rc σ τ19 from by (first | exact q23_18 | exact q13_11 | exact q17_11 | exact n_rc_h hf_τ9 rfl rfl | exact n_rc_h hf_τ12 rfl rfl | exact n_rc_h hf_τ22 rfl rfl | exact n_rc_h hf_τ29 rfl rfl | fail)), (show n_tb (τ19.1 3) (τ19.2.1 1) (τ19.2.1 2) (τ19.2.1 3) (τ19.2.1 6) from NTB), (show n_nm (τ19.1 3) (τ19.1 2) (τ19.2.1 2) (τ19.2.1 3) from NNM), (show n_tu (τ19.1 3) (τ19.1 10) (τ19.1 11) (τ19.2.1 1) (τ19.2.1 2) (τ19.2.1 3) from NTU)⟩
      ·
        refine ⟨_, K_X13_failHere hT (show 0 ≤ (8 : Int) from by (first | omega | (simp only [st_s] <;> omega) | assumption | omega | fail)) (show (8 : Int) ≤ 19 from by (first | omega | (simp only [st_s] <;> omega) | assumption | omega | fail)), ?_⟩
        intro τ22 hn_τ22 hf_τ22 hq
        obtain ⟨hT, q20_1, q20_2⟩ := hq
        replace q20_1 : ¬ (σ.1 20) = 0 → (τ22.1 20) = (σ.1 20) := q20_1
        replace q20_2 : (σ.1 20) = 0 → (τ22.1 20) = (8 : Int) := q20_2
        replace ag : m_ag σ τ22 := ag_r ag hf_τ22 rfl rfl
        have w0_τ22 : τ22.1 0 = σ.1 0 := hf_τ22.1 0 (by decide)
        have w2_τ22 : τ22.1 2 = σ.1 2 := hf_τ22.1 2 (by decide)
        have w3_τ22 : τ22.1 3 = σ.1 3 := hf_τ22.1 3 (by decide)
        have w4_τ22 : τ22.1 4 = σ.1 4 := hf_τ22.1 4 (by decide)
        have w5_τ22 : τ22.1 5 = σ.1 5 := hf_τ22.1 5 (by decide)
        have w6_τ22 : τ22.1 6 = σ.1 6 := hf_τ22.1 6 (by decide)
        have w7_τ22 : τ22.1 7 = σ.1 7 := hf_τ22.1 7 (by decide)
        have w8_τ22 : τ22.1 8 = σ.1 8 := hf_τ22.1 8 (by decide)
        have w9_τ22 : τ22.1 9 = σ.1 9 := hf_τ22.1 9 (by decide)
        have w10_τ22 : τ22.1 10 = σ.1 10 := hf_τ22.1 10 (by decide)
        have w11_τ22 : τ22.1 11 = σ.1 11 := hf_τ22.1 11 (by decide)
        have w12_τ22 : τ22.1 12 = σ.1 12 := hf_τ22.1 12 (by decide)
        have w13_τ22 : τ22.1 13 = σ.1 13 := hf_τ22.1 13 (by decide)
        have w15_τ22 : τ22.1 15 = σ.1 15 := hf_τ22.1 15 (by decide)
        have w16_τ22 : τ22.1 16 = σ.1 16 := hf_τ22.1 16 (by decide)
        have w17_τ22 : τ22.1 17 = σ.1 17 := hf_τ22.1 17 (by decide)
        have w18_τ22 : τ22.1 18 = σ.1 18 := hf_τ22.1 18 (by decide)
        have w19_τ22 : τ22.1 19 = σ.1 19 := hf_τ22.1 19 (by decide)
        have g1_τ22 : τ22.2.1 1 = σ.2.1 1 := hf_τ22.2.1 1 (by decide)
        have g2_τ22 : τ22.2.1 2 = σ.2.1 2 := hf_τ22.2.1 2 (by decide)
        have g3_τ22 : τ22.2.1 3 = σ.2.1 3 := hf_τ22.2.1 3 (by decide)
        have g6_τ22 : τ22.2.1 6 = σ.2.1 6 := hf_τ22.2.1 6 (by decide)
        have g7_τ22 : τ22.2.1 7 = σ.2.1 7 := hf_τ22.2.1 7 (by decide)
        have g9_τ22 : τ22.2.1 9 = σ.2.1 9 := hf_τ22.2.1 9 (by decide)
        have g10_τ22 : τ22.2.1 10 = σ.2.1 10 := hf_τ22.2.1 10 (by decide)
        have g11_τ22 : τ22.2.1 11 = σ.2.1 11 := hf_τ22.2.1 11 (by decide)
        have g12_τ22 : τ22.2.1 12 = σ.2.1 12 := hf_τ22.2.1 12 (by decide)
        have g13_τ22 : τ22.2.1 13 = σ.2.1 13 := hf_τ22.2.1 13 (by decide)
        have g21_τ22 : τ22.2.1 21 = σ.2.1 21 := hf_τ22.2.1 21 (by decide)
        have g22_τ22 : τ22.2.1 22 = σ.2.1 22 := hf_τ22.2.1 22 (by decide)
        have g28_τ22 : τ22.2.1 28 = σ.2.1 28 := hf_τ22.2.1 28 (by decide)
        have g31_τ22 : τ22.2.1 31 = σ.2.1 31 := hf_τ22.2.1 31 (by decide)
        have g35_τ22 : τ22.2.1 35 = σ.2.1 35 := hf_τ22.2.1 35 (by decide)
        first | (have ca_τ22 := congr (congrArg ca g9_τ22) w3_τ22) | skip
        first | (have o6_τ22 := congrArg oc g6_τ22) | skip
        first | (have o7_τ22 := congrArg oc g7_τ22) | skip
        have W0 : τ22.1 0 = σ.1 0 := by first | exact w0_τ22.trans W0 | omega
        have Y20 : ca (τ22.2.1 12) ((τ22.1 3)) ≤ (τ22.1 4) := by rw [show (ca (τ22.2.1 12) ((τ22.1 3)) ≤ (τ22.1 4)) = (ca (σ.2.1 12) ((σ.1 3)) ≤ (σ.1 4)) from by rw [w3_τ22, w4_τ22, g12_τ22]]; exact Y20
        have Y8 : j_eq ((σ.1 9)) (σ.2.1 28) (τ22.2.1 28) := by rw [show (j_eq ((σ.1 9)) (σ.2.1 28) (τ22.2.1 28)) = (j_eq ((σ.1 9)) (σ.2.1 28) (σ.2.1 28)) from by rw [g28_τ22]]; exact Y8
        have Y1 : j_l2 (τ22.2.1 6) (τ22.1 3) := by rw [show (j_l2 (τ22.2.1 6) (τ22.1 3)) = (j_l2 (σ.2.1 6) (σ.1 3)) from by rw [w3_τ22, g6_τ22]]; exact Y1
        have PA : J_pa (τ22.2.1 21) (τ22.2.1 22) := by rw [show (J_pa (τ22.2.1 21) (τ22.2.1 22)) = (J_pa (σ.2.1 21) (σ.2.1 22)) from by rw [g21_τ22, g22_τ22]]; exact PA
        have SYt : oc (τ22.2.1 6) ≤ (τ22.1 3) := by rw [show (oc (τ22.2.1 6) ≤ (τ22.1 3)) = (oc (σ.2.1 6) ≤ (σ.1 3)) from by rw [w3_τ22, g6_τ22]]; exact SYt
        have LAt : oc (τ22.2.1 7) ≤ (τ22.1 5) := by rw [show (oc (τ22.2.1 7) ≤ (τ22.1 5)) = (oc (σ.2.1 7) ≤ (σ.1 5)) from by rw [w5_τ22, g7_τ22]]; exact LAt
        have AVt : (τ22.1 12) ≤ ca (τ22.2.1 9) (τ22.1 3) := by rw [show ((τ22.1 12) ≤ ca (τ22.2.1 9) (τ22.1 3)) = ((σ.1 12) ≤ ca (σ.2.1 9) (σ.1 3)) from by rw [w3_τ22, w12_τ22, g9_τ22]]; exact AVt
        have STt : j_l2 (τ22.2.1 6) (τ22.1 3) := by rw [show (j_l2 (τ22.2.1 6) (τ22.1 3)) = (j_l2 (σ.2.1 6) (σ.1 3)) from by rw [w3_τ22, g6_τ22]]; exact STt
        have NTB : n_tb (τ22.1 3) (τ22.2.1 1) (τ22.2.1 2) (τ22.2.1 3) (τ22.2.1 6) := by rw [show (n_tb (τ22.1 3) (τ22.2.1 1) (τ22.2.1 2) (τ22.2.1 3) (τ22.2.1 6)) = (n_tb (σ.1 3) (σ.2.1 1) (σ.2.1 2) (σ.2.1 3) (σ.2.1 6)) from by rw [w3_τ22, g1_τ22, g2_τ22, g3_τ22, g6_τ22]]; exact NTB
        have NNM : n_nm (τ22.1 3) (τ22.1 2) (τ22.2.1 2) (τ22.2.1 3) := by rw [show (n_nm (τ22.1 3) (τ22.1 2) (τ22.2.1 2) (τ22.2.1 3)) = (n_nm (σ.1 3) (σ.1 2) (σ.2.1 2) (σ.2.1 3)) from by rw [w2_τ22, w3_τ22, g2_τ22, g3_τ22]]; exact NNM
        have NTU : n_tu (τ22.1 3) (τ22.1 10) (τ22.1 11) (τ22.2.1 1) (τ22.2.1 2) (τ22.2.1 3) := by rw [show (n_tu (τ22.1 3) (τ22.1 10) (τ22.1 11) (τ22.2.1 1) (τ22.2.1 2) (τ22.2.1 3)) = (n_tu (σ.1 3) (σ.1 10) (σ.1 11) (σ.2.1 1) (σ.2.1 2) (σ.2.1 3)) from by rw [w3_τ22, w10_τ22, w11_τ22, g1_τ22, g2_τ22, g3_τ22]]; exact NTU
        have A1 : ∀ j, 0 ≤ τ22.2.1 1 j ∧ τ22.2.1 1 j ≤ 255 := fun j => hT.2 1 j
        have A2 : ∀ j, 0 ≤ τ22.2.1 2 j ∧ τ22.2.1 2 j ≤ 30000 := fun j => hT.2 2 j
        have A3 : ∀ j, 0 ≤ τ22.2.1 3 j ∧ τ22.2.1 3 j ≤ 60 := fun j => hT.2 3 j
        have A6 : ∀ j, (-1) ≤ τ22.2.1 6 j ∧ τ22.2.1 6 j ≤ 999 := fun j => hT.2 6 j
        have A7 : ∀ j, (-1) ≤ τ22.2.1 7 j ∧ τ22.2.1 7 j ≤ 1499 := fun j => hT.2 7 j
        have A9 : ∀ j, 0 ≤ τ22.2.1 9 j ∧ τ22.2.1 9 j ≤ 1 := fun j => hT.2 9 j
        have A10 : ∀ j, (-1) ≤ τ22.2.1 10 j ∧ τ22.2.1 10 j ≤ 999 := fun j => hT.2 10 j
        have A11 : ∀ j, (-1) ≤ τ22.2.1 11 j ∧ τ22.2.1 11 j ≤ 1499 := fun j => hT.2 11 j
        have A12 : ∀ j, 0 ≤ τ22.2.1 12 j ∧ τ22.2.1 12 j ≤ 1 := fun j => hT.2 12 j
        have A13 : ∀ j, 0 ≤ τ22.2.1 13 j ∧ τ22.2.1 13 j ≤ 4 := fun j => hT.2 13 j
        have A21 : ∀ j, 0 ≤ τ22.2.1 21 j ∧ τ22.2.1 21 j ≤ 20000 := fun j => hT.2 21 j
        have A22 : ∀ j, 0 ≤ τ22.2.1 22 j ∧ τ22.2.1 22 j ≤ 20000 := fun j => hT.2 22 j
        have A28 : ∀ j, 0 ≤ τ22.2.1 28 j ∧ τ22.2.1 28 j ≤ 1 := fun j => hT.2 28 j
        have A31 : ∀ j, 0 ≤ τ22.2.1 31 j ∧ τ22.2.1 31 j ≤ 1499 := fun j => hT.2 31 j
        have A35 : ∀ j, 0 ≤ τ22.2.1 35 j ∧ τ22.2.1 35 j ≤ 1500 := fun j => hT.2 35 j
        have v0 : 0 ≤ τ22.1 0 ∧ τ22.1 0 ≤ 60000 := hT.1 0
        have v2 : 0 ≤ τ22.1 2 ∧ τ22.1 2 ≤ 30000 := hT.1 2
        have v3 : 0 ≤ τ22.1 3 ∧ τ22.1 3 ≤ 1000 := hT.1 3
        have v4 : 0 ≤ τ22.1 4 ∧ τ22.1 4 ≤ 100 := hT.1 4
        have v5 : 0 ≤ τ22.1 5 ∧ τ22.1 5 ≤ 1500 := hT.1 5
        have v6 : 0 ≤ τ22.1 6 ∧ τ22.1 6 ≤ 30000 := hT.1 6
        have v7 : 0 ≤ τ22.1 7 ∧ τ22.1 7 ≤ 90000 := hT.1 7
        have v8 : 0 ≤ τ22.1 8 ∧ τ22.1 8 ≤ 20000 := hT.1 8
        have v9 : 0 ≤ τ22.1 9 ∧ τ22.1 9 ≤ 20000 := hT.1 9
        have v10 : (-1) ≤ τ22.1 10 ∧ τ22.1 10 ≤ 999 := hT.1 10
        have v11 : (-1) ≤ τ22.1 11 ∧ τ22.1 11 ≤ 999 := hT.1 11
        have v12 : 0 ≤ τ22.1 12 ∧ τ22.1 12 ≤ 1000 := hT.1 12
        have v13 : 0 ≤ τ22.1 13 ∧ τ22.1 13 ≤ 1500 := hT.1 13
        have v15 : 0 ≤ τ22.1 15 ∧ τ22.1 15 ≤ 50 := hT.1 15
        have v16 : 0 ≤ τ22.1 16 ∧ τ22.1 16 ≤ 60000 := hT.1 16
        have v17 : 0 ≤ τ22.1 17 ∧ τ22.1 17 ≤ 60000 := hT.1 17
        have v18 : 0 ≤ τ22.1 18 ∧ τ22.1 18 ≤ 60000 := hT.1 18
        have v19 : (-1) ≤ τ22.1 19 ∧ τ22.1 19 ≤ 125 := hT.1 19
        have v20 : 0 ≤ τ22.1 20 ∧ τ22.1 20 ≤ 19 := hT.1 20
        have av3 : σ.1 3 ≤ τ22.1 3 := ag.1 3 (by decide)
        have av5 : σ.1 5 ≤ τ22.1 5 := ag.1 5 (by decide)
        have av6 : σ.1 6 ≤ τ22.1 6 := ag.1 6 (by decide)
        have av7 : σ.1 7 ≤ τ22.1 7 := ag.1 7 (by decide)
        have av8 : σ.1 8 ≤ τ22.1 8 := ag.1 8 (by decide)
        have av9 : σ.1 9 ≤ τ22.1 9 := ag.1 9 (by decide)
        exact ⟨hT, (show (τ22.1 16) ≤ (τ22.1 0) from by (first | omega | (simp only [st_s] <;> omega) | assumption | omega | fail)), (show (τ22.1 17) + (τ22.1 18) ≤ (τ22.1 0) from by (first | omega | (simp only [st_s] <;> omega) | assumption | omega | fail)), (show ¬ (σ.1 20) = 0 → (τ22.1 20) = (σ.1 20) from by (first | omega | (simp only [st_s] <;> omega) | assumption | omega | fail)), (show oc (τ22.2.1 6) ≤ (τ22.1 3) from SYt), (show (τ22.1 12) ≤ ca (τ22.2.1 9) (τ22.1 3) from AVt), (show j_l2 (τ22.2.1 6) (τ22.1 3) from Y1), (show ca (τ22.2.1 12) ((τ22.1 3)) ≤ (τ22.1 4) from Y20), (show J_pa (τ22.2.1 21) (τ22.2.1 22) from PA), (show (τ22.1 13) ≤ (τ22.1 5) from by (first | omega | (simp only [st_s] <;> omega) | assumption | omega | fail)), (show (τ22.1 20) = 0 → oc (τ22.2.1 7) ≤ (τ22.1 5) from by (first | omega | (simp only [st_s] <;> omega) | assumption | omega | fail)), (show (τ22.1 20) = 0 → (τ22.1 7) ≤ 60 * (τ22.1 5) from by (first | omega | (simp only [st_s] <;> omega) | assumption | omega | fail)), (show j_eq ((σ.1 9)) (σ.2.1 28) (τ22.2.1 28) from Y8), (show (τ22.1 20) = 0 → m_J σ → m_J τ22 from by (first | (intro hf; exfalso; omega) | (intro hf hJ; first | exact q23_12 hf hJ | exact m_J_f hJ hf_τ12 rfl rfl | exact m_J_f hJ hf_τ15 rfl rfl | exact m_J_f hJ hf_τ19 rfl rfl | exact m_J_f hJ hf_τ29 rfl rfl) | fail)), (show (σ.1 5) ≤ (τ22.1 5) from by (first | omega | (simp only [st_s] <;> omega) | assumption | omega | fail)), (show (σ.1 16) ≤ (τ22.1 16) from by (first | omega | (simp only [st_s] <;> omega) | assumption | omega | fail)), ag, (show (τ22.1 20) = 0 → n_J τ22 ∧ n_S τ22 from by (first | (intro z; exfalso; omega) | exact q23_15 | exact fun _ => ⟨Jτ15, Sτ15⟩ | exact fun _ => ⟨Jτ19, Sτ19⟩ | exact fun _ => ⟨n_J_hh p15 hf_τ12 rfl rfl, n_S_h p14 hf_τ12 rfl rfl⟩ | exact fun _ => ⟨n_J_hh p15 hf_τ29 rfl rfl, q27_4 p14⟩ | fail)), (show n_rl σ τ22 from by (first | exact q23_16 | exact q13_10 | exact q17_10 | exact n_rl_h hf_τ9 rfl rfl | exact n_rl_h hf_τ12 rfl rfl | exact n_rl_h hf_τ22 rfl rfl | exact n_rl_h hf_τ29 rfl rfl | fail)), (show n_hk σ τ22 from by (first | exact q23_17 | exact q27_5 | exact n_hk_h hf_τ9 rfl rfl | exact n_hk_h hf_τ12 rfl rfl | exact n_hk_h hf_τ22 rfl rfl | exact n_hk_h hf_τ15 rfl rfl | exact n_hk_h hf_τ19 rfl rfl | fail)), (show n_rc σ τ22 from by (first | exact q23_18 | exact q13_11 | exact q17_11 | exact n_rc_h hf_τ9 rfl rfl | exact n_rc_h hf_τ12 rfl rfl | exact n_rc_h hf_τ22 rfl rfl | exact n_rc_h hf_τ29 rfl rfl | fail)), (show n_tb (τ22.1 3) (τ22.2.1 1) (τ22.2.1 2) (τ22.2.1 3) (τ22.2.1 6) from NTB), (show n_nm (τ22.1 3) (τ22.1 2) (τ22.2.1 2) (τ22.2.1 3) from NNM), (show n_tu (τ22.1 3) (τ22.1 10) (τ22.1 11) (τ22.2.1 1) (τ22.2.1 2) (τ22.2.1 3) from NTU)⟩
  ·
    refine ⟨_, K3_X13_readLabelled hT (show (σ.1 16) ≤ (σ.1 0) from by (first | omega | (simp only [st_s] <;> omega) | assumption | omega | fail)) (show (σ.1 17) + (σ.1 18) ≤ (σ.1 0) from by (first | omega | (simp only [st_s] <;> omega) | assumption | omega | fail)) (show oc (σ.2.1 6) < 4096 from by (first | omega | (simp only [st_s] <;> omega) | assumption | omega | fail)) (show oc (σ.2.1 7) < 4096 from by (first | omega | (simp only [st_s] <;> omega) | assumption | omega | fail)) (show oc (σ.2.1 6) ≤ (σ.1 3) from SYt) (show oc (σ.2.1 7) ≤ (σ.1 5) from LAt) (show ca (σ.2.1 12) ((σ.1 3)) ≤ (σ.1 4) from Y20) (show J_pa (σ.2.1 21) (σ.2.1 22) from PA) (show (σ.1 7) ≤ 60 * (σ.1 5) from by (first | omega | (simp only [st_s] <;> omega) | assumption | omega | fail)) (show (σ.1 13) ≤ (σ.1 5) from by (first | omega | (simp only [st_s] <;> omega) | assumption | omega | fail)) (show j_l2 (σ.2.1 6) (σ.1 3) from Y1) (show n_S σ from by (first | omega | (simp only [st_s] <;> omega) | assumption | omega | fail)) (show n_J σ from by (first | omega | (simp only [st_s] <;> omega) | assumption | omega | fail)) (show m_J σ from by (first | omega | (simp only [st_s] <;> omega) | assumption | omega | fail)), ?_⟩
    intro τ25 hn_τ25 hf_τ25 hq
    obtain ⟨hT, q23_1, q23_2, q23_3, q23_4, q23_5, q23_6, q23_7, q23_8, q23_9, q23_10, q23_11, q23_12, q23_13, q23_14, q23_15, q23_16, q23_17, q23_18⟩ := hq
    replace q23_1 : (τ25.1 16) ≤ (τ25.1 0) := q23_1
    replace q23_2 : (τ25.1 17) + (τ25.1 18) ≤ (τ25.1 0) := q23_2
    replace q23_3 : ¬ (σ.1 20) = 0 → (τ25.1 20) = (σ.1 20) := q23_3
    replace q23_4 : ca (τ25.2.1 12) ((τ25.1 3)) ≤ (τ25.1 4) := q23_4
    replace q23_5 : J_pa (τ25.2.1 21) (τ25.2.1 22) := q23_5
    replace q23_6 : (τ25.1 13) ≤ (τ25.1 5) := q23_6
    replace q23_7 : oc (τ25.2.1 7) ≤ (σ.1 5) + 1 := q23_7
    replace q23_8 : (τ25.1 5) ≤ (σ.1 5) + 1 := q23_8
    replace q23_9 : (τ25.1 20) = 0 → (τ25.1 7) ≤ 60 * (τ25.1 5) := q23_9
    replace q23_10 : (τ25.1 20) = 0 → (τ25.1 5) = (σ.1 5) + 1 := q23_10
    replace q23_11 : j_eq ((σ.1 9)) (σ.2.1 28) (τ25.2.1 28) := q23_11
    replace q23_12 : (τ25.1 20) = 0 → m_J σ → m_J τ25 := q23_12
    replace q23_13 : (σ.1 16) ≤ (τ25.1 16) := q23_13
    replace q23_14 : m_ag σ τ25 := q23_14
    replace q23_15 : (τ25.1 20) = 0 → n_J τ25 ∧ n_S τ25 := q23_15
    replace q23_16 : n_rl σ τ25 := q23_16
    replace q23_17 : n_hk σ τ25 := q23_17
    replace q23_18 : n_rc σ τ25 := q23_18
    replace ag : m_ag σ τ25 := ag_t ag q23_14 rfl
    have w0_τ25 : τ25.1 0 = σ.1 0 := hf_τ25.1 0 (by decide)
    have w3_τ25 : τ25.1 3 = σ.1 3 := hf_τ25.1 3 (by decide)
    have w10_τ25 : τ25.1 10 = σ.1 10 := hf_τ25.1 10 (by decide)
    have w11_τ25 : τ25.1 11 = σ.1 11 := hf_τ25.1 11 (by decide)
    have w12_τ25 : τ25.1 12 = σ.1 12 := hf_τ25.1 12 (by decide)
    have w15_τ25 : τ25.1 15 = σ.1 15 := hf_τ25.1 15 (by decide)
    have g2_τ25 : τ25.2.1 2 = σ.2.1 2 := hf_τ25.2.1 2 (by decide)
    have g3_τ25 : τ25.2.1 3 = σ.2.1 3 := hf_τ25.2.1 3 (by decide)
    have g6_τ25 : τ25.2.1 6 = σ.2.1 6 := hf_τ25.2.1 6 (by decide)
    have g9_τ25 : τ25.2.1 9 = σ.2.1 9 := hf_τ25.2.1 9 (by decide)
    have g35_τ25 : τ25.2.1 35 = σ.2.1 35 := hf_τ25.2.1 35 (by decide)
    first | (have ca_τ25 := congr (congrArg ca g9_τ25) w3_τ25) | skip
    first | (have o6_τ25 := congrArg oc g6_τ25) | skip
    first | (have o7_τ25 := congrArg oc g7_τ25) | skip
    have W0 : τ25.1 0 = σ.1 0 := by first | exact w0_τ25.trans W0 | omega
    have Y20 : ca (τ25.2.1 12) ((τ25.1 3)) ≤ (τ25.1 4) := q23_4
    have Y1 : j_l2 (τ25.2.1 6) (τ25.1 3) := by rw [show (j_l2 (τ25.2.1 6) (τ25.1 3)) = (j_l2 (σ.2.1 6) (σ.1 3)) from by rw [w3_τ25, g6_τ25]]; exact Y1
    have PA : J_pa (τ25.2.1 21) (τ25.2.1 22) := q23_5
    have SYt : oc (τ25.2.1 6) ≤ (τ25.1 3) := by rw [show (oc (τ25.2.1 6) ≤ (τ25.1 3)) = (oc (σ.2.1 6) ≤ (σ.1 3)) from by rw [w3_τ25, g6_τ25]]; exact SYt
    have AVt : (τ25.1 12) ≤ ca (τ25.2.1 9) (τ25.1 3) := by rw [show ((τ25.1 12) ≤ ca (τ25.2.1 9) (τ25.1 3)) = ((σ.1 12) ≤ ca (σ.2.1 9) (σ.1 3)) from by rw [w3_τ25, w12_τ25, g9_τ25]]; exact AVt
    have STt : j_l2 (τ25.2.1 6) (τ25.1 3) := by rw [show (j_l2 (τ25.2.1 6) (τ25.1 3)) = (j_l2 (σ.2.1 6) (σ.1 3)) from by rw [w3_τ25, g6_τ25]]; exact STt
    have A1 : ∀ j, 0 ≤ τ25.2.1 1 j ∧ τ25.2.1 1 j ≤ 255 := fun j => hT.2 1 j
    have A2 : ∀ j, 0 ≤ τ25.2.1 2 j ∧ τ25.2.1 2 j ≤ 30000 := fun j => hT.2 2 j
    have A3 : ∀ j, 0 ≤ τ25.2.1 3 j ∧ τ25.2.1 3 j ≤ 60 := fun j => hT.2 3 j
    have A6 : ∀ j, (-1) ≤ τ25.2.1 6 j ∧ τ25.2.1 6 j ≤ 999 := fun j => hT.2 6 j
    have A7 : ∀ j, (-1) ≤ τ25.2.1 7 j ∧ τ25.2.1 7 j ≤ 1499 := fun j => hT.2 7 j
    have A9 : ∀ j, 0 ≤ τ25.2.1 9 j ∧ τ25.2.1 9 j ≤ 1 := fun j => hT.2 9 j
    have A10 : ∀ j, (-1) ≤ τ25.2.1 10 j ∧ τ25.2.1 10 j ≤ 999 := fun j => hT.2 10 j
    have A11 : ∀ j, (-1) ≤ τ25.2.1 11 j ∧ τ25.2.1 11 j ≤ 1499 := fun j => hT.2 11 j
    have A12 : ∀ j, 0 ≤ τ25.2.1 12 j ∧ τ25.2.1 12 j ≤ 1 := fun j => hT.2 12 j
    have A13 : ∀ j, 0 ≤ τ25.2.1 13 j ∧ τ25.2.1 13 j ≤ 4 := fun j => hT.2 13 j
    have A21 : ∀ j, 0 ≤ τ25.2.1 21 j ∧ τ25.2.1 21 j ≤ 20000 := fun j => hT.2 21 j
    have A22 : ∀ j, 0 ≤ τ25.2.1 22 j ∧ τ25.2.1 22 j ≤ 20000 := fun j => hT.2 22 j
    have A28 : ∀ j, 0 ≤ τ25.2.1 28 j ∧ τ25.2.1 28 j ≤ 1 := fun j => hT.2 28 j
    have A31 : ∀ j, 0 ≤ τ25.2.1 31 j ∧ τ25.2.1 31 j ≤ 1499 := fun j => hT.2 31 j
    have A35 : ∀ j, 0 ≤ τ25.2.1 35 j ∧ τ25.2.1 35 j ≤ 1500 := fun j => hT.2 35 j
    have v0 : 0 ≤ τ25.1 0 ∧ τ25.1 0 ≤ 60000 := hT.1 0
    have v2 : 0 ≤ τ25.1 2 ∧ τ25.1 2 ≤ 30000 := hT.1 2
    have v3 : 0 ≤ τ25.1 3 ∧ τ25.1 3 ≤ 1000 := hT.1 3
    have v4 : 0 ≤ τ25.1 4 ∧ τ25.1 4 ≤ 100 := hT.1 4
    have v5 : 0 ≤ τ25.1 5 ∧ τ25.1 5 ≤ 1500 := hT.1 5
    have v6 : 0 ≤ τ25.1 6 ∧ τ25.1 6 ≤ 30000 := hT.1 6
    have v7 : 0 ≤ τ25.1 7 ∧ τ25.1 7 ≤ 90000 := hT.1 7
    have v8 : 0 ≤ τ25.1 8 ∧ τ25.1 8 ≤ 20000 := hT.1 8
    have v9 : 0 ≤ τ25.1 9 ∧ τ25.1 9 ≤ 20000 := hT.1 9
    have v10 : (-1) ≤ τ25.1 10 ∧ τ25.1 10 ≤ 999 := hT.1 10
    have v11 : (-1) ≤ τ25.1 11 ∧ τ25.1 11 ≤ 999 := hT.1 11
    have v12 : 0 ≤ τ25.1 12 ∧ τ25.1 12 ≤ 1000 := hT.1 12
    have v13 : 0 ≤ τ25.1 13 ∧ τ25.1 13 ≤ 1500 := hT.1 13
    have v15 : 0 ≤ τ25.1 15 ∧ τ25.1 15 ≤ 50 := hT.1 15
    have v16 : 0 ≤ τ25.1 16 ∧ τ25.1 16 ≤ 60000 := hT.1 16
    have v17 : 0 ≤ τ25.1 17 ∧ τ25.1 17 ≤ 60000 := hT.1 17
    have v18 : 0 ≤ τ25.1 18 ∧ τ25.1 18 ≤ 60000 := hT.1 18
    have v19 : (-1) ≤ τ25.1 19 ∧ τ25.1 19 ≤ 125 := hT.1 19
    have v20 : 0 ≤ τ25.1 20 ∧ τ25.1 20 ≤ 19 := hT.1 20
    have av3 : σ.1 3 ≤ τ25.1 3 := ag.1 3 (by decide)
    have av5 : σ.1 5 ≤ τ25.1 5 := ag.1 5 (by decide)
    have av6 : σ.1 6 ≤ τ25.1 6 := ag.1 6 (by decide)
    have av7 : σ.1 7 ≤ τ25.1 7 := ag.1 7 (by decide)
    have av8 : σ.1 8 ≤ τ25.1 8 := ag.1 8 (by decide)
    have av9 : σ.1 9 ≤ τ25.1 9 := ag.1 9 (by decide)
    have Y8 := q23_11
    have NTB : n_tb (τ25.1 3) (τ25.2.1 1) (τ25.2.1 2) (τ25.2.1 3) (τ25.2.1 6) := by (rw [w3_τ25, g2_τ25, g3_τ25, g6_τ25]; exact n_tb_c p11 p12 q23_18.2)
    have NNM : n_nm (τ25.1 3) (τ25.1 2) (τ25.2.1 2) (τ25.2.1 3) := by (rw [w3_τ25, g2_τ25, g3_τ25]; exact n_nm_w p12 q23_18.1)
    have NTU : n_tu (τ25.1 3) (τ25.1 10) (τ25.1 11) (τ25.2.1 1) (τ25.2.1 2) (τ25.2.1 3) := by (rw [w3_τ25, w10_τ25, w11_τ25, g2_τ25, g3_τ25]; exact n_tu_c p13 p12 q23_18.2)
    exact ⟨hT, (show (τ25.1 16) ≤ (τ25.1 0) from by (first | omega | (simp only [st_s] <;> omega) | assumption | omega | fail)), (show (τ25.1 17) + (τ25.1 18) ≤ (τ25.1 0) from by (first | omega | (simp only [st_s] <;> omega) | assumption | omega | fail)), (show ¬ (σ.1 20) = 0 → (τ25.1 20) = (σ.1 20) from by (first | omega | (simp only [st_s] <;> omega) | assumption | omega | fail)), (show oc (τ25.2.1 6) ≤ (τ25.1 3) from SYt), (show (τ25.1 12) ≤ ca (τ25.2.1 9) (τ25.1 3) from AVt), (show j_l2 (τ25.2.1 6) (τ25.1 3) from Y1), (show ca (τ25.2.1 12) ((τ25.1 3)) ≤ (τ25.1 4) from Y20), (show J_pa (τ25.2.1 21) (τ25.2.1 22) from PA), (show (τ25.1 13) ≤ (τ25.1 5) from by (first | omega | (simp only [st_s] <;> omega) | assumption | omega | fail)), (show (τ25.1 20) = 0 → oc (τ25.2.1 7) ≤ (τ25.1 5) from by (first | omega | (simp only [st_s] <;> omega) | assumption | omega | fail)), (show (τ25.1 20) = 0 → (τ25.1 7) ≤ 60 * (τ25.1 5) from by (first | omega | (simp only [st_s] <;> omega) | assumption | omega | fail)), (show j_eq ((σ.1 9)) (σ.2.1 28) (τ25.2.1 28) from Y8), (show (τ25.1 20) = 0 → m_J σ → m_J τ25 from by (first | (intro hf; exfalso; omega) | (intro hf hJ; first | exact q23_12 hf hJ | exact m_J_f hJ hf_τ12 rfl rfl | exact m_J_f hJ hf_τ15 rfl rfl | exact m_J_f hJ hf_τ19 rfl rfl | exact m_J_f hJ hf_τ29 rfl rfl) | fail)), (show (σ.1 5) ≤ (τ25.1 5) from by (first | omega | (simp only [st_s] <;> omega) | assumption | omega | fail)), (show (σ.1 16) ≤ (τ25.1 16) from by (first | omega | (simp only [st_s] <;> omega) | assumption | omega | fail)), ag, (show (τ25.1 20) = 0 → n_J τ25 ∧ n_S τ25 from by (first | (intro z; exfalso; omega) | exact q23_15 | exact fun _ => ⟨Jτ15, Sτ15⟩ | exact fun _ => ⟨Jτ19, Sτ19⟩ | exact fun _ => ⟨n_J_hh p15 hf_τ12 rfl rfl, n_S_h p14 hf_τ12 rfl rfl⟩ | exact fun _ => ⟨n_J_hh p15 hf_τ29 rfl rfl, q27_4 p14⟩ | fail)), (show n_rl σ τ25 from by (first | exact q23_16 | exact q13_10 | exact q17_10 | exact n_rl_h hf_τ9 rfl rfl | exact n_rl_h hf_τ12 rfl rfl | exact n_rl_h hf_τ22 rfl rfl | exact n_rl_h hf_τ29 rfl rfl | fail)), (show n_hk σ τ25 from by (first | exact q23_17 | exact q27_5 | exact n_hk_h hf_τ9 rfl rfl | exact n_hk_h hf_τ12 rfl rfl | exact n_hk_h hf_τ22 rfl rfl | exact n_hk_h hf_τ15 rfl rfl | exact n_hk_h hf_τ19 rfl rfl | fail)), (show n_rc σ τ25 from by (first | exact q23_18 | exact q13_11 | exact q17_11 | exact n_rc_h hf_τ9 rfl rfl | exact n_rc_h hf_τ12 rfl rfl | exact n_rc_h hf_τ22 rfl rfl | exact n_rc_h hf_τ29 rfl rfl | fail)), (show n_tb (τ25.1 3) (τ25.2.1 1) (τ25.2.1 2) (τ25.2.1 3) (τ25.2.1 6) from NTB), (show n_nm (τ25.1 3) (τ25.1 2) (τ25.2.1 2) (τ25.2.1 3) from NNM), (show n_tu (τ25.1 3) (τ25.1 10) (τ25.1 11) (τ25.2.1 1) (τ25.2.1 2) (τ25.2.1 3) from NTU)⟩
