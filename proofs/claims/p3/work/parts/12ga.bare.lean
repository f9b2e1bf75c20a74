theorem z_GH_0 {σ : S0} (h : σ.1 53 = 0) : z_GH σ 0 := by
  unfold z_GH
  rw [z_gu_0, sm_0, h]; omega
theorem z_GH_n {σ : S0} {u n : Int} (h : z_GH σ u) (D1 : z_D1 σ n) (DT : y_DT σ) (n5 : n ≤ σ.1 5) (u0 : 0 ≤ u) : z_GH σ (u + 1) := by
  obtain ⟨s1, s2, _⟩ := z_GH_s D1 DT n5 u0
  have w := sm_s (z_hu σ) u0
  have a := h.1
  have b := h.2
  unfold z_GH
  omega
theorem z_GH_d {σ τ : S0} {u n d : Int} (h : z_GH σ u) (D1 : z_D1 σ n) (DT : y_DT σ) (n5 : n ≤ σ.1 5) (u0 : 0 ≤ u) (d0 : 0 ≤ d) (d5 : d < σ.1 5) (hd : σ.2.1 97 d = u) (SF : y_SF σ τ) (e97 : τ.2.1 97 = σ.2.1 97) (l53 : σ.1 53 ≤ τ.1 53 ∧ τ.1 53 ≤ σ.1 53 + 599) : z_GH τ (u + 1) := by
  obtain ⟨s1, s2, s3⟩ := z_GH_s D1 DT n5 u0
  have s4 := s3 d d0 d5 hd
  have w := sm_s (z_hu σ) u0
  have a : z_gu τ (u + 1) = z_gu σ (u + 1) := by funext r; unfold z_gu; rw [e97]
  have b : z_hu τ = z_hu σ := by funext r; unfold z_hu; rw [SF.1.1, SF.1.2.2.2.2.1, SF.1.2.2.2.2.2.2.1]
  have h1 := h.1
  have h2 := h.2
  unfold z_GH
  rw [a, b, SF.2.2.1]
  omega
theorem z_BB_n {σ : S0} {u : Int} (h : z_BB σ u) (g : ∀ d : Int, 0 ≤ d → d < σ.1 5 → σ.2.1 97 d = u → ¬ σ.2.1 98 d = 0 → False) : z_BB σ (u + 1) := fun d d0 d5 a b c => by
  rcases (by omega : σ.2.1 97 d < u ∨ σ.2.1 97 d = u) with y | y
  · exact h d d0 d5 a y c
  · exact (g d d0 d5 y c).elim
theorem z_BB_s {τ D : S0} {u d x : Int} (BB : z_BB τ u) (DX : ∀ e : Int, 0 ≤ e → e < τ.1 5 → τ.2.1 97 e = u → e = d) (SF : y_SF τ D) (e97 : D.2.1 97 = τ.2.1 97) (e98 : D.2.1 98 = τ.2.1 98) (hd : τ.2.1 97 d = u) (e99 : ∀ r : Int, ¬ r = d → D.2.1 99 r = τ.2.1 99 r) (e99d : D.2.1 99 d = τ.1 53) (e100 : ∀ r : Int, ¬ r = d → D.2.1 100 r = τ.2.1 100 r) (e100d : D.2.1 100 d = x) (l53 : 0 ≤ τ.1 53) (q1 : x = -1 ∨ (1 ≤ x ∧ x ≤ 599 ∧ D.1 53 = τ.1 53 + x)) (q2 : x = -1 → D.1 53 = τ.1 53) (e101 : ∀ e : Int, e < τ.1 53 → D.2.1 101 e = τ.2.1 101 e)
    (q4 : ¬ x = -1 → ∀ k : Int, 0 ≤ k → k < x → (D.2.1 101 (τ.1 53 + k) < 0 → -1 - D.2.1 101 (τ.1 53 + k) < τ.2.1 19 d) ∧ (0 ≤ D.2.1 101 (τ.1 53 + k) → D.2.1 101 (τ.1 53 + k) < τ.1 3)) : z_BB D (u + 1) ∧ (τ.1 53 ≤ D.1 53 ∧ D.1 53 ≤ τ.1 53 + 599) := by
  have l : τ.1 53 ≤ D.1 53 ∧ D.1 53 ≤ τ.1 53 + 599 := by
    rcases q1 with z | z
    · have := q2 z; omega
    · omega
  refine ⟨fun e e0 e5 a b c => ?_, l⟩
  rw [SF.2.2.1] at e5
  rw [e97] at a b
  rw [e98] at c
  by_cases y : e = d
  · subst y
    unfold z_BV
    rw [e100d, e99d, SF.1.2.2.2.2.2.2.2.2.1, SF.2.1]
    rcases q1 with z | z
    · exact Or.inl z
    · exact Or.inr ⟨⟨z.1, l53, by omega⟩, q4 (by omega)⟩
  · have w : τ.2.1 97 e < u := by
      rcases (by omega : τ.2.1 97 e < u ∨ τ.2.1 97 e = u) with z | z
      · exact z
      · exact absurd (DX e e0 e5 z) y
    exact z_BV_k (BB e e0 e5 a w c) SF.1.2.2.2.2.2.2.2.2.1 SF.2.1 (e99 e y) (e100 e y) l.1 e101
set_option maxHeartbeats 8000000 in
theorem K_X13_printBare {n1 : Int} {σ : S0} (hT : m_T σ) (p1 : 0 ≤ n1) (p2 : n1 < (σ.1 5)) (p3 : σ.2.1 15 n1 ≤ 60) (p4 : ca (σ.2.1 12) ((σ.1 3)) ≤ (σ.1 4)) (p5 : (σ.1 10) < (σ.1 3)) (p6 : y_BI σ σ) (p7 : σ.2.1 94 n1 = 1) : W_X13_printBare n1 σ (fun (x : Int) (τ : S0) => (m_T τ) ∧ (y_BI σ τ)) := by
  have A8 : ∀ j, 0 ≤ σ.2.1 8 j ∧ σ.2.1 8 j ≤ 1 := fun j => hT.2 8 j
  have A10 : ∀ j, (-1) ≤ σ.2.1 10 j ∧ σ.2.1 10 j ≤ 999 := fun j => hT.2 10 j
  have A12 : ∀ j, 0 ≤ σ.2.1 12 j ∧ σ.2.1 12 j ≤ 1 := fun j => hT.2 12 j
  have A13 : ∀ j, 0 ≤ σ.2.1 13 j ∧ σ.2.1 13 j ≤ 4 := fun j => hT.2 13 j
  have A14 : ∀ j, 0 ≤ σ.2.1 14 j ∧ σ.2.1 14 j ≤ 30000 := fun j => hT.2 14 j
  have A15 : ∀ j, 0 ≤ σ.2.1 15 j ∧ σ.2.1 15 j ≤ 300 := fun j => hT.2 15 j
  have A16 : ∀ j, 0 ≤ σ.2.1 16 j ∧ σ.2.1 16 j ≤ 999 := fun j => hT.2 16 j
  have A17 : ∀ j, (-1) ≤ σ.2.1 17 j ∧ σ.2.1 17 j ≤ 1499 := fun j => hT.2 17 j
  have A18 : ∀ j, 0 ≤ σ.2.1 18 j ∧ σ.2.1 18 j ≤ 90000 := fun j => hT.2 18 j
  have A19 : ∀ j, 0 ≤ σ.2.1 19 j ∧ σ.2.1 19 j ≤ 60 := fun j => hT.2 19 j
  have A20 : ∀ j, 0 ≤ σ.2.1 20 j ∧ σ.2.1 20 j ≤ 1499 := fun j => hT.2 20 j
  have A86 : ∀ j, (-1500) ≤ σ.2.1 86 j ∧ σ.2.1 86 j ≤ 1499 := fun j => hT.2 86 j
  have A87 : ∀ j, 0 ≤ σ.2.1 87 j ∧ σ.2.1 87 j ≤ 120000 := fun j => hT.2 87 j
  have A91 : ∀ j, 0 ≤ σ.2.1 91 j ∧ σ.2.1 91 j ≤ 60000 := fun j => hT.2 91 j
  have A97 : ∀ j, (-1) ≤ σ.2.1 97 j ∧ σ.2.1 97 j ≤ 1499 := fun j => hT.2 97 j
  have A98 : ∀ j, 0 ≤ σ.2.1 98 j ∧ σ.2.1 98 j ≤ 1 := fun j => hT.2 98 j
  have v3 : 0 ≤ σ.1 3 ∧ σ.1 3 ≤ 1000 := hT.1 3
  have v4 : 0 ≤ σ.1 4 ∧ σ.1 4 ≤ 100 := hT.1 4
  have v5 : 0 ≤ σ.1 5 ∧ σ.1 5 ≤ 1500 := hT.1 5
  have v10 : (-1) ≤ σ.1 10 ∧ σ.1 10 ≤ 999 := hT.1 10
  have v11 : (-1) ≤ σ.1 11 ∧ σ.1 11 ≤ 999 := hT.1 11
  have v45 : 0 ≤ σ.1 45 ∧ σ.1 45 ≤ 59 := hT.1 45
  have v48 : 0 ≤ σ.1 48 ∧ σ.1 48 ≤ 1500 := hT.1 48
  have v49 : 0 ≤ σ.1 49 ∧ σ.1 49 ≤ 1 := hT.1 49
  have v50 : 0 ≤ σ.1 50 ∧ σ.1 50 ≤ 1500 := hT.1 50
  have v51 : 0 ≤ σ.1 51 ∧ σ.1 51 ≤ 60000 := hT.1 51
  have v52 : 0 ≤ σ.1 52 ∧ σ.1 52 ≤ 120000 := hT.1 52
  have v53 : 0 ≤ σ.1 53 ∧ σ.1 53 ≤ 460000 := hT.1 53
  have v54 : 0 ≤ σ.1 54 ∧ σ.1 54 ≤ 1300 := hT.1 54
  have W3 : σ.1 3 = σ.1 3 := rfl
  have W4 : σ.1 4 = σ.1 4 := rfl
  have W5 : σ.1 5 = σ.1 5 := rfl
  have W10 : σ.1 10 = σ.1 10 := rfl
  have W11 : σ.1 11 = σ.1 11 := rfl
  have G8 : σ.2.1 8 = σ.2.1 8 := rfl
  have G10 : σ.2.1 10 = σ.2.1 10 := rfl
  have G12 : σ.2.1 12 = σ.2.1 12 := rfl
  have G13 : σ.2.1 13 = σ.2.1 13 := rfl
  have G14 : σ.2.1 14 = σ.2.1 14 := rfl
  have G15 : σ.2.1 15 = σ.2.1 15 := rfl
  have G16 : σ.2.1 16 = σ.2.1 16 := rfl
  have G17 : σ.2.1 17 = σ.2.1 17 := rfl
  have G18 : σ.2.1 18 = σ.2.1 18 := rfl
  have G19 : σ.2.1 19 = σ.2.1 19 := rfl
  have G20 : σ.2.1 20 = σ.2.1 20 := rfl
  intro P12 P175 h12 h175
  have l5 : σ.1 5 ≤ 1500 := (hT.1 5).2
  have l3 : σ.1 3 ≤ 1000 := (hT.1 3).2
  have Y20 : ca (σ.2.1 12) ((σ.1 3)) ≤ (σ.1 4) := p4
  have Y20_0 := Y20
  have l_175 : ∀ (m_175 : Nat) (u2_175 : Int) (u3_175 : Int) (u4_175 : Int) (τ_175 : S0), u3_175 - u4_175 + 1 < (m_175 : Int) → (m_T τ_175) → (τ_175.1 3 = σ.1 3) → (τ_175.1 4 = σ.1 4) → (τ_175.1 5 = σ.1 5) → (τ_175.1 10 = σ.1 10) → (τ_175.1 11 = σ.1 11) → (τ_175.2.1 8 = σ.2.1 8) → (τ_175.2.1 10 = σ.2.1 10) → (τ_175.2.1 12 = σ.2.1 12) → (τ_175.2.1 13 = σ.2.1 13) → (τ_175.2.1 14 = σ.2.1 14) → (τ_175.2.1 15 = σ.2.1 15) → (τ_175.2.1 16 = σ.2.1 16) → (τ_175.2.1 17 = σ.2.1 17) → (τ_175.2.1 18 = σ.2.1 18) → (τ_175.2.1 19 = σ.2.1 19) → (τ_175.2.1 20 = σ.2.1 20) → (y_BI σ τ_175) → (0 ≤ u4_175 ∧ u4_175 ≤ u3_175) → (0 ≤ u2_175 ∧ u2_175 + u3_175 ≤ 460000 ∧ u3_175 ≤ 599) → (∀ k : Int, 0 ≤ k → k < u3_175 → 0 ≤ τ_175.2.1 101 (u2_175 + k) ∧ τ_175.2.1 101 (u2_175 + k) < 1000) → P175 u2_175 u3_175 u4_175 τ_175 := by
    intro m_175
    induction m_175 with
    | zero =>
      intro u2_175 u3_175 u4_175 τ_175 hm hT W3 W4 W5 W10 W11 G8 G10 G12 G13 G14 G15 G16 G17 G18 G19 G20 i175_1 i175_2 i175_3 i175_4
      have A8 : ∀ j, 0 ≤ τ_175.2.1 8 j ∧ τ_175.2.1 8 j ≤ 1 := fun j => hT.2 8 j
      have A10 : ∀ j, (-1) ≤ τ_175.2.1 10 j ∧ τ_175.2.1 10 j ≤ 999 := fun j => hT.2 10 j
      have A12 : ∀ j, 0 ≤ τ_175.2.1 12 j ∧ τ_175.2.1 12 j ≤ 1 := fun j => hT.2 12 j
      have A13 : ∀ j, 0 ≤ τ_175.2.1 13 j ∧ τ_175.2.1 13 j ≤ 4 := fun j => hT.2 13 j
      have A14 : ∀ j, 0 ≤ τ_175.2.1 14 j ∧ τ_175.2.1 14 j ≤ 30000 := fun j => hT.2 14 j
      have A15 : ∀ j, 0 ≤ τ_175.2.1 15 j ∧ τ_175.2.1 15 j ≤ 300 := fun j => hT.2 15 j
      have A16 : ∀ j, 0 ≤ τ_175.2.1 16 j ∧ τ_175.2.1 16 j ≤ 999 := fun j => hT.2 16 j
      have A17 : ∀ j, (-1) ≤ τ_175.2.1 17 j ∧ τ_175.2.1 17 j ≤ 1499 := fun j => hT.2 17 j
      have A18 : ∀ j, 0 ≤ τ_175.2.1 18 j ∧ τ_175.2.1 18 j ≤ 90000 := fun j => hT.2 18 j
      have A19 : ∀ j, 0 ≤ τ_175.2.1 19 j ∧ τ_175.2.1 19 j ≤ 60 := fun j => hT.2 19 j
      have A20 : ∀ j, 0 ≤ τ_175.2.1 20 j ∧ τ_175.2.1 20 j ≤ 1499 := fun j => hT.2 20 j
      have A86 : ∀ j, (-1500) ≤ τ_175.2.1 86 j ∧ τ_175.2.1 86 j ≤ 1499 := fun j => hT.2 86 j
      have A87 : ∀ j, 0 ≤ τ_175.2.1 87 j ∧ τ_175.2.1 87 j ≤ 120000 := fun j => hT.2 87 j
      have A91 : ∀ j, 0 ≤ τ_175.2.1 91 j ∧ τ_175.2.1 91 j ≤ 60000 := fun j => hT.2 91 j
      have A97 : ∀ j, (-1) ≤ τ_175.2.1 97 j ∧ τ_175.2.1 97 j ≤ 1499 := fun j => hT.2 97 j
      have A98 : ∀ j, 0 ≤ τ_175.2.1 98 j ∧ τ_175.2.1 98 j ≤ 1 := fun j => hT.2 98 j
      have v3 : 0 ≤ τ_175.1 3 ∧ τ_175.1 3 ≤ 1000 := hT.1 3
      have v4 : 0 ≤ τ_175.1 4 ∧ τ_175.1 4 ≤ 100 := hT.1 4
      have v5 : 0 ≤ τ_175.1 5 ∧ τ_175.1 5 ≤ 1500 := hT.1 5
      have v10 : (-1) ≤ τ_175.1 10 ∧ τ_175.1 10 ≤ 999 := hT.1 10
      have v11 : (-1) ≤ τ_175.1 11 ∧ τ_175.1 11 ≤ 999 := hT.1 11
      have v45 : 0 ≤ τ_175.1 45 ∧ τ_175.1 45 ≤ 59 := hT.1 45
      have v48 : 0 ≤ τ_175.1 48 ∧ τ_175.1 48 ≤ 1500 := hT.1 48
      have v49 : 0 ≤ τ_175.1 49 ∧ τ_175.1 49 ≤ 1 := hT.1 49
      have v50 : 0 ≤ τ_175.1 50 ∧ τ_175.1 50 ≤ 1500 := hT.1 50
      have v51 : 0 ≤ τ_175.1 51 ∧ τ_175.1 51 ≤ 60000 := hT.1 51
      have v52 : 0 ≤ τ_175.1 52 ∧ τ_175.1 52 ≤ 120000 := hT.1 52
      have v53 : 0 ≤ τ_175.1 53 ∧ τ_175.1 53 ≤ 460000 := hT.1 53
      have v54 : 0 ≤ τ_175.1 54 ∧ τ_175.1 54 ≤ 1300 := hT.1 54
      exfalso; (first | omega | (simp only [st_s] <;> omega) | assumption | omega | fail)
    | succ m_175 ih_175 =>
      intro u2_175 u3_175 u4_175 τ_175 hm_175 hT W3 W4 W5 W10 W11 G8 G10 G12 G13 G14 G15 G16 G17 G18 G19 G20 i175_1 i175_2 i175_3 i175_4
      have A8 : ∀ j, 0 ≤ τ_175.2.1 8 j ∧ τ_175.2.1 8 j ≤ 1 := fun j => hT.2 8 j
      have A10 : ∀ j, (-1) ≤ τ_175.2.1 10 j ∧ τ_175.2.1 10 j ≤ 999 := fun j => hT.2 10 j
      have A12 : ∀ j, 0 ≤ τ_175.2.1 12 j ∧ τ_175.2.1 12 j ≤ 1 := fun j => hT.2 12 j
      have A13 : ∀ j, 0 ≤ τ_175.2.1 13 j ∧ τ_175.2.1 13 j ≤ 4 := fun j => hT.2 13 j
      have A14 : ∀ j, 0 ≤ τ_175.2.1 14 j ∧ τ_175.2.1 14 j ≤ 30000 := fun j => hT.2 14 j
      have A15 : ∀ j, 0 ≤ τ_175.2.1 15 j ∧ τ_175.2.1 15 j ≤ 300 := fun j => hT.2 15 j
      have A16 : ∀ j, 0 ≤ τ_175.2.1 16 j ∧ τ_175.2.1 16 j ≤ 999 := fun j => hT.2 16 j
      have A17 : ∀ j, (-1) ≤ τ_175.2.1 17 j ∧ τ_175.2.1 17 j ≤ 1499 := fun j => hT.2 17 j
      have A18 : ∀ j, 0 ≤ τ_175.2.1 18 j ∧ τ_175.2.1 18 j ≤ 90000 := fun j => hT.2 18 j
      have A19 : ∀ j, 0 ≤ τ_175.2.1 19 j ∧ τ_175.2.1 19 j ≤ 60 := fun j => hT.2 19 j
      have A20 : ∀ j, 0 ≤ τ_175.2.1 20 j ∧ τ_175.2.1 20 j ≤ 1499 := fun j => hT.2 20 j
      have A86 : ∀ j, (-1500) ≤ τ_175.2.1 86 j ∧ τ_175.2.1 86 j ≤ 1499 := fun j => hT.2 86 j
      have A87 : ∀ j, 0 ≤ τ_175.2.1 87 j ∧ τ_175.2.1 87 j ≤ 120000 := fun j => hT.2 87 j
      have A91 : ∀ j, 0 ≤ τ_175.2.1 91 j ∧ τ_175.2.1 91 j ≤ 60000 := fun j => hT.2 91 j
      have A97 : ∀ j, (-1) ≤ τ_175.2.1 97 j ∧ τ_175.2.1 97 j ≤ 1499 := fun j => hT.2 97 j
      have A98 : ∀ j, 0 ≤ τ_175.2.1 98 j ∧ τ_175.2.1 98 j ≤ 1 := fun j => hT.2 98 j
      have v3 : 0 ≤ τ_175.1 3 ∧ τ_175.1 3 ≤ 1000 := hT.1 3
      have v4 : 0 ≤ τ_175.1 4 ∧ τ_175.1 4 ≤ 100 := hT.1 4
      have v5 : 0 ≤ τ_175.1 5 ∧ τ_175.1 5 ≤ 1500 := hT.1 5
      have v10 : (-1) ≤ τ_175.1 10 ∧ τ_175.1 10 ≤ 999 := hT.1 10
      have v11 : (-1) ≤ τ_175.1 11 ∧ τ_175.1 11 ≤ 999 := hT.1 11
      have v45 : 0 ≤ τ_175.1 45 ∧ τ_175.1 45 ≤ 59 := hT.1 45
      have v48 : 0 ≤ τ_175.1 48 ∧ τ_175.1 48 ≤ 1500 := hT.1 48
      have v49 : 0 ≤ τ_175.1 49 ∧ τ_175.1 49 ≤ 1 := hT.1 49
      have v50 : 0 ≤ τ_175.1 50 ∧ τ_175.1 50 ≤ 1500 := hT.1 50
      have v51 : 0 ≤ τ_175.1 51 ∧ τ_175.1 51 ≤ 60000 := hT.1 51
      have v52 : 0 ≤ τ_175.1 52 ∧ τ_175.1 52 ≤ 120000 := hT.1 52
      have v53 : 0 ≤ τ_175.1 53 ∧ τ_175.1 53 ≤ 460000 := hT.1 53
      have v54 : 0 ≤ τ_175.1 54 ∧ τ_175.1 54 ≤ 1300 := hT.1 54
      have Y20 : ca (τ_175.2.1 12) ((τ_175.1 3)) ≤ (τ_175.1 4) := by rw [show (ca (τ_175.2.1 12) ((τ_175.1 3)) ≤ (τ_175.1 4)) = (ca (σ.2.1 12) ((σ.1 3)) ≤ (σ.1 4)) from by rw [W3, W4, G12]]; exact Y20_0
      have hT17 := hT
      refine h175 u2_175 u3_175 u4_175 τ_175 ?_
      refine ⟨fun c56 => ?_, fun c56 => ?_⟩
      ·
        have hT17 := hT
        refine ⟨_, K_X13_keepDraft hT, ?_⟩
        intro x58 τ59 r_x58 hn_τ59 hf_τ59 hq
        replace hT := hq
        have w3_τ59 : τ59.1 3 = τ_175.1 3 := hf_τ59.1 3 (by decide)
        have w4_τ59 : τ59.1 4 = τ_175.1 4 := hf_τ59.1 4 (by decide)
        have w5_τ59 : τ59.1 5 = τ_175.1 5 := hf_τ59.1 5 (by decide)
        have w10_τ59 : τ59.1 10 = τ_175.1 10 := hf_τ59.1 10 (by decide)
        have w11_τ59 : τ59.1 11 = τ_175.1 11 := hf_τ59.1 11 (by decide)
        have w45_τ59 : τ59.1 45 = τ_175.1 45 := hf_τ59.1 45 (by decide)
        have w48_τ59 : τ59.1 48 = τ_175.1 48 := hf_τ59.1 48 (by decide)
        have w49_τ59 : τ59.1 49 = τ_175.1 49 := hf_τ59.1 49 (by decide)
        have w50_τ59 : τ59.1 50 = τ_175.1 50 := hf_τ59.1 50 (by decide)
        have w51_τ59 : τ59.1 51 = τ_175.1 51 := hf_τ59.1 51 (by decide)
        have w52_τ59 : τ59.1 52 = τ_175.1 52 := hf_τ59.1 52 (by decide)
        have w53_τ59 : τ59.1 53 = τ_175.1 53 := hf_τ59.1 53 (by decide)
        have w54_τ59 : τ59.1 54 = τ_175.1 54 := hf_τ59.1 54 (by decide)
        have g8_τ59 : τ59.2.1 8 = τ_175.2.1 8 := hf_τ59.2.1 8 (by decide)
        have g10_τ59 : τ59.2.1 10 = τ_175.2.1 10 := hf_τ59.2.1 10 (by decide)
        have g12_τ59 : τ59.2.1 12 = τ_175.2.1 12 := hf_τ59.2.1 12 (by decide)
        have g13_τ59 : τ59.2.1 13 = τ_175.2.1 13 := hf_τ59.2.1 13 (by decide)
        have g14_τ59 : τ59.2.1 14 = τ_175.2.1 14 := hf_τ59.2.1 14 (by decide)
        have g15_τ59 : τ59.2.1 15 = τ_175.2.1 15 := hf_τ59.2.1 15 (by decide)
        have g16_τ59 : τ59.2.1 16 = τ_175.2.1 16 := hf_τ59.2.1 16 (by decide)
        have g17_τ59 : τ59.2.1 17 = τ_175.2.1 17 := hf_τ59.2.1 17 (by decide)
        have g18_τ59 : τ59.2.1 18 = τ_175.2.1 18 := hf_τ59.2.1 18 (by decide)
        have g19_τ59 : τ59.2.1 19 = τ_175.2.1 19 := hf_τ59.2.1 19 (by decide)
        have g20_τ59 : τ59.2.1 20 = τ_175.2.1 20 := hf_τ59.2.1 20 (by decide)
        have g86_τ59 : τ59.2.1 86 = τ_175.2.1 86 := hf_τ59.2.1 86 (by decide)
        have g87_τ59 : τ59.2.1 87 = τ_175.2.1 87 := hf_τ59.2.1 87 (by decide)
        have g91_τ59 : τ59.2.1 91 = τ_175.2.1 91 := hf_τ59.2.1 91 (by decide)
        have g97_τ59 : τ59.2.1 97 = τ_175.2.1 97 := hf_τ59.2.1 97 (by decide)
        have g98_τ59 : τ59.2.1 98 = τ_175.2.1 98 := hf_τ59.2.1 98 (by decide)
        have W3 : τ59.1 3 = σ.1 3 := by first | exact w3_τ59.trans W3 | omega
        have W4 : τ59.1 4 = σ.1 4 := by first | exact w4_τ59.trans W4 | omega
        have W5 : τ59.1 5 = σ.1 5 := by first | exact w5_τ59.trans W5 | omega
        have W10 : τ59.1 10 = σ.1 10 := by first | exact w10_τ59.trans W10 | omega
        have W11 : τ59.1 11 = σ.1 11 := by first | exact w11_τ59.trans W11 | omega
        have G8 : τ59.2.1 8 = σ.2.1 8 := (g8_τ59).trans G8
        have G10 : τ59.2.1 10 = σ.2.1 10 := (g10_τ59).trans G10
        have G12 : τ59.2.1 12 = σ.2.1 12 := (g12_τ59).trans G12
        have G13 : τ59.2.1 13 = σ.2.1 13 := (g13_τ59).trans G13
        have G14 : τ59.2.1 14 = σ.2.1 14 := (g14_τ59).trans G14
        have G15 : τ59.2.1 15 = σ.2.1 15 := (g15_τ59).trans G15
        have G16 : τ59.2.1 16 = σ.2.1 16 := (g16_τ59).trans G16
        have G17 : τ59.2.1 17 = σ.2.1 17 := (g17_τ59).trans G17
        have G18 : τ59.2.1 18 = σ.2.1 18 := (g18_τ59).trans G18
        have G19 : τ59.2.1 19 = σ.2.1 19 := (g19_τ59).trans G19
        have G20 : τ59.2.1 20 = σ.2.1 20 := (g20_τ59).trans G20
        have Y20 : ca (τ59.2.1 12) ((τ59.1 3)) ≤ (τ59.1 4) := by rw [show (ca (τ59.2.1 12) ((τ59.1 3)) ≤ (τ59.1 4)) = (ca (τ_175.2.1 12) ((τ_175.1 3)) ≤ (τ_175.1 4)) from by rw [w3_τ59, w4_τ59, g12_τ59]]; exact Y20
        have A8 : ∀ j, 0 ≤ τ59.2.1 8 j ∧ τ59.2.1 8 j ≤ 1 := fun j => hT.2 8 j
        have A10 : ∀ j, (-1) ≤ τ59.2.1 10 j ∧ τ59.2.1 10 j ≤ 999 := fun j => hT.2 10 j
        have A12 : ∀ j, 0 ≤ τ59.2.1 12 j ∧ τ59.2.1 12 j ≤ 1 := fun j => hT.2 12 j
        have A13 : ∀ j, 0 ≤ τ59.2.1 13 j ∧ τ59.2.1 13 j ≤ 4 := fun j => hT.2 13 j
        have A14 : ∀ j, 0 ≤ τ59.2.1 14 j ∧ τ59.2.1 14 j ≤ 30000 := fun j => hT.2 14 j
        have A15 : ∀ j, 0 ≤ τ59.2.1 15 j ∧ τ59.2.1 15 j ≤ 300 := fun j => hT.2 15 j
        have A16 : ∀ j, 0 ≤ τ59.2.1 16 j ∧ τ59.2.1 16 j ≤ 999 := fun j => hT.2 16 j
        have A17 : ∀ j, (-1) ≤ τ59.2.1 17 j ∧ τ59.2.1 17 j ≤ 1499 := fun j => hT.2 17 j
        have A18 : ∀ j, 0 ≤ τ59.2.1 18 j ∧ τ59.2.1 18 j ≤ 90000 := fun j => hT.2 18 j
        have A19 : ∀ j, 0 ≤ τ59.2.1 19 j ∧ τ59.2.1 19 j ≤ 60 := fun j => hT.2 19 j
        have A20 : ∀ j, 0 ≤ τ59.2.1 20 j ∧ τ59.2.1 20 j ≤ 1499 := fun j => hT.2 20 j
        have A86 : ∀ j, (-1500) ≤ τ59.2.1 86 j ∧ τ59.2.1 86 j ≤ 1499 := fun j => hT.2 86 j
        have A87 : ∀ j, 0 ≤ τ59.2.1 87 j ∧ τ59.2.1 87 j ≤ 120000 := fun j => hT.2 87 j
        have A91 : ∀ j, 0 ≤ τ59.2.1 91 j ∧ τ59.2.1 91 j ≤ 60000 := fun j => hT.2 91 j
        have A97 : ∀ j, (-1) ≤ τ59.2.1 97 j ∧ τ59.2.1 97 j ≤ 1499 := fun j => hT.2 97 j
        have A98 : ∀ j, 0 ≤ τ59.2.1 98 j ∧ τ59.2.1 98 j ≤ 1 := fun j => hT.2 98 j
        have v3 : 0 ≤ τ59.1 3 ∧ τ59.1 3 ≤ 1000 := hT.1 3
        have v4 : 0 ≤ τ59.1 4 ∧ τ59.1 4 ≤ 100 := hT.1 4
        have v5 : 0 ≤ τ59.1 5 ∧ τ59.1 5 ≤ 1500 := hT.1 5
        have v10 : (-1) ≤ τ59.1 10 ∧ τ59.1 10 ≤ 999 := hT.1 10
        have v11 : (-1) ≤ τ59.1 11 ∧ τ59.1 11 ≤ 999 := hT.1 11
        have v45 : 0 ≤ τ59.1 45 ∧ τ59.1 45 ≤ 59 := hT.1 45
        have v48 : 0 ≤ τ59.1 48 ∧ τ59.1 48 ≤ 1500 := hT.1 48
        have v49 : 0 ≤ τ59.1 49 ∧ τ59.1 49 ≤ 1 := hT.1 49
        have v50 : 0 ≤ τ59.1 50 ∧ τ59.1 50 ≤ 1500 := hT.1 50
        have v51 : 0 ≤ τ59.1 51 ∧ τ59.1 51 ≤ 60000 := hT.1 51
        have v52 : 0 ≤ τ59.1 52 ∧ τ59.1 52 ≤ 120000 := hT.1 52
        have v53 : 0 ≤ τ59.1 53 ∧ τ59.1 53 ≤ 460000 := hT.1 53
        have v54 : 0 ≤ τ59.1 54 ∧ τ59.1 54 ≤ 1300 := hT.1 54
        have BI59 := y_BI_g i175_1 hT17 hf_τ59 rfl rfl rfl
        exact ⟨hT, (show y_BI σ τ59 from by (first | exact BI13 | exact BI59 | fail))⟩
      ·
        refine ⟨(show 0 ≤ (u2_175 + u4_175) ∧ (u2_175 + u4_175) < 460000 from by (first | omega | (simp only [st_s] <;> omega) | assumption | omega | fail)), ?_⟩
        intro x61 r_x61 e_x61
        have b_x61 : (-61) ≤ x61 ∧ x61 ≤ 999 := by rw [e_x61]; exact hT.2 101 _
        have b61 := i175_4 u4_175 (by omega) (by omega)
        rw [← e_x61] at b61
        have hT62 := hT
        refine ⟨_, K_X13_putSymbol hT (show 0 ≤ x61 from by (first | omega | (simp only [st_s] <;> omega) | assumption | omega | fail)) (show x61 < 1000 from by (first | omega | (simp only [st_s] <;> omega) | assumption | omega | fail)), ?_⟩
        intro τ64 hn_τ64 hf_τ64 hq
        replace hT := hq
        have w3_τ64 : τ64.1 3 = τ_175.1 3 := hf_τ64.1 3 (by decide)
        have w4_τ64 : τ64.1 4 = τ_175.1 4 := hf_τ64.1 4 (by decide)
        have w5_τ64 : τ64.1 5 = τ_175.1 5 := hf_τ64.1 5 (by decide)
        have w10_τ64 : τ64.1 10 = τ_175.1 10 := hf_τ64.1 10 (by decide)
        have w11_τ64 : τ64.1 11 = τ_175.1 11 := hf_τ64.1 11 (by decide)
        have w45_τ64 : τ64.1 45 = τ_175.1 45 := hf_τ64.1 45 (by decide)
        have w48_τ64 : τ64.1 48 = τ_175.1 48 := hf_τ64.1 48 (by decide)
        have w49_τ64 : τ64.1 49 = τ_175.1 49 := hf_τ64.1 49 (by decide)
        have w50_τ64 : τ64.1 50 = τ_175.1 50 := hf_τ64.1 50 (by decide)
        have w51_τ64 : τ64.1 51 = τ_175.1 51 := hf_τ64.1 51 (by decide)
        have w52_τ64 : τ64.1 52 = τ_175.1 52 := hf_τ64.1 52 (by decide)
        have w53_τ64 : τ64.1 53 = τ_175.1 53 := hf_τ64.1 53 (by decide)
        have w54_τ64 : τ64.1 54 = τ_175.1 54 := hf_τ64.1 54 (by decide)
        have g8_τ64 : τ64.2.1 8 = τ_175.2.1 8 := hf_τ64.2.1 8 (by decide)
        have g10_τ64 : τ64.2.1 10 = τ_175.2.1 10 := hf_τ64.2.1 10 (by decide)
        have g12_τ64 : τ64.2.1 12 = τ_175.2.1 12 := hf_τ64.2.1 12 (by decide)
        have g13_τ64 : τ64.2.1 13 = τ_175.2.1 13 := hf_τ64.2.1 13 (by decide)
        have g14_τ64 : τ64.2.1 14 = τ_175.2.1 14 := hf_τ64.2.1 14 (by decide)
        have g15_τ64 : τ64.2.1 15 = τ_175.2.1 15 := hf_τ64.2.1 15 (by decide)
        have g16_τ64 : τ64.2.1 16 = τ_175.2.1 16 := hf_τ64.2.1 16 (by decide)
        have g17_τ64 : τ64.2.1 17 = τ_175.2.1 17 := hf_τ64.2.1 17 (by decide)
        have g18_τ64 : τ64.2.1 18 = τ_175.2.1 18 := hf_τ64.2.1 18 (by decide)
        have g19_τ64 : τ64.2.1 19 = τ_175.2.1 19 := hf_τ64.2.1 19 (by decide)
        have g20_τ64 : τ64.2.1 20 = τ_175.2.1 20 := hf_τ64.2.1 20 (by decide)
        have g86_τ64 : τ64.2.1 86 = τ_175.2.1 86 := hf_τ64.2.1 86 (by decide)
        have g87_τ64 : τ64.2.1 87 = τ_175.2.1 87 := hf_τ64.2.1 87 (by decide)
        have g91_τ64 : τ64.2.1 91 = τ_175.2.1 91 := hf_τ64.2.1 91 (by decide)
        have g97_τ64 : τ64.2.1 97 = τ_175.2.1 97 := hf_τ64.2.1 97 (by decide)
        have g98_τ64 : τ64.2.1 98 = τ_175.2.1 98 := hf_τ64.2.1 98 (by decide)
        have W3 : τ64.1 3 = σ.1 3 := by first | exact w3_τ64.trans W3 | omega
        have W4 : τ64.1 4 = σ.1 4 := by first | exact w4_τ64.trans W4 | omega
        have W5 : τ64.1 5 = σ.1 5 := by first | exact w5_τ64.trans W5 | omega
        have W10 : τ64.1 10 = σ.1 10 := by first | exact w10_τ64.trans W10 | omega
        have W11 : τ64.1 11 = σ.1 11 := by first | exact w11_τ64.trans W11 | omega
        have G8 : τ64.2.1 8 = σ.2.1 8 := (g8_τ64).trans G8
        have G10 : τ64.2.1 10 = σ.2.1 10 := (g10_τ64).trans G10
        have G12 : τ64.2.1 12 = σ.2.1 12 := (g12_τ64).trans G12
        have G13 : τ64.2.1 13 = σ.2.1 13 := (g13_τ64).trans G13
        have G14 : τ64.2.1 14 = σ.2.1 14 := (g14_τ64).trans G14
        have G15 : τ64.2.1 15 = σ.2.1 15 := (g15_τ64).trans G15
        have G16 : τ64.2.1 16 = σ.2.1 16 := (g16_τ64).trans G16
        have G17 : τ64.2.1 17 = σ.2.1 17 := (g17_τ64).trans G17
        have G18 : τ64.2.1 18 = σ.2.1 18 := (g18_τ64).trans G18
        have G19 : τ64.2.1 19 = σ.2.1 19 := (g19_τ64).trans G19
        have G20 : τ64.2.1 20 = σ.2.1 20 := (g20_τ64).trans G20
        have Y20 : ca (τ64.2.1 12) ((τ64.1 3)) ≤ (τ64.1 4) := by rw [show (ca (τ64.2.1 12) ((τ64.1 3)) ≤ (τ64.1 4)) = (ca (τ_175.2.1 12) ((τ_175.1 3)) ≤ (τ_175.1 4)) from by rw [w3_τ64, w4_τ64, g12_τ64]]; exact Y20
        have A8 : ∀ j, 0 ≤ τ64.2.1 8 j ∧ τ64.2.1 8 j ≤ 1 := fun j => hT.2 8 j
        have A10 : ∀ j, (-1) ≤ τ64.2.1 10 j ∧ τ64.2.1 10 j ≤ 999 := fun j => hT.2 10 j
        have A12 : ∀ j, 0 ≤ τ64.2.1 12 j ∧ τ64.2.1 12 j ≤ 1 := fun j => hT.2 12 j
        have A13 : ∀ j, 0 ≤ τ64.2.1 13 j ∧ τ64.2.1 13 j ≤ 4 := fun j => hT.2 13 j
        have A14 : ∀ j, 0 ≤ τ64.2.1 14 j ∧ τ64.2.1 14 j ≤ 30000 := fun j => hT.2 14 j
        have A15 : ∀ j, 0 ≤ τ64.2.1 15 j ∧ τ64.2.1 15 j ≤ 300 := fun j => hT.2 15 j
        have A16 : ∀ j, 0 ≤ τ64.2.1 16 j ∧ τ64.2.1 16 j ≤ 999 := fun j => hT.2 16 j
        have A17 : ∀ j, (-1) ≤ τ64.2.1 17 j ∧ τ64.2.1 17 j ≤ 1499 := fun j => hT.2 17 j
        have A18 : ∀ j, 0 ≤ τ64.2.1 18 j ∧ τ64.2.1 18 j ≤ 90000 := fun j => hT.2 18 j
        have A19 : ∀ j, 0 ≤ τ64.2.1 19 j ∧ τ64.2.1 19 j ≤ 60 := fun j => hT.2 19 j
        have A20 : ∀ j, 0 ≤ τ64.2.1 20 j ∧ τ64.2.1 20 j ≤ 1499 := fun j => hT.2 20 j
        have A86 : ∀ j, (-1500) ≤ τ64.2.1 86 j ∧ τ64.2.1 86 j ≤ 1499 := fun j => hT.2 86 j
        have A87 : ∀ j, 0 ≤ τ64.2.1 87 j ∧ τ64.2.1 87 j ≤ 120000 := fun j => hT.2 87 j
        have A91 : ∀ j, 0 ≤ τ64.2.1 91 j ∧ τ64.2.1 91 j ≤ 60000 := fun j => hT.2 91 j
        have A97 : ∀ j, (-1) ≤ τ64.2.1 97 j ∧ τ64.2.1 97 j ≤ 1499 := fun j => hT.2 97 j
        have A98 : ∀ j, 0 ≤ τ64.2.1 98 j ∧ τ64.2.1 98 j ≤ 1 := fun j => hT.2 98 j
        have v3 : 0 ≤ τ64.1 3 ∧ τ64.1 3 ≤ 1000 := hT.1 3
        have v4 : 0 ≤ τ64.1 4 ∧ τ64.1 4 ≤ 100 := hT.1 4
        have v5 : 0 ≤ τ64.1 5 ∧ τ64.1 5 ≤ 1500 := hT.1 5
        have v10 : (-1) ≤ τ64.1 10 ∧ τ64.1 10 ≤ 999 := hT.1 10
        have v11 : (-1) ≤ τ64.1 11 ∧ τ64.1 11 ≤ 999 := hT.1 11
        have v45 : 0 ≤ τ64.1 45 ∧ τ64.1 45 ≤ 59 := hT.1 45
        have v48 : 0 ≤ τ64.1 48 ∧ τ64.1 48 ≤ 1500 := hT.1 48
        have v49 : 0 ≤ τ64.1 49 ∧ τ64.1 49 ≤ 1 := hT.1 49
        have v50 : 0 ≤ τ64.1 50 ∧ τ64.1 50 ≤ 1500 := hT.1 50
        have v51 : 0 ≤ τ64.1 51 ∧ τ64.1 51 ≤ 60000 := hT.1 51
        have v52 : 0 ≤ τ64.1 52 ∧ τ64.1 52 ≤ 120000 := hT.1 52
        have v53 : 0 ≤ τ64.1 53 ∧ τ64.1 53 ≤ 460000 := hT.1 53
        have v54 : 0 ≤ τ64.1 54 ∧ τ64.1 54 ≤ 1300 := hT.1 54
        have BI64 := y_BI_g i175_1 hT62 hf_τ64 rfl rfl rfl
        have e10164 : τ64.2.1 101 = τ_175.2.1 101 := hf_τ64.2.1 101 (by decide)
        refine ⟨(⟨by (first | omega | (simp only [st_s] <;> omega) | assumption | omega | fail), by (first | omega | (simp only [st_s] <;> omega) | assumption | omega | fail)⟩ : rg (u4_175 + 1)), ?_⟩
        exact ih_175 _ _ _ _ (show (u3_175 - (u4_175 + 1) + 1 : Int) < ((m_175 : Nat) : Int) from by ((first | omega | (simp only [st_s] <;> omega) | assumption | omega | fail))) hT (show τ64.1 3 = σ.1 3 from by first | exact W3 | omega) (show τ64.1 4 = σ.1 4 from by first | exact W4 | omega) (show τ64.1 5 = σ.1 5 from by first | exact W5 | omega) (show τ64.1 10 = σ.1 10 from by first | exact W10 | omega) (show τ64.1 11 = σ.1 11 from by first | exact W11 | omega) G8 G10 G12 G13 G14 G15 G16 G17 G18 G19 G20 (show y_BI σ τ64 from by (first | exact BI21 | exact BI64 | fail)) (show 0 ≤ (u4_175 + 1) ∧ (u4_175 + 1) ≤ u3_175 from by (first | omega | (simp only [st_s] <;> omega) | assumption | omega | fail)) (show 0 ≤ u2_175 ∧ u2_175 + u3_175 ≤ 460000 ∧ u3_175 ≤ 599 from by (first | omega | (simp only [st_s] <;> omega) | assumption | omega | fail)) (show ∀ k : Int, 0 ≤ k → k < u3_175 → 0 ≤ τ64.2.1 101 (u2_175 + k) ∧ τ64.2.1 101 (u2_175 + k) < 1000 from by (first | (intro k a b; rw [e10121]; exact z11 (by omega) k a b) | (intro k a b; rw [e10164]; exact i175_4 k a b) | fail))
  have l_12 : ∀ (m_12 : Nat) (u2_12 : Int) (τ_12 : S0), 1502 - u2_12 < (m_12 : Int) → (m_T τ_12) → (τ_12.1 3 = σ.1 3) → (τ_12.1 4 = σ.1 4) → (τ_12.1 5 = σ.1 5) → (τ_12.1 10 = σ.1 10) → (τ_12.1 11 = σ.1 11) → (τ_12.2.1 8 = σ.2.1 8) → (τ_12.2.1 10 = σ.2.1 10) → (τ_12.2.1 12 = σ.2.1 12) → (τ_12.2.1 13 = σ.2.1 13) → (τ_12.2.1 14 = σ.2.1 14) → (τ_12.2.1 15 = σ.2.1 15) → (τ_12.2.1 16 = σ.2.1 16) → (τ_12.2.1 17 = σ.2.1 17) → (τ_12.2.1 18 = σ.2.1 18) → (τ_12.2.1 19 = σ.2.1 19) → (τ_12.2.1 20 = σ.2.1 20) → (y_BI σ τ_12) → (0 ≤ u2_12 ∧ u2_12 ≤ n1) → (z_D1 τ_12 n1) → (z_N1 τ_12 n1) → (z_N2 τ_12 (-1)) → (z_BB τ_12 u2_12) → (z_GH τ_12 u2_12) → P12 n1 u2_12 τ_12 := by
    intro m_12
    induction m_12 with
    | zero =>
      intro u2_12 τ_12 hm hT W3 W4 W5 W10 W11 G8 G10 G12 G13 G14 G15 G16 G17 G18 G19 G20 i12_1 i12_2 i12_3 i12_4 i12_5 i12_6 i12_7
      have A8 : ∀ j, 0 ≤ τ_12.2.1 8 j ∧ τ_12.2.1 8 j ≤ 1 := fun j => hT.2 8 j
      have A10 : ∀ j, (-1) ≤ τ_12.2.1 10 j ∧ τ_12.2.1 10 j ≤ 999 := fun j => hT.2 10 j
      have A12 : ∀ j, 0 ≤ τ_12.2.1 12 j ∧ τ_12.2.1 12 j ≤ 1 := fun j => hT.2 12 j
      have A13 : ∀ j, 0 ≤ τ_12.2.1 13 j ∧ τ_12.2.1 13 j ≤ 4 := fun j => hT.2 13 j
      have A14 : ∀ j, 0 ≤ τ_12.2.1 14 j ∧ τ_12.2.1 14 j ≤ 30000 := fun j => hT.2 14 j
      have A15 : ∀ j, 0 ≤ τ_12.2.1 15 j ∧ τ_12.2.1 15 j ≤ 300 := fun j => hT.2 15 j
      have A16 : ∀ j, 0 ≤ τ_12.2.1 16 j ∧ τ_12.2.1 16 j ≤ 999 := fun j => hT.2 16 j
      have A17 : ∀ j, (-1) ≤ τ_12.2.1 17 j ∧ τ_12.2.1 17 j ≤ 1499 := fun j => hT.2 17 j
      have A18 : ∀ j, 0 ≤ τ_12.2.1 18 j ∧ τ_12.2.1 18 j ≤ 90000 := fun j => hT.2 18 j
      have A19 : ∀ j, 0 ≤ τ_12.2.1 19 j ∧ τ_12.2.1 19 j ≤ 60 := fun j => hT.2 19 j
      have A20 : ∀ j, 0 ≤ τ_12.2.1 20 j ∧ τ_12.2.1 20 j ≤ 1499 := fun j => hT.2 20 j
      have A86 : ∀ j, (-1500) ≤ τ_12.2.1 86 j ∧ τ_12.2.1 86 j ≤ 1499 := fun j => hT.2 86 j
      have A87 : ∀ j, 0 ≤ τ_12.2.1 87 j ∧ τ_12.2.1 87 j ≤ 120000 := fun j => hT.2 87 j
      have A91 : ∀ j, 0 ≤ τ_12.2.1 91 j ∧ τ_12.2.1 91 j ≤ 60000 := fun j => hT.2 91 j
      have A97 : ∀ j, (-1) ≤ τ_12.2.1 97 j ∧ τ_12.2.1 97 j ≤ 1499 := fun j => hT.2 97 j
      have A98 : ∀ j, 0 ≤ τ_12.2.1 98 j ∧ τ_12.2.1 98 j ≤ 1 := fun j => hT.2 98 j
      have v3 : 0 ≤ τ_12.1 3 ∧ τ_12.1 3 ≤ 1000 := hT.1 3
      have v4 : 0 ≤ τ_12.1 4 ∧ τ_12.1 4 ≤ 100 := hT.1 4
      have v5 : 0 ≤ τ_12.1 5 ∧ τ_12.1 5 ≤ 1500 := hT.1 5
      have v10 : (-1) ≤ τ_12.1 10 ∧ τ_12.1 10 ≤ 999 := hT.1 10
      have v11 : (-1) ≤ τ_12.1 11 ∧ τ_12.1 11 ≤ 999 := hT.1 11
      have v45 : 0 ≤ τ_12.1 45 ∧ τ_12.1 45 ≤ 59 := hT.1 45
      have v48 : 0 ≤ τ_12.1 48 ∧ τ_12.1 48 ≤ 1500 := hT.1 48
      have v49 : 0 ≤ τ_12.1 49 ∧ τ_12.1 49 ≤ 1 := hT.1 49
      have v50 : 0 ≤ τ_12.1 50 ∧ τ_12.1 50 ≤ 1500 := hT.1 50
      have v51 : 0 ≤ τ_12.1 51 ∧ τ_12.1 51 ≤ 60000 := hT.1 51
      have v52 : 0 ≤ τ_12.1 52 ∧ τ_12.1 52 ≤ 120000 := hT.1 52
      have v53 : 0 ≤ τ_12.1 53 ∧ τ_12.1 53 ≤ 460000 := hT.1 53
      have v54 : 0 ≤ τ_12.1 54 ∧ τ_12.1 54 ≤ 1300 := hT.1 54
      exfalso; (first | omega | (simp only [st_s] <;> omega) | assumption | omega | fail)
    | succ m_12 ih_12 =>
      intro u2_12 τ_12 hm_12 hT W3 W4 W5 W10 W11 G8 G10 G12 G13 G14 G15 G16 G17 G18 G19 G20 i12_1 i12_2 i12_3 i12_4 i12_5 i12_6 i12_7
      have A8 : ∀ j, 0 ≤ τ_12.2.1 8 j ∧ τ_12.2.1 8 j ≤ 1 := fun j => hT.2 8 j
      have A10 : ∀ j, (-1) ≤ τ_12.2.1 10 j ∧ τ_12.2.1 10 j ≤ 999 := fun j => hT.2 10 j
      have A12 : ∀ j, 0 ≤ τ_12.2.1 12 j ∧ τ_12.2.1 12 j ≤ 1 := fun j => hT.2 12 j
      have A13 : ∀ j, 0 ≤ τ_12.2.1 13 j ∧ τ_12.2.1 13 j ≤ 4 := fun j => hT.2 13 j
      have A14 : ∀ j, 0 ≤ τ_12.2.1 14 j ∧ τ_12.2.1 14 j ≤ 30000 := fun j => hT.2 14 j
      have A15 : ∀ j, 0 ≤ τ_12.2.1 15 j ∧ τ_12.2.1 15 j ≤ 300 := fun j => hT.2 15 j
      have A16 : ∀ j, 0 ≤ τ_12.2.1 16 j ∧ τ_12.2.1 16 j ≤ 999 := fun j => hT.2 16 j
      have A17 : ∀ j, (-1) ≤ τ_12.2.1 17 j ∧ τ_12.2.1 17 j ≤ 1499 := fun j => hT.2 17 j
      have A18 : ∀ j, 0 ≤ τ_12.2.1 18 j ∧ τ_12.2.1 18 j ≤ 90000 := fun j => hT.2 18 j
      have A19 : ∀ j, 0 ≤ τ_12.2.1 19 j ∧ τ_12.2.1 19 j ≤ 60 := fun j => hT.2 19 j
      have A20 : ∀ j, 0 ≤ τ_12.2.1 20 j ∧ τ_12.2.1 20 j ≤ 1499 := fun j => hT.2 20 j
      have A86 : ∀ j, (-1500) ≤ τ_12.2.1 86 j ∧ τ_12.2.1 86 j ≤ 1499 := fun j => hT.2 86 j
      have A87 : ∀ j, 0 ≤ τ_12.2.1 87 j ∧ τ_12.2.1 87 j ≤ 120000 := fun j => hT.2 87 j
      have A91 : ∀ j, 0 ≤ τ_12.2.1 91 j ∧ τ_12.2.1 91 j ≤ 60000 := fun j => hT.2 91 j
      have A97 : ∀ j, (-1) ≤ τ_12.2.1 97 j ∧ τ_12.2.1 97 j ≤ 1499 := fun j => hT.2 97 j
      have A98 : ∀ j, 0 ≤ τ_12.2.1 98 j ∧ τ_12.2.1 98 j ≤ 1 := fun j => hT.2 98 j
      have v3 : 0 ≤ τ_12.1 3 ∧ τ_12.1 3 ≤ 1000 := hT.1 3
      have v4 : 0 ≤ τ_12.1 4 ∧ τ_12.1 4 ≤ 100 := hT.1 4
      have v5 : 0 ≤ τ_12.1 5 ∧ τ_12.1 5 ≤ 1500 := hT.1 5
      have v10 : (-1) ≤ τ_12.1 10 ∧ τ_12.1 10 ≤ 999 := hT.1 10
      have v11 : (-1) ≤ τ_12.1 11 ∧ τ_12.1 11 ≤ 999 := hT.1 11
      have v45 : 0 ≤ τ_12.1 45 ∧ τ_12.1 45 ≤ 59 := hT.1 45
      have v48 : 0 ≤ τ_12.1 48 ∧ τ_12.1 48 ≤ 1500 := hT.1 48
      have v49 : 0 ≤ τ_12.1 49 ∧ τ_12.1 49 ≤ 1 := hT.1 49
      have v50 : 0 ≤ τ_12.1 50 ∧ τ_12.1 50 ≤ 1500 := hT.1 50
      have v51 : 0 ≤ τ_12.1 51 ∧ τ_12.1 51 ≤ 60000 := hT.1 51
      have v52 : 0 ≤ τ_12.1 52 ∧ τ_12.1 52 ≤ 120000 := hT.1 52
      have v53 : 0 ≤ τ_12.1 53 ∧ τ_12.1 53 ≤ 460000 := hT.1 53
      have v54 : 0 ≤ τ_12.1 54 ∧ τ_12.1 54 ≤ 1300 := hT.1 54
      have Y20 : ca (τ_12.2.1 12) ((τ_12.1 3)) ≤ (τ_12.1 4) := by rw [show (ca (τ_12.2.1 12) ((τ_12.1 3)) ≤ (τ_12.1 4)) = (ca (σ.2.1 12) ((σ.1 3)) ≤ (σ.1 4)) from by rw [W3, W4, G12]]; exact Y20_0
      have c12 : τ_12.2.1 94 n1 = 1 := (i12_1.1.2.1 n1 p1 (by omega)).1.trans p7
      have hT12 := hT
      refine h12 n1 u2_12 τ_12 ?_
      refine ⟨fun c4 => ?_, fun c4 => ?_⟩
      ·
        refine ⟨_, K_X13_beginTrees hT, ?_⟩
        intro τ7 hn_τ7 hf_τ7 hq
        obtain ⟨hT, q5_1, q5_2⟩ := hq
        replace q5_1 : (τ7.1 51) = 0 := q5_1
        replace q5_2 : (τ7.1 52) = 0 := q5_2
        have w3_τ7 : τ7.1 3 = τ_12.1 3 := hf_τ7.1 3 (by decide)
        have w4_τ7 : τ7.1 4 = τ_12.1 4 := hf_τ7.1 4 (by decide)
        have w5_τ7 : τ7.1 5 = τ_12.1 5 := hf_τ7.1 5 (by decide)
        have w10_τ7 : τ7.1 10 = τ_12.1 10 := hf_τ7.1 10 (by decide)
        have w11_τ7 : τ7.1 11 = τ_12.1 11 := hf_τ7.1 11 (by decide)
        have w45_τ7 : τ7.1 45 = τ_12.1 45 := hf_τ7.1 45 (by decide)
        have w48_τ7 : τ7.1 48 = τ_12.1 48 := hf_τ7.1 48 (by decide)
        have w49_τ7 : τ7.1 49 = τ_12.1 49 := hf_τ7.1 49 (by decide)
        have w50_τ7 : τ7.1 50 = τ_12.1 50 := hf_τ7.1 50 (by decide)
        have w53_τ7 : τ7.1 53 = τ_12.1 53 := hf_τ7.1 53 (by decide)
        have w54_τ7 : τ7.1 54 = τ_12.1 54 := hf_τ7.1 54 (by decide)
        have g8_τ7 : τ7.2.1 8 = τ_12.2.1 8 := hf_τ7.2.1 8 (by decide)
        have g10_τ7 : τ7.2.1 10 = τ_12.2.1 10 := hf_τ7.2.1 10 (by decide)
        have g12_τ7 : τ7.2.1 12 = τ_12.2.1 12 := hf_τ7.2.1 12 (by decide)
        have g13_τ7 : τ7.2.1 13 = τ_12.2.1 13 := hf_τ7.2.1 13 (by decide)
        have g14_τ7 : τ7.2.1 14 = τ_12.2.1 14 := hf_τ7.2.1 14 (by decide)
        have g15_τ7 : τ7.2.1 15 = τ_12.2.1 15 := hf_τ7.2.1 15 (by decide)
        have g16_τ7 : τ7.2.1 16 = τ_12.2.1 16 := hf_τ7.2.1 16 (by decide)
        have g17_τ7 : τ7.2.1 17 = τ_12.2.1 17 := hf_τ7.2.1 17 (by decide)
        have g18_τ7 : τ7.2.1 18 = τ_12.2.1 18 := hf_τ7.2.1 18 (by decide)
        have g19_τ7 : τ7.2.1 19 = τ_12.2.1 19 := hf_τ7.2.1 19 (by decide)
        have g20_τ7 : τ7.2.1 20 = τ_12.2.1 20 := hf_τ7.2.1 20 (by decide)
        have g86_τ7 : τ7.2.1 86 = τ_12.2.1 86 := hf_τ7.2.1 86 (by decide)
        have g87_τ7 : τ7.2.1 87 = τ_12.2.1 87 := hf_τ7.2.1 87 (by decide)
        have g91_τ7 : τ7.2.1 91 = τ_12.2.1 91 := hf_τ7.2.1 91 (by decide)
        have g97_τ7 : τ7.2.1 97 = τ_12.2.1 97 := hf_τ7.2.1 97 (by decide)
        have g98_τ7 : τ7.2.1 98 = τ_12.2.1 98 := hf_τ7.2.1 98 (by decide)
        have W3 : τ7.1 3 = σ.1 3 := by first | exact w3_τ7.trans W3 | omega
        have W4 : τ7.1 4 = σ.1 4 := by first | exact w4_τ7.trans W4 | omega
        have W5 : τ7.1 5 = σ.1 5 := by first | exact w5_τ7.trans W5 | omega
        have W10 : τ7.1 10 = σ.1 10 := by first | exact w10_τ7.trans W10 | omega
        have W11 : τ7.1 11 = σ.1 11 := by first | exact w11_τ7.trans W11 | omega
        have G8 : τ7.2.1 8 = σ.2.1 8 := (g8_τ7).trans G8
        have G10 : τ7.2.1 10 = σ.2.1 10 := (g10_τ7).trans G10
        have G12 : τ7.2.1 12 = σ.2.1 12 := (g12_τ7).trans G12
        have G13 : τ7.2.1 13 = σ.2.1 13 := (g13_τ7).trans G13
        have G14 : τ7.2.1 14 = σ.2.1 14 := (g14_τ7).trans G14
        have G15 : τ7.2.1 15 = σ.2.1 15 := (g15_τ7).trans G15
        have G16 : τ7.2.1 16 = σ.2.1 16 := (g16_τ7).trans G16
        have G17 : τ7.2.1 17 = σ.2.1 17 := (g17_τ7).trans G17
        have G18 : τ7.2.1 18 = σ.2.1 18 := (g18_τ7).trans G18
        have G19 : τ7.2.1 19 = σ.2.1 19 := (g19_τ7).trans G19
        have G20 : τ7.2.1 20 = σ.2.1 20 := (g20_τ7).trans G20
        have Y20 : ca (τ7.2.1 12) ((τ7.1 3)) ≤ (τ7.1 4) := by rw [show (ca (τ7.2.1 12) ((τ7.1 3)) ≤ (τ7.1 4)) = (ca (τ_12.2.1 12) ((τ_12.1 3)) ≤ (τ_12.1 4)) from by rw [w3_τ7, w4_τ7, g12_τ7]]; exact Y20
        have A8 : ∀ j, 0 ≤ τ7.2.1 8 j ∧ τ7.2.1 8 j ≤ 1 := fun j => hT.2 8 j
        have A10 : ∀ j, (-1) ≤ τ7.2.1 10 j ∧ τ7.2.1 10 j ≤ 999 := fun j => hT.2 10 j
        have A12 : ∀ j, 0 ≤ τ7.2.1 12 j ∧ τ7.2.1 12 j ≤ 1 := fun j => hT.2 12 j
        have A13 : ∀ j, 0 ≤ τ7.2.1 13 j ∧ τ7.2.1 13 j ≤ 4 := fun j => hT.2 13 j
        have A14 : ∀ j, 0 ≤ τ7.2.1 14 j ∧ τ7.2.1 14 j ≤ 30000 := fun j => hT.2 14 j
        have A15 : ∀ j, 0 ≤ τ7.2.1 15 j ∧ τ7.2.1 15 j ≤ 300 := fun j => hT.2 15 j
        have A16 : ∀ j, 0 ≤ τ7.2.1 16 j ∧ τ7.2.1 16 j ≤ 999 := fun j => hT.2 16 j
        have A17 : ∀ j, (-1) ≤ τ7.2.1 17 j ∧ τ7.2.1 17 j ≤ 1499 := fun j => hT.2 17 j
        have A18 : ∀ j, 0 ≤ τ7.2.1 18 j ∧ τ7.2.1 18 j ≤ 90000 := fun j => hT.2 18 j
        have A19 : ∀ j, 0 ≤ τ7.2.1 19 j ∧ τ7.2.1 19 j ≤ 60 := fun j => hT.2 19 j
        have A20 : ∀ j, 0 ≤ τ7.2.1 20 j ∧ τ7.2.1 20 j ≤ 1499 := fun j => hT.2 20 j
        have A86 : ∀ j, (-1500) ≤ τ7.2.1 86 j ∧ τ7.2.1 86 j ≤ 1499 := fun j => hT.2 86 j
        have A87 : ∀ j, 0 ≤ τ7.2.1 87 j ∧ τ7.2.1 87 j ≤ 120000 := fun j => hT.2 87 j
        have A91 : ∀ j, 0 ≤ τ7.2.1 91 j ∧ τ7.2.1 91 j ≤ 60000 := fun j => hT.2 91 j
        have A97 : ∀ j, (-1) ≤ τ7.2.1 97 j ∧ τ7.2.1 97 j ≤ 1499 := fun j => hT.2 97 j
        have A98 : ∀ j, 0 ≤ τ7.2.1 98 j ∧ τ7.2.1 98 j ≤ 1 := fun j => hT.2 98 j
        have v3 : 0 ≤ τ7.1 3 ∧ τ7.1 3 ≤ 1000 := hT.1 3
        have v4 : 0 ≤ τ7.1 4 ∧ τ7.1 4 ≤ 100 := hT.1 4
        have v5 : 0 ≤ τ7.1 5 ∧ τ7.1 5 ≤ 1500 := hT.1 5
        have v10 : (-1) ≤ τ7.1 10 ∧ τ7.1 10 ≤ 999 := hT.1 10
        have v11 : (-1) ≤ τ7.1 11 ∧ τ7.1 11 ≤ 999 := hT.1 11
        have v45 : 0 ≤ τ7.1 45 ∧ τ7.1 45 ≤ 59 := hT.1 45
        have v48 : 0 ≤ τ7.1 48 ∧ τ7.1 48 ≤ 1500 := hT.1 48
        have v49 : 0 ≤ τ7.1 49 ∧ τ7.1 49 ≤ 1 := hT.1 49
        have v50 : 0 ≤ τ7.1 50 ∧ τ7.1 50 ≤ 1500 := hT.1 50
        have v51 : 0 ≤ τ7.1 51 ∧ τ7.1 51 ≤ 60000 := hT.1 51
        have v52 : 0 ≤ τ7.1 52 ∧ τ7.1 52 ≤ 120000 := hT.1 52
        have v53 : 0 ≤ τ7.1 53 ∧ τ7.1 53 ≤ 460000 := hT.1 53
        have v54 : 0 ≤ τ7.1 54 ∧ τ7.1 54 ≤ 1300 := hT.1 54
        have eu : u2_12 = n1 := by omega
        rw [eu] at i12_6 i12_7
        have SF7 := y_SF_h hf_τ7 rfl rfl
        have BI7 := y_BI_b i12_1 hT12 hf_τ7 ⟨by omega, by omega⟩ rfl rfl rfl
        have e947 : τ7.2.1 94 = τ_12.2.1 94 := hf_τ7.2.1 94 (by decide)
        have e957 : τ7.2.1 95 = τ_12.2.1 95 := hf_τ7.2.1 95 (by decide)
        have e977 : τ7.2.1 97 = τ_12.2.1 97 := hf_τ7.2.1 97 (by decide)
        have e987 : τ7.2.1 98 = τ_12.2.1 98 := hf_τ7.2.1 98 (by decide)
        have e997 : τ7.2.1 99 = τ_12.2.1 99 := hf_τ7.2.1 99 (by decide)
        have e1007 : τ7.2.1 100 = τ_12.2.1 100 := hf_τ7.2.1 100 (by decide)
        have e1017 : τ7.2.1 101 = τ_12.2.1 101 := hf_τ7.2.1 101 (by decide)
        have e537 : τ7.1 53 = τ_12.1 53 := hf_τ7.1 53 (by decide)
        have KC7 : y_KC τ_12 τ7 := y_KC_e e947 (hf_τ7.2.2 7 (by decide))
        have D17 := z_D1_k i12_3 SF7 e977 (fun i _ => by rw [e957])
        have N17 := z_N1_k i12_4 KC7 p1 (by omega) (by omega) (by omega) e987
        have BB7 := z_BB_k i12_6 SF7 e977 e987 e997 e1007 e1017 e537
        have GH7 := z_GH_e i12_7 SF7 e977 e537
        have c7 : τ7.2.1 94 n1 = 1 := (by rw [e947]; exact c12)
        have hT7 := hT
        refine ⟨_, K_X13_treeOf hT (show 0 ≤ n1 from by (first | omega | (simp only [st_s] <;> omega) | assumption | omega | fail)) (show n1 < (τ7.1 5) from by (first | omega | (simp only [st_s] <;> omega) | assumption | omega | fail)) (show τ7.2.1 15 n1 ≤ 60 from by (rw [G15]; exact p3)) (show ca (τ7.2.1 12) ((τ7.1 3)) ≤ (τ7.1 4) from Y20) (show n_J τ7 from by exact BI7.2.2.1) (show m_J τ7 from by exact BI7.2.2.2.1) (show (τ7.1 10) < (τ7.1 3) from by (first | omega | (simp only [st_s] <;> omega) | assumption | omega | fail)) (show (τ7.1 49) = 0 ∨ (y_TT τ7 τ7 (τ7.1 5) (τ7.1 5) ∧ y_Un τ7 (τ7.1 5) (τ7.1 48) (τ7.2.1 84)) from by (rw [W5]; exact BI7.2.1)) (show (τ7.1 51) ≤ 47000 from by (have w := BI7.2.2.2.2; omega)) (show (τ7.1 52) ≤ 88000 from by (have w := BI7.2.2.2.2; omega)), ?_⟩
        intro x9 τ10 r_x9 hn_τ10 hf_τ10 hq
        obtain ⟨hT, q8_1, q8_2, q8_3, q8_4, q8_5, q8_6, q8_7, q8_8, q8_9, q8_10, q8_11, q8_12, q8_13, q8_14, q8_15⟩ := hq
        replace q8_1 : ∃ c : Int, τ10.2.1 94 = st (τ7.2.1 94) n1 c ∧ y_Ti τ7 n1 c ∧ (x9 = -1 ↔ ¬ c = 1) := q8_1
        replace q8_2 : ¬ (τ10.1 49) = 0 ∧ y_TT τ10 τ10 (τ7.1 5) (τ7.1 5) ∧ y_Un τ10 (τ7.1 5) (τ10.1 48) (τ10.2.1 84) := q8_2
        replace q8_3 : (τ7.1 51) ≤ (τ10.1 51) ∧ (τ10.1 51) ≤ (τ7.1 51) + 11700 := q8_3
        replace q8_4 : (τ7.1 52) ≤ (τ10.1 52) ∧ (τ10.1 52) ≤ (τ7.1 52) + 11700 := q8_4
        replace q8_5 : ∀ y : Int, y < (τ7.1 51) → (τ10.2.1 86 y = τ7.2.1 86 y ∧ τ10.2.1 87 y = τ7.2.1 87 y) ∧ τ10.2.1 88 y = τ7.2.1 88 y ∧ τ10.2.1 89 y = τ7.2.1 89 y ∧ τ10.2.1 90 y = τ7.2.1 90 y := q8_5
        replace q8_6 : ∀ e : Int, e < (τ7.1 52) → τ10.2.1 91 e = τ7.2.1 91 e := q8_6
        replace q8_7 : x9 = -1 → (τ10.1 51) = (τ7.1 51) ∧ (τ10.1 52) = (τ7.1 52) := q8_7
        replace q8_8 : ¬ x9 = -1 → x9 = (τ7.1 51) ∧ (τ7.1 51) < (τ10.1 51) := q8_8
        replace q8_9 : ¬ x9 = -1 → ∃ ρ : Int → Int → Int → Int, y_TC ρ τ10 := q8_9
        replace q8_10 : ¬ x9 = -1 → ∀ y : Int, (τ7.1 51) ≤ y → y < (τ10.1 51) → y_c0 τ10 (τ10.2.1 90 y) (τ10.2.1 88 y) (τ10.2.1 89 y) := q8_10
        replace q8_11 : ¬ x9 = -1 → ∀ y : Int, (τ7.1 51) ≤ y → y < (τ10.1 51) → y_nd τ10 (τ10.2.1 86) (τ10.2.1 87) (τ10.2.1 91) (τ10.2.1 88) (τ10.2.1 89) (τ10.2.1 90) y (y + 1) (τ10.1 51) (τ10.1 52) := q8_11
        replace q8_12 : ¬ x9 = -1 → τ10.2.1 90 (τ7.1 51) = τ10.2.1 71 (y_rt τ7 n1) ∧ τ10.2.1 88 (τ7.1 51) = 0 ∧ τ10.2.1 89 (τ7.1 51) = τ7.2.1 15 n1 - 1 := q8_12
        replace q8_13 : ¬ x9 = -1 → 0 ≤ y_rt τ7 n1 ∧ y_rt τ7 n1 < (τ7.1 3) := q8_13
        replace q8_14 : ¬ x9 = -1 → (τ10.1 50) = n1 ∧ (τ10.1 45) = τ7.2.1 15 n1 - 1 ∧ 1 < τ7.2.1 15 n1 := q8_14
        replace q8_15 : ¬ x9 = -1 → ∀ k : Int, 0 ≤ k → k < (τ7.2.1 15 n1 - 1) → τ10.2.1 72 k = τ7.2.1 16 (τ7.2.1 14 n1 + 1 + k) ∧ τ10.2.1 74 k = τ7.2.1 17 (τ7.2.1 14 n1 + 1 + k) ∧ ((τ7.2.1 17 (τ7.2.1 14 n1 + 1 + k) = -1 ∧ τ10.2.1 73 k = -1) ∨ (¬ τ7.2.1 17 (τ7.2.1 14 n1 + 1 + k) = -1 ∧ τ10.2.1 73 k = τ10.2.1 71 (τ7.2.1 16 (τ7.2.1 14 (τ7.2.1 17 (τ7.2.1 14 n1 + 1 + k)))))) := q8_15
        have w3_τ10 : τ10.1 3 = τ7.1 3 := hf_τ10.1 3 (by decide)
        have w4_τ10 : τ10.1 4 = τ7.1 4 := hf_τ10.1 4 (by decide)
        have w5_τ10 : τ10.1 5 = τ7.1 5 := hf_τ10.1 5 (by decide)
        have w10_τ10 : τ10.1 10 = τ7.1 10 := hf_τ10.1 10 (by decide)
        have w11_τ10 : τ10.1 11 = τ7.1 11 := hf_τ10.1 11 (by decide)
        have w53_τ10 : τ10.1 53 = τ7.1 53 := hf_τ10.1 53 (by decide)
        have w54_τ10 : τ10.1 54 = τ7.1 54 := hf_τ10.1 54 (by decide)
        have g8_τ10 : τ10.2.1 8 = τ7.2.1 8 := hf_τ10.2.1 8 (by decide)
        have g10_τ10 : τ10.2.1 10 = τ7.2.1 10 := hf_τ10.2.1 10 (by decide)
        have g12_τ10 : τ10.2.1 12 = τ7.2.1 12 := hf_τ10.2.1 12 (by decide)
        have g13_τ10 : τ10.2.1 13 = τ7.2.1 13 := hf_τ10.2.1 13 (by decide)
        have g14_τ10 : τ10.2.1 14 = τ7.2.1 14 := hf_τ10.2.1 14 (by decide)
        have g15_τ10 : τ10.2.1 15 = τ7.2.1 15 := hf_τ10.2.1 15 (by decide)
        have g16_τ10 : τ10.2.1 16 = τ7.2.1 16 := hf_τ10.2.1 16 (by decide)
        have g17_τ10 : τ10.2.1 17 = τ7.2.1 17 := hf_τ10.2.1 17 (by decide)
        have g18_τ10 : τ10.2.1 18 = τ7.2.1 18 := hf_τ10.2.1 18 (by decide)
        have g19_τ10 : τ10.2.1 19 = τ7.2.1 19 := hf_τ10.2.1 19 (by decide)
        have g20_τ10 : τ10.2.1 20 = τ7.2.1 20 := hf_τ10.2.1 20 (by decide)
        have g97_τ10 : τ10.2.1 97 = τ7.2.1 97 := hf_τ10.2.1 97 (by decide)
        have g98_τ10 : τ10.2.1 98 = τ7.2.1 98 := hf_τ10.2.1 98 (by decide)
        have W3 : τ10.1 3 = σ.1 3 := by first | exact w3_τ10.trans W3 | omega
        have W4 : τ10.1 4 = σ.1 4 := by first | exact w4_τ10.trans W4 | omega
        have W5 : τ10.1 5 = σ.1 5 := by first | exact w5_τ10.trans W5 | omega
        have W10 : τ10.1 10 = σ.1 10 := by first | exact w10_τ10.trans W10 | omega
        have W11 : τ10.1 11 = σ.1 11 := by first | exact w11_τ10.trans W11 | omega
        have G8 : τ10.2.1 8 = σ.2.1 8 := (g8_τ10).trans G8
        have G10 : τ10.2.1 10 = σ.2.1 10 := (g10_τ10).trans G10
        have G12 : τ10.2.1 12 = σ.2.1 12 := (g12_τ10).trans G12
        have G13 : τ10.2.1 13 = σ.2.1 13 := (g13_τ10).trans G13
        have G14 : τ10.2.1 14 = σ.2.1 14 := (g14_τ10).trans G14
        have G15 : τ10.2.1 15 = σ.2.1 15 := (g15_τ10).trans G15
        have G16 : τ10.2.1 16 = σ.2.1 16 := (g16_τ10).trans G16
        have G17 : τ10.2.1 17 = σ.2.1 17 := (g17_τ10).trans G17
        have G18 : τ10.2.1 18 = σ.2.1 18 := (g18_τ10).trans G18
        have G19 : τ10.2.1 19 = σ.2.1 19 := (g19_τ10).trans G19
        have G20 : τ10.2.1 20 = σ.2.1 20 := (g20_τ10).trans G20
        have Y20 : ca (τ10.2.1 12) ((τ10.1 3)) ≤ (τ10.1 4) := by rw [show (ca (τ10.2.1 12) ((τ10.1 3)) ≤ (τ10.1 4)) = (ca (τ7.2.1 12) ((τ7.1 3)) ≤ (τ7.1 4)) from by rw [w3_τ10, w4_τ10, g12_τ10]]; exact Y20
        have A8 : ∀ j, 0 ≤ τ10.2.1 8 j ∧ τ10.2.1 8 j ≤ 1 := fun j => hT.2 8 j
        have A10 : ∀ j, (-1) ≤ τ10.2.1 10 j ∧ τ10.2.1 10 j ≤ 999 := fun j => hT.2 10 j
        have A12 : ∀ j, 0 ≤ τ10.2.1 12 j ∧ τ10.2.1 12 j ≤ 1 := fun j => hT.2 12 j
        have A13 : ∀ j, 0 ≤ τ10.2.1 13 j ∧ τ10.2.1 13 j ≤ 4 := fun j => hT.2 13 j
        have A14 : ∀ j, 0 ≤ τ10.2.1 14 j ∧ τ10.2.1 14 j ≤ 30000 := fun j => hT.2 14 j
        have A15 : ∀ j, 0 ≤ τ10.2.1 15 j ∧ τ10.2.1 15 j ≤ 300 := fun j => hT.2 15 j
        have A16 : ∀ j, 0 ≤ τ10.2.1 16 j ∧ τ10.2.1 16 j ≤ 999 := fun j => hT.2 16 j
        have A17 : ∀ j, (-1) ≤ τ10.2.1 17 j ∧ τ10.2.1 17 j ≤ 1499 := fun j => hT.2 17 j
        have A18 : ∀ j, 0 ≤ τ10.2.1 18 j ∧ τ10.2.1 18 j ≤ 90000 := fun j => hT.2 18 j
        have A19 : ∀ j, 0 ≤ τ10.2.1 19 j ∧ τ10.2.1 19 j ≤ 60 := fun j => hT.2 19 j
        have A20 : ∀ j, 0 ≤ τ10.2.1 20 j ∧ τ10.2.1 20 j ≤ 1499 := fun j => hT.2 20 j
        have A86 : ∀ j, (-1500) ≤ τ10.2.1 86 j ∧ τ10.2.1 86 j ≤ 1499 := fun j => hT.2 86 j
        have A87 : ∀ j, 0 ≤ τ10.2.1 87 j ∧ τ10.2.1 87 j ≤ 120000 := fun j => hT.2 87 j
        have A91 : ∀ j, 0 ≤ τ10.2.1 91 j ∧ τ10.2.1 91 j ≤ 60000 := fun j => hT.2 91 j
        have A97 : ∀ j, (-1) ≤ τ10.2.1 97 j ∧ τ10.2.1 97 j ≤ 1499 := fun j => hT.2 97 j
        have A98 : ∀ j, 0 ≤ τ10.2.1 98 j ∧ τ10.2.1 98 j ≤ 1 := fun j => hT.2 98 j
        have v3 : 0 ≤ τ10.1 3 ∧ τ10.1 3 ≤ 1000 := hT.1 3
        have v4 : 0 ≤ τ10.1 4 ∧ τ10.1 4 ≤ 100 := hT.1 4
        have v5 : 0 ≤ τ10.1 5 ∧ τ10.1 5 ≤ 1500 := hT.1 5
        have v10 : (-1) ≤ τ10.1 10 ∧ τ10.1 10 ≤ 999 := hT.1 10
        have v11 : (-1) ≤ τ10.1 11 ∧ τ10.1 11 ≤ 999 := hT.1 11
        have v45 : 0 ≤ τ10.1 45 ∧ τ10.1 45 ≤ 59 := hT.1 45
        have v48 : 0 ≤ τ10.1 48 ∧ τ10.1 48 ≤ 1500 := hT.1 48
        have v49 : 0 ≤ τ10.1 49 ∧ τ10.1 49 ≤ 1 := hT.1 49
        have v50 : 0 ≤ τ10.1 50 ∧ τ10.1 50 ≤ 1500 := hT.1 50
        have v51 : 0 ≤ τ10.1 51 ∧ τ10.1 51 ≤ 60000 := hT.1 51
        have v52 : 0 ≤ τ10.1 52 ∧ τ10.1 52 ≤ 120000 := hT.1 52
        have v53 : 0 ≤ τ10.1 53 ∧ τ10.1 53 ≤ 460000 := hT.1 53
        have v54 : 0 ≤ τ10.1 54 ∧ τ10.1 54 ≤ 1300 := hT.1 54
        have TO10 : y_TO τ7 τ10 n1 x9 := ⟨q8_1, q8_2, q8_3, q8_4, q8_5, q8_6, fun z => ⟨q8_8 z, q8_9 z, q8_10 z, q8_11 z, q8_12 z, q8_13 z, q8_14 z, q8_15 z⟩⟩
        obtain ⟨⟨BI10, KC10, SF10⟩, nx, ex9, TR10⟩ := y_BI_o BI7 hT7 hf_τ10 TO10 (by omega) (by omega) c7 (by omega) (by omega) rfl rfl rfl
        clear q8_1 q8_2 q8_7 q8_8 q8_9 q8_10 q8_11 q8_12 q8_13 q8_14 q8_15
        obtain ⟨wt, TW⟩ := y_TW_o TO10 hT nx
        have l9 : x9 < τ10.1 51 := TR10.2.2.2.2.1.1
        have l51 : τ10.1 51 ≤ 60000 := (hT.1 51).2
        have e9710 : τ10.2.1 97 = τ7.2.1 97 := hf_τ10.2.1 97 (by decide)
        have e9910 : τ10.2.1 99 = τ7.2.1 99 := hf_τ10.2.1 99 (by decide)
        have e10010 : τ10.2.1 100 = τ7.2.1 100 := hf_τ10.2.1 100 (by decide)
        have e10110 : τ10.2.1 101 = τ7.2.1 101 := hf_τ10.2.1 101 (by decide)
        have e5310 : τ10.1 53 = τ7.1 53 := hf_τ10.1 53 (by decide)
        obtain ⟨Z, zr1, zr2⟩ := z_BZ_r (C := τ10) hT7 hT BI7.2.2.1 BI7.1.1 c7 D17 N17 BB7 p1 (by omega) TR10 SF10.1 SF10.2.1 e5310 rfl rfl rfl e9710 e9910 e10010 e10110
        have GB := z_GH_b GH7 D17 BI7.1.2.2.2.1 (by omega) hT7 (by omega) (by omega)
        obtain ⟨lo, elo⟩ : ∃ z : Int, z = x9 := ⟨_, rfl⟩
        obtain ⟨hi, ehi⟩ : ∃ z : Int, z = τ10.1 51 := ⟨_, rfl⟩
        rw [← elo, ← ehi] at TW zr1
        rw [elo] at TW zr1
        rw [← elo] at TW zr1
        have hT10 := hT
        refine ⟨_, K_X13_tellBare hT (show y_TW τ10 wt lo hi from by exact TW) (show 0 ≤ lo ∧ hi ≤ 60000 from by (first | omega | (simp only [st_s] <;> omega) | assumption | omega | fail)) (show z_BZ τ10 lo hi (-1 : Int) Z from by exact zr1) (show Z x9 from by exact zr2) (show (-1 : Int) = -1 ∨ ((lo ≤ (-1 : Int) ∧ (-1 : Int) < hi) ∧ 0 ≤ τ10.2.1 86 (-1 : Int)) from by exact Or.inl rfl) (show (τ10.1 53) ≤ 459000 from by (first | omega | (simp only [st_s] <;> omega) | assumption | omega | fail)) (show n_J τ10 from by exact BI10.2.2.1), ?_⟩
        intro x12 τ13 r_x12 hn_τ13 hf_τ13 hq
        obtain ⟨hT, q11_1, q11_2, q11_3, q11_4⟩ := hq
        replace q11_1 : x12 = -1 ∨ (1 ≤ x12 ∧ x12 ≤ 599 ∧ (τ13.1 53) = (τ10.1 53) + x12) := q11_1
        replace q11_2 : x12 = -1 → (τ13.1 53) = (τ10.1 53) := q11_2
        replace q11_3 : ∀ e : Int, e < (τ10.1 53) → τ13.2.1 101 e = τ10.2.1 101 e := q11_3
        replace q11_4 : ¬ x12 = -1 → ∀ k : Int, 0 ≤ k → k < x12 → z_it τ10 (-1 : Int) (τ13.2.1 101 ((τ10.1 53) + k)) := q11_4
        have w3_τ13 : τ13.1 3 = τ10.1 3 := hf_τ13.1 3 (by decide)
        have w4_τ13 : τ13.1 4 = τ10.1 4 := hf_τ13.1 4 (by decide)
        have w5_τ13 : τ13.1 5 = τ10.1 5 := hf_τ13.1 5 (by decide)
        have w10_τ13 : τ13.1 10 = τ10.1 10 := hf_τ13.1 10 (by decide)
        have w11_τ13 : τ13.1 11 = τ10.1 11 := hf_τ13.1 11 (by decide)
        have w45_τ13 : τ13.1 45 = τ10.1 45 := hf_τ13.1 45 (by decide)
        have w48_τ13 : τ13.1 48 = τ10.1 48 := hf_τ13.1 48 (by decide)
        have w49_τ13 : τ13.1 49 = τ10.1 49 := hf_τ13.1 49 (by decide)
        have w50_τ13 : τ13.1 50 = τ10.1 50 := hf_τ13.1 50 (by decide)
        have w51_τ13 : τ13.1 51 = τ10.1 51 := hf_τ13.1 51 (by decide)
        have w52_τ13 : τ13.1 52 = τ10.1 52 := hf_τ13.1 52 (by decide)
        have g8_τ13 : τ13.2.1 8 = τ10.2.1 8 := hf_τ13.2.1 8 (by decide)
        have g10_τ13 : τ13.2.1 10 = τ10.2.1 10 := hf_τ13.2.1 10 (by decide)
        have g12_τ13 : τ13.2.1 12 = τ10.2.1 12 := hf_τ13.2.1 12 (by decide)
        have g13_τ13 : τ13.2.1 13 = τ10.2.1 13 := hf_τ13.2.1 13 (by decide)
        have g14_τ13 : τ13.2.1 14 = τ10.2.1 14 := hf_τ13.2.1 14 (by decide)
        have g15_τ13 : τ13.2.1 15 = τ10.2.1 15 := hf_τ13.2.1 15 (by decide)
        have g16_τ13 : τ13.2.1 16 = τ10.2.1 16 := hf_τ13.2.1 16 (by decide)
        have g17_τ13 : τ13.2.1 17 = τ10.2.1 17 := hf_τ13.2.1 17 (by decide)
        have g18_τ13 : τ13.2.1 18 = τ10.2.1 18 := hf_τ13.2.1 18 (by decide)
        have g19_τ13 : τ13.2.1 19 = τ10.2.1 19 := hf_τ13.2.1 19 (by decide)
        have g20_τ13 : τ13.2.1 20 = τ10.2.1 20 := hf_τ13.2.1 20 (by decide)
        have g86_τ13 : τ13.2.1 86 = τ10.2.1 86 := hf_τ13.2.1 86 (by decide)
        have g87_τ13 : τ13.2.1 87 = τ10.2.1 87 := hf_τ13.2.1 87 (by decide)
        have g91_τ13 : τ13.2.1 91 = τ10.2.1 91 := hf_τ13.2.1 91 (by decide)
        have g97_τ13 : τ13.2.1 97 = τ10.2.1 97 := hf_τ13.2.1 97 (by decide)
        have g98_τ13 : τ13.2.1 98 = τ10.2.1 98 := hf_τ13.2.1 98 (by decide)
        have W3 : τ13.1 3 = σ.1 3 := by first | exact w3_τ13.trans W3 | omega
        have W4 : τ13.1 4 = σ.1 4 := by first | exact w4_τ13.trans W4 | omega
        have W5 : τ13.1 5 = σ.1 5 := by first | exact w5_τ13.trans W5 | omega
        have W10 : τ13.1 10 = σ.1 10 := by first | exact w10_τ13.trans W10 | omega
        have W11 : τ13.1 11 = σ.1 11 := by first | exact w11_τ13.trans W11 | omega
        have G8 : τ13.2.1 8 = σ.2.1 8 := (g8_τ13).trans G8
        have G10 : τ13.2.1 10 = σ.2.1 10 := (g10_τ13).trans G10
        have G12 : τ13.2.1 12 = σ.2.1 12 := (g12_τ13).trans G12
        have G13 : τ13.2.1 13 = σ.2.1 13 := (g13_τ13).trans G13
        have G14 : τ13.2.1 14 = σ.2.1 14 := (g14_τ13).trans G14
        have G15 : τ13.2.1 15 = σ.2.1 15 := (g15_τ13).trans G15
        have G16 : τ13.2.1 16 = σ.2.1 16 := (g16_τ13).trans G16
        have G17 : τ13.2.1 17 = σ.2.1 17 := (g17_τ13).trans G17
        have G18 : τ13.2.1 18 = σ.2.1 18 := (g18_τ13).trans G18
        have G19 : τ13.2.1 19 = σ.2.1 19 := (g19_τ13).trans G19
        have G20 : τ13.2.1 20 = σ.2.1 20 := (g20_τ13).trans G20
        have Y20 : ca (τ13.2.1 12) ((τ13.1 3)) ≤ (τ13.1 4) := by rw [show (ca (τ13.2.1 12) ((τ13.1 3)) ≤ (τ13.1 4)) = (ca (τ10.2.1 12) ((τ10.1 3)) ≤ (τ10.1 4)) from by rw [w3_τ13, w4_τ13, g12_τ13]]; exact Y20
        have A8 : ∀ j, 0 ≤ τ13.2.1 8 j ∧ τ13.2.1 8 j ≤ 1 := fun j => hT.2 8 j
        have A10 : ∀ j, (-1) ≤ τ13.2.1 10 j ∧ τ13.2.1 10 j ≤ 999 := fun j => hT.2 10 j
        have A12 : ∀ j, 0 ≤ τ13.2.1 12 j ∧ τ13.2.1 12 j ≤ 1 := fun j => hT.2 12 j
        have A13 : ∀ j, 0 ≤ τ13.2.1 13 j ∧ τ13.2.1 13 j ≤ 4 := fun j => hT.2 13 j
        have A14 : ∀ j, 0 ≤ τ13.2.1 14 j ∧ τ13.2.1 14 j ≤ 30000 := fun j => hT.2 14 j
        have A15 : ∀ j, 0 ≤ τ13.2.1 15 j ∧ τ13.2.1 15 j ≤ 300 := fun j => hT.2 15 j
        have A16 : ∀ j, 0 ≤ τ13.2.1 16 j ∧ τ13.2.1 16 j ≤ 999 := fun j => hT.2 16 j
        have A17 : ∀ j, (-1) ≤ τ13.2.1 17 j ∧ τ13.2.1 17 j ≤ 1499 := fun j => hT.2 17 j
        have A18 : ∀ j, 0 ≤ τ13.2.1 18 j ∧ τ13.2.1 18 j ≤ 90000 := fun j => hT.2 18 j
        have A19 : ∀ j, 0 ≤ τ13.2.1 19 j ∧ τ13.2.1 19 j ≤ 60 := fun j => hT.2 19 j
        have A20 : ∀ j, 0 ≤ τ13.2.1 20 j ∧ τ13.2.1 20 j ≤ 1499 := fun j => hT.2 20 j
        have A86 : ∀ j, (-1500) ≤ τ13.2.1 86 j ∧ τ13.2.1 86 j ≤ 1499 := fun j => hT.2 86 j
        have A87 : ∀ j, 0 ≤ τ13.2.1 87 j ∧ τ13.2.1 87 j ≤ 120000 := fun j => hT.2 87 j
        have A91 : ∀ j, 0 ≤ τ13.2.1 91 j ∧ τ13.2.1 91 j ≤ 60000 := fun j => hT.2 91 j
        have A97 : ∀ j, (-1) ≤ τ13.2.1 97 j ∧ τ13.2.1 97 j ≤ 1499 := fun j => hT.2 97 j
        have A98 : ∀ j, 0 ≤ τ13.2.1 98 j ∧ τ13.2.1 98 j ≤ 1 := fun j => hT.2 98 j
        have v3 : 0 ≤ τ13.1 3 ∧ τ13.1 3 ≤ 1000 := hT.1 3
        have v4 : 0 ≤ τ13.1 4 ∧ τ13.1 4 ≤ 100 := hT.1 4
        have v5 : 0 ≤ τ13.1 5 ∧ τ13.1 5 ≤ 1500 := hT.1 5
        have v10 : (-1) ≤ τ13.1 10 ∧ τ13.1 10 ≤ 999 := hT.1 10
        have v11 : (-1) ≤ τ13.1 11 ∧ τ13.1 11 ≤ 999 := hT.1 11
        have v45 : 0 ≤ τ13.1 45 ∧ τ13.1 45 ≤ 59 := hT.1 45
        have v48 : 0 ≤ τ13.1 48 ∧ τ13.1 48 ≤ 1500 := hT.1 48
        have v49 : 0 ≤ τ13.1 49 ∧ τ13.1 49 ≤ 1 := hT.1 49
        have v50 : 0 ≤ τ13.1 50 ∧ τ13.1 50 ≤ 1500 := hT.1 50
        have v51 : 0 ≤ τ13.1 51 ∧ τ13.1 51 ≤ 60000 := hT.1 51
        have v52 : 0 ≤ τ13.1 52 ∧ τ13.1 52 ≤ 120000 := hT.1 52
        have v53 : 0 ≤ τ13.1 53 ∧ τ13.1 53 ≤ 460000 := hT.1 53
        have v54 : 0 ≤ τ13.1 54 ∧ τ13.1 54 ≤ 1300 := hT.1 54
        have BI13 := y_BI_g BI10 hT10 hf_τ13 rfl rfl rfl
        have z11 : ¬ x12 = -1 → ∀ k : Int, 0 ≤ k → k < x12 → 0 ≤ τ13.2.1 101 (τ7.1 53 + k) ∧ τ13.2.1 101 (τ7.1 53 + k) < 1000 := (by intro z k k0 k1; have w := q11_4 z k k0 k1; rw [e5310] at w; have w0 : 0 ≤ τ13.2.1 101 (τ7.1 53 + k) := (by by_cases y : τ13.2.1 101 (τ7.1 53 + k) < 0; (exact absurd rfl (w.1 y).1); (omega)); have w1 := w.2 w0; have w2 : τ10.1 3 ≤ 1000 := (hT10.1 3).2; exact ⟨w0, by omega⟩)
        refine ⟨fun c14 => ?_, fun c14 => ?_⟩
        ·
          refine ⟨(show 0 ≤ n1 ∧ n1 < 1501 from by (first | omega | (simp only [st_s] <;> omega) | assumption | omega | fail)), ?_⟩
          intro x16 r_x16 e_x16
          have b_x16 : 0 ≤ x16 ∧ x16 ≤ 30000 := by rw [e_x16]; exact hT.2 14 _
          refine ⟨(show 0 ≤ x16 ∧ x16 < 30400 from by (first | omega | (simp only [st_s] <;> omega) | assumption | omega | fail)), ?_⟩
          intro x18 r_x18 e_x18
          have b_x18 : 0 ≤ x18 ∧ x18 ≤ 999 := by rw [e_x18]; exact hT.2 16 _
          have hT13 := hT
          refine ⟨_, K_X13_putSymbol hT (show 0 ≤ x18 from by (first | omega | (simp only [st_s] <;> omega) | assumption | omega | fail)) (show x18 < 1000 from by (first | omega | (simp only [st_s] <;> omega) | assumption | omega | fail)), ?_⟩
          intro τ21 hn_τ21 hf_τ21 hq
          replace hT := hq
          have w3_τ21 : τ21.1 3 = τ13.1 3 := hf_τ21.1 3 (by decide)
          have w4_τ21 : τ21.1 4 = τ13.1 4 := hf_τ21.1 4 (by decide)
          have w5_τ21 : τ21.1 5 = τ13.1 5 := hf_τ21.1 5 (by decide)
          have w10_τ21 : τ21.1 10 = τ13.1 10 := hf_τ21.1 10 (by decide)
          have w11_τ21 : τ21.1 11 = τ13.1 11 := hf_τ21.1 11 (by decide)
          have w45_τ21 : τ21.1 45 = τ13.1 45 := hf_τ21.1 45 (by decide)
          have w48_τ21 : τ21.1 48 = τ13.1 48 := hf_τ21.1 48 (by decide)
          have w49_τ21 : τ21.1 49 = τ13.1 49 := hf_τ21.1 49 (by decide)
          have w50_τ21 : τ21.1 50 = τ13.1 50 := hf_τ21.1 50 (by decide)
          have w51_τ21 : τ21.1 51 = τ13.1 51 := hf_τ21.1 51 (by decide)
          have w52_τ21 : τ21.1 52 = τ13.1 52 := hf_τ21.1 52 (by decide)
          have w53_τ21 : τ21.1 53 = τ13.1 53 := hf_τ21.1 53 (by decide)
          have w54_τ21 : τ21.1 54 = τ13.1 54 := hf_τ21.1 54 (by decide)
          have g8_τ21 : τ21.2.1 8 = τ13.2.1 8 := hf_τ21.2.1 8 (by decide)
          have g10_τ21 : τ21.2.1 10 = τ13.2.1 10 := hf_τ21.2.1 10 (by decide)
          have g12_τ21 : τ21.2.1 12 = τ13.2.1 12 := hf_τ21.2.1 12 (by decide)
          have g13_τ21 : τ21.2.1 13 = τ13.2.1 13 := hf_τ21.2.1 13 (by decide)
          have g14_τ21 : τ21.2.1 14 = τ13.2.1 14 := hf_τ21.2.1 14 (by decide)
          have g15_τ21 : τ21.2.1 15 = τ13.2.1 15 := hf_τ21.2.1 15 (by decide)
          have g16_τ21 : τ21.2.1 16 = τ13.2.1 16 := hf_τ21.2.1 16 (by decide)
          have g17_τ21 : τ21.2.1 17 = τ13.2.1 17 := hf_τ21.2.1 17 (by decide)
          have g18_τ21 : τ21.2.1 18 = τ13.2.1 18 := hf_τ21.2.1 18 (by decide)
          have g19_τ21 : τ21.2.1 19 = τ13.2.1 19 := hf_τ21.2.1 19 (by decide)
          have g20_τ21 : τ21.2.1 20 = τ13.2.1 20 := hf_τ21.2.1 20 (by decide)
          have g86_τ21 : τ21.2.1 86 = τ13.2.1 86 := hf_τ21.2.1 86 (by decide)
          have g87_τ21 : τ21.2.1 87 = τ13.2.1 87 := hf_τ21.2.1 87 (by decide)
          have g91_τ21 : τ21.2.1 91 = τ13.2.1 91 := hf_τ21.2.1 91 (by decide)
          have g97_τ21 : τ21.2.1 97 = τ13.2.1 97 := hf_τ21.2.1 97 (by decide)
          have g98_τ21 : τ21.2.1 98 = τ13.2.1 98 := hf_τ21.2.1 98 (by decide)
          have W3 : τ21.1 3 = σ.1 3 := by first | exact w3_τ21.trans W3 | omega
          have W4 : τ21.1 4 = σ.1 4 := by first | exact w4_τ21.trans W4 | omega
          have W5 : τ21.1 5 = σ.1 5 := by first | exact w5_τ21.trans W5 | omega
          have W10 : τ21.1 10 = σ.1 10 := by first | exact w10_τ21.trans W10 | omega
          have W11 : τ21.1 11 = σ.1 11 := by first | exact w11_τ21.trans W11 | omega
          have G8 : τ21.2.1 8 = σ.2.1 8 := (g8_τ21).trans G8
          have G10 : τ21.2.1 10 = σ.2.1 10 := (g10_τ21).trans G10
          have G12 : τ21.2.1 12 = σ.2.1 12 := (g12_τ21).trans G12
          have G13 : τ21.2.1 13 = σ.2.1 13 := (g13_τ21).trans G13
          have G14 : τ21.2.1 14 = σ.2.1 14 := (g14_τ21).trans G14
          have G15 : τ21.2.1 15 = σ.2.1 15 := (g15_τ21).trans G15
          have G16 : τ21.2.1 16 = σ.2.1 16 := (g16_τ21).trans G16
          have G17 : τ21.2.1 17 = σ.2.1 17 := (g17_τ21).trans G17
          have G18 : τ21.2.1 18 = σ.2.1 18 := (g18_τ21).trans G18
          have G19 : τ21.2.1 19 = σ.2.1 19 := (g19_τ21).trans G19
          have G20 : τ21.2.1 20 = σ.2.1 20 := (g20_τ21).trans G20
          have Y20 : ca (τ21.2.1 12) ((τ21.1 3)) ≤ (τ21.1 4) := by rw [show (ca (τ21.2.1 12) ((τ21.1 3)) ≤ (τ21.1 4)) = (ca (τ13.2.1 12) ((τ13.1 3)) ≤ (τ13.1 4)) from by rw [w3_τ21, w4_τ21, g12_τ21]]; exact Y20
          have A8 : ∀ j, 0 ≤ τ21.2.1 8 j ∧ τ21.2.1 8 j ≤ 1 := fun j => hT.2 8 j
          have A10 : ∀ j, (-1) ≤ τ21.2.1 10 j ∧ τ21.2.1 10 j ≤ 999 := fun j => hT.2 10 j
          have A12 : ∀ j, 0 ≤ τ21.2.1 12 j ∧ τ21.2.1 12 j ≤ 1 := fun j => hT.2 12 j
          have A13 : ∀ j, 0 ≤ τ21.2.1 13 j ∧ τ21.2.1 13 j ≤ 4 := fun j => hT.2 13 j
          have A14 : ∀ j, 0 ≤ τ21.2.1 14 j ∧ τ21.2.1 14 j ≤ 30000 := fun j => hT.2 14 j
          have A15 : ∀ j, 0 ≤ τ21.2.1 15 j ∧ τ21.2.1 15 j ≤ 300 := fun j => hT.2 15 j
          have A16 : ∀ j, 0 ≤ τ21.2.1 16 j ∧ τ21.2.1 16 j ≤ 999 := fun j => hT.2 16 j
          have A17 : ∀ j, (-1) ≤ τ21.2.1 17 j ∧ τ21.2.1 17 j ≤ 1499 := fun j => hT.2 17 j
          have A18 : ∀ j, 0 ≤ τ21.2.1 18 j ∧ τ21.2.1 18 j ≤ 90000 := fun j => hT.2 18 j
          have A19 : ∀ j, 0 ≤ τ21.2.1 19 j ∧ τ21.2.1 19 j ≤ 60 := fun j => hT.2 19 j
          have A20 : ∀ j, 0 ≤ τ21.2.1 20 j ∧ τ21.2.1 20 j ≤ 1499 := fun j => hT.2 20 j
          have A86 : ∀ j, (-1500) ≤ τ21.2.1 86 j ∧ τ21.2.1 86 j ≤ 1499 := fun j => hT.2 86 j
          have A87 : ∀ j, 0 ≤ τ21.2.1 87 j ∧ τ21.2.1 87 j ≤ 120000 := fun j => hT.2 87 j
          have A91 : ∀ j, 0 ≤ τ21.2.1 91 j ∧ τ21.2.1 91 j ≤ 60000 := fun j => hT.2 91 j
          have A97 : ∀ j, (-1) ≤ τ21.2.1 97 j ∧ τ21.2.1 97 j ≤ 1499 := fun j => hT.2 97 j
          have A98 : ∀ j, 0 ≤ τ21.2.1 98 j ∧ τ21.2.1 98 j ≤ 1 := fun j => hT.2 98 j
          have v3 : 0 ≤ τ21.1 3 ∧ τ21.1 3 ≤ 1000 := hT.1 3
          have v4 : 0 ≤ τ21.1 4 ∧ τ21.1 4 ≤ 100 := hT.1 4
          have v5 : 0 ≤ τ21.1 5 ∧ τ21.1 5 ≤ 1500 := hT.1 5
          have v10 : (-1) ≤ τ21.1 10 ∧ τ21.1 10 ≤ 999 := hT.1 10
          have v11 : (-1) ≤ τ21.1 11 ∧ τ21.1 11 ≤ 999 := hT.1 11
          have v45 : 0 ≤ τ21.1 45 ∧ τ21.1 45 ≤ 59 := hT.1 45
          have v48 : 0 ≤ τ21.1 48 ∧ τ21.1 48 ≤ 1500 := hT.1 48
          have v49 : 0 ≤ τ21.1 49 ∧ τ21.1 49 ≤ 1 := hT.1 49
          have v50 : 0 ≤ τ21.1 50 ∧ τ21.1 50 ≤ 1500 := hT.1 50
          have v51 : 0 ≤ τ21.1 51 ∧ τ21.1 51 ≤ 60000 := hT.1 51
          have v52 : 0 ≤ τ21.1 52 ∧ τ21.1 52 ≤ 120000 := hT.1 52
          have v53 : 0 ≤ τ21.1 53 ∧ τ21.1 53 ≤ 460000 := hT.1 53
          have v54 : 0 ≤ τ21.1 54 ∧ τ21.1 54 ≤ 1300 := hT.1 54
          have BI21 := y_BI_g BI13 hT13 hf_τ21 rfl rfl rfl
          have e10121 : τ21.2.1 101 = τ13.2.1 101 := hf_τ21.2.1 101 (by decide)
          refine ⟨(⟨by (first | omega | (simp only [st_s] <;> omega) | assumption | omega | fail), by (first | omega | (simp only [st_s] <;> omega) | assumption | omega | fail)⟩ : rg (τ7.1 53)), ?_⟩
          exact l_175 ((x12 - 0 + 1 : Int).toNat + 1) _ _ _ _ (show (x12 - 0 + 1 : Int) < (((x12 - 0 + 1 : Int).toNat + 1 : Nat) : Int) from by ((first | omega | (simp only [st_s] <;> omega) | assumption | omega | fail))) hT (show τ21.1 3 = σ.1 3 from by first | exact W3 | omega) (show τ21.1 4 = σ.1 4 from by first | exact W4 | omega) (show τ21.1 5 = σ.1 5 from by first | exact W5 | omega) (show τ21.1 10 = σ.1 10 from by first | exact W10 | omega) (show τ21.1 11 = σ.1 11 from by first | exact W11 | omega) G8 G10 G12 G13 G14 G15 G16 G17 G18 G19 G20 (show y_BI σ τ21 from by (first | exact BI21 | exact BI64 | fail)) (show 0 ≤ 0 ∧ 0 ≤ x12 from by (first | omega | (simp only [st_s] <;> omega) | assumption | omega | fail)) (show 0 ≤ (τ7.1 53) ∧ (τ7.1 53) + x12 ≤ 460000 ∧ x12 ≤ 599 from by (first | omega | (simp only [st_s] <;> omega) | assumption | omega | fail)) (show ∀ k : Int, 0 ≤ k → k < x12 → 0 ≤ τ21.2.1 101 ((τ7.1 53) + k) ∧ τ21.2.1 101 ((τ7.1 53) + k) < 1000 from by (first | (intro k a b; rw [e10121]; exact z11 (by omega) k a b) | (intro k a b; rw [e10164]; exact i175_4 k a b) | fail))
        ·
          exact ⟨hT, (show y_BI σ τ13 from by (first | exact BI13 | exact BI59 | fail))⟩
      ·
        refine ⟨_, K_X13_ruleOf hT (show 0 ≤ u2_12 from by (first | omega | (simp only [st_s] <;> omega) | assumption | omega | fail)) (show u2_12 < (τ_12.1 5) from by (first | omega | (simp only [st_s] <;> omega) | assumption | omega | fail)) (show ca (τ_12.2.1 12) ((τ_12.1 3)) ≤ (τ_12.1 4) from Y20) (show n_J τ_12 from by exact i12_1.2.2.1) (show m_J τ_12 from by exact i12_1.2.2.2.1) (show (τ_12.1 10) < (τ_12.1 3) from by (first | omega | (simp only [st_s] <;> omega) | assumption | omega | fail)) (show (τ_12.1 49) = 0 ∨ (y_TT τ_12 τ_12 (τ_12.1 5) (τ_12.1 5) ∧ y_Un τ_12 (τ_12.1 5) (τ_12.1 48) (τ_12.2.1 84)) from by (rw [W5]; exact i12_1.2.1)) (show (τ_12.1 51) ≤ 47000 from by (have w := i12_1.2.2.2.2; omega)) (show (τ_12.1 52) ≤ 88000 from by (have w := i12_1.2.2.2.2; omega)) (show y_CT τ_12 from by exact i12_1.1.1) (show y_EQ τ_12 from by exact i12_1.1.2.2.2.2) (show y_DT τ_12 from by exact i12_1.1.2.2.2.1), ?_⟩
        intro x24 τ25 r_x24 hn_τ25 hf_τ25 hq
        obtain ⟨hT, q23_1, q23_2, q23_3, q23_4, q23_5, q23_6, q23_7, q23_8, q23_9, q23_10⟩ := hq
        replace q23_1 : y_CT τ25 := q23_1
        replace q23_2 : ((τ25.1 49) = 0 ∨ (y_TT τ25 τ25 (τ_12.1 5) (τ_12.1 5) ∧ y_Un τ25 (τ_12.1 5) (τ25.1 48) (τ25.2.1 84))) := q23_2
        replace q23_3 : (τ25.1 51) = (τ_12.1 51) ∧ (τ25.1 52) = (τ_12.1 52) := q23_3
        replace q23_4 : y_KC τ_12 τ25 := q23_4
        replace q23_5 : y_DT τ25 := q23_5
        replace q23_6 : ∀ i : Int, ¬ i = u2_12 → τ25.2.1 95 i = τ_12.2.1 95 i := q23_6
        replace q23_7 : ¬ τ_12.2.1 95 u2_12 = -9 → τ25 = τ_12 := q23_7
        replace q23_8 : x24 = -1 ∨ (τ25.2.1 95 u2_12 = x24 ∧ ¬ x24 = -9) := q23_8
        replace q23_9 : τ_12.2.1 13 u2_12 = 2 → τ_12.2.1 15 u2_12 ≤ 60 → τ25.2.1 95 u2_12 = x24 ∧ ¬ x24 = -9 := q23_9
        replace q23_10 : ¬ x24 = -1 → τ_12.2.1 13 u2_12 = 2 ∧ τ_12.2.1 15 u2_12 ≤ 60 := q23_10
        have w3_τ25 : τ25.1 3 = τ_12.1 3 := hf_τ25.1 3 (by decide)
        have w4_τ25 : τ25.1 4 = τ_12.1 4 := hf_τ25.1 4 (by decide)
        have w5_τ25 : τ25.1 5 = τ_12.1 5 := hf_τ25.1 5 (by decide)
        have w10_τ25 : τ25.1 10 = τ_12.1 10 := hf_τ25.1 10 (by decide)
        have w11_τ25 : τ25.1 11 = τ_12.1 11 := hf_τ25.1 11 (by decide)
        have w53_τ25 : τ25.1 53 = τ_12.1 53 := hf_τ25.1 53 (by decide)
        have w54_τ25 : τ25.1 54 = τ_12.1 54 := hf_τ25.1 54 (by decide)
        have g8_τ25 : τ25.2.1 8 = τ_12.2.1 8 := hf_τ25.2.1 8 (by decide)
        have g10_τ25 : τ25.2.1 10 = τ_12.2.1 10 := hf_τ25.2.1 10 (by decide)
        have g12_τ25 : τ25.2.1 12 = τ_12.2.1 12 := hf_τ25.2.1 12 (by decide)
        have g13_τ25 : τ25.2.1 13 = τ_12.2.1 13 := hf_τ25.2.1 13 (by decide)
        have g14_τ25 : τ25.2.1 14 = τ_12.2.1 14 := hf_τ25.2.1 14 (by decide)
        have g15_τ25 : τ25.2.1 15 = τ_12.2.1 15 := hf_τ25.2.1 15 (by decide)
        have g16_τ25 : τ25.2.1 16 = τ_12.2.1 16 := hf_τ25.2.1 16 (by decide)
        have g17_τ25 : τ25.2.1 17 = τ_12.2.1 17 := hf_τ25.2.1 17 (by decide)
        have g18_τ25 : τ25.2.1 18 = τ_12.2.1 18 := hf_τ25.2.1 18 (by decide)
        have g19_τ25 : τ25.2.1 19 = τ_12.2.1 19 := hf_τ25.2.1 19 (by decide)
        have g20_τ25 : τ25.2.1 20 = τ_12.2.1 20 := hf_τ25.2.1 20 (by decide)
        have g97_τ25 : τ25.2.1 97 = τ_12.2.1 97 := hf_τ25.2.1 97 (by decide)
        have g98_τ25 : τ25.2.1 98 = τ_12.2.1 98 := hf_τ25.2.1 98 (by decide)
        have W3 : τ25.1 3 = σ.1 3 := by first | exact w3_τ25.trans W3 | omega
        have W4 : τ25.1 4 = σ.1 4 := by first | exact w4_τ25.trans W4 | omega
        have W5 : τ25.1 5 = σ.1 5 := by first | exact w5_τ25.trans W5 | omega
        have W10 : τ25.1 10 = σ.1 10 := by first | exact w10_τ25.trans W10 | omega
        have W11 : τ25.1 11 = σ.1 11 := by first | exact w11_τ25.trans W11 | omega
        have G8 : τ25.2.1 8 = σ.2.1 8 := (g8_τ25).trans G8
        have G10 : τ25.2.1 10 = σ.2.1 10 := (g10_τ25).trans G10
        have G12 : τ25.2.1 12 = σ.2.1 12 := (g12_τ25).trans G12
        have G13 : τ25.2.1 13 = σ.2.1 13 := (g13_τ25).trans G13
        have G14 : τ25.2.1 14 = σ.2.1 14 := (g14_τ25).trans G14
        have G15 : τ25.2.1 15 = σ.2.1 15 := (g15_τ25).trans G15
        have G16 : τ25.2.1 16 = σ.2.1 16 := (g16_τ25).trans G16
        have G17 : τ25.2.1 17 = σ.2.1 17 := (g17_τ25).trans G17
        have G18 : τ25.2.1 18 = σ.2.1 18 := (g18_τ25).trans G18
        have G19 : τ25.2.1 19 = σ.2.1 19 := (g19_τ25).trans G19
        have G20 : τ25.2.1 20 = σ.2.1 20 := (g20_τ25).trans G20
        have Y20 : ca (τ25.2.1 12) ((τ25.1 3)) ≤ (τ25.1 4) := by rw [show (ca (τ25.2.1 12) ((τ25.1 3)) ≤ (τ25.1 4)) = (ca (τ_12.2.1 12) ((τ_12.1 3)) ≤ (τ_12.1 4)) from by rw [w3_τ25, w4_τ25, g12_τ25]]; exact Y20
        have A8 : ∀ j, 0 ≤ τ25.2.1 8 j ∧ τ25.2.1 8 j ≤ 1 := fun j => hT.2 8 j
        have A10 : ∀ j, (-1) ≤ τ25.2.1 10 j ∧ τ25.2.1 10 j ≤ 999 := fun j => hT.2 10 j
        have A12 : ∀ j, 0 ≤ τ25.2.1 12 j ∧ τ25.2.1 12 j ≤ 1 := fun j => hT.2 12 j
        have A13 : ∀ j, 0 ≤ τ25.2.1 13 j ∧ τ25.2.1 13 j ≤ 4 := fun j => hT.2 13 j
        have A14 : ∀ j, 0 ≤ τ25.2.1 14 j ∧ τ25.2.1 14 j ≤ 30000 := fun j => hT.2 14 j
        have A15 : ∀ j, 0 ≤ τ25.2.1 15 j ∧ τ25.2.1 15 j ≤ 300 := fun j => hT.2 15 j
        have A16 : ∀ j, 0 ≤ τ25.2.1 16 j ∧ τ25.2.1 16 j ≤ 999 := fun j => hT.2 16 j
        have A17 : ∀ j, (-1) ≤ τ25.2.1 17 j ∧ τ25.2.1 17 j ≤ 1499 := fun j => hT.2 17 j
        have A18 : ∀ j, 0 ≤ τ25.2.1 18 j ∧ τ25.2.1 18 j ≤ 90000 := fun j => hT.2 18 j
        have A19 : ∀ j, 0 ≤ τ25.2.1 19 j ∧ τ25.2.1 19 j ≤ 60 := fun j => hT.2 19 j
        have A20 : ∀ j, 0 ≤ τ25.2.1 20 j ∧ τ25.2.1 20 j ≤ 1499 := fun j => hT.2 20 j
        have A86 : ∀ j, (-1500) ≤ τ25.2.1 86 j ∧ τ25.2.1 86 j ≤ 1499 := fun j => hT.2 86 j
        have A87 : ∀ j, 0 ≤ τ25.2.1 87 j ∧ τ25.2.1 87 j ≤ 120000 := fun j => hT.2 87 j
        have A91 : ∀ j, 0 ≤ τ25.2.1 91 j ∧ τ25.2.1 91 j ≤ 60000 := fun j => hT.2 91 j
        have A97 : ∀ j, (-1) ≤ τ25.2.1 97 j ∧ τ25.2.1 97 j ≤ 1499 := fun j => hT.2 97 j
        have A98 : ∀ j, 0 ≤ τ25.2.1 98 j ∧ τ25.2.1 98 j ≤ 1 := fun j => hT.2 98 j
        have v3 : 0 ≤ τ25.1 3 ∧ τ25.1 3 ≤ 1000 := hT.1 3
        have v4 : 0 ≤ τ25.1 4 ∧ τ25.1 4 ≤ 100 := hT.1 4
        have v5 : 0 ≤ τ25.1 5 ∧ τ25.1 5 ≤ 1500 := hT.1 5
        have v10 : (-1) ≤ τ25.1 10 ∧ τ25.1 10 ≤ 999 := hT.1 10
        have v11 : (-1) ≤ τ25.1 11 ∧ τ25.1 11 ≤ 999 := hT.1 11
        have v45 : 0 ≤ τ25.1 45 ∧ τ25.1 45 ≤ 59 := hT.1 45
        have v48 : 0 ≤ τ25.1 48 ∧ τ25.1 48 ≤ 1500 := hT.1 48
        have v49 : 0 ≤ τ25.1 49 ∧ τ25.1 49 ≤ 1 := hT.1 49
        have v50 : 0 ≤ τ25.1 50 ∧ τ25.1 50 ≤ 1500 := hT.1 50
        have v51 : 0 ≤ τ25.1 51 ∧ τ25.1 51 ≤ 60000 := hT.1 51
        have v52 : 0 ≤ τ25.1 52 ∧ τ25.1 52 ≤ 120000 := hT.1 52
        have v53 : 0 ≤ τ25.1 53 ∧ τ25.1 53 ≤ 460000 := hT.1 53
        have v54 : 0 ≤ τ25.1 54 ∧ τ25.1 54 ≤ 1300 := hT.1 54
        have BI25 := y_BI_r i12_1 hf_τ25 q23_1 q23_2 (by (rw [q23_3.1, q23_3.2]; exact i12_1.2.2.2.2)) q23_4 q23_5 rfl rfl
        have SF25 := y_SF_h hf_τ25 rfl rfl
        have e9725 : τ25.2.1 97 = τ_12.2.1 97 := hf_τ25.2.1 97 (by decide)
        have e9825 : τ25.2.1 98 = τ_12.2.1 98 := hf_τ25.2.1 98 (by decide)
        have Xx24 : x24 = -1 ∨ (0 ≤ x24 ∧ x24 < u2_12) := (by rcases q23_8 with z | z; (exact Or.inl z); (have w := q23_5 u2_12 (by omega) (by omega) (by (rw [z.1]; exact z.2)); rw [z.1] at w; exact w.imp id (fun v => v.2.1.1)))
        have e9925 : τ25.2.1 99 = τ_12.2.1 99 := hf_τ25.2.1 99 (by decide)
        have e10025 : τ25.2.1 100 = τ_12.2.1 100 := hf_τ25.2.1 100 (by decide)
        have e10125 : τ25.2.1 101 = τ_12.2.1 101 := hf_τ25.2.1 101 (by decide)
        have e5325 : τ25.1 53 = τ_12.1 53 := hf_τ25.1 53 (by decide)
        have D125 := z_D1_k i12_3 SF25 e9725 (y_95 q23_6 q23_7)
        have c25 : τ25.2.1 94 n1 = 1 := (q23_4 n1 p1 (by omega)).1.trans c12
        have N125 := z_N1_k i12_4 q23_4 p1 (by omega) (by omega) (by omega) e9825
        have N225 := z_N2_k i12_5 i12_3 i12_1.1.2.2.2.1 (by omega) q23_4 (by omega) (by omega) (by omega) e9725 e9825
        have BB25 := z_BB_k i12_6 SF25 e9725 e9825 e9925 e10025 e10125 e5325
        have GH25 := z_GH_e i12_7 SF25 e9725 e5325
        have DX : ∀ d : Int, 0 ≤ d → d < τ25.1 5 → τ25.2.1 97 d = u2_12 → d = x24 := (by intro d d0 d5 e; rcases D125 d d0 d5 with z | ⟨_, z1, z2, z3⟩; (omega); (rw [e] at z1 z2 z3; have w := q23_9 (by (rw [← SF25.1.2.2.2.1]; exact z2)) (by (rw [← SF25.1.2.2.2.2.2.1]; exact z3)); exact z1.symm.trans w.1))
        refine ⟨fun c26 => ?_, fun c26 => ?_⟩
        ·
          refine ⟨(⟨by (first | omega | (simp only [st_s] <;> omega) | assumption | omega | fail), by (first | omega | (simp only [st_s] <;> omega) | assumption | omega | fail)⟩ : rg (u2_12 + 1)), ?_⟩
          exact ih_12 _ _ (show (1502 - (u2_12 + 1) : Int) < ((m_12 : Nat) : Int) from by ((first | omega | (simp only [st_s] <;> omega) | assumption | omega | fail))) hT (show τ25.1 3 = σ.1 3 from by first | exact W3 | omega) (show τ25.1 4 = σ.1 4 from by first | exact W4 | omega) (show τ25.1 5 = σ.1 5 from by first | exact W5 | omega) (show τ25.1 10 = σ.1 10 from by first | exact W10 | omega) (show τ25.1 11 = σ.1 11 from by first | exact W11 | omega) G8 G10 G12 G13 G14 G15 G16 G17 G18 G19 G20 (show y_BI σ τ25 from by (first | exact y_BI_g q1_1 hT3 (f_v f_0 (by simp) : f_r [53] [] [] _ _) rfl rfl rfl | exact BI25 | exact BID | fail)) (show 0 ≤ (u2_12 + 1) ∧ (u2_12 + 1) ≤ n1 from by (first | omega | (simp only [st_s] <;> omega) | assumption | omega | fail)) (show z_D1 τ25 n1 from by (first | exact z_D1_k q1_2 ⟨⟨rfl, rfl, rfl, rfl, rfl, rfl, rfl, rfl, rfl, rfl⟩, rfl, rfl, rfl, rfl, rfl⟩ rfl (fun _ _ => rfl) | exact D125 | exact D1D | fail)) (show z_N1 τ25 n1 from by (first | exact q1_3 | exact N125 | exact N1D | fail)) (show z_N2 τ25 (-1) from by (first | exact q1_4 | exact N225 | exact N2D | fail)) (show z_BB τ25 (u2_12 + 1) from by (first | exact fun d _ _ a b => by (exfalso; omega) | exact BBD | exact z_BB_n BB25 (fun d d0 d5 y c => by (have w := DX d d0 d5 y; omega)) | exact z_BB_n BB25 (fun d d0 d5 y c => by (have w := DX d d0 d5 y; rw [w, ← e_x29] at y; exact c30 y)) | exact z_BB_n BB25 (fun d d0 d5 y c => by (have w := DX d d0 d5 y; rw [w, ← e_x32] at c; exact c c33)) | fail)) (show z_GH τ25 (u2_12 + 1) from by (first | exact z_GH_0 rfl | exact GHD | exact z_GH_n GH25 D125 BI25.1.2.2.2.1 (by omega) (by omega) | fail))
        ·
          refine ⟨(show 0 ≤ x24 ∧ x24 < 1501 from by (first | omega | (simp only [st_s] <;> omega) | assumption | omega | fail)), ?_⟩
          intro x29 r_x29 e_x29
          have b_x29 : (-1) ≤ x29 ∧ x29 ≤ 1499 := by rw [e_x29]; exact hT.2 97 _
          refine ⟨fun c30 => ?_, fun c30 => ?_⟩
          ·
            refine ⟨(⟨by (first | omega | (simp only [st_s] <;> omega) | assumption | omega | fail), by (first | omega | (simp only [st_s] <;> omega) | assumption | omega | fail)⟩ : rg (u2_12 + 1)), ?_⟩
            exact ih_12 _ _ (show (1502 - (u2_12 + 1) : Int) < ((m_12 : Nat) : Int) from by ((first | omega | (simp only [st_s] <;> omega) | assumption | omega | fail))) hT (show τ25.1 3 = σ.1 3 from by first | exact W3 | omega) (show τ25.1 4 = σ.1 4 from by first | exact W4 | omega) (show τ25.1 5 = σ.1 5 from by first | exact W5 | omega) (show τ25.1 10 = σ.1 10 from by first | exact W10 | omega) (show τ25.1 11 = σ.1 11 from by first | exact W11 | omega) G8 G10 G12 G13 G14 G15 G16 G17 G18 G19 G20 (show y_BI σ τ25 from by (first | exact y_BI_g q1_1 hT3 (f_v f_0 (by simp) : f_r [53] [] [] _ _) rfl rfl rfl | exact BI25 | exact BID | fail)) (show 0 ≤ (u2_12 + 1) ∧ (u2_12 + 1) ≤ n1 from by (first | omega | (simp only [st_s] <;> omega) | assumption | omega | fail)) (show z_D1 τ25 n1 from by (first | exact z_D1_k q1_2 ⟨⟨rfl, rfl, rfl, rfl, rfl, rfl, rfl, rfl, rfl, rfl⟩, rfl, rfl, rfl, rfl, rfl⟩ rfl (fun _ _ => rfl) | exact D125 | exact D1D | fail)) (show z_N1 τ25 n1 from by (first | exact q1_3 | exact N125 | exact N1D | fail)) (show z_N2 τ25 (-1) from by (first | exact q1_4 | exact N225 | exact N2D | fail)) (show z_BB τ25 (u2_12 + 1) from by (first | exact fun d _ _ a b => by (exfalso; omega) | exact BBD | exact z_BB_n BB25 (fun d d0 d5 y c => by (have w := DX d d0 d5 y; omega)) | exact z_BB_n BB25 (fun d d0 d5 y c => by (have w := DX d d0 d5 y; rw [w, ← e_x29] at y; exact c30 y)) | exact z_BB_n BB25 (fun d d0 d5 y c => by (have w := DX d d0 d5 y; rw [w, ← e_x32] at c; exact c c33)) | fail)) (show z_GH τ25 (u2_12 + 1) from by (first | exact z_GH_0 rfl | exact GHD | exact z_GH_n GH25 D125 BI25.1.2.2.2.1 (by omega) (by omega) | fail))
          ·
            intro x32 r_x32 e_x32
            have b_x32 : 0 ≤ x32 ∧ x32 ≤ 1 := by rw [e_x32]; exact hT.2 98 _
            refine ⟨fun c33 => ?_, fun c33 => ?_⟩
            ·
              refine ⟨(⟨by (first | omega | (simp only [st_s] <;> omega) | assumption | omega | fail), by (first | omega | (simp only [st_s] <;> omega) | assumption | omega | fail)⟩ : rg (u2_12 + 1)), ?_⟩
              exact ih_12 _ _ (show (1502 - (u2_12 + 1) : Int) < ((m_12 : Nat) : Int) from by ((first | omega | (simp only [st_s] <;> omega) | assumption | omega | fail))) hT (show τ25.1 3 = σ.1 3 from by first | exact W3 | omega) (show τ25.1 4 = σ.1 4 from by first | exact W4 | omega) (show τ25.1 5 = σ.1 5 from by first | exact W5 | omega) (show τ25.1 10 = σ.1 10 from by first | exact W10 | omega) (show τ25.1 11 = σ.1 11 from by first | exact W11 | omega) G8 G10 G12 G13 G14 G15 G16 G17 G18 G19 G20 (show y_BI σ τ25 from by (first | exact y_BI_g q1_1 hT3 (f_v f_0 (by simp) : f_r [53] [] [] _ _) rfl rfl rfl | exact BI25 | exact BID | fail)) (show 0 ≤ (u2_12 + 1) ∧ (u2_12 + 1) ≤ n1 from by (first | omega | (simp only [st_s] <;> omega) | assumption | omega | fail)) (show z_D1 τ25 n1 from by (first | exact z_D1_k q1_2 ⟨⟨rfl, rfl, rfl, rfl, rfl, rfl, rfl, rfl, rfl, rfl⟩, rfl, rfl, rfl, rfl, rfl⟩ rfl (fun _ _ => rfl) | exact D125 | exact D1D | fail)) (show z_N1 τ25 n1 from by (first | exact q1_3 | exact N125 | exact N1D | fail)) (show z_N2 τ25 (-1) from by (first | exact q1_4 | exact N225 | exact N2D | fail)) (show z_BB τ25 (u2_12 + 1) from by (first | exact fun d _ _ a b => by (exfalso; omega) | exact BBD | exact z_BB_n BB25 (fun d d0 d5 y c => by (have w := DX d d0 d5 y; omega)) | exact z_BB_n BB25 (fun d d0 d5 y c => by (have w := DX d d0 d5 y; rw [w, ← e_x29] at y; exact c30 y)) | exact z_BB_n BB25 (fun d d0 d5 y c => by (have w := DX d d0 d5 y; rw [w, ← e_x32] at c; exact c c33)) | fail)) (show z_GH τ25 (u2_12 + 1) from by (first | exact z_GH_0 rfl | exact GHD | exact z_GH_n GH25 D125 BI25.1.2.2.2.1 (by omega) (by omega) | fail))
            ·
              have hT25 := hT
              have E25 := z_D1_e D125 BI25.1.2.2.2.1 (n := n1) (by omega) (d := x24) (by omega) (by omega) (by omega)
              have hd25 : τ25.2.1 97 x24 = u2_12 := (by rw [← e_x29]; assumption)
              rw [hd25] at E25
              refine ⟨_, K_X13_beginTrees hT, ?_⟩
              intro τ37 hn_τ37 hf_τ37 hq
              obtain ⟨hT, q35_1, q35_2⟩ := hq
              replace q35_1 : (τ37.1 51) = 0 := q35_1
              replace q35_2 : (τ37.1 52) = 0 := q35_2
              have w3_τ37 : τ37.1 3 = τ25.1 3 := hf_τ37.1 3 (by decide)
              have w4_τ37 : τ37.1 4 = τ25.1 4 := hf_τ37.1 4 (by decide)
              have w5_τ37 : τ37.1 5 = τ25.1 5 := hf_τ37.1 5 (by decide)
              have w10_τ37 : τ37.1 10 = τ25.1 10 := hf_τ37.1 10 (by decide)
              have w11_τ37 : τ37.1 11 = τ25.1 11 := hf_τ37.1 11 (by decide)
              have w45_τ37 : τ37.1 45 = τ25.1 45 := hf_τ37.1 45 (by decide)
              have w48_τ37 : τ37.1 48 = τ25.1 48 := hf_τ37.1 48 (by decide)
              have w49_τ37 : τ37.1 49 = τ25.1 49 := hf_τ37.1 49 (by decide)
              have w50_τ37 : τ37.1 50 = τ25.1 50 := hf_τ37.1 50 (by decide)
              have w53_τ37 : τ37.1 53 = τ25.1 53 := hf_τ37.1 53 (by decide)
              have w54_τ37 : τ37.1 54 = τ25.1 54 := hf_τ37.1 54 (by decide)
              have g8_τ37 : τ37.2.1 8 = τ25.2.1 8 := hf_τ37.2.1 8 (by decide)
              have g10_τ37 : τ37.2.1 10 = τ25.2.1 10 := hf_τ37.2.1 10 (by decide)
              have g12_τ37 : τ37.2.1 12 = τ25.2.1 12 := hf_τ37.2.1 12 (by decide)
              have g13_τ37 : τ37.2.1 13 = τ25.2.1 13 := hf_τ37.2.1 13 (by decide)
              have g14_τ37 : τ37.2.1 14 = τ25.2.1 14 := hf_τ37.2.1 14 (by decide)
              have g15_τ37 : τ37.2.1 15 = τ25.2.1 15 := hf_τ37.2.1 15 (by decide)
              have g16_τ37 : τ37.2.1 16 = τ25.2.1 16 := hf_τ37.2.1 16 (by decide)
              have g17_τ37 : τ37.2.1 17 = τ25.2.1 17 := hf_τ37.2.1 17 (by decide)
              have g18_τ37 : τ37.2.1 18 = τ25.2.1 18 := hf_τ37.2.1 18 (by decide)
              have g19_τ37 : τ37.2.1 19 = τ25.2.1 19 := hf_τ37.2.1 19 (by decide)
              have g20_τ37 : τ37.2.1 20 = τ25.2.1 20 := hf_τ37.2.1 20 (by decide)
              have g86_τ37 : τ37.2.1 86 = τ25.2.1 86 := hf_τ37.2.1 86 (by decide)
              have g87_τ37 : τ37.2.1 87 = τ25.2.1 87 := hf_τ37.2.1 87 (by decide)
              have g91_τ37 : τ37.2.1 91 = τ25.2.1 91 := hf_τ37.2.1 91 (by decide)
              have g97_τ37 : τ37.2.1 97 = τ25.2.1 97 := hf_τ37.2.1 97 (by decide)
              have g98_τ37 : τ37.2.1 98 = τ25.2.1 98 := hf_τ37.2.1 98 (by decide)
              have W3 : τ37.1 3 = σ.1 3 := by first | exact w3_τ37.trans W3 | omega
              have W4 : τ37.1 4 = σ.1 4 := by first | exact w4_τ37.trans W4 | omega
              have W5 : τ37.1 5 = σ.1 5 := by first | exact w5_τ37.trans W5 | omega
              have W10 : τ37.1 10 = σ.1 10 := by first | exact w10_τ37.trans W10 | omega
              have W11 : τ37.1 11 = σ.1 11 := by first | exact w11_τ37.trans W11 | omega
              have G8 : τ37.2.1 8 = σ.2.1 8 := (g8_τ37).trans G8
              have G10 : τ37.2.1 10 = σ.2.1 10 := (g10_τ37).trans G10
              have G12 : τ37.2.1 12 = σ.2.1 12 := (g12_τ37).trans G12
              have G13 : τ37.2.1 13 = σ.2.1 13 := (g13_τ37).trans G13
              have G14 : τ37.2.1 14 = σ.2.1 14 := (g14_τ37).trans G14
              have G15 : τ37.2.1 15 = σ.2.1 15 := (g15_τ37).trans G15
              have G16 : τ37.2.1 16 = σ.2.1 16 := (g16_τ37).trans G16
              have G17 : τ37.2.1 17 = σ.2.1 17 := (g17_τ37).trans G17
              have G18 : τ37.2.1 18 = σ.2.1 18 := (g18_τ37).trans G18
              have G19 : τ37.2.1 19 = σ.2.1 19 := (g19_τ37).trans G19
              have G20 : τ37.2.1 20 = σ.2.1 20 := (g20_τ37).trans G20
              have Y20 : ca (τ37.2.1 12) ((τ37.1 3)) ≤ (τ37.1 4) := by rw [show (ca (τ37.2.1 12) ((τ37.1 3)) ≤ (τ37.1 4)) = (ca (τ25.2.1 12) ((τ25.1 3)) ≤ (τ25.1 4)) from by rw [w3_τ37, w4_τ37, g12_τ37]]; exact Y20
              have A8 : ∀ j, 0 ≤ τ37.2.1 8 j ∧ τ37.2.1 8 j ≤ 1 := fun j => hT.2 8 j
              have A10 : ∀ j, (-1) ≤ τ37.2.1 10 j ∧ τ37.2.1 10 j ≤ 999 := fun j => hT.2 10 j
              have A12 : ∀ j, 0 ≤ τ37.2.1 12 j ∧ τ37.2.1 12 j ≤ 1 := fun j => hT.2 12 j
              have A13 : ∀ j, 0 ≤ τ37.2.1 13 j ∧ τ37.2.1 13 j ≤ 4 := fun j => hT.2 13 j
              have A14 : ∀ j, 0 ≤ τ37.2.1 14 j ∧ τ37.2.1 14 j ≤ 30000 := fun j => hT.2 14 j
              have A15 : ∀ j, 0 ≤ τ37.2.1 15 j ∧ τ37.2.1 15 j ≤ 300 := fun j => hT.2 15 j
              have A16 : ∀ j, 0 ≤ τ37.2.1 16 j ∧ τ37.2.1 16 j ≤ 999 := fun j => hT.2 16 j
              have A17 : ∀ j, (-1) ≤ τ37.2.1 17 j ∧ τ37.2.1 17 j ≤ 1499 := fun j => hT.2 17 j
              have A18 : ∀ j, 0 ≤ τ37.2.1 18 j ∧ τ37.2.1 18 j ≤ 90000 := fun j => hT.2 18 j
              have A19 : ∀ j, 0 ≤ τ37.2.1 19 j ∧ τ37.2.1 19 j ≤ 60 := fun j => hT.2 19 j
              have A20 : ∀ j, 0 ≤ τ37.2.1 20 j ∧ τ37.2.1 20 j ≤ 1499 := fun j => hT.2 20 j
              have A86 : ∀ j, (-1500) ≤ τ37.2.1 86 j ∧ τ37.2.1 86 j ≤ 1499 := fun j => hT.2 86 j
              have A87 : ∀ j, 0 ≤ τ37.2.1 87 j ∧ τ37.2.1 87 j ≤ 120000 := fun j => hT.2 87 j
              have A91 : ∀ j, 0 ≤ τ37.2.1 91 j ∧ τ37.2.1 91 j ≤ 60000 := fun j => hT.2 91 j
              have A97 : ∀ j, (-1) ≤ τ37.2.1 97 j ∧ τ37.2.1 97 j ≤ 1499 := fun j => hT.2 97 j
              have A98 : ∀ j, 0 ≤ τ37.2.1 98 j ∧ τ37.2.1 98 j ≤ 1 := fun j => hT.2 98 j
              have v3 : 0 ≤ τ37.1 3 ∧ τ37.1 3 ≤ 1000 := hT.1 3
              have v4 : 0 ≤ τ37.1 4 ∧ τ37.1 4 ≤ 100 := hT.1 4
              have v5 : 0 ≤ τ37.1 5 ∧ τ37.1 5 ≤ 1500 := hT.1 5
              have v10 : (-1) ≤ τ37.1 10 ∧ τ37.1 10 ≤ 999 := hT.1 10
              have v11 : (-1) ≤ τ37.1 11 ∧ τ37.1 11 ≤ 999 := hT.1 11
              have v45 : 0 ≤ τ37.1 45 ∧ τ37.1 45 ≤ 59 := hT.1 45
              have v48 : 0 ≤ τ37.1 48 ∧ τ37.1 48 ≤ 1500 := hT.1 48
              have v49 : 0 ≤ τ37.1 49 ∧ τ37.1 49 ≤ 1 := hT.1 49
              have v50 : 0 ≤ τ37.1 50 ∧ τ37.1 50 ≤ 1500 := hT.1 50
              have v51 : 0 ≤ τ37.1 51 ∧ τ37.1 51 ≤ 60000 := hT.1 51
              have v52 : 0 ≤ τ37.1 52 ∧ τ37.1 52 ≤ 120000 := hT.1 52
              have v53 : 0 ≤ τ37.1 53 ∧ τ37.1 53 ≤ 460000 := hT.1 53
              have v54 : 0 ≤ τ37.1 54 ∧ τ37.1 54 ≤ 1300 := hT.1 54
              have SF37 := y_SF_h hf_τ37 rfl rfl
              have BI37 := y_BI_b BI25 hT25 hf_τ37 ⟨by omega, by omega⟩ rfl rfl rfl
              have e9437 : τ37.2.1 94 = τ25.2.1 94 := hf_τ37.2.1 94 (by decide)
              have e9537 : τ37.2.1 95 = τ25.2.1 95 := hf_τ37.2.1 95 (by decide)
              have e9737 : τ37.2.1 97 = τ25.2.1 97 := hf_τ37.2.1 97 (by decide)
              have e9837 : τ37.2.1 98 = τ25.2.1 98 := hf_τ37.2.1 98 (by decide)
              have e9937 : τ37.2.1 99 = τ25.2.1 99 := hf_τ37.2.1 99 (by decide)
              have e10037 : τ37.2.1 100 = τ25.2.1 100 := hf_τ37.2.1 100 (by decide)
              have e10137 : τ37.2.1 101 = τ25.2.1 101 := hf_τ37.2.1 101 (by decide)
              have e5337 : τ37.1 53 = τ25.1 53 := hf_τ37.1 53 (by decide)
              have KC37 : y_KC τ25 τ37 := y_KC_e e9437 (hf_τ37.2.2 7 (by decide))
              have D137 := z_D1_k D125 SF37 e9737 (fun i _ => by rw [e9537])
              have N237 := z_N2_k N225 D125 BI25.1.2.2.2.1 (by omega) KC37 (by omega) (by omega) (by omega) e9737 e9837
              have BB37 := z_BB_k BB25 SF37 e9737 e9837 e9937 e10037 e10137 e5337
              have GH37 := z_GH_e GH25 SF37 e9737 e5337
              have c37 : τ37.2.1 94 u2_12 = 1 := (by rw [e9437]; exact E25.2.1.1.2.1)
              have t37 : τ37.2.1 15 u2_12 ≤ 60 := (by rw [SF37.1.2.2.2.2.2.1]; exact E25.2.1.1.1)
              have hd37 : τ37.2.1 97 x24 = u2_12 := (by rw [e9737]; exact hd25)
              have nd37 : ¬ τ37.2.1 98 x24 = 0 := (by rw [e9837, ← e_x32]; assumption)
              have hT37 := hT
              refine ⟨_, K_X13_treeOf hT (show 0 ≤ u2_12 from by (first | omega | (simp only [st_s] <;> omega) | assumption | omega | fail)) (show u2_12 < (τ37.1 5) from by (first | omega | (simp only [st_s] <;> omega) | assumption | omega | fail)) (show τ37.2.1 15 u2_12 ≤ 60 from by exact t37) (show ca (τ37.2.1 12) ((τ37.1 3)) ≤ (τ37.1 4) from Y20) (show n_J τ37 from by exact BI37.2.2.1) (show m_J τ37 from by exact BI37.2.2.2.1) (show (τ37.1 10) < (τ37.1 3) from by (first | omega | (simp only [st_s] <;> omega) | assumption | omega | fail)) (show (τ37.1 49) = 0 ∨ (y_TT τ37 τ37 (τ37.1 5) (τ37.1 5) ∧ y_Un τ37 (τ37.1 5) (τ37.1 48) (τ37.2.1 84)) from by (rw [W5]; exact BI37.2.1)) (show (τ37.1 51) ≤ 47000 from by (have w := BI37.2.2.2.2; omega)) (show (τ37.1 52) ≤ 88000 from by (have w := BI37.2.2.2.2; omega)), ?_⟩
              intro x39 τ40 r_x39 hn_τ40 hf_τ40 hq
              obtain ⟨hT, q38_1, q38_2, q38_3, q38_4, q38_5, q38_6, q38_7, q38_8, q38_9, q38_10, q38_11, q38_12, q38_13, q38_14, q38_15⟩ := hq
              replace q38_1 : ∃ c : Int, τ40.2.1 94 = st (τ37.2.1 94) u2_12 c ∧ y_Ti τ37 u2_12 c ∧ (x39 = -1 ↔ ¬ c = 1) := q38_1
              replace q38_2 : ¬ (τ40.1 49) = 0 ∧ y_TT τ40 τ40 (τ37.1 5) (τ37.1 5) ∧ y_Un τ40 (τ37.1 5) (τ40.1 48) (τ40.2.1 84) := q38_2
              replace q38_3 : (τ37.1 51) ≤ (τ40.1 51) ∧ (τ40.1 51) ≤ (τ37.1 51) + 11700 := q38_3
              replace q38_4 : (τ37.1 52) ≤ (τ40.1 52) ∧ (τ40.1 52) ≤ (τ37.1 52) + 11700 := q38_4
              replace q38_5 : ∀ y : Int, y < (τ37.1 51) → (τ40.2.1 86 y = τ37.2.1 86 y ∧ τ40.2.1 87 y = τ37.2.1 87 y) ∧ τ40.2.1 88 y = τ37.2.1 88 y ∧ τ40.2.1 89 y = τ37.2.1 89 y ∧ τ40.2.1 90 y = τ37.2.1 90 y := q38_5
              replace q38_6 : ∀ e : Int, e < (τ37.1 52) → τ40.2.1 91 e = τ37.2.1 91 e := q38_6
              replace q38_7 : x39 = -1 → (τ40.1 51) = (τ37.1 51) ∧ (τ40.1 52) = (τ37.1 52) := q38_7
              replace q38_8 : ¬ x39 = -1 → x39 = (τ37.1 51) ∧ (τ37.1 51) < (τ40.1 51) := q38_8
              replace q38_9 : ¬ x39 = -1 → ∃ ρ : Int → Int → Int → Int, y_TC ρ τ40 := q38_9
              replace q38_10 : ¬ x39 = -1 → ∀ y : Int, (τ37.1 51) ≤ y → y < (τ40.1 51) → y_c0 τ40 (τ40.2.1 90 y) (τ40.2.1 88 y) (τ40.2.1 89 y) := q38_10
              replace q38_11 : ¬ x39 = -1 → ∀ y : Int, (τ37.1 51) ≤ y → y < (τ40.1 51) → y_nd τ40 (τ40.2.1 86) (τ40.2.1 87) (τ40.2.1 91) (τ40.2.1 88) (τ40.2.1 89) (τ40.2.1 90) y (y + 1) (τ40.1 51) (τ40.1 52) := q38_11
              replace q38_12 : ¬ x39 = -1 → τ40.2.1 90 (τ37.1 51) = τ40.2.1 71 (y_rt τ37 u2_12) ∧ τ40.2.1 88 (τ37.1 51) = 0 ∧ τ40.2.1 89 (τ37.1 51) = τ37.2.1 15 u2_12 - 1 := q38_12
              replace q38_13 : ¬ x39 = -1 → 0 ≤ y_rt τ37 u2_12 ∧ y_rt τ37 u2_12 < (τ37.1 3) := q38_13
              replace q38_14 : ¬ x39 = -1 → (τ40.1 50) = u2_12 ∧ (τ40.1 45) = τ37.2.1 15 u2_12 - 1 ∧ 1 < τ37.2.1 15 u2_12 := q38_14
              replace q38_15 : ¬ x39 = -1 → ∀ k : Int, 0 ≤ k → k < (τ37.2.1 15 u2_12 - 1) → τ40.2.1 72 k = τ37.2.1 16 (τ37.2.1 14 u2_12 + 1 + k) ∧ τ40.2.1 74 k = τ37.2.1 17 (τ37.2.1 14 u2_12 + 1 + k) ∧ ((τ37.2.1 17 (τ37.2.1 14 u2_12 + 1 + k) = -1 ∧ τ40.2.1 73 k = -1) ∨ (¬ τ37.2.1 17 (τ37.2.1 14 u2_12 + 1 + k) = -1 ∧ τ40.2.1 73 k = τ40.2.1 71 (τ37.2.1 16 (τ37.2.1 14 (τ37.2.1 17 (τ37.2.1 14 u2_12 + 1 + k)))))) := q38_15
              have w3_τ40 : τ40.1 3 = τ37.1 3 := hf_τ40.1 3 (by decide)
              have w4_τ40 : τ40.1 4 = τ37.1 4 := hf_τ40.1 4 (by decide)
              have w5_τ40 : τ40.1 5 = τ37.1 5 := hf_τ40.1 5 (by decide)
              have w10_τ40 : τ40.1 10 = τ37.1 10 := hf_τ40.1 10 (by decide)
              have w11_τ40 : τ40.1 11 = τ37.1 11 := hf_τ40.1 11 (by decide)
              have w53_τ40 : τ40.1 53 = τ37.1 53 := hf_τ40.1 53 (by decide)
              have w54_τ40 : τ40.1 54 = τ37.1 54 := hf_τ40.1 54 (by decide)
              have g8_τ40 : τ40.2.1 8 = τ37.2.1 8 := hf_τ40.2.1 8 (by decide)
              have g10_τ40 : τ40.2.1 10 = τ37.2.1 10 := hf_τ40.2.1 10 (by decide)
              have g12_τ40 : τ40.2.1 12 = τ37.2.1 12 := hf_τ40.2.1 12 (by decide)
              have g13_τ40 : τ40.2.1 13 = τ37.2.1 13 := hf_τ40.2.1 13 (by decide)
              have g14_τ40 : τ40.2.1 14 = τ37.2.1 14 := hf_τ40.2.1 14 (by decide)
              have g15_τ40 : τ40.2.1 15 = τ37.2.1 15 := hf_τ40.2.1 15 (by decide)
              have g16_τ40 : τ40.2.1 16 = τ37.2.1 16 := hf_τ40.2.1 16 (by decide)
              have g17_τ40 : τ40.2.1 17 = τ37.2.1 17 := hf_τ40.2.1 17 (by decide)
              have g18_τ40 : τ40.2.1 18 = τ37.2.1 18 := hf_τ40.2.1 18 (by decide)
              have g19_τ40 : τ40.2.1 19 = τ37.2.1 19 := hf_τ40.2.1 19 (by decide)
              have g20_τ40 : τ40.2.1 20 = τ37.2.1 20 := hf_τ40.2.1 20 (by decide)
              have g97_τ40 : τ40.2.1 97 = τ37.2.1 97 := hf_τ40.2.1 97 (by decide)
              have g98_τ40 : τ40.2.1 98 = τ37.2.1 98 := hf_τ40.2.1 98 (by decide)
              have W3 : τ40.1 3 = σ.1 3 := by first | exact w3_τ40.trans W3 | omega
              have W4 : τ40.1 4 = σ.1 4 := by first | exact w4_τ40.trans W4 | omega
              have W5 : τ40.1 5 = σ.1 5 := by first | exact w5_τ40.trans W5 | omega
              have W10 : τ40.1 10 = σ.1 10 := by first | exact w10_τ40.trans W10 | omega
              have W11 : τ40.1 11 = σ.1 11 := by first | exact w11_τ40.trans W11 | omega
              have G8 : τ40.2.1 8 = σ.2.1 8 := (g8_τ40).trans G8
              have G10 : τ40.2.1 10 = σ.2.1 10 := (g10_τ40).trans G10
              have G12 : τ40.2.1 12 = σ.2.1 12 := (g12_τ40).trans G12
              have G13 : τ40.2.1 13 = σ.2.1 13 := (g13_τ40).trans G13
              have G14 : τ40.2.1 14 = σ.2.1 14 := (g14_τ40).trans G14
              have G15 : τ40.2.1 15 = σ.2.1 15 := (g15_τ40).trans G15
              have G16 : τ40.2.1 16 = σ.2.1 16 := (g16_τ40).trans G16
              have G17 : τ40.2.1 17 = σ.2.1 17 := (g17_τ40).trans G17
              have G18 : τ40.2.1 18 = σ.2.1 18 := (g18_τ40).trans G18
              have G19 : τ40.2.1 19 = σ.2.1 19 := (g19_τ40).trans G19
              have G20 : τ40.2.1 20 = σ.2.1 20 := (g20_τ40).trans G20
              have Y20 : ca (τ40.2.1 12) ((τ40.1 3)) ≤ (τ40.1 4) := by rw [show (ca (τ40.2.1 12) ((τ40.1 3)) ≤ (τ40.1 4)) = (ca (τ37.2.1 12) ((τ37.1 3)) ≤ (τ37.1 4)) from by rw [w3_τ40, w4_τ40, g12_τ40]]; exact Y20
              have A8 : ∀ j, 0 ≤ τ40.2.1 8 j ∧ τ40.2.1 8 j ≤ 1 := fun j => hT.2 8 j
              have A10 : ∀ j, (-1) ≤ τ40.2.1 10 j ∧ τ40.2.1 10 j ≤ 999 := fun j => hT.2 10 j
              have A12 : ∀ j, 0 ≤ τ40.2.1 12 j ∧ τ40.2.1 12 j ≤ 1 := fun j => hT.2 12 j
              have A13 : ∀ j, 0 ≤ τ40.2.1 13 j ∧ τ40.2.1 13 j ≤ 4 := fun j => hT.2 13 j
              have A14 : ∀ j, 0 ≤ τ40.2.1 14 j ∧ τ40.2.1 14 j ≤ 30000 := fun j => hT.2 14 j
              have A15 : ∀ j, 0 ≤ τ40.2.1 15 j ∧ τ40.2.1 15 j ≤ 300 := fun j => hT.2 15 j
              have A16 : ∀ j, 0 ≤ τ40.2.1 16 j ∧ τ40.2.1 16 j ≤ 999 := fun j => hT.2 16 j
              have A17 : ∀ j, (-1) ≤ τ40.2.1 17 j ∧ τ40.2.1 17 j ≤ 1499 := fun j => hT.2 17 j
              have A18 : ∀ j, 0 ≤ τ40.2.1 18 j ∧ τ40.2.1 18 j ≤ 90000 := fun j => hT.2 18 j
              have A19 : ∀ j, 0 ≤ τ40.2.1 19 j ∧ τ40.2.1 19 j ≤ 60 := fun j => hT.2 19 j
              have A20 : ∀ j, 0 ≤ τ40.2.1 20 j ∧ τ40.2.1 20 j ≤ 1499 := fun j => hT.2 20 j
              have A86 : ∀ j, (-1500) ≤ τ40.2.1 86 j ∧ τ40.2.1 86 j ≤ 1499 := fun j => hT.2 86 j
              have A87 : ∀ j, 0 ≤ τ40.2.1 87 j ∧ τ40.2.1 87 j ≤ 120000 := fun j => hT.2 87 j
              have A91 : ∀ j, 0 ≤ τ40.2.1 91 j ∧ τ40.2.1 91 j ≤ 60000 := fun j => hT.2 91 j
              have A97 : ∀ j, (-1) ≤ τ40.2.1 97 j ∧ τ40.2.1 97 j ≤ 1499 := fun j => hT.2 97 j
              have A98 : ∀ j, 0 ≤ τ40.2.1 98 j ∧ τ40.2.1 98 j ≤ 1 := fun j => hT.2 98 j
              have v3 : 0 ≤ τ40.1 3 ∧ τ40.1 3 ≤ 1000 := hT.1 3
              have v4 : 0 ≤ τ40.1 4 ∧ τ40.1 4 ≤ 100 := hT.1 4
              have v5 : 0 ≤ τ40.1 5 ∧ τ40.1 5 ≤ 1500 := hT.1 5
              have v10 : (-1) ≤ τ40.1 10 ∧ τ40.1 10 ≤ 999 := hT.1 10
              have v11 : (-1) ≤ τ40.1 11 ∧ τ40.1 11 ≤ 999 := hT.1 11
              have v45 : 0 ≤ τ40.1 45 ∧ τ40.1 45 ≤ 59 := hT.1 45
              have v48 : 0 ≤ τ40.1 48 ∧ τ40.1 48 ≤ 1500 := hT.1 48
              have v49 : 0 ≤ τ40.1 49 ∧ τ40.1 49 ≤ 1 := hT.1 49
              have v50 : 0 ≤ τ40.1 50 ∧ τ40.1 50 ≤ 1500 := hT.1 50
              have v51 : 0 ≤ τ40.1 51 ∧ τ40.1 51 ≤ 60000 := hT.1 51
              have v52 : 0 ≤ τ40.1 52 ∧ τ40.1 52 ≤ 120000 := hT.1 52
              have v53 : 0 ≤ τ40.1 53 ∧ τ40.1 53 ≤ 460000 := hT.1 53
              have v54 : 0 ≤ τ40.1 54 ∧ τ40.1 54 ≤ 1300 := hT.1 54
              have TO40 : y_TO τ37 τ40 u2_12 x39 := ⟨q38_1, q38_2, q38_3, q38_4, q38_5, q38_6, fun z => ⟨q38_8 z, q38_9 z, q38_10 z, q38_11 z, q38_12 z, q38_13 z, q38_14 z, q38_15 z⟩⟩
              obtain ⟨⟨BI40, KC40, SF40⟩, nx, ex39, TR40⟩ := y_BI_o BI37 hT37 hf_τ40 TO40 (by omega) (by omega) c37 (by omega) (by omega) rfl rfl rfl
              clear q38_1 q38_2 q38_7 q38_8 q38_9 q38_10 q38_11 q38_12 q38_13 q38_14 q38_15
              obtain ⟨wt, TW⟩ := y_TW_o TO40 hT nx
              have l39 : x39 < τ40.1 51 := TR40.2.2.2.2.1.1
              have l51 : τ40.1 51 ≤ 60000 := (hT.1 51).2
              have l52 : τ40.1 52 ≤ 120000 := (hT.1 52).2
              have e9740 : τ40.2.1 97 = τ37.2.1 97 := hf_τ40.2.1 97 (by decide)
              have e9840 : τ40.2.1 98 = τ37.2.1 98 := hf_τ40.2.1 98 (by decide)
              have e9940 : τ40.2.1 99 = τ37.2.1 99 := hf_τ40.2.1 99 (by decide)
              have e10040 : τ40.2.1 100 = τ37.2.1 100 := hf_τ40.2.1 100 (by decide)
              have e10140 : τ40.2.1 101 = τ37.2.1 101 := hf_τ40.2.1 101 (by decide)
              have e5340 : τ40.1 53 = τ37.1 53 := hf_τ40.1 53 (by decide)
              have ZD := z_BZ_d (C := s_a τ40 99 x24 (τ40.1 53)) hT37 hT BI37.2.2.1 BI37.1.1 BI37.1.2.2.2.1 D137 (by omega) N237 BB37 (by omega) (by omega) (by omega) (by omega) hd37 nd37 TR40 (by omega) SF40.1 SF40.2.1 e5340 rfl rfl rfl e9740 (fun r hr => by (show st (τ40.2.1 99) x24 _ r = _; rw [st_n _ _ hr, e9940])) e10040 e10140
              obtain ⟨dn1, s0, dn2, dn3, Z, dn4, dn5⟩ := ZD
              have tw39 := (TW x39 (by omega) (by omega)).2 dn1.1.1
              have h19 : τ40.2.1 19 (τ40.2.1 86 x39) = 2 := (by rw [SF40.1.2.2.2.2.2.2.2.2.1]; exact dn1.2.2)
              rw [h19] at tw39
              obtain ⟨lo, elo⟩ : ∃ z : Int, z = x39 := ⟨_, rfl⟩
              obtain ⟨hi, ehi⟩ : ∃ z : Int, z = τ40.1 51 := ⟨_, rfl⟩
              rw [← ehi] at TW dn4
              refine ⟨(show 0 ≤ x39 ∧ x39 < 60000 from by (first | omega | (simp only [st_s] <;> omega) | assumption | omega | fail)), ?_⟩
              intro x42 r_x42 e_x42
              have b_x42 : (-1500) ≤ x42 ∧ x42 ≤ 1499 := by rw [e_x42]; exact hT.2 86 _
              have b42 : 0 ≤ x42 ∧ x42 < τ37.1 5 := (by rw [e_x42]; exact dn1.1)
              have hT40 := hT
              rw [← e_x42] at dn1 dn2
              refine ⟨_, K3_X13_firstSide hT (show 0 ≤ x42 from by (first | omega | (simp only [st_s] <;> omega) | assumption | omega | fail)) (show x42 < (τ40.1 5) from by (first | omega | (simp only [st_s] <;> omega) | assumption | omega | fail)) (show n_J τ40 from by exact BI40.2.2.1) (show y_In τ40 x42 from by (rw [(y_SD_e SF40.1).2.1]; exact dn1.2.1)) (show ∃ m : Int, (0 ≤ m ∧ m < y_nn τ40 x42) ∧ y_f τ40 x42 (m + 1) < 0 from by (obtain ⟨_, m, m1, m2, _⟩ := dn2; exact ⟨m, by (rw [(y_SD_e SF40.1).2.2.2.1]; exact m1), by (rw [(y_SD_e SF40.1).2.2.2.2.1]; exact m2)⟩)), ?_⟩
              intro x44 r_x44 hq
              obtain ⟨q43_1, q43_2⟩ := hq
              replace q43_1 : 0 ≤ x44 ∧ x44 < τ40.2.1 19 x42 := q43_1
              replace q43_2 : y_FS τ40 x42 x44 := q43_2
              have es : s0 = x44 := y_FS_u BI37.2.2.1 hT37 b42.1 b42.2 dn1.2.1 dn2 (by rw [← y_FS_e SF40.1]; exact q43_2)
              rw [es] at dn3 dn4 dn5
              have b44 : 0 ≤ x44 ∧ x44 < 2 := (by have w := q43_1; rw [e_x42, h19] at w; exact w)
              replace hT := mT_a (k := 99) (j := x24) hT (show (0 : Int) ≤ (τ40.1 53) ∧ (τ40.1 53) ≤ 460000 from by (first | omega | (simp only [st_s] <;> omega) | assumption | omega | fail))
              intro x46 r_x46 e_x46
              have b_x46 : 0 ≤ x46 ∧ x46 ≤ 120000 := by rw [e_x46]; exact hT.2 87 _
              refine ⟨(show 0 ≤ ((x46 + 1) - x44) ∧ ((x46 + 1) - x44) < 120000 from by (first | omega | (simp only [st_s] <;> omega) | assumption | omega | fail)), ?_⟩
              intro x48 r_x48 e_x48
              have b_x48 : 0 ≤ x48 ∧ x48 ≤ 60000 := by rw [e_x48]; exact hT.2 91 _
              have f48 : x48 = τ40.2.1 91 (τ40.2.1 87 x39 + (1 - x44)) := (by rw [e_x48, e_x46]; exact congrArg (τ40.2.1 91) (by omega))
              have k48 := tw39.2.1 (1 - x44) (by omega) (by omega)
              rw [← f48] at k48 dn5
              intro x49 r_x49 e_x49
              have b_x49 : 0 ≤ x49 ∧ x49 ≤ 120000 := by rw [e_x49]; exact hT.2 87 _
              refine ⟨(show 0 ≤ (x49 + x44) ∧ (x49 + x44) < 120000 from by (first | omega | (simp only [st_s] <;> omega) | assumption | omega | fail)), ?_⟩
              intro x51 r_x51 e_x51
              have b_x51 : 0 ≤ x51 ∧ x51 ≤ 60000 := by rw [e_x51]; exact hT.2 91 _
              have f51 : x51 = τ40.2.1 91 (τ40.2.1 87 x39 + x44) := (by rw [e_x51, e_x49])
              have k51 := tw39.2.1 x44 (by omega) (by omega)
              rw [← f51] at k51 dn3 dn4
              rw [← elo] at TW dn4
              have GB := z_GH_b GH37 D137 BI37.1.2.2.2.1 (by omega) hT37 (by omega) (by omega)
              refine ⟨_, K_X13_tellBare hT (show y_TW (s_a τ40 99 x24 (τ40.1 53)) wt lo hi from by exact y_TW_h TW (f_a f_0 (by simp) : f_r [] [99] [] _ _) rfl rfl) (show 0 ≤ lo ∧ hi ≤ 60000 from by (first | omega | (simp only [st_s] <;> omega) | assumption | omega | fail)) (show z_BZ (s_a τ40 99 x24 (τ40.1 53)) lo hi x51 Z from by exact dn4) (show Z x48 from by exact dn5) (show x51 = -1 ∨ ((lo ≤ x51 ∧ x51 < hi) ∧ 0 ≤ τ40.2.1 86 x51) from by exact Or.inr ⟨⟨by omega, by omega⟩, by (rw [dn3]; omega)⟩) (show (τ40.1 53) ≤ 459000 from by (first | omega | (simp only [st_s] <;> omega) | assumption | omega | fail)) (show n_J (s_a τ40 99 x24 (τ40.1 53)) from by exact BI40.2.2.1), ?_⟩
              intro x53 τ54 r_x53 hn_τ54 hf_τ54 hq
              obtain ⟨hT, q52_1, q52_2, q52_3, q52_4⟩ := hq
              replace q52_1 : x53 = -1 ∨ (1 ≤ x53 ∧ x53 ≤ 599 ∧ (τ54.1 53) = (τ40.1 53) + x53) := q52_1
              replace q52_2 : x53 = -1 → (τ54.1 53) = (τ40.1 53) := q52_2
              replace q52_3 : ∀ e : Int, e < (τ40.1 53) → τ54.2.1 101 e = τ40.2.1 101 e := q52_3
              replace q52_4 : ¬ x53 = -1 → ∀ k : Int, 0 ≤ k → k < x53 → z_it (s_a τ40 99 x24 (τ40.1 53)) x51 (τ54.2.1 101 ((τ40.1 53) + k)) := q52_4
              have w3_τ54 : τ54.1 3 = τ40.1 3 := hf_τ54.1 3 (by decide)
              have w4_τ54 : τ54.1 4 = τ40.1 4 := hf_τ54.1 4 (by decide)
              have w5_τ54 : τ54.1 5 = τ40.1 5 := hf_τ54.1 5 (by decide)
              have w10_τ54 : τ54.1 10 = τ40.1 10 := hf_τ54.1 10 (by decide)
              have w11_τ54 : τ54.1 11 = τ40.1 11 := hf_τ54.1 11 (by decide)
              have w45_τ54 : τ54.1 45 = τ40.1 45 := hf_τ54.1 45 (by decide)
              have w48_τ54 : τ54.1 48 = τ40.1 48 := hf_τ54.1 48 (by decide)
              have w49_τ54 : τ54.1 49 = τ40.1 49 := hf_τ54.1 49 (by decide)
              have w50_τ54 : τ54.1 50 = τ40.1 50 := hf_τ54.1 50 (by decide)
              have w51_τ54 : τ54.1 51 = τ40.1 51 := hf_τ54.1 51 (by decide)
              have w52_τ54 : τ54.1 52 = τ40.1 52 := hf_τ54.1 52 (by decide)
              have g8_τ54 : τ54.2.1 8 = τ40.2.1 8 := hf_τ54.2.1 8 (by decide)
              have g10_τ54 : τ54.2.1 10 = τ40.2.1 10 := hf_τ54.2.1 10 (by decide)
              have g12_τ54 : τ54.2.1 12 = τ40.2.1 12 := hf_τ54.2.1 12 (by decide)
              have g13_τ54 : τ54.2.1 13 = τ40.2.1 13 := hf_τ54.2.1 13 (by decide)
              have g14_τ54 : τ54.2.1 14 = τ40.2.1 14 := hf_τ54.2.1 14 (by decide)
              have g15_τ54 : τ54.2.1 15 = τ40.2.1 15 := hf_τ54.2.1 15 (by decide)
              have g16_τ54 : τ54.2.1 16 = τ40.2.1 16 := hf_τ54.2.1 16 (by decide)
              have g17_τ54 : τ54.2.1 17 = τ40.2.1 17 := hf_τ54.2.1 17 (by decide)
              have g18_τ54 : τ54.2.1 18 = τ40.2.1 18 := hf_τ54.2.1 18 (by decide)
              have g19_τ54 : τ54.2.1 19 = τ40.2.1 19 := hf_τ54.2.1 19 (by decide)
              have g20_τ54 : τ54.2.1 20 = τ40.2.1 20 := hf_τ54.2.1 20 (by decide)
              have g86_τ54 : τ54.2.1 86 = τ40.2.1 86 := hf_τ54.2.1 86 (by decide)
              have g87_τ54 : τ54.2.1 87 = τ40.2.1 87 := hf_τ54.2.1 87 (by decide)
              have g91_τ54 : τ54.2.1 91 = τ40.2.1 91 := hf_τ54.2.1 91 (by decide)
              have g97_τ54 : τ54.2.1 97 = τ40.2.1 97 := hf_τ54.2.1 97 (by decide)
              have g98_τ54 : τ54.2.1 98 = τ40.2.1 98 := hf_τ54.2.1 98 (by decide)
              have W3 : τ54.1 3 = σ.1 3 := by first | exact w3_τ54.trans W3 | omega
              have W4 : τ54.1 4 = σ.1 4 := by first | exact w4_τ54.trans W4 | omega
              have W5 : τ54.1 5 = σ.1 5 := by first | exact w5_τ54.trans W5 | omega
              have W10 : τ54.1 10 = σ.1 10 := by first | exact w10_τ54.trans W10 | omega
              have W11 : τ54.1 11 = σ.1 11 := by first | exact w11_τ54.trans W11 | omega
              have G8 : τ54.2.1 8 = σ.2.1 8 := (g8_τ54).trans G8
              have G10 : τ54.2.1 10 = σ.2.1 10 := (g10_τ54).trans G10
              have G12 : τ54.2.1 12 = σ.2.1 12 := (g12_τ54).trans G12
              have G13 : τ54.2.1 13 = σ.2.1 13 := (g13_τ54).trans G13
              have G14 : τ54.2.1 14 = σ.2.1 14 := (g14_τ54).trans G14
              have G15 : τ54.2.1 15 = σ.2.1 15 := (g15_τ54).trans G15
              have G16 : τ54.2.1 16 = σ.2.1 16 := (g16_τ54).trans G16
              have G17 : τ54.2.1 17 = σ.2.1 17 := (g17_τ54).trans G17
              have G18 : τ54.2.1 18 = σ.2.1 18 := (g18_τ54).trans G18
              have G19 : τ54.2.1 19 = σ.2.1 19 := (g19_τ54).trans G19
              have G20 : τ54.2.1 20 = σ.2.1 20 := (g20_τ54).trans G20
              have Y20 : ca (τ54.2.1 12) ((τ54.1 3)) ≤ (τ54.1 4) := by rw [show (ca (τ54.2.1 12) ((τ54.1 3)) ≤ (τ54.1 4)) = (ca (τ40.2.1 12) ((τ40.1 3)) ≤ (τ40.1 4)) from by rw [w3_τ54, w4_τ54, g12_τ54]]; exact Y20
              have A8 : ∀ j, 0 ≤ τ54.2.1 8 j ∧ τ54.2.1 8 j ≤ 1 := fun j => hT.2 8 j
              have A10 : ∀ j, (-1) ≤ τ54.2.1 10 j ∧ τ54.2.1 10 j ≤ 999 := fun j => hT.2 10 j
              have A12 : ∀ j, 0 ≤ τ54.2.1 12 j ∧ τ54.2.1 12 j ≤ 1 := fun j => hT.2 12 j
              have A13 : ∀ j, 0 ≤ τ54.2.1 13 j ∧ τ54.2.1 13 j ≤ 4 := fun j => hT.2 13 j
              have A14 : ∀ j, 0 ≤ τ54.2.1 14 j ∧ τ54.2.1 14 j ≤ 30000 := fun j => hT.2 14 j
              have A15 : ∀ j, 0 ≤ τ54.2.1 15 j ∧ τ54.2.1 15 j ≤ 300 := fun j => hT.2 15 j
              have A16 : ∀ j, 0 ≤ τ54.2.1 16 j ∧ τ54.2.1 16 j ≤ 999 := fun j => hT.2 16 j
              have A17 : ∀ j, (-1) ≤ τ54.2.1 17 j ∧ τ54.2.1 17 j ≤ 1499 := fun j => hT.2 17 j
              have A18 : ∀ j, 0 ≤ τ54.2.1 18 j ∧ τ54.2.1 18 j ≤ 90000 := fun j => hT.2 18 j
              have A19 : ∀ j, 0 ≤ τ54.2.1 19 j ∧ τ54.2.1 19 j ≤ 60 := fun j => hT.2 19 j
              have A20 : ∀ j, 0 ≤ τ54.2.1 20 j ∧ τ54.2.1 20 j ≤ 1499 := fun j => hT.2 20 j
              have A86 : ∀ j, (-1500) ≤ τ54.2.1 86 j ∧ τ54.2.1 86 j ≤ 1499 := fun j => hT.2 86 j
              have A87 : ∀ j, 0 ≤ τ54.2.1 87 j ∧ τ54.2.1 87 j ≤ 120000 := fun j => hT.2 87 j
              have A91 : ∀ j, 0 ≤ τ54.2.1 91 j ∧ τ54.2.1 91 j ≤ 60000 := fun j => hT.2 91 j
              have A97 : ∀ j, (-1) ≤ τ54.2.1 97 j ∧ τ54.2.1 97 j ≤ 1499 := fun j => hT.2 97 j
              have A98 : ∀ j, 0 ≤ τ54.2.1 98 j ∧ τ54.2.1 98 j ≤ 1 := fun j => hT.2 98 j
              have v3 : 0 ≤ τ54.1 3 ∧ τ54.1 3 ≤ 1000 := hT.1 3
              have v4 : 0 ≤ τ54.1 4 ∧ τ54.1 4 ≤ 100 := hT.1 4
              have v5 : 0 ≤ τ54.1 5 ∧ τ54.1 5 ≤ 1500 := hT.1 5
              have v10 : (-1) ≤ τ54.1 10 ∧ τ54.1 10 ≤ 999 := hT.1 10
              have v11 : (-1) ≤ τ54.1 11 ∧ τ54.1 11 ≤ 999 := hT.1 11
              have v45 : 0 ≤ τ54.1 45 ∧ τ54.1 45 ≤ 59 := hT.1 45
              have v48 : 0 ≤ τ54.1 48 ∧ τ54.1 48 ≤ 1500 := hT.1 48
              have v49 : 0 ≤ τ54.1 49 ∧ τ54.1 49 ≤ 1 := hT.1 49
              have v50 : 0 ≤ τ54.1 50 ∧ τ54.1 50 ≤ 1500 := hT.1 50
              have v51 : 0 ≤ τ54.1 51 ∧ τ54.1 51 ≤ 60000 := hT.1 51
              have v52 : 0 ≤ τ54.1 52 ∧ τ54.1 52 ≤ 120000 := hT.1 52
              have v53 : 0 ≤ τ54.1 53 ∧ τ54.1 53 ≤ 460000 := hT.1 53
              have v54 : 0 ≤ τ54.1 54 ∧ τ54.1 54 ≤ 1300 := hT.1 54
              have hfD : f_r [53, 54] [99, 100, 101, 102] [] τ40 (s_a τ54 100 x24 x53) := f_a (f_t (f_a f_0 (by simp) : f_r [53, 54] [99, 100, 101, 102] [] τ40 (s_a τ40 99 x24 (τ40.1 53))) hf_τ54 rfl rfl rfl) (by simp)
              have SFD := y_SF_t SF37 (y_SF_t SF40 (y_SF_h hfD rfl rfl))
              have KCD : y_KC τ25 (s_a τ54 100 x24 x53) := y_KC_t KC37 (y_KC_t KC40 (y_KC_e (hfD.2.1 94 (by decide)) (hfD.2.2 7 (by decide))))
              have e97D := (hfD.2.1 97 (by decide)).trans (e9740.trans e9737)
              have e98D := (hfD.2.1 98 (by decide)).trans (e9840.trans e9837)
              have e95D := (hfD.2.1 95 (by decide)).trans ((hf_τ40.2.1 95 (by decide)).trans e9537)
              have BID := y_BI_g BI40 hT40 hfD rfl rfl rfl
              have D1D := z_D1_k D125 SFD e97D (fun i _ => by rw [e95D])
              have N1D := z_N1_k N125 KCD p1 (by omega) SFD.2.2.1 (by omega) e98D
              have N2D := z_N2_k N225 D125 BI25.1.2.2.2.1 (by omega) KCD (by omega) SFD.2.2.1 (by omega) e97D e98D
              have f99 : τ54.2.1 99 = st (τ40.2.1 99) x24 (τ40.1 53) := hf_τ54.2.1 99 (by decide)
              have f100 : τ54.2.1 100 = τ40.2.1 100 := hf_τ54.2.1 100 (by decide)
              have v53 : τ40.1 53 = τ25.1 53 := e5340.trans e5337
              obtain ⟨BBD, LD⟩ := z_BB_s (D := s_a τ54 100 x24 x53) (x := x53) BB25 DX SFD e97D e98D hd25 (fun r hr => by (show τ54.2.1 99 r = _; rw [f99, st_n _ _ hr, e9940, e9937])) (by show τ54.2.1 99 x24 = _; rw [f99, st_s, v53]) (fun r hr => by (show st (τ54.2.1 100) x24 x53 r = _; rw [st_n _ _ hr, f100, e10040, e10037])) (by show st (τ54.2.1 100) x24 x53 x24 = _; rw [st_s]) GH25.1.1 (by show x53 = -1 ∨ (1 ≤ x53 ∧ x53 ≤ 599 ∧ τ54.1 53 = τ25.1 53 + x53); rw [← v53]; exact q52_1) (by show x53 = -1 → τ54.1 53 = τ25.1 53; rw [← v53]; exact q52_2) (by intro e a; show τ54.2.1 101 e = _; rw [q52_3 e (by omega), e10140, e10137]) (by intro z k k0 k1; have w : z_it τ40 x51 (τ54.2.1 101 (τ40.1 53 + k)) := q52_4 z k k0 k1; rw [v53] at w; unfold z_it at w; have a19 : τ40.2.1 19 = τ25.2.1 19 := SF40.1.2.2.2.2.2.2.2.2.1.trans SF37.1.2.2.2.2.2.2.2.2.1; have a3 : τ40.1 3 = τ25.1 3 := SF40.2.1.trans SF37.2.1; rw [dn3, a19, a3] at w; exact ⟨fun y => (w.1 y).2, w.2⟩)
              have GHD := z_GH_d GH25 D125 BI25.1.2.2.2.1 (by omega) (by omega) (by omega) (by omega) hd25 SFD e97D LD
              replace hT := mT_a (k := 100) (j := x24) hT (show (-1 : Int) ≤ x53 ∧ x53 ≤ 599 from by (first | omega | (simp only [st_s] <;> omega) | assumption | omega | fail))
              refine ⟨(⟨by (first | omega | (simp only [st_s] <;> omega) | assumption | omega | fail), by (first | omega | (simp only [st_s] <;> omega) | assumption | omega | fail)⟩ : rg (u2_12 + 1)), ?_⟩
              exact ih_12 _ _ (show (1502 - (u2_12 + 1) : Int) < ((m_12 : Nat) : Int) from by ((first | omega | (simp only [st_s] <;> omega) | assumption | omega | fail))) hT (show τ54.1 3 = σ.1 3 from by first | exact W3 | omega) (show τ54.1 4 = σ.1 4 from by first | exact W4 | omega) (show τ54.1 5 = σ.1 5 from by first | exact W5 | omega) (show τ54.1 10 = σ.1 10 from by first | exact W10 | omega) (show τ54.1 11 = σ.1 11 from by first | exact W11 | omega) G8 G10 G12 G13 G14 G15 G16 G17 G18 G19 G20 (show y_BI σ (s_a τ54 100 x24 x53) from by (first | exact y_BI_g q1_1 hT3 (f_v f_0 (by simp) : f_r [53] [] [] _ _) rfl rfl rfl | exact BI25 | exact BID | fail)) (show 0 ≤ (u2_12 + 1) ∧ (u2_12 + 1) ≤ n1 from by (first | omega | (simp only [st_s] <;> omega) | assumption | omega | fail)) (show z_D1 (s_a τ54 100 x24 x53) n1 from by (first | exact z_D1_k q1_2 ⟨⟨rfl, rfl, rfl, rfl, rfl, rfl, rfl, rfl, rfl, rfl⟩, rfl, rfl, rfl, rfl, rfl⟩ rfl (fun _ _ => rfl) | exact D125 | exact D1D | fail)) (show z_N1 (s_a τ54 100 x24 x53) n1 from by (first | exact q1_3 | exact N125 | exact N1D | fail)) (show z_N2 (s_a τ54 100 x24 x53) (-1) from by (first | exact q1_4 | exact N225 | exact N2D | fail)) (show z_BB (s_a τ54 100 x24 x53) (u2_12 + 1) from by (first | exact fun d _ _ a b => by (exfalso; omega) | exact BBD | exact z_BB_n BB25 (fun d d0 d5 y c => by (have w := DX d d0 d5 y; omega)) | exact z_BB_n BB25 (fun d d0 d5 y c => by (have w := DX d d0 d5 y; rw [w, ← e_x29] at y; exact c30 y)) | exact z_BB_n BB25 (fun d d0 d5 y c => by (have w := DX d d0 d5 y; rw [w, ← e_x32] at c; exact c c33)) | fail)) (show z_GH (s_a τ54 100 x24 x53) (u2_12 + 1) from by (first | exact z_GH_0 rfl | exact GHD | exact z_GH_n GH25 D125 BI25.1.2.2.2.1 (by omega) (by omega) | fail))
  refine ⟨_, K_X13_findDefiners hT (show 0 ≤ n1 from by (first | omega | (simp only [st_s] <;> omega) | assumption | omega | fail)) (show n1 < (σ.1 5) from by (first | omega | (simp only [st_s] <;> omega) | assumption | omega | fail)) (show σ.2.1 15 n1 ≤ 60 from by (first | omega | (simp only [st_s] <;> omega) | assumption | omega | fail)) (show ca (σ.2.1 12) ((σ.1 3)) ≤ (σ.1 4) from Y20) (show (σ.1 10) < (σ.1 3) from by (first | omega | (simp only [st_s] <;> omega) | assumption | omega | fail)) (show y_BI σ σ from by (first | omega | (simp only [st_s] <;> omega) | assumption | omega | fail)), ?_⟩
  intro τ3 hn_τ3 hf_τ3 hq
  obtain ⟨hT, q1_1, q1_2, q1_3, q1_4, q1_5⟩ := hq
  replace q1_1 : y_BI σ τ3 := q1_1
  replace q1_2 : z_D1 τ3 n1 := q1_2
  replace q1_3 : z_N1 τ3 n1 := q1_3
  replace q1_4 : z_N2 τ3 (-1) := q1_4
  replace q1_5 : ¬ τ3.2.1 94 n1 = -1 := q1_5
  have w3_τ3 : τ3.1 3 = σ.1 3 := hf_τ3.1 3 (by decide)
  have w4_τ3 : τ3.1 4 = σ.1 4 := hf_τ3.1 4 (by decide)
  have w5_τ3 : τ3.1 5 = σ.1 5 := hf_τ3.1 5 (by decide)
  have w10_τ3 : τ3.1 10 = σ.1 10 := hf_τ3.1 10 (by decide)
  have w11_τ3 : τ3.1 11 = σ.1 11 := hf_τ3.1 11 (by decide)
  have w53_τ3 : τ3.1 53 = σ.1 53 := hf_τ3.1 53 (by decide)
  have w54_τ3 : τ3.1 54 = σ.1 54 := hf_τ3.1 54 (by decide)
  have g8_τ3 : τ3.2.1 8 = σ.2.1 8 := hf_τ3.2.1 8 (by decide)
  have g10_τ3 : τ3.2.1 10 = σ.2.1 10 := hf_τ3.2.1 10 (by decide)
  have g12_τ3 : τ3.2.1 12 = σ.2.1 12 := hf_τ3.2.1 12 (by decide)
  have g13_τ3 : τ3.2.1 13 = σ.2.1 13 := hf_τ3.2.1 13 (by decide)
  have g14_τ3 : τ3.2.1 14 = σ.2.1 14 := hf_τ3.2.1 14 (by decide)
  have g15_τ3 : τ3.2.1 15 = σ.2.1 15 := hf_τ3.2.1 15 (by decide)
  have g16_τ3 : τ3.2.1 16 = σ.2.1 16 := hf_τ3.2.1 16 (by decide)
  have g17_τ3 : τ3.2.1 17 = σ.2.1 17 := hf_τ3.2.1 17 (by decide)
  have g18_τ3 : τ3.2.1 18 = σ.2.1 18 := hf_τ3.2.1 18 (by decide)
  have g19_τ3 : τ3.2.1 19 = σ.2.1 19 := hf_τ3.2.1 19 (by decide)
  have g20_τ3 : τ3.2.1 20 = σ.2.1 20 := hf_τ3.2.1 20 (by decide)
  have W3 : τ3.1 3 = σ.1 3 := by first | exact w3_τ3.trans W3 | omega
  have W4 : τ3.1 4 = σ.1 4 := by first | exact w4_τ3.trans W4 | omega
  have W5 : τ3.1 5 = σ.1 5 := by first | exact w5_τ3.trans W5 | omega
  have W10 : τ3.1 10 = σ.1 10 := by first | exact w10_τ3.trans W10 | omega
  have W11 : τ3.1 11 = σ.1 11 := by first | exact w11_τ3.trans W11 | omega
  have G8 : τ3.2.1 8 = σ.2.1 8 := (g8_τ3).trans G8
  have G10 : τ3.2.1 10 = σ.2.1 10 := (g10_τ3).trans G10
  have G12 : τ3.2.1 12 = σ.2.1 12 := (g12_τ3).trans G12
  have G13 : τ3.2.1 13 = σ.2.1 13 := (g13_τ3).trans G13
  have G14 : τ3.2.1 14 = σ.2.1 14 := (g14_τ3).trans G14
  have G15 : τ3.2.1 15 = σ.2.1 15 := (g15_τ3).trans G15
  have G16 : τ3.2.1 16 = σ.2.1 16 := (g16_τ3).trans G16
  have G17 : τ3.2.1 17 = σ.2.1 17 := (g17_τ3).trans G17
  have G18 : τ3.2.1 18 = σ.2.1 18 := (g18_τ3).trans G18
  have G19 : τ3.2.1 19 = σ.2.1 19 := (g19_τ3).trans G19
  have G20 : τ3.2.1 20 = σ.2.1 20 := (g20_τ3).trans G20
  have Y20 : ca (τ3.2.1 12) ((τ3.1 3)) ≤ (τ3.1 4) := by rw [show (ca (τ3.2.1 12) ((τ3.1 3)) ≤ (τ3.1 4)) = (ca (σ.2.1 12) ((σ.1 3)) ≤ (σ.1 4)) from by rw [w3_τ3, w4_τ3, g12_τ3]]; exact Y20
  have A8 : ∀ j, 0 ≤ τ3.2.1 8 j ∧ τ3.2.1 8 j ≤ 1 := fun j => hT.2 8 j
  have A10 : ∀ j, (-1) ≤ τ3.2.1 10 j ∧ τ3.2.1 10 j ≤ 999 := fun j => hT.2 10 j
  have A12 : ∀ j, 0 ≤ τ3.2.1 12 j ∧ τ3.2.1 12 j ≤ 1 := fun j => hT.2 12 j
  have A13 : ∀ j, 0 ≤ τ3.2.1 13 j ∧ τ3.2.1 13 j ≤ 4 := fun j => hT.2 13 j
  have A14 : ∀ j, 0 ≤ τ3.2.1 14 j ∧ τ3.2.1 14 j ≤ 30000 := fun j => hT.2 14 j
  have A15 : ∀ j, 0 ≤ τ3.2.1 15 j ∧ τ3.2.1 15 j ≤ 300 := fun j => hT.2 15 j
  have A16 : ∀ j, 0 ≤ τ3.2.1 16 j ∧ τ3.2.1 16 j ≤ 999 := fun j => hT.2 16 j
  have A17 : ∀ j, (-1) ≤ τ3.2.1 17 j ∧ τ3.2.1 17 j ≤ 1499 := fun j => hT.2 17 j
  have A18 : ∀ j, 0 ≤ τ3.2.1 18 j ∧ τ3.2.1 18 j ≤ 90000 := fun j => hT.2 18 j
  have A19 : ∀ j, 0 ≤ τ3.2.1 19 j ∧ τ3.2.1 19 j ≤ 60 := fun j => hT.2 19 j
  have A20 : ∀ j, 0 ≤ τ3.2.1 20 j ∧ τ3.2.1 20 j ≤ 1499 := fun j => hT.2 20 j
  have A86 : ∀ j, (-1500) ≤ τ3.2.1 86 j ∧ τ3.2.1 86 j ≤ 1499 := fun j => hT.2 86 j
  have A87 : ∀ j, 0 ≤ τ3.2.1 87 j ∧ τ3.2.1 87 j ≤ 120000 := fun j => hT.2 87 j
  have A91 : ∀ j, 0 ≤ τ3.2.1 91 j ∧ τ3.2.1 91 j ≤ 60000 := fun j => hT.2 91 j
  have A97 : ∀ j, (-1) ≤ τ3.2.1 97 j ∧ τ3.2.1 97 j ≤ 1499 := fun j => hT.2 97 j
  have A98 : ∀ j, 0 ≤ τ3.2.1 98 j ∧ τ3.2.1 98 j ≤ 1 := fun j => hT.2 98 j
  have v3 : 0 ≤ τ3.1 3 ∧ τ3.1 3 ≤ 1000 := hT.1 3
  have v4 : 0 ≤ τ3.1 4 ∧ τ3.1 4 ≤ 100 := hT.1 4
  have v5 : 0 ≤ τ3.1 5 ∧ τ3.1 5 ≤ 1500 := hT.1 5
  have v10 : (-1) ≤ τ3.1 10 ∧ τ3.1 10 ≤ 999 := hT.1 10
  have v11 : (-1) ≤ τ3.1 11 ∧ τ3.1 11 ≤ 999 := hT.1 11
  have v45 : 0 ≤ τ3.1 45 ∧ τ3.1 45 ≤ 59 := hT.1 45
  have v48 : 0 ≤ τ3.1 48 ∧ τ3.1 48 ≤ 1500 := hT.1 48
  have v49 : 0 ≤ τ3.1 49 ∧ τ3.1 49 ≤ 1 := hT.1 49
  have v50 : 0 ≤ τ3.1 50 ∧ τ3.1 50 ≤ 1500 := hT.1 50
  have v51 : 0 ≤ τ3.1 51 ∧ τ3.1 51 ≤ 60000 := hT.1 51
  have v52 : 0 ≤ τ3.1 52 ∧ τ3.1 52 ≤ 120000 := hT.1 52
  have v53 : 0 ≤ τ3.1 53 ∧ τ3.1 53 ≤ 460000 := hT.1 53
  have v54 : 0 ≤ τ3.1 54 ∧ τ3.1 54 ≤ 1300 := hT.1 54
  have hT3 := hT
  replace hT := mT_v (i := 53) hT (show (0 : Int) ≤ 0 ∧ 0 ≤ 460000 from by (first | omega | (simp only [st_s] <;> omega) | assumption | omega | fail))
  exact l_12 ((1502 - 0 : Int).toNat + 1) _ _ (show (1502 - 0 : Int) < (((1502 - 0 : Int).toNat + 1 : Nat) : Int) from by ((first | omega | (simp only [st_s] <;> omega) | assumption | omega | fail))) hT (show τ3.1 3 = σ.1 3 from by first | exact W3 | omega) (show τ3.1 4 = σ.1 4 from by first | exact W4 | omega) (show τ3.1 5 = σ.1 5 from by first | exact W5 | omega) (show τ3.1 10 = σ.1 10 from by first | exact W10 | omega) (show τ3.1 11 = σ.1 11 from by first | exact W11 | omega) G8 G10 G12 G13 G14 G15 G16 G17 G18 G19 G20 (show y_BI σ (s_v τ3 53 0) from by (first | exact y_BI_g q1_1 hT3 (f_v f_0 (by simp) : f_r [53] [] [] _ _) rfl rfl rfl | exact BI25 | exact BID | fail)) (show 0 ≤ 0 ∧ 0 ≤ n1 from by (first | omega | (simp only [st_s] <;> omega) | assumption | omega | fail)) (show z_D1 (s_v τ3 53 0) n1 from by (first | exact z_D1_k q1_2 ⟨⟨rfl, rfl, rfl, rfl, rfl, rfl, rfl, rfl, rfl, rfl⟩, rfl, rfl, rfl, rfl, rfl⟩ rfl (fun _ _ => rfl) | exact D125 | exact D1D | fail)) (show z_N1 (s_v τ3 53 0) n1 from by (first | exact q1_3 | exact N125 | exact N1D | fail)) (show z_N2 (s_v τ3 53 0) (-1) from by (first | exact q1_4 | exact N225 | exact N2D | fail)) (show z_BB (s_v τ3 53 0) 0 from by (first | exact fun d _ _ a b => by (exfalso; omega) | exact BBD | exact z_BB_n BB25 (fun d d0 d5 y c => by (have w := DX d d0 d5 y; omega)) | exact z_BB_n BB25 (fun d d0 d5 y c => by (have w := DX d d0 d5 y; rw [w, ← e_x29] at y; exact c30 y)) | exact z_BB_n BB25 (fun d d0 d5 y c => by (have w := DX d d0 d5 y; rw [w, ← e_x32] at c; exact c c33)) | fail)) (show z_GH (s_v τ3 53 0) 0 from by (first | exact z_GH_0 rfl | exact GHD | exact z_GH_n GH25 D125 BI25.1.2.2.2.1 (by omega) (by omega) | fail))
