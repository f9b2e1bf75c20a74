
set_option maxHeartbeats 4000000 in
theorem K_X13_takeRow {σ : S0} (hT : m_T σ) (p1 : oc (σ.2.1 6) < 4096) (p2 : j_l2 (σ.2.1 6) (σ.1 3)) : W_X13_takeRow σ (fun (x : Int) (τ : S0) => (m_T τ) ∧ (x = -1 ∨ (1 ≤ x ∧ x ≤ 60000)) ∧ (x = -1 ∨ ∀ k : Int, 0 ≤ k → k < x → k < 60 → τ.2.1 103 k < (σ.1 3))) := by
  have A6 : ∀ j, (-1) ≤ σ.2.1 6 j ∧ σ.2.1 6 j ≤ 999 := fun j => hT.2 6 j
  have A103 : ∀ j, 0 ≤ σ.2.1 103 j ∧ σ.2.1 103 j ≤ 999 := fun j => hT.2 103 j
  have v0 : 0 ≤ σ.1 0 ∧ σ.1 0 ≤ 60000 := hT.1 0
  have v3 : 0 ≤ σ.1 3 ∧ σ.1 3 ≤ 1000 := hT.1 3
  have v16 : 0 ≤ σ.1 16 ∧ σ.1 16 ≤ 60000 := hT.1 16
  have v17 : 0 ≤ σ.1 17 ∧ σ.1 17 ≤ 60000 := hT.1 17
  have v18 : 0 ≤ σ.1 18 ∧ σ.1 18 ≤ 60000 := hT.1 18
  have W0 : σ.1 0 = σ.1 0 := rfl
  have W3 : σ.1 3 = σ.1 3 := rfl
  have G6 : σ.2.1 6 = σ.2.1 6 := rfl
  intro P19 P45 P64 P79 h19 h45 h64 h79
  have Y1 : j_l2 (σ.2.1 6) (σ.1 3) := p2
  have STt : j_l2 (σ.2.1 6) (σ.1 3) := p2
  have STt_0 := STt
  have Y1_0 := Y1
  have l_79 : ∀ (u1_79 : Int) (u2_79 : Int) (u3_79 : Int) (τ_79 : S0), (m_T τ_79) → (τ_79.1 0 = σ.1 0) → (τ_79.1 3 = σ.1 3) → (τ_79.2.1 6 = σ.2.1 6) → (0 ≤ u1_79 ∧ u1_79 ≤ 60000) → (u3_79 = 0 ∨ u3_79 = 1) → (u3_79 = 0 ∨ ¬ u2_79 = 0 ∨ 1 ≤ u1_79) → (u3_79 = 0 ∨ ∀ k : Int, 0 ≤ k → k < u1_79 → k < 60 → τ_79.2.1 103 k < (σ.1 3)) → P79 u1_79 u2_79 u3_79 τ_79 := by
    intro u1_79 u2_79 u3_79 τ_79 hT W0 W3 G6 i79_1 i79_2 i79_3 i79_4
    have A6 : ∀ j, (-1) ≤ τ_79.2.1 6 j ∧ τ_79.2.1 6 j ≤ 999 := fun j => hT.2 6 j
    have A103 : ∀ j, 0 ≤ τ_79.2.1 103 j ∧ τ_79.2.1 103 j ≤ 999 := fun j => hT.2 103 j
    have v0 : 0 ≤ τ_79.1 0 ∧ τ_79.1 0 ≤ 60000 := hT.1 0
    have v3 : 0 ≤ τ_79.1 3 ∧ τ_79.1 3 ≤ 1000 := hT.1 3
    have v16 : 0 ≤ τ_79.1 16 ∧ τ_79.1 16 ≤ 60000 := hT.1 16
    have v17 : 0 ≤ τ_79.1 17 ∧ τ_79.1 17 ≤ 60000 := hT.1 17
    have v18 : 0 ≤ τ_79.1 18 ∧ τ_79.1 18 ≤ 60000 := hT.1 18
    have o6_τ_79 := congrArg oc G6
    have Y1 : j_l2 (τ_79.2.1 6) (τ_79.1 3) := by rw [show (j_l2 (τ_79.2.1 6) (τ_79.1 3)) = (j_l2 (σ.2.1 6) (σ.1 3)) from by rw [W3, G6]]; exact Y1_0
    have STt : j_l2 (τ_79.2.1 6) (τ_79.1 3) := by rw [show (j_l2 (τ_79.2.1 6) (τ_79.1 3)) = (j_l2 (σ.2.1 6) (σ.1 3)) from by rw [W3, G6]]; exact STt_0
    refine h79 u1_79 u2_79 u3_79 τ_79 ?_
    refine ⟨fun c11 => ?_, fun c11 => ?_⟩
    ·
      exact ⟨hT, (show (-1) = -1 ∨ (1 ≤ (-1) ∧ (-1) ≤ 60000) from by (first | omega | (simp only [st_s] <;> omega) | assumption | omega | fail)), (show (-1) = -1 ∨ ∀ k : Int, 0 ≤ k → k < (-1) → k < 60 → τ_79.2.1 103 k < (σ.1 3) from by (first | exact Or.inl rfl | exact Or.inr (i79_4.resolve_left (by omega)) | fail))⟩
    ·
      refine ⟨fun c12 => ?_, fun c12 => ?_⟩
      ·
        exact ⟨hT, (show (-1) = -1 ∨ (1 ≤ (-1) ∧ (-1) ≤ 60000) from by (first | omega | (simp only [st_s] <;> omega) | assumption | omega | fail)), (show (-1) = -1 ∨ ∀ k : Int, 0 ≤ k → k < (-1) → k < 60 → τ_79.2.1 103 k < (σ.1 3) from by (first | exact Or.inl rfl | exact Or.inr (i79_4.resolve_left (by omega)) | fail))⟩
      ·
        exact ⟨hT, (show u1_79 = -1 ∨ (1 ≤ u1_79 ∧ u1_79 ≤ 60000) from by (first | omega | (simp only [st_s] <;> omega) | assumption | omega | fail)), (show u1_79 = -1 ∨ ∀ k : Int, 0 ≤ k → k < u1_79 → k < 60 → τ_79.2.1 103 k < (σ.1 3) from by (first | exact Or.inl rfl | exact Or.inr (i79_4.resolve_left (by omega)) | fail))⟩
  have l_19 : ∀ (m_19 : Nat) (u1_19 : Int) (u2_19 : Int) (u3_19 : Int) (τ_19 : S0), 3 * (60001 - (τ_19.1 16)) + u2_19 + 1 < (m_19 : Int) → (m_T τ_19) → (τ_19.1 0 = σ.1 0) → (τ_19.1 3 = σ.1 3) → (τ_19.2.1 6 = σ.2.1 6) → ((τ_19.1 16) ≤ (τ_19.1 0)) → ((τ_19.1 17) + (τ_19.1 18) = (τ_19.1 16)) → (0 ≤ u1_19 ∧ u1_19 ≤ (τ_19.1 16)) → (¬ u2_19 = 1 ∨ u1_19 + 1 ≤ (τ_19.1 16)) → (-1 ≤ u2_19 ∧ u2_19 ≤ 1) → (u3_19 = 0 ∨ u3_19 = 1) → (1 ≤ u1_19 ∨ u2_19 = 1 ∨ u3_19 = 0) → (u3_19 = 0 ∨ ∀ k : Int, 0 ≤ k → k < u1_19 → k < 60 → τ_19.2.1 103 k < (σ.1 3)) → P19 u1_19 u2_19 u3_19 τ_19 := by
    intro m_19
    induction m_19 with
    | zero =>
      intro u1_19 u2_19 u3_19 τ_19 hm hT W0 W3 G6 i19_1 i19_2 i19_3 i19_4 i19_5 i19_6 i19_7 i19_8
      have A6 : ∀ j, (-1) ≤ τ_19.2.1 6 j ∧ τ_19.2.1 6 j ≤ 999 := fun j => hT.2 6 j
      have A103 : ∀ j, 0 ≤ τ_19.2.1 103 j ∧ τ_19.2.1 103 j ≤ 999 := fun j => hT.2 103 j
      have v0 : 0 ≤ τ_19.1 0 ∧ τ_19.1 0 ≤ 60000 := hT.1 0
      have v3 : 0 ≤ τ_19.1 3 ∧ τ_19.1 3 ≤ 1000 := hT.1 3
      have v16 : 0 ≤ τ_19.1 16 ∧ τ_19.1 16 ≤ 60000 := hT.1 16
      have v17 : 0 ≤ τ_19.1 17 ∧ τ_19.1 17 ≤ 60000 := hT.1 17
      have v18 : 0 ≤ τ_19.1 18 ∧ τ_19.1 18 ≤ 60000 := hT.1 18
      exfalso; (first | omega | (simp only [st_s] <;> omega) | assumption | omega | fail)
    | succ m_19 ih_19 =>
      intro u1_19 u2_19 u3_19 τ_19 hm_19 hT W0 W3 G6 i19_1 i19_2 i19_3 i19_4 i19_5 i19_6 i19_7 i19_8
      have A6 : ∀ j, (-1) ≤ τ_19.2.1 6 j ∧ τ_19.2.1 6 j ≤ 999 := fun j => hT.2 6 j
      have A103 : ∀ j, 0 ≤ τ_19.2.1 103 j ∧ τ_19.2.1 103 j ≤ 999 := fun j => hT.2 103 j
      have v0 : 0 ≤ τ_19.1 0 ∧ τ_19.1 0 ≤ 60000 := hT.1 0
      have v3 : 0 ≤ τ_19.1 3 ∧ τ_19.1 3 ≤ 1000 := hT.1 3
      have v16 : 0 ≤ τ_19.1 16 ∧ τ_19.1 16 ≤ 60000 := hT.1 16
      have v17 : 0 ≤ τ_19.1 17 ∧ τ_19.1 17 ≤ 60000 := hT.1 17
      have v18 : 0 ≤ τ_19.1 18 ∧ τ_19.1 18 ≤ 60000 := hT.1 18
      have o6_τ_19 := congrArg oc G6
      have Y1 : j_l2 (τ_19.2.1 6) (τ_19.1 3) := by rw [show (j_l2 (τ_19.2.1 6) (τ_19.1 3)) = (j_l2 (σ.2.1 6) (σ.1 3)) from by rw [W3, G6]]; exact Y1_0
      have STt : j_l2 (τ_19.2.1 6) (τ_19.1 3) := by rw [show (j_l2 (τ_19.2.1 6) (τ_19.1 3)) = (j_l2 (σ.2.1 6) (σ.1 3)) from by rw [W3, G6]]; exact STt_0
      have l_64 : ∀ (u1_64 : Int) (u3_64 : Int) (τ_64 : S0), (m_T τ_64) → (τ_64.1 0 = σ.1 0) → (τ_64.1 3 = σ.1 3) → (τ_64.2.1 6 = σ.2.1 6) → ((τ_64.1 16) ≤ (τ_64.1 0)) → ((τ_64.1 17) + (τ_64.1 18) = (τ_64.1 16)) → (0 ≤ u1_64 ∧ u1_64 + 1 ≤ (τ_64.1 16)) → (u3_64 = 0 ∨ u3_64 = 1) → (u3_64 = 0 ∨ ∀ k : Int, 0 ≤ k → k < u1_64 + 1 → k < 60 → τ_64.2.1 103 k < (σ.1 3)) → (3 * (60001 - (τ_64.1 16)) + 2 < (m_19 : Int) + 1) → P64 u1_64 u3_64 τ_64 := by
        intro u1_64 u3_64 τ_64 hT W0 W3 G6 i64_1 i64_2 i64_3 i64_4 i64_5 i64_6
        have A6 : ∀ j, (-1) ≤ τ_64.2.1 6 j ∧ τ_64.2.1 6 j ≤ 999 := fun j => hT.2 6 j
        have A103 : ∀ j, 0 ≤ τ_64.2.1 103 j ∧ τ_64.2.1 103 j ≤ 999 := fun j => hT.2 103 j
        have v0 : 0 ≤ τ_64.1 0 ∧ τ_64.1 0 ≤ 60000 := hT.1 0
        have v3 : 0 ≤ τ_64.1 3 ∧ τ_64.1 3 ≤ 1000 := hT.1 3
        have v16 : 0 ≤ τ_64.1 16 ∧ τ_64.1 16 ≤ 60000 := hT.1 16
        have v17 : 0 ≤ τ_64.1 17 ∧ τ_64.1 17 ≤ 60000 := hT.1 17
        have v18 : 0 ≤ τ_64.1 18 ∧ τ_64.1 18 ≤ 60000 := hT.1 18
        have o6_τ_64 := congrArg oc G6
        have Y1 : j_l2 (τ_64.2.1 6) (τ_64.1 3) := by rw [show (j_l2 (τ_64.2.1 6) (τ_64.1 3)) = (j_l2 (σ.2.1 6) (σ.1 3)) from by rw [W3, G6]]; exact Y1_0
        have STt : j_l2 (τ_64.2.1 6) (τ_64.1 3) := by rw [show (j_l2 (τ_64.2.1 6) (τ_64.1 3)) = (j_l2 (σ.2.1 6) (σ.1 3)) from by rw [W3, G6]]; exact STt_0
        refine h64 u1_64 u3_64 τ_64 ?_
        refine ⟨_, K_X13_rowFrom hT (show 0 ≤ (τ_64.1 16) from by (first | omega | (simp only [st_s] <;> omega) | assumption | omega | fail)) (show (τ_64.1 16) ≤ (τ_64.1 0) from by (first | omega | (simp only [st_s] <;> omega) | assumption | omega | fail)), ?_⟩
        intro x17 τ18 r_x17 hn_τ18 hf_τ18 hq
        obtain ⟨hT, q16_1, q16_2, q16_3, q16_4, q16_5⟩ := hq
        replace q16_1 : -1 ≤ x17 ∧ x17 ≤ 1 := q16_1
        replace q16_2 : (τ18.1 16) ≤ (τ18.1 0) := q16_2
        replace q16_3 : (τ18.1 17) + (τ18.1 18) = (τ18.1 16) := q16_3
        replace q16_4 : (τ_64.1 16) ≤ (τ18.1 17) := q16_4
        replace q16_5 : x17 = 1 → 0 < (τ18.1 18) := q16_5
        have w0_τ18 : τ18.1 0 = τ_64.1 0 := hf_τ18.1 0 (by decide)
        have w3_τ18 : τ18.1 3 = τ_64.1 3 := hf_τ18.1 3 (by decide)
        have g6_τ18 : τ18.2.1 6 = τ_64.2.1 6 := hf_τ18.2.1 6 (by decide)
        have g103_τ18 : τ18.2.1 103 = τ_64.2.1 103 := hf_τ18.2.1 103 (by decide)
        first | (have o6_τ18 := congrArg oc g6_τ18) | skip
        have W0 : τ18.1 0 = σ.1 0 := by first | exact w0_τ18.trans W0 | omega
        have W3 : τ18.1 3 = σ.1 3 := by first | exact w3_τ18.trans W3 | omega
        have G6 : τ18.2.1 6 = σ.2.1 6 := (g6_τ18).trans G6
        have Y1 : j_l2 (τ18.2.1 6) (τ18.1 3) := by rw [show (j_l2 (τ18.2.1 6) (τ18.1 3)) = (j_l2 (τ_64.2.1 6) (τ_64.1 3)) from by rw [w3_τ18, g6_τ18]]; exact Y1
        have STt : j_l2 (τ18.2.1 6) (τ18.1 3) := by rw [show (j_l2 (τ18.2.1 6) (τ18.1 3)) = (j_l2 (τ_64.2.1 6) (τ_64.1 3)) from by rw [w3_τ18, g6_τ18]]; exact STt
        have A6 : ∀ j, (-1) ≤ τ18.2.1 6 j ∧ τ18.2.1 6 j ≤ 999 := fun j => hT.2 6 j
        have A103 : ∀ j, 0 ≤ τ18.2.1 103 j ∧ τ18.2.1 103 j ≤ 999 := fun j => hT.2 103 j
        have v0 : 0 ≤ τ18.1 0 ∧ τ18.1 0 ≤ 60000 := hT.1 0
        have v3 : 0 ≤ τ18.1 3 ∧ τ18.1 3 ≤ 1000 := hT.1 3
        have v16 : 0 ≤ τ18.1 16 ∧ τ18.1 16 ≤ 60000 := hT.1 16
        have v17 : 0 ≤ τ18.1 17 ∧ τ18.1 17 ≤ 60000 := hT.1 17
        have v18 : 0 ≤ τ18.1 18 ∧ τ18.1 18 ≤ 60000 := hT.1 18
        have r18 : ¬ x17 = 1 ∨ 0 < τ18.1 18 := (Classical.em (x17 = 1)).elim (fun z => Or.inr (q16_5 z)) Or.inl
        refine ⟨(⟨by (first | omega | (simp only [st_s] <;> omega) | assumption | omega | fail), by (first | omega | (simp only [st_s] <;> omega) | assumption | omega | fail)⟩ : rg (u1_64 + 1)), ?_⟩
        exact ih_19 _ _ _ _ (show (3 * (60001 - (τ18.1 16)) + x17 + 1 : Int) < ((m_19 : Nat) : Int) from by ((first | omega | (simp only [st_s] <;> omega) | assumption | omega | fail))) hT (show τ18.1 0 = σ.1 0 from by first | exact W0 | omega) (show τ18.1 3 = σ.1 3 from by first | exact W3 | omega) G6 (show (τ18.1 16) ≤ (τ18.1 0) from by (first | omega | (simp only [st_s] <;> omega) | assumption | omega | fail)) (show (τ18.1 17) + (τ18.1 18) = (τ18.1 16) from by (first | omega | (simp only [st_s] <;> omega) | assumption | omega | fail)) (show 0 ≤ (u1_64 + 1) ∧ (u1_64 + 1) ≤ (τ18.1 16) from by (first | omega | (simp only [st_s] <;> omega) | assumption | omega | fail)) (show ¬ x17 = 1 ∨ (u1_64 + 1) + 1 ≤ (τ18.1 16) from by (first | omega | (simp only [st_s] <;> omega) | assumption | omega | fail)) (show -1 ≤ x17 ∧ x17 ≤ 1 from by (first | omega | (simp only [st_s] <;> omega) | assumption | omega | fail)) (show u3_64 = 0 ∨ u3_64 = 1 from by (first | omega | (simp only [st_s] <;> omega) | assumption | omega | fail)) (show 1 ≤ (u1_64 + 1) ∨ x17 = 1 ∨ u3_64 = 0 from by (first | omega | (simp only [st_s] <;> omega) | assumption | omega | fail)) (show u3_64 = 0 ∨ ∀ k : Int, 0 ≤ k → k < (u1_64 + 1) → k < 60 → τ18.2.1 103 k < (σ.1 3) from by (first | exact Or.inl rfl | (exact Or.inr (fun k a b => by exfalso; omega)) | (rw [g103_τ18]; exact i64_5) | fail))
      have l_45 : ∀ (u1_45 : Int) (u4_45 : Int) (k0_45 : Int) (τ_45 : S0), (m_T τ_45) → (τ_45.1 0 = σ.1 0) → (τ_45.1 3 = σ.1 3) → (τ_45.2.1 6 = σ.2.1 6) → ((τ_45.1 16) ≤ (τ_45.1 0)) → ((τ_45.1 17) + (τ_45.1 18) = (τ_45.1 16)) → (0 ≤ u1_45 ∧ u1_45 + 1 ≤ (τ_45.1 16)) → ((u4_45 = -1 ∧ k0_45 = 0) ∨ (k0_45 = 1 ∧ 0 ≤ u4_45 ∧ u4_45 < (σ.1 3))) → (∀ k : Int, 0 ≤ k → k < u1_45 → k < 60 → τ_45.2.1 103 k < (σ.1 3)) → (3 * (60001 - (τ_45.1 16)) + 2 < (m_19 : Int) + 1) → P45 u1_45 u4_45 k0_45 τ_45 := by
        intro u1_45 u4_45 k0_45 τ_45 hT W0 W3 G6 i45_1 i45_2 i45_3 i45_4 i45_5 i45_6
        have A6 : ∀ j, (-1) ≤ τ_45.2.1 6 j ∧ τ_45.2.1 6 j ≤ 999 := fun j => hT.2 6 j
        have A103 : ∀ j, 0 ≤ τ_45.2.1 103 j ∧ τ_45.2.1 103 j ≤ 999 := fun j => hT.2 103 j
        have v0 : 0 ≤ τ_45.1 0 ∧ τ_45.1 0 ≤ 60000 := hT.1 0
        have v3 : 0 ≤ τ_45.1 3 ∧ τ_45.1 3 ≤ 1000 := hT.1 3
        have v16 : 0 ≤ τ_45.1 16 ∧ τ_45.1 16 ≤ 60000 := hT.1 16
        have v17 : 0 ≤ τ_45.1 17 ∧ τ_45.1 17 ≤ 60000 := hT.1 17
        have v18 : 0 ≤ τ_45.1 18 ∧ τ_45.1 18 ≤ 60000 := hT.1 18
        have o6_τ_45 := congrArg oc G6
        have Y1 : j_l2 (τ_45.2.1 6) (τ_45.1 3) := by rw [show (j_l2 (τ_45.2.1 6) (τ_45.1 3)) = (j_l2 (σ.2.1 6) (σ.1 3)) from by rw [W3, G6]]; exact Y1_0
        have STt : j_l2 (τ_45.2.1 6) (τ_45.1 3) := by rw [show (j_l2 (τ_45.2.1 6) (τ_45.1 3)) = (j_l2 (σ.2.1 6) (σ.1 3)) from by rw [W3, G6]]; exact STt_0
        refine h45 u1_45 u4_45 k0_45 τ_45 ?_
        refine ⟨fun c13 => ?_, fun c13 => ?_⟩
        ·
          exact l_64 _ _ _ hT (show τ_45.1 0 = σ.1 0 from by first | exact W0 | omega) (show τ_45.1 3 = σ.1 3 from by first | exact W3 | omega) G6 (show (τ_45.1 16) ≤ (τ_45.1 0) from by (first | omega | (simp only [st_s] <;> omega) | assumption | omega | fail)) (show (τ_45.1 17) + (τ_45.1 18) = (τ_45.1 16) from by (first | omega | (simp only [st_s] <;> omega) | assumption | omega | fail)) (show 0 ≤ u1_45 ∧ u1_45 + 1 ≤ (τ_45.1 16) from by (first | omega | (simp only [st_s] <;> omega) | assumption | omega | fail)) (show k0_45 = 0 ∨ k0_45 = 1 from by (first | omega | (simp only [st_s] <;> omega) | assumption | omega | fail)) (show k0_45 = 0 ∨ ∀ k : Int, 0 ≤ k → k < u1_45 + 1 → k < 60 → τ_45.2.1 103 k < (σ.1 3) from by (first | (have q9 := i45_4; rcases q9 with z | z; (exact Or.inl z.2); (refine Or.inr (fun k a b c => ?_); first | (exfalso; omega) | (rcases (by omega : k < u1_45 ∨ k = u1_45) with y | y; (rw [st_n _ _ (by omega)]; exact i45_5 k a y c); (rw [y, st_s]; exact z.2.2)) | (exact i45_5 k a (by omega) c))) | fail)) (show 3 * (60001 - (τ_45.1 16)) + 2 < (m_19 : Int) + 1 from by (first | omega | (simp only [st_s] <;> omega) | assumption | omega | fail))
        ·
          refine ⟨fun c14 => ?_, fun c14 => ?_⟩
          ·
            exact l_64 _ _ _ hT (show τ_45.1 0 = σ.1 0 from by first | exact W0 | omega) (show τ_45.1 3 = σ.1 3 from by first | exact W3 | omega) G6 (show (τ_45.1 16) ≤ (τ_45.1 0) from by (first | omega | (simp only [st_s] <;> omega) | assumption | omega | fail)) (show (τ_45.1 17) + (τ_45.1 18) = (τ_45.1 16) from by (first | omega | (simp only [st_s] <;> omega) | assumption | omega | fail)) (show 0 ≤ u1_45 ∧ u1_45 + 1 ≤ (τ_45.1 16) from by (first | omega | (simp only [st_s] <;> omega) | assumption | omega | fail)) (show k0_45 = 0 ∨ k0_45 = 1 from by (first | omega | (simp only [st_s] <;> omega) | assumption | omega | fail)) (show k0_45 = 0 ∨ ∀ k : Int, 0 ≤ k → k < u1_45 + 1 → k < 60 → τ_45.2.1 103 k < (σ.1 3) from by (first | (have q9 := i45_4; rcases q9 with z | z; (exact Or.inl z.2); (refine Or.inr (fun k a b c => ?_); first | (exfalso; omega) | (rcases (by omega : k < u1_45 ∨ k = u1_45) with y | y; (rw [st_n _ _ (by omega)]; exact i45_5 k a y c); (rw [y, st_s]; exact z.2.2)) | (exact i45_5 k a (by omega) c))) | fail)) (show 3 * (60001 - (τ_45.1 16)) + 2 < (m_19 : Int) + 1 from by (first | omega | (simp only [st_s] <;> omega) | assumption | omega | fail))
          ·
            refine ⟨(show 0 ≤ u1_45 ∧ u1_45 < 64 from by (first | omega | (simp only [st_s] <;> omega) | assumption | omega | fail)), ?_⟩
            replace hT := mT_a (k := 103) (j := u1_45) hT (show (0 : Int) ≤ u4_45 ∧ u4_45 ≤ 999 from by (first | omega | (simp only [st_s] <;> omega) | assumption | omega | fail))
            exact l_64 _ _ _ hT (show τ_45.1 0 = σ.1 0 from by first | exact W0 | omega) (show τ_45.1 3 = σ.1 3 from by first | exact W3 | omega) G6 (show (τ_45.1 16) ≤ (τ_45.1 0) from by (first | omega | (simp only [st_s] <;> omega) | assumption | omega | fail)) (show (τ_45.1 17) + (τ_45.1 18) = (τ_45.1 16) from by (first | omega | (simp only [st_s] <;> omega) | assumption | omega | fail)) (show 0 ≤ u1_45 ∧ u1_45 + 1 ≤ (τ_45.1 16) from by (first | omega | (simp only [st_s] <;> omega) | assumption | omega | fail)) (show k0_45 = 0 ∨ k0_45 = 1 from by (first | omega | (simp only [st_s] <;> omega) | assumption | omega | fail)) (show k0_45 = 0 ∨ ∀ k : Int, 0 ≤ k → k < u1_45 + 1 → k < 60 → (st (τ_45.2.1 103) u1_45 u4_45) k < (σ.1 3) from by (first | (have q9 := i45_4; rcases q9 with z | z; (exact Or.inl z.2); (refine Or.inr (fun k a b c => ?_); first | (exfalso; omega) | (rcases (by omega : k < u1_45 ∨ k = u1_45) with y | y; (rw [st_n _ _ (by omega)]; exact i45_5 k a y c); (rw [y, st_s]; exact z.2.2)) | (exact i45_5 k a (by omega) c))) | fail)) (show 3 * (60001 - (τ_45.1 16)) + 2 < (m_19 : Int) + 1 from by (first | omega | (simp only [st_s] <;> omega) | assumption | omega | fail))
      refine h19 u1_19 u2_19 u3_19 τ_19 ?_
      refine ⟨fun c5 => ?_, fun c5 => ?_⟩
      ·
        exact l_79 _ _ _ _ hT (show τ_19.1 0 = σ.1 0 from by first | exact W0 | omega) (show τ_19.1 3 = σ.1 3 from by first | exact W3 | omega) G6 (show 0 ≤ u1_19 ∧ u1_19 ≤ 60000 from by (first | omega | (simp only [st_s] <;> omega) | assumption | omega | fail)) (show u3_19 = 0 ∨ u3_19 = 1 from by (first | omega | (simp only [st_s] <;> omega) | assumption | omega | fail)) (show u3_19 = 0 ∨ ¬ u2_19 = 0 ∨ 1 ≤ u1_19 from by (first | omega | (simp only [st_s] <;> omega) | assumption | omega | fail)) (show u3_19 = 0 ∨ ∀ k : Int, 0 ≤ k → k < u1_19 → k < 60 → τ_19.2.1 103 k < (σ.1 3) from by exact i19_8)
      ·
        refine ⟨fun c6 => ?_, fun c6 => ?_⟩
        ·
          exact l_79 _ _ _ _ hT (show τ_19.1 0 = σ.1 0 from by first | exact W0 | omega) (show τ_19.1 3 = σ.1 3 from by first | exact W3 | omega) G6 (show 0 ≤ u1_19 ∧ u1_19 ≤ 60000 from by (first | omega | (simp only [st_s] <;> omega) | assumption | omega | fail)) (show u3_19 = 0 ∨ u3_19 = 1 from by (first | omega | (simp only [st_s] <;> omega) | assumption | omega | fail)) (show u3_19 = 0 ∨ ¬ u2_19 = 0 ∨ 1 ≤ u1_19 from by (first | omega | (simp only [st_s] <;> omega) | assumption | omega | fail)) (show u3_19 = 0 ∨ ∀ k : Int, 0 ≤ k → k < u1_19 → k < 60 → τ_19.2.1 103 k < (σ.1 3) from by exact i19_8)
        ·
          refine ⟨_, K_X13_symbolHere hT (show (τ_19.1 17) + (τ_19.1 18) ≤ 60000 from by (first | omega | (simp only [st_s] <;> omega) | assumption | omega | fail)) (show oc (τ_19.2.1 6) < 4096 from by (rw [G6]; exact p1)), ?_⟩
          intro x8 r_x8 hq
          obtain ⟨q7_1, q7_2⟩ := hq
          replace q7_1 : -1 ≤ x8 ∧ x8 ≤ 999 := q7_1
          replace q7_2 : x8 = -1 ∨ ∃ e : Int, (0 ≤ e ∧ e < 4096) ∧ x8 = τ_19.2.1 6 e := q7_2
          have x8lt : x8 = -1 ∨ (0 ≤ x8 ∧ x8 < σ.1 3) := (by rcases q7_2 with z | ⟨e, e1, e2⟩; (exact Or.inl z); (have w := p2 e e1.1 e1.2; rw [G6] at e2; rw [← e2] at w; by_cases y : x8 = -1; (exact Or.inl y); (exact Or.inr ⟨by omega, w⟩)))
          refine ⟨fun c10 => ?_, fun c10 => ?_⟩
          ·
            exact l_45 _ _ _ _ hT (show τ_19.1 0 = σ.1 0 from by first | exact W0 | omega) (show τ_19.1 3 = σ.1 3 from by first | exact W3 | omega) G6 (show (τ_19.1 16) ≤ (τ_19.1 0) from by (first | omega | (simp only [st_s] <;> omega) | assumption | omega | fail)) (show (τ_19.1 17) + (τ_19.1 18) = (τ_19.1 16) from by (first | omega | (simp only [st_s] <;> omega) | assumption | omega | fail)) (show 0 ≤ u1_19 ∧ u1_19 + 1 ≤ (τ_19.1 16) from by (first | omega | (simp only [st_s] <;> omega) | assumption | omega | fail)) (show (x8 = -1 ∧ 0 = 0) ∨ (0 = 1 ∧ 0 ≤ x8 ∧ x8 < (σ.1 3)) from by (first | omega | (simp only [st_s] <;> omega) | assumption | omega | fail)) (show ∀ k : Int, 0 ≤ k → k < u1_19 → k < 60 → τ_19.2.1 103 k < (σ.1 3) from by exact i19_8.resolve_left (by omega)) (show 3 * (60001 - (τ_19.1 16)) + 2 < (m_19 : Int) + 1 from by (first | omega | (simp only [st_s] <;> omega) | assumption | omega | fail))
          ·
            exact l_45 _ _ _ _ hT (show τ_19.1 0 = σ.1 0 from by first | exact W0 | omega) (show τ_19.1 3 = σ.1 3 from by first | exact W3 | omega) G6 (show (τ_19.1 16) ≤ (τ_19.1 0) from by (first | omega | (simp only [st_s] <;> omega) | assumption | omega | fail)) (show (τ_19.1 17) + (τ_19.1 18) = (τ_19.1 16) from by (first | omega | (simp only [st_s] <;> omega) | assumption | omega | fail)) (show 0 ≤ u1_19 ∧ u1_19 + 1 ≤ (τ_19.1 16) from by (first | omega | (simp only [st_s] <;> omega) | assumption | omega | fail)) (show (x8 = -1 ∧ 1 = 0) ∨ (1 = 1 ∧ 0 ≤ x8 ∧ x8 < (σ.1 3)) from by (first | omega | (simp only [st_s] <;> omega) | assumption | omega | fail)) (show ∀ k : Int, 0 ≤ k → k < u1_19 → k < 60 → τ_19.2.1 103 k < (σ.1 3) from by exact i19_8.resolve_left (by omega)) (show 3 * (60001 - (τ_19.1 16)) + 2 < (m_19 : Int) + 1 from by (first | omega | (simp only [st_s] <;> omega) | assumption | omega | fail))
  refine ⟨_, K_X13_rowFrom hT (show 0 ≤ (0 : Int) from by (first | omega | (simp only [st_s] <;> omega) | assumption | omega | fail)) (show (0 : Int) ≤ (σ.1 0) from by (first | omega | (simp only [st_s] <;> omega) | assumption | omega | fail)), ?_⟩
  intro x2 τ3 r_x2 hn_τ3 hf_τ3 hq
  obtain ⟨hT, q1_1, q1_2, q1_3, q1_4, q1_5⟩ := hq
  replace q1_1 : -1 ≤ x2 ∧ x2 ≤ 1 := q1_1
  replace q1_2 : (τ3.1 16) ≤ (τ3.1 0) := q1_2
  replace q1_3 : (τ3.1 17) + (τ3.1 18) = (τ3.1 16) := q1_3
  replace q1_4 : (0 : Int) ≤ (τ3.1 17) := q1_4
  replace q1_5 : x2 = 1 → 0 < (τ3.1 18) := q1_5
  have w0_τ3 : τ3.1 0 = σ.1 0 := hf_τ3.1 0 (by decide)
  have w3_τ3 : τ3.1 3 = σ.1 3 := hf_τ3.1 3 (by decide)
  have g6_τ3 : τ3.2.1 6 = σ.2.1 6 := hf_τ3.2.1 6 (by decide)
  have g103_τ3 : τ3.2.1 103 = σ.2.1 103 := hf_τ3.2.1 103 (by decide)
  first | (have o6_τ3 := congrArg oc g6_τ3) | skip
  have W0 : τ3.1 0 = σ.1 0 := by first | exact w0_τ3.trans W0 | omega
  have W3 : τ3.1 3 = σ.1 3 := by first | exact w3_τ3.trans W3 | omega
  have G6 : τ3.2.1 6 = σ.2.1 6 := (g6_τ3).trans G6
  have Y1 : j_l2 (τ3.2.1 6) (τ3.1 3) := by rw [show (j_l2 (τ3.2.1 6) (τ3.1 3)) = (j_l2 (σ.2.1 6) (σ.1 3)) from by rw [w3_τ3, g6_τ3]]; exact Y1
  have STt : j_l2 (τ3.2.1 6) (τ3.1 3) := by rw [show (j_l2 (τ3.2.1 6) (τ3.1 3)) = (j_l2 (σ.2.1 6) (σ.1 3)) from by rw [w3_τ3, g6_τ3]]; exact STt
  have A6 : ∀ j, (-1) ≤ τ3.2.1 6 j ∧ τ3.2.1 6 j ≤ 999 := fun j => hT.2 6 j
  have A103 : ∀ j, 0 ≤ τ3.2.1 103 j ∧ τ3.2.1 103 j ≤ 999 := fun j => hT.2 103 j
  have v0 : 0 ≤ τ3.1 0 ∧ τ3.1 0 ≤ 60000 := hT.1 0
  have v3 : 0 ≤ τ3.1 3 ∧ τ3.1 3 ≤ 1000 := hT.1 3
  have v16 : 0 ≤ τ3.1 16 ∧ τ3.1 16 ≤ 60000 := hT.1 16
  have v17 : 0 ≤ τ3.1 17 ∧ τ3.1 17 ≤ 60000 := hT.1 17
  have v18 : 0 ≤ τ3.1 18 ∧ τ3.1 18 ≤ 60000 := hT.1 18
  have r3 : ¬ x2 = 1 ∨ 0 < τ3.1 18 := (Classical.em (x2 = 1)).elim (fun z => Or.inr (q1_5 z)) Or.inl
  refine ⟨fun c4 => ?_, fun c4 => ?_⟩
  ·
    exact l_19 ((3 * (60001 - (τ3.1 16)) + x2 + 1 : Int).toNat + 1) _ _ _ _ (show (3 * (60001 - (τ3.1 16)) + x2 + 1 : Int) < (((3 * (60001 - (τ3.1 16)) + x2 + 1 : Int).toNat + 1 : Nat) : Int) from by ((first | omega | (simp only [st_s] <;> omega) | assumption | omega | fail))) hT (show τ3.1 0 = σ.1 0 from by first | exact W0 | omega) (show τ3.1 3 = σ.1 3 from by first | exact W3 | omega) G6 (show (τ3.1 16) ≤ (τ3.1 0) from by (first | omega | (simp only [st_s] <;> omega) | assumption | omega | fail)) (show (τ3.1 17) + (τ3.1 18) = (τ3.1 16) from by (first | omega | (simp only [st_s] <;> omega) | assumption | omega | fail)) (show 0 ≤ 0 ∧ 0 ≤ (τ3.1 16) from by (first | omega | (simp only [st_s] <;> omega) | assumption | omega | fail)) (show ¬ x2 = 1 ∨ 0 + 1 ≤ (τ3.1 16) from by (first | omega | (simp only [st_s] <;> omega) | assumption | omega | fail)) (show -1 ≤ x2 ∧ x2 ≤ 1 from by (first | omega | (simp only [st_s] <;> omega) | assumption | omega | fail)) (show 0 = 0 ∨ 0 = 1 from by (first | omega | (simp only [st_s] <;> omega) | assumption | omega | fail)) (show 1 ≤ 0 ∨ x2 = 1 ∨ 0 = 0 from by (first | omega | (simp only [st_s] <;> omega) | assumption | omega | fail)) (show 0 = 0 ∨ ∀ k : Int, 0 ≤ k → k < 0 → k < 60 → τ3.2.1 103 k < (σ.1 3) from by (first | exact Or.inl rfl | (exact Or.inr (fun k a b => by exfalso; omega)) | (rw [g103_τ18]; exact i64_5) | fail))
  ·
    exact l_19 ((3 * (60001 - (τ3.1 16)) + x2 + 1 : Int).toNat + 1) _ _ _ _ (show (3 * (60001 - (τ3.1 16)) + x2 + 1 : Int) < (((3 * (60001 - (τ3.1 16)) + x2 + 1 : Int).toNat + 1 : Nat) : Int) from by ((first | omega | (simp only [st_s] <;> omega) | assumption | omega | fail))) hT (show τ3.1 0 = σ.1 0 from by first | exact W0 | omega) (show τ3.1 3 = σ.1 3 from by first | exact W3 | omega) G6 (show (τ3.1 16) ≤ (τ3.1 0) from by (first | omega | (simp only [st_s] <;> omega) | assumption | omega | fail)) (show (τ3.1 17) + (τ3.1 18) = (τ3.1 16) from by (first | omega | (simp only [st_s] <;> omega) | assumption | omega | fail)) (show 0 ≤ 0 ∧ 0 ≤ (τ3.1 16) from by (first | omega | (simp only [st_s] <;> omega) | assumption | omega | fail)) (show ¬ x2 = 1 ∨ 0 + 1 ≤ (τ3.1 16) from by (first | omega | (simp only [st_s] <;> omega) | assumption | omega | fail)) (show -1 ≤ x2 ∧ x2 ≤ 1 from by (first | omega | (simp only [st_s] <;> omega) | assumption | omega | fail)) (show 1 = 0 ∨ 1 = 1 from by (first | omega | (simp only [st_s] <;> omega) | assumption | omega | fail)) (show 1 ≤ 0 ∨ x2 = 1 ∨ 1 = 0 from by (first | omega | (simp only [st_s] <;> omega) | assumption | omega | fail)) (show 1 = 0 ∨ ∀ k : Int, 0 ≤ k → k < 0 → k < 60 → τ3.2.1 103 k < (σ.1 3) from by (first | exact Or.inl rfl | (exact Or.inr (fun k a b => by exfalso; omega)) | (rw [g103_τ18]; exact i64_5) | fail))
set_option maxHeartbeats 2000000 in
theorem K_X13_tellHyps {n1 : Int} {σ : S0} (hT : m_T σ) (p1 : 0 ≤ n1) (p2 : n1 < 1500) : W_X13_tellHyps n1 σ (fun (x : Int) (τ : S0) => (m_T τ)) := by
  have A14 : ∀ j, 0 ≤ σ.2.1 14 j ∧ σ.2.1 14 j ≤ 30000 := fun j => hT.2 14 j
  have A15 : ∀ j, 0 ≤ σ.2.1 15 j ∧ σ.2.1 15 j ≤ 300 := fun j => hT.2 15 j
  have A18 : ∀ j, 0 ≤ σ.2.1 18 j ∧ σ.2.1 18 j ≤ 90000 := fun j => hT.2 18 j
  have A19 : ∀ j, 0 ≤ σ.2.1 19 j ∧ σ.2.1 19 j ≤ 60 := fun j => hT.2 19 j
  have A20 : ∀ j, 0 ≤ σ.2.1 20 j ∧ σ.2.1 20 j ≤ 1499 := fun j => hT.2 20 j
  have A103 : ∀ j, 0 ≤ σ.2.1 103 j ∧ σ.2.1 103 j ≤ 999 := fun j => hT.2 103 j
  have A104 : ∀ j, (-1) ≤ σ.2.1 104 j ∧ σ.2.1 104 j ≤ 59 := fun j => hT.2 104 j
  have A105 : ∀ j, 0 ≤ σ.2.1 105 j ∧ σ.2.1 105 j ≤ 59 := fun j => hT.2 105 j
  have G14 : σ.2.1 14 = σ.2.1 14 := rfl
  have G15 : σ.2.1 15 = σ.2.1 15 := rfl
  have G18 : σ.2.1 18 = σ.2.1 18 := rfl
  have G19 : σ.2.1 19 = σ.2.1 19 := rfl
  have G20 : σ.2.1 20 = σ.2.1 20 := rfl
  have G103 : σ.2.1 103 = σ.2.1 103 := rfl
  have G104 : σ.2.1 104 = σ.2.1 104 := rfl
  have G105 : σ.2.1 105 = σ.2.1 105 := rfl
  intro P14 P78 P148 h14 h78 h148
  have a18 := A18 n1
  have a19 := A19 n1
  have l_14 : ∀ (m_14 : Nat) (u2_14 : Int) (u3_14 : Int) (τ_14 : S0), σ.2.1 18 n1 + σ.2.1 19 n1 - u3_14 + 1 < (m_14 : Int) → (m_T τ_14) → (τ_14.2.1 14 = σ.2.1 14) → (τ_14.2.1 15 = σ.2.1 15) → (τ_14.2.1 18 = σ.2.1 18) → (τ_14.2.1 19 = σ.2.1 19) → (τ_14.2.1 20 = σ.2.1 20) → (τ_14.2.1 103 = σ.2.1 103) → (τ_14.2.1 104 = σ.2.1 104) → (τ_14.2.1 105 = σ.2.1 105) → (0 ≤ u2_14 ∧ u2_14 ≤ u3_14) → (σ.2.1 18 n1 ≤ u3_14 ∧ u3_14 ≤ σ.2.1 18 n1 + σ.2.1 19 n1) → P14 n1 u2_14 u3_14 τ_14 := by
    intro m_14
    induction m_14 with
    | zero =>
      intro u2_14 u3_14 τ_14 hm hT G14 G15 G18 G19 G20 G103 G104 G105 i14_1 i14_2
      have A14 : ∀ j, 0 ≤ τ_14.2.1 14 j ∧ τ_14.2.1 14 j ≤ 30000 := fun j => hT.2 14 j
      have A15 : ∀ j, 0 ≤ τ_14.2.1 15 j ∧ τ_14.2.1 15 j ≤ 300 := fun j => hT.2 15 j
      have A18 : ∀ j, 0 ≤ τ_14.2.1 18 j ∧ τ_14.2.1 18 j ≤ 90000 := fun j => hT.2 18 j
      have A19 : ∀ j, 0 ≤ τ_14.2.1 19 j ∧ τ_14.2.1 19 j ≤ 60 := fun j => hT.2 19 j
      have A20 : ∀ j, 0 ≤ τ_14.2.1 20 j ∧ τ_14.2.1 20 j ≤ 1499 := fun j => hT.2 20 j
      have A103 : ∀ j, 0 ≤ τ_14.2.1 103 j ∧ τ_14.2.1 103 j ≤ 999 := fun j => hT.2 103 j
      have A104 : ∀ j, (-1) ≤ τ_14.2.1 104 j ∧ τ_14.2.1 104 j ≤ 59 := fun j => hT.2 104 j
      have A105 : ∀ j, 0 ≤ τ_14.2.1 105 j ∧ τ_14.2.1 105 j ≤ 59 := fun j => hT.2 105 j
      exfalso; (first | omega | (simp only [st_s] <;> omega) | assumption | omega | fail)
    | succ m_14 ih_14 =>
      intro u2_14 u3_14 τ_14 hm_14 hT G14 G15 G18 G19 G20 G103 G104 G105 i14_1 i14_2
      have A14 : ∀ j, 0 ≤ τ_14.2.1 14 j ∧ τ_14.2.1 14 j ≤ 30000 := fun j => hT.2 14 j
      have A15 : ∀ j, 0 ≤ τ_14.2.1 15 j ∧ τ_14.2.1 15 j ≤ 300 := fun j => hT.2 15 j
      have A18 : ∀ j, 0 ≤ τ_14.2.1 18 j ∧ τ_14.2.1 18 j ≤ 90000 := fun j => hT.2 18 j
      have A19 : ∀ j, 0 ≤ τ_14.2.1 19 j ∧ τ_14.2.1 19 j ≤ 60 := fun j => hT.2 19 j
      have A20 : ∀ j, 0 ≤ τ_14.2.1 20 j ∧ τ_14.2.1 20 j ≤ 1499 := fun j => hT.2 20 j
      have A103 : ∀ j, 0 ≤ τ_14.2.1 103 j ∧ τ_14.2.1 103 j ≤ 999 := fun j => hT.2 103 j
      have A104 : ∀ j, (-1) ≤ τ_14.2.1 104 j ∧ τ_14.2.1 104 j ≤ 59 := fun j => hT.2 104 j
      have A105 : ∀ j, 0 ≤ τ_14.2.1 105 j ∧ τ_14.2.1 105 j ≤ 59 := fun j => hT.2 105 j
      have l_78 : ∀ (m_78 : Nat) (u2_78 : Int) (u3_78 : Int) (u4_78 : Int) (u5_78 : Int) (τ_78 : S0), σ.2.1 14 u4_78 + σ.2.1 15 u4_78 - u5_78 + 1 < (m_78 : Int) → (m_T τ_78) → (τ_78.2.1 14 = σ.2.1 14) → (τ_78.2.1 15 = σ.2.1 15) → (τ_78.2.1 18 = σ.2.1 18) → (τ_78.2.1 19 = σ.2.1 19) → (τ_78.2.1 20 = σ.2.1 20) → (τ_78.2.1 103 = σ.2.1 103) → (τ_78.2.1 104 = σ.2.1 104) → (τ_78.2.1 105 = σ.2.1 105) → (0 ≤ u2_78 ∧ u2_78 ≤ u3_78 + 1) → (σ.2.1 18 n1 ≤ u3_78 ∧ u3_78 < σ.2.1 18 n1 + σ.2.1 19 n1) → (0 ≤ u4_78 ∧ u4_78 < 1500) → (σ.2.1 14 u4_78 ≤ u5_78 ∧ u5_78 ≤ σ.2.1 14 u4_78 + σ.2.1 15 u4_78) → (σ.2.1 18 n1 + σ.2.1 19 n1 - u3_78 + 1 < (m_14 : Int) + 1) → P78 n1 u2_78 u3_78 u4_78 u5_78 τ_78 := by
        intro m_78
        induction m_78 with
        | zero =>
          intro u2_78 u3_78 u4_78 u5_78 τ_78 hm hT G14 G15 G18 G19 G20 G103 G104 G105 i78_1 i78_2 i78_3 i78_4 i78_5
          have A14 : ∀ j, 0 ≤ τ_78.2.1 14 j ∧ τ_78.2.1 14 j ≤ 30000 := fun j => hT.2 14 j
          have A15 : ∀ j, 0 ≤ τ_78.2.1 15 j ∧ τ_78.2.1 15 j ≤ 300 := fun j => hT.2 15 j
          have A18 : ∀ j, 0 ≤ τ_78.2.1 18 j ∧ τ_78.2.1 18 j ≤ 90000 := fun j => hT.2 18 j
          have A19 : ∀ j, 0 ≤ τ_78.2.1 19 j ∧ τ_78.2.1 19 j ≤ 60 := fun j => hT.2 19 j
          have A20 : ∀ j, 0 ≤ τ_78.2.1 20 j ∧ τ_78.2.1 20 j ≤ 1499 := fun j => hT.2 20 j
          have A103 : ∀ j, 0 ≤ τ_78.2.1 103 j ∧ τ_78.2.1 103 j ≤ 999 := fun j => hT.2 103 j
          have A104 : ∀ j, (-1) ≤ τ_78.2.1 104 j ∧ τ_78.2.1 104 j ≤ 59 := fun j => hT.2 104 j
          have A105 : ∀ j, 0 ≤ τ_78.2.1 105 j ∧ τ_78.2.1 105 j ≤ 59 := fun j => hT.2 105 j
          exfalso; (first | omega | (simp only [st_s] <;> omega) | assumption | omega | fail)
        | succ m_78 ih_78 =>
          intro u2_78 u3_78 u4_78 u5_78 τ_78 hm_78 hT G14 G15 G18 G19 G20 G103 G104 G105 i78_1 i78_2 i78_3 i78_4 i78_5
          have A14 : ∀ j, 0 ≤ τ_78.2.1 14 j ∧ τ_78.2.1 14 j ≤ 30000 := fun j => hT.2 14 j
          have A15 : ∀ j, 0 ≤ τ_78.2.1 15 j ∧ τ_78.2.1 15 j ≤ 300 := fun j => hT.2 15 j
          have A18 : ∀ j, 0 ≤ τ_78.2.1 18 j ∧ τ_78.2.1 18 j ≤ 90000 := fun j => hT.2 18 j
          have A19 : ∀ j, 0 ≤ τ_78.2.1 19 j ∧ τ_78.2.1 19 j ≤ 60 := fun j => hT.2 19 j
          have A20 : ∀ j, 0 ≤ τ_78.2.1 20 j ∧ τ_78.2.1 20 j ≤ 1499 := fun j => hT.2 20 j
          have A103 : ∀ j, 0 ≤ τ_78.2.1 103 j ∧ τ_78.2.1 103 j ≤ 999 := fun j => hT.2 103 j
          have A104 : ∀ j, (-1) ≤ τ_78.2.1 104 j ∧ τ_78.2.1 104 j ≤ 59 := fun j => hT.2 104 j
          have A105 : ∀ j, 0 ≤ τ_78.2.1 105 j ∧ τ_78.2.1 105 j ≤ 59 := fun j => hT.2 105 j
          have a14 := A14 u4_78
          have a15 := A15 u4_78
          rw [G14] at a14
          rw [G15] at a15
          have l_148 : ∀ (m_148 : Nat) (u2_148 : Int) (u3_148 : Int) (u4_148 : Int) (u5_148 : Int) (u6_148 : Int) (u7_148 : Int) (τ_148 : S0), 61 - u7_148 < (m_148 : Int) → (m_T τ_148) → (τ_148.2.1 14 = σ.2.1 14) → (τ_148.2.1 15 = σ.2.1 15) → (τ_148.2.1 18 = σ.2.1 18) → (τ_148.2.1 19 = σ.2.1 19) → (τ_148.2.1 20 = σ.2.1 20) → (τ_148.2.1 103 = σ.2.1 103) → (τ_148.2.1 104 = σ.2.1 104) → (τ_148.2.1 105 = σ.2.1 105) → (0 ≤ u2_148 ∧ u2_148 ≤ u3_148 + 1) → (σ.2.1 18 n1 ≤ u3_148 ∧ u3_148 < σ.2.1 18 n1 + σ.2.1 19 n1) → (0 ≤ u4_148 ∧ u4_148 < 1500) → (σ.2.1 14 u4_148 ≤ u5_148 ∧ u5_148 < σ.2.1 14 u4_148 + σ.2.1 15 u4_148) → (σ.2.1 18 n1 + σ.2.1 19 n1 - u3_148 + 1 < (m_14 : Int) + 1) → (σ.2.1 14 u4_148 + σ.2.1 15 u4_148 - u5_148 + 1 < (m_78 : Int) + 1) → (0 ≤ u6_148 ∧ u6_148 < 1001) → (0 ≤ u7_148 ∧ u7_148 ≤ 59) → P148 n1 u2_148 u3_148 u4_148 u5_148 u6_148 u7_148 τ_148 := by
            intro m_148
            induction m_148 with
            | zero =>
              intro u2_148 u3_148 u4_148 u5_148 u6_148 u7_148 τ_148 hm hT G14 G15 G18 G19 G20 G103 G104 G105 i148_1 i148_2 i148_3 i148_4 i148_5 i148_6 i148_7 i148_8
              have A14 : ∀ j, 0 ≤ τ_148.2.1 14 j ∧ τ_148.2.1 14 j ≤ 30000 := fun j => hT.2 14 j
              have A15 : ∀ j, 0 ≤ τ_148.2.1 15 j ∧ τ_148.2.1 15 j ≤ 300 := fun j => hT.2 15 j
              have A18 : ∀ j, 0 ≤ τ_148.2.1 18 j ∧ τ_148.2.1 18 j ≤ 90000 := fun j => hT.2 18 j
              have A19 : ∀ j, 0 ≤ τ_148.2.1 19 j ∧ τ_148.2.1 19 j ≤ 60 := fun j => hT.2 19 j
              have A20 : ∀ j, 0 ≤ τ_148.2.1 20 j ∧ τ_148.2.1 20 j ≤ 1499 := fun j => hT.2 20 j
              have A103 : ∀ j, 0 ≤ τ_148.2.1 103 j ∧ τ_148.2.1 103 j ≤ 999 := fun j => hT.2 103 j
              have A104 : ∀ j, (-1) ≤ τ_148.2.1 104 j ∧ τ_148.2.1 104 j ≤ 59 := fun j => hT.2 104 j
              have A105 : ∀ j, 0 ≤ τ_148.2.1 105 j ∧ τ_148.2.1 105 j ≤ 59 := fun j => hT.2 105 j
              exfalso; (first | omega | (simp only [st_s] <;> omega) | assumption | omega | fail)
            | succ m_148 ih_148 =>
              intro u2_148 u3_148 u4_148 u5_148 u6_148 u7_148 τ_148 hm_148 hT G14 G15 G18 G19 G20 G103 G104 G105 i148_1 i148_2 i148_3 i148_4 i148_5 i148_6 i148_7 i148_8
              have A14 : ∀ j, 0 ≤ τ_148.2.1 14 j ∧ τ_148.2.1 14 j ≤ 30000 := fun j => hT.2 14 j
              have A15 : ∀ j, 0 ≤ τ_148.2.1 15 j ∧ τ_148.2.1 15 j ≤ 300 := fun j => hT.2 15 j
              have A18 : ∀ j, 0 ≤ τ_148.2.1 18 j ∧ τ_148.2.1 18 j ≤ 90000 := fun j => hT.2 18 j
              have A19 : ∀ j, 0 ≤ τ_148.2.1 19 j ∧ τ_148.2.1 19 j ≤ 60 := fun j => hT.2 19 j
              have A20 : ∀ j, 0 ≤ τ_148.2.1 20 j ∧ τ_148.2.1 20 j ≤ 1499 := fun j => hT.2 20 j
              have A103 : ∀ j, 0 ≤ τ_148.2.1 103 j ∧ τ_148.2.1 103 j ≤ 999 := fun j => hT.2 103 j
              have A104 : ∀ j, (-1) ≤ τ_148.2.1 104 j ∧ τ_148.2.1 104 j ≤ 59 := fun j => hT.2 104 j
              have A105 : ∀ j, 0 ≤ τ_148.2.1 105 j ∧ τ_148.2.1 105 j ≤ 59 := fun j => hT.2 105 j
              have a14 := A14 u4_148
              have a15 := A15 u4_148
              rw [G14] at a14
              rw [G15] at a15
              have B105 := A105 u6_148
              refine h148 n1 u2_148 u3_148 u4_148 u5_148 u6_148 u7_148 τ_148 ?_
              refine ⟨(show 0 ≤ u6_148 ∧ u6_148 < 1001 from by (first | omega | (simp only [st_s] <;> omega) | assumption | omega | fail)), ?_⟩
              intro x44 r_x44 e_x44
              have b_x44 : 0 ≤ x44 ∧ x44 ≤ 59 := by rw [e_x44]; exact hT.2 105 _
              have b44 : 0 ≤ x44 ∧ x44 ≤ 59 := (by rw [e_x44]; exact hT.2 105 _)
              refine ⟨fun c45 => ?_, fun c45 => ?_⟩
              ·
                refine ⟨(⟨by (first | omega | (simp only [st_s] <;> omega) | assumption | omega | fail), by (first | omega | (simp only [st_s] <;> omega) | assumption | omega | fail)⟩ : rg (u5_148 + 1)), ?_⟩
                exact ih_78 _ _ _ _ _ (show (σ.2.1 14 u4_148 + σ.2.1 15 u4_148 - (u5_148 + 1) + 1 : Int) < ((m_78 : Nat) : Int) from by ((first | omega | (simp only [st_s] <;> omega) | assumption | omega | fail))) hT G14 G15 G18 G19 G20 G103 G104 G105 (show 0 ≤ u2_148 ∧ u2_148 ≤ u3_148 + 1 from by (first | omega | (simp only [st_s] <;> omega) | assumption | omega | fail)) (show σ.2.1 18 n1 ≤ u3_148 ∧ u3_148 < σ.2.1 18 n1 + σ.2.1 19 n1 from by (first | omega | (simp only [st_s] <;> omega) | assumption | omega | fail)) (show 0 ≤ u4_148 ∧ u4_148 < 1500 from by (first | omega | (simp only [st_s] <;> omega) | assumption | omega | fail)) (show σ.2.1 14 u4_148 ≤ (u5_148 + 1) ∧ (u5_148 + 1) ≤ σ.2.1 14 u4_148 + σ.2.1 15 u4_148 from by (first | omega | (simp only [st_s] <;> omega) | assumption | omega | fail)) (show σ.2.1 18 n1 + σ.2.1 19 n1 - u3_148 + 1 < (m_14 : Int) + 1 from by (first | omega | (simp only [st_s] <;> omega) | assumption | omega | fail))
              ·
                refine ⟨(show 0 ≤ (1 + u7_148) ∧ (1 + u7_148) < 64 from by (first | omega | (simp only [st_s] <;> omega) | assumption | omega | fail)), ?_⟩
                intro x48 r_x48 e_x48
                have b_x48 : 0 ≤ x48 ∧ x48 ≤ 999 := by rw [e_x48]; exact hT.2 103 _
                have b48 : 0 ≤ x48 ∧ x48 ≤ 999 := (by rw [e_x48]; exact hT.2 103 _)
                refine ⟨_, K_X13_putSymbol hT (show 0 ≤ x48 from by (first | omega | (simp only [st_s] <;> omega) | assumption | omega | fail)) (show x48 < 1000 from by (first | omega | (simp only [st_s] <;> omega) | assumption | omega | fail)), ?_⟩
                intro τ51 hn_τ51 hf_τ51 hq
                replace hT := hq
                have g14_τ51 : τ51.2.1 14 = τ_148.2.1 14 := hf_τ51.2.1 14 (by decide)
                have g15_τ51 : τ51.2.1 15 = τ_148.2.1 15 := hf_τ51.2.1 15 (by decide)
                have g18_τ51 : τ51.2.1 18 = τ_148.2.1 18 := hf_τ51.2.1 18 (by decide)
                have g19_τ51 : τ51.2.1 19 = τ_148.2.1 19 := hf_τ51.2.1 19 (by decide)
                have g20_τ51 : τ51.2.1 20 = τ_148.2.1 20 := hf_τ51.2.1 20 (by decide)
                have g103_τ51 : τ51.2.1 103 = τ_148.2.1 103 := hf_τ51.2.1 103 (by decide)
                have g104_τ51 : τ51.2.1 104 = τ_148.2.1 104 := hf_τ51.2.1 104 (by decide)
                have g105_τ51 : τ51.2.1 105 = τ_148.2.1 105 := hf_τ51.2.1 105 (by decide)
                have G14 : τ51.2.1 14 = σ.2.1 14 := (g14_τ51).trans G14
                have G15 : τ51.2.1 15 = σ.2.1 15 := (g15_τ51).trans G15
                have G18 : τ51.2.1 18 = σ.2.1 18 := (g18_τ51).trans G18
                have G19 : τ51.2.1 19 = σ.2.1 19 := (g19_τ51).trans G19
                have G20 : τ51.2.1 20 = σ.2.1 20 := (g20_τ51).trans G20
                have G103 : τ51.2.1 103 = σ.2.1 103 := (g103_τ51).trans G103
                have G104 : τ51.2.1 104 = σ.2.1 104 := (g104_τ51).trans G104
                have G105 : τ51.2.1 105 = σ.2.1 105 := (g105_τ51).trans G105
                have A14 : ∀ j, 0 ≤ τ51.2.1 14 j ∧ τ51.2.1 14 j ≤ 30000 := fun j => hT.2 14 j
                have A15 : ∀ j, 0 ≤ τ51.2.1 15 j ∧ τ51.2.1 15 j ≤ 300 := fun j => hT.2 15 j
                have A18 : ∀ j, 0 ≤ τ51.2.1 18 j ∧ τ51.2.1 18 j ≤ 90000 := fun j => hT.2 18 j
                have A19 : ∀ j, 0 ≤ τ51.2.1 19 j ∧ τ51.2.1 19 j ≤ 60 := fun j => hT.2 19 j
                have A20 : ∀ j, 0 ≤ τ51.2.1 20 j ∧ τ51.2.1 20 j ≤ 1499 := fun j => hT.2 20 j
                have A103 : ∀ j, 0 ≤ τ51.2.1 103 j ∧ τ51.2.1 103 j ≤ 999 := fun j => hT.2 103 j
                have A104 : ∀ j, (-1) ≤ τ51.2.1 104 j ∧ τ51.2.1 104 j ≤ 59 := fun j => hT.2 104 j
                have A105 : ∀ j, 0 ≤ τ51.2.1 105 j ∧ τ51.2.1 105 j ≤ 59 := fun j => hT.2 105 j
                refine ⟨(⟨by (first | omega | (simp only [st_s] <;> omega) | assumption | omega | fail), by (first | omega | (simp only [st_s] <;> omega) | assumption | omega | fail)⟩ : rg (u7_148 + 1)), ?_⟩
                exact ih_148 _ _ _ _ _ _ _ (show (61 - (u7_148 + 1) : Int) < ((m_148 : Nat) : Int) from by ((first | omega | (simp only [st_s] <;> omega) | assumption | omega | fail))) hT G14 G15 G18 G19 G20 G103 G104 G105 (show 0 ≤ u2_148 ∧ u2_148 ≤ u3_148 + 1 from by (first | omega | (simp only [st_s] <;> omega) | assumption | omega | fail)) (show σ.2.1 18 n1 ≤ u3_148 ∧ u3_148 < σ.2.1 18 n1 + σ.2.1 19 n1 from by (first | omega | (simp only [st_s] <;> omega) | assumption | omega | fail)) (show 0 ≤ u4_148 ∧ u4_148 < 1500 from by (first | omega | (simp only [st_s] <;> omega) | assumption | omega | fail)) (show σ.2.1 14 u4_148 ≤ u5_148 ∧ u5_148 < σ.2.1 14 u4_148 + σ.2.1 15 u4_148 from by (first | omega | (simp only [st_s] <;> omega) | assumption | omega | fail)) (show σ.2.1 18 n1 + σ.2.1 19 n1 - u3_148 + 1 < (m_14 : Int) + 1 from by (first | omega | (simp only [st_s] <;> omega) | assumption | omega | fail)) (show σ.2.1 14 u4_148 + σ.2.1 15 u4_148 - u5_148 + 1 < (m_78 : Int) + 1 from by (first | omega | (simp only [st_s] <;> omega) | assumption | omega | fail)) (show 0 ≤ u6_148 ∧ u6_148 < 1001 from by (first | omega | (simp only [st_s] <;> omega) | assumption | omega | fail)) (show 0 ≤ (u7_148 + 1) ∧ (u7_148 + 1) ≤ 59 from by (first | omega | (simp only [st_s] <;> omega) | assumption | omega | fail))
          refine h78 n1 u2_78 u3_78 u4_78 u5_78 τ_78 ?_
          refine ⟨(show 0 ≤ u4_78 ∧ u4_78 < 1501 from by (first | omega | (simp only [st_s] <;> omega) | assumption | omega | fail)), ?_⟩
          intro x26 r_x26 e_x26
          have b_x26 : 0 ≤ x26 ∧ x26 ≤ 30000 := by rw [e_x26]; exact hT.2 14 _
          rw [G14] at e_x26
          intro x27 r_x27 e_x27
          have b_x27 : 0 ≤ x27 ∧ x27 ≤ 300 := by rw [e_x27]; exact hT.2 15 _
          rw [G15] at e_x27
          refine ⟨(⟨by (first | omega | (simp only [st_s] <;> omega) | assumption | omega | fail), by (first | omega | (simp only [st_s] <;> omega) | assumption | omega | fail)⟩ : rg (x26 + x27)), ?_⟩
          refine ⟨fun c29 => ?_, fun c29 => ?_⟩
          ·
            refine ⟨(⟨by (first | omega | (simp only [st_s] <;> omega) | assumption | omega | fail), by (first | omega | (simp only [st_s] <;> omega) | assumption | omega | fail)⟩ : rg (u3_78 + 1)), ?_⟩
            exact ih_14 _ _ _ (show (σ.2.1 18 n1 + σ.2.1 19 n1 - (u3_78 + 1) + 1 : Int) < ((m_14 : Nat) : Int) from by ((first | omega | (simp only [st_s] <;> omega) | assumption | omega | fail))) hT G14 G15 G18 G19 G20 G103 G104 G105 (show 0 ≤ u2_78 ∧ u2_78 ≤ (u3_78 + 1) from by (first | omega | (simp only [st_s] <;> omega) | assumption | omega | fail)) (show σ.2.1 18 n1 ≤ (u3_78 + 1) ∧ (u3_78 + 1) ≤ σ.2.1 18 n1 + σ.2.1 19 n1 from by (first | omega | (simp only [st_s] <;> omega) | assumption | omega | fail))
          ·
            refine ⟨(show 0 ≤ u5_78 ∧ u5_78 < 30400 from by (first | omega | (simp only [st_s] <;> omega) | assumption | omega | fail)), ?_⟩
            intro x32 r_x32 e_x32
            have b_x32 : 0 ≤ x32 ∧ x32 ≤ 999 := by rw [e_x32]; exact hT.2 16 _
            refine ⟨(show 0 ≤ x32 ∧ x32 < 1001 from by (first | omega | (simp only [st_s] <;> omega) | assumption | omega | fail)), ?_⟩
            intro x34 r_x34 e_x34
            have b_x34 : 0 ≤ x34 ∧ x34 ≤ 1 := by rw [e_x34]; exact hT.2 8 _
            refine ⟨fun c35 => ?_, fun c35 => ?_⟩
            ·
              intro x36 r_x36 e_x36
              have b_x36 : (-1) ≤ x36 ∧ x36 ≤ 59 := by rw [e_x36]; exact hT.2 104 _
              have b36 : -1 ≤ x36 ∧ x36 ≤ 59 := (by rw [e_x36]; exact hT.2 104 _)
              refine ⟨fun c37 => ?_, fun c37 => ?_⟩
              ·
                intro x38 r_x38 e_x38
                have b_x38 : (-1) ≤ x38 ∧ x38 ≤ 59 := by rw [e_x38]; exact hT.2 104 _
                have b38 : -1 ≤ x38 ∧ x38 ≤ 59 := (by rw [e_x38]; exact hT.2 104 _)
                exact l_148 ((61 - x38 : Int).toNat + 1) _ _ _ _ _ _ _ (show (61 - x38 : Int) < (((61 - x38 : Int).toNat + 1 : Nat) : Int) from by ((first | omega | (simp only [st_s] <;> omega) | assumption | omega | fail))) hT G14 G15 G18 G19 G20 G103 G104 G105 (show 0 ≤ u2_78 ∧ u2_78 ≤ u3_78 + 1 from by (first | omega | (simp only [st_s] <;> omega) | assumption | omega | fail)) (show σ.2.1 18 n1 ≤ u3_78 ∧ u3_78 < σ.2.1 18 n1 + σ.2.1 19 n1 from by (first | omega | (simp only [st_s] <;> omega) | assumption | omega | fail)) (show 0 ≤ u4_78 ∧ u4_78 < 1500 from by (first | omega | (simp only [st_s] <;> omega) | assumption | omega | fail)) (show σ.2.1 14 u4_78 ≤ u5_78 ∧ u5_78 < σ.2.1 14 u4_78 + σ.2.1 15 u4_78 from by (first | omega | (simp only [st_s] <;> omega) | assumption | omega | fail)) (show σ.2.1 18 n1 + σ.2.1 19 n1 - u3_78 + 1 < (m_14 : Int) + 1 from by (first | omega | (simp only [st_s] <;> omega) | assumption | omega | fail)) (show σ.2.1 14 u4_78 + σ.2.1 15 u4_78 - u5_78 + 1 < (m_78 : Int) + 1 from by (first | omega | (simp only [st_s] <;> omega) | assumption | omega | fail)) (show 0 ≤ x32 ∧ x32 < 1001 from by (first | omega | (simp only [st_s] <;> omega) | assumption | omega | fail)) (show 0 ≤ x38 ∧ x38 ≤ 59 from by (first | omega | (simp only [st_s] <;> omega) | assumption | omega | fail))
              ·
                exact hT
            ·
              refine ⟨_, K_X13_putSymbol hT (show 0 ≤ x32 from by (first | omega | (simp only [st_s] <;> omega) | assumption | omega | fail)) (show x32 < 1000 from by (first | omega | (simp only [st_s] <;> omega) | assumption | omega | fail)), ?_⟩
              intro τ41 hn_τ41 hf_τ41 hq
              replace hT := hq
              have g14_τ41 : τ41.2.1 14 = τ_78.2.1 14 := hf_τ41.2.1 14 (by decide)
              have g15_τ41 : τ41.2.1 15 = τ_78.2.1 15 := hf_τ41.2.1 15 (by decide)
              have g18_τ41 : τ41.2.1 18 = τ_78.2.1 18 := hf_τ41.2.1 18 (by decide)
              have g19_τ41 : τ41.2.1 19 = τ_78.2.1 19 := hf_τ41.2.1 19 (by decide)
              have g20_τ41 : τ41.2.1 20 = τ_78.2.1 20 := hf_τ41.2.1 20 (by decide)
              have g103_τ41 : τ41.2.1 103 = τ_78.2.1 103 := hf_τ41.2.1 103 (by decide)
              have g104_τ41 : τ41.2.1 104 = τ_78.2.1 104 := hf_τ41.2.1 104 (by decide)
              have g105_τ41 : τ41.2.1 105 = τ_78.2.1 105 := hf_τ41.2.1 105 (by decide)
              have G14 : τ41.2.1 14 = σ.2.1 14 := (g14_τ41).trans G14
              have G15 : τ41.2.1 15 = σ.2.1 15 := (g15_τ41).trans G15
              have G18 : τ41.2.1 18 = σ.2.1 18 := (g18_τ41).trans G18
              have G19 : τ41.2.1 19 = σ.2.1 19 := (g19_τ41).trans G19
              have G20 : τ41.2.1 20 = σ.2.1 20 := (g20_τ41).trans G20
              have G103 : τ41.2.1 103 = σ.2.1 103 := (g103_τ41).trans G103
              have G104 : τ41.2.1 104 = σ.2.1 104 := (g104_τ41).trans G104
              have G105 : τ41.2.1 105 = σ.2.1 105 := (g105_τ41).trans G105
              have A14 : ∀ j, 0 ≤ τ41.2.1 14 j ∧ τ41.2.1 14 j ≤ 30000 := fun j => hT.2 14 j
              have A15 : ∀ j, 0 ≤ τ41.2.1 15 j ∧ τ41.2.1 15 j ≤ 300 := fun j => hT.2 15 j
              have A18 : ∀ j, 0 ≤ τ41.2.1 18 j ∧ τ41.2.1 18 j ≤ 90000 := fun j => hT.2 18 j
              have A19 : ∀ j, 0 ≤ τ41.2.1 19 j ∧ τ41.2.1 19 j ≤ 60 := fun j => hT.2 19 j
              have A20 : ∀ j, 0 ≤ τ41.2.1 20 j ∧ τ41.2.1 20 j ≤ 1499 := fun j => hT.2 20 j
              have A103 : ∀ j, 0 ≤ τ41.2.1 103 j ∧ τ41.2.1 103 j ≤ 999 := fun j => hT.2 103 j
              have A104 : ∀ j, (-1) ≤ τ41.2.1 104 j ∧ τ41.2.1 104 j ≤ 59 := fun j => hT.2 104 j
              have A105 : ∀ j, 0 ≤ τ41.2.1 105 j ∧ τ41.2.1 105 j ≤ 59 := fun j => hT.2 105 j
              refine ⟨(⟨by (first | omega | (simp only [st_s] <;> omega) | assumption | omega | fail), by (first | omega | (simp only [st_s] <;> omega) | assumption | omega | fail)⟩ : rg (u5_78 + 1)), ?_⟩
              exact ih_78 _ _ _ _ _ (show (σ.2.1 14 u4_78 + σ.2.1 15 u4_78 - (u5_78 + 1) + 1 : Int) < ((m_78 : Nat) : Int) from by ((first | omega | (simp only [st_s] <;> omega) | assumption | omega | fail))) hT G14 G15 G18 G19 G20 G103 G104 G105 (show 0 ≤ u2_78 ∧ u2_78 ≤ u3_78 + 1 from by (first | omega | (simp only [st_s] <;> omega) | assumption | omega | fail)) (show σ.2.1 18 n1 ≤ u3_78 ∧ u3_78 < σ.2.1 18 n1 + σ.2.1 19 n1 from by (first | omega | (simp only [st_s] <;> omega) | assumption | omega | fail)) (show 0 ≤ u4_78 ∧ u4_78 < 1500 from by (first | omega | (simp only [st_s] <;> omega) | assumption | omega | fail)) (show σ.2.1 14 u4_78 ≤ (u5_78 + 1) ∧ (u5_78 + 1) ≤ σ.2.1 14 u4_78 + σ.2.1 15 u4_78 from by (first | omega | (simp only [st_s] <;> omega) | assumption | omega | fail)) (show σ.2.1 18 n1 + σ.2.1 19 n1 - u3_78 + 1 < (m_14 : Int) + 1 from by (first | omega | (simp only [st_s] <;> omega) | assumption | omega | fail))
      refine h14 n1 u2_14 u3_14 τ_14 ?_
      refine ⟨(show 0 ≤ n1 ∧ n1 < 1501 from by (first | omega | (simp only [st_s] <;> omega) | assumption | omega | fail)), ?_⟩
      intro x4 r_x4 e_x4
      have b_x4 : 0 ≤ x4 ∧ x4 ≤ 90000 := by rw [e_x4]; exact hT.2 18 _
      rw [G18] at e_x4
      intro x5 r_x5 e_x5
      have b_x5 : 0 ≤ x5 ∧ x5 ≤ 60 := by rw [e_x5]; exact hT.2 19 _
      rw [G19] at e_x5
      refine ⟨(⟨by (first | omega | (simp only [st_s] <;> omega) | assumption | omega | fail), by (first | omega | (simp only [st_s] <;> omega) | assumption | omega | fail)⟩ : rg (x4 + x5)), ?_⟩
      refine ⟨fun c7 => ?_, fun c7 => ?_⟩
      ·
        exact hT
      ·
        refine ⟨(show 0 ≤ u3_14 ∧ u3_14 < 90100 from by (first | omega | (simp only [st_s] <;> omega) | assumption | omega | fail)), ?_⟩
        intro x9 r_x9 e_x9
        have b_x9 : 0 ≤ x9 ∧ x9 ≤ 1499 := by rw [e_x9]; exact hT.2 20 _
        have b9 : 0 ≤ x9 ∧ x9 ≤ 1499 := (by rw [e_x9]; exact hT.2 20 _)
        refine ⟨(show 0 ≤ x9 ∧ x9 < 1501 from by (first | omega | (simp only [st_s] <;> omega) | assumption | omega | fail)), ?_⟩
        intro x11 r_x11 e_x11
        have b_x11 : 0 ≤ x11 ∧ x11 ≤ 4 := by rw [e_x11]; exact hT.2 13 _
        refine ⟨fun c12 => ?_, fun c12 => ?_⟩
        ·
          refine ⟨fun c13 => ?_, fun c13 => ?_⟩
          ·
            intro x14 r_x14 e_x14
            have b_x14 : 0 ≤ x14 ∧ x14 ≤ 30000 := by rw [e_x14]; exact hT.2 14 _
            rw [G14] at e_x14
            have a14 := A14 x9
            have a15 := A15 x9
            rw [G14] at a14
            rw [G15] at a15
            refine ⟨(⟨by (first | omega | (simp only [st_s] <;> omega) | assumption | omega | fail), by (first | omega | (simp only [st_s] <;> omega) | assumption | omega | fail)⟩ : rg (u2_14 + 1)), ?_⟩
            exact l_78 ((σ.2.1 14 x9 + σ.2.1 15 x9 - x14 + 1 : Int).toNat + 1) _ _ _ _ _ (show (σ.2.1 14 x9 + σ.2.1 15 x9 - x14 + 1 : Int) < (((σ.2.1 14 x9 + σ.2.1 15 x9 - x14 + 1 : Int).toNat + 1 : Nat) : Int) from by ((first | omega | (simp only [st_s] <;> omega) | assumption | omega | fail))) hT G14 G15 G18 G19 G20 G103 G104 G105 (show 0 ≤ (u2_14 + 1) ∧ (u2_14 + 1) ≤ u3_14 + 1 from by (first | omega | (simp only [st_s] <;> omega) | assumption | omega | fail)) (show σ.2.1 18 n1 ≤ u3_14 ∧ u3_14 < σ.2.1 18 n1 + σ.2.1 19 n1 from by (first | omega | (simp only [st_s] <;> omega) | assumption | omega | fail)) (show 0 ≤ x9 ∧ x9 < 1500 from by (first | omega | (simp only [st_s] <;> omega) | assumption | omega | fail)) (show σ.2.1 14 x9 ≤ x14 ∧ x14 ≤ σ.2.1 14 x9 + σ.2.1 15 x9 from by (first | omega | (simp only [st_s] <;> omega) | assumption | omega | fail)) (show σ.2.1 18 n1 + σ.2.1 19 n1 - u3_14 + 1 < (m_14 : Int) + 1 from by (first | omega | (simp only [st_s] <;> omega) | assumption | omega | fail))
          ·
            refine ⟨_, K_X13_putBlank hT, ?_⟩
            intro τ18 hn_τ18 hf_τ18 hq
            replace hT := hq
            have g14_τ18 : τ18.2.1 14 = τ_14.2.1 14 := hf_τ18.2.1 14 (by decide)
            have g15_τ18 : τ18.2.1 15 = τ_14.2.1 15 := hf_τ18.2.1 15 (by decide)
            have g18_τ18 : τ18.2.1 18 = τ_14.2.1 18 := hf_τ18.2.1 18 (by decide)
            have g19_τ18 : τ18.2.1 19 = τ_14.2.1 19 := hf_τ18.2.1 19 (by decide)
            have g20_τ18 : τ18.2.1 20 = τ_14.2.1 20 := hf_τ18.2.1 20 (by decide)
            have g103_τ18 : τ18.2.1 103 = τ_14.2.1 103 := hf_τ18.2.1 103 (by decide)
            have g104_τ18 : τ18.2.1 104 = τ_14.2.1 104 := hf_τ18.2.1 104 (by decide)
            have g105_τ18 : τ18.2.1 105 = τ_14.2.1 105 := hf_τ18.2.1 105 (by decide)
            have G14 : τ18.2.1 14 = σ.2.1 14 := (g14_τ18).trans G14
            have G15 : τ18.2.1 15 = σ.2.1 15 := (g15_τ18).trans G15
            have G18 : τ18.2.1 18 = σ.2.1 18 := (g18_τ18).trans G18
            have G19 : τ18.2.1 19 = σ.2.1 19 := (g19_τ18).trans G19
            have G20 : τ18.2.1 20 = σ.2.1 20 := (g20_τ18).trans G20
            have G103 : τ18.2.1 103 = σ.2.1 103 := (g103_τ18).trans G103
            have G104 : τ18.2.1 104 = σ.2.1 104 := (g104_τ18).trans G104
            have G105 : τ18.2.1 105 = σ.2.1 105 := (g105_τ18).trans G105
            have A14 : ∀ j, 0 ≤ τ18.2.1 14 j ∧ τ18.2.1 14 j ≤ 30000 := fun j => hT.2 14 j
            have A15 : ∀ j, 0 ≤ τ18.2.1 15 j ∧ τ18.2.1 15 j ≤ 300 := fun j => hT.2 15 j
            have A18 : ∀ j, 0 ≤ τ18.2.1 18 j ∧ τ18.2.1 18 j ≤ 90000 := fun j => hT.2 18 j
            have A19 : ∀ j, 0 ≤ τ18.2.1 19 j ∧ τ18.2.1 19 j ≤ 60 := fun j => hT.2 19 j
            have A20 : ∀ j, 0 ≤ τ18.2.1 20 j ∧ τ18.2.1 20 j ≤ 1499 := fun j => hT.2 20 j
            have A103 : ∀ j, 0 ≤ τ18.2.1 103 j ∧ τ18.2.1 103 j ≤ 999 := fun j => hT.2 103 j
            have A104 : ∀ j, (-1) ≤ τ18.2.1 104 j ∧ τ18.2.1 104 j ≤ 59 := fun j => hT.2 104 j
            have A105 : ∀ j, 0 ≤ τ18.2.1 105 j ∧ τ18.2.1 105 j ≤ 59 := fun j => hT.2 105 j
            refine ⟨_, K_X13_put hT (show 0 ≤ (44 : Int) from by (first | omega | (simp only [st_s] <;> omega) | assumption | omega | fail)) (show (44 : Int) ≤ 255 from by (first | omega | (simp only [st_s] <;> omega) | assumption | omega | fail)), ?_⟩
            intro τ21 hn_τ21 hf_τ21 hq
            replace hT := hq
            have g14_τ21 : τ21.2.1 14 = τ18.2.1 14 := hf_τ21.2.1 14 (by decide)
            have g15_τ21 : τ21.2.1 15 = τ18.2.1 15 := hf_τ21.2.1 15 (by decide)
            have g18_τ21 : τ21.2.1 18 = τ18.2.1 18 := hf_τ21.2.1 18 (by decide)
            have g19_τ21 : τ21.2.1 19 = τ18.2.1 19 := hf_τ21.2.1 19 (by decide)
            have g20_τ21 : τ21.2.1 20 = τ18.2.1 20 := hf_τ21.2.1 20 (by decide)
            have g103_τ21 : τ21.2.1 103 = τ18.2.1 103 := hf_τ21.2.1 103 (by decide)
            have g104_τ21 : τ21.2.1 104 = τ18.2.1 104 := hf_τ21.2.1 104 (by decide)
            have g105_τ21 : τ21.2.1 105 = τ18.2.1 105 := hf_τ21.2.1 105 (by decide)
            have G14 : τ21.2.1 14 = σ.2.1 14 := (g14_τ21).trans G14
            have G15 : τ21.2.1 15 = σ.2.1 15 := (g15_τ21).trans G15
            have G18 : τ21.2.1 18 = σ.2.1 18 := (g18_τ21).trans G18
            have G19 : τ21.2.1 19 = σ.2.1 19 := (g19_τ21).trans G19
            have G20 : τ21.2.1 20 = σ.2.1 20 := (g20_τ21).trans G20
            have G103 : τ21.2.1 103 = σ.2.1 103 := (g103_τ21).trans G103
            have G104 : τ21.2.1 104 = σ.2.1 104 := (g104_τ21).trans G104
            have G105 : τ21.2.1 105 = σ.2.1 105 := (g105_τ21).trans G105
            have A14 : ∀ j, 0 ≤ τ21.2.1 14 j ∧ τ21.2.1 14 j ≤ 30000 := fun j => hT.2 14 j
            have A15 : ∀ j, 0 ≤ τ21.2.1 15 j ∧ τ21.2.1 15 j ≤ 300 := fun j => hT.2 15 j
            have A18 : ∀ j, 0 ≤ τ21.2.1 18 j ∧ τ21.2.1 18 j ≤ 90000 := fun j => hT.2 18 j
            have A19 : ∀ j, 0 ≤ τ21.2.1 19 j ∧ τ21.2.1 19 j ≤ 60 := fun j => hT.2 19 j
            have A20 : ∀ j, 0 ≤ τ21.2.1 20 j ∧ τ21.2.1 20 j ≤ 1499 := fun j => hT.2 20 j
            have A103 : ∀ j, 0 ≤ τ21.2.1 103 j ∧ τ21.2.1 103 j ≤ 999 := fun j => hT.2 103 j
            have A104 : ∀ j, (-1) ≤ τ21.2.1 104 j ∧ τ21.2.1 104 j ≤ 59 := fun j => hT.2 104 j
            have A105 : ∀ j, 0 ≤ τ21.2.1 105 j ∧ τ21.2.1 105 j ≤ 59 := fun j => hT.2 105 j
            intro x22 r_x22 e_x22
            have b_x22 : 0 ≤ x22 ∧ x22 ≤ 30000 := by rw [e_x22]; exact hT.2 14 _
            rw [G14] at e_x22
            have a14 := A14 x9
            have a15 := A15 x9
            rw [G14] at a14
            rw [G15] at a15
            refine ⟨(⟨by (first | omega | (simp only [st_s] <;> omega) | assumption | omega | fail), by (first | omega | (simp only [st_s] <;> omega) | assumption | omega | fail)⟩ : rg (u2_14 + 1)), ?_⟩
            exact l_78 ((σ.2.1 14 x9 + σ.2.1 15 x9 - x22 + 1 : Int).toNat + 1) _ _ _ _ _ (show (σ.2.1 14 x9 + σ.2.1 15 x9 - x22 + 1 : Int) < (((σ.2.1 14 x9 + σ.2.1 15 x9 - x22 + 1 : Int).toNat + 1 : Nat) : Int) from by ((first | omega | (simp only [st_s] <;> omega) | assumption | omega | fail))) hT G14 G15 G18 G19 G20 G103 G104 G105 (show 0 ≤ (u2_14 + 1) ∧ (u2_14 + 1) ≤ u3_14 + 1 from by (first | omega | (simp only [st_s] <;> omega) | assumption | omega | fail)) (show σ.2.1 18 n1 ≤ u3_14 ∧ u3_14 < σ.2.1 18 n1 + σ.2.1 19 n1 from by (first | omega | (simp only [st_s] <;> omega) | assumption | omega | fail)) (show 0 ≤ x9 ∧ x9 < 1500 from by (first | omega | (simp only [st_s] <;> omega) | assumption | omega | fail)) (show σ.2.1 14 x9 ≤ x22 ∧ x22 ≤ σ.2.1 14 x9 + σ.2.1 15 x9 from by (first | omega | (simp only [st_s] <;> omega) | assumption | omega | fail)) (show σ.2.1 18 n1 + σ.2.1 19 n1 - u3_14 + 1 < (m_14 : Int) + 1 from by (first | omega | (simp only [st_s] <;> omega) | assumption | omega | fail))
        ·
          refine ⟨(⟨by (first | omega | (simp only [st_s] <;> omega) | assumption | omega | fail), by (first | omega | (simp only [st_s] <;> omega) | assumption | omega | fail)⟩ : rg (u3_14 + 1)), ?_⟩
          exact ih_14 _ _ _ (show (σ.2.1 18 n1 + σ.2.1 19 n1 - (u3_14 + 1) + 1 : Int) < ((m_14 : Nat) : Int) from by ((first | omega | (simp only [st_s] <;> omega) | assumption | omega | fail))) hT G14 G15 G18 G19 G20 G103 G104 G105 (show 0 ≤ u2_14 ∧ u2_14 ≤ (u3_14 + 1) from by (first | omega | (simp only [st_s] <;> omega) | assumption | omega | fail)) (show σ.2.1 18 n1 ≤ (u3_14 + 1) ∧ (u3_14 + 1) ≤ σ.2.1 18 n1 + σ.2.1 19 n1 from by (first | omega | (simp only [st_s] <;> omega) | assumption | omega | fail))
  replace hT := mT_v (i := 39) hT (show (0 : Int) ≤ 0 ∧ 0 ≤ 24001 from by (first | omega | (simp only [st_s] <;> omega) | assumption | omega | fail))
  refine ⟨(show 0 ≤ n1 ∧ n1 < 1501 from by (first | omega | (simp only [st_s] <;> omega) | assumption | omega | fail)), ?_⟩
  intro x2 r_x2 e_x2
  have b_x2 : 0 ≤ x2 ∧ x2 ≤ 90000 := by rw [e_x2]; exact hT.2 18 _
  exact l_14 ((σ.2.1 18 n1 + σ.2.1 19 n1 - x2 + 1 : Int).toNat + 1) _ _ _ (show (σ.2.1 18 n1 + σ.2.1 19 n1 - x2 + 1 : Int) < (((σ.2.1 18 n1 + σ.2.1 19 n1 - x2 + 1 : Int).toNat + 1 : Nat) : Int) from by ((first | omega | (simp only [st_s] <;> omega) | assumption | omega | fail))) hT G14 G15 G18 G19 G20 G103 G104 G105 (show 0 ≤ 0 ∧ 0 ≤ x2 from by (first | omega | (simp only [st_s] <;> omega) | assumption | omega | fail)) (show σ.2.1 18 n1 ≤ x2 ∧ x2 ≤ σ.2.1 18 n1 + σ.2.1 19 n1 from by (first | omega | (simp only [st_s] <;> omega) | assumption | omega | fail))
