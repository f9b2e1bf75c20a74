-- pure: scopes and frames of the class
def J_hfa (c : Int) (kd a hyp : Int → Int) : Prop := ∀ n : Int, 0 ≤ n → n < c → kd (hyp n) = 0 → a (hyp n) + 1 < 30000
theorem J_hfa_of {n c : Int} {kd a hyp : Int → Int} (h : J_hs n c kd hyp) (ha : J_a2 n a kd) (h0 : ∀ i, 0 ≤ hyp i) (ub : ∀ i, a i ≤ 30000) : J_hfa c kd a hyp := fun m m0 m1 k => by
  have := h m m0 m1
  have b := (ha (hyp m) (h0 m) this.1).2 k
  have := ub (hyp m + 1)
  omega
set_option maxHeartbeats 1000000 in
theorem K2_X9_markVariables {n1 : Int} {σ : S0} (hT : c_T σ) (p1 : 0 ≤ n1) (p2 : n1 < 1500) (p3 : σ.2.1 14 n1 ≤ σ.2.1 14 (n1 + 1)) (p4 : ∀ s : Int, σ.2.1 26 s ≤ (σ.1 12)) : W_X9_markVariables n1 σ (fun (τ : S0) => (c_T τ) ∧ (∀ p : Int, σ.2.1 14 n1 ≤ p → p < σ.2.1 14 (n1 + 1) → ¬ σ.2.1 16 p = -1 → τ.2.1 26 (σ.2.1 15 p) = (σ.1 12)) ∧ (∀ s : Int, τ.2.1 26 s = (σ.1 12) → σ.2.1 26 s = (σ.1 12) ∨ ∃ p : Int, σ.2.1 14 n1 ≤ p ∧ p < σ.2.1 14 (n1 + 1) ∧ ¬ σ.2.1 16 p = -1 ∧ σ.2.1 15 p = s) ∧ (∀ s : Int, σ.2.1 26 s = (σ.1 12) → τ.2.1 26 s = (σ.1 12)) ∧ (∀ s : Int, τ.2.1 26 s ≤ (σ.1 12))) := by
  have A14 : ∀ j, 0 ≤ σ.2.1 14 j ∧ σ.2.1 14 j ≤ 30000 := fun j => hT.2 14 j
  have A15 : ∀ j, 0 ≤ σ.2.1 15 j ∧ σ.2.1 15 j ≤ 999 := fun j => hT.2 15 j
  have A16 : ∀ j, (-1) ≤ σ.2.1 16 j ∧ σ.2.1 16 j ≤ 1499 := fun j => hT.2 16 j
  have A26 : ∀ j, (-2147483648) ≤ σ.2.1 26 j ∧ σ.2.1 26 j ≤ 2147483647 := fun j => hT.2 26 j
  have v12 : (-2147483648) ≤ σ.1 12 ∧ σ.1 12 ≤ 2147483647 := hT.1 12
  have W12 : σ.1 12 = σ.1 12 := rfl
  have G14 : σ.2.1 14 = σ.2.1 14 := rfl
  have G15 : σ.2.1 15 = σ.2.1 15 := rfl
  have G16 : σ.2.1 16 = σ.2.1 16 := rfl
  intro P10 h10
  have a14 := A14 n1
  have b14 := A14 (n1 + 1)
  have MT : ∀ s : Int, σ.2.1 26 s ≤ (σ.1 12) := p4
  have MT_0 := MT
  have l_10 : ∀ (m_10 : Nat) (u2_10 : Int) (τ_10 : S0), 30001 - u2_10 < (m_10 : Int) → (c_T τ_10) → (τ_10.1 12 = σ.1 12) → (τ_10.2.1 14 = σ.2.1 14) → (τ_10.2.1 15 = σ.2.1 15) → (τ_10.2.1 16 = σ.2.1 16) → (σ.2.1 14 n1 ≤ u2_10) → (u2_10 ≤ σ.2.1 14 (n1 + 1)) → (∀ p : Int, σ.2.1 14 n1 ≤ p → p < u2_10 → ¬ σ.2.1 16 p = -1 → τ_10.2.1 26 (σ.2.1 15 p) = (σ.1 12)) → (∀ s : Int, τ_10.2.1 26 s = (σ.1 12) → σ.2.1 26 s = (σ.1 12) ∨ ∃ p : Int, σ.2.1 14 n1 ≤ p ∧ p < u2_10 ∧ ¬ σ.2.1 16 p = -1 ∧ σ.2.1 15 p = s) → (∀ s : Int, σ.2.1 26 s = (σ.1 12) → τ_10.2.1 26 s = (σ.1 12)) → (∀ s : Int, τ_10.2.1 26 s ≤ (σ.1 12)) → P10 n1 u2_10 τ_10 := by
    intro m_10
    induction m_10 with
    | zero =>
      intro u2_10 τ_10 hm hT W12 G14 G15 G16 i10_1 i10_2 i10_3 i10_4 i10_5 i10_6
      have A14 : ∀ j, 0 ≤ τ_10.2.1 14 j ∧ τ_10.2.1 14 j ≤ 30000 := fun j => hT.2 14 j
      have A15 : ∀ j, 0 ≤ τ_10.2.1 15 j ∧ τ_10.2.1 15 j ≤ 999 := fun j => hT.2 15 j
      have A16 : ∀ j, (-1) ≤ τ_10.2.1 16 j ∧ τ_10.2.1 16 j ≤ 1499 := fun j => hT.2 16 j
      have A26 : ∀ j, (-2147483648) ≤ τ_10.2.1 26 j ∧ τ_10.2.1 26 j ≤ 2147483647 := fun j => hT.2 26 j
      have v12 : (-2147483648) ≤ τ_10.1 12 ∧ τ_10.1 12 ≤ 2147483647 := hT.1 12
      exfalso; (first | omega | (simp only [st_s] <;> omega) | assumption | omega | fail)
    | succ m_10 ih_10 =>
      intro u2_10 τ_10 hm_10 hT W12 G14 G15 G16 i10_1 i10_2 i10_3 i10_4 i10_5 i10_6
      have A14 : ∀ j, 0 ≤ τ_10.2.1 14 j ∧ τ_10.2.1 14 j ≤ 30000 := fun j => hT.2 14 j
      have A15 : ∀ j, 0 ≤ τ_10.2.1 15 j ∧ τ_10.2.1 15 j ≤ 999 := fun j => hT.2 15 j
      have A16 : ∀ j, (-1) ≤ τ_10.2.1 16 j ∧ τ_10.2.1 16 j ≤ 1499 := fun j => hT.2 16 j
      have A26 : ∀ j, (-2147483648) ≤ τ_10.2.1 26 j ∧ τ_10.2.1 26 j ≤ 2147483647 := fun j => hT.2 26 j
      have v12 : (-2147483648) ≤ τ_10.1 12 ∧ τ_10.1 12 ≤ 2147483647 := hT.1 12
      refine h10 n1 u2_10 τ_10 ?_
      refine ⟨(show 0 ≤ (n1 + 1) ∧ (n1 + 1) < 1501 from by (first | omega | (simp only [st_s] <;> omega) | assumption | omega | fail)), ?_⟩
      intro x4 r_x4 e_x4
      have b_x4 : 0 ≤ x4 ∧ x4 ≤ 30000 := by rw [e_x4]; exact hT.2 14 _
      rw [G14] at e_x4
      refine ⟨fun c5 => ?_, fun c5 => ?_⟩
      ·
        exact ⟨hT, (show ∀ p : Int, σ.2.1 14 n1 ≤ p → p < σ.2.1 14 (n1 + 1) → ¬ σ.2.1 16 p = -1 → τ_10.2.1 26 (σ.2.1 15 p) = (σ.1 12) from by exact fun p p0 p1 p2 => i10_3 p p0 (by omega) p2), (show ∀ s : Int, τ_10.2.1 26 s = (σ.1 12) → σ.2.1 26 s = (σ.1 12) ∨ ∃ p : Int, σ.2.1 14 n1 ≤ p ∧ p < σ.2.1 14 (n1 + 1) ∧ ¬ σ.2.1 16 p = -1 ∧ σ.2.1 15 p = s from by (intro s hs; rcases i10_4 s hs with q | ⟨p, p0, p1, p2, p3⟩; exact Or.inl q; exact Or.inr ⟨p, p0, by omega, p2, p3⟩)), (show ∀ s : Int, σ.2.1 26 s = (σ.1 12) → τ_10.2.1 26 s = (σ.1 12) from by exact i10_5), (show ∀ s : Int, τ_10.2.1 26 s ≤ (σ.1 12) from by exact i10_6)⟩
      ·
        refine ⟨(show 0 ≤ u2_10 ∧ u2_10 < 30000 from by (first | omega | (simp only [st_s] <;> omega) | assumption | omega | fail)), ?_⟩
        intro x7 r_x7 e_x7
        have b_x7 : (-1) ≤ x7 ∧ x7 ≤ 1499 := by rw [e_x7]; exact hT.2 16 _
        rw [G16] at e_x7
        refine ⟨fun c8 => ?_, fun c8 => ?_⟩
        ·
          refine ⟨(⟨by (first | omega | (simp only [st_s] <;> omega) | assumption | omega | fail), by (first | omega | (simp only [st_s] <;> omega) | assumption | omega | fail)⟩ : rg (u2_10 + 1)), ?_⟩
          exact ih_10 _ _ (show (30001 - (u2_10 + 1) : Int) < ((m_10 : Nat) : Int) from by ((first | omega | (simp only [st_s] <;> omega) | assumption | omega | fail))) hT (show τ_10.1 12 = σ.1 12 from by first | exact W12 | omega) G14 G15 G16 (show σ.2.1 14 n1 ≤ (u2_10 + 1) from by (first | omega | (rw [e_x2]; exact Int.le_refl _) | fail)) (show (u2_10 + 1) ≤ σ.2.1 14 (n1 + 1) from by (first | omega | (rw [e_x2]; omega) | fail)) (show ∀ p : Int, σ.2.1 14 n1 ≤ p → p < (u2_10 + 1) → ¬ σ.2.1 16 p = -1 → τ_10.2.1 26 (σ.2.1 15 p) = (σ.1 12) from by (first | (intro p p0 p1 p2; exfalso; rw [e_x2] at p1; omega) | (intro p p0 p1 p2; by_cases z : p = u2_10; (exact absurd (by rw [z, ← e_x7]; assumption) p2); exact i10_3 p p0 (by omega) p2) | (intro p p0 p1 p2; by_cases y : σ.2.1 15 p = x10; (rw [y, st_s, W12]); (rw [st_n _ _ y]; exact i10_3 p p0 (by rcases (by omega : p = u2_10 ∨ p < u2_10) with q | q; (exact absurd (by rw [q, e_x10]) y); exact q) p2)) | fail)) (show ∀ s : Int, τ_10.2.1 26 s = (σ.1 12) → σ.2.1 26 s = (σ.1 12) ∨ ∃ p : Int, σ.2.1 14 n1 ≤ p ∧ p < (u2_10 + 1) ∧ ¬ σ.2.1 16 p = -1 ∧ σ.2.1 15 p = s from by (first | exact fun s hs => Or.inl hs | (intro s hs; have q9 := i10_4 s hs; rcases q9 with q | ⟨p, p0, p1, p2, p3⟩; exact Or.inl q; exact Or.inr ⟨p, p0, by omega, p2, p3⟩) | (intro s hs; by_cases y : s = x10; (exact Or.inr ⟨u2_10, by omega, by omega, by rw [← e_x7]; assumption, by rw [y, e_x10]⟩); (rw [st_n _ _ y] at hs; have q9 := i10_4 s hs; rcases q9 with q | ⟨p, p0, p1, p2, p3⟩; exact Or.inl q; exact Or.inr ⟨p, p0, by omega, p2, p3⟩)) | fail)) (show ∀ s : Int, σ.2.1 26 s = (σ.1 12) → τ_10.2.1 26 s = (σ.1 12) from by (first | exact fun s hs => hs | exact i10_5 | (intro s hs; by_cases y : s = x10; (rw [y, st_s, W12]); (rw [st_n _ _ y]; exact i10_5 s hs)) | fail)) (show ∀ s : Int, τ_10.2.1 26 s ≤ (σ.1 12) from by (first | exact p4 | exact i10_6 | (intro s; by_cases y : s = x10; (rw [y, st_s, W12]; exact Int.le_refl _); (rw [st_n _ _ y]; exact i10_6 s)) | fail))
        ·
          intro x10 r_x10 e_x10
          have b_x10 : 0 ≤ x10 ∧ x10 ≤ 999 := by rw [e_x10]; exact hT.2 15 _
          rw [G15] at e_x10
          refine ⟨(show 0 ≤ x10 ∧ x10 < 1000 from by (first | omega | (simp only [st_s] <;> omega) | assumption | omega | fail)), ?_⟩
          replace hT := cT_a (k := 26) (j := x10) hT (show (-2147483648 : Int) ≤ (τ_10.1 12) ∧ (τ_10.1 12) ≤ 2147483647 from by (first | omega | (simp only [st_s] <;> omega) | assumption | omega | fail))
          refine ⟨(⟨by (first | omega | (simp only [st_s] <;> omega) | assumption | omega | fail), by (first | omega | (simp only [st_s] <;> omega) | assumption | omega | fail)⟩ : rg (u2_10 + 1)), ?_⟩
          exact ih_10 _ _ (show (30001 - (u2_10 + 1) : Int) < ((m_10 : Nat) : Int) from by ((first | omega | (simp only [st_s] <;> omega) | assumption | omega | fail))) hT (show τ_10.1 12 = σ.1 12 from by first | exact W12 | omega) G14 G15 G16 (show σ.2.1 14 n1 ≤ (u2_10 + 1) from by (first | omega | (rw [e_x2]; exact Int.le_refl _) | fail)) (show (u2_10 + 1) ≤ σ.2.1 14 (n1 + 1) from by (first | omega | (rw [e_x2]; omega) | fail)) (show ∀ p : Int, σ.2.1 14 n1 ≤ p → p < (u2_10 + 1) → ¬ σ.2.1 16 p = -1 → (st (τ_10.2.1 26) x10 (τ_10.1 12)) (σ.2.1 15 p) = (σ.1 12) from by (first | (intro p p0 p1 p2; exfalso; rw [e_x2] at p1; omega) | (intro p p0 p1 p2; by_cases z : p = u2_10; (exact absurd (by rw [z, ← e_x7]; assumption) p2); exact i10_3 p p0 (by omega) p2) | (intro p p0 p1 p2; by_cases y : σ.2.1 15 p = x10; (rw [y, st_s, W12]); (rw [st_n _ _ y]; exact i10_3 p p0 (by rcases (by omega : p = u2_10 ∨ p < u2_10) with q | q; (exact absurd (by rw [q, e_x10]) y); exact q) p2)) | fail)) (show ∀ s : Int, (st (τ_10.2.1 26) x10 (τ_10.1 12)) s = (σ.1 12) → σ.2.1 26 s = (σ.1 12) ∨ ∃ p : Int, σ.2.1 14 n1 ≤ p ∧ p < (u2_10 + 1) ∧ ¬ σ.2.1 16 p = -1 ∧ σ.2.1 15 p = s from by (first | exact fun s hs => Or.inl hs | (intro s hs; have q9 := i10_4 s hs; rcases q9 with q | ⟨p, p0, p1, p2, p3⟩; exact Or.inl q; exact Or.inr ⟨p, p0, by omega, p2, p3⟩) | (intro s hs; by_cases y : s = x10; (exact Or.inr ⟨u2_10, by omega, by omega, by rw [← e_x7]; assumption, by rw [y, e_x10]⟩); (rw [st_n _ _ y] at hs; have q9 := i10_4 s hs; rcases q9 with q | ⟨p, p0, p1, p2, p3⟩; exact Or.inl q; exact Or.inr ⟨p, p0, by omega, p2, p3⟩)) | fail)) (show ∀ s : Int, σ.2.1 26 s = (σ.1 12) → (st (τ_10.2.1 26) x10 (τ_10.1 12)) s = (σ.1 12) from by (first | exact fun s hs => hs | exact i10_5 | (intro s hs; by_cases y : s = x10; (rw [y, st_s, W12]); (rw [st_n _ _ y]; exact i10_5 s hs)) | fail)) (show ∀ s : Int, (st (τ_10.2.1 26) x10 (τ_10.1 12)) s ≤ (σ.1 12) from by (first | exact p4 | exact i10_6 | (intro s; by_cases y : s = x10; (rw [y, st_s, W12]; exact Int.le_refl _); (rw [st_n _ _ y]; exact i10_6 s)) | fail))
  refine ⟨(show 0 ≤ n1 ∧ n1 < 1501 from by (first | omega | (simp only [st_s] <;> omega) | assumption | omega | fail)), ?_⟩
  intro x2 r_x2 e_x2
  have b_x2 : 0 ≤ x2 ∧ x2 ≤ 30000 := by rw [e_x2]; exact hT.2 14 _
  exact l_10 ((30001 - x2 : Int).toNat + 1) _ _ (show (30001 - x2 : Int) < (((30001 - x2 : Int).toNat + 1 : Nat) : Int) from by ((first | omega | (simp only [st_s] <;> omega) | assumption | omega | fail))) hT (show σ.1 12 = σ.1 12 from by first | exact W12 | omega) G14 G15 G16 (show σ.2.1 14 n1 ≤ x2 from by (first | omega | (rw [e_x2]; exact Int.le_refl _) | fail)) (show x2 ≤ σ.2.1 14 (n1 + 1) from by (first | omega | (rw [e_x2]; omega) | fail)) (show ∀ p : Int, σ.2.1 14 n1 ≤ p → p < x2 → ¬ σ.2.1 16 p = -1 → σ.2.1 26 (σ.2.1 15 p) = (σ.1 12) from by (first | (intro p p0 p1 p2; exfalso; rw [e_x2] at p1; omega) | (intro p p0 p1 p2; by_cases z : p = u2_10; (exact absurd (by rw [z, ← e_x7]; assumption) p2); exact i10_3 p p0 (by omega) p2) | (intro p p0 p1 p2; by_cases y : σ.2.1 15 p = x10; (rw [y, st_s, W12]); (rw [st_n _ _ y]; exact i10_3 p p0 (by rcases (by omega : p = u2_10 ∨ p < u2_10) with q | q; (exact absurd (by rw [q, e_x10]) y); exact q) p2)) | fail)) (show ∀ s : Int, σ.2.1 26 s = (σ.1 12) → σ.2.1 26 s = (σ.1 12) ∨ ∃ p : Int, σ.2.1 14 n1 ≤ p ∧ p < x2 ∧ ¬ σ.2.1 16 p = -1 ∧ σ.2.1 15 p = s from by (first | exact fun s hs => Or.inl hs | (intro s hs; have q9 := i10_4 s hs; rcases q9 with q | ⟨p, p0, p1, p2, p3⟩; exact Or.inl q; exact Or.inr ⟨p, p0, by omega, p2, p3⟩) | (intro s hs; by_cases y : s = x10; (exact Or.inr ⟨u2_10, by omega, by omega, by rw [← e_x7]; assumption, by rw [y, e_x10]⟩); (rw [st_n _ _ y] at hs; have q9 := i10_4 s hs; rcases q9 with q | ⟨p, p0, p1, p2, p3⟩; exact Or.inl q; exact Or.inr ⟨p, p0, by omega, p2, p3⟩)) | fail)) (show ∀ s : Int, σ.2.1 26 s = (σ.1 12) → σ.2.1 26 s = (σ.1 12) from by (first | exact fun s hs => hs | exact i10_5 | (intro s hs; by_cases y : s = x10; (rw [y, st_s, W12]); (rw [st_n _ _ y]; exact i10_5 s hs)) | fail)) (show ∀ s : Int, σ.2.1 26 s ≤ (σ.1 12) from MT)
set_option maxHeartbeats 1000000 in
theorem K2_X9_markFrame {n1 : Int} {σ : S0} (hT : c_T σ) (p1 : 0 ≤ n1) (p2 : n1 < 1500) (p3 : (σ.1 12) < 2147483647) (p4 : n1 = (σ.1 7)) (p5 : J_sc (σ.1 7) (σ.1 9) (σ.2.1 13) (σ.2.1 14) (σ.2.1 15) (σ.2.1 16) (σ.2.1 22) (σ.2.1 19)) (p6 : J_ip n1 (σ.1 6) (σ.1 37) (σ.2.1 14) (σ.2.1 15) (σ.2.1 16) (σ.2.1 19)) (p7 : ¬ (σ.1 37) = 0) (p8 : σ.2.1 14 (n1 + 1) = (σ.1 6)) (p9 : σ.2.1 14 n1 ≤ (σ.1 6)) (p10 : ∀ i : Int, 0 ≤ i → i < (σ.1 7) → J_t i (σ.1 6) (σ.2.1 13) (σ.2.1 14) (σ.2.1 15) (σ.2.1 16) (σ.2.1 10)) (p11 : ∀ s : Int, σ.2.1 26 s ≤ (σ.1 12)) : W_X9_markFrame n1 σ (fun (τ : S0) => (c_T τ) ∧ ((τ.1 12) = (σ.1 12) + 1) ∧ (J_mA n1 (τ.1 12) (τ.2.1 14) (τ.2.1 15) (τ.2.1 16) (τ.2.1 26)) ∧ (J_mB (τ.1 12) (τ.1 9) (τ.2.1 13) (τ.2.1 14) (τ.2.1 15) (τ.2.1 22) (τ.2.1 26)) ∧ (∀ s : Int, τ.2.1 26 s ≤ (τ.1 12)) ∧ (J_mC n1 (τ.1 12) (τ.1 9) (τ.2.1 13) (τ.2.1 14) (τ.2.1 15) (τ.2.1 16) (τ.2.1 22) (τ.2.1 26))) := by
  have A10 : ∀ j, (-1) ≤ σ.2.1 10 j ∧ σ.2.1 10 j ≤ 99 := fun j => hT.2 10 j
  have A13 : ∀ j, 0 ≤ σ.2.1 13 j ∧ σ.2.1 13 j ≤ 4 := fun j => hT.2 13 j
  have A14 : ∀ j, 0 ≤ σ.2.1 14 j ∧ σ.2.1 14 j ≤ 30000 := fun j => hT.2 14 j
  have A15 : ∀ j, 0 ≤ σ.2.1 15 j ∧ σ.2.1 15 j ≤ 999 := fun j => hT.2 15 j
  have A16 : ∀ j, (-1) ≤ σ.2.1 16 j ∧ σ.2.1 16 j ≤ 1499 := fun j => hT.2 16 j
  have A19 : ∀ j, (-1) ≤ σ.2.1 19 j ∧ σ.2.1 19 j ≤ 1499 := fun j => hT.2 19 j
  have A22 : ∀ j, 0 ≤ σ.2.1 22 j ∧ σ.2.1 22 j ≤ 1499 := fun j => hT.2 22 j
  have A26 : ∀ j, (-2147483648) ≤ σ.2.1 26 j ∧ σ.2.1 26 j ≤ 2147483647 := fun j => hT.2 26 j
  have v6 : 0 ≤ σ.1 6 ∧ σ.1 6 ≤ 30000 := hT.1 6
  have v7 : 0 ≤ σ.1 7 ∧ σ.1 7 ≤ 1500 := hT.1 7
  have v9 : 0 ≤ σ.1 9 ∧ σ.1 9 ≤ 1500 := hT.1 9
  have v12 : (-2147483648) ≤ σ.1 12 ∧ σ.1 12 ≤ 2147483647 := hT.1 12
  have v37 : 0 ≤ σ.1 37 ∧ σ.1 37 ≤ 4 := hT.1 37
  have W6 : σ.1 6 = σ.1 6 := rfl
  have W7 : σ.1 7 = σ.1 7 := rfl
  have W9 : σ.1 9 = σ.1 9 := rfl
  have W37 : σ.1 37 = σ.1 37 := rfl
  have G10 : σ.2.1 10 = σ.2.1 10 := rfl
  have G13 : σ.2.1 13 = σ.2.1 13 := rfl
  have G14 : σ.2.1 14 = σ.2.1 14 := rfl
  have G15 : σ.2.1 15 = σ.2.1 15 := rfl
  have G16 : σ.2.1 16 = σ.2.1 16 := rfl
  have G19 : σ.2.1 19 = σ.2.1 19 := rfl
  have G22 : σ.2.1 22 = σ.2.1 22 := rfl
  intro P17 h17
  have hT0 := hT
  have h022 : ∀ m, 0 ≤ σ.2.1 22 m := fun m => (A22 m).1
  have t015 : ∀ p : Int, 0 ≤ σ.2.1 15 p ∧ σ.2.1 15 p < 1000 := fun p => ⟨(A15 p).1, by have := (A15 p).2; omega⟩
  have f016 : ∀ p, -1 ≤ σ.2.1 16 p := fun p => (A16 p).1
  have SCn : J_sc n1 (σ.1 9) (σ.2.1 13) (σ.2.1 14) (σ.2.1 15) (σ.2.1 16) (σ.2.1 22) (σ.2.1 19) := by rw [p4]; exact p5
  have SC : J_sc (σ.1 7) (σ.1 9) (σ.2.1 13) (σ.2.1 14) (σ.2.1 15) (σ.2.1 16) (σ.2.1 22) (σ.2.1 19) := p5
  have MT : ∀ s : Int, σ.2.1 26 s ≤ (σ.1 12) := p11
  have JT : ∀ i : Int, 0 ≤ i → i < (σ.1 7) → J_t i (σ.1 6) (σ.2.1 13) (σ.2.1 14) (σ.2.1 15) (σ.2.1 16) (σ.2.1 10) := p10
  have JT_0 := JT
  have MT_0 := MT
  have SC_0 := SC
  have l_17 : ∀ (m_17 : Nat) (u2_17 : Int) (τ_17 : S0), 1501 - u2_17 < (m_17 : Int) → (c_T τ_17) → (τ_17.1 6 = σ.1 6) → (τ_17.1 7 = σ.1 7) → (τ_17.1 9 = σ.1 9) → (τ_17.1 37 = σ.1 37) → (τ_17.2.1 10 = σ.2.1 10) → (τ_17.2.1 13 = σ.2.1 13) → (τ_17.2.1 14 = σ.2.1 14) → (τ_17.2.1 15 = σ.2.1 15) → (τ_17.2.1 16 = σ.2.1 16) → (τ_17.2.1 19 = σ.2.1 19) → (τ_17.2.1 22 = σ.2.1 22) → (0 ≤ u2_17) → (u2_17 ≤ 1500) → ((τ_17.1 12) = (σ.1 12) + 1) → (J_mA n1 (τ_17.1 12) (τ_17.2.1 14) (τ_17.2.1 15) (τ_17.2.1 16) (τ_17.2.1 26)) → (J_mB (τ_17.1 12) (τ_17.1 9) (τ_17.2.1 13) (τ_17.2.1 14) (τ_17.2.1 15) (τ_17.2.1 22) (τ_17.2.1 26)) → (∀ s : Int, τ_17.2.1 26 s ≤ (τ_17.1 12)) → (J_mC n1 (τ_17.1 12) (τ_17.1 9) (τ_17.2.1 13) (τ_17.2.1 14) (τ_17.2.1 15) (τ_17.2.1 16) (τ_17.2.1 22) (τ_17.2.1 26)) → P17 u2_17 τ_17 := by
    intro m_17
    induction m_17 with
    | zero =>
      intro u2_17 τ_17 hm hT W6 W7 W9 W37 G10 G13 G14 G15 G16 G19 G22 i17_1 i17_2 i17_3 i17_4 i17_5 i17_6 i17_7
      have A10 : ∀ j, (-1) ≤ τ_17.2.1 10 j ∧ τ_17.2.1 10 j ≤ 99 := fun j => hT.2 10 j
      have A13 : ∀ j, 0 ≤ τ_17.2.1 13 j ∧ τ_17.2.1 13 j ≤ 4 := fun j => hT.2 13 j
      have A14 : ∀ j, 0 ≤ τ_17.2.1 14 j ∧ τ_17.2.1 14 j ≤ 30000 := fun j => hT.2 14 j
      have A15 : ∀ j, 0 ≤ τ_17.2.1 15 j ∧ τ_17.2.1 15 j ≤ 999 := fun j => hT.2 15 j
      have A16 : ∀ j, (-1) ≤ τ_17.2.1 16 j ∧ τ_17.2.1 16 j ≤ 1499 := fun j => hT.2 16 j
      have A19 : ∀ j, (-1) ≤ τ_17.2.1 19 j ∧ τ_17.2.1 19 j ≤ 1499 := fun j => hT.2 19 j
      have A22 : ∀ j, 0 ≤ τ_17.2.1 22 j ∧ τ_17.2.1 22 j ≤ 1499 := fun j => hT.2 22 j
      have A26 : ∀ j, (-2147483648) ≤ τ_17.2.1 26 j ∧ τ_17.2.1 26 j ≤ 2147483647 := fun j => hT.2 26 j
      have v6 : 0 ≤ τ_17.1 6 ∧ τ_17.1 6 ≤ 30000 := hT.1 6
      have v7 : 0 ≤ τ_17.1 7 ∧ τ_17.1 7 ≤ 1500 := hT.1 7
      have v9 : 0 ≤ τ_17.1 9 ∧ τ_17.1 9 ≤ 1500 := hT.1 9
      have v12 : (-2147483648) ≤ τ_17.1 12 ∧ τ_17.1 12 ≤ 2147483647 := hT.1 12
      have v37 : 0 ≤ τ_17.1 37 ∧ τ_17.1 37 ≤ 4 := hT.1 37
      exfalso; (first | omega | (simp only [st_s] <;> omega) | assumption | omega | fail)
    | succ m_17 ih_17 =>
      intro u2_17 τ_17 hm_17 hT W6 W7 W9 W37 G10 G13 G14 G15 G16 G19 G22 i17_1 i17_2 i17_3 i17_4 i17_5 i17_6 i17_7
      have A10 : ∀ j, (-1) ≤ τ_17.2.1 10 j ∧ τ_17.2.1 10 j ≤ 99 := fun j => hT.2 10 j
      have A13 : ∀ j, 0 ≤ τ_17.2.1 13 j ∧ τ_17.2.1 13 j ≤ 4 := fun j => hT.2 13 j
      have A14 : ∀ j, 0 ≤ τ_17.2.1 14 j ∧ τ_17.2.1 14 j ≤ 30000 := fun j => hT.2 14 j
      have A15 : ∀ j, 0 ≤ τ_17.2.1 15 j ∧ τ_17.2.1 15 j ≤ 999 := fun j => hT.2 15 j
      have A16 : ∀ j, (-1) ≤ τ_17.2.1 16 j ∧ τ_17.2.1 16 j ≤ 1499 := fun j => hT.2 16 j
      have A19 : ∀ j, (-1) ≤ τ_17.2.1 19 j ∧ τ_17.2.1 19 j ≤ 1499 := fun j => hT.2 19 j
      have A22 : ∀ j, 0 ≤ τ_17.2.1 22 j ∧ τ_17.2.1 22 j ≤ 1499 := fun j => hT.2 22 j
      have A26 : ∀ j, (-2147483648) ≤ τ_17.2.1 26 j ∧ τ_17.2.1 26 j ≤ 2147483647 := fun j => hT.2 26 j
      have v6 : 0 ≤ τ_17.1 6 ∧ τ_17.1 6 ≤ 30000 := hT.1 6
      have v7 : 0 ≤ τ_17.1 7 ∧ τ_17.1 7 ≤ 1500 := hT.1 7
      have v9 : 0 ≤ τ_17.1 9 ∧ τ_17.1 9 ≤ 1500 := hT.1 9
      have v12 : (-2147483648) ≤ τ_17.1 12 ∧ τ_17.1 12 ≤ 2147483647 := hT.1 12
      have v37 : 0 ≤ τ_17.1 37 ∧ τ_17.1 37 ≤ 4 := hT.1 37
      have SC : J_sc (τ_17.1 7) (τ_17.1 9) (τ_17.2.1 13) (τ_17.2.1 14) (τ_17.2.1 15) (τ_17.2.1 16) (τ_17.2.1 22) (τ_17.2.1 19) := by rw [show (J_sc (τ_17.1 7) (τ_17.1 9) (τ_17.2.1 13) (τ_17.2.1 14) (τ_17.2.1 15) (τ_17.2.1 16) (τ_17.2.1 22) (τ_17.2.1 19)) = (J_sc (σ.1 7) (σ.1 9) (σ.2.1 13) (σ.2.1 14) (σ.2.1 15) (σ.2.1 16) (σ.2.1 22) (σ.2.1 19)) from by rw [W7, W9, G13, G14, G15, G16, G19, G22]]; exact SC_0
      have MB : J_mB (τ_17.1 12) (τ_17.1 9) (τ_17.2.1 13) (τ_17.2.1 14) (τ_17.2.1 15) (τ_17.2.1 22) (τ_17.2.1 26) := i17_5
      have MT : ∀ s : Int, τ_17.2.1 26 s ≤ (τ_17.1 12) := i17_6
      have JT : ∀ i : Int, 0 ≤ i → i < (τ_17.1 7) → J_t i (τ_17.1 6) (τ_17.2.1 13) (τ_17.2.1 14) (τ_17.2.1 15) (τ_17.2.1 16) (τ_17.2.1 10) := by rw [show (∀ i : Int, 0 ≤ i → i < (τ_17.1 7) → J_t i (τ_17.1 6) (τ_17.2.1 13) (τ_17.2.1 14) (τ_17.2.1 15) (τ_17.2.1 16) (τ_17.2.1 10)) = (∀ i : Int, 0 ≤ i → i < (σ.1 7) → J_t i (σ.1 6) (σ.2.1 13) (σ.2.1 14) (σ.2.1 15) (σ.2.1 16) (σ.2.1 10)) from by rw [W6, W7, G10, G13, G14, G15, G16]]; exact JT_0
      refine h17 u2_17 τ_17 ?_
      refine ⟨fun c5 => ?_, fun c5 => ?_⟩
      ·
        exact ⟨hT, (show (τ_17.1 12) = (σ.1 12) + 1 from by (first | omega | (simp only [st_s] <;> omega) | assumption | omega | fail)), (show J_mA n1 (τ_17.1 12) (τ_17.2.1 14) (τ_17.2.1 15) (τ_17.2.1 16) (τ_17.2.1 26) from by (first | omega | (simp only [st_s] <;> omega) | assumption | omega | fail)), (show J_mB (τ_17.1 12) (τ_17.1 9) (τ_17.2.1 13) (τ_17.2.1 14) (τ_17.2.1 15) (τ_17.2.1 22) (τ_17.2.1 26) from MB), (show ∀ s : Int, τ_17.2.1 26 s ≤ (τ_17.1 12) from MT), (show J_mC n1 (τ_17.1 12) (τ_17.1 9) (τ_17.2.1 13) (τ_17.2.1 14) (τ_17.2.1 15) (τ_17.2.1 16) (τ_17.2.1 22) (τ_17.2.1 26) from by (first | omega | (simp only [st_s] <;> omega) | assumption | omega | fail))⟩
      ·
        refine ⟨(show 0 ≤ u2_17 ∧ u2_17 < 1500 from by (first | omega | (simp only [st_s] <;> omega) | assumption | omega | fail)), ?_⟩
        intro x7 r_x7 e_x7
        have b_x7 : 0 ≤ x7 ∧ x7 ≤ 1499 := by rw [e_x7]; exact hT.2 22 _
        refine ⟨(show 0 ≤ x7 ∧ x7 < 1500 from by (first | omega | (simp only [st_s] <;> omega) | assumption | omega | fail)), ?_⟩
        intro x9 r_x9 e_x9
        have b_x9 : 0 ≤ x9 ∧ x9 ≤ 4 := by rw [e_x9]; exact hT.2 13 _
        refine ⟨fun c10 => ?_, fun c10 => ?_⟩
        ·
          refine ⟨(⟨by (first | omega | (simp only [st_s] <;> omega) | assumption | omega | fail), by (first | omega | (simp only [st_s] <;> omega) | assumption | omega | fail)⟩ : rg (u2_17 + 1)), ?_⟩
          exact ih_17 _ _ (show (1501 - (u2_17 + 1) : Int) < ((m_17 : Nat) : Int) from by ((first | omega | (simp only [st_s] <;> omega) | assumption | omega | fail))) hT (show τ_17.1 6 = σ.1 6 from by first | exact W6 | omega) (show τ_17.1 7 = σ.1 7 from by first | exact W7 | omega) (show τ_17.1 9 = σ.1 9 from by first | exact W9 | omega) (show τ_17.1 37 = σ.1 37 from by first | exact W37 | omega) G10 G13 G14 G15 G16 G19 G22 (show 0 ≤ (u2_17 + 1) from by (first | omega | (simp only [st_s] <;> omega) | assumption | omega | fail)) (show (u2_17 + 1) ≤ 1500 from by (first | omega | (simp only [st_s] <;> omega) | assumption | omega | fail)) (show (τ_17.1 12) = (σ.1 12) + 1 from by (first | omega | (simp only [st_s] <;> omega) | assumption | omega | fail)) (show J_mA n1 (τ_17.1 12) (τ_17.2.1 14) (τ_17.2.1 15) (τ_17.2.1 16) (τ_17.2.1 26) from by (first | exact i17_4 | (intro p p0 p1 p2; rw [w12_τ4]; rw [g14_τ4] at p0 p1; rw [g16_τ4] at p2; rw [g15_τ4]; exact q2_1 p p0 p1 p2) | (intro p p0 p1 p2; rw [w12_τ15, g15_τ15]; rw [g14_τ15] at p0 p1; rw [g16_τ15] at p2; exact q13_3 _ (i17_4 p p0 p1 p2)) | fail)) (show J_mB (τ_17.1 12) (τ_17.1 9) (τ_17.2.1 13) (τ_17.2.1 14) (τ_17.2.1 15) (τ_17.2.1 22) (τ_17.2.1 26) from MB) (show ∀ s : Int, τ_17.2.1 26 s ≤ (τ_17.1 12) from MT) (show J_mC n1 (τ_17.1 12) (τ_17.1 9) (τ_17.2.1 13) (τ_17.2.1 14) (τ_17.2.1 15) (τ_17.2.1 16) (τ_17.2.1 22) (τ_17.2.1 26) from by (first | exact i17_7 | (rw [w12_τ4, w9_τ4, g13_τ4, g14_τ4, g15_τ4, g16_τ4, g22_τ4]; refine Or.inr fun s hs => ?_; have q9 := q2_2 s hs; rcases q9 with q | q; (exfalso; have := MT_0 s; omega); exact q) | (refine Or.inl ⟨u2_17, by omega, by omega, ?_⟩; rw [g13_τ15, g22_τ15, ← e_x7, ← e_x9]; exact c10) | fail))
        ·
          intro x12 r_x12 e_x12
          have b_x12 : 0 ≤ x12 ∧ x12 ≤ 1499 := by rw [e_x12]; exact hT.2 22 _
          have jt := JT_0 x7 (by omega) (by rw [e_x7, G22]; exact (SC_0.1 u2_17 (by omega) (by omega)).1)
          have jt1 := jt.1
          have e12 : x12 = x7 := by omega
          have MBs := MB
          rw [W9, G13, G14, G15, G22] at MBs
          refine ⟨_, K2_X9_markVariables hT (show 0 ≤ x12 from by (first | omega | (simp only [st_s] <;> omega) | assumption | omega | fail)) (show x12 < 1500 from by (first | omega | (simp only [st_s] <;> omega) | assumption | omega | fail)) (show τ_17.2.1 14 x12 ≤ τ_17.2.1 14 (x12 + 1) from by (rw [e12, G14]; omega)) (show ∀ s : Int, τ_17.2.1 26 s ≤ (τ_17.1 12) from MT), ?_⟩
          intro τ15 hn_τ15 hf_τ15 hq
          obtain ⟨hT, q13_1, q13_2, q13_3, q13_4⟩ := hq
          replace q13_1 : ∀ p : Int, τ_17.2.1 14 x12 ≤ p → p < τ_17.2.1 14 (x12 + 1) → ¬ τ_17.2.1 16 p = -1 → τ15.2.1 26 (τ_17.2.1 15 p) = (τ_17.1 12) := q13_1
          replace q13_2 : ∀ s : Int, τ15.2.1 26 s = (τ_17.1 12) → τ_17.2.1 26 s = (τ_17.1 12) ∨ ∃ p : Int, τ_17.2.1 14 x12 ≤ p ∧ p < τ_17.2.1 14 (x12 + 1) ∧ ¬ τ_17.2.1 16 p = -1 ∧ τ_17.2.1 15 p = s := q13_2
          replace q13_3 : ∀ s : Int, τ_17.2.1 26 s = (τ_17.1 12) → τ15.2.1 26 s = (τ_17.1 12) := q13_3
          replace q13_4 : ∀ s : Int, τ15.2.1 26 s ≤ (τ_17.1 12) := q13_4
          have w6_τ15 : τ15.1 6 = τ_17.1 6 := hf_τ15.1 6 (by decide)
          have w7_τ15 : τ15.1 7 = τ_17.1 7 := hf_τ15.1 7 (by decide)
          have w9_τ15 : τ15.1 9 = τ_17.1 9 := hf_τ15.1 9 (by decide)
          have w12_τ15 : τ15.1 12 = τ_17.1 12 := hf_τ15.1 12 (by decide)
          have w37_τ15 : τ15.1 37 = τ_17.1 37 := hf_τ15.1 37 (by decide)
          have g10_τ15 : τ15.2.1 10 = τ_17.2.1 10 := hf_τ15.2.1 10 (by decide)
          have g13_τ15 : τ15.2.1 13 = τ_17.2.1 13 := hf_τ15.2.1 13 (by decide)
          have g14_τ15 : τ15.2.1 14 = τ_17.2.1 14 := hf_τ15.2.1 14 (by decide)
          have g15_τ15 : τ15.2.1 15 = τ_17.2.1 15 := hf_τ15.2.1 15 (by decide)
          have g16_τ15 : τ15.2.1 16 = τ_17.2.1 16 := hf_τ15.2.1 16 (by decide)
          have g19_τ15 : τ15.2.1 19 = τ_17.2.1 19 := hf_τ15.2.1 19 (by decide)
          have g22_τ15 : τ15.2.1 22 = τ_17.2.1 22 := hf_τ15.2.1 22 (by decide)
          have W6 : τ15.1 6 = σ.1 6 := by first | exact w6_τ15.trans W6 | omega
          have W7 : τ15.1 7 = σ.1 7 := by first | exact w7_τ15.trans W7 | omega
          have W9 : τ15.1 9 = σ.1 9 := by first | exact w9_τ15.trans W9 | omega
          have W37 : τ15.1 37 = σ.1 37 := by first | exact w37_τ15.trans W37 | omega
          have G10 : τ15.2.1 10 = σ.2.1 10 := (g10_τ15).trans G10
          have G13 : τ15.2.1 13 = σ.2.1 13 := (g13_τ15).trans G13
          have G14 : τ15.2.1 14 = σ.2.1 14 := (g14_τ15).trans G14
          have G15 : τ15.2.1 15 = σ.2.1 15 := (g15_τ15).trans G15
          have G16 : τ15.2.1 16 = σ.2.1 16 := (g16_τ15).trans G16
          have G19 : τ15.2.1 19 = σ.2.1 19 := (g19_τ15).trans G19
          have G22 : τ15.2.1 22 = σ.2.1 22 := (g22_τ15).trans G22
          have SC : J_sc (τ15.1 7) (τ15.1 9) (τ15.2.1 13) (τ15.2.1 14) (τ15.2.1 15) (τ15.2.1 16) (τ15.2.1 22) (τ15.2.1 19) := by rw [show (J_sc (τ15.1 7) (τ15.1 9) (τ15.2.1 13) (τ15.2.1 14) (τ15.2.1 15) (τ15.2.1 16) (τ15.2.1 22) (τ15.2.1 19)) = (J_sc (τ_17.1 7) (τ_17.1 9) (τ_17.2.1 13) (τ_17.2.1 14) (τ_17.2.1 15) (τ_17.2.1 16) (τ_17.2.1 22) (τ_17.2.1 19)) from by rw [w7_τ15, w9_τ15, g13_τ15, g14_τ15, g15_τ15, g16_τ15, g19_τ15, g22_τ15]]; exact SC
          have JT : ∀ i : Int, 0 ≤ i → i < (τ15.1 7) → J_t i (τ15.1 6) (τ15.2.1 13) (τ15.2.1 14) (τ15.2.1 15) (τ15.2.1 16) (τ15.2.1 10) := by rw [show (∀ i : Int, 0 ≤ i → i < (τ15.1 7) → J_t i (τ15.1 6) (τ15.2.1 13) (τ15.2.1 14) (τ15.2.1 15) (τ15.2.1 16) (τ15.2.1 10)) = (∀ i : Int, 0 ≤ i → i < (τ_17.1 7) → J_t i (τ_17.1 6) (τ_17.2.1 13) (τ_17.2.1 14) (τ_17.2.1 15) (τ_17.2.1 16) (τ_17.2.1 10)) from by rw [w6_τ15, w7_τ15, g10_τ15, g13_τ15, g14_τ15, g15_τ15, g16_τ15]]; exact JT
          have A10 : ∀ j, (-1) ≤ τ15.2.1 10 j ∧ τ15.2.1 10 j ≤ 99 := fun j => hT.2 10 j
          have A13 : ∀ j, 0 ≤ τ15.2.1 13 j ∧ τ15.2.1 13 j ≤ 4 := fun j => hT.2 13 j
          have A14 : ∀ j, 0 ≤ τ15.2.1 14 j ∧ τ15.2.1 14 j ≤ 30000 := fun j => hT.2 14 j
          have A15 : ∀ j, 0 ≤ τ15.2.1 15 j ∧ τ15.2.1 15 j ≤ 999 := fun j => hT.2 15 j
          have A16 : ∀ j, (-1) ≤ τ15.2.1 16 j ∧ τ15.2.1 16 j ≤ 1499 := fun j => hT.2 16 j
          have A19 : ∀ j, (-1) ≤ τ15.2.1 19 j ∧ τ15.2.1 19 j ≤ 1499 := fun j => hT.2 19 j
          have A22 : ∀ j, 0 ≤ τ15.2.1 22 j ∧ τ15.2.1 22 j ≤ 1499 := fun j => hT.2 22 j
          have A26 : ∀ j, (-2147483648) ≤ τ15.2.1 26 j ∧ τ15.2.1 26 j ≤ 2147483647 := fun j => hT.2 26 j
          have v6 : 0 ≤ τ15.1 6 ∧ τ15.1 6 ≤ 30000 := hT.1 6
          have v7 : 0 ≤ τ15.1 7 ∧ τ15.1 7 ≤ 1500 := hT.1 7
          have v9 : 0 ≤ τ15.1 9 ∧ τ15.1 9 ≤ 1500 := hT.1 9
          have v12 : (-2147483648) ≤ τ15.1 12 ∧ τ15.1 12 ≤ 2147483647 := hT.1 12
          have v37 : 0 ≤ τ15.1 37 ∧ τ15.1 37 ≤ 4 := hT.1 37
          refine ⟨(⟨by (first | omega | (simp only [st_s] <;> omega) | assumption | omega | fail), by (first | omega | (simp only [st_s] <;> omega) | assumption | omega | fail)⟩ : rg (u2_17 + 1)), ?_⟩
          exact ih_17 _ _ (show (1501 - (u2_17 + 1) : Int) < ((m_17 : Nat) : Int) from by ((first | omega | (simp only [st_s] <;> omega) | assumption | omega | fail))) hT (show τ15.1 6 = σ.1 6 from by first | exact W6 | omega) (show τ15.1 7 = σ.1 7 from by first | exact W7 | omega) (show τ15.1 9 = σ.1 9 from by first | exact W9 | omega) (show τ15.1 37 = σ.1 37 from by first | exact W37 | omega) G10 G13 G14 G15 G16 G19 G22 (show 0 ≤ (u2_17 + 1) from by (first | omega | (simp only [st_s] <;> omega) | assumption | omega | fail)) (show (u2_17 + 1) ≤ 1500 from by (first | omega | (simp only [st_s] <;> omega) | assumption | omega | fail)) (show (τ15.1 12) = (σ.1 12) + 1 from by (first | omega | (simp only [st_s] <;> omega) | assumption | omega | fail)) (show J_mA n1 (τ15.1 12) (τ15.2.1 14) (τ15.2.1 15) (τ15.2.1 16) (τ15.2.1 26) from by (first | exact i17_4 | (intro p p0 p1 p2; rw [w12_τ4]; rw [g14_τ4] at p0 p1; rw [g16_τ4] at p2; rw [g15_τ4]; exact q2_1 p p0 p1 p2) | (intro p p0 p1 p2; rw [w12_τ15, g15_τ15]; rw [g14_τ15] at p0 p1; rw [g16_τ15] at p2; exact q13_3 _ (i17_4 p p0 p1 p2)) | fail)) (show J_mB (τ15.1 12) (τ15.1 9) (τ15.2.1 13) (τ15.2.1 14) (τ15.2.1 15) (τ15.2.1 22) (τ15.2.1 26) from by (first | exact MB | (rw [w12_τ4, w9_τ4, g13_τ4, g14_τ4, g15_τ4, g22_τ4]; exact J_mB_a SCn p6 p7 p8 t015 f016 q2_2 (fun s z => by have := MT_0 s; omega)) | (rw [w12_τ15, W9, G13, G14, G15, G22]; rw [← g14_τ15, ← g15_τ15, ← g16_τ15, G14, G15, G16] at q13_2; have ey : x12 = σ.2.1 22 u2_17 := (by rw [e_x12, ← g22_τ15, G22]); rw [ey] at q13_2; exact J_mB_e SC_0 JT_0 h022 f016 MBs (by omega) (by omega) (by have h9 := c10; rw [e_x9, ← g13_τ15, G13, ← e12, ey] at h9; exact h9) q13_2) | fail)) (show ∀ s : Int, τ15.2.1 26 s ≤ (τ15.1 12) from by (first | exact MT | (intro s; rw [w12_τ4]; exact q2_4 s) | (intro s; rw [w12_τ15]; exact q13_4 s) | fail)) (show J_mC n1 (τ15.1 12) (τ15.1 9) (τ15.2.1 13) (τ15.2.1 14) (τ15.2.1 15) (τ15.2.1 16) (τ15.2.1 22) (τ15.2.1 26) from by (first | exact i17_7 | (rw [w12_τ4, w9_τ4, g13_τ4, g14_τ4, g15_τ4, g16_τ4, g22_τ4]; refine Or.inr fun s hs => ?_; have q9 := q2_2 s hs; rcases q9 with q | q; (exfalso; have := MT_0 s; omega); exact q) | (refine Or.inl ⟨u2_17, by omega, by omega, ?_⟩; rw [g13_τ15, g22_τ15, ← e_x7, ← e_x9]; exact c10) | fail))
  refine ⟨(⟨by (first | omega | (simp only [st_s] <;> omega) | assumption | omega | fail), by (first | omega | (simp only [st_s] <;> omega) | assumption | omega | fail)⟩ : rg (σ.1 12 + 1)), ?_⟩
  replace hT := cT_v (i := 12) hT (show (-2147483648) ≤ (σ.1 12 + 1) ∧ (σ.1 12 + 1) ≤ 2147483647 from by (first | omega | (simp only [st_s] <;> omega) | assumption | omega | fail))
  have MTn : ∀ s : Int, σ.2.1 26 s ≤ σ.1 12 + 1 := fun s => by have := MT_0 s; omega
  refine ⟨_, K2_X9_markVariables hT (show 0 ≤ n1 from by (first | omega | (simp only [st_s] <;> omega) | assumption | omega | fail)) (show n1 < 1500 from by (first | omega | (simp only [st_s] <;> omega) | assumption | omega | fail)) (show σ.2.1 14 n1 ≤ σ.2.1 14 (n1 + 1) from by (first | omega | (simp only [st_s] <;> omega) | assumption | omega | fail)) (show ∀ s : Int, σ.2.1 26 s ≤ ((σ.1 12 + 1)) from by exact MTn), ?_⟩
  intro τ4 hn_τ4 hf_τ4 hq
  obtain ⟨hT, q2_1, q2_2, q2_3, q2_4⟩ := hq
  replace q2_1 : ∀ p : Int, σ.2.1 14 n1 ≤ p → p < σ.2.1 14 (n1 + 1) → ¬ σ.2.1 16 p = -1 → τ4.2.1 26 (σ.2.1 15 p) = ((σ.1 12 + 1)) := q2_1
  replace q2_2 : ∀ s : Int, τ4.2.1 26 s = ((σ.1 12 + 1)) → σ.2.1 26 s = ((σ.1 12 + 1)) ∨ ∃ p : Int, σ.2.1 14 n1 ≤ p ∧ p < σ.2.1 14 (n1 + 1) ∧ ¬ σ.2.1 16 p = -1 ∧ σ.2.1 15 p = s := q2_2
  replace q2_3 : ∀ s : Int, σ.2.1 26 s = ((σ.1 12 + 1)) → τ4.2.1 26 s = ((σ.1 12 + 1)) := q2_3
  replace q2_4 : ∀ s : Int, τ4.2.1 26 s ≤ ((σ.1 12 + 1)) := q2_4
  have w6_τ4 : τ4.1 6 = σ.1 6 := hf_τ4.1 6 (by decide)
  have w7_τ4 : τ4.1 7 = σ.1 7 := hf_τ4.1 7 (by decide)
  have w9_τ4 : τ4.1 9 = σ.1 9 := hf_τ4.1 9 (by decide)
  have w12_τ4 : τ4.1 12 = (σ.1 12 + 1) := hf_τ4.1 12 (by decide)
  have w37_τ4 : τ4.1 37 = σ.1 37 := hf_τ4.1 37 (by decide)
  have g10_τ4 : τ4.2.1 10 = σ.2.1 10 := hf_τ4.2.1 10 (by decide)
  have g13_τ4 : τ4.2.1 13 = σ.2.1 13 := hf_τ4.2.1 13 (by decide)
  have g14_τ4 : τ4.2.1 14 = σ.2.1 14 := hf_τ4.2.1 14 (by decide)
  have g15_τ4 : τ4.2.1 15 = σ.2.1 15 := hf_τ4.2.1 15 (by decide)
  have g16_τ4 : τ4.2.1 16 = σ.2.1 16 := hf_τ4.2.1 16 (by decide)
  have g19_τ4 : τ4.2.1 19 = σ.2.1 19 := hf_τ4.2.1 19 (by decide)
  have g22_τ4 : τ4.2.1 22 = σ.2.1 22 := hf_τ4.2.1 22 (by decide)
  have W6 : τ4.1 6 = σ.1 6 := by first | exact w6_τ4.trans W6 | omega
  have W7 : τ4.1 7 = σ.1 7 := by first | exact w7_τ4.trans W7 | omega
  have W9 : τ4.1 9 = σ.1 9 := by first | exact w9_τ4.trans W9 | omega
  have W37 : τ4.1 37 = σ.1 37 := by first | exact w37_τ4.trans W37 | omega
  have G10 : τ4.2.1 10 = σ.2.1 10 := (g10_τ4).trans G10
  have G13 : τ4.2.1 13 = σ.2.1 13 := (g13_τ4).trans G13
  have G14 : τ4.2.1 14 = σ.2.1 14 := (g14_τ4).trans G14
  have G15 : τ4.2.1 15 = σ.2.1 15 := (g15_τ4).trans G15
  have G16 : τ4.2.1 16 = σ.2.1 16 := (g16_τ4).trans G16
  have G19 : τ4.2.1 19 = σ.2.1 19 := (g19_τ4).trans G19
  have G22 : τ4.2.1 22 = σ.2.1 22 := (g22_τ4).trans G22
  have SC : J_sc (τ4.1 7) (τ4.1 9) (τ4.2.1 13) (τ4.2.1 14) (τ4.2.1 15) (τ4.2.1 16) (τ4.2.1 22) (τ4.2.1 19) := by rw [show (J_sc (τ4.1 7) (τ4.1 9) (τ4.2.1 13) (τ4.2.1 14) (τ4.2.1 15) (τ4.2.1 16) (τ4.2.1 22) (τ4.2.1 19)) = (J_sc (σ.1 7) (σ.1 9) (σ.2.1 13) (σ.2.1 14) (σ.2.1 15) (σ.2.1 16) (σ.2.1 22) (σ.2.1 19)) from by rw [w7_τ4, w9_τ4, g13_τ4, g14_τ4, g15_τ4, g16_τ4, g19_τ4, g22_τ4]]; exact SC
  have JT : ∀ i : Int, 0 ≤ i → i < (τ4.1 7) → J_t i (τ4.1 6) (τ4.2.1 13) (τ4.2.1 14) (τ4.2.1 15) (τ4.2.1 16) (τ4.2.1 10) := by rw [show (∀ i : Int, 0 ≤ i → i < (τ4.1 7) → J_t i (τ4.1 6) (τ4.2.1 13) (τ4.2.1 14) (τ4.2.1 15) (τ4.2.1 16) (τ4.2.1 10)) = (∀ i : Int, 0 ≤ i → i < (σ.1 7) → J_t i (σ.1 6) (σ.2.1 13) (σ.2.1 14) (σ.2.1 15) (σ.2.1 16) (σ.2.1 10)) from by rw [w6_τ4, w7_τ4, g10_τ4, g13_τ4, g14_τ4, g15_τ4, g16_τ4]]; exact JT
  have A10 : ∀ j, (-1) ≤ τ4.2.1 10 j ∧ τ4.2.1 10 j ≤ 99 := fun j => hT.2 10 j
  have A13 : ∀ j, 0 ≤ τ4.2.1 13 j ∧ τ4.2.1 13 j ≤ 4 := fun j => hT.2 13 j
  have A14 : ∀ j, 0 ≤ τ4.2.1 14 j ∧ τ4.2.1 14 j ≤ 30000 := fun j => hT.2 14 j
  have A15 : ∀ j, 0 ≤ τ4.2.1 15 j ∧ τ4.2.1 15 j ≤ 999 := fun j => hT.2 15 j
  have A16 : ∀ j, (-1) ≤ τ4.2.1 16 j ∧ τ4.2.1 16 j ≤ 1499 := fun j => hT.2 16 j
  have A19 : ∀ j, (-1) ≤ τ4.2.1 19 j ∧ τ4.2.1 19 j ≤ 1499 := fun j => hT.2 19 j
  have A22 : ∀ j, 0 ≤ τ4.2.1 22 j ∧ τ4.2.1 22 j ≤ 1499 := fun j => hT.2 22 j
  have A26 : ∀ j, (-2147483648) ≤ τ4.2.1 26 j ∧ τ4.2.1 26 j ≤ 2147483647 := fun j => hT.2 26 j
  have v6 : 0 ≤ τ4.1 6 ∧ τ4.1 6 ≤ 30000 := hT.1 6
  have v7 : 0 ≤ τ4.1 7 ∧ τ4.1 7 ≤ 1500 := hT.1 7
  have v9 : 0 ≤ τ4.1 9 ∧ τ4.1 9 ≤ 1500 := hT.1 9
  have v12 : (-2147483648) ≤ τ4.1 12 ∧ τ4.1 12 ≤ 2147483647 := hT.1 12
  have v37 : 0 ≤ τ4.1 37 ∧ τ4.1 37 ≤ 4 := hT.1 37
  exact l_17 ((1501 - 0 : Int).toNat + 1) _ _ (show (1501 - 0 : Int) < (((1501 - 0 : Int).toNat + 1 : Nat) : Int) from by ((first | omega | (simp only [st_s] <;> omega) | assumption | omega | fail))) hT (show τ4.1 6 = σ.1 6 from by first | exact W6 | omega) (show τ4.1 7 = σ.1 7 from by first | exact W7 | omega) (show τ4.1 9 = σ.1 9 from by first | exact W9 | omega) (show τ4.1 37 = σ.1 37 from by first | exact W37 | omega) G10 G13 G14 G15 G16 G19 G22 (show 0 ≤ 0 from by (first | omega | (simp only [st_s] <;> omega) | assumption | omega | fail)) (show 0 ≤ 1500 from by (first | omega | (simp only [st_s] <;> omega) | assumption | omega | fail)) (show (τ4.1 12) = (σ.1 12) + 1 from by (first | omega | (simp only [st_s] <;> omega) | assumption | omega | fail)) (show J_mA n1 (τ4.1 12) (τ4.2.1 14) (τ4.2.1 15) (τ4.2.1 16) (τ4.2.1 26) from by (first | exact i17_4 | (intro p p0 p1 p2; rw [w12_τ4]; rw [g14_τ4] at p0 p1; rw [g16_τ4] at p2; rw [g15_τ4]; exact q2_1 p p0 p1 p2) | (intro p p0 p1 p2; rw [w12_τ15, g15_τ15]; rw [g14_τ15] at p0 p1; rw [g16_τ15] at p2; exact q13_3 _ (i17_4 p p0 p1 p2)) | fail)) (show J_mB (τ4.1 12) (τ4.1 9) (τ4.2.1 13) (τ4.2.1 14) (τ4.2.1 15) (τ4.2.1 22) (τ4.2.1 26) from by (first | exact MB | (rw [w12_τ4, w9_τ4, g13_τ4, g14_τ4, g15_τ4, g22_τ4]; exact J_mB_a SCn p6 p7 p8 t015 f016 q2_2 (fun s z => by have := MT_0 s; omega)) | (rw [w12_τ15, W9, G13, G14, G15, G22]; rw [← g14_τ15, ← g15_τ15, ← g16_τ15, G14, G15, G16] at q13_2; have ey : x12 = σ.2.1 22 u2_17 := (by rw [e_x12, ← g22_τ15, G22]); rw [ey] at q13_2; exact J_mB_e SC_0 JT_0 h022 f016 MBs (by omega) (by omega) (by have h9 := c10; rw [e_x9, ← g13_τ15, G13, ← e12, ey] at h9; exact h9) q13_2) | fail)) (show ∀ s : Int, τ4.2.1 26 s ≤ (τ4.1 12) from by (first | exact MT | (intro s; rw [w12_τ4]; exact q2_4 s) | (intro s; rw [w12_τ15]; exact q13_4 s) | fail)) (show J_mC n1 (τ4.1 12) (τ4.1 9) (τ4.2.1 13) (τ4.2.1 14) (τ4.2.1 15) (τ4.2.1 16) (τ4.2.1 22) (τ4.2.1 26) from by (first | exact i17_7 | (rw [w12_τ4, w9_τ4, g13_τ4, g14_τ4, g15_τ4, g16_τ4, g22_τ4]; refine Or.inr fun s hs => ?_; have q9 := q2_2 s hs; rcases q9 with q | q; (exfalso; have := MT_0 s; omega); exact q) | (refine Or.inl ⟨u2_17, by omega, by omega, ?_⟩; rw [g13_τ15, g22_τ15, ← e_x7, ← e_x9]; exact c10) | fail))
set_option maxHeartbeats 1000000 in
theorem K2_X9_isInFrame {n1 : Int} {σ : S0} (hT : c_T σ) (p1 : 0 ≤ n1) (p2 : n1 < 1000) : W_X9_isInFrame n1 σ (fun (x : Int) => (0 ≤ x ∧ x ≤ 1) ∧ (¬ x = 0 → σ.2.1 26 n1 = (σ.1 12)) ∧ (x = 0 → ¬ σ.2.1 26 n1 = (σ.1 12))) := by
  have v12 : (-2147483648) ≤ σ.1 12 ∧ σ.1 12 ≤ 2147483647 := hT.1 12
  unfold W_X9_isInFrame
  refine ⟨(show 0 ≤ n1 ∧ n1 < 1000 from by (first | omega | (simp only [st_s] <;> omega) | assumption | omega | fail)), ?_⟩
  intro x2 r_x2 e_x2
  have b_x2 : (-2147483648) ≤ x2 ∧ x2 ≤ 2147483647 := by rw [e_x2]; exact hT.2 26 _
  refine ⟨fun c3 => ?_, fun c3 => ?_⟩
  ·
    exact ⟨(show 0 ≤ 0 ∧ 0 ≤ 1 from by (first | omega | (simp only [st_s] <;> omega) | assumption | omega | fail)), (show ¬ 0 = 0 → σ.2.1 26 n1 = (σ.1 12) from by (first | omega | (simp only [st_s] <;> omega) | assumption | omega | fail)), (show 0 = 0 → ¬ σ.2.1 26 n1 = (σ.1 12) from by (first | omega | (simp only [st_s] <;> omega) | assumption | omega | fail))⟩
  ·
    exact ⟨(show 0 ≤ 1 ∧ 1 ≤ 1 from by (first | omega | (simp only [st_s] <;> omega) | assumption | omega | fail)), (show ¬ 1 = 0 → σ.2.1 26 n1 = (σ.1 12) from by (first | omega | (simp only [st_s] <;> omega) | assumption | omega | fail)), (show 1 = 0 → ¬ σ.2.1 26 n1 = (σ.1 12) from by (first | omega | (simp only [st_s] <;> omega) | assumption | omega | fail))⟩
set_option maxHeartbeats 1000000 in
theorem K_X0_takeHypotheses {n1 : Int} {σ : S0} (hT : c_T σ) (p1 : 0 ≤ n1) (p2 : n1 < 1500) (p3 : n1 = (σ.1 7)) (p4 : (σ.1 13) ≤ 60 * n1) (p5 : J_hfa (σ.1 9) (σ.2.1 13) (σ.2.1 14) (σ.2.1 22)) (p6 : J_sc (σ.1 7) (σ.1 9) (σ.2.1 13) (σ.2.1 14) (σ.2.1 15) (σ.2.1 16) (σ.2.1 22) (σ.2.1 19)) : W_X0_takeHypotheses n1 σ (fun (x : Int) (τ : S0) => (c_T τ) ∧ (0 ≤ x ∧ x ≤ 1) ∧ (τ.2.1 27 n1 + τ.2.1 28 n1 = (τ.1 13)) ∧ ((τ.1 13) ≤ 60 * n1 + 60) ∧ (¬ x = 0 → J_tk n1 (τ.1 9) (τ.1 12) (τ.2.1 13) (τ.2.1 14) (τ.2.1 15) (τ.2.1 26) (τ.2.1 22) (τ.2.1 27) (τ.2.1 28) (τ.2.1 29)) ∧ (c_ag σ τ)) := by
  have A13 : ∀ j, 0 ≤ σ.2.1 13 j ∧ σ.2.1 13 j ≤ 4 := fun j => hT.2 13 j
  have A14 : ∀ j, 0 ≤ σ.2.1 14 j ∧ σ.2.1 14 j ≤ 30000 := fun j => hT.2 14 j
  have A15 : ∀ j, 0 ≤ σ.2.1 15 j ∧ σ.2.1 15 j ≤ 999 := fun j => hT.2 15 j
  have A16 : ∀ j, (-1) ≤ σ.2.1 16 j ∧ σ.2.1 16 j ≤ 1499 := fun j => hT.2 16 j
  have A19 : ∀ j, (-1) ≤ σ.2.1 19 j ∧ σ.2.1 19 j ≤ 1499 := fun j => hT.2 19 j
  have A22 : ∀ j, 0 ≤ σ.2.1 22 j ∧ σ.2.1 22 j ≤ 1499 := fun j => hT.2 22 j
  have A26 : ∀ j, (-2147483648) ≤ σ.2.1 26 j ∧ σ.2.1 26 j ≤ 2147483647 := fun j => hT.2 26 j
  have A27 : ∀ j, 0 ≤ σ.2.1 27 j ∧ σ.2.1 27 j ≤ 90000 := fun j => hT.2 27 j
  have A28 : ∀ j, 0 ≤ σ.2.1 28 j ∧ σ.2.1 28 j ≤ 60 := fun j => hT.2 28 j
  have A29 : ∀ j, 0 ≤ σ.2.1 29 j ∧ σ.2.1 29 j ≤ 1499 := fun j => hT.2 29 j
  have v3 : 0 ≤ σ.1 3 ∧ σ.1 3 ≤ 2500 := hT.1 3
  have v5 : 0 ≤ σ.1 5 ∧ σ.1 5 ≤ 1000 := hT.1 5
  have v6 : 0 ≤ σ.1 6 ∧ σ.1 6 ≤ 30000 := hT.1 6
  have v7 : 0 ≤ σ.1 7 ∧ σ.1 7 ≤ 1500 := hT.1 7
  have v9 : 0 ≤ σ.1 9 ∧ σ.1 9 ≤ 1500 := hT.1 9
  have v12 : (-2147483648) ≤ σ.1 12 ∧ σ.1 12 ≤ 2147483647 := hT.1 12
  have v13 : 0 ≤ σ.1 13 ∧ σ.1 13 ≤ 90000 := hT.1 13
  have v14 : 0 ≤ σ.1 14 ∧ σ.1 14 ≤ 20000 := hT.1 14
  have v15 : 0 ≤ σ.1 15 ∧ σ.1 15 ≤ 20000 := hT.1 15
  have v16 : 0 ≤ σ.1 16 ∧ σ.1 16 ≤ 20000 := hT.1 16
  have W3 : σ.1 3 = σ.1 3 := rfl
  have W5 : σ.1 5 = σ.1 5 := rfl
  have W6 : σ.1 6 = σ.1 6 := rfl
  have W7 : σ.1 7 = σ.1 7 := rfl
  have W9 : σ.1 9 = σ.1 9 := rfl
  have W12 : σ.1 12 = σ.1 12 := rfl
  have W14 : σ.1 14 = σ.1 14 := rfl
  have W15 : σ.1 15 = σ.1 15 := rfl
  have W16 : σ.1 16 = σ.1 16 := rfl
  have G13 : σ.2.1 13 = σ.2.1 13 := rfl
  have G14 : σ.2.1 14 = σ.2.1 14 := rfl
  have G15 : σ.2.1 15 = σ.2.1 15 := rfl
  have G16 : σ.2.1 16 = σ.2.1 16 := rfl
  have G19 : σ.2.1 19 = σ.2.1 19 := rfl
  have G22 : σ.2.1 22 = σ.2.1 22 := rfl
  have G26 : σ.2.1 26 = σ.2.1 26 := rfl
  have ag : c_ag σ σ := ag_0 σ
  intro P19 P73 h19 h73
  have JF : J_hfa (σ.1 9) (σ.2.1 13) (σ.2.1 14) (σ.2.1 22) := p5
  have SC : J_sc (σ.1 7) (σ.1 9) (σ.2.1 13) (σ.2.1 14) (σ.2.1 15) (σ.2.1 16) (σ.2.1 22) (σ.2.1 19) := p6
  have JF_0 := JF
  have SC_0 := SC
  have l_19 : ∀ (m_19 : Nat) (u2_19 : Int) (τ_19 : S0), 1501 - u2_19 < (m_19 : Int) → (c_T τ_19) → (c_ag σ τ_19) → (τ_19.1 3 = σ.1 3) → (τ_19.1 5 = σ.1 5) → (τ_19.1 6 = σ.1 6) → (τ_19.1 7 = σ.1 7) → (τ_19.1 9 = σ.1 9) → (τ_19.1 12 = σ.1 12) → (τ_19.1 14 = σ.1 14) → (τ_19.1 15 = σ.1 15) → (τ_19.1 16 = σ.1 16) → (τ_19.2.1 13 = σ.2.1 13) → (τ_19.2.1 14 = σ.2.1 14) → (τ_19.2.1 15 = σ.2.1 15) → (τ_19.2.1 16 = σ.2.1 16) → (τ_19.2.1 19 = σ.2.1 19) → (τ_19.2.1 22 = σ.2.1 22) → (τ_19.2.1 26 = σ.2.1 26) → (0 ≤ u2_19) → (u2_19 ≤ 1500) → (τ_19.2.1 27 n1 + τ_19.2.1 28 n1 = (τ_19.1 13)) → ((τ_19.1 13) ≤ 60 * n1 + τ_19.2.1 28 n1) → (J_hfa (τ_19.1 9) (τ_19.2.1 13) (τ_19.2.1 14) (τ_19.2.1 22)) → (J_tk n1 u2_19 (τ_19.1 12) (τ_19.2.1 13) (τ_19.2.1 14) (τ_19.2.1 15) (τ_19.2.1 26) (τ_19.2.1 22) (τ_19.2.1 27) (τ_19.2.1 28) (τ_19.2.1 29)) → (u2_19 ≤ (σ.1 9)) → P19 n1 u2_19 τ_19 := by
    intro m_19
    induction m_19 with
    | zero =>
      intro u2_19 τ_19 hm hT ag W3 W5 W6 W7 W9 W12 W14 W15 W16 G13 G14 G15 G16 G19 G22 G26 i19_1 i19_2 i19_3 i19_4 i19_5 i19_6 i19_7
      have A13 : ∀ j, 0 ≤ τ_19.2.1 13 j ∧ τ_19.2.1 13 j ≤ 4 := fun j => hT.2 13 j
      have A14 : ∀ j, 0 ≤ τ_19.2.1 14 j ∧ τ_19.2.1 14 j ≤ 30000 := fun j => hT.2 14 j
      have A15 : ∀ j, 0 ≤ τ_19.2.1 15 j ∧ τ_19.2.1 15 j ≤ 999 := fun j => hT.2 15 j
      have A16 : ∀ j, (-1) ≤ τ_19.2.1 16 j ∧ τ_19.2.1 16 j ≤ 1499 := fun j => hT.2 16 j
      have A19 : ∀ j, (-1) ≤ τ_19.2.1 19 j ∧ τ_19.2.1 19 j ≤ 1499 := fun j => hT.2 19 j
      have A22 : ∀ j, 0 ≤ τ_19.2.1 22 j ∧ τ_19.2.1 22 j ≤ 1499 := fun j => hT.2 22 j
      have A26 : ∀ j, (-2147483648) ≤ τ_19.2.1 26 j ∧ τ_19.2.1 26 j ≤ 2147483647 := fun j => hT.2 26 j
      have A27 : ∀ j, 0 ≤ τ_19.2.1 27 j ∧ τ_19.2.1 27 j ≤ 90000 := fun j => hT.2 27 j
      have A28 : ∀ j, 0 ≤ τ_19.2.1 28 j ∧ τ_19.2.1 28 j ≤ 60 := fun j => hT.2 28 j
      have A29 : ∀ j, 0 ≤ τ_19.2.1 29 j ∧ τ_19.2.1 29 j ≤ 1499 := fun j => hT.2 29 j
      have v3 : 0 ≤ τ_19.1 3 ∧ τ_19.1 3 ≤ 2500 := hT.1 3
      have v5 : 0 ≤ τ_19.1 5 ∧ τ_19.1 5 ≤ 1000 := hT.1 5
      have v6 : 0 ≤ τ_19.1 6 ∧ τ_19.1 6 ≤ 30000 := hT.1 6
      have v7 : 0 ≤ τ_19.1 7 ∧ τ_19.1 7 ≤ 1500 := hT.1 7
      have v9 : 0 ≤ τ_19.1 9 ∧ τ_19.1 9 ≤ 1500 := hT.1 9
      have v12 : (-2147483648) ≤ τ_19.1 12 ∧ τ_19.1 12 ≤ 2147483647 := hT.1 12
      have v13 : 0 ≤ τ_19.1 13 ∧ τ_19.1 13 ≤ 90000 := hT.1 13
      have v14 : 0 ≤ τ_19.1 14 ∧ τ_19.1 14 ≤ 20000 := hT.1 14
      have v15 : 0 ≤ τ_19.1 15 ∧ τ_19.1 15 ≤ 20000 := hT.1 15
      have v16 : 0 ≤ τ_19.1 16 ∧ τ_19.1 16 ≤ 20000 := hT.1 16
      have av13 : σ.1 13 ≤ τ_19.1 13 := ag.1 13 (by decide)
      exfalso; (first | omega | (simp only [st_s] <;> omega) | assumption | omega | fail)
    | succ m_19 ih_19 =>
      intro u2_19 τ_19 hm_19 hT ag W3 W5 W6 W7 W9 W12 W14 W15 W16 G13 G14 G15 G16 G19 G22 G26 i19_1 i19_2 i19_3 i19_4 i19_5 i19_6 i19_7
      have A13 : ∀ j, 0 ≤ τ_19.2.1 13 j ∧ τ_19.2.1 13 j ≤ 4 := fun j => hT.2 13 j
      have A14 : ∀ j, 0 ≤ τ_19.2.1 14 j ∧ τ_19.2.1 14 j ≤ 30000 := fun j => hT.2 14 j
      have A15 : ∀ j, 0 ≤ τ_19.2.1 15 j ∧ τ_19.2.1 15 j ≤ 999 := fun j => hT.2 15 j
      have A16 : ∀ j, (-1) ≤ τ_19.2.1 16 j ∧ τ_19.2.1 16 j ≤ 1499 := fun j => hT.2 16 j
      have A19 : ∀ j, (-1) ≤ τ_19.2.1 19 j ∧ τ_19.2.1 19 j ≤ 1499 := fun j => hT.2 19 j
      have A22 : ∀ j, 0 ≤ τ_19.2.1 22 j ∧ τ_19.2.1 22 j ≤ 1499 := fun j => hT.2 22 j
      have A26 : ∀ j, (-2147483648) ≤ τ_19.2.1 26 j ∧ τ_19.2.1 26 j ≤ 2147483647 := fun j => hT.2 26 j
      have A27 : ∀ j, 0 ≤ τ_19.2.1 27 j ∧ τ_19.2.1 27 j ≤ 90000 := fun j => hT.2 27 j
      have A28 : ∀ j, 0 ≤ τ_19.2.1 28 j ∧ τ_19.2.1 28 j ≤ 60 := fun j => hT.2 28 j
      have A29 : ∀ j, 0 ≤ τ_19.2.1 29 j ∧ τ_19.2.1 29 j ≤ 1499 := fun j => hT.2 29 j
      have v3 : 0 ≤ τ_19.1 3 ∧ τ_19.1 3 ≤ 2500 := hT.1 3
      have v5 : 0 ≤ τ_19.1 5 ∧ τ_19.1 5 ≤ 1000 := hT.1 5
      have v6 : 0 ≤ τ_19.1 6 ∧ τ_19.1 6 ≤ 30000 := hT.1 6
      have v7 : 0 ≤ τ_19.1 7 ∧ τ_19.1 7 ≤ 1500 := hT.1 7
      have v9 : 0 ≤ τ_19.1 9 ∧ τ_19.1 9 ≤ 1500 := hT.1 9
      have v12 : (-2147483648) ≤ τ_19.1 12 ∧ τ_19.1 12 ≤ 2147483647 := hT.1 12
      have v13 : 0 ≤ τ_19.1 13 ∧ τ_19.1 13 ≤ 90000 := hT.1 13
      have v14 : 0 ≤ τ_19.1 14 ∧ τ_19.1 14 ≤ 20000 := hT.1 14
      have v15 : 0 ≤ τ_19.1 15 ∧ τ_19.1 15 ≤ 20000 := hT.1 15
      have v16 : 0 ≤ τ_19.1 16 ∧ τ_19.1 16 ≤ 20000 := hT.1 16
      have av13 : σ.1 13 ≤ τ_19.1 13 := ag.1 13 (by decide)
      have JF : J_hfa (τ_19.1 9) (τ_19.2.1 13) (τ_19.2.1 14) (τ_19.2.1 22) := i19_5
      have SC : J_sc (τ_19.1 7) (τ_19.1 9) (τ_19.2.1 13) (τ_19.2.1 14) (τ_19.2.1 15) (τ_19.2.1 16) (τ_19.2.1 22) (τ_19.2.1 19) := by rw [show (J_sc (τ_19.1 7) (τ_19.1 9) (τ_19.2.1 13) (τ_19.2.1 14) (τ_19.2.1 15) (τ_19.2.1 16) (τ_19.2.1 22) (τ_19.2.1 19)) = (J_sc (σ.1 7) (σ.1 9) (σ.2.1 13) (σ.2.1 14) (σ.2.1 15) (σ.2.1 16) (σ.2.1 22) (σ.2.1 19)) from by rw [W7, W9, G13, G14, G15, G16, G19, G22]]; exact SC_0
      have fz := A28 n1
      have fy := A27 n1
      refine h19 n1 u2_19 τ_19 ?_
      refine ⟨fun c2 => ?_, fun c2 => ?_⟩
      ·
        exact ⟨hT, (show 0 ≤ 1 ∧ 1 ≤ 1 from by (first | omega | (simp only [st_s] <;> omega) | assumption | omega | fail)), (show τ_19.2.1 27 n1 + τ_19.2.1 28 n1 = (τ_19.1 13) from by (first | omega | (simp only [st_s] <;> omega) | assumption | omega | fail)), (show (τ_19.1 13) ≤ 60 * n1 + 60 from by (first | omega | (simp only [st_s] <;> omega) | assumption | omega | fail)), (show ¬ 1 = 0 → J_tk n1 (τ_19.1 9) (τ_19.1 12) (τ_19.2.1 13) (τ_19.2.1 14) (τ_19.2.1 15) (τ_19.2.1 26) (τ_19.2.1 22) (τ_19.2.1 27) (τ_19.2.1 28) (τ_19.2.1 29) from by (first | (intro z; exfalso; omega) | (intro _; rw [show τ_19.1 9 = u2_19 from by omega]; exact i19_6) | fail)), ag⟩
      ·
        refine ⟨(show 0 ≤ u2_19 ∧ u2_19 < 1500 from by (first | omega | (simp only [st_s] <;> omega) | assumption | omega | fail)), ?_⟩
        intro x4 r_x4 e_x4
        have b_x4 : 0 ≤ x4 ∧ x4 ≤ 1499 := by rw [e_x4]; exact hT.2 22 _
        refine ⟨(show 0 ≤ x4 ∧ x4 < 1500 from by (first | omega | (simp only [st_s] <;> omega) | assumption | omega | fail)), ?_⟩
        intro x6 r_x6 e_x6
        have b_x6 : 0 ≤ x6 ∧ x6 ≤ 4 := by rw [e_x6]; exact hT.2 13 _
        refine ⟨fun c7 => ?_, fun c7 => ?_⟩
        ·
          refine h73 _ _ _ _ ?_
          have sc := SC_0.1 u2_19 (by omega) (by omega)
          refine ⟨(show 0 ≤ n1 ∧ n1 < 1500 from by (first | omega | (simp only [st_s] <;> omega) | assumption | omega | fail)), ?_⟩
          intro x17 r_x17 e_x17
          have b_x17 : 0 ≤ x17 ∧ x17 ≤ 60 := by rw [e_x17]; exact hT.2 28 _
          refine ⟨fun c18 => ?_, fun c18 => ?_⟩
          ·
            refine ⟨(show 0 ≤ τ_19.1 13 ∧ τ_19.1 13 < 90000 from by (first | omega | (simp only [st_s] <;> omega) | assumption | omega | fail)), ?_⟩
            replace ag := ag_w (k := 29) (x := x4) 13 0 ag rfl (show σ.1 13 + 0 ≤ (τ_19.1 13) from by (first | omega | (simp only [st_s] <;> omega) | assumption | omega | fail))
            replace hT := cT_a (k := 29) (j := (τ_19.1 13)) hT (show (0 : Int) ≤ x4 ∧ x4 ≤ 1499 from by (first | omega | (simp only [st_s] <;> omega) | assumption | omega | fail))
            refine ⟨(⟨by (first | omega | (simp only [st_s] <;> omega) | assumption | omega | fail), by (first | omega | (simp only [st_s] <;> omega) | assumption | omega | fail)⟩ : rg (τ_19.1 13 + 1)), ?_⟩
            replace ag := ag_v (i := 13) (x := (τ_19.1 13 + 1)) ag (Or.inr (show σ.1 13 ≤ (τ_19.1 13 + 1) from by (first | omega | (simp only [st_s] <;> omega) | assumption | omega | fail)))
            replace hT := cT_v (i := 13) hT (show 0 ≤ (τ_19.1 13 + 1) ∧ (τ_19.1 13 + 1) ≤ 90000 from by (first | omega | (simp only [st_s] <;> omega) | assumption | omega | fail))
            intro x21 r_x21 e_x21
            have b_x21 : 0 ≤ x21 ∧ x21 ≤ 60 := by rw [e_x21]; exact hT.2 28 _
            refine ⟨(⟨by (first | omega | (simp only [st_s] <;> omega) | assumption | omega | fail), by (first | omega | (simp only [st_s] <;> omega) | assumption | omega | fail)⟩ : rg (x21 + 1)), ?_⟩
            replace ag := ag_w (k := 28) (x := (x21 + 1)) 7 0 ag rfl (show σ.1 7 + 0 ≤ n1 from by (first | omega | (simp only [st_s] <;> omega) | assumption | omega | fail))
            replace hT := cT_a (k := 28) (j := n1) hT (show (0 : Int) ≤ (x21 + 1) ∧ (x21 + 1) ≤ 60 from by (first | omega | (simp only [st_s] <;> omega) | assumption | omega | fail))
            refine ⟨(⟨by (first | omega | (simp only [st_s] <;> omega) | assumption | omega | fail), by (first | omega | (simp only [st_s] <;> omega) | assumption | omega | fail)⟩ : rg (u2_19 + 1)), ?_⟩
            exact ih_19 _ _ (show (1501 - (u2_19 + 1) : Int) < ((m_19 : Nat) : Int) from by ((first | omega | (simp only [st_s] <;> omega) | assumption | omega | fail))) hT ag (show τ_19.1 3 = σ.1 3 from by first | exact W3 | omega) (show τ_19.1 5 = σ.1 5 from by first | exact W5 | omega) (show τ_19.1 6 = σ.1 6 from by first | exact W6 | omega) (show τ_19.1 7 = σ.1 7 from by first | exact W7 | omega) (show τ_19.1 9 = σ.1 9 from by first | exact W9 | omega) (show τ_19.1 12 = σ.1 12 from by first | exact W12 | omega) (show τ_19.1 14 = σ.1 14 from by first | exact W14 | omega) (show τ_19.1 15 = σ.1 15 from by first | exact W15 | omega) (show τ_19.1 16 = σ.1 16 from by first | exact W16 | omega) G13 G14 G15 G16 G19 G22 G26 (show 0 ≤ (u2_19 + 1) from by (first | omega | (simp only [st_s] <;> omega) | assumption | omega | fail)) (show (u2_19 + 1) ≤ 1500 from by (first | omega | (simp only [st_s] <;> omega) | assumption | omega | fail)) (show τ_19.2.1 27 n1 + (st (τ_19.2.1 28) n1 (x21 + 1)) n1 = ((τ_19.1 13 + 1)) from by (first | omega | (simp only [st_s] <;> omega) | assumption | omega | fail)) (show ((τ_19.1 13 + 1)) ≤ 60 * n1 + (st (τ_19.2.1 28) n1 (x21 + 1)) n1 from by (first | omega | (simp only [st_s] <;> omega) | assumption | omega | fail)) (show J_hfa (τ_19.1 9) (τ_19.2.1 13) (τ_19.2.1 14) (τ_19.2.1 22) from JF) (show J_tk n1 (u2_19 + 1) (τ_19.1 12) (τ_19.2.1 13) (τ_19.2.1 14) (τ_19.2.1 15) (τ_19.2.1 26) (τ_19.2.1 22) (τ_19.2.1 27) ((st (τ_19.2.1 28) n1 (x21 + 1))) ((st (τ_19.2.1 29) (τ_19.1 13) x4)) from by (first | (refine ⟨fun k k0 k1 => ?_, fun m m0 m1 => ?_⟩; (exfalso; rw [st_s] at k1; omega); (exfalso; omega)) | exact J_tk_s i19_6 (fun z => by rw [← e_x4, ← e_x6, ← q8_1] at z; omega) | (have ej := J_tk_a i19_6 i19_3 (by omega) (by rw [G22]; have := sc.1; omega) (by rw [G22, G13]; exact sc.2.1) (fun z => by first | (exfalso; rw [← e_x4, ← e_x6] at z; omega) | (rw [← e_x4, ← q8_1]; exact q11_2 (by assumption))) (by rw [G22]; exact sc.2.2.2.2) (by omega); rw [← e_x4, ← e_x21] at ej; exact ej) | fail)) (show (u2_19 + 1) ≤ (σ.1 9) from by (first | omega | (simp only [st_s] <;> omega) | assumption | omega | fail))
          ·
            exact ⟨hT, (show 0 ≤ 0 ∧ 0 ≤ 1 from by (first | omega | (simp only [st_s] <;> omega) | assumption | omega | fail)), (show τ_19.2.1 27 n1 + τ_19.2.1 28 n1 = (τ_19.1 13) from by (first | omega | (simp only [st_s] <;> omega) | assumption | omega | fail)), (show (τ_19.1 13) ≤ 60 * n1 + 60 from by (first | omega | (simp only [st_s] <;> omega) | assumption | omega | fail)), (show ¬ 0 = 0 → J_tk n1 (τ_19.1 9) (τ_19.1 12) (τ_19.2.1 13) (τ_19.2.1 14) (τ_19.2.1 15) (τ_19.2.1 26) (τ_19.2.1 22) (τ_19.2.1 27) (τ_19.2.1 28) (τ_19.2.1 29) from by (first | (intro z; exfalso; omega) | (intro _; rw [show τ_19.1 9 = u2_19 from by omega]; exact i19_6) | fail)), ag⟩
        ·
          have jj := JF u2_19 (by omega) (by omega)
          rw [← e_x4, ← e_x6] at jj
          refine ⟨_, K_X3_variableOf hT (show 0 ≤ x4 from by (first | omega | (simp only [st_s] <;> omega) | assumption | omega | fail)) (show x4 ≤ 1500 from by (first | omega | (simp only [st_s] <;> omega) | assumption | omega | fail)) (show τ_19.2.1 14 x4 < 29999 from by (first | omega | (simp only [st_s] <;> omega) | assumption | omega | fail)), ?_⟩
          intro x9 r_x9 hq
          obtain ⟨q8_1, q8_2⟩ := hq
          replace q8_1 : x9 = τ_19.2.1 15 (τ_19.2.1 14 x4 + 1) := q8_1
          replace q8_2 : 0 ≤ x9 ∧ x9 ≤ 999 := q8_2
          refine ⟨_, K2_X9_isInFrame hT (show 0 ≤ x9 from by (first | omega | (simp only [st_s] <;> omega) | assumption | omega | fail)) (show x9 < 1000 from by (first | omega | (simp only [st_s] <;> omega) | assumption | omega | fail)), ?_⟩
          intro x12 r_x12 hq
          obtain ⟨q11_1, q11_2, q11_3⟩ := hq
          replace q11_1 : 0 ≤ x12 ∧ x12 ≤ 1 := q11_1
          replace q11_2 : ¬ x12 = 0 → τ_19.2.1 26 x9 = (τ_19.1 12) := q11_2
          replace q11_3 : x12 = 0 → ¬ τ_19.2.1 26 x9 = (τ_19.1 12) := q11_3
          refine ⟨fun c14 => ?_, fun c14 => ?_⟩
          ·
            refine h73 _ _ _ _ ?_
            have sc := SC_0.1 u2_19 (by omega) (by omega)
            refine ⟨(show 0 ≤ n1 ∧ n1 < 1500 from by (first | omega | (simp only [st_s] <;> omega) | assumption | omega | fail)), ?_⟩
            intro x17 r_x17 e_x17
            have b_x17 : 0 ≤ x17 ∧ x17 ≤ 60 := by rw [e_x17]; exact hT.2 28 _
            refine ⟨fun c18 => ?_, fun c18 => ?_⟩
            ·
              refine ⟨(show 0 ≤ τ_19.1 13 ∧ τ_19.1 13 < 90000 from by (first | omega | (simp only [st_s] <;> omega) | assumption | omega | fail)), ?_⟩
              replace ag := ag_w (k := 29) (x := x4) 13 0 ag rfl (show σ.1 13 + 0 ≤ (τ_19.1 13) from by (first | omega | (simp only [st_s] <;> omega) | assumption | omega | fail))
              replace hT := cT_a (k := 29) (j := (τ_19.1 13)) hT (show (0 : Int) ≤ x4 ∧ x4 ≤ 1499 from by (first | omega | (simp only [st_s] <;> omega) | assumption | omega | fail))
              refine ⟨(⟨by (first | omega | (simp only [st_s] <;> omega) | assumption | omega | fail), by (first | omega | (simp only [st_s] <;> omega) | assumption | omega | fail)⟩ : rg (τ_19.1 13 + 1)), ?_⟩
              replace ag := ag_v (i := 13) (x := (τ_19.1 13 + 1)) ag (Or.inr (show σ.1 13 ≤ (τ_19.1 13 + 1) from by (first | omega | (simp only [st_s] <;> omega) | assumption | omega | fail)))
              replace hT := cT_v (i := 13) hT (show 0 ≤ (τ_19.1 13 + 1) ∧ (τ_19.1 13 + 1) ≤ 90000 from by (first | omega | (simp only [st_s] <;> omega) | assumption | omega | fail))
              intro x21 r_x21 e_x21
              have b_x21 : 0 ≤ x21 ∧ x21 ≤ 60 := by rw [e_x21]; exact hT.2 28 _
              refine ⟨(⟨by (first | omega | (simp only [st_s] <;> omega) | assumption | omega | fail), by (first | omega | (simp only [st_s] <;> omega) | assumption | omega | fail)⟩ : rg (x21 + 1)), ?_⟩
              replace ag := ag_w (k := 28) (x := (x21 + 1)) 7 0 ag rfl (show σ.1 7 + 0 ≤ n1 from by (first | omega | (simp only [st_s] <;> omega) | assumption | omega | fail))
              replace hT := cT_a (k := 28) (j := n1) hT (show (0 : Int) ≤ (x21 + 1) ∧ (x21 + 1) ≤ 60 from by (first | omega | (simp only [st_s] <;> omega) | assumption | omega | fail))
              refine ⟨(⟨by (first | omega | (simp only [st_s] <;> omega) | assumption | omega | fail), by (first | omega | (simp only [st_s] <;> omega) | assumption | omega | fail)⟩ : rg (u2_19 + 1)), ?_⟩
              exact ih_19 _ _ (show (1501 - (u2_19 + 1) : Int) < ((m_19 : Nat) : Int) from by ((first | omega | (simp only [st_s] <;> omega) | assumption | omega | fail))) hT ag (show τ_19.1 3 = σ.1 3 from by first | exact W3 | omega) (show τ_19.1 5 = σ.1 5 from by first | exact W5 | omega) (show τ_19.1 6 = σ.1 6 from by first | exact W6 | omega) (show τ_19.1 7 = σ.1 7 from by first | exact W7 | omega) (show τ_19.1 9 = σ.1 9 from by first | exact W9 | omega) (show τ_19.1 12 = σ.1 12 from by first | exact W12 | omega) (show τ_19.1 14 = σ.1 14 from by first | exact W14 | omega) (show τ_19.1 15 = σ.1 15 from by first | exact W15 | omega) (show τ_19.1 16 = σ.1 16 from by first | exact W16 | omega) G13 G14 G15 G16 G19 G22 G26 (show 0 ≤ (u2_19 + 1) from by (first | omega | (simp only [st_s] <;> omega) | assumption | omega | fail)) (show (u2_19 + 1) ≤ 1500 from by (first | omega | (simp only [st_s] <;> omega) | assumption | omega | fail)) (show τ_19.2.1 27 n1 + (st (τ_19.2.1 28) n1 (x21 + 1)) n1 = ((τ_19.1 13 + 1)) from by (first | omega | (simp only [st_s] <;> omega) | assumption | omega | fail)) (show ((τ_19.1 13 + 1)) ≤ 60 * n1 + (st (τ_19.2.1 28) n1 (x21 + 1)) n1 from by (first | omega | (simp only [st_s] <;> omega) | assumption | omega | fail)) (show J_hfa (τ_19.1 9) (τ_19.2.1 13) (τ_19.2.1 14) (τ_19.2.1 22) from JF) (show J_tk n1 (u2_19 + 1) (τ_19.1 12) (τ_19.2.1 13) (τ_19.2.1 14) (τ_19.2.1 15) (τ_19.2.1 26) (τ_19.2.1 22) (τ_19.2.1 27) ((st (τ_19.2.1 28) n1 (x21 + 1))) ((st (τ_19.2.1 29) (τ_19.1 13) x4)) from by (first | (refine ⟨fun k k0 k1 => ?_, fun m m0 m1 => ?_⟩; (exfalso; rw [st_s] at k1; omega); (exfalso; omega)) | exact J_tk_s i19_6 (fun z => by rw [← e_x4, ← e_x6, ← q8_1] at z; omega) | (have ej := J_tk_a i19_6 i19_3 (by omega) (by rw [G22]; have := sc.1; omega) (by rw [G22, G13]; exact sc.2.1) (fun z => by first | (exfalso; rw [← e_x4, ← e_x6] at z; omega) | (rw [← e_x4, ← q8_1]; exact q11_2 (by assumption))) (by rw [G22]; exact sc.2.2.2.2) (by omega); rw [← e_x4, ← e_x21] at ej; exact ej) | fail)) (show (u2_19 + 1) ≤ (σ.1 9) from by (first | omega | (simp only [st_s] <;> omega) | assumption | omega | fail))
            ·
              exact ⟨hT, (show 0 ≤ 0 ∧ 0 ≤ 1 from by (first | omega | (simp only [st_s] <;> omega) | assumption | omega | fail)), (show τ_19.2.1 27 n1 + τ_19.2.1 28 n1 = (τ_19.1 13) from by (first | omega | (simp only [st_s] <;> omega) | assumption | omega | fail)), (show (τ_19.1 13) ≤ 60 * n1 + 60 from by (first | omega | (simp only [st_s] <;> omega) | assumption | omega | fail)), (show ¬ 0 = 0 → J_tk n1 (τ_19.1 9) (τ_19.1 12) (τ_19.2.1 13) (τ_19.2.1 14) (τ_19.2.1 15) (τ_19.2.1 26) (τ_19.2.1 22) (τ_19.2.1 27) (τ_19.2.1 28) (τ_19.2.1 29) from by (first | (intro z; exfalso; omega) | (intro _; rw [show τ_19.1 9 = u2_19 from by omega]; exact i19_6) | fail)), ag⟩
          ·
            refine ⟨(⟨by (first | omega | (simp only [st_s] <;> omega) | assumption | omega | fail), by (first | omega | (simp only [st_s] <;> omega) | assumption | omega | fail)⟩ : rg (u2_19 + 1)), ?_⟩
            exact ih_19 _ _ (show (1501 - (u2_19 + 1) : Int) < ((m_19 : Nat) : Int) from by ((first | omega | (simp only [st_s] <;> omega) | assumption | omega | fail))) hT ag (show τ_19.1 3 = σ.1 3 from by first | exact W3 | omega) (show τ_19.1 5 = σ.1 5 from by first | exact W5 | omega) (show τ_19.1 6 = σ.1 6 from by first | exact W6 | omega) (show τ_19.1 7 = σ.1 7 from by first | exact W7 | omega) (show τ_19.1 9 = σ.1 9 from by first | exact W9 | omega) (show τ_19.1 12 = σ.1 12 from by first | exact W12 | omega) (show τ_19.1 14 = σ.1 14 from by first | exact W14 | omega) (show τ_19.1 15 = σ.1 15 from by first | exact W15 | omega) (show τ_19.1 16 = σ.1 16 from by first | exact W16 | omega) G13 G14 G15 G16 G19 G22 G26 (show 0 ≤ (u2_19 + 1) from by (first | omega | (simp only [st_s] <;> omega) | assumption | omega | fail)) (show (u2_19 + 1) ≤ 1500 from by (first | omega | (simp only [st_s] <;> omega) | assumption | omega | fail)) (show τ_19.2.1 27 n1 + τ_19.2.1 28 n1 = (τ_19.1 13) from by (first | omega | (simp only [st_s] <;> omega) | assumption | omega | fail)) (show (τ_19.1 13) ≤ 60 * n1 + τ_19.2.1 28 n1 from by (first | omega | (simp only [st_s] <;> omega) | assumption | omega | fail)) (show J_hfa (τ_19.1 9) (τ_19.2.1 13) (τ_19.2.1 14) (τ_19.2.1 22) from JF) (show J_tk n1 (u2_19 + 1) (τ_19.1 12) (τ_19.2.1 13) (τ_19.2.1 14) (τ_19.2.1 15) (τ_19.2.1 26) (τ_19.2.1 22) (τ_19.2.1 27) (τ_19.2.1 28) (τ_19.2.1 29) from by (first | (refine ⟨fun k k0 k1 => ?_, fun m m0 m1 => ?_⟩; (exfalso; rw [st_s] at k1; omega); (exfalso; omega)) | exact J_tk_s i19_6 (fun z => by rw [← e_x4, ← e_x6, ← q8_1] at z; omega) | (have ej := J_tk_a i19_6 i19_3 (by omega) (by rw [G22]; have := sc.1; omega) (by rw [G22, G13]; exact sc.2.1) (fun z => by first | (exfalso; rw [← e_x4, ← e_x6] at z; omega) | (rw [← e_x4, ← q8_1]; exact q11_2 (by assumption))) (by rw [G22]; exact sc.2.2.2.2) (by omega); rw [← e_x4, ← e_x21] at ej; exact ej) | fail)) (show (u2_19 + 1) ≤ (σ.1 9) from by (first | omega | (simp only [st_s] <;> omega) | assumption | omega | fail))
  refine ⟨(show 0 ≤ n1 ∧ n1 < 1500 from by (first | omega | (simp only [st_s] <;> omega) | assumption | omega | fail)), ?_⟩
  replace ag := ag_w (k := 27) (x := (σ.1 13)) 7 0 ag rfl (show σ.1 7 + 0 ≤ n1 from by (first | omega | (simp only [st_s] <;> omega) | assumption | omega | fail))
  replace hT := cT_a (k := 27) (j := n1) hT (show (0 : Int) ≤ (σ.1 13) ∧ (σ.1 13) ≤ 90000 from by (first | omega | (simp only [st_s] <;> omega) | assumption | omega | fail))
  replace ag := ag_w (k := 28) (x := 0) 7 0 ag rfl (show σ.1 7 + 0 ≤ n1 from by (first | omega | (simp only [st_s] <;> omega) | assumption | omega | fail))
  replace hT := cT_a (k := 28) (j := n1) hT (show (0 : Int) ≤ 0 ∧ 0 ≤ 60 from by (first | omega | (simp only [st_s] <;> omega) | assumption | omega | fail))
  exact l_19 ((1501 - 0 : Int).toNat + 1) _ _ (show (1501 - 0 : Int) < (((1501 - 0 : Int).toNat + 1 : Nat) : Int) from by ((first | omega | (simp only [st_s] <;> omega) | assumption | omega | fail))) hT ag (show σ.1 3 = σ.1 3 from by first | exact W3 | omega) (show σ.1 5 = σ.1 5 from by first | exact W5 | omega) (show σ.1 6 = σ.1 6 from by first | exact W6 | omega) (show σ.1 7 = σ.1 7 from by first | exact W7 | omega) (show σ.1 9 = σ.1 9 from by first | exact W9 | omega) (show σ.1 12 = σ.1 12 from by first | exact W12 | omega) (show σ.1 14 = σ.1 14 from by first | exact W14 | omega) (show σ.1 15 = σ.1 15 from by first | exact W15 | omega) (show σ.1 16 = σ.1 16 from by first | exact W16 | omega) G13 G14 G15 G16 G19 G22 G26 (show 0 ≤ 0 from by (first | omega | (simp only [st_s] <;> omega) | assumption | omega | fail)) (show 0 ≤ 1500 from by (first | omega | (simp only [st_s] <;> omega) | assumption | omega | fail)) (show (st (σ.2.1 27) n1 (σ.1 13)) n1 + (st (σ.2.1 28) n1 0) n1 = (σ.1 13) from by (first | omega | (simp only [st_s] <;> omega) | assumption | omega | fail)) (show (σ.1 13) ≤ 60 * n1 + (st (σ.2.1 28) n1 0) n1 from by (first | omega | (simp only [st_s] <;> omega) | assumption | omega | fail)) (show J_hfa (σ.1 9) (σ.2.1 13) (σ.2.1 14) (σ.2.1 22) from JF) (show J_tk n1 0 (σ.1 12) (σ.2.1 13) (σ.2.1 14) (σ.2.1 15) (σ.2.1 26) (σ.2.1 22) ((st (σ.2.1 27) n1 (σ.1 13))) ((st (σ.2.1 28) n1 0)) (σ.2.1 29) from by (first | (refine ⟨fun k k0 k1 => ?_, fun m m0 m1 => ?_⟩; (exfalso; rw [st_s] at k1; omega); (exfalso; omega)) | exact J_tk_s i19_6 (fun z => by rw [← e_x4, ← e_x6, ← q8_1] at z; omega) | (have ej := J_tk_a i19_6 i19_3 (by omega) (by rw [G22]; have := sc.1; omega) (by rw [G22, G13]; exact sc.2.1) (fun z => by first | (exfalso; rw [← e_x4, ← e_x6] at z; omega) | (rw [← e_x4, ← q8_1]; exact q11_2 (by assumption))) (by rw [G22]; exact sc.2.2.2.2) (by omega); rw [← e_x4, ← e_x21] at ej; exact ej) | fail)) (show 0 ≤ (σ.1 9) from by (first | omega | (simp only [st_s] <;> omega) | assumption | omega | fail))
set_option maxHeartbeats 1000000 in
theorem K_X0_takePairs {n1 : Int} {σ : S0} (hT : c_T σ) (p1 : 0 ≤ n1) (p2 : n1 < 1500) (p3 : n1 = (σ.1 7)) : W_X0_takePairs n1 σ (fun (x : Int) (τ : S0) => (c_T τ) ∧ (0 ≤ x ∧ x ≤ 1) ∧ (τ.2.1 30 n1 + τ.2.1 31 n1 = (τ.1 14)) ∧ (J_pm n1 (τ.1 12) (τ.2.1 30) (τ.2.1 31) (τ.2.1 32) (τ.2.1 26)) ∧ (c_ag σ τ)) := by
  have A23 : ∀ j, 0 ≤ σ.2.1 23 j ∧ σ.2.1 23 j ≤ 999 := fun j => hT.2 23 j
  have A24 : ∀ j, 0 ≤ σ.2.1 24 j ∧ σ.2.1 24 j ≤ 999 := fun j => hT.2 24 j
  have A26 : ∀ j, (-2147483648) ≤ σ.2.1 26 j ∧ σ.2.1 26 j ≤ 2147483647 := fun j => hT.2 26 j
  have A30 : ∀ j, 0 ≤ σ.2.1 30 j ∧ σ.2.1 30 j ≤ 20000 := fun j => hT.2 30 j
  have A31 : ∀ j, 0 ≤ σ.2.1 31 j ∧ σ.2.1 31 j ≤ 20000 := fun j => hT.2 31 j
  have A32 : ∀ j, 0 ≤ σ.2.1 32 j ∧ σ.2.1 32 j ≤ 999999 := fun j => hT.2 32 j
  have v3 : 0 ≤ σ.1 3 ∧ σ.1 3 ≤ 2500 := hT.1 3
  have v5 : 0 ≤ σ.1 5 ∧ σ.1 5 ≤ 1000 := hT.1 5
  have v6 : 0 ≤ σ.1 6 ∧ σ.1 6 ≤ 30000 := hT.1 6
  have v7 : 0 ≤ σ.1 7 ∧ σ.1 7 ≤ 1500 := hT.1 7
  have v10 : 0 ≤ σ.1 10 ∧ σ.1 10 ≤ 1000 := hT.1 10
  have v12 : (-2147483648) ≤ σ.1 12 ∧ σ.1 12 ≤ 2147483647 := hT.1 12
  have v13 : 0 ≤ σ.1 13 ∧ σ.1 13 ≤ 90000 := hT.1 13
  have v14 : 0 ≤ σ.1 14 ∧ σ.1 14 ≤ 20000 := hT.1 14
  have v15 : 0 ≤ σ.1 15 ∧ σ.1 15 ≤ 20000 := hT.1 15
  have v16 : 0 ≤ σ.1 16 ∧ σ.1 16 ≤ 20000 := hT.1 16
  have W3 : σ.1 3 = σ.1 3 := rfl
  have W5 : σ.1 5 = σ.1 5 := rfl
  have W6 : σ.1 6 = σ.1 6 := rfl
  have W7 : σ.1 7 = σ.1 7 := rfl
  have W10 : σ.1 10 = σ.1 10 := rfl
  have W12 : σ.1 12 = σ.1 12 := rfl
  have W13 : σ.1 13 = σ.1 13 := rfl
  have W15 : σ.1 15 = σ.1 15 := rfl
  have W16 : σ.1 16 = σ.1 16 := rfl
  have G23 : σ.2.1 23 = σ.2.1 23 := rfl
  have G24 : σ.2.1 24 = σ.2.1 24 := rfl
  have G26 : σ.2.1 26 = σ.2.1 26 := rfl
  have ag : c_ag σ σ := ag_0 σ
  intro P19 h19
  have l_19 : ∀ (m_19 : Nat) (u2_19 : Int) (τ_19 : S0), 1001 - u2_19 < (m_19 : Int) → (c_T τ_19) → (c_ag σ τ_19) → (τ_19.1 3 = σ.1 3) → (τ_19.1 5 = σ.1 5) → (τ_19.1 6 = σ.1 6) → (τ_19.1 7 = σ.1 7) → (τ_19.1 10 = σ.1 10) → (τ_19.1 12 = σ.1 12) → (τ_19.1 13 = σ.1 13) → (τ_19.1 15 = σ.1 15) → (τ_19.1 16 = σ.1 16) → (τ_19.2.1 23 = σ.2.1 23) → (τ_19.2.1 24 = σ.2.1 24) → (τ_19.2.1 26 = σ.2.1 26) → (0 ≤ u2_19) → (u2_19 ≤ 1000) → (τ_19.2.1 30 n1 + τ_19.2.1 31 n1 = (τ_19.1 14)) → (J_pm n1 (τ_19.1 12) (τ_19.2.1 30) (τ_19.2.1 31) (τ_19.2.1 32) (τ_19.2.1 26)) → P19 n1 u2_19 τ_19 := by
    intro m_19
    induction m_19 with
    | zero =>
      intro u2_19 τ_19 hm hT ag W3 W5 W6 W7 W10 W12 W13 W15 W16 G23 G24 G26 i19_1 i19_2 i19_3 i19_4
      have A23 : ∀ j, 0 ≤ τ_19.2.1 23 j ∧ τ_19.2.1 23 j ≤ 999 := fun j => hT.2 23 j
      have A24 : ∀ j, 0 ≤ τ_19.2.1 24 j ∧ τ_19.2.1 24 j ≤ 999 := fun j => hT.2 24 j
      have A26 : ∀ j, (-2147483648) ≤ τ_19.2.1 26 j ∧ τ_19.2.1 26 j ≤ 2147483647 := fun j => hT.2 26 j
      have A30 : ∀ j, 0 ≤ τ_19.2.1 30 j ∧ τ_19.2.1 30 j ≤ 20000 := fun j => hT.2 30 j
      have A31 : ∀ j, 0 ≤ τ_19.2.1 31 j ∧ τ_19.2.1 31 j ≤ 20000 := fun j => hT.2 31 j
      have A32 : ∀ j, 0 ≤ τ_19.2.1 32 j ∧ τ_19.2.1 32 j ≤ 999999 := fun j => hT.2 32 j
      have v3 : 0 ≤ τ_19.1 3 ∧ τ_19.1 3 ≤ 2500 := hT.1 3
      have v5 : 0 ≤ τ_19.1 5 ∧ τ_19.1 5 ≤ 1000 := hT.1 5
      have v6 : 0 ≤ τ_19.1 6 ∧ τ_19.1 6 ≤ 30000 := hT.1 6
      have v7 : 0 ≤ τ_19.1 7 ∧ τ_19.1 7 ≤ 1500 := hT.1 7
      have v10 : 0 ≤ τ_19.1 10 ∧ τ_19.1 10 ≤ 1000 := hT.1 10
      have v12 : (-2147483648) ≤ τ_19.1 12 ∧ τ_19.1 12 ≤ 2147483647 := hT.1 12
      have v13 : 0 ≤ τ_19.1 13 ∧ τ_19.1 13 ≤ 90000 := hT.1 13
      have v14 : 0 ≤ τ_19.1 14 ∧ τ_19.1 14 ≤ 20000 := hT.1 14
      have v15 : 0 ≤ τ_19.1 15 ∧ τ_19.1 15 ≤ 20000 := hT.1 15
      have v16 : 0 ≤ τ_19.1 16 ∧ τ_19.1 16 ≤ 20000 := hT.1 16
      have av14 : σ.1 14 ≤ τ_19.1 14 := ag.1 14 (by decide)
      exfalso; (first | omega | (simp only [st_s] <;> omega) | assumption | omega | fail)
    | succ m_19 ih_19 =>
      intro u2_19 τ_19 hm_19 hT ag W3 W5 W6 W7 W10 W12 W13 W15 W16 G23 G24 G26 i19_1 i19_2 i19_3 i19_4
      have A23 : ∀ j, 0 ≤ τ_19.2.1 23 j ∧ τ_19.2.1 23 j ≤ 999 := fun j => hT.2 23 j
      have A24 : ∀ j, 0 ≤ τ_19.2.1 24 j ∧ τ_19.2.1 24 j ≤ 999 := fun j => hT.2 24 j
      have A26 : ∀ j, (-2147483648) ≤ τ_19.2.1 26 j ∧ τ_19.2.1 26 j ≤ 2147483647 := fun j => hT.2 26 j
      have A30 : ∀ j, 0 ≤ τ_19.2.1 30 j ∧ τ_19.2.1 30 j ≤ 20000 := fun j => hT.2 30 j
      have A31 : ∀ j, 0 ≤ τ_19.2.1 31 j ∧ τ_19.2.1 31 j ≤ 20000 := fun j => hT.2 31 j
      have A32 : ∀ j, 0 ≤ τ_19.2.1 32 j ∧ τ_19.2.1 32 j ≤ 999999 := fun j => hT.2 32 j
      have v3 : 0 ≤ τ_19.1 3 ∧ τ_19.1 3 ≤ 2500 := hT.1 3
      have v5 : 0 ≤ τ_19.1 5 ∧ τ_19.1 5 ≤ 1000 := hT.1 5
      have v6 : 0 ≤ τ_19.1 6 ∧ τ_19.1 6 ≤ 30000 := hT.1 6
      have v7 : 0 ≤ τ_19.1 7 ∧ τ_19.1 7 ≤ 1500 := hT.1 7
      have v10 : 0 ≤ τ_19.1 10 ∧ τ_19.1 10 ≤ 1000 := hT.1 10
      have v12 : (-2147483648) ≤ τ_19.1 12 ∧ τ_19.1 12 ≤ 2147483647 := hT.1 12
      have v13 : 0 ≤ τ_19.1 13 ∧ τ_19.1 13 ≤ 90000 := hT.1 13
      have v14 : 0 ≤ τ_19.1 14 ∧ τ_19.1 14 ≤ 20000 := hT.1 14
      have v15 : 0 ≤ τ_19.1 15 ∧ τ_19.1 15 ≤ 20000 := hT.1 15
      have v16 : 0 ≤ τ_19.1 16 ∧ τ_19.1 16 ≤ 20000 := hT.1 16
      have av14 : σ.1 14 ≤ τ_19.1 14 := ag.1 14 (by decide)
      have fz := A31 n1
      have fy := A30 n1
      refine h19 n1 u2_19 τ_19 ?_
      refine ⟨fun c2 => ?_, fun c2 => ?_⟩
      ·
        exact ⟨hT, (show 0 ≤ 1 ∧ 1 ≤ 1 from by (first | omega | (simp only [st_s] <;> omega) | assumption | omega | fail)), (show τ_19.2.1 30 n1 + τ_19.2.1 31 n1 = (τ_19.1 14) from by (first | omega | (simp only [st_s] <;> omega) | assumption | omega | fail)), (show J_pm n1 (τ_19.1 12) (τ_19.2.1 30) (τ_19.2.1 31) (τ_19.2.1 32) (τ_19.2.1 26) from by (first | omega | (simp only [st_s] <;> omega) | assumption | omega | fail)), ag⟩
      ·
        refine ⟨(show 0 ≤ u2_19 ∧ u2_19 < 1000 from by (first | omega | (simp only [st_s] <;> omega) | assumption | omega | fail)), ?_⟩
        intro x4 r_x4 e_x4
        have b_x4 : 0 ≤ x4 ∧ x4 ≤ 999 := by rw [e_x4]; exact hT.2 23 _
        intro x5 r_x5 e_x5
        have b_x5 : 0 ≤ x5 ∧ x5 ≤ 999 := by rw [e_x5]; exact hT.2 24 _
        refine ⟨_, K2_X9_isInFrame hT (show 0 ≤ x4 from by (first | omega | (simp only [st_s] <;> omega) | assumption | omega | fail)) (show x4 < 1000 from by (first | omega | (simp only [st_s] <;> omega) | assumption | omega | fail)), ?_⟩
        intro x7 r_x7 hq
        obtain ⟨q6_1, q6_2, q6_3⟩ := hq
        replace q6_1 : 0 ≤ x7 ∧ x7 ≤ 1 := q6_1
        replace q6_2 : ¬ x7 = 0 → τ_19.2.1 26 x4 = (τ_19.1 12) := q6_2
        replace q6_3 : x7 = 0 → ¬ τ_19.2.1 26 x4 = (τ_19.1 12) := q6_3
        refine ⟨fun c9 => ?_, fun c9 => ?_⟩
        ·
          refine ⟨(⟨by (first | omega | (simp only [st_s] <;> omega) | assumption | omega | fail), by (first | omega | (simp only [st_s] <;> omega) | assumption | omega | fail)⟩ : rg (u2_19 + 1)), ?_⟩
          exact ih_19 _ _ (show (1001 - (u2_19 + 1) : Int) < ((m_19 : Nat) : Int) from by ((first | omega | (simp only [st_s] <;> omega) | assumption | omega | fail))) hT ag (show τ_19.1 3 = σ.1 3 from by first | exact W3 | omega) (show τ_19.1 5 = σ.1 5 from by first | exact W5 | omega) (show τ_19.1 6 = σ.1 6 from by first | exact W6 | omega) (show τ_19.1 7 = σ.1 7 from by first | exact W7 | omega) (show τ_19.1 10 = σ.1 10 from by first | exact W10 | omega) (show τ_19.1 12 = σ.1 12 from by first | exact W12 | omega) (show τ_19.1 13 = σ.1 13 from by first | exact W13 | omega) (show τ_19.1 15 = σ.1 15 from by first | exact W15 | omega) (show τ_19.1 16 = σ.1 16 from by first | exact W16 | omega) G23 G24 G26 (show 0 ≤ (u2_19 + 1) from by (first | omega | (simp only [st_s] <;> omega) | assumption | omega | fail)) (show (u2_19 + 1) ≤ 1000 from by (first | omega | (simp only [st_s] <;> omega) | assumption | omega | fail)) (show τ_19.2.1 30 n1 + τ_19.2.1 31 n1 = (τ_19.1 14) from by (first | omega | (simp only [st_s] <;> omega) | assumption | omega | fail)) (show J_pm n1 (τ_19.1 12) (τ_19.2.1 30) (τ_19.2.1 31) (τ_19.2.1 32) (τ_19.2.1 26) from by (first | exact i19_4 | (intro q q0 q1; exfalso; rw [st_s, st_s] at *; omega) | (have ej := J_pm_a i19_4 i19_3 (x := x4) (y := x5) (by omega) (by omega) (by omega) (q6_2 (by omega)) (q11_2 (by omega)); rw [← e_x20] at ej; exact ej) | fail))
        ·
          refine ⟨_, K2_X9_isInFrame hT (show 0 ≤ x5 from by (first | omega | (simp only [st_s] <;> omega) | assumption | omega | fail)) (show x5 < 1000 from by (first | omega | (simp only [st_s] <;> omega) | assumption | omega | fail)), ?_⟩
          intro x12 r_x12 hq
          obtain ⟨q11_1, q11_2, q11_3⟩ := hq
          replace q11_1 : 0 ≤ x12 ∧ x12 ≤ 1 := q11_1
          replace q11_2 : ¬ x12 = 0 → τ_19.2.1 26 x5 = (τ_19.1 12) := q11_2
          replace q11_3 : x12 = 0 → ¬ τ_19.2.1 26 x5 = (τ_19.1 12) := q11_3
          refine ⟨fun c14 => ?_, fun c14 => ?_⟩
          ·
            refine ⟨fun c15 => ?_, fun c15 => ?_⟩
            ·
              refine ⟨(show 0 ≤ τ_19.1 14 ∧ τ_19.1 14 < 20000 from by (first | omega | (simp only [st_s] <;> omega) | assumption | omega | fail)), ?_⟩
              refine ⟨(⟨by (first | omega | (simp only [st_s] <;> omega) | assumption | omega | fail), by (first | omega | (simp only [st_s] <;> omega) | assumption | omega | fail)⟩ : rg ((x4 * 1000) + x5)), ?_⟩
              replace ag := ag_w (k := 32) (x := ((x4 * 1000) + x5)) 14 0 ag rfl (show σ.1 14 + 0 ≤ (τ_19.1 14) from by (first | omega | (simp only [st_s] <;> omega) | assumption | omega | fail))
              replace hT := cT_a (k := 32) (j := (τ_19.1 14)) hT (show (0 : Int) ≤ ((x4 * 1000) + x5) ∧ ((x4 * 1000) + x5) ≤ 999999 from by (first | omega | (simp only [st_s] <;> omega) | assumption | omega | fail))
              refine ⟨(⟨by (first | omega | (simp only [st_s] <;> omega) | assumption | omega | fail), by (first | omega | (simp only [st_s] <;> omega) | assumption | omega | fail)⟩ : rg (τ_19.1 14 + 1)), ?_⟩
              replace ag := ag_v (i := 14) (x := (τ_19.1 14 + 1)) ag (Or.inr (show σ.1 14 ≤ (τ_19.1 14 + 1) from by (first | omega | (simp only [st_s] <;> omega) | assumption | omega | fail)))
              replace hT := cT_v (i := 14) hT (show 0 ≤ (τ_19.1 14 + 1) ∧ (τ_19.1 14 + 1) ≤ 20000 from by (first | omega | (simp only [st_s] <;> omega) | assumption | omega | fail))
              refine ⟨(show 0 ≤ n1 ∧ n1 < 1500 from by (first | omega | (simp only [st_s] <;> omega) | assumption | omega | fail)), ?_⟩
              intro x20 r_x20 e_x20
              have b_x20 : 0 ≤ x20 ∧ x20 ≤ 20000 := by rw [e_x20]; exact hT.2 31 _
              refine ⟨(⟨by (first | omega | (simp only [st_s] <;> omega) | assumption | omega | fail), by (first | omega | (simp only [st_s] <;> omega) | assumption | omega | fail)⟩ : rg (x20 + 1)), ?_⟩
              replace ag := ag_w (k := 31) (x := (x20 + 1)) 7 0 ag rfl (show σ.1 7 + 0 ≤ n1 from by (first | omega | (simp only [st_s] <;> omega) | assumption | omega | fail))
              replace hT := cT_a (k := 31) (j := n1) hT (show (0 : Int) ≤ (x20 + 1) ∧ (x20 + 1) ≤ 20000 from by (first | omega | (simp only [st_s] <;> omega) | assumption | omega | fail))
              refine ⟨(⟨by (first | omega | (simp only [st_s] <;> omega) | assumption | omega | fail), by (first | omega | (simp only [st_s] <;> omega) | assumption | omega | fail)⟩ : rg (u2_19 + 1)), ?_⟩
              exact ih_19 _ _ (show (1001 - (u2_19 + 1) : Int) < ((m_19 : Nat) : Int) from by ((first | omega | (simp only [st_s] <;> omega) | assumption | omega | fail))) hT ag (show τ_19.1 3 = σ.1 3 from by first | exact W3 | omega) (show τ_19.1 5 = σ.1 5 from by first | exact W5 | omega) (show τ_19.1 6 = σ.1 6 from by first | exact W6 | omega) (show τ_19.1 7 = σ.1 7 from by first | exact W7 | omega) (show τ_19.1 10 = σ.1 10 from by first | exact W10 | omega) (show τ_19.1 12 = σ.1 12 from by first | exact W12 | omega) (show τ_19.1 13 = σ.1 13 from by first | exact W13 | omega) (show τ_19.1 15 = σ.1 15 from by first | exact W15 | omega) (show τ_19.1 16 = σ.1 16 from by first | exact W16 | omega) G23 G24 G26 (show 0 ≤ (u2_19 + 1) from by (first | omega | (simp only [st_s] <;> omega) | assumption | omega | fail)) (show (u2_19 + 1) ≤ 1000 from by (first | omega | (simp only [st_s] <;> omega) | assumption | omega | fail)) (show τ_19.2.1 30 n1 + (st (τ_19.2.1 31) n1 (x20 + 1)) n1 = ((τ_19.1 14 + 1)) from by (first | omega | (simp only [st_s] <;> omega) | assumption | omega | fail)) (show J_pm n1 (τ_19.1 12) (τ_19.2.1 30) ((st (τ_19.2.1 31) n1 (x20 + 1))) ((st (τ_19.2.1 32) (τ_19.1 14) ((x4 * 1000) + x5))) (τ_19.2.1 26) from by (first | exact i19_4 | (intro q q0 q1; exfalso; rw [st_s, st_s] at *; omega) | (have ej := J_pm_a i19_4 i19_3 (x := x4) (y := x5) (by omega) (by omega) (by omega) (q6_2 (by omega)) (q11_2 (by omega)); rw [← e_x20] at ej; exact ej) | fail))
            ·
              exact ⟨hT, (show 0 ≤ 0 ∧ 0 ≤ 1 from by (first | omega | (simp only [st_s] <;> omega) | assumption | omega | fail)), (show τ_19.2.1 30 n1 + τ_19.2.1 31 n1 = (τ_19.1 14) from by (first | omega | (simp only [st_s] <;> omega) | assumption | omega | fail)), (show J_pm n1 (τ_19.1 12) (τ_19.2.1 30) (τ_19.2.1 31) (τ_19.2.1 32) (τ_19.2.1 26) from by (first | omega | (simp only [st_s] <;> omega) | assumption | omega | fail)), ag⟩
          ·
            refine ⟨(⟨by (first | omega | (simp only [st_s] <;> omega) | assumption | omega | fail), by (first | omega | (simp only [st_s] <;> omega) | assumption | omega | fail)⟩ : rg (u2_19 + 1)), ?_⟩
            exact ih_19 _ _ (show (1001 - (u2_19 + 1) : Int) < ((m_19 : Nat) : Int) from by ((first | omega | (simp only [st_s] <;> omega) | assumption | omega | fail))) hT ag (show τ_19.1 3 = σ.1 3 from by first | exact W3 | omega) (show τ_19.1 5 = σ.1 5 from by first | exact W5 | omega) (show τ_19.1 6 = σ.1 6 from by first | exact W6 | omega) (show τ_19.1 7 = σ.1 7 from by first | exact W7 | omega) (show τ_19.1 10 = σ.1 10 from by first | exact W10 | omega) (show τ_19.1 12 = σ.1 12 from by first | exact W12 | omega) (show τ_19.1 13 = σ.1 13 from by first | exact W13 | omega) (show τ_19.1 15 = σ.1 15 from by first | exact W15 | omega) (show τ_19.1 16 = σ.1 16 from by first | exact W16 | omega) G23 G24 G26 (show 0 ≤ (u2_19 + 1) from by (first | omega | (simp only [st_s] <;> omega) | assumption | omega | fail)) (show (u2_19 + 1) ≤ 1000 from by (first | omega | (simp only [st_s] <;> omega) | assumption | omega | fail)) (show τ_19.2.1 30 n1 + τ_19.2.1 31 n1 = (τ_19.1 14) from by (first | omega | (simp only [st_s] <;> omega) | assumption | omega | fail)) (show J_pm n1 (τ_19.1 12) (τ_19.2.1 30) (τ_19.2.1 31) (τ_19.2.1 32) (τ_19.2.1 26) from by (first | exact i19_4 | (intro q q0 q1; exfalso; rw [st_s, st_s] at *; omega) | (have ej := J_pm_a i19_4 i19_3 (x := x4) (y := x5) (by omega) (by omega) (by omega) (q6_2 (by omega)) (q11_2 (by omega)); rw [← e_x20] at ej; exact ej) | fail))
  refine ⟨(show 0 ≤ n1 ∧ n1 < 1500 from by (first | omega | (simp only [st_s] <;> omega) | assumption | omega | fail)), ?_⟩
  replace ag := ag_w (k := 30) (x := (σ.1 14)) 7 0 ag rfl (show σ.1 7 + 0 ≤ n1 from by (first | omega | (simp only [st_s] <;> omega) | assumption | omega | fail))
  replace hT := cT_a (k := 30) (j := n1) hT (show (0 : Int) ≤ (σ.1 14) ∧ (σ.1 14) ≤ 20000 from by (first | omega | (simp only [st_s] <;> omega) | assumption | omega | fail))
  replace ag := ag_w (k := 31) (x := 0) 7 0 ag rfl (show σ.1 7 + 0 ≤ n1 from by (first | omega | (simp only [st_s] <;> omega) | assumption | omega | fail))
  replace hT := cT_a (k := 31) (j := n1) hT (show (0 : Int) ≤ 0 ∧ 0 ≤ 20000 from by (first | omega | (simp only [st_s] <;> omega) | assumption | omega | fail))
  exact l_19 ((1001 - 0 : Int).toNat + 1) _ _ (show (1001 - 0 : Int) < (((1001 - 0 : Int).toNat + 1 : Nat) : Int) from by ((first | omega | (simp only [st_s] <;> omega) | assumption | omega | fail))) hT ag (show σ.1 3 = σ.1 3 from by first | exact W3 | omega) (show σ.1 5 = σ.1 5 from by first | exact W5 | omega) (show σ.1 6 = σ.1 6 from by first | exact W6 | omega) (show σ.1 7 = σ.1 7 from by first | exact W7 | omega) (show σ.1 10 = σ.1 10 from by first | exact W10 | omega) (show σ.1 12 = σ.1 12 from by first | exact W12 | omega) (show σ.1 13 = σ.1 13 from by first | exact W13 | omega) (show σ.1 15 = σ.1 15 from by first | exact W15 | omega) (show σ.1 16 = σ.1 16 from by first | exact W16 | omega) G23 G24 G26 (show 0 ≤ 0 from by (first | omega | (simp only [st_s] <;> omega) | assumption | omega | fail)) (show 0 ≤ 1000 from by (first | omega | (simp only [st_s] <;> omega) | assumption | omega | fail)) (show (st (σ.2.1 30) n1 (σ.1 14)) n1 + (st (σ.2.1 31) n1 0) n1 = (σ.1 14) from by (first | omega | (simp only [st_s] <;> omega) | assumption | omega | fail)) (show J_pm n1 (σ.1 12) ((st (σ.2.1 30) n1 (σ.1 14))) ((st (σ.2.1 31) n1 0)) (σ.2.1 32) (σ.2.1 26) from by (first | exact i19_4 | (intro q q0 q1; exfalso; rw [st_s, st_s] at *; omega) | (have ej := J_pm_a i19_4 i19_3 (x := x4) (y := x5) (by omega) (by omega) (by omega) (q6_2 (by omega)) (q11_2 (by omega)); rw [← e_x20] at ej; exact ej) | fail))
set_option maxHeartbeats 1000000 in
theorem K_X0_makeFrame {n1 : Int} {σ : S0} (hT : c_T σ) (p1 : 0 ≤ n1) (p2 : n1 < 1500) (p3 : n1 = (σ.1 7)) (p4 : (σ.1 13) ≤ 60 * n1) (p5 : J_hfa (σ.1 9) (σ.2.1 13) (σ.2.1 14) (σ.2.1 22)) (p6 : (σ.1 12) < 2147483647) (p7 : J_sc (σ.1 7) (σ.1 9) (σ.2.1 13) (σ.2.1 14) (σ.2.1 15) (σ.2.1 16) (σ.2.1 22) (σ.2.1 19)) (p8 : J_ip n1 (σ.1 6) (σ.1 37) (σ.2.1 14) (σ.2.1 15) (σ.2.1 16) (σ.2.1 19)) (p9 : ¬ (σ.1 37) = 0) (p10 : σ.2.1 14 (n1 + 1) = (σ.1 6)) (p11 : σ.2.1 14 n1 ≤ (σ.1 6)) (p12 : ∀ i : Int, 0 ≤ i → i < (σ.1 7) → J_t i (σ.1 6) (σ.2.1 13) (σ.2.1 14) (σ.2.1 15) (σ.2.1 16) (σ.2.1 10)) (p13 : ∀ s : Int, σ.2.1 26 s ≤ (σ.1 12)) : W_X0_makeFrame n1 σ (fun (x : Int) (τ : S0) => (c_T τ) ∧ (0 ≤ x ∧ x ≤ 1) ∧ (τ.2.1 27 n1 + τ.2.1 28 n1 = (τ.1 13)) ∧ ((τ.1 13) ≤ 60 * n1 + 60) ∧ (¬ x = 0 → τ.2.1 30 n1 + τ.2.1 31 n1 = (τ.1 14)) ∧ ((τ.1 12) = (σ.1 12) + 1) ∧ (∀ s : Int, τ.2.1 26 s ≤ (τ.1 12)) ∧ (¬ x = 0 → J_f n1 (τ.1 13) (τ.1 14) (τ.2.1 13) (τ.2.1 14) (τ.2.1 15) (τ.2.1 16) (τ.2.1 27) (τ.2.1 28) (τ.2.1 29) (τ.2.1 30) (τ.2.1 31) (τ.2.1 32)) ∧ (c_ag σ τ)) := by
  have A10 : ∀ j, (-1) ≤ σ.2.1 10 j ∧ σ.2.1 10 j ≤ 99 := fun j => hT.2 10 j
  have A13 : ∀ j, 0 ≤ σ.2.1 13 j ∧ σ.2.1 13 j ≤ 4 := fun j => hT.2 13 j
  have A14 : ∀ j, 0 ≤ σ.2.1 14 j ∧ σ.2.1 14 j ≤ 30000 := fun j => hT.2 14 j
  have A15 : ∀ j, 0 ≤ σ.2.1 15 j ∧ σ.2.1 15 j ≤ 999 := fun j => hT.2 15 j
  have A16 : ∀ j, (-1) ≤ σ.2.1 16 j ∧ σ.2.1 16 j ≤ 1499 := fun j => hT.2 16 j
  have A19 : ∀ j, (-1) ≤ σ.2.1 19 j ∧ σ.2.1 19 j ≤ 1499 := fun j => hT.2 19 j
  have A22 : ∀ j, 0 ≤ σ.2.1 22 j ∧ σ.2.1 22 j ≤ 1499 := fun j => hT.2 22 j
  have A26 : ∀ j, (-2147483648) ≤ σ.2.1 26 j ∧ σ.2.1 26 j ≤ 2147483647 := fun j => hT.2 26 j
  have A27 : ∀ j, 0 ≤ σ.2.1 27 j ∧ σ.2.1 27 j ≤ 90000 := fun j => hT.2 27 j
  have A28 : ∀ j, 0 ≤ σ.2.1 28 j ∧ σ.2.1 28 j ≤ 60 := fun j => hT.2 28 j
  have A29 : ∀ j, 0 ≤ σ.2.1 29 j ∧ σ.2.1 29 j ≤ 1499 := fun j => hT.2 29 j
  have A30 : ∀ j, 0 ≤ σ.2.1 30 j ∧ σ.2.1 30 j ≤ 20000 := fun j => hT.2 30 j
  have A31 : ∀ j, 0 ≤ σ.2.1 31 j ∧ σ.2.1 31 j ≤ 20000 := fun j => hT.2 31 j
  have A32 : ∀ j, 0 ≤ σ.2.1 32 j ∧ σ.2.1 32 j ≤ 999999 := fun j => hT.2 32 j
  have v3 : 0 ≤ σ.1 3 ∧ σ.1 3 ≤ 2500 := hT.1 3
  have v5 : 0 ≤ σ.1 5 ∧ σ.1 5 ≤ 1000 := hT.1 5
  have v6 : 0 ≤ σ.1 6 ∧ σ.1 6 ≤ 30000 := hT.1 6
  have v7 : 0 ≤ σ.1 7 ∧ σ.1 7 ≤ 1500 := hT.1 7
  have v9 : 0 ≤ σ.1 9 ∧ σ.1 9 ≤ 1500 := hT.1 9
  have v12 : (-2147483648) ≤ σ.1 12 ∧ σ.1 12 ≤ 2147483647 := hT.1 12
  have v13 : 0 ≤ σ.1 13 ∧ σ.1 13 ≤ 90000 := hT.1 13
  have v14 : 0 ≤ σ.1 14 ∧ σ.1 14 ≤ 20000 := hT.1 14
  have v15 : 0 ≤ σ.1 15 ∧ σ.1 15 ≤ 20000 := hT.1 15
  have v16 : 0 ≤ σ.1 16 ∧ σ.1 16 ≤ 20000 := hT.1 16
  have v37 : 0 ≤ σ.1 37 ∧ σ.1 37 ≤ 4 := hT.1 37
  have W3 : σ.1 3 = σ.1 3 := rfl
  have W5 : σ.1 5 = σ.1 5 := rfl
  have W6 : σ.1 6 = σ.1 6 := rfl
  have W7 : σ.1 7 = σ.1 7 := rfl
  have W9 : σ.1 9 = σ.1 9 := rfl
  have W15 : σ.1 15 = σ.1 15 := rfl
  have W16 : σ.1 16 = σ.1 16 := rfl
  have W37 : σ.1 37 = σ.1 37 := rfl
  have G10 : σ.2.1 10 = σ.2.1 10 := rfl
  have G13 : σ.2.1 13 = σ.2.1 13 := rfl
  have G14 : σ.2.1 14 = σ.2.1 14 := rfl
  have G15 : σ.2.1 15 = σ.2.1 15 := rfl
  have G16 : σ.2.1 16 = σ.2.1 16 := rfl
  have G19 : σ.2.1 19 = σ.2.1 19 := rfl
  have G22 : σ.2.1 22 = σ.2.1 22 := rfl
  have ag : c_ag σ σ := ag_0 σ
  intro P10 h10
  have SCn : J_sc n1 (σ.1 9) (σ.2.1 13) (σ.2.1 14) (σ.2.1 15) (σ.2.1 16) (σ.2.1 22) (σ.2.1 19) := by rw [p3]; exact p7
  have hT0 := hT
  have A13o := A13
  have A16o := A16
  have t015 : ∀ p : Int, 0 ≤ σ.2.1 15 p ∧ σ.2.1 15 p < 1000 := fun p => ⟨(A15 p).1, by have := (A15 p).2; omega⟩
  have JF : J_hfa (σ.1 9) (σ.2.1 13) (σ.2.1 14) (σ.2.1 22) := p5
  have SC : J_sc (σ.1 7) (σ.1 9) (σ.2.1 13) (σ.2.1 14) (σ.2.1 15) (σ.2.1 16) (σ.2.1 22) (σ.2.1 19) := p7
  have MT : ∀ s : Int, σ.2.1 26 s ≤ (σ.1 12) := p13
  have JT : ∀ i : Int, 0 ≤ i → i < (σ.1 7) → J_t i (σ.1 6) (σ.2.1 13) (σ.2.1 14) (σ.2.1 15) (σ.2.1 16) (σ.2.1 10) := p12
  have JF_0 := JF
  have JT_0 := JT
  have MT_0 := MT
  have SC_0 := SC
  have l_10 : ∀ (m_10 : Nat) (u2_10 : Int) (τ_10 : S0), 25 - u2_10 < (m_10 : Int) → (c_T τ_10) → (c_ag σ τ_10) → (τ_10.1 3 = σ.1 3) → (τ_10.1 5 = σ.1 5) → (τ_10.1 6 = σ.1 6) → (τ_10.1 7 = σ.1 7) → (τ_10.1 9 = σ.1 9) → (τ_10.1 15 = σ.1 15) → (τ_10.1 16 = σ.1 16) → (τ_10.1 37 = σ.1 37) → (τ_10.2.1 10 = σ.2.1 10) → (τ_10.2.1 13 = σ.2.1 13) → (τ_10.2.1 14 = σ.2.1 14) → (τ_10.2.1 15 = σ.2.1 15) → (τ_10.2.1 16 = σ.2.1 16) → (τ_10.2.1 19 = σ.2.1 19) → (τ_10.2.1 22 = σ.2.1 22) → (0 ≤ u2_10) → (u2_10 ≤ 24) → ((τ_10.1 13) = (σ.1 13)) → (J_hfa (τ_10.1 9) (τ_10.2.1 13) (τ_10.2.1 14) (τ_10.2.1 22)) → ((τ_10.1 12) = (σ.1 12) + 1) → (J_mA n1 (τ_10.1 12) (τ_10.2.1 14) (τ_10.2.1 15) (τ_10.2.1 16) (τ_10.2.1 26)) → (J_mB (τ_10.1 12) (τ_10.1 9) (τ_10.2.1 13) (τ_10.2.1 14) (τ_10.2.1 15) (τ_10.2.1 22) (τ_10.2.1 26)) → (∀ s : Int, τ_10.2.1 26 s ≤ (τ_10.1 12)) → (J_mC n1 (τ_10.1 12) (τ_10.1 9) (τ_10.2.1 13) (τ_10.2.1 14) (τ_10.2.1 15) (τ_10.2.1 16) (τ_10.2.1 22) (τ_10.2.1 26)) → P10 n1 u2_10 τ_10 := by
    intro m_10
    induction m_10 with
    | zero =>
      intro u2_10 τ_10 hm hT ag W3 W5 W6 W7 W9 W15 W16 W37 G10 G13 G14 G15 G16 G19 G22 i10_1 i10_2 i10_3 i10_4 i10_5 i10_6 i10_7 i10_8 i10_9
      have A10 : ∀ j, (-1) ≤ τ_10.2.1 10 j ∧ τ_10.2.1 10 j ≤ 99 := fun j => hT.2 10 j
      have A13 : ∀ j, 0 ≤ τ_10.2.1 13 j ∧ τ_10.2.1 13 j ≤ 4 := fun j => hT.2 13 j
      have A14 : ∀ j, 0 ≤ τ_10.2.1 14 j ∧ τ_10.2.1 14 j ≤ 30000 := fun j => hT.2 14 j
      have A15 : ∀ j, 0 ≤ τ_10.2.1 15 j ∧ τ_10.2.1 15 j ≤ 999 := fun j => hT.2 15 j
      have A16 : ∀ j, (-1) ≤ τ_10.2.1 16 j ∧ τ_10.2.1 16 j ≤ 1499 := fun j => hT.2 16 j
      have A19 : ∀ j, (-1) ≤ τ_10.2.1 19 j ∧ τ_10.2.1 19 j ≤ 1499 := fun j => hT.2 19 j
      have A22 : ∀ j, 0 ≤ τ_10.2.1 22 j ∧ τ_10.2.1 22 j ≤ 1499 := fun j => hT.2 22 j
      have A26 : ∀ j, (-2147483648) ≤ τ_10.2.1 26 j ∧ τ_10.2.1 26 j ≤ 2147483647 := fun j => hT.2 26 j
      have A27 : ∀ j, 0 ≤ τ_10.2.1 27 j ∧ τ_10.2.1 27 j ≤ 90000 := fun j => hT.2 27 j
      have A28 : ∀ j, 0 ≤ τ_10.2.1 28 j ∧ τ_10.2.1 28 j ≤ 60 := fun j => hT.2 28 j
      have A29 : ∀ j, 0 ≤ τ_10.2.1 29 j ∧ τ_10.2.1 29 j ≤ 1499 := fun j => hT.2 29 j
      have A30 : ∀ j, 0 ≤ τ_10.2.1 30 j ∧ τ_10.2.1 30 j ≤ 20000 := fun j => hT.2 30 j
      have A31 : ∀ j, 0 ≤ τ_10.2.1 31 j ∧ τ_10.2.1 31 j ≤ 20000 := fun j => hT.2 31 j
      have A32 : ∀ j, 0 ≤ τ_10.2.1 32 j ∧ τ_10.2.1 32 j ≤ 999999 := fun j => hT.2 32 j
      have v3 : 0 ≤ τ_10.1 3 ∧ τ_10.1 3 ≤ 2500 := hT.1 3
      have v5 : 0 ≤ τ_10.1 5 ∧ τ_10.1 5 ≤ 1000 := hT.1 5
      have v6 : 0 ≤ τ_10.1 6 ∧ τ_10.1 6 ≤ 30000 := hT.1 6
      have v7 : 0 ≤ τ_10.1 7 ∧ τ_10.1 7 ≤ 1500 := hT.1 7
      have v9 : 0 ≤ τ_10.1 9 ∧ τ_10.1 9 ≤ 1500 := hT.1 9
      have v12 : (-2147483648) ≤ τ_10.1 12 ∧ τ_10.1 12 ≤ 2147483647 := hT.1 12
      have v13 : 0 ≤ τ_10.1 13 ∧ τ_10.1 13 ≤ 90000 := hT.1 13
      have v14 : 0 ≤ τ_10.1 14 ∧ τ_10.1 14 ≤ 20000 := hT.1 14
      have v15 : 0 ≤ τ_10.1 15 ∧ τ_10.1 15 ≤ 20000 := hT.1 15
      have v16 : 0 ≤ τ_10.1 16 ∧ τ_10.1 16 ≤ 20000 := hT.1 16
      have v37 : 0 ≤ τ_10.1 37 ∧ τ_10.1 37 ≤ 4 := hT.1 37
      have av13 : σ.1 13 ≤ τ_10.1 13 := ag.1 13 (by decide)
      have av14 : σ.1 14 ≤ τ_10.1 14 := ag.1 14 (by decide)
      exfalso; (first | omega | (simp only [st_s] <;> omega) | assumption | omega | fail)
    | succ m_10 ih_10 =>
      intro u2_10 τ_10 hm_10 hT ag W3 W5 W6 W7 W9 W15 W16 W37 G10 G13 G14 G15 G16 G19 G22 i10_1 i10_2 i10_3 i10_4 i10_5 i10_6 i10_7 i10_8 i10_9
      have A10 : ∀ j, (-1) ≤ τ_10.2.1 10 j ∧ τ_10.2.1 10 j ≤ 99 := fun j => hT.2 10 j
      have A13 : ∀ j, 0 ≤ τ_10.2.1 13 j ∧ τ_10.2.1 13 j ≤ 4 := fun j => hT.2 13 j
      have A14 : ∀ j, 0 ≤ τ_10.2.1 14 j ∧ τ_10.2.1 14 j ≤ 30000 := fun j => hT.2 14 j
      have A15 : ∀ j, 0 ≤ τ_10.2.1 15 j ∧ τ_10.2.1 15 j ≤ 999 := fun j => hT.2 15 j
      have A16 : ∀ j, (-1) ≤ τ_10.2.1 16 j ∧ τ_10.2.1 16 j ≤ 1499 := fun j => hT.2 16 j
      have A19 : ∀ j, (-1) ≤ τ_10.2.1 19 j ∧ τ_10.2.1 19 j ≤ 1499 := fun j => hT.2 19 j
      have A22 : ∀ j, 0 ≤ τ_10.2.1 22 j ∧ τ_10.2.1 22 j ≤ 1499 := fun j => hT.2 22 j
      have A26 : ∀ j, (-2147483648) ≤ τ_10.2.1 26 j ∧ τ_10.2.1 26 j ≤ 2147483647 := fun j => hT.2 26 j
      have A27 : ∀ j, 0 ≤ τ_10.2.1 27 j ∧ τ_10.2.1 27 j ≤ 90000 := fun j => hT.2 27 j
      have A28 : ∀ j, 0 ≤ τ_10.2.1 28 j ∧ τ_10.2.1 28 j ≤ 60 := fun j => hT.2 28 j
      have A29 : ∀ j, 0 ≤ τ_10.2.1 29 j ∧ τ_10.2.1 29 j ≤ 1499 := fun j => hT.2 29 j
      have A30 : ∀ j, 0 ≤ τ_10.2.1 30 j ∧ τ_10.2.1 30 j ≤ 20000 := fun j => hT.2 30 j
      have A31 : ∀ j, 0 ≤ τ_10.2.1 31 j ∧ τ_10.2.1 31 j ≤ 20000 := fun j => hT.2 31 j
      have A32 : ∀ j, 0 ≤ τ_10.2.1 32 j ∧ τ_10.2.1 32 j ≤ 999999 := fun j => hT.2 32 j
      have v3 : 0 ≤ τ_10.1 3 ∧ τ_10.1 3 ≤ 2500 := hT.1 3
      have v5 : 0 ≤ τ_10.1 5 ∧ τ_10.1 5 ≤ 1000 := hT.1 5
      have v6 : 0 ≤ τ_10.1 6 ∧ τ_10.1 6 ≤ 30000 := hT.1 6
      have v7 : 0 ≤ τ_10.1 7 ∧ τ_10.1 7 ≤ 1500 := hT.1 7
      have v9 : 0 ≤ τ_10.1 9 ∧ τ_10.1 9 ≤ 1500 := hT.1 9
      have v12 : (-2147483648) ≤ τ_10.1 12 ∧ τ_10.1 12 ≤ 2147483647 := hT.1 12
      have v13 : 0 ≤ τ_10.1 13 ∧ τ_10.1 13 ≤ 90000 := hT.1 13
      have v14 : 0 ≤ τ_10.1 14 ∧ τ_10.1 14 ≤ 20000 := hT.1 14
      have v15 : 0 ≤ τ_10.1 15 ∧ τ_10.1 15 ≤ 20000 := hT.1 15
      have v16 : 0 ≤ τ_10.1 16 ∧ τ_10.1 16 ≤ 20000 := hT.1 16
      have v37 : 0 ≤ τ_10.1 37 ∧ τ_10.1 37 ≤ 4 := hT.1 37
      have av13 : σ.1 13 ≤ τ_10.1 13 := ag.1 13 (by decide)
      have av14 : σ.1 14 ≤ τ_10.1 14 := ag.1 14 (by decide)
      have JF : J_hfa (τ_10.1 9) (τ_10.2.1 13) (τ_10.2.1 14) (τ_10.2.1 22) := i10_4
      have SC : J_sc (τ_10.1 7) (τ_10.1 9) (τ_10.2.1 13) (τ_10.2.1 14) (τ_10.2.1 15) (τ_10.2.1 16) (τ_10.2.1 22) (τ_10.2.1 19) := by rw [show (J_sc (τ_10.1 7) (τ_10.1 9) (τ_10.2.1 13) (τ_10.2.1 14) (τ_10.2.1 15) (τ_10.2.1 16) (τ_10.2.1 22) (τ_10.2.1 19)) = (J_sc (σ.1 7) (σ.1 9) (σ.2.1 13) (σ.2.1 14) (σ.2.1 15) (σ.2.1 16) (σ.2.1 22) (σ.2.1 19)) from by rw [W7, W9, G13, G14, G15, G16, G19, G22]]; exact SC_0
      have MT : ∀ s : Int, τ_10.2.1 26 s ≤ (τ_10.1 12) := i10_8
      have JT : ∀ i : Int, 0 ≤ i → i < (τ_10.1 7) → J_t i (τ_10.1 6) (τ_10.2.1 13) (τ_10.2.1 14) (τ_10.2.1 15) (τ_10.2.1 16) (τ_10.2.1 10) := by rw [show (∀ i : Int, 0 ≤ i → i < (τ_10.1 7) → J_t i (τ_10.1 6) (τ_10.2.1 13) (τ_10.2.1 14) (τ_10.2.1 15) (τ_10.2.1 16) (τ_10.2.1 10)) = (∀ i : Int, 0 ≤ i → i < (σ.1 7) → J_t i (σ.1 6) (σ.2.1 13) (σ.2.1 14) (σ.2.1 15) (σ.2.1 16) (σ.2.1 10)) from by rw [W6, W7, G10, G13, G14, G15, G16]]; exact JT_0
      refine h10 n1 u2_10 τ_10 ?_
      refine ⟨fun c4 => ?_, fun c4 => ?_⟩
      ·
        have mA := i10_6
        have mB := i10_7
        rw [G14, G15, G16] at mA
        rw [W9, G13, G14, G15, G22] at mB
        have mC := i10_9
        rw [W9, G13, G14, G15, G16, G22] at mC
        have kd0 : ∀ j, 0 ≤ σ.2.1 13 j := fun j => (A13o j).1
        have fl0 : ∀ p, -1 ≤ σ.2.1 16 p := fun p => (A16o p).1
        refine ⟨_, K_X0_takeHypotheses hT (show 0 ≤ n1 from by (first | omega | (simp only [st_s] <;> omega) | assumption | omega | fail)) (show n1 < 1500 from by (first | omega | (simp only [st_s] <;> omega) | assumption | omega | fail)) (show n1 = (τ_10.1 7) from by (first | omega | (simp only [st_s] <;> omega) | assumption | omega | fail)) (show (τ_10.1 13) ≤ 60 * n1 from by (first | omega | (simp only [st_s] <;> omega) | assumption | omega | fail)) (show J_hfa (τ_10.1 9) (τ_10.2.1 13) (τ_10.2.1 14) (τ_10.2.1 22) from JF) (show J_sc (τ_10.1 7) (τ_10.1 9) (τ_10.2.1 13) (τ_10.2.1 14) (τ_10.2.1 15) (τ_10.2.1 16) (τ_10.2.1 22) (τ_10.2.1 19) from SC), ?_⟩
        intro x6 τ7 r_x6 hn_τ7 hf_τ7 hq
        obtain ⟨hT, q5_1, q5_2, q5_3, q5_4, q5_5⟩ := hq
        replace q5_1 : 0 ≤ x6 ∧ x6 ≤ 1 := q5_1
        replace q5_2 : τ7.2.1 27 n1 + τ7.2.1 28 n1 = (τ7.1 13) := q5_2
        replace q5_3 : (τ7.1 13) ≤ 60 * n1 + 60 := q5_3
        replace q5_4 : ¬ x6 = 0 → J_tk n1 (τ7.1 9) (τ7.1 12) (τ7.2.1 13) (τ7.2.1 14) (τ7.2.1 15) (τ7.2.1 26) (τ7.2.1 22) (τ7.2.1 27) (τ7.2.1 28) (τ7.2.1 29) := q5_4
        replace q5_5 : c_ag τ_10 τ7 := q5_5
        replace ag : c_ag σ τ7 := ag_t ag q5_5 rfl
        have w3_τ7 : τ7.1 3 = τ_10.1 3 := hf_τ7.1 3 (by decide)
        have w5_τ7 : τ7.1 5 = τ_10.1 5 := hf_τ7.1 5 (by decide)
        have w6_τ7 : τ7.1 6 = τ_10.1 6 := hf_τ7.1 6 (by decide)
        have w7_τ7 : τ7.1 7 = τ_10.1 7 := hf_τ7.1 7 (by decide)
        have w9_τ7 : τ7.1 9 = τ_10.1 9 := hf_τ7.1 9 (by decide)
        have w12_τ7 : τ7.1 12 = τ_10.1 12 := hf_τ7.1 12 (by decide)
        have w14_τ7 : τ7.1 14 = τ_10.1 14 := hf_τ7.1 14 (by decide)
        have w15_τ7 : τ7.1 15 = τ_10.1 15 := hf_τ7.1 15 (by decide)
        have w16_τ7 : τ7.1 16 = τ_10.1 16 := hf_τ7.1 16 (by decide)
        have w37_τ7 : τ7.1 37 = τ_10.1 37 := hf_τ7.1 37 (by decide)
        have g10_τ7 : τ7.2.1 10 = τ_10.2.1 10 := hf_τ7.2.1 10 (by decide)
        have g13_τ7 : τ7.2.1 13 = τ_10.2.1 13 := hf_τ7.2.1 13 (by decide)
        have g14_τ7 : τ7.2.1 14 = τ_10.2.1 14 := hf_τ7.2.1 14 (by decide)
        have g15_τ7 : τ7.2.1 15 = τ_10.2.1 15 := hf_τ7.2.1 15 (by decide)
        have g16_τ7 : τ7.2.1 16 = τ_10.2.1 16 := hf_τ7.2.1 16 (by decide)
        have g19_τ7 : τ7.2.1 19 = τ_10.2.1 19 := hf_τ7.2.1 19 (by decide)
        have g22_τ7 : τ7.2.1 22 = τ_10.2.1 22 := hf_τ7.2.1 22 (by decide)
        have g26_τ7 : τ7.2.1 26 = τ_10.2.1 26 := hf_τ7.2.1 26 (by decide)
        have g30_τ7 : τ7.2.1 30 = τ_10.2.1 30 := hf_τ7.2.1 30 (by decide)
        have g31_τ7 : τ7.2.1 31 = τ_10.2.1 31 := hf_τ7.2.1 31 (by decide)
        have g32_τ7 : τ7.2.1 32 = τ_10.2.1 32 := hf_τ7.2.1 32 (by decide)
        have W3 : τ7.1 3 = σ.1 3 := by first | exact w3_τ7.trans W3 | omega
        have W5 : τ7.1 5 = σ.1 5 := by first | exact w5_τ7.trans W5 | omega
        have W6 : τ7.1 6 = σ.1 6 := by first | exact w6_τ7.trans W6 | omega
        have W7 : τ7.1 7 = σ.1 7 := by first | exact w7_τ7.trans W7 | omega
        have W9 : τ7.1 9 = σ.1 9 := by first | exact w9_τ7.trans W9 | omega
        have W15 : τ7.1 15 = σ.1 15 := by first | exact w15_τ7.trans W15 | omega
        have W16 : τ7.1 16 = σ.1 16 := by first | exact w16_τ7.trans W16 | omega
        have W37 : τ7.1 37 = σ.1 37 := by first | exact w37_τ7.trans W37 | omega
        have G10 : τ7.2.1 10 = σ.2.1 10 := (g10_τ7).trans G10
        have G13 : τ7.2.1 13 = σ.2.1 13 := (g13_τ7).trans G13
        have G14 : τ7.2.1 14 = σ.2.1 14 := (g14_τ7).trans G14
        have G15 : τ7.2.1 15 = σ.2.1 15 := (g15_τ7).trans G15
        have G16 : τ7.2.1 16 = σ.2.1 16 := (g16_τ7).trans G16
        have G19 : τ7.2.1 19 = σ.2.1 19 := (g19_τ7).trans G19
        have G22 : τ7.2.1 22 = σ.2.1 22 := (g22_τ7).trans G22
        have JF : J_hfa (τ7.1 9) (τ7.2.1 13) (τ7.2.1 14) (τ7.2.1 22) := by rw [show (J_hfa (τ7.1 9) (τ7.2.1 13) (τ7.2.1 14) (τ7.2.1 22)) = (J_hfa (τ_10.1 9) (τ_10.2.1 13) (τ_10.2.1 14) (τ_10.2.1 22)) from by rw [w9_τ7, g13_τ7, g14_τ7, g22_τ7]]; exact JF
        have SC : J_sc (τ7.1 7) (τ7.1 9) (τ7.2.1 13) (τ7.2.1 14) (τ7.2.1 15) (τ7.2.1 16) (τ7.2.1 22) (τ7.2.1 19) := by rw [show (J_sc (τ7.1 7) (τ7.1 9) (τ7.2.1 13) (τ7.2.1 14) (τ7.2.1 15) (τ7.2.1 16) (τ7.2.1 22) (τ7.2.1 19)) = (J_sc (τ_10.1 7) (τ_10.1 9) (τ_10.2.1 13) (τ_10.2.1 14) (τ_10.2.1 15) (τ_10.2.1 16) (τ_10.2.1 22) (τ_10.2.1 19)) from by rw [w7_τ7, w9_τ7, g13_τ7, g14_τ7, g15_τ7, g16_τ7, g19_τ7, g22_τ7]]; exact SC
        have MT : ∀ s : Int, τ7.2.1 26 s ≤ (τ7.1 12) := by rw [show (∀ s : Int, τ7.2.1 26 s ≤ (τ7.1 12)) = (∀ s : Int, τ_10.2.1 26 s ≤ (τ_10.1 12)) from by rw [w12_τ7, g26_τ7]]; exact MT
        have JT : ∀ i : Int, 0 ≤ i → i < (τ7.1 7) → J_t i (τ7.1 6) (τ7.2.1 13) (τ7.2.1 14) (τ7.2.1 15) (τ7.2.1 16) (τ7.2.1 10) := by rw [show (∀ i : Int, 0 ≤ i → i < (τ7.1 7) → J_t i (τ7.1 6) (τ7.2.1 13) (τ7.2.1 14) (τ7.2.1 15) (τ7.2.1 16) (τ7.2.1 10)) = (∀ i : Int, 0 ≤ i → i < (τ_10.1 7) → J_t i (τ_10.1 6) (τ_10.2.1 13) (τ_10.2.1 14) (τ_10.2.1 15) (τ_10.2.1 16) (τ_10.2.1 10)) from by rw [w6_τ7, w7_τ7, g10_τ7, g13_τ7, g14_τ7, g15_τ7, g16_τ7]]; exact JT
        have A10 : ∀ j, (-1) ≤ τ7.2.1 10 j ∧ τ7.2.1 10 j ≤ 99 := fun j => hT.2 10 j
        have A13 : ∀ j, 0 ≤ τ7.2.1 13 j ∧ τ7.2.1 13 j ≤ 4 := fun j => hT.2 13 j
        have A14 : ∀ j, 0 ≤ τ7.2.1 14 j ∧ τ7.2.1 14 j ≤ 30000 := fun j => hT.2 14 j
        have A15 : ∀ j, 0 ≤ τ7.2.1 15 j ∧ τ7.2.1 15 j ≤ 999 := fun j => hT.2 15 j
        have A16 : ∀ j, (-1) ≤ τ7.2.1 16 j ∧ τ7.2.1 16 j ≤ 1499 := fun j => hT.2 16 j
        have A19 : ∀ j, (-1) ≤ τ7.2.1 19 j ∧ τ7.2.1 19 j ≤ 1499 := fun j => hT.2 19 j
        have A22 : ∀ j, 0 ≤ τ7.2.1 22 j ∧ τ7.2.1 22 j ≤ 1499 := fun j => hT.2 22 j
        have A26 : ∀ j, (-2147483648) ≤ τ7.2.1 26 j ∧ τ7.2.1 26 j ≤ 2147483647 := fun j => hT.2 26 j
        have A27 : ∀ j, 0 ≤ τ7.2.1 27 j ∧ τ7.2.1 27 j ≤ 90000 := fun j => hT.2 27 j
        have A28 : ∀ j, 0 ≤ τ7.2.1 28 j ∧ τ7.2.1 28 j ≤ 60 := fun j => hT.2 28 j
        have A29 : ∀ j, 0 ≤ τ7.2.1 29 j ∧ τ7.2.1 29 j ≤ 1499 := fun j => hT.2 29 j
        have A30 : ∀ j, 0 ≤ τ7.2.1 30 j ∧ τ7.2.1 30 j ≤ 20000 := fun j => hT.2 30 j
        have A31 : ∀ j, 0 ≤ τ7.2.1 31 j ∧ τ7.2.1 31 j ≤ 20000 := fun j => hT.2 31 j
        have A32 : ∀ j, 0 ≤ τ7.2.1 32 j ∧ τ7.2.1 32 j ≤ 999999 := fun j => hT.2 32 j
        have v3 : 0 ≤ τ7.1 3 ∧ τ7.1 3 ≤ 2500 := hT.1 3
        have v5 : 0 ≤ τ7.1 5 ∧ τ7.1 5 ≤ 1000 := hT.1 5
        have v6 : 0 ≤ τ7.1 6 ∧ τ7.1 6 ≤ 30000 := hT.1 6
        have v7 : 0 ≤ τ7.1 7 ∧ τ7.1 7 ≤ 1500 := hT.1 7
        have v9 : 0 ≤ τ7.1 9 ∧ τ7.1 9 ≤ 1500 := hT.1 9
        have v12 : (-2147483648) ≤ τ7.1 12 ∧ τ7.1 12 ≤ 2147483647 := hT.1 12
        have v13 : 0 ≤ τ7.1 13 ∧ τ7.1 13 ≤ 90000 := hT.1 13
        have v14 : 0 ≤ τ7.1 14 ∧ τ7.1 14 ≤ 20000 := hT.1 14
        have v15 : 0 ≤ τ7.1 15 ∧ τ7.1 15 ≤ 20000 := hT.1 15
        have v16 : 0 ≤ τ7.1 16 ∧ τ7.1 16 ≤ 20000 := hT.1 16
        have v37 : 0 ≤ τ7.1 37 ∧ τ7.1 37 ≤ 4 := hT.1 37
        have av13 : σ.1 13 ≤ τ7.1 13 := ag.1 13 (by decide)
        have av14 : σ.1 14 ≤ τ7.1 14 := ag.1 14 (by decide)
        refine ⟨fun c8 => ?_, fun c8 => ?_⟩
        ·
          exact ⟨hT, (show 0 ≤ 0 ∧ 0 ≤ 1 from by (first | omega | (simp only [st_s] <;> omega) | assumption | omega | fail)), (show τ7.2.1 27 n1 + τ7.2.1 28 n1 = (τ7.1 13) from by (first | omega | (rw [g27_τ11, g28_τ11]; omega) | fail)), (show (τ7.1 13) ≤ 60 * n1 + 60 from by (first | omega | (simp only [st_s] <;> omega) | assumption | omega | fail)), (show ¬ 0 = 0 → τ7.2.1 30 n1 + τ7.2.1 31 n1 = (τ7.1 14) from by (first | omega | (simp only [st_s] <;> omega) | assumption | omega | fail)), (show (τ7.1 12) = (σ.1 12) + 1 from by (first | omega | (simp only [st_s] <;> omega) | assumption | omega | fail)), (show ∀ s : Int, τ7.2.1 26 s ≤ (τ7.1 12) from MT), (show ¬ 0 = 0 → J_f n1 (τ7.1 13) (τ7.1 14) (τ7.2.1 13) (τ7.2.1 14) (τ7.2.1 15) (τ7.2.1 16) (τ7.2.1 27) (τ7.2.1 28) (τ7.2.1 29) (τ7.2.1 30) (τ7.2.1 31) (τ7.2.1 32) from by (first | (intro z; exfalso; omega) | (intro _; have tk := q5_4 (by omega); have pm := q9_3; rw [← w9_τ11, ← w12_τ11, ← g13_τ11, ← g14_τ11, ← g15_τ11, ← g26_τ11, ← g22_τ11, ← g27_τ11, ← g28_τ11, ← g29_τ11, W9, G13, G14, G15, G22] at tk; rw [← w12_τ7, ← w12_τ11, ← g26_τ7, ← g26_τ11] at mA mB mC; rw [G13, G14, G15, G16]; exact J_f_new (rk := σ.2.1 10) SCn p8 p9 p10 t015 kd0 fl0 mA mB mC tk pm (by rw [g27_τ11, g28_τ11]; omega) (by omega)) | fail)), ag⟩
        ·
          refine ⟨_, K_X0_takePairs hT (show 0 ≤ n1 from by (first | omega | (simp only [st_s] <;> omega) | assumption | omega | fail)) (show n1 < 1500 from by (first | omega | (simp only [st_s] <;> omega) | assumption | omega | fail)) (show n1 = (τ7.1 7) from by (first | omega | (simp only [st_s] <;> omega) | assumption | omega | fail)), ?_⟩
          intro x10 τ11 r_x10 hn_τ11 hf_τ11 hq
          obtain ⟨hT, q9_1, q9_2, q9_3, q9_4⟩ := hq
          replace q9_1 : 0 ≤ x10 ∧ x10 ≤ 1 := q9_1
          replace q9_2 : τ11.2.1 30 n1 + τ11.2.1 31 n1 = (τ11.1 14) := q9_2
          replace q9_3 : J_pm n1 (τ11.1 12) (τ11.2.1 30) (τ11.2.1 31) (τ11.2.1 32) (τ11.2.1 26) := q9_3
          replace q9_4 : c_ag τ7 τ11 := q9_4
          replace ag : c_ag σ τ11 := ag_t ag q9_4 rfl
          have w3_τ11 : τ11.1 3 = τ7.1 3 := hf_τ11.1 3 (by decide)
          have w5_τ11 : τ11.1 5 = τ7.1 5 := hf_τ11.1 5 (by decide)
          have w6_τ11 : τ11.1 6 = τ7.1 6 := hf_τ11.1 6 (by decide)
          have w7_τ11 : τ11.1 7 = τ7.1 7 := hf_τ11.1 7 (by decide)
          have w9_τ11 : τ11.1 9 = τ7.1 9 := hf_τ11.1 9 (by decide)
          have w12_τ11 : τ11.1 12 = τ7.1 12 := hf_τ11.1 12 (by decide)
          have w13_τ11 : τ11.1 13 = τ7.1 13 := hf_τ11.1 13 (by decide)
          have w15_τ11 : τ11.1 15 = τ7.1 15 := hf_τ11.1 15 (by decide)
          have w16_τ11 : τ11.1 16 = τ7.1 16 := hf_τ11.1 16 (by decide)
          have w37_τ11 : τ11.1 37 = τ7.1 37 := hf_τ11.1 37 (by decide)
          have g10_τ11 : τ11.2.1 10 = τ7.2.1 10 := hf_τ11.2.1 10 (by decide)
          have g13_τ11 : τ11.2.1 13 = τ7.2.1 13 := hf_τ11.2.1 13 (by decide)
          have g14_τ11 : τ11.2.1 14 = τ7.2.1 14 := hf_τ11.2.1 14 (by decide)
          have g15_τ11 : τ11.2.1 15 = τ7.2.1 15 := hf_τ11.2.1 15 (by decide)
          have g16_τ11 : τ11.2.1 16 = τ7.2.1 16 := hf_τ11.2.1 16 (by decide)
          have g19_τ11 : τ11.2.1 19 = τ7.2.1 19 := hf_τ11.2.1 19 (by decide)
          have g22_τ11 : τ11.2.1 22 = τ7.2.1 22 := hf_τ11.2.1 22 (by decide)
          have g26_τ11 : τ11.2.1 26 = τ7.2.1 26 := hf_τ11.2.1 26 (by decide)
          have g27_τ11 : τ11.2.1 27 = τ7.2.1 27 := hf_τ11.2.1 27 (by decide)
          have g28_τ11 : τ11.2.1 28 = τ7.2.1 28 := hf_τ11.2.1 28 (by decide)
          have g29_τ11 : τ11.2.1 29 = τ7.2.1 29 := hf_τ11.2.1 29 (by decide)
          have W3 : τ11.1 3 = σ.1 3 := by first | exact w3_τ11.trans W3 | omega
          have W5 : τ11.1 5 = σ.1 5 := by first | exact w5_τ11.trans W5 | omega
          have W6 : τ11.1 6 = σ.1 6 := by first | exact w6_τ11.trans W6 | omega
          have W7 : τ11.1 7 = σ.1 7 := by first | exact w7_τ11.trans W7 | omega
          have W9 : τ11.1 9 = σ.1 9 := by first | exact w9_τ11.trans W9 | omega
          have W15 : τ11.1 15 = σ.1 15 := by first | exact w15_τ11.trans W15 | omega
          have W16 : τ11.1 16 = σ.1 16 := by first | exact w16_τ11.trans W16 | omega
          have W37 : τ11.1 37 = σ.1 37 := by first | exact w37_τ11.trans W37 | omega
          have G10 : τ11.2.1 10 = σ.2.1 10 := (g10_τ11).trans G10
          have G13 : τ11.2.1 13 = σ.2.1 13 := (g13_τ11).trans G13
          have G14 : τ11.2.1 14 = σ.2.1 14 := (g14_τ11).trans G14
          have G15 : τ11.2.1 15 = σ.2.1 15 := (g15_τ11).trans G15
          have G16 : τ11.2.1 16 = σ.2.1 16 := (g16_τ11).trans G16
          have G19 : τ11.2.1 19 = σ.2.1 19 := (g19_τ11).trans G19
          have G22 : τ11.2.1 22 = σ.2.1 22 := (g22_τ11).trans G22
          have JF : J_hfa (τ11.1 9) (τ11.2.1 13) (τ11.2.1 14) (τ11.2.1 22) := by rw [show (J_hfa (τ11.1 9) (τ11.2.1 13) (τ11.2.1 14) (τ11.2.1 22)) = (J_hfa (τ7.1 9) (τ7.2.1 13) (τ7.2.1 14) (τ7.2.1 22)) from by rw [w9_τ11, g13_τ11, g14_τ11, g22_τ11]]; exact JF
          have SC : J_sc (τ11.1 7) (τ11.1 9) (τ11.2.1 13) (τ11.2.1 14) (τ11.2.1 15) (τ11.2.1 16) (τ11.2.1 22) (τ11.2.1 19) := by rw [show (J_sc (τ11.1 7) (τ11.1 9) (τ11.2.1 13) (τ11.2.1 14) (τ11.2.1 15) (τ11.2.1 16) (τ11.2.1 22) (τ11.2.1 19)) = (J_sc (τ7.1 7) (τ7.1 9) (τ7.2.1 13) (τ7.2.1 14) (τ7.2.1 15) (τ7.2.1 16) (τ7.2.1 22) (τ7.2.1 19)) from by rw [w7_τ11, w9_τ11, g13_τ11, g14_τ11, g15_τ11, g16_τ11, g19_τ11, g22_τ11]]; exact SC
          have MT : ∀ s : Int, τ11.2.1 26 s ≤ (τ11.1 12) := by rw [show (∀ s : Int, τ11.2.1 26 s ≤ (τ11.1 12)) = (∀ s : Int, τ7.2.1 26 s ≤ (τ7.1 12)) from by rw [w12_τ11, g26_τ11]]; exact MT
          have JT : ∀ i : Int, 0 ≤ i → i < (τ11.1 7) → J_t i (τ11.1 6) (τ11.2.1 13) (τ11.2.1 14) (τ11.2.1 15) (τ11.2.1 16) (τ11.2.1 10) := by rw [show (∀ i : Int, 0 ≤ i → i < (τ11.1 7) → J_t i (τ11.1 6) (τ11.2.1 13) (τ11.2.1 14) (τ11.2.1 15) (τ11.2.1 16) (τ11.2.1 10)) = (∀ i : Int, 0 ≤ i → i < (τ7.1 7) → J_t i (τ7.1 6) (τ7.2.1 13) (τ7.2.1 14) (τ7.2.1 15) (τ7.2.1 16) (τ7.2.1 10)) from by rw [w6_τ11, w7_τ11, g10_τ11, g13_τ11, g14_τ11, g15_τ11, g16_τ11]]; exact JT
          have A10 : ∀ j, (-1) ≤ τ11.2.1 10 j ∧ τ11.2.1 10 j ≤ 99 := fun j => hT.2 10 j
          have A13 : ∀ j, 0 ≤ τ11.2.1 13 j ∧ τ11.2.1 13 j ≤ 4 := fun j => hT.2 13 j
          have A14 : ∀ j, 0 ≤ τ11.2.1 14 j ∧ τ11.2.1 14 j ≤ 30000 := fun j => hT.2 14 j
          have A15 : ∀ j, 0 ≤ τ11.2.1 15 j ∧ τ11.2.1 15 j ≤ 999 := fun j => hT.2 15 j
          have A16 : ∀ j, (-1) ≤ τ11.2.1 16 j ∧ τ11.2.1 16 j ≤ 1499 := fun j => hT.2 16 j
          have A19 : ∀ j, (-1) ≤ τ11.2.1 19 j ∧ τ11.2.1 19 j ≤ 1499 := fun j => hT.2 19 j
          have A22 : ∀ j, 0 ≤ τ11.2.1 22 j ∧ τ11.2.1 22 j ≤ 1499 := fun j => hT.2 22 j
          have A26 : ∀ j, (-2147483648) ≤ τ11.2.1 26 j ∧ τ11.2.1 26 j ≤ 2147483647 := fun j => hT.2 26 j
          have A27 : ∀ j, 0 ≤ τ11.2.1 27 j ∧ τ11.2.1 27 j ≤ 90000 := fun j => hT.2 27 j
          have A28 : ∀ j, 0 ≤ τ11.2.1 28 j ∧ τ11.2.1 28 j ≤ 60 := fun j => hT.2 28 j
          have A29 : ∀ j, 0 ≤ τ11.2.1 29 j ∧ τ11.2.1 29 j ≤ 1499 := fun j => hT.2 29 j
          have A30 : ∀ j, 0 ≤ τ11.2.1 30 j ∧ τ11.2.1 30 j ≤ 20000 := fun j => hT.2 30 j
          have A31 : ∀ j, 0 ≤ τ11.2.1 31 j ∧ τ11.2.1 31 j ≤ 20000 := fun j => hT.2 31 j
          have A32 : ∀ j, 0 ≤ τ11.2.1 32 j ∧ τ11.2.1 32 j ≤ 999999 := fun j => hT.2 32 j
          have v3 : 0 ≤ τ11.1 3 ∧ τ11.1 3 ≤ 2500 := hT.1 3
          have v5 : 0 ≤ τ11.1 5 ∧ τ11.1 5 ≤ 1000 := hT.1 5
          have v6 : 0 ≤ τ11.1 6 ∧ τ11.1 6 ≤ 30000 := hT.1 6
          have v7 : 0 ≤ τ11.1 7 ∧ τ11.1 7 ≤ 1500 := hT.1 7
          have v9 : 0 ≤ τ11.1 9 ∧ τ11.1 9 ≤ 1500 := hT.1 9
          have v12 : (-2147483648) ≤ τ11.1 12 ∧ τ11.1 12 ≤ 2147483647 := hT.1 12
          have v13 : 0 ≤ τ11.1 13 ∧ τ11.1 13 ≤ 90000 := hT.1 13
          have v14 : 0 ≤ τ11.1 14 ∧ τ11.1 14 ≤ 20000 := hT.1 14
          have v15 : 0 ≤ τ11.1 15 ∧ τ11.1 15 ≤ 20000 := hT.1 15
          have v16 : 0 ≤ τ11.1 16 ∧ τ11.1 16 ≤ 20000 := hT.1 16
          have v37 : 0 ≤ τ11.1 37 ∧ τ11.1 37 ≤ 4 := hT.1 37
          have av13 : σ.1 13 ≤ τ11.1 13 := ag.1 13 (by decide)
          have av14 : σ.1 14 ≤ τ11.1 14 := ag.1 14 (by decide)
          refine ⟨fun c12 => ?_, fun c12 => ?_⟩
          ·
            exact ⟨hT, (show 0 ≤ 0 ∧ 0 ≤ 1 from by (first | omega | (simp only [st_s] <;> omega) | assumption | omega | fail)), (show τ11.2.1 27 n1 + τ11.2.1 28 n1 = (τ11.1 13) from by (first | omega | (rw [g27_τ11, g28_τ11]; omega) | fail)), (show (τ11.1 13) ≤ 60 * n1 + 60 from by (first | omega | (simp only [st_s] <;> omega) | assumption | omega | fail)), (show ¬ 0 = 0 → τ11.2.1 30 n1 + τ11.2.1 31 n1 = (τ11.1 14) from by (first | omega | (simp only [st_s] <;> omega) | assumption | omega | fail)), (show (τ11.1 12) = (σ.1 12) + 1 from by (first | omega | (simp only [st_s] <;> omega) | assumption | omega | fail)), (show ∀ s : Int, τ11.2.1 26 s ≤ (τ11.1 12) from MT), (show ¬ 0 = 0 → J_f n1 (τ11.1 13) (τ11.1 14) (τ11.2.1 13) (τ11.2.1 14) (τ11.2.1 15) (τ11.2.1 16) (τ11.2.1 27) (τ11.2.1 28) (τ11.2.1 29) (τ11.2.1 30) (τ11.2.1 31) (τ11.2.1 32) from by (first | (intro z; exfalso; omega) | (intro _; have tk := q5_4 (by omega); have pm := q9_3; rw [← w9_τ11, ← w12_τ11, ← g13_τ11, ← g14_τ11, ← g15_τ11, ← g26_τ11, ← g22_τ11, ← g27_τ11, ← g28_τ11, ← g29_τ11, W9, G13, G14, G15, G22] at tk; rw [← w12_τ7, ← w12_τ11, ← g26_τ7, ← g26_τ11] at mA mB mC; rw [G13, G14, G15, G16]; exact J_f_new (rk := σ.2.1 10) SCn p8 p9 p10 t015 kd0 fl0 mA mB mC tk pm (by rw [g27_τ11, g28_τ11]; omega) (by omega)) | fail)), ag⟩
          ·
            exact ⟨hT, (show 0 ≤ 1 ∧ 1 ≤ 1 from by (first | omega | (simp only [st_s] <;> omega) | assumption | omega | fail)), (show τ11.2.1 27 n1 + τ11.2.1 28 n1 = (τ11.1 13) from by (first | omega | (rw [g27_τ11, g28_τ11]; omega) | fail)), (show (τ11.1 13) ≤ 60 * n1 + 60 from by (first | omega | (simp only [st_s] <;> omega) | assumption | omega | fail)), (show ¬ 1 = 0 → τ11.2.1 30 n1 + τ11.2.1 31 n1 = (τ11.1 14) from by (first | omega | (simp only [st_s] <;> omega) | assumption | omega | fail)), (show (τ11.1 12) = (σ.1 12) + 1 from by (first | omega | (simp only [st_s] <;> omega) | assumption | omega | fail)), (show ∀ s : Int, τ11.2.1 26 s ≤ (τ11.1 12) from MT), (show ¬ 1 = 0 → J_f n1 (τ11.1 13) (τ11.1 14) (τ11.2.1 13) (τ11.2.1 14) (τ11.2.1 15) (τ11.2.1 16) (τ11.2.1 27) (τ11.2.1 28) (τ11.2.1 29) (τ11.2.1 30) (τ11.2.1 31) (τ11.2.1 32) from by (first | (intro z; exfalso; omega) | (intro _; have tk := q5_4 (by omega); have pm := q9_3; rw [← w9_τ11, ← w12_τ11, ← g13_τ11, ← g14_τ11, ← g15_τ11, ← g26_τ11, ← g22_τ11, ← g27_τ11, ← g28_τ11, ← g29_τ11, W9, G13, G14, G15, G22] at tk; rw [← w12_τ7, ← w12_τ11, ← g26_τ7, ← g26_τ11] at mA mB mC; rw [G13, G14, G15, G16]; exact J_f_new (rk := σ.2.1 10) SCn p8 p9 p10 t015 kd0 fl0 mA mB mC tk pm (by rw [g27_τ11, g28_τ11]; omega) (by omega)) | fail)), ag⟩
      ·
        refine ⟨(show 0 ≤ ((n1 * 24) + u2_10) ∧ ((n1 * 24) + u2_10) < 36000 from by (first | omega | (simp only [st_s] <;> omega) | assumption | omega | fail)), ?_⟩
        replace ag := ag_b (k := 2) (e := ((n1 * 24) + u2_10)) (x := 0) ag
        replace hT := cT_b (k := 2) (j := ((n1 * 24) + u2_10)) (x := 0) hT
        refine ⟨(⟨by (first | omega | (simp only [st_s] <;> omega) | assumption | omega | fail), by (first | omega | (simp only [st_s] <;> omega) | assumption | omega | fail)⟩ : rg (u2_10 + 1)), ?_⟩
        exact ih_10 _ _ (show (25 - (u2_10 + 1) : Int) < ((m_10 : Nat) : Int) from by ((first | omega | (simp only [st_s] <;> omega) | assumption | omega | fail))) hT ag (show τ_10.1 3 = σ.1 3 from by first | exact W3 | omega) (show τ_10.1 5 = σ.1 5 from by first | exact W5 | omega) (show τ_10.1 6 = σ.1 6 from by first | exact W6 | omega) (show τ_10.1 7 = σ.1 7 from by first | exact W7 | omega) (show τ_10.1 9 = σ.1 9 from by first | exact W9 | omega) (show τ_10.1 15 = σ.1 15 from by first | exact W15 | omega) (show τ_10.1 16 = σ.1 16 from by first | exact W16 | omega) (show τ_10.1 37 = σ.1 37 from by first | exact W37 | omega) G10 G13 G14 G15 G16 G19 G22 (show 0 ≤ (u2_10 + 1) from by (first | omega | (simp only [st_s] <;> omega) | assumption | omega | fail)) (show (u2_10 + 1) ≤ 24 from by (first | omega | (simp only [st_s] <;> omega) | assumption | omega | fail)) (show (τ_10.1 13) = (σ.1 13) from by (first | omega | (simp only [st_s] <;> omega) | assumption | omega | fail)) (show J_hfa (τ_10.1 9) (τ_10.2.1 13) (τ_10.2.1 14) (τ_10.2.1 22) from JF) (show (τ_10.1 12) = (σ.1 12) + 1 from by (first | omega | (simp only [st_s] <;> omega) | assumption | omega | fail)) (show J_mA n1 (τ_10.1 12) (τ_10.2.1 14) (τ_10.2.1 15) (τ_10.2.1 16) (τ_10.2.1 26) from by (first | exact i10_6 | exact q1_2 | fail)) (show J_mB (τ_10.1 12) (τ_10.1 9) (τ_10.2.1 13) (τ_10.2.1 14) (τ_10.2.1 15) (τ_10.2.1 22) (τ_10.2.1 26) from by (first | omega | (simp only [st_s] <;> omega) | assumption | omega | fail)) (show ∀ s : Int, τ_10.2.1 26 s ≤ (τ_10.1 12) from MT) (show J_mC n1 (τ_10.1 12) (τ_10.1 9) (τ_10.2.1 13) (τ_10.2.1 14) (τ_10.2.1 15) (τ_10.2.1 16) (τ_10.2.1 22) (τ_10.2.1 26) from by (first | exact i10_9 | exact q1_5 | fail))
  refine ⟨_, K2_X9_markFrame hT (show 0 ≤ n1 from by (first | omega | (simp only [st_s] <;> omega) | assumption | omega | fail)) (show n1 < 1500 from by (first | omega | (simp only [st_s] <;> omega) | assumption | omega | fail)) (show (σ.1 12) < 2147483647 from by (first | omega | (simp only [st_s] <;> omega) | assumption | omega | fail)) (show n1 = (σ.1 7) from by (first | omega | (simp only [st_s] <;> omega) | assumption | omega | fail)) (show J_sc (σ.1 7) (σ.1 9) (σ.2.1 13) (σ.2.1 14) (σ.2.1 15) (σ.2.1 16) (σ.2.1 22) (σ.2.1 19) from SC) (show J_ip n1 (σ.1 6) (σ.1 37) (σ.2.1 14) (σ.2.1 15) (σ.2.1 16) (σ.2.1 19) from by (first | omega | (simp only [st_s] <;> omega) | assumption | omega | fail)) (show ¬ (σ.1 37) = 0 from by (first | omega | (simp only [st_s] <;> omega) | assumption | omega | fail)) (show σ.2.1 14 (n1 + 1) = (σ.1 6) from by (first | omega | (simp only [st_s] <;> omega) | assumption | omega | fail)) (show σ.2.1 14 n1 ≤ (σ.1 6) from by (first | omega | (simp only [st_s] <;> omega) | assumption | omega | fail)) (show ∀ i : Int, 0 ≤ i → i < (σ.1 7) → J_t i (σ.1 6) (σ.2.1 13) (σ.2.1 14) (σ.2.1 15) (σ.2.1 16) (σ.2.1 10) from JT) (show ∀ s : Int, σ.2.1 26 s ≤ (σ.1 12) from MT), ?_⟩
  intro τ3 hn_τ3 hf_τ3 hq
  obtain ⟨hT, q1_1, q1_2, q1_3, q1_4, q1_5⟩ := hq
  replace q1_1 : (τ3.1 12) = (σ.1 12) + 1 := q1_1
  replace q1_2 : J_mA n1 (τ3.1 12) (τ3.2.1 14) (τ3.2.1 15) (τ3.2.1 16) (τ3.2.1 26) := q1_2
  replace q1_3 : J_mB (τ3.1 12) (τ3.1 9) (τ3.2.1 13) (τ3.2.1 14) (τ3.2.1 15) (τ3.2.1 22) (τ3.2.1 26) := q1_3
  replace q1_4 : ∀ s : Int, τ3.2.1 26 s ≤ (τ3.1 12) := q1_4
  replace q1_5 : J_mC n1 (τ3.1 12) (τ3.1 9) (τ3.2.1 13) (τ3.2.1 14) (τ3.2.1 15) (τ3.2.1 16) (τ3.2.1 22) (τ3.2.1 26) := q1_5
  replace ag : c_ag σ τ3 := ag_r ag hf_τ3 rfl rfl
  have w3_τ3 : τ3.1 3 = σ.1 3 := hf_τ3.1 3 (by decide)
  have w5_τ3 : τ3.1 5 = σ.1 5 := hf_τ3.1 5 (by decide)
  have w6_τ3 : τ3.1 6 = σ.1 6 := hf_τ3.1 6 (by decide)
  have w7_τ3 : τ3.1 7 = σ.1 7 := hf_τ3.1 7 (by decide)
  have w9_τ3 : τ3.1 9 = σ.1 9 := hf_τ3.1 9 (by decide)
  have w13_τ3 : τ3.1 13 = σ.1 13 := hf_τ3.1 13 (by decide)
  have w14_τ3 : τ3.1 14 = σ.1 14 := hf_τ3.1 14 (by decide)
  have w15_τ3 : τ3.1 15 = σ.1 15 := hf_τ3.1 15 (by decide)
  have w16_τ3 : τ3.1 16 = σ.1 16 := hf_τ3.1 16 (by decide)
  have w37_τ3 : τ3.1 37 = σ.1 37 := hf_τ3.1 37 (by decide)
  have g10_τ3 : τ3.2.1 10 = σ.2.1 10 := hf_τ3.2.1 10 (by decide)
  have g13_τ3 : τ3.2.1 13 = σ.2.1 13 := hf_τ3.2.1 13 (by decide)
  have g14_τ3 : τ3.2.1 14 = σ.2.1 14 := hf_τ3.2.1 14 (by decide)
  have g15_τ3 : τ3.2.1 15 = σ.2.1 15 := hf_τ3.2.1 15 (by decide)
  have g16_τ3 : τ3.2.1 16 = σ.2.1 16 := hf_τ3.2.1 16 (by decide)
  have g19_τ3 : τ3.2.1 19 = σ.2.1 19 := hf_τ3.2.1 19 (by decide)
  have g22_τ3 : τ3.2.1 22 = σ.2.1 22 := hf_τ3.2.1 22 (by decide)
  have g27_τ3 : τ3.2.1 27 = σ.2.1 27 := hf_τ3.2.1 27 (by decide)
  have g28_τ3 : τ3.2.1 28 = σ.2.1 28 := hf_τ3.2.1 28 (by decide)
  have g29_τ3 : τ3.2.1 29 = σ.2.1 29 := hf_τ3.2.1 29 (by decide)
  have g30_τ3 : τ3.2.1 30 = σ.2.1 30 := hf_τ3.2.1 30 (by decide)
  have g31_τ3 : τ3.2.1 31 = σ.2.1 31 := hf_τ3.2.1 31 (by decide)
  have g32_τ3 : τ3.2.1 32 = σ.2.1 32 := hf_τ3.2.1 32 (by decide)
  have W3 : τ3.1 3 = σ.1 3 := by first | exact w3_τ3.trans W3 | omega
  have W5 : τ3.1 5 = σ.1 5 := by first | exact w5_τ3.trans W5 | omega
  have W6 : τ3.1 6 = σ.1 6 := by first | exact w6_τ3.trans W6 | omega
  have W7 : τ3.1 7 = σ.1 7 := by first | exact w7_τ3.trans W7 | omega
  have W9 : τ3.1 9 = σ.1 9 := by first | exact w9_τ3.trans W9 | omega
  have W15 : τ3.1 15 = σ.1 15 := by first | exact w15_τ3.trans W15 | omega
  have W16 : τ3.1 16 = σ.1 16 := by first | exact w16_τ3.trans W16 | omega
  have W37 : τ3.1 37 = σ.1 37 := by first | exact w37_τ3.trans W37 | omega
  have G10 : τ3.2.1 10 = σ.2.1 10 := (g10_τ3).trans G10
  have G13 : τ3.2.1 13 = σ.2.1 13 := (g13_τ3).trans G13
  have G14 : τ3.2.1 14 = σ.2.1 14 := (g14_τ3).trans G14
  have G15 : τ3.2.1 15 = σ.2.1 15 := (g15_τ3).trans G15
  have G16 : τ3.2.1 16 = σ.2.1 16 := (g16_τ3).trans G16
  have G19 : τ3.2.1 19 = σ.2.1 19 := (g19_τ3).trans G19
  have G22 : τ3.2.1 22 = σ.2.1 22 := (g22_τ3).trans G22
  have JF : J_hfa (τ3.1 9) (τ3.2.1 13) (τ3.2.1 14) (τ3.2.1 22) := by rw [show (J_hfa (τ3.1 9) (τ3.2.1 13) (τ3.2.1 14) (τ3.2.1 22)) = (J_hfa (σ.1 9) (σ.2.1 13) (σ.2.1 14) (σ.2.1 22)) from by rw [w9_τ3, g13_τ3, g14_τ3, g22_τ3]]; exact JF
  have SC : J_sc (τ3.1 7) (τ3.1 9) (τ3.2.1 13) (τ3.2.1 14) (τ3.2.1 15) (τ3.2.1 16) (τ3.2.1 22) (τ3.2.1 19) := by rw [show (J_sc (τ3.1 7) (τ3.1 9) (τ3.2.1 13) (τ3.2.1 14) (τ3.2.1 15) (τ3.2.1 16) (τ3.2.1 22) (τ3.2.1 19)) = (J_sc (σ.1 7) (σ.1 9) (σ.2.1 13) (σ.2.1 14) (σ.2.1 15) (σ.2.1 16) (σ.2.1 22) (σ.2.1 19)) from by rw [w7_τ3, w9_τ3, g13_τ3, g14_τ3, g15_τ3, g16_τ3, g19_τ3, g22_τ3]]; exact SC
  have MT : ∀ s : Int, τ3.2.1 26 s ≤ (τ3.1 12) := q1_4
  have JT : ∀ i : Int, 0 ≤ i → i < (τ3.1 7) → J_t i (τ3.1 6) (τ3.2.1 13) (τ3.2.1 14) (τ3.2.1 15) (τ3.2.1 16) (τ3.2.1 10) := by rw [show (∀ i : Int, 0 ≤ i → i < (τ3.1 7) → J_t i (τ3.1 6) (τ3.2.1 13) (τ3.2.1 14) (τ3.2.1 15) (τ3.2.1 16) (τ3.2.1 10)) = (∀ i : Int, 0 ≤ i → i < (σ.1 7) → J_t i (σ.1 6) (σ.2.1 13) (σ.2.1 14) (σ.2.1 15) (σ.2.1 16) (σ.2.1 10)) from by rw [w6_τ3, w7_τ3, g10_τ3, g13_τ3, g14_τ3, g15_τ3, g16_τ3]]; exact JT
  have A10 : ∀ j, (-1) ≤ τ3.2.1 10 j ∧ τ3.2.1 10 j ≤ 99 := fun j => hT.2 10 j
  have A13 : ∀ j, 0 ≤ τ3.2.1 13 j ∧ τ3.2.1 13 j ≤ 4 := fun j => hT.2 13 j
  have A14 : ∀ j, 0 ≤ τ3.2.1 14 j ∧ τ3.2.1 14 j ≤ 30000 := fun j => hT.2 14 j
  have A15 : ∀ j, 0 ≤ τ3.2.1 15 j ∧ τ3.2.1 15 j ≤ 999 := fun j => hT.2 15 j
  have A16 : ∀ j, (-1) ≤ τ3.2.1 16 j ∧ τ3.2.1 16 j ≤ 1499 := fun j => hT.2 16 j
  have A19 : ∀ j, (-1) ≤ τ3.2.1 19 j ∧ τ3.2.1 19 j ≤ 1499 := fun j => hT.2 19 j
  have A22 : ∀ j, 0 ≤ τ3.2.1 22 j ∧ τ3.2.1 22 j ≤ 1499 := fun j => hT.2 22 j
  have A26 : ∀ j, (-2147483648) ≤ τ3.2.1 26 j ∧ τ3.2.1 26 j ≤ 2147483647 := fun j => hT.2 26 j
  have A27 : ∀ j, 0 ≤ τ3.2.1 27 j ∧ τ3.2.1 27 j ≤ 90000 := fun j => hT.2 27 j
  have A28 : ∀ j, 0 ≤ τ3.2.1 28 j ∧ τ3.2.1 28 j ≤ 60 := fun j => hT.2 28 j
  have A29 : ∀ j, 0 ≤ τ3.2.1 29 j ∧ τ3.2.1 29 j ≤ 1499 := fun j => hT.2 29 j
  have A30 : ∀ j, 0 ≤ τ3.2.1 30 j ∧ τ3.2.1 30 j ≤ 20000 := fun j => hT.2 30 j
  have A31 : ∀ j, 0 ≤ τ3.2.1 31 j ∧ τ3.2.1 31 j ≤ 20000 := fun j => hT.2 31 j
  have A32 : ∀ j, 0 ≤ τ3.2.1 32 j ∧ τ3.2.1 32 j ≤ 999999 := fun j => hT.2 32 j
  have v3 : 0 ≤ τ3.1 3 ∧ τ3.1 3 ≤ 2500 := hT.1 3
  have v5 : 0 ≤ τ3.1 5 ∧ τ3.1 5 ≤ 1000 := hT.1 5
  have v6 : 0 ≤ τ3.1 6 ∧ τ3.1 6 ≤ 30000 := hT.1 6
  have v7 : 0 ≤ τ3.1 7 ∧ τ3.1 7 ≤ 1500 := hT.1 7
  have v9 : 0 ≤ τ3.1 9 ∧ τ3.1 9 ≤ 1500 := hT.1 9
  have v12 : (-2147483648) ≤ τ3.1 12 ∧ τ3.1 12 ≤ 2147483647 := hT.1 12
  have v13 : 0 ≤ τ3.1 13 ∧ τ3.1 13 ≤ 90000 := hT.1 13
  have v14 : 0 ≤ τ3.1 14 ∧ τ3.1 14 ≤ 20000 := hT.1 14
  have v15 : 0 ≤ τ3.1 15 ∧ τ3.1 15 ≤ 20000 := hT.1 15
  have v16 : 0 ≤ τ3.1 16 ∧ τ3.1 16 ≤ 20000 := hT.1 16
  have v37 : 0 ≤ τ3.1 37 ∧ τ3.1 37 ≤ 4 := hT.1 37
  have av13 : σ.1 13 ≤ τ3.1 13 := ag.1 13 (by decide)
  have av14 : σ.1 14 ≤ τ3.1 14 := ag.1 14 (by decide)
  exact l_10 ((25 - 0 : Int).toNat + 1) _ _ (show (25 - 0 : Int) < (((25 - 0 : Int).toNat + 1 : Nat) : Int) from by ((first | omega | (simp only [st_s] <;> omega) | assumption | omega | fail))) hT ag (show τ3.1 3 = σ.1 3 from by first | exact W3 | omega) (show τ3.1 5 = σ.1 5 from by first | exact W5 | omega) (show τ3.1 6 = σ.1 6 from by first | exact W6 | omega) (show τ3.1 7 = σ.1 7 from by first | exact W7 | omega) (show τ3.1 9 = σ.1 9 from by first | exact W9 | omega) (show τ3.1 15 = σ.1 15 from by first | exact W15 | omega) (show τ3.1 16 = σ.1 16 from by first | exact W16 | omega) (show τ3.1 37 = σ.1 37 from by first | exact W37 | omega) G10 G13 G14 G15 G16 G19 G22 (show 0 ≤ 0 from by (first | omega | (simp only [st_s] <;> omega) | assumption | omega | fail)) (show 0 ≤ 24 from by (first | omega | (simp only [st_s] <;> omega) | assumption | omega | fail)) (show (τ3.1 13) = (σ.1 13) from by (first | omega | (simp only [st_s] <;> omega) | assumption | omega | fail)) (show J_hfa (τ3.1 9) (τ3.2.1 13) (τ3.2.1 14) (τ3.2.1 22) from JF) (show (τ3.1 12) = (σ.1 12) + 1 from by (first | omega | (simp only [st_s] <;> omega) | assumption | omega | fail)) (show J_mA n1 (τ3.1 12) (τ3.2.1 14) (τ3.2.1 15) (τ3.2.1 16) (τ3.2.1 26) from by (first | exact i10_6 | exact q1_2 | fail)) (show J_mB (τ3.1 12) (τ3.1 9) (τ3.2.1 13) (τ3.2.1 14) (τ3.2.1 15) (τ3.2.1 22) (τ3.2.1 26) from by (first | omega | (simp only [st_s] <;> omega) | assumption | omega | fail)) (show ∀ s : Int, τ3.2.1 26 s ≤ (τ3.1 12) from MT) (show J_mC n1 (τ3.1 12) (τ3.1 9) (τ3.2.1 13) (τ3.2.1 14) (τ3.2.1 15) (τ3.2.1 16) (τ3.2.1 22) (τ3.2.1 26) from by (first | exact i10_9 | exact q1_5 | fail))
set_option maxHeartbeats 1000000 in
theorem K2_X3_append {n1 : Int} {n2 : Int} {σ : S0} (hT : c_T σ) (p1 : 0 ≤ n1) (p2 : n1 < 1000) (p3 : -1 ≤ n2) (p4 : n2 < 1500) (p5 : (σ.1 6) < 30000) (p6 : (σ.1 7) < 1500) : W_X3_append n1 n2 σ (fun (τ : S0) => (c_T τ) ∧ ((τ.1 6) = (σ.1 6) + 1) ∧ (τ.2.1 14 = st (σ.2.1 14) ((σ.1 7) + 1) ((σ.1 6) + 1)) ∧ (τ.2.1 15 = st (σ.2.1 15) (σ.1 6) n1) ∧ (τ.2.1 16 = st (σ.2.1 16) (σ.1 6) n2) ∧ (c_ag σ τ)) := by
  have v3 : 0 ≤ σ.1 3 ∧ σ.1 3 ≤ 2500 := hT.1 3
  have v5 : 0 ≤ σ.1 5 ∧ σ.1 5 ≤ 1000 := hT.1 5
  have v6 : 0 ≤ σ.1 6 ∧ σ.1 6 ≤ 30000 := hT.1 6
  have v7 : 0 ≤ σ.1 7 ∧ σ.1 7 ≤ 1500 := hT.1 7
  have v13 : 0 ≤ σ.1 13 ∧ σ.1 13 ≤ 90000 := hT.1 13
  have v14 : 0 ≤ σ.1 14 ∧ σ.1 14 ≤ 20000 := hT.1 14
  have v15 : 0 ≤ σ.1 15 ∧ σ.1 15 ≤ 20000 := hT.1 15
  have v16 : 0 ≤ σ.1 16 ∧ σ.1 16 ≤ 20000 := hT.1 16
  have W3 : σ.1 3 = σ.1 3 := rfl
  have W5 : σ.1 5 = σ.1 5 := rfl
  have W7 : σ.1 7 = σ.1 7 := rfl
  have W13 : σ.1 13 = σ.1 13 := rfl
  have W14 : σ.1 14 = σ.1 14 := rfl
  have W15 : σ.1 15 = σ.1 15 := rfl
  have W16 : σ.1 16 = σ.1 16 := rfl
  have ag : c_ag σ σ := ag_0 σ
  unfold W_X3_append
  refine ⟨(show 0 ≤ σ.1 6 ∧ σ.1 6 < 30000 from by (first | omega | (simp only [st_s] <;> omega) | assumption | omega | fail)), ?_⟩
  replace ag := ag_w (k := 15) (x := n1) 6 0 ag rfl (show σ.1 6 + 0 ≤ (σ.1 6) from by (first | omega | (simp only [st_s] <;> omega) | assumption | omega | fail))
  replace hT := cT_a (k := 15) (j := (σ.1 6)) hT (show (0 : Int) ≤ n1 ∧ n1 ≤ 999 from by (first | omega | (simp only [st_s] <;> omega) | assumption | omega | fail))
  replace ag := ag_w (k := 16) (x := n2) 6 0 ag rfl (show σ.1 6 + 0 ≤ (σ.1 6) from by (first | omega | (simp only [st_s] <;> omega) | assumption | omega | fail))
  replace hT := cT_a (k := 16) (j := (σ.1 6)) hT (show (-1 : Int) ≤ n2 ∧ n2 ≤ 1499 from by (first | omega | (simp only [st_s] <;> omega) | assumption | omega | fail))
  refine ⟨(⟨by (first | omega | (simp only [st_s] <;> omega) | assumption | omega | fail), by (first | omega | (simp only [st_s] <;> omega) | assumption | omega | fail)⟩ : rg (σ.1 6 + 1)), ?_⟩
  replace ag := ag_v (i := 6) (x := (σ.1 6 + 1)) ag (Or.inr (show σ.1 6 ≤ (σ.1 6 + 1) from by (first | omega | (simp only [st_s] <;> omega) | assumption | omega | fail)))
  replace hT := cT_v (i := 6) hT (show 0 ≤ (σ.1 6 + 1) ∧ (σ.1 6 + 1) ≤ 30000 from by (first | omega | (simp only [st_s] <;> omega) | assumption | omega | fail))
  refine ⟨(show 0 ≤ (σ.1 7 + 1) ∧ (σ.1 7 + 1) < 1501 from by (first | omega | (simp only [st_s] <;> omega) | assumption | omega | fail)), ?_⟩
  replace ag := ag_w (k := 14) (x := (σ.1 6 + 1)) 7 1 ag rfl (show σ.1 7 + 1 ≤ (σ.1 7 + 1) from by (first | omega | (simp only [st_s] <;> omega) | assumption | omega | fail))
  replace hT := cT_a (k := 14) (j := (σ.1 7 + 1)) hT (show (0 : Int) ≤ (σ.1 6 + 1) ∧ (σ.1 6 + 1) ≤ 30000 from by (first | omega | (simp only [st_s] <;> omega) | assumption | omega | fail))
  exact ⟨hT, (show ((σ.1 6 + 1)) = (σ.1 6) + 1 from by (first | omega | (simp only [st_s] <;> omega) | assumption | omega | fail)), (show (st (σ.2.1 14) (σ.1 7 + 1) (σ.1 6 + 1)) = st (σ.2.1 14) ((σ.1 7) + 1) ((σ.1 6) + 1) from by rfl), (show (st (σ.2.1 15) (σ.1 6) n1) = st (σ.2.1 15) (σ.1 6) n1 from by rfl), (show (st (σ.2.1 16) (σ.1 6) n2) = st (σ.2.1 16) (σ.1 6) n2 from by rfl), ag⟩
set_option maxHeartbeats 1000000 in
theorem K2_X3_giveRank {n1 : Int} {σ : S0} (hT : c_T σ) (p1 : 0 ≤ n1) (p2 : n1 < 1000) (p3 : σ.2.1 10 n1 = -1 → (σ.1 4) < 100) : W_X3_giveRank n1 σ (fun (τ : S0) => (c_T τ) ∧ (¬ σ.2.1 10 n1 = -1 → τ.2.1 10 = σ.2.1 10 ∧ τ.2.1 11 = σ.2.1 11 ∧ (τ.1 4) = (σ.1 4)) ∧ (σ.2.1 10 n1 = -1 → τ.2.1 10 = st (σ.2.1 10) n1 (σ.1 4) ∧ τ.2.1 11 = st (σ.2.1 11) (σ.1 4) n1 ∧ (τ.1 4) = (σ.1 4) + 1)) := by
  have A10 : ∀ j, (-1) ≤ σ.2.1 10 j ∧ σ.2.1 10 j ≤ 99 := fun j => hT.2 10 j
  have A11 : ∀ j, 0 ≤ σ.2.1 11 j ∧ σ.2.1 11 j ≤ 999 := fun j => hT.2 11 j
  have v4 : 0 ≤ σ.1 4 ∧ σ.1 4 ≤ 100 := hT.1 4
  unfold W_X3_giveRank
  refine ⟨(show 0 ≤ n1 ∧ n1 < 1000 from by (first | omega | (simp only [st_s] <;> omega) | assumption | omega | fail)), ?_⟩
  intro x2 r_x2 e_x2
  have b_x2 : (-1) ≤ x2 ∧ x2 ≤ 99 := by rw [e_x2]; exact hT.2 10 _
  refine ⟨fun c3 => ?_, fun c3 => ?_⟩
  ·
    exact ⟨hT, (show ¬ σ.2.1 10 n1 = -1 → σ.2.1 10 = σ.2.1 10 ∧ σ.2.1 11 = σ.2.1 11 ∧ (σ.1 4) = (σ.1 4) from by (first | (intro z; exfalso; omega) | exact fun _ => ⟨rfl, rfl, rfl⟩ | fail)), (show σ.2.1 10 n1 = -1 → σ.2.1 10 = st (σ.2.1 10) n1 (σ.1 4) ∧ σ.2.1 11 = st (σ.2.1 11) (σ.1 4) n1 ∧ (σ.1 4) = (σ.1 4) + 1 from by (first | (intro z; exfalso; omega) | exact fun _ => ⟨rfl, rfl, rfl⟩ | fail))⟩
  ·
    refine ⟨(show 0 ≤ σ.1 4 ∧ σ.1 4 < 100 from by (first | omega | (simp only [st_s] <;> omega) | assumption | omega | fail)), ?_⟩
    replace hT := cT_a (k := 11) (j := (σ.1 4)) hT (show (0 : Int) ≤ n1 ∧ n1 ≤ 999 from by (first | omega | (simp only [st_s] <;> omega) | assumption | omega | fail))
    replace hT := cT_a (k := 10) (j := n1) hT (show (-1 : Int) ≤ (σ.1 4) ∧ (σ.1 4) ≤ 99 from by (first | omega | (simp only [st_s] <;> omega) | assumption | omega | fail))
    refine ⟨(⟨by (first | omega | (simp only [st_s] <;> omega) | assumption | omega | fail), by (first | omega | (simp only [st_s] <;> omega) | assumption | omega | fail)⟩ : rg (σ.1 4 + 1)), ?_⟩
    replace hT := cT_v (i := 4) hT (show 0 ≤ (σ.1 4 + 1) ∧ (σ.1 4 + 1) ≤ 100 from by (first | omega | (simp only [st_s] <;> omega) | assumption | omega | fail))
    exact ⟨hT, (show ¬ σ.2.1 10 n1 = -1 → (st (σ.2.1 10) n1 (σ.1 4)) = σ.2.1 10 ∧ (st (σ.2.1 11) (σ.1 4) n1) = σ.2.1 11 ∧ ((σ.1 4 + 1)) = (σ.1 4) from by (first | (intro z; exfalso; omega) | exact fun _ => ⟨rfl, rfl, rfl⟩ | fail)), (show σ.2.1 10 n1 = -1 → (st (σ.2.1 10) n1 (σ.1 4)) = st (σ.2.1 10) n1 (σ.1 4) ∧ (st (σ.2.1 11) (σ.1 4) n1) = st (σ.2.1 11) (σ.1 4) n1 ∧ ((σ.1 4 + 1)) = (σ.1 4) + 1 from by (first | (intro z; exfalso; omega) | exact fun _ => ⟨rfl, rfl, rfl⟩ | fail))⟩
set_option maxHeartbeats 1000000 in
theorem K2_X3_add {n1 : Int} {σ : S0} (hT : c_T σ) (p1 : 0 ≤ n1) (p2 : n1 ≤ 4) (p3 : (σ.1 7) < 1500) (p4 : n1 = 0 → σ.2.1 14 (σ.1 7) < 29999) (p5 : J_ff (σ.1 5) (σ.1 7) (σ.2.1 9) (σ.2.1 13) (σ.2.1 14) (σ.2.1 15)) : W_X3_add n1 σ (fun (τ : S0) => (c_T τ) ∧ ((τ.1 7) = (σ.1 7) + 1) ∧ (τ.2.1 13 = st (σ.2.1 13) (σ.1 7) n1) ∧ (J_ff (τ.1 5) (τ.1 7) (τ.2.1 9) (τ.2.1 13) (τ.2.1 14) (τ.2.1 15)) ∧ (c_ag σ τ)) := by
  have A9 : ∀ j, (-1) ≤ σ.2.1 9 j ∧ σ.2.1 9 j ≤ 1499 := fun j => hT.2 9 j
  have A13 : ∀ j, 0 ≤ σ.2.1 13 j ∧ σ.2.1 13 j ≤ 4 := fun j => hT.2 13 j
  have A14 : ∀ j, 0 ≤ σ.2.1 14 j ∧ σ.2.1 14 j ≤ 30000 := fun j => hT.2 14 j
  have A15 : ∀ j, 0 ≤ σ.2.1 15 j ∧ σ.2.1 15 j ≤ 999 := fun j => hT.2 15 j
  have v3 : 0 ≤ σ.1 3 ∧ σ.1 3 ≤ 2500 := hT.1 3
  have v5 : 0 ≤ σ.1 5 ∧ σ.1 5 ≤ 1000 := hT.1 5
  have v6 : 0 ≤ σ.1 6 ∧ σ.1 6 ≤ 30000 := hT.1 6
  have v7 : 0 ≤ σ.1 7 ∧ σ.1 7 ≤ 1500 := hT.1 7
  have v13 : 0 ≤ σ.1 13 ∧ σ.1 13 ≤ 90000 := hT.1 13
  have v14 : 0 ≤ σ.1 14 ∧ σ.1 14 ≤ 20000 := hT.1 14
  have v15 : 0 ≤ σ.1 15 ∧ σ.1 15 ≤ 20000 := hT.1 15
  have v16 : 0 ≤ σ.1 16 ∧ σ.1 16 ≤ 20000 := hT.1 16
  have a14_7 : 0 ≤ σ.2.1 14 (σ.1 7) ∧ σ.2.1 14 (σ.1 7) ≤ 30000 := hT.2 14 _
  have W3 : σ.1 3 = σ.1 3 := rfl
  have W5 : σ.1 5 = σ.1 5 := rfl
  have W6 : σ.1 6 = σ.1 6 := rfl
  have W13 : σ.1 13 = σ.1 13 := rfl
  have W14 : σ.1 14 = σ.1 14 := rfl
  have W15 : σ.1 15 = σ.1 15 := rfl
  have W16 : σ.1 16 = σ.1 16 := rfl
  have G14 : σ.2.1 14 = σ.2.1 14 := rfl
  have G15 : σ.2.1 15 = σ.2.1 15 := rfl
  have ag : c_ag σ σ := ag_0 σ
  intro P48 h48
  have FF : J_ff (σ.1 5) (σ.1 7) (σ.2.1 9) (σ.2.1 13) (σ.2.1 14) (σ.2.1 15) := p5
  have FF_0 := FF
  refine ⟨(show 0 ≤ σ.1 7 ∧ σ.1 7 < 1500 from by (first | omega | (simp only [st_s] <;> omega) | assumption | omega | fail)), ?_⟩
  replace ag := ag_w (k := 13) (x := n1) 7 0 ag rfl (show σ.1 7 + 0 ≤ (σ.1 7) from by (first | omega | (simp only [st_s] <;> omega) | assumption | omega | fail))
  replace hT := cT_a (k := 13) (j := (σ.1 7)) hT (show (0 : Int) ≤ n1 ∧ n1 ≤ 4 from by (first | omega | (simp only [st_s] <;> omega) | assumption | omega | fail))
  refine ⟨fun c2 => ?_, fun c2 => ?_⟩
  ·
    obtain ⟨τ_48, e_τ_48⟩ : ∃ z : S0, z = s_a σ 13 (σ.1 7) n1 := ⟨_, rfl⟩
    rw [← e_τ_48]
    replace hT : c_T τ_48 := by rw [e_τ_48]; exact hT
    replace ag : c_ag σ τ_48 := by rw [e_τ_48]; exact ag
    have w3_τ_48 : τ_48.1 3 = σ.1 3 := by rw [e_τ_48]; rfl
    have w5_τ_48 : τ_48.1 5 = σ.1 5 := by rw [e_τ_48]; rfl
    have w6_τ_48 : τ_48.1 6 = σ.1 6 := by rw [e_τ_48]; rfl
    have w7_τ_48 : τ_48.1 7 = σ.1 7 := by rw [e_τ_48]; rfl
    have w13_τ_48 : τ_48.1 13 = σ.1 13 := by rw [e_τ_48]; rfl
    have w14_τ_48 : τ_48.1 14 = σ.1 14 := by rw [e_τ_48]; rfl
    have w15_τ_48 : τ_48.1 15 = σ.1 15 := by rw [e_τ_48]; rfl
    have w16_τ_48 : τ_48.1 16 = σ.1 16 := by rw [e_τ_48]; rfl
    have g9_τ_48 : τ_48.2.1 9 = σ.2.1 9 := by rw [e_τ_48]; rfl
    have g13_τ_48 : τ_48.2.1 13 = (st (σ.2.1 13) (σ.1 7) n1) := by rw [e_τ_48]; rfl
    have g14_τ_48 : τ_48.2.1 14 = σ.2.1 14 := by rw [e_τ_48]; rfl
    have g15_τ_48 : τ_48.2.1 15 = σ.2.1 15 := by rw [e_τ_48]; rfl
    have W3 : τ_48.1 3 = σ.1 3 := by first | exact w3_τ_48.trans W3 | omega
    have W5 : τ_48.1 5 = σ.1 5 := by first | exact w5_τ_48.trans W5 | omega
    have W6 : τ_48.1 6 = σ.1 6 := by first | exact w6_τ_48.trans W6 | omega
    have W13 : τ_48.1 13 = σ.1 13 := by first | exact w13_τ_48.trans W13 | omega
    have W14 : τ_48.1 14 = σ.1 14 := by first | exact w14_τ_48.trans W14 | omega
    have W15 : τ_48.1 15 = σ.1 15 := by first | exact w15_τ_48.trans W15 | omega
    have W16 : τ_48.1 16 = σ.1 16 := by first | exact w16_τ_48.trans W16 | omega
    have G14 : τ_48.2.1 14 = σ.2.1 14 := (g14_τ_48).trans G14
    have G15 : τ_48.2.1 15 = σ.2.1 15 := (g15_τ_48).trans G15
    have y14_7_τ_48 : τ_48.2.1 14 (τ_48.1 7) = (σ.2.1 14) (σ.1 7) := by rw [g14_τ_48, w7_τ_48]
    have A9 : ∀ j, (-1) ≤ τ_48.2.1 9 j ∧ τ_48.2.1 9 j ≤ 1499 := fun j => hT.2 9 j
    have A13 : ∀ j, 0 ≤ τ_48.2.1 13 j ∧ τ_48.2.1 13 j ≤ 4 := fun j => hT.2 13 j
    have A14 : ∀ j, 0 ≤ τ_48.2.1 14 j ∧ τ_48.2.1 14 j ≤ 30000 := fun j => hT.2 14 j
    have A15 : ∀ j, 0 ≤ τ_48.2.1 15 j ∧ τ_48.2.1 15 j ≤ 999 := fun j => hT.2 15 j
    have v3 : 0 ≤ τ_48.1 3 ∧ τ_48.1 3 ≤ 2500 := hT.1 3
    have v5 : 0 ≤ τ_48.1 5 ∧ τ_48.1 5 ≤ 1000 := hT.1 5
    have v6 : 0 ≤ τ_48.1 6 ∧ τ_48.1 6 ≤ 30000 := hT.1 6
    have v7 : 0 ≤ τ_48.1 7 ∧ τ_48.1 7 ≤ 1500 := hT.1 7
    have v13 : 0 ≤ τ_48.1 13 ∧ τ_48.1 13 ≤ 90000 := hT.1 13
    have v14 : 0 ≤ τ_48.1 14 ∧ τ_48.1 14 ≤ 20000 := hT.1 14
    have v15 : 0 ≤ τ_48.1 15 ∧ τ_48.1 15 ≤ 20000 := hT.1 15
    have v16 : 0 ≤ τ_48.1 16 ∧ τ_48.1 16 ≤ 20000 := hT.1 16
    have a14_7 : 0 ≤ τ_48.2.1 14 (τ_48.1 7) ∧ τ_48.2.1 14 (τ_48.1 7) ≤ 30000 := hT.2 14 _
    have av7 : σ.1 7 ≤ τ_48.1 7 := ag.1 7 (by decide)
    refine h48 _ ?_
    refine ⟨(⟨by (first | omega | (simp only [st_s] <;> omega) | assumption | omega | fail), by (first | omega | (simp only [st_s] <;> omega) | assumption | omega | fail)⟩ : rg (τ_48.1 7 + 1)), ?_⟩
    replace ag := ag_v (i := 7) (x := (τ_48.1 7 + 1)) ag (Or.inr (show σ.1 7 ≤ (τ_48.1 7 + 1) from by (first | omega | (simp only [st_s] <;> omega) | assumption | omega | fail)))
    replace hT := cT_v (i := 7) hT (show 0 ≤ (τ_48.1 7 + 1) ∧ (τ_48.1 7 + 1) ≤ 1500 from by (first | omega | (simp only [st_s] <;> omega) | assumption | omega | fail))
    exact ⟨hT, (show ((τ_48.1 7 + 1)) = (σ.1 7) + 1 from by (first | omega | (simp only [st_s] <;> omega) | assumption | omega | fail)), (show τ_48.2.1 13 = st (σ.2.1 13) (σ.1 7) n1 from by (first | rfl | (rw [g13_τ_48]) | fail)), (show J_ff (τ_48.1 5) ((τ_48.1 7 + 1)) (τ_48.2.1 9) (τ_48.2.1 13) (τ_48.2.1 14) (τ_48.2.1 15) from by (first | exact J_ff_k FF_0 | (rw [g9_τ_48, g13_τ_48, g14_τ_48, g15_τ_48, w5_τ_48, w7_τ_48]; first | exact J_ff_k FF_0 | exact J_ff_n FF_0 (by omega) (by rw [e10, ← q3_1])) | fail)), ag⟩
  ·
    refine ⟨_, K_X3_variableOf hT (show 0 ≤ (σ.1 7) from by (first | omega | (simp only [st_s] <;> omega) | assumption | omega | fail)) (show (σ.1 7) ≤ 1500 from by (first | omega | (simp only [st_s] <;> omega) | assumption | omega | fail)) (show σ.2.1 14 (σ.1 7) < 29999 from by (first | omega | (simp only [st_s] <;> omega) | assumption | omega | fail)), ?_⟩
    intro x4 r_x4 hq
    obtain ⟨q3_1, q3_2⟩ := hq
    replace q3_1 : x4 = σ.2.1 15 (σ.2.1 14 (σ.1 7) + 1) := q3_1
    replace q3_2 : 0 ≤ x4 ∧ x4 ≤ 999 := q3_2
    refine ⟨(show 0 ≤ x4 ∧ x4 < 1000 from by (first | omega | (simp only [st_s] <;> omega) | assumption | omega | fail)), ?_⟩
    intro x7 r_x7 e_x7
    have b_x7 : (-1) ≤ x7 ∧ x7 ≤ 1499 := by rw [e_x7]; exact hT.2 9 _
    refine ⟨fun c8 => ?_, fun c8 => ?_⟩
    ·
      obtain ⟨τ_48, e_τ_48⟩ : ∃ z : S0, z = s_a σ 13 (σ.1 7) n1 := ⟨_, rfl⟩
      rw [← e_τ_48]
      replace hT : c_T τ_48 := by rw [e_τ_48]; exact hT
      replace ag : c_ag σ τ_48 := by rw [e_τ_48]; exact ag
      have w3_τ_48 : τ_48.1 3 = σ.1 3 := by rw [e_τ_48]; rfl
      have w5_τ_48 : τ_48.1 5 = σ.1 5 := by rw [e_τ_48]; rfl
      have w6_τ_48 : τ_48.1 6 = σ.1 6 := by rw [e_τ_48]; rfl
      have w7_τ_48 : τ_48.1 7 = σ.1 7 := by rw [e_τ_48]; rfl
      have w13_τ_48 : τ_48.1 13 = σ.1 13 := by rw [e_τ_48]; rfl
      have w14_τ_48 : τ_48.1 14 = σ.1 14 := by rw [e_τ_48]; rfl
      have w15_τ_48 : τ_48.1 15 = σ.1 15 := by rw [e_τ_48]; rfl
      have w16_τ_48 : τ_48.1 16 = σ.1 16 := by rw [e_τ_48]; rfl
      have g9_τ_48 : τ_48.2.1 9 = σ.2.1 9 := by rw [e_τ_48]; rfl
      have g13_τ_48 : τ_48.2.1 13 = (st (σ.2.1 13) (σ.1 7) n1) := by rw [e_τ_48]; rfl
      have g14_τ_48 : τ_48.2.1 14 = σ.2.1 14 := by rw [e_τ_48]; rfl
      have g15_τ_48 : τ_48.2.1 15 = σ.2.1 15 := by rw [e_τ_48]; rfl
      have W3 : τ_48.1 3 = σ.1 3 := by first | exact w3_τ_48.trans W3 | omega
      have W5 : τ_48.1 5 = σ.1 5 := by first | exact w5_τ_48.trans W5 | omega
      have W6 : τ_48.1 6 = σ.1 6 := by first | exact w6_τ_48.trans W6 | omega
      have W13 : τ_48.1 13 = σ.1 13 := by first | exact w13_τ_48.trans W13 | omega
      have W14 : τ_48.1 14 = σ.1 14 := by first | exact w14_τ_48.trans W14 | omega
      have W15 : τ_48.1 15 = σ.1 15 := by first | exact w15_τ_48.trans W15 | omega
      have W16 : τ_48.1 16 = σ.1 16 := by first | exact w16_τ_48.trans W16 | omega
      have G14 : τ_48.2.1 14 = σ.2.1 14 := (g14_τ_48).trans G14
      have G15 : τ_48.2.1 15 = σ.2.1 15 := (g15_τ_48).trans G15
      have y14_7_τ_48 : τ_48.2.1 14 (τ_48.1 7) = (σ.2.1 14) (σ.1 7) := by rw [g14_τ_48, w7_τ_48]
      have A9 : ∀ j, (-1) ≤ τ_48.2.1 9 j ∧ τ_48.2.1 9 j ≤ 1499 := fun j => hT.2 9 j
      have A13 : ∀ j, 0 ≤ τ_48.2.1 13 j ∧ τ_48.2.1 13 j ≤ 4 := fun j => hT.2 13 j
      have A14 : ∀ j, 0 ≤ τ_48.2.1 14 j ∧ τ_48.2.1 14 j ≤ 30000 := fun j => hT.2 14 j
      have A15 : ∀ j, 0 ≤ τ_48.2.1 15 j ∧ τ_48.2.1 15 j ≤ 999 := fun j => hT.2 15 j
      have v3 : 0 ≤ τ_48.1 3 ∧ τ_48.1 3 ≤ 2500 := hT.1 3
      have v5 : 0 ≤ τ_48.1 5 ∧ τ_48.1 5 ≤ 1000 := hT.1 5
      have v6 : 0 ≤ τ_48.1 6 ∧ τ_48.1 6 ≤ 30000 := hT.1 6
      have v7 : 0 ≤ τ_48.1 7 ∧ τ_48.1 7 ≤ 1500 := hT.1 7
      have v13 : 0 ≤ τ_48.1 13 ∧ τ_48.1 13 ≤ 90000 := hT.1 13
      have v14 : 0 ≤ τ_48.1 14 ∧ τ_48.1 14 ≤ 20000 := hT.1 14
      have v15 : 0 ≤ τ_48.1 15 ∧ τ_48.1 15 ≤ 20000 := hT.1 15
      have v16 : 0 ≤ τ_48.1 16 ∧ τ_48.1 16 ≤ 20000 := hT.1 16
      have a14_7 : 0 ≤ τ_48.2.1 14 (τ_48.1 7) ∧ τ_48.2.1 14 (τ_48.1 7) ≤ 30000 := hT.2 14 _
      have av7 : σ.1 7 ≤ τ_48.1 7 := ag.1 7 (by decide)
      refine h48 _ ?_
      refine ⟨(⟨by (first | omega | (simp only [st_s] <;> omega) | assumption | omega | fail), by (first | omega | (simp only [st_s] <;> omega) | assumption | omega | fail)⟩ : rg (τ_48.1 7 + 1)), ?_⟩
      replace ag := ag_v (i := 7) (x := (τ_48.1 7 + 1)) ag (Or.inr (show σ.1 7 ≤ (τ_48.1 7 + 1) from by (first | omega | (simp only [st_s] <;> omega) | assumption | omega | fail)))
      replace hT := cT_v (i := 7) hT (show 0 ≤ (τ_48.1 7 + 1) ∧ (τ_48.1 7 + 1) ≤ 1500 from by (first | omega | (simp only [st_s] <;> omega) | assumption | omega | fail))
      exact ⟨hT, (show ((τ_48.1 7 + 1)) = (σ.1 7) + 1 from by (first | omega | (simp only [st_s] <;> omega) | assumption | omega | fail)), (show τ_48.2.1 13 = st (σ.2.1 13) (σ.1 7) n1 from by (first | rfl | (rw [g13_τ_48]) | fail)), (show J_ff (τ_48.1 5) ((τ_48.1 7 + 1)) (τ_48.2.1 9) (τ_48.2.1 13) (τ_48.2.1 14) (τ_48.2.1 15) from by (first | exact J_ff_k FF_0 | (rw [g9_τ_48, g13_τ_48, g14_τ_48, g15_τ_48, w5_τ_48, w7_τ_48]; first | exact J_ff_k FF_0 | exact J_ff_n FF_0 (by omega) (by rw [e10, ← q3_1])) | fail)), ag⟩
    ·
      refine ⟨_, K_X3_variableOf hT (show 0 ≤ (σ.1 7) from by (first | omega | (simp only [st_s] <;> omega) | assumption | omega | fail)) (show (σ.1 7) ≤ 1500 from by (first | omega | (simp only [st_s] <;> omega) | assumption | omega | fail)) (show σ.2.1 14 (σ.1 7) < 29999 from by (first | omega | (simp only [st_s] <;> omega) | assumption | omega | fail)), ?_⟩
      intro x10 r_x10 hq
      obtain ⟨q9_1, q9_2⟩ := hq
      replace q9_1 : x10 = σ.2.1 15 (σ.2.1 14 (σ.1 7) + 1) := q9_1
      replace q9_2 : 0 ≤ x10 ∧ x10 ≤ 999 := q9_2
      have e10 : x10 = x4 := by omega
      refine ⟨(show 0 ≤ x10 ∧ x10 < 1000 from by (first | omega | (simp only [st_s] <;> omega) | assumption | omega | fail)), ?_⟩
      replace ag := ag_a (k := 9) (e := x10) (x := (σ.1 7)) ag rfl
      replace hT := cT_a (k := 9) (j := x10) hT (show (-1 : Int) ≤ (σ.1 7) ∧ (σ.1 7) ≤ 1499 from by (first | omega | (simp only [st_s] <;> omega) | assumption | omega | fail))
      obtain ⟨τ_48, e_τ_48⟩ : ∃ z : S0, z = s_a (s_a σ 13 (σ.1 7) n1) 9 x10 (σ.1 7) := ⟨_, rfl⟩
      rw [← e_τ_48]
      replace hT : c_T τ_48 := by rw [e_τ_48]; exact hT
      replace ag : c_ag σ τ_48 := by rw [e_τ_48]; exact ag
      have w3_τ_48 : τ_48.1 3 = σ.1 3 := by rw [e_τ_48]; rfl
      have w5_τ_48 : τ_48.1 5 = σ.1 5 := by rw [e_τ_48]; rfl
      have w6_τ_48 : τ_48.1 6 = σ.1 6 := by rw [e_τ_48]; rfl
      have w7_τ_48 : τ_48.1 7 = σ.1 7 := by rw [e_τ_48]; rfl
      have w13_τ_48 : τ_48.1 13 = σ.1 13 := by rw [e_τ_48]; rfl
      have w14_τ_48 : τ_48.1 14 = σ.1 14 := by rw [e_τ_48]; rfl
      have w15_τ_48 : τ_48.1 15 = σ.1 15 := by rw [e_τ_48]; rfl
      have w16_τ_48 : τ_48.1 16 = σ.1 16 := by rw [e_τ_48]; rfl
      have g9_τ_48 : τ_48.2.1 9 = (st (σ.2.1 9) x10 (σ.1 7)) := by rw [e_τ_48]; rfl
      have g13_τ_48 : τ_48.2.1 13 = (st (σ.2.1 13) (σ.1 7) n1) := by rw [e_τ_48]; rfl
      have g14_τ_48 : τ_48.2.1 14 = σ.2.1 14 := by rw [e_τ_48]; rfl
      have g15_τ_48 : τ_48.2.1 15 = σ.2.1 15 := by rw [e_τ_48]; rfl
      have W3 : τ_48.1 3 = σ.1 3 := by first | exact w3_τ_48.trans W3 | omega
      have W5 : τ_48.1 5 = σ.1 5 := by first | exact w5_τ_48.trans W5 | omega
      have W6 : τ_48.1 6 = σ.1 6 := by first | exact w6_τ_48.trans W6 | omega
      have W13 : τ_48.1 13 = σ.1 13 := by first | exact w13_τ_48.trans W13 | omega
      have W14 : τ_48.1 14 = σ.1 14 := by first | exact w14_τ_48.trans W14 | omega
      have W15 : τ_48.1 15 = σ.1 15 := by first | exact w15_τ_48.trans W15 | omega
      have W16 : τ_48.1 16 = σ.1 16 := by first | exact w16_τ_48.trans W16 | omega
      have G14 : τ_48.2.1 14 = σ.2.1 14 := (g14_τ_48).trans G14
      have G15 : τ_48.2.1 15 = σ.2.1 15 := (g15_τ_48).trans G15
      have y14_7_τ_48 : τ_48.2.1 14 (τ_48.1 7) = (σ.2.1 14) (σ.1 7) := by rw [g14_τ_48, w7_τ_48]
      have A9 : ∀ j, (-1) ≤ τ_48.2.1 9 j ∧ τ_48.2.1 9 j ≤ 1499 := fun j => hT.2 9 j
      have A13 : ∀ j, 0 ≤ τ_48.2.1 13 j ∧ τ_48.2.1 13 j ≤ 4 := fun j => hT.2 13 j
      have A14 : ∀ j, 0 ≤ τ_48.2.1 14 j ∧ τ_48.2.1 14 j ≤ 30000 := fun j => hT.2 14 j
      have A15 : ∀ j, 0 ≤ τ_48.2.1 15 j ∧ τ_48.2.1 15 j ≤ 999 := fun j => hT.2 15 j
      have v3 : 0 ≤ τ_48.1 3 ∧ τ_48.1 3 ≤ 2500 := hT.1 3
      have v5 : 0 ≤ τ_48.1 5 ∧ τ_48.1 5 ≤ 1000 := hT.1 5
      have v6 : 0 ≤ τ_48.1 6 ∧ τ_48.1 6 ≤ 30000 := hT.1 6
      have v7 : 0 ≤ τ_48.1 7 ∧ τ_48.1 7 ≤ 1500 := hT.1 7
      have v13 : 0 ≤ τ_48.1 13 ∧ τ_48.1 13 ≤ 90000 := hT.1 13
      have v14 : 0 ≤ τ_48.1 14 ∧ τ_48.1 14 ≤ 20000 := hT.1 14
      have v15 : 0 ≤ τ_48.1 15 ∧ τ_48.1 15 ≤ 20000 := hT.1 15
      have v16 : 0 ≤ τ_48.1 16 ∧ τ_48.1 16 ≤ 20000 := hT.1 16
      have a14_7 : 0 ≤ τ_48.2.1 14 (τ_48.1 7) ∧ τ_48.2.1 14 (τ_48.1 7) ≤ 30000 := hT.2 14 _
      have av7 : σ.1 7 ≤ τ_48.1 7 := ag.1 7 (by decide)
      refine h48 _ ?_
      refine ⟨(⟨by (first | omega | (simp only [st_s] <;> omega) | assumption | omega | fail), by (first | omega | (simp only [st_s] <;> omega) | assumption | omega | fail)⟩ : rg (τ_48.1 7 + 1)), ?_⟩
      replace ag := ag_v (i := 7) (x := (τ_48.1 7 + 1)) ag (Or.inr (show σ.1 7 ≤ (τ_48.1 7 + 1) from by (first | omega | (simp only [st_s] <;> omega) | assumption | omega | fail)))
      replace hT := cT_v (i := 7) hT (show 0 ≤ (τ_48.1 7 + 1) ∧ (τ_48.1 7 + 1) ≤ 1500 from by (first | omega | (simp only [st_s] <;> omega) | assumption | omega | fail))
      exact ⟨hT, (show ((τ_48.1 7 + 1)) = (σ.1 7) + 1 from by (first | omega | (simp only [st_s] <;> omega) | assumption | omega | fail)), (show τ_48.2.1 13 = st (σ.2.1 13) (σ.1 7) n1 from by (first | rfl | (rw [g13_τ_48]) | fail)), (show J_ff (τ_48.1 5) ((τ_48.1 7 + 1)) (τ_48.2.1 9) (τ_48.2.1 13) (τ_48.2.1 14) (τ_48.2.1 15) from by (first | exact J_ff_k FF_0 | (rw [g9_τ_48, g13_τ_48, g14_τ_48, g15_τ_48, w5_τ_48, w7_τ_48]; first | exact J_ff_k FF_0 | exact J_ff_n FF_0 (by omega) (by rw [e10, ← q3_1])) | fail)), ag⟩
set_option maxHeartbeats 1000000 in
theorem K2_X9_addVariable {n1 : Int} {σ : S0} (hT : c_T σ) (p1 : 0 ≤ n1) (p2 : n1 < 1000) (p3 : (σ.1 8) < 1000) (p4 : J_va (σ.1 8) 1000 (σ.2.1 18) (σ.2.1 20)) (p5 : J_mk (σ.1 11) (σ.1 8) (σ.1 9) (σ.1 10) (σ.2.1 25)) (p6 : ∀ n : Int, 0 ≤ n → n < (σ.1 8) → ¬ σ.2.1 20 n = n1) : W_X9_addVariable n1 σ (fun (τ : S0) => (c_T τ) ∧ ((τ.1 8) = (σ.1 8) + 1) ∧ (τ.2.1 18 = st (σ.2.1 18) n1 1) ∧ (τ.2.1 20 = st (σ.2.1 20) ((σ.1 8)) n1) ∧ (J_va (τ.1 8) 1000 (τ.2.1 18) (τ.2.1 20)) ∧ (J_mk (τ.1 11) (τ.1 8) (τ.1 9) (τ.1 10) (τ.2.1 25))) := by
  have A18 : ∀ j, 0 ≤ σ.2.1 18 j ∧ σ.2.1 18 j ≤ 1 := fun j => hT.2 18 j
  have A20 : ∀ j, 0 ≤ σ.2.1 20 j ∧ σ.2.1 20 j ≤ 999 := fun j => hT.2 20 j
  have v8 : 0 ≤ σ.1 8 ∧ σ.1 8 ≤ 1000 := hT.1 8
  have v9 : 0 ≤ σ.1 9 ∧ σ.1 9 ≤ 1500 := hT.1 9
  have v10 : 0 ≤ σ.1 10 ∧ σ.1 10 ≤ 1000 := hT.1 10
  have v11 : 0 ≤ σ.1 11 ∧ σ.1 11 ≤ 50 := hT.1 11
  have W9 : σ.1 9 = σ.1 9 := rfl
  have W10 : σ.1 10 = σ.1 10 := rfl
  have W11 : σ.1 11 = σ.1 11 := rfl
  have G25 : σ.2.1 25 = σ.2.1 25 := rfl
  have VA : J_va (σ.1 8) 1000 (σ.2.1 18) (σ.2.1 20) := p4
  have MK : J_mk (σ.1 11) (σ.1 8) (σ.1 9) (σ.1 10) (σ.2.1 25) := p5
  have MK_0 := MK
  have VA_0 := VA
  unfold W_X9_addVariable
  refine ⟨(show 0 ≤ n1 ∧ n1 < 1000 from by (first | omega | (simp only [st_s] <;> omega) | assumption | omega | fail)), ?_⟩
  replace hT := cT_a (k := 18) (j := n1) hT (show (0 : Int) ≤ 1 ∧ 1 ≤ 1 from by (first | omega | (simp only [st_s] <;> omega) | assumption | omega | fail))
  refine ⟨(show 0 ≤ σ.1 8 ∧ σ.1 8 < 1000 from by (first | omega | (simp only [st_s] <;> omega) | assumption | omega | fail)), ?_⟩
  replace hT := cT_a (k := 20) (j := (σ.1 8)) hT (show (0 : Int) ≤ n1 ∧ n1 ≤ 999 from by (first | omega | (simp only [st_s] <;> omega) | assumption | omega | fail))
  refine ⟨(⟨by (first | omega | (simp only [st_s] <;> omega) | assumption | omega | fail), by (first | omega | (simp only [st_s] <;> omega) | assumption | omega | fail)⟩ : rg (σ.1 8 + 1)), ?_⟩
  replace hT := cT_v (i := 8) hT (show 0 ≤ (σ.1 8 + 1) ∧ (σ.1 8 + 1) ≤ 1000 from by (first | omega | (simp only [st_s] <;> omega) | assumption | omega | fail))
  exact ⟨hT, (show ((σ.1 8 + 1)) = (σ.1 8) + 1 from by (first | omega | (simp only [st_s] <;> omega) | assumption | omega | fail)), (show (st (σ.2.1 18) n1 1) = st (σ.2.1 18) n1 1 from by rfl), (show (st (σ.2.1 20) (σ.1 8) n1) = st (σ.2.1 20) ((σ.1 8)) n1 from by rfl), (show J_va ((σ.1 8 + 1)) 1000 ((st (σ.2.1 18) n1 1)) ((st (σ.2.1 20) (σ.1 8) n1)) from by exact J_va_a VA_0 (by omega) (by omega) (by omega) p6), (show J_mk (σ.1 11) ((σ.1 8 + 1)) (σ.1 9) (σ.1 10) (σ.2.1 25) from by exact J_mk_w MK_0 (by omega) (by omega) (by omega))⟩
set_option maxHeartbeats 1000000 in
theorem K2_X9_addPair {n1 : Int} {n2 : Int} {σ : S0} (hT : c_T σ) (p1 : 0 ≤ n1) (p2 : n1 < 1000) (p3 : 0 ≤ n2) (p4 : n2 < 1000) (p5 : (σ.1 10) < 1000) (p6 : J_mk (σ.1 11) (σ.1 8) (σ.1 9) (σ.1 10) (σ.2.1 25)) : W_X9_addPair n1 n2 σ (fun (τ : S0) => (c_T τ) ∧ ((τ.1 10) = (σ.1 10) + 1) ∧ (J_mk (τ.1 11) (τ.1 8) (τ.1 9) (τ.1 10) (τ.2.1 25))) := by
  have v8 : 0 ≤ σ.1 8 ∧ σ.1 8 ≤ 1000 := hT.1 8
  have v9 : 0 ≤ σ.1 9 ∧ σ.1 9 ≤ 1500 := hT.1 9
  have v10 : 0 ≤ σ.1 10 ∧ σ.1 10 ≤ 1000 := hT.1 10
  have v11 : 0 ≤ σ.1 11 ∧ σ.1 11 ≤ 50 := hT.1 11
  have W8 : σ.1 8 = σ.1 8 := rfl
  have W9 : σ.1 9 = σ.1 9 := rfl
  have W11 : σ.1 11 = σ.1 11 := rfl
  have G25 : σ.2.1 25 = σ.2.1 25 := rfl
  have MK : J_mk (σ.1 11) (σ.1 8) (σ.1 9) (σ.1 10) (σ.2.1 25) := p6
  have MK_0 := MK
  unfold W_X9_addPair
  refine ⟨(show 0 ≤ σ.1 10 ∧ σ.1 10 < 1000 from by (first | omega | (simp only [st_s] <;> omega) | assumption | omega | fail)), ?_⟩
  replace hT := cT_a (k := 23) (j := (σ.1 10)) hT (show (0 : Int) ≤ n1 ∧ n1 ≤ 999 from by (first | omega | (simp only [st_s] <;> omega) | assumption | omega | fail))
  replace hT := cT_a (k := 24) (j := (σ.1 10)) hT (show (0 : Int) ≤ n2 ∧ n2 ≤ 999 from by (first | omega | (simp only [st_s] <;> omega) | assumption | omega | fail))
  refine ⟨(⟨by (first | omega | (simp only [st_s] <;> omega) | assumption | omega | fail), by (first | omega | (simp only [st_s] <;> omega) | assumption | omega | fail)⟩ : rg (σ.1 10 + 1)), ?_⟩
  replace hT := cT_v (i := 10) hT (show 0 ≤ (σ.1 10 + 1) ∧ (σ.1 10 + 1) ≤ 1000 from by (first | omega | (simp only [st_s] <;> omega) | assumption | omega | fail))
  refine ⟨_, K_X9_turnPair hT (show 0 ≤ n1 from by (first | omega | (simp only [st_s] <;> omega) | assumption | omega | fail)) (show n1 < 1000 from by (first | omega | (simp only [st_s] <;> omega) | assumption | omega | fail)) (show 0 ≤ n2 from by (first | omega | (simp only [st_s] <;> omega) | assumption | omega | fail)) (show n2 < 1000 from by (first | omega | (simp only [st_s] <;> omega) | assumption | omega | fail)), ?_⟩
  intro τ5 hn_τ5 hf_τ5 hq
  replace hT := hq
  have w8_τ5 : τ5.1 8 = σ.1 8 := hf_τ5.1 8 (by decide)
  have w9_τ5 : τ5.1 9 = σ.1 9 := hf_τ5.1 9 (by decide)
  have w10_τ5 : τ5.1 10 = (σ.1 10 + 1) := hf_τ5.1 10 (by decide)
  have w11_τ5 : τ5.1 11 = σ.1 11 := hf_τ5.1 11 (by decide)
  have g25_τ5 : τ5.2.1 25 = σ.2.1 25 := hf_τ5.2.1 25 (by decide)
  have W8 : τ5.1 8 = σ.1 8 := by first | exact w8_τ5.trans W8 | omega
  have W9 : τ5.1 9 = σ.1 9 := by first | exact w9_τ5.trans W9 | omega
  have W11 : τ5.1 11 = σ.1 11 := by first | exact w11_τ5.trans W11 | omega
  have G25 : τ5.2.1 25 = σ.2.1 25 := (g25_τ5).trans G25
  have v8 : 0 ≤ τ5.1 8 ∧ τ5.1 8 ≤ 1000 := hT.1 8
  have v9 : 0 ≤ τ5.1 9 ∧ τ5.1 9 ≤ 1500 := hT.1 9
  have v10 : 0 ≤ τ5.1 10 ∧ τ5.1 10 ≤ 1000 := hT.1 10
  have v11 : 0 ≤ τ5.1 11 ∧ τ5.1 11 ≤ 50 := hT.1 11
  exact ⟨hT, (show (τ5.1 10) = (σ.1 10) + 1 from by (first | omega | (simp only [st_s] <;> omega) | assumption | omega | fail)), (show J_mk (τ5.1 11) (τ5.1 8) (τ5.1 9) (τ5.1 10) (τ5.2.1 25) from by (rw [w11_τ5, g25_τ5]; exact J_mk_w MK_0 (by omega) (by omega) (by omega)))⟩
set_option maxHeartbeats 1000000 in
theorem K2_X9_open {σ : S0} (hT : c_T σ) (p1 : (σ.1 11) < 50) (p2 : J_mk (σ.1 11) (σ.1 8) (σ.1 9) (σ.1 10) (σ.2.1 25)) : W_X9_open σ (fun (τ : S0) => (c_T τ) ∧ ((τ.1 11) = (σ.1 11) + 1) ∧ (J_mk (τ.1 11) (τ.1 8) (τ.1 9) (τ.1 10) (τ.2.1 25)) ∧ (τ.2.1 25 0 = σ.2.1 25 0 ∧ τ.2.1 25 1 = σ.2.1 25 1 ∧ τ.2.1 25 2 = σ.2.1 25 2)) := by
  have v8 : 0 ≤ σ.1 8 ∧ σ.1 8 ≤ 1000 := hT.1 8
  have v9 : 0 ≤ σ.1 9 ∧ σ.1 9 ≤ 1500 := hT.1 9
  have v10 : 0 ≤ σ.1 10 ∧ σ.1 10 ≤ 1000 := hT.1 10
  have v11 : 0 ≤ σ.1 11 ∧ σ.1 11 ≤ 50 := hT.1 11
  have W8 : σ.1 8 = σ.1 8 := rfl
  have W9 : σ.1 9 = σ.1 9 := rfl
  have W10 : σ.1 10 = σ.1 10 := rfl
  have MK : J_mk (σ.1 11) (σ.1 8) (σ.1 9) (σ.1 10) (σ.2.1 25) := p2
  have MK_0 := MK
  unfold W_X9_open
  refine ⟨(⟨by (first | omega | (simp only [st_s] <;> omega) | assumption | omega | fail), by (first | omega | (simp only [st_s] <;> omega) | assumption | omega | fail)⟩ : rg (σ.1 11 + 1)), ?_⟩
  replace hT := cT_v (i := 11) hT (show 0 ≤ (σ.1 11 + 1) ∧ (σ.1 11 + 1) ≤ 50 from by (first | omega | (simp only [st_s] <;> omega) | assumption | omega | fail))
  refine ⟨_, K_X9_mark hT (show 0 ≤ ((σ.1 11 + 1)) from by (first | omega | (simp only [st_s] <;> omega) | assumption | omega | fail)), ?_⟩
  intro τ4 hn_τ4 hf_τ4 hq
  obtain ⟨hT, q2_1⟩ := hq
  replace q2_1 : τ4.2.1 25 = st (st (st (σ.2.1 25) (3 * ((σ.1 11 + 1))) (σ.1 8)) (3 * ((σ.1 11 + 1)) + 1) (σ.1 9)) (3 * ((σ.1 11 + 1)) + 2) (σ.1 10) := q2_1
  have w8_τ4 : τ4.1 8 = σ.1 8 := hf_τ4.1 8 (by decide)
  have w9_τ4 : τ4.1 9 = σ.1 9 := hf_τ4.1 9 (by decide)
  have w10_τ4 : τ4.1 10 = σ.1 10 := hf_τ4.1 10 (by decide)
  have w11_τ4 : τ4.1 11 = (σ.1 11 + 1) := hf_τ4.1 11 (by decide)
  have W8 : τ4.1 8 = σ.1 8 := by first | exact w8_τ4.trans W8 | omega
  have W9 : τ4.1 9 = σ.1 9 := by first | exact w9_τ4.trans W9 | omega
  have W10 : τ4.1 10 = σ.1 10 := by first | exact w10_τ4.trans W10 | omega
  have v8 : 0 ≤ τ4.1 8 ∧ τ4.1 8 ≤ 1000 := hT.1 8
  have v9 : 0 ≤ τ4.1 9 ∧ τ4.1 9 ≤ 1500 := hT.1 9
  have v10 : 0 ≤ τ4.1 10 ∧ τ4.1 10 ≤ 1000 := hT.1 10
  have v11 : 0 ≤ τ4.1 11 ∧ τ4.1 11 ≤ 50 := hT.1 11
  exact ⟨hT, (show (τ4.1 11) = (σ.1 11) + 1 from by (first | omega | (simp only [st_s] <;> omega) | assumption | omega | fail)), (show J_mk (τ4.1 11) (τ4.1 8) (τ4.1 9) (τ4.1 10) (τ4.2.1 25) from by (rw [q2_1, w11_τ4, w8_τ4, w9_τ4, w10_τ4]; exact J_mk_o MK_0 (by omega))), (show τ4.2.1 25 0 = σ.2.1 25 0 ∧ τ4.2.1 25 1 = σ.2.1 25 1 ∧ τ4.2.1 25 2 = σ.2.1 25 2 from by (rw [q2_1]; refine ⟨?_, ?_, ?_⟩ <;> (rw [st_n _ _ (by omega), st_n _ _ (by omega), st_n _ _ (by omega)])))⟩
set_option maxHeartbeats 1000000 in
theorem K2_X9_cut {σ : S0} (hT : c_T σ) (p1 : J_hfa (σ.1 9) (σ.2.1 13) (σ.2.1 14) (σ.2.1 22)) (p2 : 0 ≤ (σ.1 11)) (p3 : J_va (σ.1 8) 1000 (σ.2.1 18) (σ.2.1 20)) (p4 : σ.2.1 25 (3 * (σ.1 11)) ≤ (σ.1 8)) (p5 : J_sc 1500 (σ.1 9) (σ.2.1 13) (σ.2.1 14) (σ.2.1 15) (σ.2.1 16) (σ.2.1 22) (σ.2.1 19)) (p6 : σ.2.1 25 (3 * (σ.1 11) + 1) ≤ (σ.1 9)) : W_X9_cut σ (fun (τ : S0) => (c_T τ) ∧ ((τ.1 8) = σ.2.1 25 (3 * (σ.1 11))) ∧ ((τ.1 9) = σ.2.1 25 (3 * (σ.1 11) + 1)) ∧ ((τ.1 10) = σ.2.1 25 (3 * (σ.1 11) + 2)) ∧ (J_va (τ.1 8) 1000 (τ.2.1 18) (τ.2.1 20)) ∧ (J_sc 1500 (τ.1 9) (τ.2.1 13) (τ.2.1 14) (τ.2.1 15) (τ.2.1 16) (τ.2.1 22) (τ.2.1 19))) := by
  have A13 : ∀ j, 0 ≤ σ.2.1 13 j ∧ σ.2.1 13 j ≤ 4 := fun j => hT.2 13 j
  have A14 : ∀ j, 0 ≤ σ.2.1 14 j ∧ σ.2.1 14 j ≤ 30000 := fun j => hT.2 14 j
  have A15 : ∀ j, 0 ≤ σ.2.1 15 j ∧ σ.2.1 15 j ≤ 999 := fun j => hT.2 15 j
  have A16 : ∀ j, (-1) ≤ σ.2.1 16 j ∧ σ.2.1 16 j ≤ 1499 := fun j => hT.2 16 j
  have A18 : ∀ j, 0 ≤ σ.2.1 18 j ∧ σ.2.1 18 j ≤ 1 := fun j => hT.2 18 j
  have A19 : ∀ j, (-1) ≤ σ.2.1 19 j ∧ σ.2.1 19 j ≤ 1499 := fun j => hT.2 19 j
  have A20 : ∀ j, 0 ≤ σ.2.1 20 j ∧ σ.2.1 20 j ≤ 999 := fun j => hT.2 20 j
  have A22 : ∀ j, 0 ≤ σ.2.1 22 j ∧ σ.2.1 22 j ≤ 1499 := fun j => hT.2 22 j
  have v8 : 0 ≤ σ.1 8 ∧ σ.1 8 ≤ 1000 := hT.1 8
  have v9 : 0 ≤ σ.1 9 ∧ σ.1 9 ≤ 1500 := hT.1 9
  have v10 : 0 ≤ σ.1 10 ∧ σ.1 10 ≤ 1000 := hT.1 10
  have v11 : 0 ≤ σ.1 11 ∧ σ.1 11 ≤ 50 := hT.1 11
  have W11 : σ.1 11 = σ.1 11 := rfl
  have G13 : σ.2.1 13 = σ.2.1 13 := rfl
  have G14 : σ.2.1 14 = σ.2.1 14 := rfl
  have G15 : σ.2.1 15 = σ.2.1 15 := rfl
  have G16 : σ.2.1 16 = σ.2.1 16 := rfl
  have G20 : σ.2.1 20 = σ.2.1 20 := rfl
  have G22 : σ.2.1 22 = σ.2.1 22 := rfl
  have G25 : σ.2.1 25 = σ.2.1 25 := rfl
  intro P14 P75 P166 h14 h75 h166
  have JF : J_hfa (σ.1 9) (σ.2.1 13) (σ.2.1 14) (σ.2.1 22) := p1
  have VA : J_va (σ.1 8) 1000 (σ.2.1 18) (σ.2.1 20) := p3
  have SX : J_sc 1500 (σ.1 9) (σ.2.1 13) (σ.2.1 14) (σ.2.1 15) (σ.2.1 16) (σ.2.1 22) (σ.2.1 19) := p5
  have JF_0 := JF
  have SX_0 := SX
  have VA_0 := VA
  have l_166 : ∀ (m_166 : Nat) (u1_166 : Int) (τ_166 : S0), 1001 - u1_166 < (m_166 : Int) → (c_T τ_166) → (τ_166.1 11 = σ.1 11) → (τ_166.2.1 13 = σ.2.1 13) → (τ_166.2.1 14 = σ.2.1 14) → (τ_166.2.1 15 = σ.2.1 15) → (τ_166.2.1 16 = σ.2.1 16) → (τ_166.2.1 20 = σ.2.1 20) → (τ_166.2.1 22 = σ.2.1 22) → (τ_166.2.1 25 = σ.2.1 25) → (0 ≤ u1_166) → (u1_166 ≤ 1000) → ((τ_166.1 10) = σ.2.1 25 (3 * (σ.1 11) + 2)) → ((τ_166.1 9) = σ.2.1 25 (3 * (σ.1 11) + 1)) → (∀ n : Int, 0 ≤ n → n < σ.2.1 25 (3 * (σ.1 11)) → ¬ τ_166.2.1 18 (σ.2.1 20 n) = 0) → (σ.2.1 25 (3 * (σ.1 11)) ≤ u1_166) → ((τ_166.1 8) = (σ.1 8)) → (J_sc 1500 (τ_166.1 9) (τ_166.2.1 13) (τ_166.2.1 14) (τ_166.2.1 15) (τ_166.2.1 16) (τ_166.2.1 22) (τ_166.2.1 19)) → P166 u1_166 τ_166 := by
    intro m_166
    induction m_166 with
    | zero =>
      intro u1_166 τ_166 hm hT W11 G13 G14 G15 G16 G20 G22 G25 i166_1 i166_2 i166_3 i166_4 i166_5 i166_6 i166_7 i166_8
      have A13 : ∀ j, 0 ≤ τ_166.2.1 13 j ∧ τ_166.2.1 13 j ≤ 4 := fun j => hT.2 13 j
      have A14 : ∀ j, 0 ≤ τ_166.2.1 14 j ∧ τ_166.2.1 14 j ≤ 30000 := fun j => hT.2 14 j
      have A15 : ∀ j, 0 ≤ τ_166.2.1 15 j ∧ τ_166.2.1 15 j ≤ 999 := fun j => hT.2 15 j
      have A16 : ∀ j, (-1) ≤ τ_166.2.1 16 j ∧ τ_166.2.1 16 j ≤ 1499 := fun j => hT.2 16 j
      have A18 : ∀ j, 0 ≤ τ_166.2.1 18 j ∧ τ_166.2.1 18 j ≤ 1 := fun j => hT.2 18 j
      have A19 : ∀ j, (-1) ≤ τ_166.2.1 19 j ∧ τ_166.2.1 19 j ≤ 1499 := fun j => hT.2 19 j
      have A20 : ∀ j, 0 ≤ τ_166.2.1 20 j ∧ τ_166.2.1 20 j ≤ 999 := fun j => hT.2 20 j
      have A22 : ∀ j, 0 ≤ τ_166.2.1 22 j ∧ τ_166.2.1 22 j ≤ 1499 := fun j => hT.2 22 j
      have v8 : 0 ≤ τ_166.1 8 ∧ τ_166.1 8 ≤ 1000 := hT.1 8
      have v9 : 0 ≤ τ_166.1 9 ∧ τ_166.1 9 ≤ 1500 := hT.1 9
      have v10 : 0 ≤ τ_166.1 10 ∧ τ_166.1 10 ≤ 1000 := hT.1 10
      have v11 : 0 ≤ τ_166.1 11 ∧ τ_166.1 11 ≤ 50 := hT.1 11
      exfalso; (first | omega | (simp only [st_s] <;> omega) | assumption | omega | fail)
    | succ m_166 ih_166 =>
      intro u1_166 τ_166 hm_166 hT W11 G13 G14 G15 G16 G20 G22 G25 i166_1 i166_2 i166_3 i166_4 i166_5 i166_6 i166_7 i166_8
      have A13 : ∀ j, 0 ≤ τ_166.2.1 13 j ∧ τ_166.2.1 13 j ≤ 4 := fun j => hT.2 13 j
      have A14 : ∀ j, 0 ≤ τ_166.2.1 14 j ∧ τ_166.2.1 14 j ≤ 30000 := fun j => hT.2 14 j
      have A15 : ∀ j, 0 ≤ τ_166.2.1 15 j ∧ τ_166.2.1 15 j ≤ 999 := fun j => hT.2 15 j
      have A16 : ∀ j, (-1) ≤ τ_166.2.1 16 j ∧ τ_166.2.1 16 j ≤ 1499 := fun j => hT.2 16 j
      have A18 : ∀ j, 0 ≤ τ_166.2.1 18 j ∧ τ_166.2.1 18 j ≤ 1 := fun j => hT.2 18 j
      have A19 : ∀ j, (-1) ≤ τ_166.2.1 19 j ∧ τ_166.2.1 19 j ≤ 1499 := fun j => hT.2 19 j
      have A20 : ∀ j, 0 ≤ τ_166.2.1 20 j ∧ τ_166.2.1 20 j ≤ 999 := fun j => hT.2 20 j
      have A22 : ∀ j, 0 ≤ τ_166.2.1 22 j ∧ τ_166.2.1 22 j ≤ 1499 := fun j => hT.2 22 j
      have v8 : 0 ≤ τ_166.1 8 ∧ τ_166.1 8 ≤ 1000 := hT.1 8
      have v9 : 0 ≤ τ_166.1 9 ∧ τ_166.1 9 ≤ 1500 := hT.1 9
      have v10 : 0 ≤ τ_166.1 10 ∧ τ_166.1 10 ≤ 1000 := hT.1 10
      have v11 : 0 ≤ τ_166.1 11 ∧ τ_166.1 11 ≤ 50 := hT.1 11
      have SX : J_sc 1500 (τ_166.1 9) (τ_166.2.1 13) (τ_166.2.1 14) (τ_166.2.1 15) (τ_166.2.1 16) (τ_166.2.1 22) (τ_166.2.1 19) := i166_8
      refine h166 u1_166 τ_166 ?_
      refine ⟨fun c34 => ?_, fun c34 => ?_⟩
      ·
        refine ⟨(show 0 ≤ (3 * τ_166.1 11) ∧ (3 * τ_166.1 11) < 153 from by (first | omega | (simp only [st_s] <;> omega) | assumption | omega | fail)), ?_⟩
        intro x36 r_x36 e_x36
        have b_x36 : (0 ≤ x36 ∧ x36 ≤ 1500) ∧ (¬ (3 * τ_166.1 11) % 3 = 1 → x36 ≤ 1000) := by rw [e_x36]; exact marks_c hT _
        replace hT := cT_v (i := 8) hT (show 0 ≤ x36 ∧ x36 ≤ 1000 from by (first | omega | (simp only [st_s] <;> omega) | assumption | omega | fail))
        exact ⟨hT, (show (x36) = σ.2.1 25 (3 * (σ.1 11)) from by (rw [e_x36, G25, W11])), (show (τ_166.1 9) = σ.2.1 25 (3 * (σ.1 11) + 1) from by (first | omega | (simp only [st_s] <;> omega) | assumption | omega | fail)), (show (τ_166.1 10) = σ.2.1 25 (3 * (σ.1 11) + 2) from by (first | omega | (simp only [st_s] <;> omega) | assumption | omega | fail)), (show J_va (x36) 1000 (τ_166.2.1 18) (τ_166.2.1 20) from by (rw [e_x36, G25, W11, G20]; exact ⟨⟨fun i a b => VA_0.1.1 i a (by omega), fun i j a b c => VA_0.1.2 i j a b (by omega)⟩, fun n a b => ⟨i166_5 n a b, (VA_0.2 n a (by omega)).2⟩⟩)), (show J_sc 1500 (τ_166.1 9) (τ_166.2.1 13) (τ_166.2.1 14) (τ_166.2.1 15) (τ_166.2.1 16) (τ_166.2.1 22) (τ_166.2.1 19) from SX)⟩
      ·
        refine ⟨(show 0 ≤ u1_166 ∧ u1_166 < 1000 from by (first | omega | (simp only [st_s] <;> omega) | assumption | omega | fail)), ?_⟩
        intro x38 r_x38 e_x38
        have b_x38 : 0 ≤ x38 ∧ x38 ≤ 999 := by rw [e_x38]; exact hT.2 20 _
        refine ⟨(show 0 ≤ x38 ∧ x38 < 1000 from by (first | omega | (simp only [st_s] <;> omega) | assumption | omega | fail)), ?_⟩
        replace hT := cT_a (k := 18) (j := x38) hT (show (0 : Int) ≤ 0 ∧ 0 ≤ 1 from by (first | omega | (simp only [st_s] <;> omega) | assumption | omega | fail))
        refine ⟨(⟨by (first | omega | (simp only [st_s] <;> omega) | assumption | omega | fail), by (first | omega | (simp only [st_s] <;> omega) | assumption | omega | fail)⟩ : rg (u1_166 + 1)), ?_⟩
        exact ih_166 _ _ (show (1001 - (u1_166 + 1) : Int) < ((m_166 : Nat) : Int) from by ((first | omega | (simp only [st_s] <;> omega) | assumption | omega | fail))) hT (show τ_166.1 11 = σ.1 11 from by first | exact W11 | omega) G13 G14 G15 G16 G20 G22 G25 (show 0 ≤ (u1_166 + 1) from by (first | omega | (simp only [st_s] <;> omega) | assumption | omega | fail)) (show (u1_166 + 1) ≤ 1000 from by (first | omega | (simp only [st_s] <;> omega) | assumption | omega | fail)) (show (τ_166.1 10) = σ.2.1 25 (3 * (σ.1 11) + 2) from by (first | omega | (simp only [st_s] <;> omega) | assumption | omega | fail)) (show (τ_166.1 9) = σ.2.1 25 (3 * (σ.1 11) + 1) from by (first | omega | (rw [e_x17, G25, W11]) | fail)) (show ∀ n : Int, 0 ≤ n → n < σ.2.1 25 (3 * (σ.1 11)) → ¬ (st (τ_166.2.1 18) x38 0) (σ.2.1 20 n) = 0 from by (first | (intro n h0 h1; rw [i75_5]; exact (VA_0.2 n h0 (by omega)).1) | (intro n h0 h1; rw [st_n _ _ (by rw [e_x38, G20]; exact VA_0.1.2 n u1_166 h0 (by omega) (by omega))]; exact i166_5 n h0 h1) | fail)) (show σ.2.1 25 (3 * (σ.1 11)) ≤ (u1_166 + 1) from by (first | (rw [e_x19, G25, W11]; omega) | omega | fail)) (show (τ_166.1 8) = (σ.1 8) from by (first | omega | (simp only [st_s] <;> omega) | assumption | omega | fail)) (show J_sc 1500 (τ_166.1 9) (τ_166.2.1 13) (τ_166.2.1 14) (τ_166.2.1 15) (τ_166.2.1 16) (τ_166.2.1 22) (τ_166.2.1 19) from SX)
  have l_75 : ∀ (m_75 : Nat) (u1_75 : Int) (τ_75 : S0), 1501 - u1_75 < (m_75 : Int) → (c_T τ_75) → (τ_75.1 11 = σ.1 11) → (τ_75.2.1 13 = σ.2.1 13) → (τ_75.2.1 14 = σ.2.1 14) → (τ_75.2.1 15 = σ.2.1 15) → (τ_75.2.1 16 = σ.2.1 16) → (τ_75.2.1 20 = σ.2.1 20) → (τ_75.2.1 22 = σ.2.1 22) → (τ_75.2.1 25 = σ.2.1 25) → (0 ≤ u1_75) → (u1_75 ≤ 1500) → ((τ_75.1 9) = (σ.1 9)) → ((τ_75.1 10) = σ.2.1 25 (3 * (σ.1 11) + 2)) → (τ_75.2.1 18 = σ.2.1 18) → ((τ_75.1 8) = (σ.1 8)) → (∀ s : Int, 0 ≤ s → s < 1000 → 0 ≤ τ_75.2.1 19 s → τ_75.2.1 19 s = σ.2.1 19 s ∧ ∀ m : Int, σ.2.1 25 (3 * (σ.1 11) + 1) ≤ m → m < u1_75 → σ.2.1 22 m ≠ σ.2.1 19 s) → (σ.2.1 25 (3 * (σ.1 11) + 1) ≤ u1_75) → (∀ m : Int, 0 ≤ m → m < σ.2.1 25 (3 * (σ.1 11) + 1) → σ.2.1 13 (σ.2.1 22 m) = 0 → τ_75.2.1 19 (σ.2.1 15 (σ.2.1 14 (σ.2.1 22 m) + 1)) = σ.2.1 22 m) → P75 u1_75 τ_75 := by
    intro m_75
    induction m_75 with
    | zero =>
      intro u1_75 τ_75 hm hT W11 G13 G14 G15 G16 G20 G22 G25 i75_1 i75_2 i75_3 i75_4 i75_5 i75_6 i75_7 i75_8 i75_9
      have A13 : ∀ j, 0 ≤ τ_75.2.1 13 j ∧ τ_75.2.1 13 j ≤ 4 := fun j => hT.2 13 j
      have A14 : ∀ j, 0 ≤ τ_75.2.1 14 j ∧ τ_75.2.1 14 j ≤ 30000 := fun j => hT.2 14 j
      have A15 : ∀ j, 0 ≤ τ_75.2.1 15 j ∧ τ_75.2.1 15 j ≤ 999 := fun j => hT.2 15 j
      have A16 : ∀ j, (-1) ≤ τ_75.2.1 16 j ∧ τ_75.2.1 16 j ≤ 1499 := fun j => hT.2 16 j
      have A18 : ∀ j, 0 ≤ τ_75.2.1 18 j ∧ τ_75.2.1 18 j ≤ 1 := fun j => hT.2 18 j
      have A19 : ∀ j, (-1) ≤ τ_75.2.1 19 j ∧ τ_75.2.1 19 j ≤ 1499 := fun j => hT.2 19 j
      have A20 : ∀ j, 0 ≤ τ_75.2.1 20 j ∧ τ_75.2.1 20 j ≤ 999 := fun j => hT.2 20 j
      have A22 : ∀ j, 0 ≤ τ_75.2.1 22 j ∧ τ_75.2.1 22 j ≤ 1499 := fun j => hT.2 22 j
      have v8 : 0 ≤ τ_75.1 8 ∧ τ_75.1 8 ≤ 1000 := hT.1 8
      have v9 : 0 ≤ τ_75.1 9 ∧ τ_75.1 9 ≤ 1500 := hT.1 9
      have v10 : 0 ≤ τ_75.1 10 ∧ τ_75.1 10 ≤ 1000 := hT.1 10
      have v11 : 0 ≤ τ_75.1 11 ∧ τ_75.1 11 ≤ 50 := hT.1 11
      exfalso; (first | omega | (simp only [st_s] <;> omega) | assumption | omega | fail)
    | succ m_75 ih_75 =>
      intro u1_75 τ_75 hm_75 hT W11 G13 G14 G15 G16 G20 G22 G25 i75_1 i75_2 i75_3 i75_4 i75_5 i75_6 i75_7 i75_8 i75_9
      have A13 : ∀ j, 0 ≤ τ_75.2.1 13 j ∧ τ_75.2.1 13 j ≤ 4 := fun j => hT.2 13 j
      have A14 : ∀ j, 0 ≤ τ_75.2.1 14 j ∧ τ_75.2.1 14 j ≤ 30000 := fun j => hT.2 14 j
      have A15 : ∀ j, 0 ≤ τ_75.2.1 15 j ∧ τ_75.2.1 15 j ≤ 999 := fun j => hT.2 15 j
      have A16 : ∀ j, (-1) ≤ τ_75.2.1 16 j ∧ τ_75.2.1 16 j ≤ 1499 := fun j => hT.2 16 j
      have A18 : ∀ j, 0 ≤ τ_75.2.1 18 j ∧ τ_75.2.1 18 j ≤ 1 := fun j => hT.2 18 j
      have A19 : ∀ j, (-1) ≤ τ_75.2.1 19 j ∧ τ_75.2.1 19 j ≤ 1499 := fun j => hT.2 19 j
      have A20 : ∀ j, 0 ≤ τ_75.2.1 20 j ∧ τ_75.2.1 20 j ≤ 999 := fun j => hT.2 20 j
      have A22 : ∀ j, 0 ≤ τ_75.2.1 22 j ∧ τ_75.2.1 22 j ≤ 1499 := fun j => hT.2 22 j
      have v8 : 0 ≤ τ_75.1 8 ∧ τ_75.1 8 ≤ 1000 := hT.1 8
      have v9 : 0 ≤ τ_75.1 9 ∧ τ_75.1 9 ≤ 1500 := hT.1 9
      have v10 : 0 ≤ τ_75.1 10 ∧ τ_75.1 10 ≤ 1000 := hT.1 10
      have v11 : 0 ≤ τ_75.1 11 ∧ τ_75.1 11 ≤ 50 := hT.1 11
      refine h75 u1_75 τ_75 ?_
      refine ⟨fun c15 => ?_, fun c15 => ?_⟩
      ·
        refine ⟨(show 0 ≤ ((3 * τ_75.1 11) + 1) ∧ ((3 * τ_75.1 11) + 1) < 153 from by (first | omega | (simp only [st_s] <;> omega) | assumption | omega | fail)), ?_⟩
        intro x17 r_x17 e_x17
        have b_x17 : (0 ≤ x17 ∧ x17 ≤ 1500) ∧ (¬ ((3 * τ_75.1 11) + 1) % 3 = 1 → x17 ≤ 1000) := by rw [e_x17]; exact marks_c hT _
        replace hT := cT_v (i := 9) hT (show 0 ≤ x17 ∧ x17 ≤ 1500 from by (first | omega | (simp only [st_s] <;> omega) | assumption | omega | fail))
        refine ⟨(show 0 ≤ (3 * τ_75.1 11) ∧ (3 * τ_75.1 11) < 153 from by (first | omega | (simp only [st_s] <;> omega) | assumption | omega | fail)), ?_⟩
        intro x19 r_x19 e_x19
        have b_x19 : (0 ≤ x19 ∧ x19 ≤ 1500) ∧ (¬ (3 * τ_75.1 11) % 3 = 1 → x19 ≤ 1000) := by rw [e_x19]; exact marks_c hT _
        exact l_166 ((1001 - x19 : Int).toNat + 1) _ _ (show (1001 - x19 : Int) < (((1001 - x19 : Int).toNat + 1 : Nat) : Int) from by ((first | omega | (simp only [st_s] <;> omega) | assumption | omega | fail))) hT (show τ_75.1 11 = σ.1 11 from by first | exact W11 | omega) G13 G14 G15 G16 G20 G22 G25 (show 0 ≤ x19 from by (first | omega | (simp only [st_s] <;> omega) | assumption | omega | fail)) (show x19 ≤ 1000 from by (first | omega | (simp only [st_s] <;> omega) | assumption | omega | fail)) (show (τ_75.1 10) = σ.2.1 25 (3 * (σ.1 11) + 2) from by (first | omega | (simp only [st_s] <;> omega) | assumption | omega | fail)) (show (x17) = σ.2.1 25 (3 * (σ.1 11) + 1) from by (first | omega | (rw [e_x17, G25, W11]) | fail)) (show ∀ n : Int, 0 ≤ n → n < σ.2.1 25 (3 * (σ.1 11)) → ¬ τ_75.2.1 18 (σ.2.1 20 n) = 0 from by (first | (intro n h0 h1; rw [i75_5]; exact (VA_0.2 n h0 (by omega)).1) | (intro n h0 h1; rw [st_n _ _ (by rw [e_x38, G20]; exact VA_0.1.2 n u1_166 h0 (by omega) (by omega))]; exact i166_5 n h0 h1) | fail)) (show σ.2.1 25 (3 * (σ.1 11)) ≤ x19 from by (first | (rw [e_x19, G25, W11]; omega) | omega | fail)) (show (τ_75.1 8) = (σ.1 8) from by (first | omega | (simp only [st_s] <;> omega) | assumption | omega | fail)) (show J_sc 1500 (x17) (τ_75.2.1 13) (τ_75.2.1 14) (τ_75.2.1 15) (τ_75.2.1 16) (τ_75.2.1 22) (τ_75.2.1 19) from by (first | (rw [e_x17, G25, W11, G13, G14, G15, G16, G22]; exact J_sc_cut SX_0 p6 (fun s s0 s1 s2 => by have := i75_7 s s0 s1 s2; exact ⟨this.1, fun m m0 m1 => this.2 m m0 (by omega)⟩) i75_9) | exact SX | fail))
      ·
        refine ⟨(show 0 ≤ u1_75 ∧ u1_75 < 1500 from by (first | omega | (simp only [st_s] <;> omega) | assumption | omega | fail)), ?_⟩
        intro x21 r_x21 e_x21
        have b_x21 : 0 ≤ x21 ∧ x21 ≤ 1499 := by rw [e_x21]; exact hT.2 22 _
        refine ⟨(show 0 ≤ x21 ∧ x21 < 1500 from by (first | omega | (simp only [st_s] <;> omega) | assumption | omega | fail)), ?_⟩
        replace hT := cT_a (k := 21) (j := x21) hT (show (0 : Int) ≤ 0 ∧ 0 ≤ 1 from by (first | omega | (simp only [st_s] <;> omega) | assumption | omega | fail))
        intro x23 r_x23 e_x23
        have b_x23 : 0 ≤ x23 ∧ x23 ≤ 1499 := by rw [e_x23]; exact hT.2 22 _
        refine ⟨(show 0 ≤ x23 ∧ x23 < 1500 from by (first | omega | (simp only [st_s] <;> omega) | assumption | omega | fail)), ?_⟩
        intro x25 r_x25 e_x25
        have b_x25 : 0 ≤ x25 ∧ x25 ≤ 4 := by rw [e_x25]; exact hT.2 13 _
        refine ⟨fun c26 => ?_, fun c26 => ?_⟩
        ·
          refine ⟨(⟨by (first | omega | (simp only [st_s] <;> omega) | assumption | omega | fail), by (first | omega | (simp only [st_s] <;> omega) | assumption | omega | fail)⟩ : rg (u1_75 + 1)), ?_⟩
          exact ih_75 _ _ (show (1501 - (u1_75 + 1) : Int) < ((m_75 : Nat) : Int) from by ((first | omega | (simp only [st_s] <;> omega) | assumption | omega | fail))) hT (show τ_75.1 11 = σ.1 11 from by first | exact W11 | omega) G13 G14 G15 G16 G20 G22 G25 (show 0 ≤ (u1_75 + 1) from by (first | omega | (simp only [st_s] <;> omega) | assumption | omega | fail)) (show (u1_75 + 1) ≤ 1500 from by (first | omega | (simp only [st_s] <;> omega) | assumption | omega | fail)) (show (τ_75.1 9) = (σ.1 9) from by (first | omega | (simp only [st_s] <;> omega) | assumption | omega | fail)) (show (τ_75.1 10) = σ.2.1 25 (3 * (σ.1 11) + 2) from by (first | omega | (rw [e_x5, G25, W11]) | fail)) (show τ_75.2.1 18 = σ.2.1 18 from by (first | assumption | (rw [i14_4]) | fail)) (show (τ_75.1 8) = (σ.1 8) from by (first | omega | (simp only [st_s] <;> omega) | assumption | omega | fail)) (show ∀ s : Int, 0 ≤ s → s < 1000 → 0 ≤ τ_75.2.1 19 s → τ_75.2.1 19 s = σ.2.1 19 s ∧ ∀ m : Int, σ.2.1 25 (3 * (σ.1 11) + 1) ≤ m → m < (u1_75 + 1) → σ.2.1 22 m ≠ σ.2.1 19 s from by (first | (intro s s0 s1 s2; rw [i14_6] at s2 ⊢; exact ⟨rfl, fun m m0 m1 => by exfalso; rw [e_x7, G25, W11] at m1; omega⟩) | exact (J_cu SX_0 (by omega) (by omega) i75_7).1 (by rw [← G13, ← G22, ← e_x21]; first | exact fun z => c26 (by rw [e_x25, e_x23, ← e_x21]; exact z) | omega) | exact (J_cu SX_0 (by omega) (by omega) i75_7).2 x30 (by rw [← G15, ← G14, ← G22, ← e_x28]; exact q29_1) | fail)) (show σ.2.1 25 (3 * (σ.1 11) + 1) ≤ (u1_75 + 1) from by (first | omega | (rw [e_x7, G25, W11]; omega) | fail)) (show ∀ m : Int, 0 ≤ m → m < σ.2.1 25 (3 * (σ.1 11) + 1) → σ.2.1 13 (σ.2.1 22 m) = 0 → τ_75.2.1 19 (σ.2.1 15 (σ.2.1 14 (σ.2.1 22 m) + 1)) = σ.2.1 22 m from by (first | (rw [i14_6]; exact fun m m0 m1 z => (SX_0.1 m m0 (by omega)).2.2.2.1 z) | exact i75_9 | exact J_cv SX_0 (by omega) (by omega) i75_8 (by rw [← G13, ← G22]; rw [← e_x23, ← e_x25]; assumption) i75_9 x30 (by rw [← G15, ← G14, ← G22, ← e_x28]; exact q29_1) | fail))
        ·
          intro x28 r_x28 e_x28
          have b_x28 : 0 ≤ x28 ∧ x28 ≤ 1499 := by rw [e_x28]; exact hT.2 22 _
          have jj := JF_0 u1_75 (by omega) (by omega)
          rw [← G13, ← G14, ← G22, ← e_x23, ← e_x25] at jj
          rw [show x23 = x28 from by omega] at jj
          refine ⟨_, K_X3_variableOf hT (show 0 ≤ x28 from by (first | omega | (simp only [st_s] <;> omega) | assumption | omega | fail)) (show x28 ≤ 1500 from by (first | omega | (simp only [st_s] <;> omega) | assumption | omega | fail)) (show τ_75.2.1 14 x28 < 29999 from by (first | omega | (simp only [st_s] <;> omega) | assumption | omega | fail)), ?_⟩
          intro x30 r_x30 hq
          obtain ⟨q29_1, q29_2⟩ := hq
          replace q29_1 : x30 = τ_75.2.1 15 (τ_75.2.1 14 x28 + 1) := q29_1
          replace q29_2 : 0 ≤ x30 ∧ x30 ≤ 999 := q29_2
          refine ⟨(show 0 ≤ x30 ∧ x30 < 1000 from by (first | omega | (simp only [st_s] <;> omega) | assumption | omega | fail)), ?_⟩
          replace hT := cT_a (k := 19) (j := x30) hT (show (-1 : Int) ≤ (-1) ∧ (-1) ≤ 1499 from by (first | omega | (simp only [st_s] <;> omega) | assumption | omega | fail))
          refine ⟨(⟨by (first | omega | (simp only [st_s] <;> omega) | assumption | omega | fail), by (first | omega | (simp only [st_s] <;> omega) | assumption | omega | fail)⟩ : rg (u1_75 + 1)), ?_⟩
          exact ih_75 _ _ (show (1501 - (u1_75 + 1) : Int) < ((m_75 : Nat) : Int) from by ((first | omega | (simp only [st_s] <;> omega) | assumption | omega | fail))) hT (show τ_75.1 11 = σ.1 11 from by first | exact W11 | omega) G13 G14 G15 G16 G20 G22 G25 (show 0 ≤ (u1_75 + 1) from by (first | omega | (simp only [st_s] <;> omega) | assumption | omega | fail)) (show (u1_75 + 1) ≤ 1500 from by (first | omega | (simp only [st_s] <;> omega) | assumption | omega | fail)) (show (τ_75.1 9) = (σ.1 9) from by (first | omega | (simp only [st_s] <;> omega) | assumption | omega | fail)) (show (τ_75.1 10) = σ.2.1 25 (3 * (σ.1 11) + 2) from by (first | omega | (rw [e_x5, G25, W11]) | fail)) (show τ_75.2.1 18 = σ.2.1 18 from by (first | assumption | (rw [i14_4]) | fail)) (show (τ_75.1 8) = (σ.1 8) from by (first | omega | (simp only [st_s] <;> omega) | assumption | omega | fail)) (show ∀ s : Int, 0 ≤ s → s < 1000 → 0 ≤ (st (τ_75.2.1 19) x30 (-1)) s → (st (τ_75.2.1 19) x30 (-1)) s = σ.2.1 19 s ∧ ∀ m : Int, σ.2.1 25 (3 * (σ.1 11) + 1) ≤ m → m < (u1_75 + 1) → σ.2.1 22 m ≠ σ.2.1 19 s from by (first | (intro s s0 s1 s2; rw [i14_6] at s2 ⊢; exact ⟨rfl, fun m m0 m1 => by exfalso; rw [e_x7, G25, W11] at m1; omega⟩) | exact (J_cu SX_0 (by omega) (by omega) i75_7).1 (by rw [← G13, ← G22, ← e_x21]; first | exact fun z => c26 (by rw [e_x25, e_x23, ← e_x21]; exact z) | omega) | exact (J_cu SX_0 (by omega) (by omega) i75_7).2 x30 (by rw [← G15, ← G14, ← G22, ← e_x28]; exact q29_1) | fail)) (show σ.2.1 25 (3 * (σ.1 11) + 1) ≤ (u1_75 + 1) from by (first | omega | (rw [e_x7, G25, W11]; omega) | fail)) (show ∀ m : Int, 0 ≤ m → m < σ.2.1 25 (3 * (σ.1 11) + 1) → σ.2.1 13 (σ.2.1 22 m) = 0 → (st (τ_75.2.1 19) x30 (-1)) (σ.2.1 15 (σ.2.1 14 (σ.2.1 22 m) + 1)) = σ.2.1 22 m from by (first | (rw [i14_6]; exact fun m m0 m1 z => (SX_0.1 m m0 (by omega)).2.2.2.1 z) | exact i75_9 | exact J_cv SX_0 (by omega) (by omega) i75_8 (by rw [← G13, ← G22]; rw [← e_x23, ← e_x25]; assumption) i75_9 x30 (by rw [← G15, ← G14, ← G22, ← e_x28]; exact q29_1) | fail))
  have l_14 : ∀ (m_14 : Nat) (u1_14 : Int) (τ_14 : S0), 1001 - u1_14 < (m_14 : Int) → (c_T τ_14) → (τ_14.1 11 = σ.1 11) → (τ_14.2.1 13 = σ.2.1 13) → (τ_14.2.1 14 = σ.2.1 14) → (τ_14.2.1 15 = σ.2.1 15) → (τ_14.2.1 16 = σ.2.1 16) → (τ_14.2.1 20 = σ.2.1 20) → (τ_14.2.1 22 = σ.2.1 22) → (τ_14.2.1 25 = σ.2.1 25) → (0 ≤ u1_14) → (u1_14 ≤ 1000) → ((τ_14.1 9) = (σ.1 9)) → (τ_14.2.1 18 = σ.2.1 18) → ((τ_14.1 8) = (σ.1 8)) → (τ_14.2.1 19 = σ.2.1 19) → P14 u1_14 τ_14 := by
    intro m_14
    induction m_14 with
    | zero =>
      intro u1_14 τ_14 hm hT W11 G13 G14 G15 G16 G20 G22 G25 i14_1 i14_2 i14_3 i14_4 i14_5 i14_6
      have A13 : ∀ j, 0 ≤ τ_14.2.1 13 j ∧ τ_14.2.1 13 j ≤ 4 := fun j => hT.2 13 j
      have A14 : ∀ j, 0 ≤ τ_14.2.1 14 j ∧ τ_14.2.1 14 j ≤ 30000 := fun j => hT.2 14 j
      have A15 : ∀ j, 0 ≤ τ_14.2.1 15 j ∧ τ_14.2.1 15 j ≤ 999 := fun j => hT.2 15 j
      have A16 : ∀ j, (-1) ≤ τ_14.2.1 16 j ∧ τ_14.2.1 16 j ≤ 1499 := fun j => hT.2 16 j
      have A18 : ∀ j, 0 ≤ τ_14.2.1 18 j ∧ τ_14.2.1 18 j ≤ 1 := fun j => hT.2 18 j
      have A19 : ∀ j, (-1) ≤ τ_14.2.1 19 j ∧ τ_14.2.1 19 j ≤ 1499 := fun j => hT.2 19 j
      have A20 : ∀ j, 0 ≤ τ_14.2.1 20 j ∧ τ_14.2.1 20 j ≤ 999 := fun j => hT.2 20 j
      have A22 : ∀ j, 0 ≤ τ_14.2.1 22 j ∧ τ_14.2.1 22 j ≤ 1499 := fun j => hT.2 22 j
      have v8 : 0 ≤ τ_14.1 8 ∧ τ_14.1 8 ≤ 1000 := hT.1 8
      have v9 : 0 ≤ τ_14.1 9 ∧ τ_14.1 9 ≤ 1500 := hT.1 9
      have v10 : 0 ≤ τ_14.1 10 ∧ τ_14.1 10 ≤ 1000 := hT.1 10
      have v11 : 0 ≤ τ_14.1 11 ∧ τ_14.1 11 ≤ 50 := hT.1 11
      exfalso; (first | omega | (simp only [st_s] <;> omega) | assumption | omega | fail)
    | succ m_14 ih_14 =>
      intro u1_14 τ_14 hm_14 hT W11 G13 G14 G15 G16 G20 G22 G25 i14_1 i14_2 i14_3 i14_4 i14_5 i14_6
      have A13 : ∀ j, 0 ≤ τ_14.2.1 13 j ∧ τ_14.2.1 13 j ≤ 4 := fun j => hT.2 13 j
      have A14 : ∀ j, 0 ≤ τ_14.2.1 14 j ∧ τ_14.2.1 14 j ≤ 30000 := fun j => hT.2 14 j
      have A15 : ∀ j, 0 ≤ τ_14.2.1 15 j ∧ τ_14.2.1 15 j ≤ 999 := fun j => hT.2 15 j
      have A16 : ∀ j, (-1) ≤ τ_14.2.1 16 j ∧ τ_14.2.1 16 j ≤ 1499 := fun j => hT.2 16 j
      have A18 : ∀ j, 0 ≤ τ_14.2.1 18 j ∧ τ_14.2.1 18 j ≤ 1 := fun j => hT.2 18 j
      have A19 : ∀ j, (-1) ≤ τ_14.2.1 19 j ∧ τ_14.2.1 19 j ≤ 1499 := fun j => hT.2 19 j
      have A20 : ∀ j, 0 ≤ τ_14.2.1 20 j ∧ τ_14.2.1 20 j ≤ 999 := fun j => hT.2 20 j
      have A22 : ∀ j, 0 ≤ τ_14.2.1 22 j ∧ τ_14.2.1 22 j ≤ 1499 := fun j => hT.2 22 j
      have v8 : 0 ≤ τ_14.1 8 ∧ τ_14.1 8 ≤ 1000 := hT.1 8
      have v9 : 0 ≤ τ_14.1 9 ∧ τ_14.1 9 ≤ 1500 := hT.1 9
      have v10 : 0 ≤ τ_14.1 10 ∧ τ_14.1 10 ≤ 1000 := hT.1 10
      have v11 : 0 ≤ τ_14.1 11 ∧ τ_14.1 11 ≤ 50 := hT.1 11
      refine h14 u1_14 τ_14 ?_
      refine ⟨fun c3 => ?_, fun c3 => ?_⟩
      ·
        refine ⟨(show 0 ≤ ((3 * τ_14.1 11) + 2) ∧ ((3 * τ_14.1 11) + 2) < 153 from by (first | omega | (simp only [st_s] <;> omega) | assumption | omega | fail)), ?_⟩
        intro x5 r_x5 e_x5
        have b_x5 : (0 ≤ x5 ∧ x5 ≤ 1500) ∧ (¬ ((3 * τ_14.1 11) + 2) % 3 = 1 → x5 ≤ 1000) := by rw [e_x5]; exact marks_c hT _
        replace hT := cT_v (i := 10) hT (show 0 ≤ x5 ∧ x5 ≤ 1000 from by (first | omega | (simp only [st_s] <;> omega) | assumption | omega | fail))
        refine ⟨(show 0 ≤ ((3 * τ_14.1 11) + 1) ∧ ((3 * τ_14.1 11) + 1) < 153 from by (first | omega | (simp only [st_s] <;> omega) | assumption | omega | fail)), ?_⟩
        intro x7 r_x7 e_x7
        have b_x7 : (0 ≤ x7 ∧ x7 ≤ 1500) ∧ (¬ ((3 * τ_14.1 11) + 1) % 3 = 1 → x7 ≤ 1000) := by rw [e_x7]; exact marks_c hT _
        exact l_75 ((1501 - x7 : Int).toNat + 1) _ _ (show (1501 - x7 : Int) < (((1501 - x7 : Int).toNat + 1 : Nat) : Int) from by ((first | omega | (simp only [st_s] <;> omega) | assumption | omega | fail))) hT (show τ_14.1 11 = σ.1 11 from by first | exact W11 | omega) G13 G14 G15 G16 G20 G22 G25 (show 0 ≤ x7 from by (first | omega | (simp only [st_s] <;> omega) | assumption | omega | fail)) (show x7 ≤ 1500 from by (first | omega | (simp only [st_s] <;> omega) | assumption | omega | fail)) (show (τ_14.1 9) = (σ.1 9) from by (first | omega | (simp only [st_s] <;> omega) | assumption | omega | fail)) (show (x5) = σ.2.1 25 (3 * (σ.1 11) + 2) from by (first | omega | (rw [e_x5, G25, W11]) | fail)) (show τ_14.2.1 18 = σ.2.1 18 from by (first | assumption | (rw [i14_4]) | fail)) (show (τ_14.1 8) = (σ.1 8) from by (first | omega | (simp only [st_s] <;> omega) | assumption | omega | fail)) (show ∀ s : Int, 0 ≤ s → s < 1000 → 0 ≤ τ_14.2.1 19 s → τ_14.2.1 19 s = σ.2.1 19 s ∧ ∀ m : Int, σ.2.1 25 (3 * (σ.1 11) + 1) ≤ m → m < x7 → σ.2.1 22 m ≠ σ.2.1 19 s from by (first | (intro s s0 s1 s2; rw [i14_6] at s2 ⊢; exact ⟨rfl, fun m m0 m1 => by exfalso; rw [e_x7, G25, W11] at m1; omega⟩) | exact (J_cu SX_0 (by omega) (by omega) i75_7).1 (by rw [← G13, ← G22, ← e_x21]; first | exact fun z => c26 (by rw [e_x25, e_x23, ← e_x21]; exact z) | omega) | exact (J_cu SX_0 (by omega) (by omega) i75_7).2 x30 (by rw [← G15, ← G14, ← G22, ← e_x28]; exact q29_1) | fail)) (show σ.2.1 25 (3 * (σ.1 11) + 1) ≤ x7 from by (first | omega | (rw [e_x7, G25, W11]; omega) | fail)) (show ∀ m : Int, 0 ≤ m → m < σ.2.1 25 (3 * (σ.1 11) + 1) → σ.2.1 13 (σ.2.1 22 m) = 0 → τ_14.2.1 19 (σ.2.1 15 (σ.2.1 14 (σ.2.1 22 m) + 1)) = σ.2.1 22 m from by (first | (rw [i14_6]; exact fun m m0 m1 z => (SX_0.1 m m0 (by omega)).2.2.2.1 z) | exact i75_9 | exact J_cv SX_0 (by omega) (by omega) i75_8 (by rw [← G13, ← G22]; rw [← e_x23, ← e_x25]; assumption) i75_9 x30 (by rw [← G15, ← G14, ← G22, ← e_x28]; exact q29_1) | fail))
      ·
        refine ⟨(show 0 ≤ u1_14 ∧ u1_14 < 1000 from by (first | omega | (simp only [st_s] <;> omega) | assumption | omega | fail)), ?_⟩
        intro x9 r_x9 e_x9
        have b_x9 : 0 ≤ x9 ∧ x9 ≤ 999 := by rw [e_x9]; exact hT.2 23 _
        intro x10 r_x10 e_x10
        have b_x10 : 0 ≤ x10 ∧ x10 ≤ 999 := by rw [e_x10]; exact hT.2 24 _
        refine ⟨_, K_X9_turnPair hT (show 0 ≤ x9 from by (first | omega | (simp only [st_s] <;> omega) | assumption | omega | fail)) (show x9 < 1000 from by (first | omega | (simp only [st_s] <;> omega) | assumption | omega | fail)) (show 0 ≤ x10 from by (first | omega | (simp only [st_s] <;> omega) | assumption | omega | fail)) (show x10 < 1000 from by (first | omega | (simp only [st_s] <;> omega) | assumption | omega | fail)), ?_⟩
        intro τ13 hn_τ13 hf_τ13 hq
        replace hT := hq
        have w8_τ13 : τ13.1 8 = τ_14.1 8 := hf_τ13.1 8 (by decide)
        have w9_τ13 : τ13.1 9 = τ_14.1 9 := hf_τ13.1 9 (by decide)
        have w10_τ13 : τ13.1 10 = τ_14.1 10 := hf_τ13.1 10 (by decide)
        have w11_τ13 : τ13.1 11 = τ_14.1 11 := hf_τ13.1 11 (by decide)
        have g13_τ13 : τ13.2.1 13 = τ_14.2.1 13 := hf_τ13.2.1 13 (by decide)
        have g14_τ13 : τ13.2.1 14 = τ_14.2.1 14 := hf_τ13.2.1 14 (by decide)
        have g15_τ13 : τ13.2.1 15 = τ_14.2.1 15 := hf_τ13.2.1 15 (by decide)
        have g16_τ13 : τ13.2.1 16 = τ_14.2.1 16 := hf_τ13.2.1 16 (by decide)
        have g18_τ13 : τ13.2.1 18 = τ_14.2.1 18 := hf_τ13.2.1 18 (by decide)
        have g19_τ13 : τ13.2.1 19 = τ_14.2.1 19 := hf_τ13.2.1 19 (by decide)
        have g20_τ13 : τ13.2.1 20 = τ_14.2.1 20 := hf_τ13.2.1 20 (by decide)
        have g22_τ13 : τ13.2.1 22 = τ_14.2.1 22 := hf_τ13.2.1 22 (by decide)
        have g25_τ13 : τ13.2.1 25 = τ_14.2.1 25 := hf_τ13.2.1 25 (by decide)
        have W11 : τ13.1 11 = σ.1 11 := by first | exact w11_τ13.trans W11 | omega
        have G13 : τ13.2.1 13 = σ.2.1 13 := (g13_τ13).trans G13
        have G14 : τ13.2.1 14 = σ.2.1 14 := (g14_τ13).trans G14
        have G15 : τ13.2.1 15 = σ.2.1 15 := (g15_τ13).trans G15
        have G16 : τ13.2.1 16 = σ.2.1 16 := (g16_τ13).trans G16
        have G20 : τ13.2.1 20 = σ.2.1 20 := (g20_τ13).trans G20
        have G22 : τ13.2.1 22 = σ.2.1 22 := (g22_τ13).trans G22
        have G25 : τ13.2.1 25 = σ.2.1 25 := (g25_τ13).trans G25
        have A13 : ∀ j, 0 ≤ τ13.2.1 13 j ∧ τ13.2.1 13 j ≤ 4 := fun j => hT.2 13 j
        have A14 : ∀ j, 0 ≤ τ13.2.1 14 j ∧ τ13.2.1 14 j ≤ 30000 := fun j => hT.2 14 j
        have A15 : ∀ j, 0 ≤ τ13.2.1 15 j ∧ τ13.2.1 15 j ≤ 999 := fun j => hT.2 15 j
        have A16 : ∀ j, (-1) ≤ τ13.2.1 16 j ∧ τ13.2.1 16 j ≤ 1499 := fun j => hT.2 16 j
        have A18 : ∀ j, 0 ≤ τ13.2.1 18 j ∧ τ13.2.1 18 j ≤ 1 := fun j => hT.2 18 j
        have A19 : ∀ j, (-1) ≤ τ13.2.1 19 j ∧ τ13.2.1 19 j ≤ 1499 := fun j => hT.2 19 j
        have A20 : ∀ j, 0 ≤ τ13.2.1 20 j ∧ τ13.2.1 20 j ≤ 999 := fun j => hT.2 20 j
        have A22 : ∀ j, 0 ≤ τ13.2.1 22 j ∧ τ13.2.1 22 j ≤ 1499 := fun j => hT.2 22 j
        have v8 : 0 ≤ τ13.1 8 ∧ τ13.1 8 ≤ 1000 := hT.1 8
        have v9 : 0 ≤ τ13.1 9 ∧ τ13.1 9 ≤ 1500 := hT.1 9
        have v10 : 0 ≤ τ13.1 10 ∧ τ13.1 10 ≤ 1000 := hT.1 10
        have v11 : 0 ≤ τ13.1 11 ∧ τ13.1 11 ≤ 50 := hT.1 11
        refine ⟨(⟨by (first | omega | (simp only [st_s] <;> omega) | assumption | omega | fail), by (first | omega | (simp only [st_s] <;> omega) | assumption | omega | fail)⟩ : rg (u1_14 + 1)), ?_⟩
        exact ih_14 _ _ (show (1001 - (u1_14 + 1) : Int) < ((m_14 : Nat) : Int) from by ((first | omega | (simp only [st_s] <;> omega) | assumption | omega | fail))) hT (show τ13.1 11 = σ.1 11 from by first | exact W11 | omega) G13 G14 G15 G16 G20 G22 G25 (show 0 ≤ (u1_14 + 1) from by (first | omega | (simp only [st_s] <;> omega) | assumption | omega | fail)) (show (u1_14 + 1) ≤ 1000 from by (first | omega | (simp only [st_s] <;> omega) | assumption | omega | fail)) (show (τ13.1 9) = (σ.1 9) from by (first | omega | (simp only [st_s] <;> omega) | assumption | omega | fail)) (show τ13.2.1 18 = σ.2.1 18 from by (first | rfl | assumption | (rw [g18_τ13]; assumption) | fail)) (show (τ13.1 8) = (σ.1 8) from by (first | omega | (simp only [st_s] <;> omega) | assumption | omega | fail)) (show τ13.2.1 19 = σ.2.1 19 from by (first | rfl | assumption | (rw [g19_τ13]; assumption) | fail))
  refine ⟨(show 0 ≤ ((3 * σ.1 11) + 2) ∧ ((3 * σ.1 11) + 2) < 153 from by (first | omega | (simp only [st_s] <;> omega) | assumption | omega | fail)), ?_⟩
  intro x2 r_x2 e_x2
  have b_x2 : (0 ≤ x2 ∧ x2 ≤ 1500) ∧ (¬ ((3 * σ.1 11) + 2) % 3 = 1 → x2 ≤ 1000) := by rw [e_x2]; exact marks_c hT _
  exact l_14 ((1001 - x2 : Int).toNat + 1) _ _ (show (1001 - x2 : Int) < (((1001 - x2 : Int).toNat + 1 : Nat) : Int) from by ((first | omega | (simp only [st_s] <;> omega) | assumption | omega | fail))) hT (show σ.1 11 = σ.1 11 from by first | exact W11 | omega) G13 G14 G15 G16 G20 G22 G25 (show 0 ≤ x2 from by (first | omega | (simp only [st_s] <;> omega) | assumption | omega | fail)) (show x2 ≤ 1000 from by (first | omega | (simp only [st_s] <;> omega) | assumption | omega | fail)) (show (σ.1 9) = (σ.1 9) from by (first | omega | (simp only [st_s] <;> omega) | assumption | omega | fail)) (show σ.2.1 18 = σ.2.1 18 from by (first | rfl | assumption | (rw [g18_τ13]; assumption) | fail)) (show (σ.1 8) = (σ.1 8) from by (first | omega | (simp only [st_s] <;> omega) | assumption | omega | fail)) (show σ.2.1 19 = σ.2.1 19 from by (first | rfl | assumption | (rw [g19_τ13]; assumption) | fail))
set_option maxHeartbeats 1000000 in
theorem K2_X9_close {σ : S0} (hT : c_T σ) (p1 : J_hfa (σ.1 9) (σ.2.1 13) (σ.2.1 14) (σ.2.1 22)) (p2 : 0 < (σ.1 11)) (p3 : J_va (σ.1 8) 1000 (σ.2.1 18) (σ.2.1 20)) (p4 : J_mk (σ.1 11) (σ.1 8) (σ.1 9) (σ.1 10) (σ.2.1 25)) (p5 : J_sc (σ.1 7) (σ.1 9) (σ.2.1 13) (σ.2.1 14) (σ.2.1 15) (σ.2.1 16) (σ.2.1 22) (σ.2.1 19)) : W_X9_close σ (fun (τ : S0) => (c_T τ) ∧ ((τ.1 11) = (σ.1 11) - 1) ∧ (J_va (τ.1 8) 1000 (τ.2.1 18) (τ.2.1 20)) ∧ (J_mk (τ.1 11) (τ.1 8) (τ.1 9) (τ.1 10) (τ.2.1 25)) ∧ ((τ.1 8) ≤ (σ.1 8)) ∧ ((τ.1 9) ≤ (σ.1 9)) ∧ (J_sc (τ.1 7) (τ.1 9) (τ.2.1 13) (τ.2.1 14) (τ.2.1 15) (τ.2.1 16) (τ.2.1 22) (τ.2.1 19))) := by
  have A13 : ∀ j, 0 ≤ σ.2.1 13 j ∧ σ.2.1 13 j ≤ 4 := fun j => hT.2 13 j
  have A14 : ∀ j, 0 ≤ σ.2.1 14 j ∧ σ.2.1 14 j ≤ 30000 := fun j => hT.2 14 j
  have A15 : ∀ j, 0 ≤ σ.2.1 15 j ∧ σ.2.1 15 j ≤ 999 := fun j => hT.2 15 j
  have A16 : ∀ j, (-1) ≤ σ.2.1 16 j ∧ σ.2.1 16 j ≤ 1499 := fun j => hT.2 16 j
  have A18 : ∀ j, 0 ≤ σ.2.1 18 j ∧ σ.2.1 18 j ≤ 1 := fun j => hT.2 18 j
  have A19 : ∀ j, (-1) ≤ σ.2.1 19 j ∧ σ.2.1 19 j ≤ 1499 := fun j => hT.2 19 j
  have A20 : ∀ j, 0 ≤ σ.2.1 20 j ∧ σ.2.1 20 j ≤ 999 := fun j => hT.2 20 j
  have A22 : ∀ j, 0 ≤ σ.2.1 22 j ∧ σ.2.1 22 j ≤ 1499 := fun j => hT.2 22 j
  have v7 : 0 ≤ σ.1 7 ∧ σ.1 7 ≤ 1500 := hT.1 7
  have v8 : 0 ≤ σ.1 8 ∧ σ.1 8 ≤ 1000 := hT.1 8
  have v9 : 0 ≤ σ.1 9 ∧ σ.1 9 ≤ 1500 := hT.1 9
  have v10 : 0 ≤ σ.1 10 ∧ σ.1 10 ≤ 1000 := hT.1 10
  have v11 : 0 ≤ σ.1 11 ∧ σ.1 11 ≤ 50 := hT.1 11
  have W7 : σ.1 7 = σ.1 7 := rfl
  have G13 : σ.2.1 13 = σ.2.1 13 := rfl
  have G14 : σ.2.1 14 = σ.2.1 14 := rfl
  have G15 : σ.2.1 15 = σ.2.1 15 := rfl
  have G16 : σ.2.1 16 = σ.2.1 16 := rfl
  have G20 : σ.2.1 20 = σ.2.1 20 := rfl
  have G22 : σ.2.1 22 = σ.2.1 22 := rfl
  have G25 : σ.2.1 25 = σ.2.1 25 := rfl
  have mk2 := p4.2
  have SX := J_sc_w (N := 1500) p5 (by omega)
  have JF : J_hfa (σ.1 9) (σ.2.1 13) (σ.2.1 14) (σ.2.1 22) := p1
  have VA : J_va (σ.1 8) 1000 (σ.2.1 18) (σ.2.1 20) := p3
  have SC : J_sc (σ.1 7) (σ.1 9) (σ.2.1 13) (σ.2.1 14) (σ.2.1 15) (σ.2.1 16) (σ.2.1 22) (σ.2.1 19) := p5
  have MK : J_mk (σ.1 11) (σ.1 8) (σ.1 9) (σ.1 10) (σ.2.1 25) := p4
  have JF_0 := JF
  have MK_0 := MK
  have SC_0 := SC
  have SX_0 := SX
  have VA_0 := VA
  unfold W_X9_close
  refine ⟨_, K2_X9_cut hT (show J_hfa (σ.1 9) (σ.2.1 13) (σ.2.1 14) (σ.2.1 22) from JF) (show 0 ≤ (σ.1 11) from by (first | omega | (simp only [st_s] <;> omega) | assumption | omega | fail)) (show J_va (σ.1 8) 1000 (σ.2.1 18) (σ.2.1 20) from VA) (show σ.2.1 25 (3 * (σ.1 11)) ≤ (σ.1 8) from by (first | omega | (simp only [st_s] <;> omega) | assumption | omega | fail)) (show J_sc 1500 (σ.1 9) (σ.2.1 13) (σ.2.1 14) (σ.2.1 15) (σ.2.1 16) (σ.2.1 22) (σ.2.1 19) from SX) (show σ.2.1 25 (3 * (σ.1 11) + 1) ≤ (σ.1 9) from by (first | omega | (simp only [st_s] <;> omega) | assumption | omega | fail)), ?_⟩
  intro τ3 hn_τ3 hf_τ3 hq
  obtain ⟨hT, q1_1, q1_2, q1_3, q1_4, q1_5⟩ := hq
  replace q1_1 : (τ3.1 8) = σ.2.1 25 (3 * (σ.1 11)) := q1_1
  replace q1_2 : (τ3.1 9) = σ.2.1 25 (3 * (σ.1 11) + 1) := q1_2
  replace q1_3 : (τ3.1 10) = σ.2.1 25 (3 * (σ.1 11) + 2) := q1_3
  replace q1_4 : J_va (τ3.1 8) 1000 (τ3.2.1 18) (τ3.2.1 20) := q1_4
  replace q1_5 : J_sc 1500 (τ3.1 9) (τ3.2.1 13) (τ3.2.1 14) (τ3.2.1 15) (τ3.2.1 16) (τ3.2.1 22) (τ3.2.1 19) := q1_5
  have w7_τ3 : τ3.1 7 = σ.1 7 := hf_τ3.1 7 (by decide)
  have w11_τ3 : τ3.1 11 = σ.1 11 := hf_τ3.1 11 (by decide)
  have g13_τ3 : τ3.2.1 13 = σ.2.1 13 := hf_τ3.2.1 13 (by decide)
  have g14_τ3 : τ3.2.1 14 = σ.2.1 14 := hf_τ3.2.1 14 (by decide)
  have g15_τ3 : τ3.2.1 15 = σ.2.1 15 := hf_τ3.2.1 15 (by decide)
  have g16_τ3 : τ3.2.1 16 = σ.2.1 16 := hf_τ3.2.1 16 (by decide)
  have g20_τ3 : τ3.2.1 20 = σ.2.1 20 := hf_τ3.2.1 20 (by decide)
  have g22_τ3 : τ3.2.1 22 = σ.2.1 22 := hf_τ3.2.1 22 (by decide)
  have g25_τ3 : τ3.2.1 25 = σ.2.1 25 := hf_τ3.2.1 25 (by decide)
  have W7 : τ3.1 7 = σ.1 7 := by first | exact w7_τ3.trans W7 | omega
  have G13 : τ3.2.1 13 = σ.2.1 13 := (g13_τ3).trans G13
  have G14 : τ3.2.1 14 = σ.2.1 14 := (g14_τ3).trans G14
  have G15 : τ3.2.1 15 = σ.2.1 15 := (g15_τ3).trans G15
  have G16 : τ3.2.1 16 = σ.2.1 16 := (g16_τ3).trans G16
  have G20 : τ3.2.1 20 = σ.2.1 20 := (g20_τ3).trans G20
  have G22 : τ3.2.1 22 = σ.2.1 22 := (g22_τ3).trans G22
  have G25 : τ3.2.1 25 = σ.2.1 25 := (g25_τ3).trans G25
  have VA : J_va (τ3.1 8) 1000 (τ3.2.1 18) (τ3.2.1 20) := q1_4
  have SX : J_sc 1500 (τ3.1 9) (τ3.2.1 13) (τ3.2.1 14) (τ3.2.1 15) (τ3.2.1 16) (τ3.2.1 22) (τ3.2.1 19) := q1_5
  have A13 : ∀ j, 0 ≤ τ3.2.1 13 j ∧ τ3.2.1 13 j ≤ 4 := fun j => hT.2 13 j
  have A14 : ∀ j, 0 ≤ τ3.2.1 14 j ∧ τ3.2.1 14 j ≤ 30000 := fun j => hT.2 14 j
  have A15 : ∀ j, 0 ≤ τ3.2.1 15 j ∧ τ3.2.1 15 j ≤ 999 := fun j => hT.2 15 j
  have A16 : ∀ j, (-1) ≤ τ3.2.1 16 j ∧ τ3.2.1 16 j ≤ 1499 := fun j => hT.2 16 j
  have A18 : ∀ j, 0 ≤ τ3.2.1 18 j ∧ τ3.2.1 18 j ≤ 1 := fun j => hT.2 18 j
  have A19 : ∀ j, (-1) ≤ τ3.2.1 19 j ∧ τ3.2.1 19 j ≤ 1499 := fun j => hT.2 19 j
  have A20 : ∀ j, 0 ≤ τ3.2.1 20 j ∧ τ3.2.1 20 j ≤ 999 := fun j => hT.2 20 j
  have A22 : ∀ j, 0 ≤ τ3.2.1 22 j ∧ τ3.2.1 22 j ≤ 1499 := fun j => hT.2 22 j
  have v7 : 0 ≤ τ3.1 7 ∧ τ3.1 7 ≤ 1500 := hT.1 7
  have v8 : 0 ≤ τ3.1 8 ∧ τ3.1 8 ≤ 1000 := hT.1 8
  have v9 : 0 ≤ τ3.1 9 ∧ τ3.1 9 ≤ 1500 := hT.1 9
  have v10 : 0 ≤ τ3.1 10 ∧ τ3.1 10 ≤ 1000 := hT.1 10
  have v11 : 0 ≤ τ3.1 11 ∧ τ3.1 11 ≤ 50 := hT.1 11
  refine ⟨(⟨by (first | omega | (simp only [st_s] <;> omega) | assumption | omega | fail), by (first | omega | (simp only [st_s] <;> omega) | assumption | omega | fail)⟩ : rg (τ3.1 11 - 1)), ?_⟩
  replace hT := cT_v (i := 11) hT (show 0 ≤ (τ3.1 11 - 1) ∧ (τ3.1 11 - 1) ≤ 50 from by (first | omega | (simp only [st_s] <;> omega) | assumption | omega | fail))
  exact ⟨hT, (show ((τ3.1 11 - 1)) = (σ.1 11) - 1 from by (first | omega | (simp only [st_s] <;> omega) | assumption | omega | fail)), (show J_va (τ3.1 8) 1000 (τ3.2.1 18) (τ3.2.1 20) from VA), (show J_mk ((τ3.1 11 - 1)) (τ3.1 8) (τ3.1 9) (τ3.1 10) (τ3.2.1 25) from by (rw [g25_τ3, q1_1, q1_2, q1_3, w11_τ3]; exact J_mk_c MK_0 (by omega))), (show (τ3.1 8) ≤ (σ.1 8) from by (first | omega | (simp only [st_s] <;> omega) | assumption | omega | fail)), (show (τ3.1 9) ≤ (σ.1 9) from by (first | omega | (simp only [st_s] <;> omega) | assumption | omega | fail)), (show J_sc (τ3.1 7) (τ3.1 9) (τ3.2.1 13) (τ3.2.1 14) (τ3.2.1 15) (τ3.2.1 16) (τ3.2.1 22) (τ3.2.1 19) from by (refine J_sc_b SX (fun m m0 m1 => ?_); rw [W7, G22]; exact (SC_0.1 m m0 (by omega)).1))⟩
set_option maxHeartbeats 1000000 in
theorem K2_X9_addHypothesis {n1 : Int} {σ : S0} (hT : c_T σ) (p1 : 0 ≤ n1) (p2 : n1 < 1500) (p3 : (σ.1 9) < 1500) (p4 : σ.2.1 13 n1 = 0 → σ.2.1 14 n1 < 29999 ∧ σ.2.1 14 n1 + 2 ≤ (σ.1 6)) (p5 : J_mk (σ.1 11) (σ.1 8) (σ.1 9) (σ.1 10) (σ.2.1 25)) (p6 : J_sc n1 (σ.1 9) (σ.2.1 13) (σ.2.1 14) (σ.2.1 15) (σ.2.1 16) (σ.2.1 22) (σ.2.1 19)) (p7 : J_ip n1 (σ.1 6) (σ.2.1 13 n1) (σ.2.1 14) (σ.2.1 15) (σ.2.1 16) (σ.2.1 19)) (p8 : (σ.1 7) = n1 + 1) (p9 : σ.2.1 14 (n1 + 1) = (σ.1 6)) (p10 : σ.2.1 13 n1 ≤ 1) : W_X9_addHypothesis n1 σ (fun (τ : S0) => (c_T τ) ∧ ((τ.1 9) = (σ.1 9) + 1) ∧ (τ.2.1 22 = st (σ.2.1 22) (σ.1 9) n1) ∧ (J_mk (τ.1 11) (τ.1 8) (τ.1 9) (τ.1 10) (τ.2.1 25)) ∧ (J_sc (τ.1 7) (τ.1 9) (τ.2.1 13) (τ.2.1 14) (τ.2.1 15) (τ.2.1 16) (τ.2.1 22) (τ.2.1 19))) := by
  have A13 : ∀ j, 0 ≤ σ.2.1 13 j ∧ σ.2.1 13 j ≤ 4 := fun j => hT.2 13 j
  have A14 : ∀ j, 0 ≤ σ.2.1 14 j ∧ σ.2.1 14 j ≤ 30000 := fun j => hT.2 14 j
  have A15 : ∀ j, 0 ≤ σ.2.1 15 j ∧ σ.2.1 15 j ≤ 999 := fun j => hT.2 15 j
  have A16 : ∀ j, (-1) ≤ σ.2.1 16 j ∧ σ.2.1 16 j ≤ 1499 := fun j => hT.2 16 j
  have A19 : ∀ j, (-1) ≤ σ.2.1 19 j ∧ σ.2.1 19 j ≤ 1499 := fun j => hT.2 19 j
  have A22 : ∀ j, 0 ≤ σ.2.1 22 j ∧ σ.2.1 22 j ≤ 1499 := fun j => hT.2 22 j
  have v6 : 0 ≤ σ.1 6 ∧ σ.1 6 ≤ 30000 := hT.1 6
  have v7 : 0 ≤ σ.1 7 ∧ σ.1 7 ≤ 1500 := hT.1 7
  have v8 : 0 ≤ σ.1 8 ∧ σ.1 8 ≤ 1000 := hT.1 8
  have v9 : 0 ≤ σ.1 9 ∧ σ.1 9 ≤ 1500 := hT.1 9
  have v10 : 0 ≤ σ.1 10 ∧ σ.1 10 ≤ 1000 := hT.1 10
  have v11 : 0 ≤ σ.1 11 ∧ σ.1 11 ≤ 50 := hT.1 11
  have W6 : σ.1 6 = σ.1 6 := rfl
  have W7 : σ.1 7 = σ.1 7 := rfl
  have W8 : σ.1 8 = σ.1 8 := rfl
  have W10 : σ.1 10 = σ.1 10 := rfl
  have W11 : σ.1 11 = σ.1 11 := rfl
  have G13 : σ.2.1 13 = σ.2.1 13 := rfl
  have G14 : σ.2.1 14 = σ.2.1 14 := rfl
  have G15 : σ.2.1 15 = σ.2.1 15 := rfl
  have G16 : σ.2.1 16 = σ.2.1 16 := rfl
  have G25 : σ.2.1 25 = σ.2.1 25 := rfl
  have hT0 := hT
  have t015 : ∀ p : Int, 0 ≤ σ.2.1 15 p ∧ σ.2.1 15 p < 1000 := fun p => ⟨(A15 p).1, by have := (A15 p).2; omega⟩
  have MK : J_mk (σ.1 11) (σ.1 8) (σ.1 9) (σ.1 10) (σ.2.1 25) := p5
  have MK_0 := MK
  unfold W_X9_addHypothesis
  refine ⟨(show 0 ≤ n1 ∧ n1 < 1500 from by (first | omega | (simp only [st_s] <;> omega) | assumption | omega | fail)), ?_⟩
  replace hT := cT_a (k := 21) (j := n1) hT (show (0 : Int) ≤ 1 ∧ 1 ≤ 1 from by (first | omega | (simp only [st_s] <;> omega) | assumption | omega | fail))
  refine ⟨(show 0 ≤ σ.1 9 ∧ σ.1 9 < 1500 from by (first | omega | (simp only [st_s] <;> omega) | assumption | omega | fail)), ?_⟩
  replace hT := cT_a (k := 22) (j := (σ.1 9)) hT (show (0 : Int) ≤ n1 ∧ n1 ≤ 1499 from by (first | omega | (simp only [st_s] <;> omega) | assumption | omega | fail))
  refine ⟨(⟨by (first | omega | (simp only [st_s] <;> omega) | assumption | omega | fail), by (first | omega | (simp only [st_s] <;> omega) | assumption | omega | fail)⟩ : rg (σ.1 9 + 1)), ?_⟩
  replace hT := cT_v (i := 9) hT (show 0 ≤ (σ.1 9 + 1) ∧ (σ.1 9 + 1) ≤ 1500 from by (first | omega | (simp only [st_s] <;> omega) | assumption | omega | fail))
  intro x4 r_x4 e_x4
  have b_x4 : 0 ≤ x4 ∧ x4 ≤ 4 := by rw [e_x4]; exact hT.2 13 _
  refine ⟨fun c5 => ?_, fun c5 => ?_⟩
  ·
    exact ⟨hT, (show ((σ.1 9 + 1)) = (σ.1 9) + 1 from by (first | omega | (simp only [st_s] <;> omega) | assumption | omega | fail)), (show (st (σ.2.1 22) (σ.1 9) n1) = st (σ.2.1 22) (σ.1 9) n1 from by rfl), (show J_mk (σ.1 11) (σ.1 8) ((σ.1 9 + 1)) (σ.1 10) (σ.2.1 25) from by exact J_mk_w MK_0 (by omega) (by omega) (by omega)), (show J_sc (σ.1 7) ((σ.1 9 + 1)) (σ.2.1 13) (σ.2.1 14) (σ.2.1 15) (σ.2.1 16) ((st (σ.2.1 22) (σ.1 9) n1)) (σ.2.1 19) from by (rw [p8]; first | exact J_sc_add p6 p10 p7 p9 (fun m => (hT0.2 22 m).1) p1 (by omega) t015 (fun z => (p4 z).2) (fun z => absurd z (by omega)) (fun _ => rfl) | exact J_sc_add p6 p10 p7 p9 (fun m => (hT0.2 22 m).1) p1 (by omega) t015 (fun z => (p4 z).2) (fun _ => by rw [← q6_1]) (fun z => absurd (by omega) z)))⟩
  ·
    refine ⟨_, K_X3_variableOf hT (show 0 ≤ n1 from by (first | omega | (simp only [st_s] <;> omega) | assumption | omega | fail)) (show n1 ≤ 1500 from by (first | omega | (simp only [st_s] <;> omega) | assumption | omega | fail)) (show σ.2.1 14 n1 < 29999 from by (first | omega | (simp only [st_s] <;> omega) | assumption | omega | fail)), ?_⟩
    intro x7 r_x7 hq
    obtain ⟨q6_1, q6_2⟩ := hq
    replace q6_1 : x7 = σ.2.1 15 (σ.2.1 14 n1 + 1) := q6_1
    replace q6_2 : 0 ≤ x7 ∧ x7 ≤ 999 := q6_2
    refine ⟨(show 0 ≤ x7 ∧ x7 < 1000 from by (first | omega | (simp only [st_s] <;> omega) | assumption | omega | fail)), ?_⟩
    replace hT := cT_a (k := 19) (j := x7) hT (show (-1 : Int) ≤ n1 ∧ n1 ≤ 1499 from by (first | omega | (simp only [st_s] <;> omega) | assumption | omega | fail))
    exact ⟨hT, (show ((σ.1 9 + 1)) = (σ.1 9) + 1 from by (first | omega | (simp only [st_s] <;> omega) | assumption | omega | fail)), (show (st (σ.2.1 22) (σ.1 9) n1) = st (σ.2.1 22) (σ.1 9) n1 from by rfl), (show J_mk (σ.1 11) (σ.1 8) ((σ.1 9 + 1)) (σ.1 10) (σ.2.1 25) from by exact J_mk_w MK_0 (by omega) (by omega) (by omega)), (show J_sc (σ.1 7) ((σ.1 9 + 1)) (σ.2.1 13) (σ.2.1 14) (σ.2.1 15) (σ.2.1 16) ((st (σ.2.1 22) (σ.1 9) n1)) ((st (σ.2.1 19) x7 n1)) from by (rw [p8]; first | exact J_sc_add p6 p10 p7 p9 (fun m => (hT0.2 22 m).1) p1 (by omega) t015 (fun z => (p4 z).2) (fun z => absurd z (by omega)) (fun _ => rfl) | exact J_sc_add p6 p10 p7 p9 (fun m => (hT0.2 22 m).1) p1 (by omega) t015 (fun z => (p4 z).2) (fun _ => by rw [← q6_1]) (fun z => absurd (by omega) z)))⟩
set_option maxHeartbeats 1000000 in
theorem K2_X9_keep {σ : S0} (hT : c_T σ) : W_X9_keep σ (fun (τ : S0) => (c_T τ) ∧ ((τ.1 11) = 0) ∧ (J_mk (τ.1 11) (τ.1 8) (τ.1 9) (τ.1 10) (τ.2.1 25)) ∧ (τ.2.1 25 0 = (σ.1 8)) ∧ (τ.2.1 25 1 = (σ.1 9)) ∧ (τ.2.1 25 2 = (σ.1 10))) := by
  have v8 : 0 ≤ σ.1 8 ∧ σ.1 8 ≤ 1000 := hT.1 8
  have v9 : 0 ≤ σ.1 9 ∧ σ.1 9 ≤ 1500 := hT.1 9
  have v10 : 0 ≤ σ.1 10 ∧ σ.1 10 ≤ 1000 := hT.1 10
  have v11 : 0 ≤ σ.1 11 ∧ σ.1 11 ≤ 50 := hT.1 11
  have W8 : σ.1 8 = σ.1 8 := rfl
  have W9 : σ.1 9 = σ.1 9 := rfl
  have W10 : σ.1 10 = σ.1 10 := rfl
  unfold W_X9_keep
  replace hT := cT_v (i := 11) hT (show (0 : Int) ≤ 0 ∧ 0 ≤ 50 from by (first | omega | (simp only [st_s] <;> omega) | assumption | omega | fail))
  refine ⟨_, K_X9_mark hT (show 0 ≤ ((0 : Int)) from by (first | omega | (simp only [st_s] <;> omega) | assumption | omega | fail)), ?_⟩
  intro τ3 hn_τ3 hf_τ3 hq
  obtain ⟨hT, q1_1⟩ := hq
  replace q1_1 : τ3.2.1 25 = st (st (st (σ.2.1 25) (3 * ((0 : Int))) (σ.1 8)) (3 * ((0 : Int)) + 1) (σ.1 9)) (3 * ((0 : Int)) + 2) (σ.1 10) := q1_1
  have w8_τ3 : τ3.1 8 = σ.1 8 := hf_τ3.1 8 (by decide)
  have w9_τ3 : τ3.1 9 = σ.1 9 := hf_τ3.1 9 (by decide)
  have w10_τ3 : τ3.1 10 = σ.1 10 := hf_τ3.1 10 (by decide)
  have w11_τ3 : τ3.1 11 = 0 := hf_τ3.1 11 (by decide)
  have W8 : τ3.1 8 = σ.1 8 := by first | exact w8_τ3.trans W8 | omega
  have W9 : τ3.1 9 = σ.1 9 := by first | exact w9_τ3.trans W9 | omega
  have W10 : τ3.1 10 = σ.1 10 := by first | exact w10_τ3.trans W10 | omega
  have v8 : 0 ≤ τ3.1 8 ∧ τ3.1 8 ≤ 1000 := hT.1 8
  have v9 : 0 ≤ τ3.1 9 ∧ τ3.1 9 ≤ 1500 := hT.1 9
  have v10 : 0 ≤ τ3.1 10 ∧ τ3.1 10 ≤ 1000 := hT.1 10
  have v11 : 0 ≤ τ3.1 11 ∧ τ3.1 11 ≤ 50 := hT.1 11
  exact ⟨hT, (show (τ3.1 11) = 0 from by (first | omega | (simp only [st_s] <;> omega) | assumption | omega | fail)), (show J_mk (τ3.1 11) (τ3.1 8) (τ3.1 9) (τ3.1 10) (τ3.2.1 25) from by (rw [q1_1, w11_τ3, w8_τ3, w9_τ3, w10_τ3]; exact J_mk_k)), (show τ3.2.1 25 0 = (σ.1 8) from by (rw [q1_1, st_n _ _ (by omega), st_n _ _ (by omega)]; exact st_s _ _ _)), (show τ3.2.1 25 1 = (σ.1 9) from by (rw [q1_1, st_n _ _ (by omega)]; exact st_s _ _ _)), (show τ3.2.1 25 2 = (σ.1 10) from by (rw [q1_1]; exact st_s _ _ _))⟩
set_option maxHeartbeats 1000000 in
theorem K2_X9_goBack {σ : S0} (hT : c_T σ) (p1 : J_hfa (σ.1 9) (σ.2.1 13) (σ.2.1 14) (σ.2.1 22)) (p2 : J_va (σ.1 8) 1000 (σ.2.1 18) (σ.2.1 20)) (p3 : J_mk (σ.1 11) (σ.1 8) (σ.1 9) (σ.1 10) (σ.2.1 25)) (p4 : J_sc 1500 (σ.1 9) (σ.2.1 13) (σ.2.1 14) (σ.2.1 15) (σ.2.1 16) (σ.2.1 22) (σ.2.1 19)) : W_X9_goBack σ (fun (τ : S0) => (c_T τ) ∧ ((τ.1 11) = 0) ∧ (J_va (τ.1 8) 1000 (τ.2.1 18) (τ.2.1 20)) ∧ (J_mk (τ.1 11) (τ.1 8) (τ.1 9) (τ.1 10) (τ.2.1 25)) ∧ ((τ.1 8) = σ.2.1 25 0) ∧ ((τ.1 9) = σ.2.1 25 1) ∧ ((τ.1 10) = σ.2.1 25 2) ∧ (J_sc 1500 (τ.1 9) (τ.2.1 13) (τ.2.1 14) (τ.2.1 15) (τ.2.1 16) (τ.2.1 22) (τ.2.1 19))) := by
  have A13 : ∀ j, 0 ≤ σ.2.1 13 j ∧ σ.2.1 13 j ≤ 4 := fun j => hT.2 13 j
  have A14 : ∀ j, 0 ≤ σ.2.1 14 j ∧ σ.2.1 14 j ≤ 30000 := fun j => hT.2 14 j
  have A15 : ∀ j, 0 ≤ σ.2.1 15 j ∧ σ.2.1 15 j ≤ 999 := fun j => hT.2 15 j
  have A16 : ∀ j, (-1) ≤ σ.2.1 16 j ∧ σ.2.1 16 j ≤ 1499 := fun j => hT.2 16 j
  have A18 : ∀ j, 0 ≤ σ.2.1 18 j ∧ σ.2.1 18 j ≤ 1 := fun j => hT.2 18 j
  have A19 : ∀ j, (-1) ≤ σ.2.1 19 j ∧ σ.2.1 19 j ≤ 1499 := fun j => hT.2 19 j
  have A20 : ∀ j, 0 ≤ σ.2.1 20 j ∧ σ.2.1 20 j ≤ 999 := fun j => hT.2 20 j
  have A22 : ∀ j, 0 ≤ σ.2.1 22 j ∧ σ.2.1 22 j ≤ 1499 := fun j => hT.2 22 j
  have v8 : 0 ≤ σ.1 8 ∧ σ.1 8 ≤ 1000 := hT.1 8
  have v9 : 0 ≤ σ.1 9 ∧ σ.1 9 ≤ 1500 := hT.1 9
  have v10 : 0 ≤ σ.1 10 ∧ σ.1 10 ≤ 1000 := hT.1 10
  have v11 : 0 ≤ σ.1 11 ∧ σ.1 11 ≤ 50 := hT.1 11
  have G13 : σ.2.1 13 = σ.2.1 13 := rfl
  have G14 : σ.2.1 14 = σ.2.1 14 := rfl
  have G15 : σ.2.1 15 = σ.2.1 15 := rfl
  have G16 : σ.2.1 16 = σ.2.1 16 := rfl
  have G20 : σ.2.1 20 = σ.2.1 20 := rfl
  have G22 : σ.2.1 22 = σ.2.1 22 := rfl
  have G25 : σ.2.1 25 = σ.2.1 25 := rfl
  have mk1 := p3.1 0 (σ.1 11) (by omega) (by omega) (by omega)
  have mk2 := p3.2
  have JF : J_hfa (σ.1 9) (σ.2.1 13) (σ.2.1 14) (σ.2.1 22) := p1
  have VA : J_va (σ.1 8) 1000 (σ.2.1 18) (σ.2.1 20) := p2
  have SX : J_sc 1500 (σ.1 9) (σ.2.1 13) (σ.2.1 14) (σ.2.1 15) (σ.2.1 16) (σ.2.1 22) (σ.2.1 19) := p4
  have MK : J_mk (σ.1 11) (σ.1 8) (σ.1 9) (σ.1 10) (σ.2.1 25) := p3
  have JF_0 := JF
  have MK_0 := MK
  have SX_0 := SX
  have VA_0 := VA
  unfold W_X9_goBack
  replace hT := cT_v (i := 11) hT (show (0 : Int) ≤ 0 ∧ 0 ≤ 50 from by (first | omega | (simp only [st_s] <;> omega) | assumption | omega | fail))
  refine ⟨_, K2_X9_cut hT (show J_hfa (σ.1 9) (σ.2.1 13) (σ.2.1 14) (σ.2.1 22) from JF) (show 0 ≤ ((0 : Int)) from by (first | omega | (simp only [st_s] <;> omega) | assumption | omega | fail)) (show J_va (σ.1 8) 1000 (σ.2.1 18) (σ.2.1 20) from VA) (show σ.2.1 25 (3 * ((0 : Int))) ≤ (σ.1 8) from by (first | omega | (simp only [st_s] <;> omega) | assumption | omega | fail)) (show J_sc 1500 (σ.1 9) (σ.2.1 13) (σ.2.1 14) (σ.2.1 15) (σ.2.1 16) (σ.2.1 22) (σ.2.1 19) from SX) (show σ.2.1 25 (3 * ((0 : Int)) + 1) ≤ (σ.1 9) from by (first | omega | (simp only [st_s] <;> omega) | assumption | omega | fail)), ?_⟩
  intro τ3 hn_τ3 hf_τ3 hq
  obtain ⟨hT, q1_1, q1_2, q1_3, q1_4, q1_5⟩ := hq
  replace q1_1 : (τ3.1 8) = σ.2.1 25 (3 * ((0 : Int))) := q1_1
  replace q1_2 : (τ3.1 9) = σ.2.1 25 (3 * ((0 : Int)) + 1) := q1_2
  replace q1_3 : (τ3.1 10) = σ.2.1 25 (3 * ((0 : Int)) + 2) := q1_3
  replace q1_4 : J_va (τ3.1 8) 1000 (τ3.2.1 18) (τ3.2.1 20) := q1_4
  replace q1_5 : J_sc 1500 (τ3.1 9) (τ3.2.1 13) (τ3.2.1 14) (τ3.2.1 15) (τ3.2.1 16) (τ3.2.1 22) (τ3.2.1 19) := q1_5
  have w11_τ3 : τ3.1 11 = 0 := hf_τ3.1 11 (by decide)
  have g13_τ3 : τ3.2.1 13 = σ.2.1 13 := hf_τ3.2.1 13 (by decide)
  have g14_τ3 : τ3.2.1 14 = σ.2.1 14 := hf_τ3.2.1 14 (by decide)
  have g15_τ3 : τ3.2.1 15 = σ.2.1 15 := hf_τ3.2.1 15 (by decide)
  have g16_τ3 : τ3.2.1 16 = σ.2.1 16 := hf_τ3.2.1 16 (by decide)
  have g20_τ3 : τ3.2.1 20 = σ.2.1 20 := hf_τ3.2.1 20 (by decide)
  have g22_τ3 : τ3.2.1 22 = σ.2.1 22 := hf_τ3.2.1 22 (by decide)
  have g25_τ3 : τ3.2.1 25 = σ.2.1 25 := hf_τ3.2.1 25 (by decide)
  have G13 : τ3.2.1 13 = σ.2.1 13 := (g13_τ3).trans G13
  have G14 : τ3.2.1 14 = σ.2.1 14 := (g14_τ3).trans G14
  have G15 : τ3.2.1 15 = σ.2.1 15 := (g15_τ3).trans G15
  have G16 : τ3.2.1 16 = σ.2.1 16 := (g16_τ3).trans G16
  have G20 : τ3.2.1 20 = σ.2.1 20 := (g20_τ3).trans G20
  have G22 : τ3.2.1 22 = σ.2.1 22 := (g22_τ3).trans G22
  have G25 : τ3.2.1 25 = σ.2.1 25 := (g25_τ3).trans G25
  have VA : J_va (τ3.1 8) 1000 (τ3.2.1 18) (τ3.2.1 20) := q1_4
  have SX : J_sc 1500 (τ3.1 9) (τ3.2.1 13) (τ3.2.1 14) (τ3.2.1 15) (τ3.2.1 16) (τ3.2.1 22) (τ3.2.1 19) := q1_5
  have A13 : ∀ j, 0 ≤ τ3.2.1 13 j ∧ τ3.2.1 13 j ≤ 4 := fun j => hT.2 13 j
  have A14 : ∀ j, 0 ≤ τ3.2.1 14 j ∧ τ3.2.1 14 j ≤ 30000 := fun j => hT.2 14 j
  have A15 : ∀ j, 0 ≤ τ3.2.1 15 j ∧ τ3.2.1 15 j ≤ 999 := fun j => hT.2 15 j
  have A16 : ∀ j, (-1) ≤ τ3.2.1 16 j ∧ τ3.2.1 16 j ≤ 1499 := fun j => hT.2 16 j
  have A18 : ∀ j, 0 ≤ τ3.2.1 18 j ∧ τ3.2.1 18 j ≤ 1 := fun j => hT.2 18 j
  have A19 : ∀ j, (-1) ≤ τ3.2.1 19 j ∧ τ3.2.1 19 j ≤ 1499 := fun j => hT.2 19 j
  have A20 : ∀ j, 0 ≤ τ3.2.1 20 j ∧ τ3.2.1 20 j ≤ 999 := fun j => hT.2 20 j
  have A22 : ∀ j, 0 ≤ τ3.2.1 22 j ∧ τ3.2.1 22 j ≤ 1499 := fun j => hT.2 22 j
  have v8 : 0 ≤ τ3.1 8 ∧ τ3.1 8 ≤ 1000 := hT.1 8
  have v9 : 0 ≤ τ3.1 9 ∧ τ3.1 9 ≤ 1500 := hT.1 9
  have v10 : 0 ≤ τ3.1 10 ∧ τ3.1 10 ≤ 1000 := hT.1 10
  have v11 : 0 ≤ τ3.1 11 ∧ τ3.1 11 ≤ 50 := hT.1 11
  exact ⟨hT, (show (τ3.1 11) = 0 from by (first | omega | (simp only [st_s] <;> omega) | assumption | omega | fail)), (show J_va (τ3.1 8) 1000 (τ3.2.1 18) (τ3.2.1 20) from VA), (show J_mk (τ3.1 11) (τ3.1 8) (τ3.1 9) (τ3.1 10) (τ3.2.1 25) from by (rw [g25_τ3, q1_1, q1_2, q1_3, w11_τ3]; exact J_mk_b MK_0 (by omega))), (show (τ3.1 8) = σ.2.1 25 0 from by (first | omega | (simp only [st_s] <;> omega) | assumption | omega | fail)), (show (τ3.1 9) = σ.2.1 25 1 from by (first | omega | (simp only [st_s] <;> omega) | assumption | omega | fail)), (show (τ3.1 10) = σ.2.1 25 2 from by (first | omega | (simp only [st_s] <;> omega) | assumption | omega | fail)), (show J_sc 1500 (τ3.1 9) (τ3.2.1 13) (τ3.2.1 14) (τ3.2.1 15) (τ3.2.1 16) (τ3.2.1 22) (τ3.2.1 19) from SX)⟩
