-- pure: a rule of the model becomes nodes
set_option maxHeartbeats 6000000 in
theorem K_X13_treeRule {n1 : Int} {σ : S0} (hT : m_T σ) (p1 : 0 ≤ n1) (p2 : n1 < (σ.1 5)) (p3 : y_RN σ n1) (p4 : y_TT σ σ n1 n1) (p5 : (σ.1 47) ≤ 1 + σ.2.1 14 n1) (p6 : m_J σ) : W_X13_treeRule n1 σ (fun (τ : S0) => (m_T τ) ∧ (y_TT σ τ (n1 + 1) (n1 + 1)) ∧ ((τ.1 47) ≤ 1 + σ.2.1 14 n1 + σ.2.1 15 n1)) := by
  have A8 : ∀ j, 0 ≤ σ.2.1 8 j ∧ σ.2.1 8 j ≤ 1 := fun j => hT.2 8 j
  have A10 : ∀ j, (-1) ≤ σ.2.1 10 j ∧ σ.2.1 10 j ≤ 999 := fun j => hT.2 10 j
  have A14 : ∀ j, 0 ≤ σ.2.1 14 j ∧ σ.2.1 14 j ≤ 30000 := fun j => hT.2 14 j
  have A15 : ∀ j, 0 ≤ σ.2.1 15 j ∧ σ.2.1 15 j ≤ 300 := fun j => hT.2 15 j
  have A16 : ∀ j, 0 ≤ σ.2.1 16 j ∧ σ.2.1 16 j ≤ 999 := fun j => hT.2 16 j
  have A77 : ∀ j, (-1001) ≤ σ.2.1 77 j ∧ σ.2.1 77 j ≤ 999 := fun j => hT.2 77 j
  have A78 : ∀ j, (-1) ≤ σ.2.1 78 j ∧ σ.2.1 78 j ≤ 30001 := fun j => hT.2 78 j
  have A79 : ∀ j, (-1) ≤ σ.2.1 79 j ∧ σ.2.1 79 j ≤ 30001 := fun j => hT.2 79 j
  have A80 : ∀ j, (-1) ≤ σ.2.1 80 j ∧ σ.2.1 80 j ≤ 30001 := fun j => hT.2 80 j
  have A81 : ∀ j, 0 ≤ σ.2.1 81 j ∧ σ.2.1 81 j ≤ 1500 := fun j => hT.2 81 j
  have A82 : ∀ j, 0 ≤ σ.2.1 82 j ∧ σ.2.1 82 j ≤ 1500 := fun j => hT.2 82 j
  have A83 : ∀ j, 0 ≤ σ.2.1 83 j ∧ σ.2.1 83 j ≤ 1500 := fun j => hT.2 83 j
  have v5 : 0 ≤ σ.1 5 ∧ σ.1 5 ≤ 1500 := hT.1 5
  have v6 : 0 ≤ σ.1 6 ∧ σ.1 6 ≤ 30000 := hT.1 6
  have v47 : 0 ≤ σ.1 47 ∧ σ.1 47 ≤ 30001 := hT.1 47
  have W5 : σ.1 5 = σ.1 5 := rfl
  have W6 : σ.1 6 = σ.1 6 := rfl
  have G8 : σ.2.1 8 = σ.2.1 8 := rfl
  have G10 : σ.2.1 10 = σ.2.1 10 := rfl
  have G14 : σ.2.1 14 = σ.2.1 14 := rfl
  have G15 : σ.2.1 15 = σ.2.1 15 := rfl
  have G16 : σ.2.1 16 = σ.2.1 16 := rfl
  intro P42 P52 P104 P133 h42 h52 h104 h133
  have mm1 := (p6 n1 p1 p2).1.1
  have a14 := A14 n1
  have a15 := A15 n1
  have ts2 := p3.1.1.1.2.1
  have nn1 : y_nn σ n1 = σ.2.1 15 n1 - 1 := rfl
  obtain ⟨⟨tt1, tt2⟩, tt3, tt4⟩ := p4
  have l_52 : ∀ (m_52 : Nat) (u2_52 : Int) (u3_52 : Int) (τ_52 : S0), 30401 - u3_52 < (m_52 : Int) → (m_T τ_52) → (τ_52.1 5 = σ.1 5) → (τ_52.1 6 = σ.1 6) → (τ_52.2.1 8 = σ.2.1 8) → (τ_52.2.1 10 = σ.2.1 10) → (τ_52.2.1 14 = σ.2.1 14) → (τ_52.2.1 15 = σ.2.1 15) → (τ_52.2.1 16 = σ.2.1 16) → (σ.2.1 14 n1 + 1 ≤ u3_52) → (u3_52 ≤ σ.2.1 14 n1 + σ.2.1 15 n1) → (y_TT σ τ_52 (n1 + 1) (n1)) → (1 ≤ u2_52 ∧ u2_52 < (τ_52.1 47)) → (y_pt (τ_52.2.1 78) (τ_52.2.1 77) (y_hd σ n1) (y_f σ n1) (u3_52 - σ.2.1 14 n1 - 1).toNat u2_52) → (τ_52.2.1 83 u2_52 ≤ n1) → ((τ_52.1 47) ≤ 1 + u3_52) → P52 n1 u2_52 u3_52 τ_52 := by
    intro m_52
    induction m_52 with
    | zero =>
      intro u2_52 u3_52 τ_52 hm hT W5 W6 G8 G10 G14 G15 G16 i52_1 i52_2 i52_3 i52_4 i52_5 i52_6 i52_7
      have A8 : ∀ j, 0 ≤ τ_52.2.1 8 j ∧ τ_52.2.1 8 j ≤ 1 := fun j => hT.2 8 j
      have A10 : ∀ j, (-1) ≤ τ_52.2.1 10 j ∧ τ_52.2.1 10 j ≤ 999 := fun j => hT.2 10 j
      have A14 : ∀ j, 0 ≤ τ_52.2.1 14 j ∧ τ_52.2.1 14 j ≤ 30000 := fun j => hT.2 14 j
      have A15 : ∀ j, 0 ≤ τ_52.2.1 15 j ∧ τ_52.2.1 15 j ≤ 300 := fun j => hT.2 15 j
      have A16 : ∀ j, 0 ≤ τ_52.2.1 16 j ∧ τ_52.2.1 16 j ≤ 999 := fun j => hT.2 16 j
      have A77 : ∀ j, (-1001) ≤ τ_52.2.1 77 j ∧ τ_52.2.1 77 j ≤ 999 := fun j => hT.2 77 j
      have A78 : ∀ j, (-1) ≤ τ_52.2.1 78 j ∧ τ_52.2.1 78 j ≤ 30001 := fun j => hT.2 78 j
      have A79 : ∀ j, (-1) ≤ τ_52.2.1 79 j ∧ τ_52.2.1 79 j ≤ 30001 := fun j => hT.2 79 j
      have A80 : ∀ j, (-1) ≤ τ_52.2.1 80 j ∧ τ_52.2.1 80 j ≤ 30001 := fun j => hT.2 80 j
      have A81 : ∀ j, 0 ≤ τ_52.2.1 81 j ∧ τ_52.2.1 81 j ≤ 1500 := fun j => hT.2 81 j
      have A82 : ∀ j, 0 ≤ τ_52.2.1 82 j ∧ τ_52.2.1 82 j ≤ 1500 := fun j => hT.2 82 j
      have A83 : ∀ j, 0 ≤ τ_52.2.1 83 j ∧ τ_52.2.1 83 j ≤ 1500 := fun j => hT.2 83 j
      have v5 : 0 ≤ τ_52.1 5 ∧ τ_52.1 5 ≤ 1500 := hT.1 5
      have v6 : 0 ≤ τ_52.1 6 ∧ τ_52.1 6 ≤ 30000 := hT.1 6
      have v47 : 0 ≤ τ_52.1 47 ∧ τ_52.1 47 ≤ 30001 := hT.1 47
      exfalso; (first | omega | (simp only [st_s] <;> omega) | assumption | omega | fail)
    | succ m_52 ih_52 =>
      intro u2_52 u3_52 τ_52 hm_52 hT W5 W6 G8 G10 G14 G15 G16 i52_1 i52_2 i52_3 i52_4 i52_5 i52_6 i52_7
      have A8 : ∀ j, 0 ≤ τ_52.2.1 8 j ∧ τ_52.2.1 8 j ≤ 1 := fun j => hT.2 8 j
      have A10 : ∀ j, (-1) ≤ τ_52.2.1 10 j ∧ τ_52.2.1 10 j ≤ 999 := fun j => hT.2 10 j
      have A14 : ∀ j, 0 ≤ τ_52.2.1 14 j ∧ τ_52.2.1 14 j ≤ 30000 := fun j => hT.2 14 j
      have A15 : ∀ j, 0 ≤ τ_52.2.1 15 j ∧ τ_52.2.1 15 j ≤ 300 := fun j => hT.2 15 j
      have A16 : ∀ j, 0 ≤ τ_52.2.1 16 j ∧ τ_52.2.1 16 j ≤ 999 := fun j => hT.2 16 j
      have A77 : ∀ j, (-1001) ≤ τ_52.2.1 77 j ∧ τ_52.2.1 77 j ≤ 999 := fun j => hT.2 77 j
      have A78 : ∀ j, (-1) ≤ τ_52.2.1 78 j ∧ τ_52.2.1 78 j ≤ 30001 := fun j => hT.2 78 j
      have A79 : ∀ j, (-1) ≤ τ_52.2.1 79 j ∧ τ_52.2.1 79 j ≤ 30001 := fun j => hT.2 79 j
      have A80 : ∀ j, (-1) ≤ τ_52.2.1 80 j ∧ τ_52.2.1 80 j ≤ 30001 := fun j => hT.2 80 j
      have A81 : ∀ j, 0 ≤ τ_52.2.1 81 j ∧ τ_52.2.1 81 j ≤ 1500 := fun j => hT.2 81 j
      have A82 : ∀ j, 0 ≤ τ_52.2.1 82 j ∧ τ_52.2.1 82 j ≤ 1500 := fun j => hT.2 82 j
      have A83 : ∀ j, 0 ≤ τ_52.2.1 83 j ∧ τ_52.2.1 83 j ≤ 1500 := fun j => hT.2 83 j
      have v5 : 0 ≤ τ_52.1 5 ∧ τ_52.1 5 ≤ 1500 := hT.1 5
      have v6 : 0 ≤ τ_52.1 6 ∧ τ_52.1 6 ≤ 30000 := hT.1 6
      have v47 : 0 ≤ τ_52.1 47 ∧ τ_52.1 47 ≤ 30001 := hT.1 47
      obtain ⟨⟨tt1, tt2⟩, tt3, tt4⟩ := i52_3
      have fk : y_f σ n1 (((u3_52 - σ.2.1 14 n1 - 1).toNat : Int) + 1) = (if σ.2.1 8 (σ.2.1 16 u3_52) = 0 then σ.2.1 16 u3_52 else -2 - σ.2.1 10 (σ.2.1 16 u3_52)) := by (unfold y_f; rw [show σ.2.1 14 n1 + (((u3_52 - σ.2.1 14 n1 - 1).toNat : Int) + 1) = u3_52 from by omega])
      refine h52 n1 u2_52 u3_52 τ_52 ?_
      refine ⟨(show 0 ≤ n1 ∧ n1 < 1501 from by (first | omega | (simp only [st_s] <;> omega) | assumption | omega | fail)), ?_⟩
      intro x17 r_x17 e_x17
      have b_x17 : 0 ≤ x17 ∧ x17 ≤ 30000 := by rw [e_x17]; exact hT.2 14 _
      rw [G14] at e_x17
      intro x18 r_x18 e_x18
      have b_x18 : 0 ≤ x18 ∧ x18 ≤ 300 := by rw [e_x18]; exact hT.2 15 _
      rw [G15] at e_x18
      refine ⟨(⟨by (first | omega | (simp only [st_s] <;> omega) | assumption | omega | fail), by (first | omega | (simp only [st_s] <;> omega) | assumption | omega | fail)⟩ : rg (x17 + x18)), ?_⟩
      refine ⟨fun c20 => ?_, fun c20 => ?_⟩
      ·
        refine ⟨(show 0 ≤ u2_52 ∧ u2_52 < 30002 from by (first | omega | (simp only [st_s] <;> omega) | assumption | omega | fail)), ?_⟩
        intro x22 r_x22 e_x22
        have b_x22 : 0 ≤ x22 ∧ x22 ≤ 1500 := by rw [e_x22]; exact hT.2 81 _
        have f22 := hT.2 81 u2_52
        have o22 := hT.2 82 u2_52
        have f22 : τ_52.2.1 81 u2_52 ≤ 1500 := f22.2
        have o22 : τ_52.2.1 82 u2_52 ≤ 1500 := o22.2
        have hpz : y_pt (τ_52.2.1 78) (τ_52.2.1 77) (y_hd σ n1) (y_f σ n1) (y_nn σ n1).toNat u2_52 := by (have w := i52_5; rw [show u3_52 - σ.2.1 14 n1 - 1 = y_nn σ n1 from by omega] at w; exact w)
        have yz := fun (fi2 ot2 : Int → Int) hc => y_T_z (fi' := fi2) (ot' := ot2) tt1 p1 (by omega) p3 hpz i52_4.1 i52_4.2 i52_6 f22 o22 hc
        have yf := fun (fi2 ot2 : Int → Int) hc => y_Tf_z (fi' := fi2) (ot' := ot2) tt1 tt4 i52_6 hc
        refine ⟨fun c23 => ?_, fun c23 => ?_⟩
        ·
          intro x24 r_x24 e_x24
          have b_x24 : 0 ≤ x24 ∧ x24 ≤ 1500 := by rw [e_x24]; exact hT.2 82 _
          refine ⟨fun c25 => ?_, fun c25 => ?_⟩
          ·
            exact ⟨hT, (show y_TT σ τ_52 (n1 + 1) (n1 + 1) from by (first | exact ⟨⟨yz _ _ (Or.inr (Or.inr ⟨by omega, by omega, rfl, rfl⟩)), tt2⟩, tt3, yf _ (τ_52.2.1 82) (Or.inr (Or.inr ⟨by omega, by omega, rfl, rfl⟩))⟩ | exact ⟨⟨yz _ _ (Or.inr (Or.inr ⟨by omega, by omega, rfl, rfl⟩)), tt2⟩, tt3, yf _ (st (τ_52.2.1 82) u2_52 n1) (Or.inr (Or.inr ⟨by omega, by omega, rfl, rfl⟩))⟩ | exact ⟨⟨yz _ _ (Or.inr (Or.inl ⟨by omega, by omega, rfl, rfl⟩)), tt2⟩, tt3, yf _ (τ_52.2.1 82) (Or.inr (Or.inl ⟨by omega, by omega, rfl, rfl⟩))⟩ | exact ⟨⟨yz _ _ (Or.inr (Or.inl ⟨by omega, by omega, rfl, rfl⟩)), tt2⟩, tt3, yf _ (st (τ_52.2.1 82) u2_52 n1) (Or.inr (Or.inl ⟨by omega, by omega, rfl, rfl⟩))⟩ | exact ⟨⟨yz _ _ (Or.inl ⟨by omega, rfl, rfl⟩), tt2⟩, tt3, yf _ (τ_52.2.1 82) (Or.inl ⟨by omega, rfl, rfl⟩)⟩ | exact ⟨⟨yz _ _ (Or.inl ⟨by omega, rfl, rfl⟩), tt2⟩, tt3, yf _ (st (τ_52.2.1 82) u2_52 n1) (Or.inl ⟨by omega, rfl, rfl⟩)⟩ | fail)), (show (τ_52.1 47) ≤ 1 + σ.2.1 14 n1 + σ.2.1 15 n1 from by (first | omega | (simp only [st_s] <;> omega) | assumption | omega | fail))⟩
          ·
            replace hT := mT_a (k := 82) (j := u2_52) hT (show (0 : Int) ≤ n1 ∧ n1 ≤ 1500 from by (first | omega | (simp only [st_s] <;> omega) | assumption | omega | fail))
            exact ⟨hT, (show y_TT σ (s_a τ_52 82 u2_52 n1) (n1 + 1) (n1 + 1) from by (first | exact ⟨⟨yz _ _ (Or.inr (Or.inr ⟨by omega, by omega, rfl, rfl⟩)), tt2⟩, tt3, yf _ (τ_52.2.1 82) (Or.inr (Or.inr ⟨by omega, by omega, rfl, rfl⟩))⟩ | exact ⟨⟨yz _ _ (Or.inr (Or.inr ⟨by omega, by omega, rfl, rfl⟩)), tt2⟩, tt3, yf _ (st (τ_52.2.1 82) u2_52 n1) (Or.inr (Or.inr ⟨by omega, by omega, rfl, rfl⟩))⟩ | exact ⟨⟨yz _ _ (Or.inr (Or.inl ⟨by omega, by omega, rfl, rfl⟩)), tt2⟩, tt3, yf _ (τ_52.2.1 82) (Or.inr (Or.inl ⟨by omega, by omega, rfl, rfl⟩))⟩ | exact ⟨⟨yz _ _ (Or.inr (Or.inl ⟨by omega, by omega, rfl, rfl⟩)), tt2⟩, tt3, yf _ (st (τ_52.2.1 82) u2_52 n1) (Or.inr (Or.inl ⟨by omega, by omega, rfl, rfl⟩))⟩ | exact ⟨⟨yz _ _ (Or.inl ⟨by omega, rfl, rfl⟩), tt2⟩, tt3, yf _ (τ_52.2.1 82) (Or.inl ⟨by omega, rfl, rfl⟩)⟩ | exact ⟨⟨yz _ _ (Or.inl ⟨by omega, rfl, rfl⟩), tt2⟩, tt3, yf _ (st (τ_52.2.1 82) u2_52 n1) (Or.inl ⟨by omega, rfl, rfl⟩)⟩ | fail)), (show (τ_52.1 47) ≤ 1 + σ.2.1 14 n1 + σ.2.1 15 n1 from by (first | omega | (simp only [st_s] <;> omega) | assumption | omega | fail))⟩
        ·
          replace hT := mT_a (k := 81) (j := u2_52) hT (show (0 : Int) ≤ n1 ∧ n1 ≤ 1500 from by (first | omega | (simp only [st_s] <;> omega) | assumption | omega | fail))
          exact ⟨hT, (show y_TT σ (s_a τ_52 81 u2_52 n1) (n1 + 1) (n1 + 1) from by (first | exact ⟨⟨yz _ _ (Or.inr (Or.inr ⟨by omega, by omega, rfl, rfl⟩)), tt2⟩, tt3, yf _ (τ_52.2.1 82) (Or.inr (Or.inr ⟨by omega, by omega, rfl, rfl⟩))⟩ | exact ⟨⟨yz _ _ (Or.inr (Or.inr ⟨by omega, by omega, rfl, rfl⟩)), tt2⟩, tt3, yf _ (st (τ_52.2.1 82) u2_52 n1) (Or.inr (Or.inr ⟨by omega, by omega, rfl, rfl⟩))⟩ | exact ⟨⟨yz _ _ (Or.inr (Or.inl ⟨by omega, by omega, rfl, rfl⟩)), tt2⟩, tt3, yf _ (τ_52.2.1 82) (Or.inr (Or.inl ⟨by omega, by omega, rfl, rfl⟩))⟩ | exact ⟨⟨yz _ _ (Or.inr (Or.inl ⟨by omega, by omega, rfl, rfl⟩)), tt2⟩, tt3, yf _ (st (τ_52.2.1 82) u2_52 n1) (Or.inr (Or.inl ⟨by omega, by omega, rfl, rfl⟩))⟩ | exact ⟨⟨yz _ _ (Or.inl ⟨by omega, rfl, rfl⟩), tt2⟩, tt3, yf _ (τ_52.2.1 82) (Or.inl ⟨by omega, rfl, rfl⟩)⟩ | exact ⟨⟨yz _ _ (Or.inl ⟨by omega, rfl, rfl⟩), tt2⟩, tt3, yf _ (st (τ_52.2.1 82) u2_52 n1) (Or.inl ⟨by omega, rfl, rfl⟩)⟩ | fail)), (show (τ_52.1 47) ≤ 1 + σ.2.1 14 n1 + σ.2.1 15 n1 from by (first | omega | (simp only [st_s] <;> omega) | assumption | omega | fail))⟩
      ·
        refine ⟨(show 0 ≤ u3_52 ∧ u3_52 < 30400 from by (first | omega | (simp only [st_s] <;> omega) | assumption | omega | fail)), ?_⟩
        intro x27 r_x27 e_x27
        have b_x27 : 0 ≤ x27 ∧ x27 ≤ 999 := by rw [e_x27]; exact hT.2 16 _
        rw [G16] at e_x27
        refine ⟨(show 0 ≤ x27 ∧ x27 < 1001 from by (first | omega | (simp only [st_s] <;> omega) | assumption | omega | fail)), ?_⟩
        intro x29 r_x29 e_x29
        have b_x29 : 0 ≤ x29 ∧ x29 ≤ 1 := by rw [e_x29]; exact hT.2 8 _
        rw [G8] at e_x29
        refine ⟨fun c30 => ?_, fun c30 => ?_⟩
        ·
          refine h104 _ _ _ _ _ ?_
          refine ⟨_, K_X13_stepBelow hT (show (τ_52.1 47) ≤ 30000 from by (first | omega | (simp only [st_s] <;> omega) | assumption | omega | fail)) (show 0 ≤ u2_52 from by (first | omega | (simp only [st_s] <;> omega) | assumption | omega | fail)) (show u2_52 < (τ_52.1 47) from by (first | omega | (simp only [st_s] <;> omega) | assumption | omega | fail)) (show -1001 ≤ x27 from by (first | omega | (simp only [st_s] <;> omega) | assumption | omega | fail)) (show x27 ≤ 999 from by (first | omega | (simp only [st_s] <;> omega) | assumption | omega | fail)) (show y_K (τ_52.1 47) (τ_52.2.1 78) (τ_52.2.1 79) (τ_52.2.1 80) from by exact tt2) (show ∀ y : Int, 1 ≤ y → y < (τ_52.1 47) → 0 ≤ τ_52.2.1 78 y ∧ τ_52.2.1 78 y < y from by exact tt1.1), ?_⟩
          intro x34 τ35 r_x34 hn_τ35 hf_τ35 hq
          obtain ⟨hT, q33_1, q33_2, q33_3, q33_4⟩ := hq
          replace q33_1 : y_Sb u2_52 x27 (τ_52.1 47) (τ35.1 47) x34 (τ_52.2.1 78) (τ_52.2.1 77) (τ_52.2.1 81) (τ_52.2.1 82) (τ_52.2.1 83) (τ35.2.1 78) (τ35.2.1 77) (τ35.2.1 81) (τ35.2.1 82) (τ35.2.1 83) := q33_1
          replace q33_2 : y_K (τ35.1 47) (τ35.2.1 78) (τ35.2.1 79) (τ35.2.1 80) := q33_2
          replace q33_3 : 1 ≤ x34 ∧ x34 < (τ35.1 47) := q33_3
          replace q33_4 : (τ35.1 47) ≤ (τ_52.1 47) + 1 := q33_4
          have w5_τ35 : τ35.1 5 = τ_52.1 5 := hf_τ35.1 5 (by decide)
          have w6_τ35 : τ35.1 6 = τ_52.1 6 := hf_τ35.1 6 (by decide)
          have g8_τ35 : τ35.2.1 8 = τ_52.2.1 8 := hf_τ35.2.1 8 (by decide)
          have g10_τ35 : τ35.2.1 10 = τ_52.2.1 10 := hf_τ35.2.1 10 (by decide)
          have g14_τ35 : τ35.2.1 14 = τ_52.2.1 14 := hf_τ35.2.1 14 (by decide)
          have g15_τ35 : τ35.2.1 15 = τ_52.2.1 15 := hf_τ35.2.1 15 (by decide)
          have g16_τ35 : τ35.2.1 16 = τ_52.2.1 16 := hf_τ35.2.1 16 (by decide)
          have W5 : τ35.1 5 = σ.1 5 := by first | exact w5_τ35.trans W5 | omega
          have W6 : τ35.1 6 = σ.1 6 := by first | exact w6_τ35.trans W6 | omega
          have G8 : τ35.2.1 8 = σ.2.1 8 := (g8_τ35).trans G8
          have G10 : τ35.2.1 10 = σ.2.1 10 := (g10_τ35).trans G10
          have G14 : τ35.2.1 14 = σ.2.1 14 := (g14_τ35).trans G14
          have G15 : τ35.2.1 15 = σ.2.1 15 := (g15_τ35).trans G15
          have G16 : τ35.2.1 16 = σ.2.1 16 := (g16_τ35).trans G16
          have A8 : ∀ j, 0 ≤ τ35.2.1 8 j ∧ τ35.2.1 8 j ≤ 1 := fun j => hT.2 8 j
          have A10 : ∀ j, (-1) ≤ τ35.2.1 10 j ∧ τ35.2.1 10 j ≤ 999 := fun j => hT.2 10 j
          have A14 : ∀ j, 0 ≤ τ35.2.1 14 j ∧ τ35.2.1 14 j ≤ 30000 := fun j => hT.2 14 j
          have A15 : ∀ j, 0 ≤ τ35.2.1 15 j ∧ τ35.2.1 15 j ≤ 300 := fun j => hT.2 15 j
          have A16 : ∀ j, 0 ≤ τ35.2.1 16 j ∧ τ35.2.1 16 j ≤ 999 := fun j => hT.2 16 j
          have A77 : ∀ j, (-1001) ≤ τ35.2.1 77 j ∧ τ35.2.1 77 j ≤ 999 := fun j => hT.2 77 j
          have A78 : ∀ j, (-1) ≤ τ35.2.1 78 j ∧ τ35.2.1 78 j ≤ 30001 := fun j => hT.2 78 j
          have A79 : ∀ j, (-1) ≤ τ35.2.1 79 j ∧ τ35.2.1 79 j ≤ 30001 := fun j => hT.2 79 j
          have A80 : ∀ j, (-1) ≤ τ35.2.1 80 j ∧ τ35.2.1 80 j ≤ 30001 := fun j => hT.2 80 j
          have A81 : ∀ j, 0 ≤ τ35.2.1 81 j ∧ τ35.2.1 81 j ≤ 1500 := fun j => hT.2 81 j
          have A82 : ∀ j, 0 ≤ τ35.2.1 82 j ∧ τ35.2.1 82 j ≤ 1500 := fun j => hT.2 82 j
          have A83 : ∀ j, 0 ≤ τ35.2.1 83 j ∧ τ35.2.1 83 j ≤ 1500 := fun j => hT.2 83 j
          have v5 : 0 ≤ τ35.1 5 ∧ τ35.1 5 ≤ 1500 := hT.1 5
          have v6 : 0 ≤ τ35.1 6 ∧ τ35.1 6 ≤ 30000 := hT.1 6
          have v47 : 0 ≤ τ35.1 47 ∧ τ35.1 47 ≤ 30001 := hT.1 47
          have t35 : 1 ≤ τ35.1 47 := by omega
          have hk2 : x27 = y_f σ n1 ((((u3_52 - σ.2.1 14 n1 - 1).toNat : Nat) : Int) + 1) := by (rw [fk, ← e_x27, ← e_x29]; first | (rw [if_pos (by assumption)]) | (rw [if_neg (by assumption), ← e_x31]))
          have ts33 : ∀ y : Int, ((τ35.2.1 83 x34 ≤ n1 ∧ y = τ35.2.1 83 x34) ∨ (n1 < τ35.2.1 83 x34 ∧ y = n1)) → _ := fun y hy => y_T_s (y := y) (R := y_RN σ) (hd := y_hd σ) (nn := y_nn σ) (f := y_f σ) tt1 q33_1 tt3 (by omega) p1 (by omega) (Int.le_refl _) p3 ((u3_52 - σ.2.1 14 n1 - 1).toNat + 1) (by omega) (by omega) (by omega) (fun z => by omega) (Or.inr ⟨(u3_52 - σ.2.1 14 n1 - 1).toNat, rfl, i52_5, hk2⟩) hy tt4
          refine ⟨(show 0 ≤ x34 ∧ x34 < 30002 from by (first | omega | (simp only [st_s] <;> omega) | assumption | omega | fail)), ?_⟩
          intro x37 r_x37 e_x37
          have b_x37 : 0 ≤ x37 ∧ x37 ≤ 1500 := by rw [e_x37]; exact hT.2 83 _
          refine ⟨fun c38 => ?_, fun c38 => ?_⟩
          ·
            intro x39 r_x39 e_x39
            have b_x39 : 0 ≤ x39 ∧ x39 ≤ 1500 := by rw [e_x39]; exact hT.2 83 _
            refine h133 _ _ _ _ _ _ ?_
            refine ⟨(show 0 ≤ x34 ∧ x34 < 30002 from by (first | omega | (simp only [st_s] <;> omega) | assumption | omega | fail)), ?_⟩
            replace hT := mT_a (k := 83) (j := x34) hT (show (0 : Int) ≤ x39 ∧ x39 ≤ 1500 from by (first | omega | (simp only [st_s] <;> omega) | assumption | omega | fail))
            refine ⟨(⟨by (first | omega | (simp only [st_s] <;> omega) | assumption | omega | fail), by (first | omega | (simp only [st_s] <;> omega) | assumption | omega | fail)⟩ : rg (u3_52 + 1)), ?_⟩
            exact ih_52 _ _ _ (show (30401 - (u3_52 + 1) : Int) < ((m_52 : Nat) : Int) from by ((first | omega | (simp only [st_s] <;> omega) | assumption | omega | fail))) hT (show τ35.1 5 = σ.1 5 from by first | exact W5 | omega) (show τ35.1 6 = σ.1 6 from by first | exact W6 | omega) G8 G10 G14 G15 G16 (show σ.2.1 14 n1 + 1 ≤ (u3_52 + 1) from by (first | omega | (simp only [st_s] <;> omega) | assumption | omega | fail)) (show (u3_52 + 1) ≤ σ.2.1 14 n1 + σ.2.1 15 n1 from by (first | omega | (simp only [st_s] <;> omega) | assumption | omega | fail)) (show y_TT σ (s_a τ35 83 x34 x39) (n1 + 1) (n1) from by (first | exact ⟨⟨(ts5 x11 (Or.inl ⟨by omega, e_x11⟩)).1.1, q5_2⟩, t7, (ts5 x11 (Or.inl ⟨by omega, e_x11⟩)).1.2⟩ | exact ⟨⟨(ts5 n1 (Or.inr ⟨by omega, rfl⟩)).1.1, q5_2⟩, t7, (ts5 n1 (Or.inr ⟨by omega, rfl⟩)).1.2⟩ | exact ⟨⟨(ts33 x39 (Or.inl ⟨by omega, e_x39⟩)).1.1, q33_2⟩, t35, (ts33 x39 (Or.inl ⟨by omega, e_x39⟩)).1.2⟩ | exact ⟨⟨(ts33 n1 (Or.inr ⟨by omega, rfl⟩)).1.1, q33_2⟩, t35, (ts33 n1 (Or.inr ⟨by omega, rfl⟩)).1.2⟩ | fail)) (show 1 ≤ x34 ∧ x34 < (τ35.1 47) from by (first | omega | (simp only [st_s] <;> omega) | assumption | omega | fail)) (show y_pt (τ35.2.1 78) (τ35.2.1 77) (y_hd σ n1) (y_f σ n1) ((u3_52 + 1) - σ.2.1 14 n1 - 1).toNat x34 from by (first | (rw [show x14 + 1 - σ.2.1 14 n1 - 1 = 0 from by omega]; first | exact (ts5 x11 (Or.inl ⟨by omega, e_x11⟩)).2.1 | exact (ts5 n1 (Or.inr ⟨by omega, rfl⟩)).2.1) | (rw [show (u3_52 + 1 - σ.2.1 14 n1 - 1).toNat = (u3_52 - σ.2.1 14 n1 - 1).toNat + 1 from by omega]; first | exact (ts33 x39 (Or.inl ⟨by omega, e_x39⟩)).2.1 | exact (ts33 n1 (Or.inr ⟨by omega, rfl⟩)).2.1) | fail)) (show (st (τ35.2.1 83) x34 x39) x34 ≤ n1 from by (first | exact (ts5 x11 (Or.inl ⟨by omega, e_x11⟩)).2.2.2 | exact (ts5 n1 (Or.inr ⟨by omega, rfl⟩)).2.2.2 | exact (ts33 x39 (Or.inl ⟨by omega, e_x39⟩)).2.2.2 | exact (ts33 n1 (Or.inr ⟨by omega, rfl⟩)).2.2.2 | fail)) (show (τ35.1 47) ≤ 1 + (u3_52 + 1) from by (first | omega | (simp only [st_s] <;> omega) | assumption | omega | fail))
          ·
            refine h133 _ _ _ _ _ _ ?_
            refine ⟨(show 0 ≤ x34 ∧ x34 < 30002 from by (first | omega | (simp only [st_s] <;> omega) | assumption | omega | fail)), ?_⟩
            replace hT := mT_a (k := 83) (j := x34) hT (show (0 : Int) ≤ n1 ∧ n1 ≤ 1500 from by (first | omega | (simp only [st_s] <;> omega) | assumption | omega | fail))
            refine ⟨(⟨by (first | omega | (simp only [st_s] <;> omega) | assumption | omega | fail), by (first | omega | (simp only [st_s] <;> omega) | assumption | omega | fail)⟩ : rg (u3_52 + 1)), ?_⟩
            exact ih_52 _ _ _ (show (30401 - (u3_52 + 1) : Int) < ((m_52 : Nat) : Int) from by ((first | omega | (simp only [st_s] <;> omega) | assumption | omega | fail))) hT (show τ35.1 5 = σ.1 5 from by first | exact W5 | omega) (show τ35.1 6 = σ.1 6 from by first | exact W6 | omega) G8 G10 G14 G15 G16 (show σ.2.1 14 n1 + 1 ≤ (u3_52 + 1) from by (first | omega | (simp only [st_s] <;> omega) | assumption | omega | fail)) (show (u3_52 + 1) ≤ σ.2.1 14 n1 + σ.2.1 15 n1 from by (first | omega | (simp only [st_s] <;> omega) | assumption | omega | fail)) (show y_TT σ (s_a τ35 83 x34 n1) (n1 + 1) (n1) from by (first | exact ⟨⟨(ts5 x11 (Or.inl ⟨by omega, e_x11⟩)).1.1, q5_2⟩, t7, (ts5 x11 (Or.inl ⟨by omega, e_x11⟩)).1.2⟩ | exact ⟨⟨(ts5 n1 (Or.inr ⟨by omega, rfl⟩)).1.1, q5_2⟩, t7, (ts5 n1 (Or.inr ⟨by omega, rfl⟩)).1.2⟩ | exact ⟨⟨(ts33 x39 (Or.inl ⟨by omega, e_x39⟩)).1.1, q33_2⟩, t35, (ts33 x39 (Or.inl ⟨by omega, e_x39⟩)).1.2⟩ | exact ⟨⟨(ts33 n1 (Or.inr ⟨by omega, rfl⟩)).1.1, q33_2⟩, t35, (ts33 n1 (Or.inr ⟨by omega, rfl⟩)).1.2⟩ | fail)) (show 1 ≤ x34 ∧ x34 < (τ35.1 47) from by (first | omega | (simp only [st_s] <;> omega) | assumption | omega | fail)) (show y_pt (τ35.2.1 78) (τ35.2.1 77) (y_hd σ n1) (y_f σ n1) ((u3_52 + 1) - σ.2.1 14 n1 - 1).toNat x34 from by (first | (rw [show x14 + 1 - σ.2.1 14 n1 - 1 = 0 from by omega]; first | exact (ts5 x11 (Or.inl ⟨by omega, e_x11⟩)).2.1 | exact (ts5 n1 (Or.inr ⟨by omega, rfl⟩)).2.1) | (rw [show (u3_52 + 1 - σ.2.1 14 n1 - 1).toNat = (u3_52 - σ.2.1 14 n1 - 1).toNat + 1 from by omega]; first | exact (ts33 x39 (Or.inl ⟨by omega, e_x39⟩)).2.1 | exact (ts33 n1 (Or.inr ⟨by omega, rfl⟩)).2.1) | fail)) (show (st (τ35.2.1 83) x34 n1) x34 ≤ n1 from by (first | exact (ts5 x11 (Or.inl ⟨by omega, e_x11⟩)).2.2.2 | exact (ts5 n1 (Or.inr ⟨by omega, rfl⟩)).2.2.2 | exact (ts33 x39 (Or.inl ⟨by omega, e_x39⟩)).2.2.2 | exact (ts33 n1 (Or.inr ⟨by omega, rfl⟩)).2.2.2 | fail)) (show (τ35.1 47) ≤ 1 + (u3_52 + 1) from by (first | omega | (simp only [st_s] <;> omega) | assumption | omega | fail))
        ·
          intro x31 r_x31 e_x31
          have b_x31 : (-1) ≤ x31 ∧ x31 ≤ 999 := by rw [e_x31]; exact hT.2 10 _
          rw [G10] at e_x31
          refine ⟨(⟨by (first | omega | (simp only [st_s] <;> omega) | assumption | omega | fail), by (first | omega | (simp only [st_s] <;> omega) | assumption | omega | fail)⟩ : rg ((-2) - x31)), ?_⟩
          refine h104 _ _ _ _ _ ?_
          refine ⟨_, K_X13_stepBelow hT (show (τ_52.1 47) ≤ 30000 from by (first | omega | (simp only [st_s] <;> omega) | assumption | omega | fail)) (show 0 ≤ u2_52 from by (first | omega | (simp only [st_s] <;> omega) | assumption | omega | fail)) (show u2_52 < (τ_52.1 47) from by (first | omega | (simp only [st_s] <;> omega) | assumption | omega | fail)) (show -1001 ≤ ((-2) - x31) from by (first | omega | (simp only [st_s] <;> omega) | assumption | omega | fail)) (show ((-2) - x31) ≤ 999 from by (first | omega | (simp only [st_s] <;> omega) | assumption | omega | fail)) (show y_K (τ_52.1 47) (τ_52.2.1 78) (τ_52.2.1 79) (τ_52.2.1 80) from by exact tt2) (show ∀ y : Int, 1 ≤ y → y < (τ_52.1 47) → 0 ≤ τ_52.2.1 78 y ∧ τ_52.2.1 78 y < y from by exact tt1.1), ?_⟩
          intro x34 τ35 r_x34 hn_τ35 hf_τ35 hq
          obtain ⟨hT, q33_1, q33_2, q33_3, q33_4⟩ := hq
          replace q33_1 : y_Sb u2_52 ((-2) - x31) (τ_52.1 47) (τ35.1 47) x34 (τ_52.2.1 78) (τ_52.2.1 77) (τ_52.2.1 81) (τ_52.2.1 82) (τ_52.2.1 83) (τ35.2.1 78) (τ35.2.1 77) (τ35.2.1 81) (τ35.2.1 82) (τ35.2.1 83) := q33_1
          replace q33_2 : y_K (τ35.1 47) (τ35.2.1 78) (τ35.2.1 79) (τ35.2.1 80) := q33_2
          replace q33_3 : 1 ≤ x34 ∧ x34 < (τ35.1 47) := q33_3
          replace q33_4 : (τ35.1 47) ≤ (τ_52.1 47) + 1 := q33_4
          have w5_τ35 : τ35.1 5 = τ_52.1 5 := hf_τ35.1 5 (by decide)
          have w6_τ35 : τ35.1 6 = τ_52.1 6 := hf_τ35.1 6 (by decide)
          have g8_τ35 : τ35.2.1 8 = τ_52.2.1 8 := hf_τ35.2.1 8 (by decide)
          have g10_τ35 : τ35.2.1 10 = τ_52.2.1 10 := hf_τ35.2.1 10 (by decide)
          have g14_τ35 : τ35.2.1 14 = τ_52.2.1 14 := hf_τ35.2.1 14 (by decide)
          have g15_τ35 : τ35.2.1 15 = τ_52.2.1 15 := hf_τ35.2.1 15 (by decide)
          have g16_τ35 : τ35.2.1 16 = τ_52.2.1 16 := hf_τ35.2.1 16 (by decide)
          have W5 : τ35.1 5 = σ.1 5 := by first | exact w5_τ35.trans W5 | omega
          have W6 : τ35.1 6 = σ.1 6 := by first | exact w6_τ35.trans W6 | omega
          have G8 : τ35.2.1 8 = σ.2.1 8 := (g8_τ35).trans G8
          have G10 : τ35.2.1 10 = σ.2.1 10 := (g10_τ35).trans G10
          have G14 : τ35.2.1 14 = σ.2.1 14 := (g14_τ35).trans G14
          have G15 : τ35.2.1 15 = σ.2.1 15 := (g15_τ35).trans G15
          have G16 : τ35.2.1 16 = σ.2.1 16 := (g16_τ35).trans G16
          have A8 : ∀ j, 0 ≤ τ35.2.1 8 j ∧ τ35.2.1 8 j ≤ 1 := fun j => hT.2 8 j
          have A10 : ∀ j, (-1) ≤ τ35.2.1 10 j ∧ τ35.2.1 10 j ≤ 999 := fun j => hT.2 10 j
          have A14 : ∀ j, 0 ≤ τ35.2.1 14 j ∧ τ35.2.1 14 j ≤ 30000 := fun j => hT.2 14 j
          have A15 : ∀ j, 0 ≤ τ35.2.1 15 j ∧ τ35.2.1 15 j ≤ 300 := fun j => hT.2 15 j
          have A16 : ∀ j, 0 ≤ τ35.2.1 16 j ∧ τ35.2.1 16 j ≤ 999 := fun j => hT.2 16 j
          have A77 : ∀ j, (-1001) ≤ τ35.2.1 77 j ∧ τ35.2.1 77 j ≤ 999 := fun j => hT.2 77 j
          have A78 : ∀ j, (-1) ≤ τ35.2.1 78 j ∧ τ35.2.1 78 j ≤ 30001 := fun j => hT.2 78 j
          have A79 : ∀ j, (-1) ≤ τ35.2.1 79 j ∧ τ35.2.1 79 j ≤ 30001 := fun j => hT.2 79 j
          have A80 : ∀ j, (-1) ≤ τ35.2.1 80 j ∧ τ35.2.1 80 j ≤ 30001 := fun j => hT.2 80 j
          have A81 : ∀ j, 0 ≤ τ35.2.1 81 j ∧ τ35.2.1 81 j ≤ 1500 := fun j => hT.2 81 j
          have A82 : ∀ j, 0 ≤ τ35.2.1 82 j ∧ τ35.2.1 82 j ≤ 1500 := fun j => hT.2 82 j
          have A83 : ∀ j, 0 ≤ τ35.2.1 83 j ∧ τ35.2.1 83 j ≤ 1500 := fun j => hT.2 83 j
          have v5 : 0 ≤ τ35.1 5 ∧ τ35.1 5 ≤ 1500 := hT.1 5
          have v6 : 0 ≤ τ35.1 6 ∧ τ35.1 6 ≤ 30000 := hT.1 6
          have v47 : 0 ≤ τ35.1 47 ∧ τ35.1 47 ≤ 30001 := hT.1 47
          have t35 : 1 ≤ τ35.1 47 := by omega
          have hk2 : ((-2) - x31) = y_f σ n1 ((((u3_52 - σ.2.1 14 n1 - 1).toNat : Nat) : Int) + 1) := by (rw [fk, ← e_x27, ← e_x29]; first | (rw [if_pos (by assumption)]) | (rw [if_neg (by assumption), ← e_x31]))
          have ts33 : ∀ y : Int, ((τ35.2.1 83 x34 ≤ n1 ∧ y = τ35.2.1 83 x34) ∨ (n1 < τ35.2.1 83 x34 ∧ y = n1)) → _ := fun y hy => y_T_s (y := y) (R := y_RN σ) (hd := y_hd σ) (nn := y_nn σ) (f := y_f σ) tt1 q33_1 tt3 (by omega) p1 (by omega) (Int.le_refl _) p3 ((u3_52 - σ.2.1 14 n1 - 1).toNat + 1) (by omega) (by omega) (by omega) (fun z => by omega) (Or.inr ⟨(u3_52 - σ.2.1 14 n1 - 1).toNat, rfl, i52_5, hk2⟩) hy tt4
          refine ⟨(show 0 ≤ x34 ∧ x34 < 30002 from by (first | omega | (simp only [st_s] <;> omega) | assumption | omega | fail)), ?_⟩
          intro x37 r_x37 e_x37
          have b_x37 : 0 ≤ x37 ∧ x37 ≤ 1500 := by rw [e_x37]; exact hT.2 83 _
          refine ⟨fun c38 => ?_, fun c38 => ?_⟩
          ·
            intro x39 r_x39 e_x39
            have b_x39 : 0 ≤ x39 ∧ x39 ≤ 1500 := by rw [e_x39]; exact hT.2 83 _
            refine h133 _ _ _ _ _ _ ?_
            refine ⟨(show 0 ≤ x34 ∧ x34 < 30002 from by (first | omega | (simp only [st_s] <;> omega) | assumption | omega | fail)), ?_⟩
            replace hT := mT_a (k := 83) (j := x34) hT (show (0 : Int) ≤ x39 ∧ x39 ≤ 1500 from by (first | omega | (simp only [st_s] <;> omega) | assumption | omega | fail))
            refine ⟨(⟨by (first | omega | (simp only [st_s] <;> omega) | assumption | omega | fail), by (first | omega | (simp only [st_s] <;> omega) | assumption | omega | fail)⟩ : rg (u3_52 + 1)), ?_⟩
            exact ih_52 _ _ _ (show (30401 - (u3_52 + 1) : Int) < ((m_52 : Nat) : Int) from by ((first | omega | (simp only [st_s] <;> omega) | assumption | omega | fail))) hT (show τ35.1 5 = σ.1 5 from by first | exact W5 | omega) (show τ35.1 6 = σ.1 6 from by first | exact W6 | omega) G8 G10 G14 G15 G16 (show σ.2.1 14 n1 + 1 ≤ (u3_52 + 1) from by (first | omega | (simp only [st_s] <;> omega) | assumption | omega | fail)) (show (u3_52 + 1) ≤ σ.2.1 14 n1 + σ.2.1 15 n1 from by (first | omega | (simp only [st_s] <;> omega) | assumption | omega | fail)) (show y_TT σ (s_a τ35 83 x34 x39) (n1 + 1) (n1) from by (first | exact ⟨⟨(ts5 x11 (Or.inl ⟨by omega, e_x11⟩)).1.1, q5_2⟩, t7, (ts5 x11 (Or.inl ⟨by omega, e_x11⟩)).1.2⟩ | exact ⟨⟨(ts5 n1 (Or.inr ⟨by omega, rfl⟩)).1.1, q5_2⟩, t7, (ts5 n1 (Or.inr ⟨by omega, rfl⟩)).1.2⟩ | exact ⟨⟨(ts33 x39 (Or.inl ⟨by omega, e_x39⟩)).1.1, q33_2⟩, t35, (ts33 x39 (Or.inl ⟨by omega, e_x39⟩)).1.2⟩ | exact ⟨⟨(ts33 n1 (Or.inr ⟨by omega, rfl⟩)).1.1, q33_2⟩, t35, (ts33 n1 (Or.inr ⟨by omega, rfl⟩)).1.2⟩ | fail)) (show 1 ≤ x34 ∧ x34 < (τ35.1 47) from by (first | omega | (simp only [st_s] <;> omega) | assumption | omega | fail)) (show y_pt (τ35.2.1 78) (τ35.2.1 77) (y_hd σ n1) (y_f σ n1) ((u3_52 + 1) - σ.2.1 14 n1 - 1).toNat x34 from by (first | (rw [show x14 + 1 - σ.2.1 14 n1 - 1 = 0 from by omega]; first | exact (ts5 x11 (Or.inl ⟨by omega, e_x11⟩)).2.1 | exact (ts5 n1 (Or.inr ⟨by omega, rfl⟩)).2.1) | (rw [show (u3_52 + 1 - σ.2.1 14 n1 - 1).toNat = (u3_52 - σ.2.1 14 n1 - 1).toNat + 1 from by omega]; first | exact (ts33 x39 (Or.inl ⟨by omega, e_x39⟩)).2.1 | exact (ts33 n1 (Or.inr ⟨by omega, rfl⟩)).2.1) | fail)) (show (st (τ35.2.1 83) x34 x39) x34 ≤ n1 from by (first | exact (ts5 x11 (Or.inl ⟨by omega, e_x11⟩)).2.2.2 | exact (ts5 n1 (Or.inr ⟨by omega, rfl⟩)).2.2.2 | exact (ts33 x39 (Or.inl ⟨by omega, e_x39⟩)).2.2.2 | exact (ts33 n1 (Or.inr ⟨by omega, rfl⟩)).2.2.2 | fail)) (show (τ35.1 47) ≤ 1 + (u3_52 + 1) from by (first | omega | (simp only [st_s] <;> omega) | assumption | omega | fail))
          ·
            refine h133 _ _ _ _ _ _ ?_
            refine ⟨(show 0 ≤ x34 ∧ x34 < 30002 from by (first | omega | (simp only [st_s] <;> omega) | assumption | omega | fail)), ?_⟩
            replace hT := mT_a (k := 83) (j := x34) hT (show (0 : Int) ≤ n1 ∧ n1 ≤ 1500 from by (first | omega | (simp only [st_s] <;> omega) | assumption | omega | fail))
            refine ⟨(⟨by (first | omega | (simp only [st_s] <;> omega) | assumption | omega | fail), by (first | omega | (simp only [st_s] <;> omega) | assumption | omega | fail)⟩ : rg (u3_52 + 1)), ?_⟩
            exact ih_52 _ _ _ (show (30401 - (u3_52 + 1) : Int) < ((m_52 : Nat) : Int) from by ((first | omega | (simp only [st_s] <;> omega) | assumption | omega | fail))) hT (show τ35.1 5 = σ.1 5 from by first | exact W5 | omega) (show τ35.1 6 = σ.1 6 from by first | exact W6 | omega) G8 G10 G14 G15 G16 (show σ.2.1 14 n1 + 1 ≤ (u3_52 + 1) from by (first | omega | (simp only [st_s] <;> omega) | assumption | omega | fail)) (show (u3_52 + 1) ≤ σ.2.1 14 n1 + σ.2.1 15 n1 from by (first | omega | (simp only [st_s] <;> omega) | assumption | omega | fail)) (show y_TT σ (s_a τ35 83 x34 n1) (n1 + 1) (n1) from by (first | exact ⟨⟨(ts5 x11 (Or.inl ⟨by omega, e_x11⟩)).1.1, q5_2⟩, t7, (ts5 x11 (Or.inl ⟨by omega, e_x11⟩)).1.2⟩ | exact ⟨⟨(ts5 n1 (Or.inr ⟨by omega, rfl⟩)).1.1, q5_2⟩, t7, (ts5 n1 (Or.inr ⟨by omega, rfl⟩)).1.2⟩ | exact ⟨⟨(ts33 x39 (Or.inl ⟨by omega, e_x39⟩)).1.1, q33_2⟩, t35, (ts33 x39 (Or.inl ⟨by omega, e_x39⟩)).1.2⟩ | exact ⟨⟨(ts33 n1 (Or.inr ⟨by omega, rfl⟩)).1.1, q33_2⟩, t35, (ts33 n1 (Or.inr ⟨by omega, rfl⟩)).1.2⟩ | fail)) (show 1 ≤ x34 ∧ x34 < (τ35.1 47) from by (first | omega | (simp only [st_s] <;> omega) | assumption | omega | fail)) (show y_pt (τ35.2.1 78) (τ35.2.1 77) (y_hd σ n1) (y_f σ n1) ((u3_52 + 1) - σ.2.1 14 n1 - 1).toNat x34 from by (first | (rw [show x14 + 1 - σ.2.1 14 n1 - 1 = 0 from by omega]; first | exact (ts5 x11 (Or.inl ⟨by omega, e_x11⟩)).2.1 | exact (ts5 n1 (Or.inr ⟨by omega, rfl⟩)).2.1) | (rw [show (u3_52 + 1 - σ.2.1 14 n1 - 1).toNat = (u3_52 - σ.2.1 14 n1 - 1).toNat + 1 from by omega]; first | exact (ts33 x39 (Or.inl ⟨by omega, e_x39⟩)).2.1 | exact (ts33 n1 (Or.inr ⟨by omega, rfl⟩)).2.1) | fail)) (show (st (τ35.2.1 83) x34 n1) x34 ≤ n1 from by (first | exact (ts5 x11 (Or.inl ⟨by omega, e_x11⟩)).2.2.2 | exact (ts5 n1 (Or.inr ⟨by omega, rfl⟩)).2.2.2 | exact (ts33 x39 (Or.inl ⟨by omega, e_x39⟩)).2.2.2 | exact (ts33 n1 (Or.inr ⟨by omega, rfl⟩)).2.2.2 | fail)) (show (τ35.1 47) ≤ 1 + (u3_52 + 1) from by (first | omega | (simp only [st_s] <;> omega) | assumption | omega | fail))
  refine ⟨(show 0 ≤ n1 ∧ n1 < 1501 from by (first | omega | (simp only [st_s] <;> omega) | assumption | omega | fail)), ?_⟩
  intro x2 r_x2 e_x2
  have b_x2 : 0 ≤ x2 ∧ x2 ≤ 30000 := by rw [e_x2]; exact hT.2 14 _
  refine ⟨(show 0 ≤ x2 ∧ x2 < 30400 from by (first | omega | (simp only [st_s] <;> omega) | assumption | omega | fail)), ?_⟩
  intro x4 r_x4 e_x4
  have b_x4 : 0 ≤ x4 ∧ x4 ≤ 999 := by rw [e_x4]; exact hT.2 16 _
  refine ⟨_, K_X13_stepBelow hT (show (σ.1 47) ≤ 30000 from by (first | omega | (simp only [st_s] <;> omega) | assumption | omega | fail)) (show 0 ≤ (0 : Int) from by (first | omega | (simp only [st_s] <;> omega) | assumption | omega | fail)) (show (0 : Int) < (σ.1 47) from by (first | omega | (simp only [st_s] <;> omega) | assumption | omega | fail)) (show -1001 ≤ x4 from by (first | omega | (simp only [st_s] <;> omega) | assumption | omega | fail)) (show x4 ≤ 999 from by (first | omega | (simp only [st_s] <;> omega) | assumption | omega | fail)) (show y_K (σ.1 47) (σ.2.1 78) (σ.2.1 79) (σ.2.1 80) from by exact tt2) (show ∀ y : Int, 1 ≤ y → y < (σ.1 47) → 0 ≤ σ.2.1 78 y ∧ σ.2.1 78 y < y from by exact tt1.1), ?_⟩
  intro x6 τ7 r_x6 hn_τ7 hf_τ7 hq
  obtain ⟨hT, q5_1, q5_2, q5_3, q5_4⟩ := hq
  replace q5_1 : y_Sb (0 : Int) x4 (σ.1 47) (τ7.1 47) x6 (σ.2.1 78) (σ.2.1 77) (σ.2.1 81) (σ.2.1 82) (σ.2.1 83) (τ7.2.1 78) (τ7.2.1 77) (τ7.2.1 81) (τ7.2.1 82) (τ7.2.1 83) := q5_1
  replace q5_2 : y_K (τ7.1 47) (τ7.2.1 78) (τ7.2.1 79) (τ7.2.1 80) := q5_2
  replace q5_3 : 1 ≤ x6 ∧ x6 < (τ7.1 47) := q5_3
  replace q5_4 : (τ7.1 47) ≤ (σ.1 47) + 1 := q5_4
  have w5_τ7 : τ7.1 5 = σ.1 5 := hf_τ7.1 5 (by decide)
  have w6_τ7 : τ7.1 6 = σ.1 6 := hf_τ7.1 6 (by decide)
  have g8_τ7 : τ7.2.1 8 = σ.2.1 8 := hf_τ7.2.1 8 (by decide)
  have g10_τ7 : τ7.2.1 10 = σ.2.1 10 := hf_τ7.2.1 10 (by decide)
  have g14_τ7 : τ7.2.1 14 = σ.2.1 14 := hf_τ7.2.1 14 (by decide)
  have g15_τ7 : τ7.2.1 15 = σ.2.1 15 := hf_τ7.2.1 15 (by decide)
  have g16_τ7 : τ7.2.1 16 = σ.2.1 16 := hf_τ7.2.1 16 (by decide)
  have W5 : τ7.1 5 = σ.1 5 := by first | exact w5_τ7.trans W5 | omega
  have W6 : τ7.1 6 = σ.1 6 := by first | exact w6_τ7.trans W6 | omega
  have G8 : τ7.2.1 8 = σ.2.1 8 := (g8_τ7).trans G8
  have G10 : τ7.2.1 10 = σ.2.1 10 := (g10_τ7).trans G10
  have G14 : τ7.2.1 14 = σ.2.1 14 := (g14_τ7).trans G14
  have G15 : τ7.2.1 15 = σ.2.1 15 := (g15_τ7).trans G15
  have G16 : τ7.2.1 16 = σ.2.1 16 := (g16_τ7).trans G16
  have A8 : ∀ j, 0 ≤ τ7.2.1 8 j ∧ τ7.2.1 8 j ≤ 1 := fun j => hT.2 8 j
  have A10 : ∀ j, (-1) ≤ τ7.2.1 10 j ∧ τ7.2.1 10 j ≤ 999 := fun j => hT.2 10 j
  have A14 : ∀ j, 0 ≤ τ7.2.1 14 j ∧ τ7.2.1 14 j ≤ 30000 := fun j => hT.2 14 j
  have A15 : ∀ j, 0 ≤ τ7.2.1 15 j ∧ τ7.2.1 15 j ≤ 300 := fun j => hT.2 15 j
  have A16 : ∀ j, 0 ≤ τ7.2.1 16 j ∧ τ7.2.1 16 j ≤ 999 := fun j => hT.2 16 j
  have A77 : ∀ j, (-1001) ≤ τ7.2.1 77 j ∧ τ7.2.1 77 j ≤ 999 := fun j => hT.2 77 j
  have A78 : ∀ j, (-1) ≤ τ7.2.1 78 j ∧ τ7.2.1 78 j ≤ 30001 := fun j => hT.2 78 j
  have A79 : ∀ j, (-1) ≤ τ7.2.1 79 j ∧ τ7.2.1 79 j ≤ 30001 := fun j => hT.2 79 j
  have A80 : ∀ j, (-1) ≤ τ7.2.1 80 j ∧ τ7.2.1 80 j ≤ 30001 := fun j => hT.2 80 j
  have A81 : ∀ j, 0 ≤ τ7.2.1 81 j ∧ τ7.2.1 81 j ≤ 1500 := fun j => hT.2 81 j
  have A82 : ∀ j, 0 ≤ τ7.2.1 82 j ∧ τ7.2.1 82 j ≤ 1500 := fun j => hT.2 82 j
  have A83 : ∀ j, 0 ≤ τ7.2.1 83 j ∧ τ7.2.1 83 j ≤ 1500 := fun j => hT.2 83 j
  have v5 : 0 ≤ τ7.1 5 ∧ τ7.1 5 ≤ 1500 := hT.1 5
  have v6 : 0 ≤ τ7.1 6 ∧ τ7.1 6 ≤ 30000 := hT.1 6
  have v47 : 0 ≤ τ7.1 47 ∧ τ7.1 47 ≤ 30001 := hT.1 47
  have t7 : 1 ≤ τ7.1 47 := by omega
  have hx4 : x4 = y_hd σ n1 := by (rw [e_x4, e_x2]; rfl)
  have ts5 : ∀ y : Int, ((τ7.2.1 83 x6 ≤ n1 ∧ y = τ7.2.1 83 x6) ∨ (n1 < τ7.2.1 83 x6 ∧ y = n1)) → _ := fun y hy => y_T_s (y := y) (R := y_RN σ) (hd := y_hd σ) (nn := y_nn σ) (f := y_f σ) tt1 q5_1 tt3 (by omega) p1 (by omega) (Int.le_refl _) p3 0 (by omega) (Int.le_refl _) (by omega) (fun z => by omega) (Or.inl ⟨rfl, rfl, hx4⟩) hy tt4
  refine ⟨(show 0 ≤ x6 ∧ x6 < 30002 from by (first | omega | (simp only [st_s] <;> omega) | assumption | omega | fail)), ?_⟩
  intro x9 r_x9 e_x9
  have b_x9 : 0 ≤ x9 ∧ x9 ≤ 1500 := by rw [e_x9]; exact hT.2 83 _
  refine ⟨fun c10 => ?_, fun c10 => ?_⟩
  ·
    intro x11 r_x11 e_x11
    have b_x11 : 0 ≤ x11 ∧ x11 ≤ 1500 := by rw [e_x11]; exact hT.2 83 _
    refine h42 _ _ _ _ _ ?_
    refine ⟨(show 0 ≤ x6 ∧ x6 < 30002 from by (first | omega | (simp only [st_s] <;> omega) | assumption | omega | fail)), ?_⟩
    replace hT := mT_a (k := 83) (j := x6) hT (show (0 : Int) ≤ x11 ∧ x11 ≤ 1500 from by (first | omega | (simp only [st_s] <;> omega) | assumption | omega | fail))
    refine ⟨(show 0 ≤ n1 ∧ n1 < 1501 from by (first | omega | (simp only [st_s] <;> omega) | assumption | omega | fail)), ?_⟩
    intro x14 r_x14 e_x14
    have b_x14 : 0 ≤ x14 ∧ x14 ≤ 30000 := by rw [e_x14]; exact hT.2 14 _
    have e14 : x14 = σ.2.1 14 n1 := by (first | (rw [g14_τ7] at e_x14; exact e_x14) | (rw [e_x14, G14]) | omega)
    refine ⟨(⟨by (first | omega | (simp only [st_s] <;> omega) | assumption | omega | fail), by (first | omega | (simp only [st_s] <;> omega) | assumption | omega | fail)⟩ : rg (x14 + 1)), ?_⟩
    exact l_52 ((30401 - (x14 + 1) : Int).toNat + 1) _ _ _ (show (30401 - (x14 + 1) : Int) < (((30401 - (x14 + 1) : Int).toNat + 1 : Nat) : Int) from by ((first | omega | (simp only [st_s] <;> omega) | assumption | omega | fail))) hT (show τ7.1 5 = σ.1 5 from by first | exact W5 | omega) (show τ7.1 6 = σ.1 6 from by first | exact W6 | omega) G8 G10 G14 G15 G16 (show σ.2.1 14 n1 + 1 ≤ (x14 + 1) from by (first | omega | (simp only [st_s] <;> omega) | assumption | omega | fail)) (show (x14 + 1) ≤ σ.2.1 14 n1 + σ.2.1 15 n1 from by (first | omega | (simp only [st_s] <;> omega) | assumption | omega | fail)) (show y_TT σ (s_a τ7 83 x6 x11) (n1 + 1) (n1) from by (first | exact ⟨⟨(ts5 x11 (Or.inl ⟨by omega, e_x11⟩)).1.1, q5_2⟩, t7, (ts5 x11 (Or.inl ⟨by omega, e_x11⟩)).1.2⟩ | exact ⟨⟨(ts5 n1 (Or.inr ⟨by omega, rfl⟩)).1.1, q5_2⟩, t7, (ts5 n1 (Or.inr ⟨by omega, rfl⟩)).1.2⟩ | exact ⟨⟨(ts33 x39 (Or.inl ⟨by omega, e_x39⟩)).1.1, q33_2⟩, t35, (ts33 x39 (Or.inl ⟨by omega, e_x39⟩)).1.2⟩ | exact ⟨⟨(ts33 n1 (Or.inr ⟨by omega, rfl⟩)).1.1, q33_2⟩, t35, (ts33 n1 (Or.inr ⟨by omega, rfl⟩)).1.2⟩ | fail)) (show 1 ≤ x6 ∧ x6 < (τ7.1 47) from by (first | omega | (simp only [st_s] <;> omega) | assumption | omega | fail)) (show y_pt (τ7.2.1 78) (τ7.2.1 77) (y_hd σ n1) (y_f σ n1) ((x14 + 1) - σ.2.1 14 n1 - 1).toNat x6 from by (first | (rw [show x14 + 1 - σ.2.1 14 n1 - 1 = 0 from by omega]; first | exact (ts5 x11 (Or.inl ⟨by omega, e_x11⟩)).2.1 | exact (ts5 n1 (Or.inr ⟨by omega, rfl⟩)).2.1) | (rw [show (u3_52 + 1 - σ.2.1 14 n1 - 1).toNat = (u3_52 - σ.2.1 14 n1 - 1).toNat + 1 from by omega]; first | exact (ts33 x39 (Or.inl ⟨by omega, e_x39⟩)).2.1 | exact (ts33 n1 (Or.inr ⟨by omega, rfl⟩)).2.1) | fail)) (show (st (τ7.2.1 83) x6 x11) x6 ≤ n1 from by (first | exact (ts5 x11 (Or.inl ⟨by omega, e_x11⟩)).2.2.2 | exact (ts5 n1 (Or.inr ⟨by omega, rfl⟩)).2.2.2 | exact (ts33 x39 (Or.inl ⟨by omega, e_x39⟩)).2.2.2 | exact (ts33 n1 (Or.inr ⟨by omega, rfl⟩)).2.2.2 | fail)) (show (τ7.1 47) ≤ 1 + (x14 + 1) from by (first | omega | (simp only [st_s] <;> omega) | assumption | omega | fail))
  ·
    refine h42 _ _ _ _ _ ?_
    refine ⟨(show 0 ≤ x6 ∧ x6 < 30002 from by (first | omega | (simp only [st_s] <;> omega) | assumption | omega | fail)), ?_⟩
    replace hT := mT_a (k := 83) (j := x6) hT (show (0 : Int) ≤ n1 ∧ n1 ≤ 1500 from by (first | omega | (simp only [st_s] <;> omega) | assumption | omega | fail))
    refine ⟨(show 0 ≤ n1 ∧ n1 < 1501 from by (first | omega | (simp only [st_s] <;> omega) | assumption | omega | fail)), ?_⟩
    intro x14 r_x14 e_x14
    have b_x14 : 0 ≤ x14 ∧ x14 ≤ 30000 := by rw [e_x14]; exact hT.2 14 _
    have e14 : x14 = σ.2.1 14 n1 := by (first | (rw [g14_τ7] at e_x14; exact e_x14) | (rw [e_x14, G14]) | omega)
    refine ⟨(⟨by (first | omega | (simp only [st_s] <;> omega) | assumption | omega | fail), by (first | omega | (simp only [st_s] <;> omega) | assumption | omega | fail)⟩ : rg (x14 + 1)), ?_⟩
    exact l_52 ((30401 - (x14 + 1) : Int).toNat + 1) _ _ _ (show (30401 - (x14 + 1) : Int) < (((30401 - (x14 + 1) : Int).toNat + 1 : Nat) : Int) from by ((first | omega | (simp only [st_s] <;> omega) | assumption | omega | fail))) hT (show τ7.1 5 = σ.1 5 from by first | exact W5 | omega) (show τ7.1 6 = σ.1 6 from by first | exact W6 | omega) G8 G10 G14 G15 G16 (show σ.2.1 14 n1 + 1 ≤ (x14 + 1) from by (first | omega | (simp only [st_s] <;> omega) | assumption | omega | fail)) (show (x14 + 1) ≤ σ.2.1 14 n1 + σ.2.1 15 n1 from by (first | omega | (simp only [st_s] <;> omega) | assumption | omega | fail)) (show y_TT σ (s_a τ7 83 x6 n1) (n1 + 1) (n1) from by (first | exact ⟨⟨(ts5 x11 (Or.inl ⟨by omega, e_x11⟩)).1.1, q5_2⟩, t7, (ts5 x11 (Or.inl ⟨by omega, e_x11⟩)).1.2⟩ | exact ⟨⟨(ts5 n1 (Or.inr ⟨by omega, rfl⟩)).1.1, q5_2⟩, t7, (ts5 n1 (Or.inr ⟨by omega, rfl⟩)).1.2⟩ | exact ⟨⟨(ts33 x39 (Or.inl ⟨by omega, e_x39⟩)).1.1, q33_2⟩, t35, (ts33 x39 (Or.inl ⟨by omega, e_x39⟩)).1.2⟩ | exact ⟨⟨(ts33 n1 (Or.inr ⟨by omega, rfl⟩)).1.1, q33_2⟩, t35, (ts33 n1 (Or.inr ⟨by omega, rfl⟩)).1.2⟩ | fail)) (show 1 ≤ x6 ∧ x6 < (τ7.1 47) from by (first | omega | (simp only [st_s] <;> omega) | assumption | omega | fail)) (show y_pt (τ7.2.1 78) (τ7.2.1 77) (y_hd σ n1) (y_f σ n1) ((x14 + 1) - σ.2.1 14 n1 - 1).toNat x6 from by (first | (rw [show x14 + 1 - σ.2.1 14 n1 - 1 = 0 from by omega]; first | exact (ts5 x11 (Or.inl ⟨by omega, e_x11⟩)).2.1 | exact (ts5 n1 (Or.inr ⟨by omega, rfl⟩)).2.1) | (rw [show (u3_52 + 1 - σ.2.1 14 n1 - 1).toNat = (u3_52 - σ.2.1 14 n1 - 1).toNat + 1 from by omega]; first | exact (ts33 x39 (Or.inl ⟨by omega, e_x39⟩)).2.1 | exact (ts33 n1 (Or.inr ⟨by omega, rfl⟩)).2.1) | fail)) (show (st (τ7.2.1 83) x6 n1) x6 ≤ n1 from by (first | exact (ts5 x11 (Or.inl ⟨by omega, e_x11⟩)).2.2.2 | exact (ts5 n1 (Or.inr ⟨by omega, rfl⟩)).2.2.2 | exact (ts33 x39 (Or.inl ⟨by omega, e_x39⟩)).2.2.2 | exact (ts33 n1 (Or.inr ⟨by omega, rfl⟩)).2.2.2 | fail)) (show (τ7.1 47) ≤ 1 + (x14 + 1) from by (first | omega | (simp only [st_s] <;> omega) | assumption | omega | fail))
