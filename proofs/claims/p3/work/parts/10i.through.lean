-- pure: steps are gone through
theorem J_vf_t {i us hu pr p : Int} {kd a tx fl rk fa fs hy pa ps pq : Int → Int} (t : J_t i us kd a tx fl rk) (f : J_f i hu pr kd a tx fl fa fs hy pa ps pq) (p0 : a i ≤ p) (p1 : p < a (i + 1)) (c : ¬ fl p = -1) : J_vf i (tx p) kd a tx fa fs hy := by
  rcases t.2.2 p p0 p1 with q | ⟨q1, q2, q3, q4⟩
  · exact absurd q c
  · obtain ⟨k, k0, k1, k2⟩ := f.2.2.1 p p0 p1 q1
    exact ⟨k, k0, k1, by rw [k2]; exact q3, by rw [k2]; exact q4⟩
theorem J_r_new {n ru rows : Int} {kd fs ra rc rs ca ch : Int → Int} (h : J_rb n ru rows kd fs rs ca ch) (r1 : 1 ≤ rows) : J_r n (ru + rows) kd fs (st ra n ru) (st rc n rows) rs ca ch := by
  refine ⟨⟨by rw [st_s]; exact r1, by rw [st_s, st_s]; exact Int.le_refl _⟩, fun r a b => ?_⟩
  rw [st_s] at a ⊢
  rw [st_s, st_s] at b
  exact h r a b
set_option maxHeartbeats 1000000 in
theorem K_X0_keepRows {n1 : Int} {n2 : Int} {σ : S0} (hT : c_T σ) (p1 : 0 ≤ n1) (p2 : n1 < 1500) (p3 : 0 ≤ n2) (p4 : (σ.1 15) + n2 ≤ 20000) (p5 : ∀ r c : Int, (σ.1 15) ≤ r → r < (σ.1 15) + n2 → σ.2.1 36 r ≤ c → c < σ.2.1 36 (r + 1) → (σ.1 15) + σ.2.1 37 c < 20000) (p6 : (σ.1 7) ≤ n1) : W_X0_keepRows n1 n2 σ (fun (τ : S0) => (c_T τ) ∧ ((τ.1 15) = (σ.1 15) + n2) ∧ (τ.2.1 33 = st (σ.2.1 33) n1 (σ.1 15)) ∧ (τ.2.1 34 = st (σ.2.1 34) n1 n2) ∧ (c_ag σ τ)) := by
  have A33 : ∀ j, 0 ≤ σ.2.1 33 j ∧ σ.2.1 33 j ≤ 20000 := fun j => hT.2 33 j
  have A34 : ∀ j, 0 ≤ σ.2.1 34 j ∧ σ.2.1 34 j ≤ 20000 := fun j => hT.2 34 j
  have A36 : ∀ j, 0 ≤ σ.2.1 36 j ∧ σ.2.1 36 j ≤ 20000 := fun j => hT.2 36 j
  have A37 : ∀ j, 0 ≤ σ.2.1 37 j ∧ σ.2.1 37 j ≤ 19999 := fun j => hT.2 37 j
  have v3 : 0 ≤ σ.1 3 ∧ σ.1 3 ≤ 2500 := hT.1 3
  have v5 : 0 ≤ σ.1 5 ∧ σ.1 5 ≤ 1000 := hT.1 5
  have v6 : 0 ≤ σ.1 6 ∧ σ.1 6 ≤ 30000 := hT.1 6
  have v7 : 0 ≤ σ.1 7 ∧ σ.1 7 ≤ 1500 := hT.1 7
  have v13 : 0 ≤ σ.1 13 ∧ σ.1 13 ≤ 90000 := hT.1 13
  have v14 : 0 ≤ σ.1 14 ∧ σ.1 14 ≤ 20000 := hT.1 14
  have v15 : 0 ≤ σ.1 15 ∧ σ.1 15 ≤ 20000 := hT.1 15
  have v16 : 0 ≤ σ.1 16 ∧ σ.1 16 ≤ 20000 := hT.1 16
  have W3 : σ.1 3 = σ.1 3 := rfl
  have W5 : σ.1 5 = σ.1 5 := rfl
  have W6 : σ.1 6 = σ.1 6 := rfl
  have W7 : σ.1 7 = σ.1 7 := rfl
  have W13 : σ.1 13 = σ.1 13 := rfl
  have W14 : σ.1 14 = σ.1 14 := rfl
  have W16 : σ.1 16 = σ.1 16 := rfl
  have G36 : σ.2.1 36 = σ.2.1 36 := rfl
  have G37 : σ.2.1 37 = σ.2.1 37 := rfl
  have ag : c_ag σ σ := ag_0 σ
  intro P22 P43 h22 h43
  have l_22 : ∀ (m_22 : Nat) (u3_22 : Int) (τ_22 : S0), 20001 - u3_22 < (m_22 : Int) → (c_T τ_22) → (c_ag σ τ_22) → (τ_22.1 3 = σ.1 3) → (τ_22.1 5 = σ.1 5) → (τ_22.1 6 = σ.1 6) → (τ_22.1 7 = σ.1 7) → (τ_22.1 13 = σ.1 13) → (τ_22.1 14 = σ.1 14) → (τ_22.1 16 = σ.1 16) → (τ_22.2.1 36 = σ.2.1 36) → (τ_22.2.1 37 = σ.2.1 37) → ((σ.1 15) ≤ u3_22) → (u3_22 ≤ (σ.1 15) + n2) → ((τ_22.1 15) = (σ.1 15)) → (τ_22.2.1 33 = st (σ.2.1 33) n1 (σ.1 15)) → (τ_22.2.1 34 = st (σ.2.1 34) n1 n2) → P22 n2 u3_22 τ_22 := by
    intro m_22
    induction m_22 with
    | zero =>
      intro u3_22 τ_22 hm hT ag W3 W5 W6 W7 W13 W14 W16 G36 G37 i22_1 i22_2 i22_3 i22_4 i22_5
      have A33 : ∀ j, 0 ≤ τ_22.2.1 33 j ∧ τ_22.2.1 33 j ≤ 20000 := fun j => hT.2 33 j
      have A34 : ∀ j, 0 ≤ τ_22.2.1 34 j ∧ τ_22.2.1 34 j ≤ 20000 := fun j => hT.2 34 j
      have A36 : ∀ j, 0 ≤ τ_22.2.1 36 j ∧ τ_22.2.1 36 j ≤ 20000 := fun j => hT.2 36 j
      have A37 : ∀ j, 0 ≤ τ_22.2.1 37 j ∧ τ_22.2.1 37 j ≤ 19999 := fun j => hT.2 37 j
      have v3 : 0 ≤ τ_22.1 3 ∧ τ_22.1 3 ≤ 2500 := hT.1 3
      have v5 : 0 ≤ τ_22.1 5 ∧ τ_22.1 5 ≤ 1000 := hT.1 5
      have v6 : 0 ≤ τ_22.1 6 ∧ τ_22.1 6 ≤ 30000 := hT.1 6
      have v7 : 0 ≤ τ_22.1 7 ∧ τ_22.1 7 ≤ 1500 := hT.1 7
      have v13 : 0 ≤ τ_22.1 13 ∧ τ_22.1 13 ≤ 90000 := hT.1 13
      have v14 : 0 ≤ τ_22.1 14 ∧ τ_22.1 14 ≤ 20000 := hT.1 14
      have v15 : 0 ≤ τ_22.1 15 ∧ τ_22.1 15 ≤ 20000 := hT.1 15
      have v16 : 0 ≤ τ_22.1 16 ∧ τ_22.1 16 ≤ 20000 := hT.1 16
      have av15 : σ.1 15 ≤ τ_22.1 15 := ag.1 15 (by decide)
      exfalso; (first | omega | (simp only [st_s] <;> omega) | assumption | omega | fail)
    | succ m_22 ih_22 =>
      intro u3_22 τ_22 hm_22 hT ag W3 W5 W6 W7 W13 W14 W16 G36 G37 i22_1 i22_2 i22_3 i22_4 i22_5
      have A33 : ∀ j, 0 ≤ τ_22.2.1 33 j ∧ τ_22.2.1 33 j ≤ 20000 := fun j => hT.2 33 j
      have A34 : ∀ j, 0 ≤ τ_22.2.1 34 j ∧ τ_22.2.1 34 j ≤ 20000 := fun j => hT.2 34 j
      have A36 : ∀ j, 0 ≤ τ_22.2.1 36 j ∧ τ_22.2.1 36 j ≤ 20000 := fun j => hT.2 36 j
      have A37 : ∀ j, 0 ≤ τ_22.2.1 37 j ∧ τ_22.2.1 37 j ≤ 19999 := fun j => hT.2 37 j
      have v3 : 0 ≤ τ_22.1 3 ∧ τ_22.1 3 ≤ 2500 := hT.1 3
      have v5 : 0 ≤ τ_22.1 5 ∧ τ_22.1 5 ≤ 1000 := hT.1 5
      have v6 : 0 ≤ τ_22.1 6 ∧ τ_22.1 6 ≤ 30000 := hT.1 6
      have v7 : 0 ≤ τ_22.1 7 ∧ τ_22.1 7 ≤ 1500 := hT.1 7
      have v13 : 0 ≤ τ_22.1 13 ∧ τ_22.1 13 ≤ 90000 := hT.1 13
      have v14 : 0 ≤ τ_22.1 14 ∧ τ_22.1 14 ≤ 20000 := hT.1 14
      have v15 : 0 ≤ τ_22.1 15 ∧ τ_22.1 15 ≤ 20000 := hT.1 15
      have v16 : 0 ≤ τ_22.1 16 ∧ τ_22.1 16 ≤ 20000 := hT.1 16
      have av15 : σ.1 15 ≤ τ_22.1 15 := ag.1 15 (by decide)
      have l_43 : ∀ (m_43 : Nat) (u3_43 : Int) (u4_43 : Int64) (u6_43 : Int) (τ_43 : S0), 20001 - u6_43 < (m_43 : Int) → (c_T τ_43) → (c_ag σ τ_43) → (τ_43.1 3 = σ.1 3) → (τ_43.1 5 = σ.1 5) → (τ_43.1 6 = σ.1 6) → (τ_43.1 7 = σ.1 7) → (τ_43.1 13 = σ.1 13) → (τ_43.1 14 = σ.1 14) → (τ_43.1 16 = σ.1 16) → (τ_43.2.1 36 = σ.2.1 36) → (τ_43.2.1 37 = σ.2.1 37) → ((σ.1 15) ≤ u3_43) → (u3_43 < (σ.1 15) + n2) → ((τ_43.1 15) = (σ.1 15)) → (τ_43.2.1 33 = st (σ.2.1 33) n1 (σ.1 15)) → (τ_43.2.1 34 = st (σ.2.1 34) n1 n2) → (σ.2.1 36 u3_43 ≤ u6_43) → (u6_43 ≤ 20000) → (u3_43 + (m_22 : Int) ≥ 20001) → P43 n2 u3_43 u4_43 u6_43 τ_43 := by
        intro m_43
        induction m_43 with
        | zero =>
          intro u3_43 u4_43 u6_43 τ_43 hm hT ag W3 W5 W6 W7 W13 W14 W16 G36 G37 i43_1 i43_2 i43_3 i43_4 i43_5 i43_6 i43_7 i43_8
          have A33 : ∀ j, 0 ≤ τ_43.2.1 33 j ∧ τ_43.2.1 33 j ≤ 20000 := fun j => hT.2 33 j
          have A34 : ∀ j, 0 ≤ τ_43.2.1 34 j ∧ τ_43.2.1 34 j ≤ 20000 := fun j => hT.2 34 j
          have A36 : ∀ j, 0 ≤ τ_43.2.1 36 j ∧ τ_43.2.1 36 j ≤ 20000 := fun j => hT.2 36 j
          have A37 : ∀ j, 0 ≤ τ_43.2.1 37 j ∧ τ_43.2.1 37 j ≤ 19999 := fun j => hT.2 37 j
          have v3 : 0 ≤ τ_43.1 3 ∧ τ_43.1 3 ≤ 2500 := hT.1 3
          have v5 : 0 ≤ τ_43.1 5 ∧ τ_43.1 5 ≤ 1000 := hT.1 5
          have v6 : 0 ≤ τ_43.1 6 ∧ τ_43.1 6 ≤ 30000 := hT.1 6
          have v7 : 0 ≤ τ_43.1 7 ∧ τ_43.1 7 ≤ 1500 := hT.1 7
          have v13 : 0 ≤ τ_43.1 13 ∧ τ_43.1 13 ≤ 90000 := hT.1 13
          have v14 : 0 ≤ τ_43.1 14 ∧ τ_43.1 14 ≤ 20000 := hT.1 14
          have v15 : 0 ≤ τ_43.1 15 ∧ τ_43.1 15 ≤ 20000 := hT.1 15
          have v16 : 0 ≤ τ_43.1 16 ∧ τ_43.1 16 ≤ 20000 := hT.1 16
          have av15 : σ.1 15 ≤ τ_43.1 15 := ag.1 15 (by decide)
          exfalso; (first | omega | (simp only [st_s] <;> omega) | assumption | omega | fail)
        | succ m_43 ih_43 =>
          intro u3_43 u4_43 u6_43 τ_43 hm_43 hT ag W3 W5 W6 W7 W13 W14 W16 G36 G37 i43_1 i43_2 i43_3 i43_4 i43_5 i43_6 i43_7 i43_8
          have A33 : ∀ j, 0 ≤ τ_43.2.1 33 j ∧ τ_43.2.1 33 j ≤ 20000 := fun j => hT.2 33 j
          have A34 : ∀ j, 0 ≤ τ_43.2.1 34 j ∧ τ_43.2.1 34 j ≤ 20000 := fun j => hT.2 34 j
          have A36 : ∀ j, 0 ≤ τ_43.2.1 36 j ∧ τ_43.2.1 36 j ≤ 20000 := fun j => hT.2 36 j
          have A37 : ∀ j, 0 ≤ τ_43.2.1 37 j ∧ τ_43.2.1 37 j ≤ 19999 := fun j => hT.2 37 j
          have v3 : 0 ≤ τ_43.1 3 ∧ τ_43.1 3 ≤ 2500 := hT.1 3
          have v5 : 0 ≤ τ_43.1 5 ∧ τ_43.1 5 ≤ 1000 := hT.1 5
          have v6 : 0 ≤ τ_43.1 6 ∧ τ_43.1 6 ≤ 30000 := hT.1 6
          have v7 : 0 ≤ τ_43.1 7 ∧ τ_43.1 7 ≤ 1500 := hT.1 7
          have v13 : 0 ≤ τ_43.1 13 ∧ τ_43.1 13 ≤ 90000 := hT.1 13
          have v14 : 0 ≤ τ_43.1 14 ∧ τ_43.1 14 ≤ 20000 := hT.1 14
          have v15 : 0 ≤ τ_43.1 15 ∧ τ_43.1 15 ≤ 20000 := hT.1 15
          have v16 : 0 ≤ τ_43.1 16 ∧ τ_43.1 16 ≤ 20000 := hT.1 16
          have av15 : σ.1 15 ≤ τ_43.1 15 := ag.1 15 (by decide)
          have a36u := A36 u3_43
          rw [G36] at a36u
          refine h43 n2 u3_43 u4_43 u6_43 τ_43 ?_
          refine ⟨(show 0 ≤ (u3_43 + 1) ∧ (u3_43 + 1) < 20001 from by (first | omega | (simp only [st_s] <;> omega) | assumption | omega | fail)), ?_⟩
          intro x7 r_x7 e_x7
          have b_x7 : 0 ≤ x7 ∧ x7 ≤ 20000 := by rw [e_x7]; exact hT.2 36 _
          rw [G36] at e_x7
          refine ⟨fun c8 => ?_, fun c8 => ?_⟩
          ·
            refine ⟨(show 0 ≤ u3_43 ∧ u3_43 < 20000 from by (first | omega | (simp only [st_s] <;> omega) | assumption | omega | fail)), ?_⟩
            replace ag := ag_b (k := 1) (e := u3_43) (x := u4_43) ag
            replace hT := cT_b (k := 1) (j := u3_43) (x := u4_43) hT
            exact ih_22 _ _ (show (20001 - (u3_43 + 1) : Int) < ((m_22 : Nat) : Int) from by ((first | omega | (simp only [st_s] <;> omega) | assumption | omega | fail))) hT ag (show τ_43.1 3 = σ.1 3 from by first | exact W3 | omega) (show τ_43.1 5 = σ.1 5 from by first | exact W5 | omega) (show τ_43.1 6 = σ.1 6 from by first | exact W6 | omega) (show τ_43.1 7 = σ.1 7 from by first | exact W7 | omega) (show τ_43.1 13 = σ.1 13 from by first | exact W13 | omega) (show τ_43.1 14 = σ.1 14 from by first | exact W14 | omega) (show τ_43.1 16 = σ.1 16 from by first | exact W16 | omega) G36 G37 (show (σ.1 15) ≤ (u3_43 + 1) from by (first | omega | (simp only [st_s] <;> omega) | assumption | omega | fail)) (show (u3_43 + 1) ≤ (σ.1 15) + n2 from by (first | omega | (simp only [st_s] <;> omega) | assumption | omega | fail)) (show (τ_43.1 15) = (σ.1 15) from by (first | omega | (simp only [st_s] <;> omega) | assumption | omega | fail)) (show τ_43.2.1 33 = st (σ.2.1 33) n1 (σ.1 15) from by (first | rfl | assumption | fail)) (show τ_43.2.1 34 = st (σ.2.1 34) n1 n2 from by (first | rfl | assumption | fail))
          ·
            have b36 := A36 (u3_43 + 1)
            refine ⟨(show 0 ≤ u6_43 ∧ u6_43 < 20000 from by (first | omega | (simp only [st_s] <;> omega) | assumption | omega | fail)), ?_⟩
            intro x11 r_x11 e_x11
            have b_x11 : 0 ≤ x11 ∧ x11 ≤ 19999 := by rw [e_x11]; exact hT.2 37 _
            have cc := p5 u3_43 u6_43 (by omega) (by omega) (by omega) (by omega)
            rw [← G37, ← e_x11] at cc
            refine ⟨(show 0 ≤ (τ_43.1 15 + x11) ∧ (τ_43.1 15 + x11) < 20000 from by (first | omega | (simp only [st_s] <;> omega) | assumption | omega | fail)), ?_⟩
            intro x13 e_x13
            refine ⟨(⟨by (first | omega | (simp only [st_s] <;> omega) | assumption | omega | fail), by (first | omega | (simp only [st_s] <;> omega) | assumption | omega | fail)⟩ : rg (u6_43 + 1)), ?_⟩
            exact ih_43 _ _ _ _ (show (20001 - (u6_43 + 1) : Int) < ((m_43 : Nat) : Int) from by ((first | omega | (simp only [st_s] <;> omega) | assumption | omega | fail))) hT ag (show τ_43.1 3 = σ.1 3 from by first | exact W3 | omega) (show τ_43.1 5 = σ.1 5 from by first | exact W5 | omega) (show τ_43.1 6 = σ.1 6 from by first | exact W6 | omega) (show τ_43.1 7 = σ.1 7 from by first | exact W7 | omega) (show τ_43.1 13 = σ.1 13 from by first | exact W13 | omega) (show τ_43.1 14 = σ.1 14 from by first | exact W14 | omega) (show τ_43.1 16 = σ.1 16 from by first | exact W16 | omega) G36 G37 (show (σ.1 15) ≤ u3_43 from by (first | omega | (simp only [st_s] <;> omega) | assumption | omega | fail)) (show u3_43 < (σ.1 15) + n2 from by (first | omega | (simp only [st_s] <;> omega) | assumption | omega | fail)) (show (τ_43.1 15) = (σ.1 15) from by (first | omega | (simp only [st_s] <;> omega) | assumption | omega | fail)) (show τ_43.2.1 33 = st (σ.2.1 33) n1 (σ.1 15) from by (first | rfl | assumption | fail)) (show τ_43.2.1 34 = st (σ.2.1 34) n1 n2 from by (first | rfl | assumption | fail)) (show σ.2.1 36 u3_43 ≤ (u6_43 + 1) from by (first | omega | (simp only [st_s] <;> omega) | assumption | omega | fail)) (show (u6_43 + 1) ≤ 20000 from by (first | omega | (simp only [st_s] <;> omega) | assumption | omega | fail)) (show u3_43 + (m_22 : Int) ≥ 20001 from by (first | omega | (simp only [st_s] <;> omega) | assumption | omega | fail))
      refine h22 n2 u3_22 τ_22 ?_
      refine ⟨(⟨by (first | omega | (simp only [st_s] <;> omega) | assumption | omega | fail), by (first | omega | (simp only [st_s] <;> omega) | assumption | omega | fail)⟩ : rg (τ_22.1 15 + n2)), ?_⟩
      refine ⟨fun c3 => ?_, fun c3 => ?_⟩
      ·
        replace ag := ag_v (i := 15) (x := (τ_22.1 15 + n2)) ag (Or.inr (show σ.1 15 ≤ (τ_22.1 15 + n2) from by (first | omega | (simp only [st_s] <;> omega) | assumption | omega | fail)))
        replace hT := cT_v (i := 15) hT (show 0 ≤ (τ_22.1 15 + n2) ∧ (τ_22.1 15 + n2) ≤ 20000 from by (first | omega | (simp only [st_s] <;> omega) | assumption | omega | fail))
        exact ⟨hT, (show ((τ_22.1 15 + n2)) = (σ.1 15) + n2 from by (first | omega | (simp only [st_s] <;> omega) | assumption | omega | fail)), (show τ_22.2.1 33 = st (σ.2.1 33) n1 (σ.1 15) from by exact i22_4), (show τ_22.2.1 34 = st (σ.2.1 34) n1 n2 from by exact i22_5), ag⟩
      ·
        refine ⟨(show 0 ≤ u3_22 ∧ u3_22 < 20001 from by (first | omega | (simp only [st_s] <;> omega) | assumption | omega | fail)), ?_⟩
        intro x5 r_x5 e_x5
        have b_x5 : 0 ≤ x5 ∧ x5 ≤ 20000 := by rw [e_x5]; exact hT.2 36 _
        rw [G36] at e_x5
        exact l_43 ((20001 - x5 : Int).toNat + 1) _ _ _ _ (show (20001 - x5 : Int) < (((20001 - x5 : Int).toNat + 1 : Nat) : Int) from by ((first | omega | (simp only [st_s] <;> omega) | assumption | omega | fail))) hT ag (show τ_22.1 3 = σ.1 3 from by first | exact W3 | omega) (show τ_22.1 5 = σ.1 5 from by first | exact W5 | omega) (show τ_22.1 6 = σ.1 6 from by first | exact W6 | omega) (show τ_22.1 7 = σ.1 7 from by first | exact W7 | omega) (show τ_22.1 13 = σ.1 13 from by first | exact W13 | omega) (show τ_22.1 14 = σ.1 14 from by first | exact W14 | omega) (show τ_22.1 16 = σ.1 16 from by first | exact W16 | omega) G36 G37 (show (σ.1 15) ≤ u3_22 from by (first | omega | (simp only [st_s] <;> omega) | assumption | omega | fail)) (show u3_22 < (σ.1 15) + n2 from by (first | omega | (simp only [st_s] <;> omega) | assumption | omega | fail)) (show (τ_22.1 15) = (σ.1 15) from by (first | omega | (simp only [st_s] <;> omega) | assumption | omega | fail)) (show τ_22.2.1 33 = st (σ.2.1 33) n1 (σ.1 15) from by (first | rfl | assumption | fail)) (show τ_22.2.1 34 = st (σ.2.1 34) n1 n2 from by (first | rfl | assumption | fail)) (show σ.2.1 36 u3_22 ≤ x5 from by (first | omega | (simp only [st_s] <;> omega) | assumption | omega | fail)) (show x5 ≤ 20000 from by (first | omega | (simp only [st_s] <;> omega) | assumption | omega | fail)) (show u3_22 + (m_22 : Int) ≥ 20001 from by (first | omega | (simp only [st_s] <;> omega) | assumption | omega | fail))
  refine ⟨(show 0 ≤ n1 ∧ n1 < 1500 from by (first | omega | (simp only [st_s] <;> omega) | assumption | omega | fail)), ?_⟩
  replace ag := ag_w (k := 33) (x := (σ.1 15)) 7 0 ag rfl (show σ.1 7 + 0 ≤ n1 from by (first | omega | (simp only [st_s] <;> omega) | assumption | omega | fail))
  replace hT := cT_a (k := 33) (j := n1) hT (show (0 : Int) ≤ (σ.1 15) ∧ (σ.1 15) ≤ 20000 from by (first | omega | (simp only [st_s] <;> omega) | assumption | omega | fail))
  replace ag := ag_w (k := 34) (x := n2) 7 0 ag rfl (show σ.1 7 + 0 ≤ n1 from by (first | omega | (simp only [st_s] <;> omega) | assumption | omega | fail))
  replace hT := cT_a (k := 34) (j := n1) hT (show (0 : Int) ≤ n2 ∧ n2 ≤ 20000 from by (first | omega | (simp only [st_s] <;> omega) | assumption | omega | fail))
  exact l_22 ((20001 - (σ.1 15) : Int).toNat + 1) _ _ (show (20001 - (σ.1 15) : Int) < (((20001 - (σ.1 15) : Int).toNat + 1 : Nat) : Int) from by ((first | omega | (simp only [st_s] <;> omega) | assumption | omega | fail))) hT ag (show σ.1 3 = σ.1 3 from by first | exact W3 | omega) (show σ.1 5 = σ.1 5 from by first | exact W5 | omega) (show σ.1 6 = σ.1 6 from by first | exact W6 | omega) (show σ.1 7 = σ.1 7 from by first | exact W7 | omega) (show σ.1 13 = σ.1 13 from by first | exact W13 | omega) (show σ.1 14 = σ.1 14 from by first | exact W14 | omega) (show σ.1 16 = σ.1 16 from by first | exact W16 | omega) G36 G37 (show (σ.1 15) ≤ (σ.1 15) from by (first | omega | (simp only [st_s] <;> omega) | assumption | omega | fail)) (show (σ.1 15) ≤ (σ.1 15) + n2 from by (first | omega | (simp only [st_s] <;> omega) | assumption | omega | fail)) (show (σ.1 15) = (σ.1 15) from by (first | omega | (simp only [st_s] <;> omega) | assumption | omega | fail)) (show (st (σ.2.1 33) n1 (σ.1 15)) = st (σ.2.1 33) n1 (σ.1 15) from by (first | rfl | assumption | fail)) (show (st (σ.2.1 34) n1 n2) = st (σ.2.1 34) n1 n2 from by (first | rfl | assumption | fail))
set_option maxHeartbeats 4000000 in
theorem K_X10_take {n1 : Int} {σ : S0} (hT : c_T σ) (p1 : 0 ≤ n1) (p2 : n1 < 131072) (p3 : n1 % 65536 < (σ.1 7)) (p4 : J_all (σ.1 7) (σ.1 6) (σ.1 13) (σ.1 14) (σ.1 15) (σ.2.1 13) (σ.2.1 14) (σ.2.1 15) (σ.2.1 16) (σ.2.1 10) (σ.2.1 27) (σ.2.1 28) (σ.2.1 29) (σ.2.1 30) (σ.2.1 31) (σ.2.1 32) (σ.2.1 33) (σ.2.1 34) (σ.2.1 35) (σ.2.1 36) (σ.2.1 37)) (p5 : J_bp (σ.2.1 44) (σ.2.1 45)) (p6 : J_dt (σ.1 17) (σ.1 18) (σ.1 32) (σ.2.1 39) (σ.2.1 40) (σ.2.1 41)) (p7 : J_pl (σ.1 17) (σ.1 31) (σ.1 32) (σ.1 30) (σ.2.1 42) (σ.2.1 41) (σ.2.1 52)) (p8 : J_sv (σ.1 32) (σ.1 23) (σ.2.1 42) (σ.2.1 53)) (p9 : J_rb (σ.1 7) (σ.1 15) (σ.1 32) (σ.2.1 13) (σ.2.1 28) (σ.2.1 35) (σ.2.1 36) (σ.2.1 37)) (p10 : (σ.1 15) + (σ.1 32) < 20000) (p11 : σ.2.1 36 ((σ.1 15) + (σ.1 32)) + (σ.1 30) < 20000) (p12 : 65536 ≤ n1 → (σ.1 23) < 300) (p13 : 0 ≤ (σ.1 31) ∧ (σ.1 31) ≤ 40000) (p14 : J_vs (σ.1 6) (σ.1 5) (σ.2.1 15)) : W_X10_take n1 σ (fun (x : Int) (τ : S0) => (c_T τ) ∧ (0 ≤ x ∧ x ≤ 19) ∧ (x = 0 → 0 ≤ (τ.1 31) ∧ (τ.1 31) ≤ 40000) ∧ (x = 0 → J_dt (τ.1 17) (τ.1 18) (τ.1 32) (τ.2.1 39) (τ.2.1 40) (τ.2.1 41)) ∧ (x = 0 → J_pl (τ.1 17) (τ.1 31) (τ.1 32) (τ.1 30) (τ.2.1 42) (τ.2.1 41) (τ.2.1 52)) ∧ (x = 0 → J_sv (τ.1 32) (τ.1 23) (τ.2.1 42) (τ.2.1 53)) ∧ (x = 0 → J_rb (τ.1 7) (τ.1 15) (τ.1 32) (τ.2.1 13) (τ.2.1 28) (τ.2.1 35) (τ.2.1 36) (τ.2.1 37)) ∧ (J_bp (τ.2.1 44) (τ.2.1 45)) ∧ (J_all (τ.1 7) (τ.1 6) (τ.1 13) (τ.1 14) (τ.1 15) (τ.2.1 13) (τ.2.1 14) (τ.2.1 15) (τ.2.1 16) (τ.2.1 10) (τ.2.1 27) (τ.2.1 28) (τ.2.1 29) (τ.2.1 30) (τ.2.1 31) (τ.2.1 32) (τ.2.1 33) (τ.2.1 34) (τ.2.1 35) (τ.2.1 36) (τ.2.1 37)) ∧ (j_eq (σ.2.1 36 (σ.1 15)) (σ.2.1 37) (τ.2.1 37)) ∧ (x = 0 → (τ.1 32) = (σ.1 32) + 1 ∧ τ.2.1 36 ((σ.1 15) + (σ.1 32) + 1) + (τ.1 30) = σ.2.1 36 ((σ.1 15) + (σ.1 32)) + (σ.1 30) + 1) ∧ (x = 0 → (n1 < 65536 → (τ.1 23) = (σ.1 23)) ∧ (65536 ≤ n1 → (τ.1 23) = (σ.1 23) + 1)) ∧ (c_ag σ τ)) := by
  have A10 : ∀ j, (-1) ≤ σ.2.1 10 j ∧ σ.2.1 10 j ≤ 99 := fun j => hT.2 10 j
  have A13 : ∀ j, 0 ≤ σ.2.1 13 j ∧ σ.2.1 13 j ≤ 4 := fun j => hT.2 13 j
  have A14 : ∀ j, 0 ≤ σ.2.1 14 j ∧ σ.2.1 14 j ≤ 30000 := fun j => hT.2 14 j
  have A15 : ∀ j, 0 ≤ σ.2.1 15 j ∧ σ.2.1 15 j ≤ 999 := fun j => hT.2 15 j
  have A16 : ∀ j, (-1) ≤ σ.2.1 16 j ∧ σ.2.1 16 j ≤ 1499 := fun j => hT.2 16 j
  have A27 : ∀ j, 0 ≤ σ.2.1 27 j ∧ σ.2.1 27 j ≤ 90000 := fun j => hT.2 27 j
  have A28 : ∀ j, 0 ≤ σ.2.1 28 j ∧ σ.2.1 28 j ≤ 60 := fun j => hT.2 28 j
  have A29 : ∀ j, 0 ≤ σ.2.1 29 j ∧ σ.2.1 29 j ≤ 1499 := fun j => hT.2 29 j
  have A30 : ∀ j, 0 ≤ σ.2.1 30 j ∧ σ.2.1 30 j ≤ 20000 := fun j => hT.2 30 j
  have A31 : ∀ j, 0 ≤ σ.2.1 31 j ∧ σ.2.1 31 j ≤ 20000 := fun j => hT.2 31 j
  have A32 : ∀ j, 0 ≤ σ.2.1 32 j ∧ σ.2.1 32 j ≤ 999999 := fun j => hT.2 32 j
  have A33 : ∀ j, 0 ≤ σ.2.1 33 j ∧ σ.2.1 33 j ≤ 20000 := fun j => hT.2 33 j
  have A34 : ∀ j, 0 ≤ σ.2.1 34 j ∧ σ.2.1 34 j ≤ 20000 := fun j => hT.2 34 j
  have A35 : ∀ j, 0 ≤ σ.2.1 35 j ∧ σ.2.1 35 j ≤ 1499 := fun j => hT.2 35 j
  have A36 : ∀ j, 0 ≤ σ.2.1 36 j ∧ σ.2.1 36 j ≤ 20000 := fun j => hT.2 36 j
  have A37 : ∀ j, 0 ≤ σ.2.1 37 j ∧ σ.2.1 37 j ≤ 19999 := fun j => hT.2 37 j
  have A39 : ∀ j, 0 ≤ σ.2.1 39 j ∧ σ.2.1 39 j ≤ 1060 := fun j => hT.2 39 j
  have A40 : ∀ j, 0 ≤ σ.2.1 40 j ∧ σ.2.1 40 j ≤ 42000 := fun j => hT.2 40 j
  have A41 : ∀ j, (-2) ≤ σ.2.1 41 j ∧ σ.2.1 41 j ≤ 1000 := fun j => hT.2 41 j
  have A42 : ∀ j, (-2147483648) ≤ σ.2.1 42 j ∧ σ.2.1 42 j ≤ 2147483647 := fun j => hT.2 42 j
  have A43 : ∀ j, 0 ≤ σ.2.1 43 j ∧ σ.2.1 43 j ≤ 1060 := fun j => hT.2 43 j
  have A44 : ∀ j, 0 ≤ σ.2.1 44 j ∧ σ.2.1 44 j ≤ 42000 := fun j => hT.2 44 j
  have A45 : ∀ j, 0 ≤ σ.2.1 45 j ∧ σ.2.1 45 j ≤ 1000 := fun j => hT.2 45 j
  have A52 : ∀ j, 0 ≤ σ.2.1 52 j ∧ σ.2.1 52 j ≤ 19999 := fun j => hT.2 52 j
  have A53 : ∀ j, 0 ≤ σ.2.1 53 j ∧ σ.2.1 53 j ≤ 19999 := fun j => hT.2 53 j
  have v3 : 0 ≤ σ.1 3 ∧ σ.1 3 ≤ 2500 := hT.1 3
  have v5 : 0 ≤ σ.1 5 ∧ σ.1 5 ≤ 1000 := hT.1 5
  have v6 : 0 ≤ σ.1 6 ∧ σ.1 6 ≤ 30000 := hT.1 6
  have v7 : 0 ≤ σ.1 7 ∧ σ.1 7 ≤ 1500 := hT.1 7
  have v13 : 0 ≤ σ.1 13 ∧ σ.1 13 ≤ 90000 := hT.1 13
  have v14 : 0 ≤ σ.1 14 ∧ σ.1 14 ≤ 20000 := hT.1 14
  have v15 : 0 ≤ σ.1 15 ∧ σ.1 15 ≤ 20000 := hT.1 15
  have v16 : 0 ≤ σ.1 16 ∧ σ.1 16 ≤ 20000 := hT.1 16
  have v17 : 0 ≤ σ.1 17 ∧ σ.1 17 ≤ 42000 := hT.1 17
  have v18 : 0 ≤ σ.1 18 ∧ σ.1 18 ≤ 42000 := hT.1 18
  have v19 : 0 ≤ σ.1 19 ∧ σ.1 19 ≤ 1000 := hT.1 19
  have v23 : 0 ≤ σ.1 23 ∧ σ.1 23 ≤ 300 := hT.1 23
  have v30 : 0 ≤ σ.1 30 ∧ σ.1 30 ≤ 200 := hT.1 30
  have v31 : (-2147483648) ≤ σ.1 31 ∧ σ.1 31 ≤ 2147483647 := hT.1 31
  have v32 : 0 ≤ σ.1 32 ∧ σ.1 32 ≤ 20000 := hT.1 32
  have a36_15 : 0 ≤ σ.2.1 36 (σ.1 15) ∧ σ.2.1 36 (σ.1 15) ≤ 20000 := hT.2 36 _
  have W3 : σ.1 3 = σ.1 3 := rfl
  have W5 : σ.1 5 = σ.1 5 := rfl
  have W6 : σ.1 6 = σ.1 6 := rfl
  have W7 : σ.1 7 = σ.1 7 := rfl
  have W13 : σ.1 13 = σ.1 13 := rfl
  have W14 : σ.1 14 = σ.1 14 := rfl
  have W15 : σ.1 15 = σ.1 15 := rfl
  have W16 : σ.1 16 = σ.1 16 := rfl
  have G10 : σ.2.1 10 = σ.2.1 10 := rfl
  have G13 : σ.2.1 13 = σ.2.1 13 := rfl
  have G14 : σ.2.1 14 = σ.2.1 14 := rfl
  have G15 : σ.2.1 15 = σ.2.1 15 := rfl
  have G16 : σ.2.1 16 = σ.2.1 16 := rfl
  have G27 : σ.2.1 27 = σ.2.1 27 := rfl
  have G28 : σ.2.1 28 = σ.2.1 28 := rfl
  have G29 : σ.2.1 29 = σ.2.1 29 := rfl
  have G30 : σ.2.1 30 = σ.2.1 30 := rfl
  have G31 : σ.2.1 31 = σ.2.1 31 := rfl
  have G32 : σ.2.1 32 = σ.2.1 32 := rfl
  have G33 : σ.2.1 33 = σ.2.1 33 := rfl
  have G34 : σ.2.1 34 = σ.2.1 34 := rfl
  have ag : c_ag σ σ := ag_0 σ
  intro P82 P166 P195 P271 h82 h166 h195 h271
  have hT0 := hT
  have s40 := A40
  have s52 := A52
  have CH := j_eq0 (σ.2.1 36 (σ.1 15)) (σ.2.1 37)
  have n0 : 0 ≤ n1 % 65536 := by omega
  have jt := (p4.1 (n1 % 65536) n0 p3).1.1
  have vft : 2 ≤ σ.2.1 13 (n1 % 65536) → ∀ p : Int, σ.2.1 14 (n1 % 65536) ≤ p → p < σ.2.1 14 (n1 % 65536 + 1) → ¬ σ.2.1 16 p = -1 → J_vf (n1 % 65536) (σ.2.1 15 p) (σ.2.1 13) (σ.2.1 14) (σ.2.1 15) (σ.2.1 27) (σ.2.1 28) (σ.2.1 29) := fun z p a b c => J_vf_t (p4.1 (n1 % 65536) n0 p3).1 ((p4.1 (n1 % 65536) n0 p3).2.1 z) a b c
  have f0 : ∀ j, 0 ≤ σ.2.1 28 j := fun j => (A28 j).1
  have a36 := A36 (σ.1 15 + σ.1 32)
  have rb0 := J_rb_le p9 f0 (r := σ.1 15) (s := σ.1 15 + σ.1 32) (Int.le_refl _) (by omega) (Int.le_refl _)
  have prr := p7.1
  have szp : ∀ p : Int, 0 ≤ p → p < σ.1 30 → 0 ≤ σ.2.1 41 (σ.2.1 52 p) := fun p p0 p1 => (J_dt_b p6 (A52 p).1 (prr p p0 p1)).1
  have TX : J_vs (σ.1 6) (σ.1 5) (σ.2.1 15) := p14
  have CJ : J_all (σ.1 7) (σ.1 6) (σ.1 13) (σ.1 14) (σ.1 15) (σ.2.1 13) (σ.2.1 14) (σ.2.1 15) (σ.2.1 16) (σ.2.1 10) (σ.2.1 27) (σ.2.1 28) (σ.2.1 29) (σ.2.1 30) (σ.2.1 31) (σ.2.1 32) (σ.2.1 33) (σ.2.1 34) (σ.2.1 35) (σ.2.1 36) (σ.2.1 37) := p4
  have BP : J_bp (σ.2.1 44) (σ.2.1 45) := p5
  have DT : J_dt (σ.1 17) (σ.1 18) (σ.1 32) (σ.2.1 39) (σ.2.1 40) (σ.2.1 41) := p6
  have PL : J_pl (σ.1 17) (σ.1 31) (σ.1 32) (σ.1 30) (σ.2.1 42) (σ.2.1 41) (σ.2.1 52) := p7
  have SV : J_sv (σ.1 32) (σ.1 23) (σ.2.1 42) (σ.2.1 53) := p8
  have RB : J_rb (σ.1 7) (σ.1 15) (σ.1 32) (σ.2.1 13) (σ.2.1 28) (σ.2.1 35) (σ.2.1 36) (σ.2.1 37) := p9
  have BP_0 := BP
  have CH_0 := CH
  have CJ_0 := CJ
  have DT_0 := DT
  have PL_0 := PL
  have RB_0 := RB
  have SV_0 := SV
  have TX_0 := TX
  have l_195 : ∀ (m_195 : Nat) (u4_195 : Int) (u5_195 : Int) (u6_195 : Int) (τ_195 : S0), 61 - u6_195 < (m_195 : Int) → (c_T τ_195) → (c_ag σ τ_195) → (τ_195.1 3 = σ.1 3) → (τ_195.1 5 = σ.1 5) → (τ_195.1 6 = σ.1 6) → (τ_195.1 7 = σ.1 7) → (τ_195.1 13 = σ.1 13) → (τ_195.1 14 = σ.1 14) → (τ_195.1 15 = σ.1 15) → (τ_195.1 16 = σ.1 16) → (τ_195.2.1 10 = σ.2.1 10) → (τ_195.2.1 13 = σ.2.1 13) → (τ_195.2.1 14 = σ.2.1 14) → (τ_195.2.1 15 = σ.2.1 15) → (τ_195.2.1 16 = σ.2.1 16) → (τ_195.2.1 27 = σ.2.1 27) → (τ_195.2.1 28 = σ.2.1 28) → (τ_195.2.1 29 = σ.2.1 29) → (τ_195.2.1 30 = σ.2.1 30) → (τ_195.2.1 31 = σ.2.1 31) → (τ_195.2.1 32 = σ.2.1 32) → (τ_195.2.1 33 = σ.2.1 33) → (τ_195.2.1 34 = σ.2.1 34) → (u4_195 = σ.2.1 36 ((σ.1 15) + (σ.1 32))) → (0 ≤ u5_195 ∧ u5_195 ≤ (σ.1 30) ∧ u5_195 ≤ 60) → (u5_195 = (if 2 ≤ σ.2.1 13 (n1 % 65536) then σ.2.1 28 (n1 % 65536) else 0)) → (0 ≤ u6_195 ∧ u6_195 ≤ u5_195) → (∀ k : Int, 0 ≤ k → k < u5_195 → τ_195.2.1 37 (u4_195 + k) = σ.2.1 52 ((σ.1 30) - u5_195 + k)) → (J_rb (σ.1 7) (σ.1 15) ((σ.1 32) + 1) (σ.2.1 13) (σ.2.1 28) (τ_195.2.1 35) (τ_195.2.1 36) (τ_195.2.1 37)) → (j_eq (σ.2.1 36 (σ.1 15)) (σ.2.1 37) (τ_195.2.1 37)) → (J_bp (τ_195.2.1 44) (τ_195.2.1 45)) → (J_bt (τ_195.1 19) (τ_195.2.1 43)) → ((τ_195.1 31) = (σ.1 31) - sm (fun k => σ.2.1 41 (σ.2.1 52 ((σ.1 30) - u5_195 + k))) u6_195) → ((τ_195.1 17) = (σ.1 17) ∧ (τ_195.1 18) = (σ.1 18) ∧ (τ_195.1 32) = (σ.1 32) ∧ (τ_195.1 30) = (σ.1 30) ∧ (τ_195.1 23) = (σ.1 23)) → (τ_195.2.1 39 = σ.2.1 39) → (τ_195.2.1 40 = σ.2.1 40) → (τ_195.2.1 41 = σ.2.1 41) → (τ_195.2.1 42 = σ.2.1 42) → (τ_195.2.1 52 = σ.2.1 52) → (τ_195.2.1 53 = σ.2.1 53) → (τ_195.2.1 36 ((σ.1 15) + (σ.1 32) + 1) = u4_195 + u5_195) → P195 n1 (n1 % 65536) u4_195 u5_195 u6_195 τ_195 := by
    intro m_195
    induction m_195 with
    | zero =>
      intro u4_195 u5_195 u6_195 τ_195 hm hT ag W3 W5 W6 W7 W13 W14 W15 W16 G10 G13 G14 G15 G16 G27 G28 G29 G30 G31 G32 G33 G34 i195_1 i195_2 i195_3 i195_4 i195_5 i195_6 i195_7 i195_8 i195_9 i195_10 i195_11 i195_12 i195_13 i195_14 i195_15 i195_16 i195_17 i195_18
      have A10 : ∀ j, (-1) ≤ τ_195.2.1 10 j ∧ τ_195.2.1 10 j ≤ 99 := fun j => hT.2 10 j
      have A13 : ∀ j, 0 ≤ τ_195.2.1 13 j ∧ τ_195.2.1 13 j ≤ 4 := fun j => hT.2 13 j
      have A14 : ∀ j, 0 ≤ τ_195.2.1 14 j ∧ τ_195.2.1 14 j ≤ 30000 := fun j => hT.2 14 j
      have A15 : ∀ j, 0 ≤ τ_195.2.1 15 j ∧ τ_195.2.1 15 j ≤ 999 := fun j => hT.2 15 j
      have A16 : ∀ j, (-1) ≤ τ_195.2.1 16 j ∧ τ_195.2.1 16 j ≤ 1499 := fun j => hT.2 16 j
      have A27 : ∀ j, 0 ≤ τ_195.2.1 27 j ∧ τ_195.2.1 27 j ≤ 90000 := fun j => hT.2 27 j
      have A28 : ∀ j, 0 ≤ τ_195.2.1 28 j ∧ τ_195.2.1 28 j ≤ 60 := fun j => hT.2 28 j
      have A29 : ∀ j, 0 ≤ τ_195.2.1 29 j ∧ τ_195.2.1 29 j ≤ 1499 := fun j => hT.2 29 j
      have A30 : ∀ j, 0 ≤ τ_195.2.1 30 j ∧ τ_195.2.1 30 j ≤ 20000 := fun j => hT.2 30 j
      have A31 : ∀ j, 0 ≤ τ_195.2.1 31 j ∧ τ_195.2.1 31 j ≤ 20000 := fun j => hT.2 31 j
      have A32 : ∀ j, 0 ≤ τ_195.2.1 32 j ∧ τ_195.2.1 32 j ≤ 999999 := fun j => hT.2 32 j
      have A33 : ∀ j, 0 ≤ τ_195.2.1 33 j ∧ τ_195.2.1 33 j ≤ 20000 := fun j => hT.2 33 j
      have A34 : ∀ j, 0 ≤ τ_195.2.1 34 j ∧ τ_195.2.1 34 j ≤ 20000 := fun j => hT.2 34 j
      have A35 : ∀ j, 0 ≤ τ_195.2.1 35 j ∧ τ_195.2.1 35 j ≤ 1499 := fun j => hT.2 35 j
      have A36 : ∀ j, 0 ≤ τ_195.2.1 36 j ∧ τ_195.2.1 36 j ≤ 20000 := fun j => hT.2 36 j
      have A37 : ∀ j, 0 ≤ τ_195.2.1 37 j ∧ τ_195.2.1 37 j ≤ 19999 := fun j => hT.2 37 j
      have A39 : ∀ j, 0 ≤ τ_195.2.1 39 j ∧ τ_195.2.1 39 j ≤ 1060 := fun j => hT.2 39 j
      have A40 : ∀ j, 0 ≤ τ_195.2.1 40 j ∧ τ_195.2.1 40 j ≤ 42000 := fun j => hT.2 40 j
      have A41 : ∀ j, (-2) ≤ τ_195.2.1 41 j ∧ τ_195.2.1 41 j ≤ 1000 := fun j => hT.2 41 j
      have A42 : ∀ j, (-2147483648) ≤ τ_195.2.1 42 j ∧ τ_195.2.1 42 j ≤ 2147483647 := fun j => hT.2 42 j
      have A43 : ∀ j, 0 ≤ τ_195.2.1 43 j ∧ τ_195.2.1 43 j ≤ 1060 := fun j => hT.2 43 j
      have A44 : ∀ j, 0 ≤ τ_195.2.1 44 j ∧ τ_195.2.1 44 j ≤ 42000 := fun j => hT.2 44 j
      have A45 : ∀ j, 0 ≤ τ_195.2.1 45 j ∧ τ_195.2.1 45 j ≤ 1000 := fun j => hT.2 45 j
      have A52 : ∀ j, 0 ≤ τ_195.2.1 52 j ∧ τ_195.2.1 52 j ≤ 19999 := fun j => hT.2 52 j
      have A53 : ∀ j, 0 ≤ τ_195.2.1 53 j ∧ τ_195.2.1 53 j ≤ 19999 := fun j => hT.2 53 j
      have v3 : 0 ≤ τ_195.1 3 ∧ τ_195.1 3 ≤ 2500 := hT.1 3
      have v5 : 0 ≤ τ_195.1 5 ∧ τ_195.1 5 ≤ 1000 := hT.1 5
      have v6 : 0 ≤ τ_195.1 6 ∧ τ_195.1 6 ≤ 30000 := hT.1 6
      have v7 : 0 ≤ τ_195.1 7 ∧ τ_195.1 7 ≤ 1500 := hT.1 7
      have v13 : 0 ≤ τ_195.1 13 ∧ τ_195.1 13 ≤ 90000 := hT.1 13
      have v14 : 0 ≤ τ_195.1 14 ∧ τ_195.1 14 ≤ 20000 := hT.1 14
      have v15 : 0 ≤ τ_195.1 15 ∧ τ_195.1 15 ≤ 20000 := hT.1 15
      have v16 : 0 ≤ τ_195.1 16 ∧ τ_195.1 16 ≤ 20000 := hT.1 16
      have v17 : 0 ≤ τ_195.1 17 ∧ τ_195.1 17 ≤ 42000 := hT.1 17
      have v18 : 0 ≤ τ_195.1 18 ∧ τ_195.1 18 ≤ 42000 := hT.1 18
      have v19 : 0 ≤ τ_195.1 19 ∧ τ_195.1 19 ≤ 1000 := hT.1 19
      have v23 : 0 ≤ τ_195.1 23 ∧ τ_195.1 23 ≤ 300 := hT.1 23
      have v30 : 0 ≤ τ_195.1 30 ∧ τ_195.1 30 ≤ 200 := hT.1 30
      have v31 : (-2147483648) ≤ τ_195.1 31 ∧ τ_195.1 31 ≤ 2147483647 := hT.1 31
      have v32 : 0 ≤ τ_195.1 32 ∧ τ_195.1 32 ≤ 20000 := hT.1 32
      have a36_15 : 0 ≤ τ_195.2.1 36 (τ_195.1 15) ∧ τ_195.2.1 36 (τ_195.1 15) ≤ 20000 := hT.2 36 _
      exfalso; (first | omega | (simp only [st_s] <;> omega) | assumption | omega | fail)
    | succ m_195 ih_195 =>
      intro u4_195 u5_195 u6_195 τ_195 hm_195 hT ag W3 W5 W6 W7 W13 W14 W15 W16 G10 G13 G14 G15 G16 G27 G28 G29 G30 G31 G32 G33 G34 i195_1 i195_2 i195_3 i195_4 i195_5 i195_6 i195_7 i195_8 i195_9 i195_10 i195_11 i195_12 i195_13 i195_14 i195_15 i195_16 i195_17 i195_18
      have A10 : ∀ j, (-1) ≤ τ_195.2.1 10 j ∧ τ_195.2.1 10 j ≤ 99 := fun j => hT.2 10 j
      have A13 : ∀ j, 0 ≤ τ_195.2.1 13 j ∧ τ_195.2.1 13 j ≤ 4 := fun j => hT.2 13 j
      have A14 : ∀ j, 0 ≤ τ_195.2.1 14 j ∧ τ_195.2.1 14 j ≤ 30000 := fun j => hT.2 14 j
      have A15 : ∀ j, 0 ≤ τ_195.2.1 15 j ∧ τ_195.2.1 15 j ≤ 999 := fun j => hT.2 15 j
      have A16 : ∀ j, (-1) ≤ τ_195.2.1 16 j ∧ τ_195.2.1 16 j ≤ 1499 := fun j => hT.2 16 j
      have A27 : ∀ j, 0 ≤ τ_195.2.1 27 j ∧ τ_195.2.1 27 j ≤ 90000 := fun j => hT.2 27 j
      have A28 : ∀ j, 0 ≤ τ_195.2.1 28 j ∧ τ_195.2.1 28 j ≤ 60 := fun j => hT.2 28 j
      have A29 : ∀ j, 0 ≤ τ_195.2.1 29 j ∧ τ_195.2.1 29 j ≤ 1499 := fun j => hT.2 29 j
      have A30 : ∀ j, 0 ≤ τ_195.2.1 30 j ∧ τ_195.2.1 30 j ≤ 20000 := fun j => hT.2 30 j
      have A31 : ∀ j, 0 ≤ τ_195.2.1 31 j ∧ τ_195.2.1 31 j ≤ 20000 := fun j => hT.2 31 j
      have A32 : ∀ j, 0 ≤ τ_195.2.1 32 j ∧ τ_195.2.1 32 j ≤ 999999 := fun j => hT.2 32 j
      have A33 : ∀ j, 0 ≤ τ_195.2.1 33 j ∧ τ_195.2.1 33 j ≤ 20000 := fun j => hT.2 33 j
      have A34 : ∀ j, 0 ≤ τ_195.2.1 34 j ∧ τ_195.2.1 34 j ≤ 20000 := fun j => hT.2 34 j
      have A35 : ∀ j, 0 ≤ τ_195.2.1 35 j ∧ τ_195.2.1 35 j ≤ 1499 := fun j => hT.2 35 j
      have A36 : ∀ j, 0 ≤ τ_195.2.1 36 j ∧ τ_195.2.1 36 j ≤ 20000 := fun j => hT.2 36 j
      have A37 : ∀ j, 0 ≤ τ_195.2.1 37 j ∧ τ_195.2.1 37 j ≤ 19999 := fun j => hT.2 37 j
      have A39 : ∀ j, 0 ≤ τ_195.2.1 39 j ∧ τ_195.2.1 39 j ≤ 1060 := fun j => hT.2 39 j
      have A40 : ∀ j, 0 ≤ τ_195.2.1 40 j ∧ τ_195.2.1 40 j ≤ 42000 := fun j => hT.2 40 j
      have A41 : ∀ j, (-2) ≤ τ_195.2.1 41 j ∧ τ_195.2.1 41 j ≤ 1000 := fun j => hT.2 41 j
      have A42 : ∀ j, (-2147483648) ≤ τ_195.2.1 42 j ∧ τ_195.2.1 42 j ≤ 2147483647 := fun j => hT.2 42 j
      have A43 : ∀ j, 0 ≤ τ_195.2.1 43 j ∧ τ_195.2.1 43 j ≤ 1060 := fun j => hT.2 43 j
      have A44 : ∀ j, 0 ≤ τ_195.2.1 44 j ∧ τ_195.2.1 44 j ≤ 42000 := fun j => hT.2 44 j
      have A45 : ∀ j, 0 ≤ τ_195.2.1 45 j ∧ τ_195.2.1 45 j ≤ 1000 := fun j => hT.2 45 j
      have A52 : ∀ j, 0 ≤ τ_195.2.1 52 j ∧ τ_195.2.1 52 j ≤ 19999 := fun j => hT.2 52 j
      have A53 : ∀ j, 0 ≤ τ_195.2.1 53 j ∧ τ_195.2.1 53 j ≤ 19999 := fun j => hT.2 53 j
      have v3 : 0 ≤ τ_195.1 3 ∧ τ_195.1 3 ≤ 2500 := hT.1 3
      have v5 : 0 ≤ τ_195.1 5 ∧ τ_195.1 5 ≤ 1000 := hT.1 5
      have v6 : 0 ≤ τ_195.1 6 ∧ τ_195.1 6 ≤ 30000 := hT.1 6
      have v7 : 0 ≤ τ_195.1 7 ∧ τ_195.1 7 ≤ 1500 := hT.1 7
      have v13 : 0 ≤ τ_195.1 13 ∧ τ_195.1 13 ≤ 90000 := hT.1 13
      have v14 : 0 ≤ τ_195.1 14 ∧ τ_195.1 14 ≤ 20000 := hT.1 14
      have v15 : 0 ≤ τ_195.1 15 ∧ τ_195.1 15 ≤ 20000 := hT.1 15
      have v16 : 0 ≤ τ_195.1 16 ∧ τ_195.1 16 ≤ 20000 := hT.1 16
      have v17 : 0 ≤ τ_195.1 17 ∧ τ_195.1 17 ≤ 42000 := hT.1 17
      have v18 : 0 ≤ τ_195.1 18 ∧ τ_195.1 18 ≤ 42000 := hT.1 18
      have v19 : 0 ≤ τ_195.1 19 ∧ τ_195.1 19 ≤ 1000 := hT.1 19
      have v23 : 0 ≤ τ_195.1 23 ∧ τ_195.1 23 ≤ 300 := hT.1 23
      have v30 : 0 ≤ τ_195.1 30 ∧ τ_195.1 30 ≤ 200 := hT.1 30
      have v31 : (-2147483648) ≤ τ_195.1 31 ∧ τ_195.1 31 ≤ 2147483647 := hT.1 31
      have v32 : 0 ≤ τ_195.1 32 ∧ τ_195.1 32 ≤ 20000 := hT.1 32
      have a36_15 : 0 ≤ τ_195.2.1 36 (τ_195.1 15) ∧ τ_195.2.1 36 (τ_195.1 15) ≤ 20000 := hT.2 36 _
      have TX : J_vs (τ_195.1 6) (τ_195.1 5) (τ_195.2.1 15) := by rw [show (J_vs (τ_195.1 6) (τ_195.1 5) (τ_195.2.1 15)) = (J_vs (σ.1 6) (σ.1 5) (σ.2.1 15)) from by rw [W5, W6, G15]]; exact TX_0
      have BP : J_bp (τ_195.2.1 44) (τ_195.2.1 45) := i195_8
      have CH : j_eq (σ.2.1 36 (σ.1 15)) (σ.2.1 37) (τ_195.2.1 37) := i195_7
      have PLt := J_pl_t PL_0 (t := u5_195) (by omega) (by omega)
      have szs := sm_n (g := fun p => σ.2.1 41 (σ.2.1 52 p)) (n := σ.1 30 - u5_195) (fun p p0 p1 => szp p p0 (by omega))
      have w0 : ∀ e : Int, 0 ≤ e → e < u5_195 → 0 ≤ σ.2.1 41 (σ.2.1 52 (σ.1 30 - u5_195 + e)) := fun e a b => szp _ (by omega) (by omega)
      have sw := sm_s (fun k => σ.2.1 41 (σ.2.1 52 ((σ.1 30) - u5_195 + k))) (n := u6_195) (by omega)
      have sx := fun z : u6_195 < u5_195 => sm_m (g := (fun k => σ.2.1 41 (σ.2.1 52 ((σ.1 30) - u5_195 + k)))) (n := u6_195 + 1) (m := u5_195) w0 (by omega) (by omega)
      have sy := sm_n (g := (fun k => σ.2.1 41 (σ.2.1 52 ((σ.1 30) - u5_195 + k)))) (n := u6_195) (fun e a b => w0 e a (by omega))
      have sz := sm_m (g := (fun k => σ.2.1 41 (σ.2.1 52 ((σ.1 30) - u5_195 + k)))) (n := u6_195) (m := u5_195) w0 (by omega) (by omega)
      have plt := PLt.2.2
      refine h195 n1 (n1 % 65536) u4_195 u5_195 u6_195 τ_195 ?_
      refine ⟨fun c31 => ?_, fun c31 => ?_⟩
      ·
        refine ⟨(⟨by (first | omega | (simp only [st_s] <;> omega) | assumption | omega | fail), by (first | omega | (simp only [st_s] <;> omega) | assumption | omega | fail)⟩ : rg (τ_195.1 30 - u5_195)), ?_⟩
        replace ag := ag_v (i := 30) (x := (τ_195.1 30 - u5_195)) ag (Or.inl rfl)
        replace hT := cT_v (i := 30) hT (show 0 ≤ (τ_195.1 30 - u5_195) ∧ (τ_195.1 30 - u5_195) ≤ 200 from by (first | omega | (simp only [st_s] <;> omega) | assumption | omega | fail))
        have u65 : u6_195 = u5_195 := by omega
        have syq := i195_10
        rw [u65] at syq
        have ew : sm (fun k => j_w (τ_195.2.1 42) (τ_195.2.1 41) (τ_195.2.1 37 (u4_195 + k))) u5_195 = sm (fun k => j_w (σ.2.1 42) (σ.2.1 41) (σ.2.1 52 (σ.1 30 - u5_195 + k))) u5_195 := sm_x (fun e a b => by show j_w (τ_195.2.1 42) (τ_195.2.1 41) (τ_195.2.1 37 (u4_195 + e)) = j_w (σ.2.1 42) (σ.2.1 41) (σ.2.1 52 (σ.1 30 - u5_195 + e)); rw [i195_5 e a b, i195_14, i195_15])
        have lw := PLt.2.1
        have lw0 := sm_n (g := fun p => j_w (σ.2.1 42) (σ.2.1 41) (σ.2.1 52 p)) (n := σ.1 30 - u5_195) (fun p p0 p1 => by have := j_w_u (σ.2.1 42) (σ.2.1 41) (σ.2.1 52 p); have := szp p p0 (by omega); omega)
        have lw1 := sm_n (g := fun k => j_w (σ.2.1 42) (σ.2.1 41) (σ.2.1 52 (σ.1 30 - u5_195 + k))) (n := u5_195) (fun p p0 p1 => by have := j_w_u (σ.2.1 42) (σ.2.1 41) (σ.2.1 52 (σ.1 30 - u5_195 + p)); have := szp (σ.1 30 - u5_195 + p) (by omega) (by omega); omega)
        refine ⟨_, K_X6_drop hT (show 0 ≤ u4_195 from by (first | omega | (simp only [st_s] <;> omega) | assumption | omega | fail)) (show 0 ≤ u5_195 from by (first | omega | (simp only [st_s] <;> omega) | assumption | omega | fail)) (show u4_195 + u5_195 ≤ 20000 from by (first | omega | (simp only [st_s] <;> omega) | assumption | omega | fail)) (show ∀ k : Int, 0 ≤ k → k < u5_195 → 0 ≤ τ_195.2.1 41 (τ_195.2.1 37 (u4_195 + k)) from by (intro k a b; rw [i195_14, i195_5 k a b]; exact w0 k a b)) (show sm (fun k => j_w (τ_195.2.1 42) (τ_195.2.1 41) (τ_195.2.1 37 (u4_195 + k))) u5_195 ≤ (τ_195.1 17) from by (rw [ew]; omega)), ?_⟩
        intro τ35 hn_τ35 hf_τ35 hq
        obtain ⟨hT, q33_1⟩ := hq
        replace q33_1 : (τ35.1 17) = (τ_195.1 17) - sm (fun k => j_w (τ_195.2.1 42) (τ_195.2.1 41) (τ_195.2.1 37 (u4_195 + k))) u5_195 := q33_1
        replace ag : c_ag σ τ35 := ag_r ag hf_τ35 rfl rfl
        have w3_τ35 : τ35.1 3 = τ_195.1 3 := hf_τ35.1 3 (by decide)
        have w5_τ35 : τ35.1 5 = τ_195.1 5 := hf_τ35.1 5 (by decide)
        have w6_τ35 : τ35.1 6 = τ_195.1 6 := hf_τ35.1 6 (by decide)
        have w7_τ35 : τ35.1 7 = τ_195.1 7 := hf_τ35.1 7 (by decide)
        have w13_τ35 : τ35.1 13 = τ_195.1 13 := hf_τ35.1 13 (by decide)
        have w14_τ35 : τ35.1 14 = τ_195.1 14 := hf_τ35.1 14 (by decide)
        have w15_τ35 : τ35.1 15 = τ_195.1 15 := hf_τ35.1 15 (by decide)
        have w16_τ35 : τ35.1 16 = τ_195.1 16 := hf_τ35.1 16 (by decide)
        have w18_τ35 : τ35.1 18 = τ_195.1 18 := hf_τ35.1 18 (by decide)
        have w19_τ35 : τ35.1 19 = τ_195.1 19 := hf_τ35.1 19 (by decide)
        have w23_τ35 : τ35.1 23 = τ_195.1 23 := hf_τ35.1 23 (by decide)
        have w30_τ35 : τ35.1 30 = (τ_195.1 30 - u5_195) := hf_τ35.1 30 (by decide)
        have w31_τ35 : τ35.1 31 = τ_195.1 31 := hf_τ35.1 31 (by decide)
        have w32_τ35 : τ35.1 32 = τ_195.1 32 := hf_τ35.1 32 (by decide)
        have g10_τ35 : τ35.2.1 10 = τ_195.2.1 10 := hf_τ35.2.1 10 (by decide)
        have g13_τ35 : τ35.2.1 13 = τ_195.2.1 13 := hf_τ35.2.1 13 (by decide)
        have g14_τ35 : τ35.2.1 14 = τ_195.2.1 14 := hf_τ35.2.1 14 (by decide)
        have g15_τ35 : τ35.2.1 15 = τ_195.2.1 15 := hf_τ35.2.1 15 (by decide)
        have g16_τ35 : τ35.2.1 16 = τ_195.2.1 16 := hf_τ35.2.1 16 (by decide)
        have g27_τ35 : τ35.2.1 27 = τ_195.2.1 27 := hf_τ35.2.1 27 (by decide)
        have g28_τ35 : τ35.2.1 28 = τ_195.2.1 28 := hf_τ35.2.1 28 (by decide)
        have g29_τ35 : τ35.2.1 29 = τ_195.2.1 29 := hf_τ35.2.1 29 (by decide)
        have g30_τ35 : τ35.2.1 30 = τ_195.2.1 30 := hf_τ35.2.1 30 (by decide)
        have g31_τ35 : τ35.2.1 31 = τ_195.2.1 31 := hf_τ35.2.1 31 (by decide)
        have g32_τ35 : τ35.2.1 32 = τ_195.2.1 32 := hf_τ35.2.1 32 (by decide)
        have g33_τ35 : τ35.2.1 33 = τ_195.2.1 33 := hf_τ35.2.1 33 (by decide)
        have g34_τ35 : τ35.2.1 34 = τ_195.2.1 34 := hf_τ35.2.1 34 (by decide)
        have g35_τ35 : τ35.2.1 35 = τ_195.2.1 35 := hf_τ35.2.1 35 (by decide)
        have g36_τ35 : τ35.2.1 36 = τ_195.2.1 36 := hf_τ35.2.1 36 (by decide)
        have g37_τ35 : τ35.2.1 37 = τ_195.2.1 37 := hf_τ35.2.1 37 (by decide)
        have g39_τ35 : τ35.2.1 39 = τ_195.2.1 39 := hf_τ35.2.1 39 (by decide)
        have g40_τ35 : τ35.2.1 40 = τ_195.2.1 40 := hf_τ35.2.1 40 (by decide)
        have g41_τ35 : τ35.2.1 41 = τ_195.2.1 41 := hf_τ35.2.1 41 (by decide)
        have g42_τ35 : τ35.2.1 42 = τ_195.2.1 42 := hf_τ35.2.1 42 (by decide)
        have g43_τ35 : τ35.2.1 43 = τ_195.2.1 43 := hf_τ35.2.1 43 (by decide)
        have g44_τ35 : τ35.2.1 44 = τ_195.2.1 44 := hf_τ35.2.1 44 (by decide)
        have g45_τ35 : τ35.2.1 45 = τ_195.2.1 45 := hf_τ35.2.1 45 (by decide)
        have g52_τ35 : τ35.2.1 52 = τ_195.2.1 52 := hf_τ35.2.1 52 (by decide)
        have g53_τ35 : τ35.2.1 53 = τ_195.2.1 53 := hf_τ35.2.1 53 (by decide)
        have W3 : τ35.1 3 = σ.1 3 := by first | exact w3_τ35.trans W3 | omega
        have W5 : τ35.1 5 = σ.1 5 := by first | exact w5_τ35.trans W5 | omega
        have W6 : τ35.1 6 = σ.1 6 := by first | exact w6_τ35.trans W6 | omega
        have W7 : τ35.1 7 = σ.1 7 := by first | exact w7_τ35.trans W7 | omega
        have W13 : τ35.1 13 = σ.1 13 := by first | exact w13_τ35.trans W13 | omega
        have W14 : τ35.1 14 = σ.1 14 := by first | exact w14_τ35.trans W14 | omega
        have W15 : τ35.1 15 = σ.1 15 := by first | exact w15_τ35.trans W15 | omega
        have W16 : τ35.1 16 = σ.1 16 := by first | exact w16_τ35.trans W16 | omega
        have G10 : τ35.2.1 10 = σ.2.1 10 := (g10_τ35).trans G10
        have G13 : τ35.2.1 13 = σ.2.1 13 := (g13_τ35).trans G13
        have G14 : τ35.2.1 14 = σ.2.1 14 := (g14_τ35).trans G14
        have G15 : τ35.2.1 15 = σ.2.1 15 := (g15_τ35).trans G15
        have G16 : τ35.2.1 16 = σ.2.1 16 := (g16_τ35).trans G16
        have G27 : τ35.2.1 27 = σ.2.1 27 := (g27_τ35).trans G27
        have G28 : τ35.2.1 28 = σ.2.1 28 := (g28_τ35).trans G28
        have G29 : τ35.2.1 29 = σ.2.1 29 := (g29_τ35).trans G29
        have G30 : τ35.2.1 30 = σ.2.1 30 := (g30_τ35).trans G30
        have G31 : τ35.2.1 31 = σ.2.1 31 := (g31_τ35).trans G31
        have G32 : τ35.2.1 32 = σ.2.1 32 := (g32_τ35).trans G32
        have G33 : τ35.2.1 33 = σ.2.1 33 := (g33_τ35).trans G33
        have G34 : τ35.2.1 34 = σ.2.1 34 := (g34_τ35).trans G34
        have y36_15_τ35 : τ35.2.1 36 (τ35.1 15) = (τ_195.2.1 36) (τ_195.1 15) := by rw [g36_τ35, w15_τ35]
        have TX : J_vs (τ35.1 6) (τ35.1 5) (τ35.2.1 15) := by rw [show (J_vs (τ35.1 6) (τ35.1 5) (τ35.2.1 15)) = (J_vs (τ_195.1 6) (τ_195.1 5) (τ_195.2.1 15)) from by rw [w5_τ35, w6_τ35, g15_τ35]]; exact TX
        have BP : J_bp (τ35.2.1 44) (τ35.2.1 45) := by rw [show (J_bp (τ35.2.1 44) (τ35.2.1 45)) = (J_bp (τ_195.2.1 44) (τ_195.2.1 45)) from by rw [g44_τ35, g45_τ35]]; exact BP
        have CH : j_eq (σ.2.1 36 (σ.1 15)) (σ.2.1 37) (τ35.2.1 37) := by rw [show (j_eq (σ.2.1 36 (σ.1 15)) (σ.2.1 37) (τ35.2.1 37)) = (j_eq (σ.2.1 36 (σ.1 15)) (σ.2.1 37) (τ_195.2.1 37)) from by rw [g37_τ35]]; exact CH
        have A10 : ∀ j, (-1) ≤ τ35.2.1 10 j ∧ τ35.2.1 10 j ≤ 99 := fun j => hT.2 10 j
        have A13 : ∀ j, 0 ≤ τ35.2.1 13 j ∧ τ35.2.1 13 j ≤ 4 := fun j => hT.2 13 j
        have A14 : ∀ j, 0 ≤ τ35.2.1 14 j ∧ τ35.2.1 14 j ≤ 30000 := fun j => hT.2 14 j
        have A15 : ∀ j, 0 ≤ τ35.2.1 15 j ∧ τ35.2.1 15 j ≤ 999 := fun j => hT.2 15 j
        have A16 : ∀ j, (-1) ≤ τ35.2.1 16 j ∧ τ35.2.1 16 j ≤ 1499 := fun j => hT.2 16 j
        have A27 : ∀ j, 0 ≤ τ35.2.1 27 j ∧ τ35.2.1 27 j ≤ 90000 := fun j => hT.2 27 j
        have A28 : ∀ j, 0 ≤ τ35.2.1 28 j ∧ τ35.2.1 28 j ≤ 60 := fun j => hT.2 28 j
        have A29 : ∀ j, 0 ≤ τ35.2.1 29 j ∧ τ35.2.1 29 j ≤ 1499 := fun j => hT.2 29 j
        have A30 : ∀ j, 0 ≤ τ35.2.1 30 j ∧ τ35.2.1 30 j ≤ 20000 := fun j => hT.2 30 j
        have A31 : ∀ j, 0 ≤ τ35.2.1 31 j ∧ τ35.2.1 31 j ≤ 20000 := fun j => hT.2 31 j
        have A32 : ∀ j, 0 ≤ τ35.2.1 32 j ∧ τ35.2.1 32 j ≤ 999999 := fun j => hT.2 32 j
        have A33 : ∀ j, 0 ≤ τ35.2.1 33 j ∧ τ35.2.1 33 j ≤ 20000 := fun j => hT.2 33 j
        have A34 : ∀ j, 0 ≤ τ35.2.1 34 j ∧ τ35.2.1 34 j ≤ 20000 := fun j => hT.2 34 j
        have A35 : ∀ j, 0 ≤ τ35.2.1 35 j ∧ τ35.2.1 35 j ≤ 1499 := fun j => hT.2 35 j
        have A36 : ∀ j, 0 ≤ τ35.2.1 36 j ∧ τ35.2.1 36 j ≤ 20000 := fun j => hT.2 36 j
        have A37 : ∀ j, 0 ≤ τ35.2.1 37 j ∧ τ35.2.1 37 j ≤ 19999 := fun j => hT.2 37 j
        have A39 : ∀ j, 0 ≤ τ35.2.1 39 j ∧ τ35.2.1 39 j ≤ 1060 := fun j => hT.2 39 j
        have A40 : ∀ j, 0 ≤ τ35.2.1 40 j ∧ τ35.2.1 40 j ≤ 42000 := fun j => hT.2 40 j
        have A41 : ∀ j, (-2) ≤ τ35.2.1 41 j ∧ τ35.2.1 41 j ≤ 1000 := fun j => hT.2 41 j
        have A42 : ∀ j, (-2147483648) ≤ τ35.2.1 42 j ∧ τ35.2.1 42 j ≤ 2147483647 := fun j => hT.2 42 j
        have A43 : ∀ j, 0 ≤ τ35.2.1 43 j ∧ τ35.2.1 43 j ≤ 1060 := fun j => hT.2 43 j
        have A44 : ∀ j, 0 ≤ τ35.2.1 44 j ∧ τ35.2.1 44 j ≤ 42000 := fun j => hT.2 44 j
        have A45 : ∀ j, 0 ≤ τ35.2.1 45 j ∧ τ35.2.1 45 j ≤ 1000 := fun j => hT.2 45 j
        have A52 : ∀ j, 0 ≤ τ35.2.1 52 j ∧ τ35.2.1 52 j ≤ 19999 := fun j => hT.2 52 j
        have A53 : ∀ j, 0 ≤ τ35.2.1 53 j ∧ τ35.2.1 53 j ≤ 19999 := fun j => hT.2 53 j
        have v3 : 0 ≤ τ35.1 3 ∧ τ35.1 3 ≤ 2500 := hT.1 3
        have v5 : 0 ≤ τ35.1 5 ∧ τ35.1 5 ≤ 1000 := hT.1 5
        have v6 : 0 ≤ τ35.1 6 ∧ τ35.1 6 ≤ 30000 := hT.1 6
        have v7 : 0 ≤ τ35.1 7 ∧ τ35.1 7 ≤ 1500 := hT.1 7
        have v13 : 0 ≤ τ35.1 13 ∧ τ35.1 13 ≤ 90000 := hT.1 13
        have v14 : 0 ≤ τ35.1 14 ∧ τ35.1 14 ≤ 20000 := hT.1 14
        have v15 : 0 ≤ τ35.1 15 ∧ τ35.1 15 ≤ 20000 := hT.1 15
        have v16 : 0 ≤ τ35.1 16 ∧ τ35.1 16 ≤ 20000 := hT.1 16
        have v17 : 0 ≤ τ35.1 17 ∧ τ35.1 17 ≤ 42000 := hT.1 17
        have v18 : 0 ≤ τ35.1 18 ∧ τ35.1 18 ≤ 42000 := hT.1 18
        have v19 : 0 ≤ τ35.1 19 ∧ τ35.1 19 ≤ 1000 := hT.1 19
        have v23 : 0 ≤ τ35.1 23 ∧ τ35.1 23 ≤ 300 := hT.1 23
        have v30 : 0 ≤ τ35.1 30 ∧ τ35.1 30 ≤ 200 := hT.1 30
        have v31 : (-2147483648) ≤ τ35.1 31 ∧ τ35.1 31 ≤ 2147483647 := hT.1 31
        have v32 : 0 ≤ τ35.1 32 ∧ τ35.1 32 ≤ 20000 := hT.1 32
        have a36_15 : 0 ≤ τ35.2.1 36 (τ35.1 15) ∧ τ35.2.1 36 (τ35.1 15) ≤ 20000 := hT.2 36 _
        refine ⟨fun c36 => ?_, fun c36 => ?_⟩
        ·
          refine h271 _ _ ?_
          refine ⟨_, K_X10_putNew hT (show 0 ≤ (0 : Int) ∧ (0 : Int) ≤ 1 from by (first | omega | (simp only [st_s] <;> omega) | assumption | omega | fail)) (show (τ35.1 32) < 20000 from by (first | omega | (simp only [st_s] <;> omega) | assumption | omega | fail)) (show ¬ (0 : Int) = 0 → (τ35.1 23) < 300 from by (first | omega | (simp only [st_s] <;> omega) | assumption | omega | fail)) (show 0 ≤ (τ35.1 31) ∧ (τ35.1 31) ≤ 40000 from by (first | omega | (simp only [st_s] <;> omega) | assumption | omega | fail)) (show J_bt (τ35.1 19) (τ35.2.1 43) from by (rw [w19_τ35, g43_τ35]; exact i195_9)) (show J_dt (τ35.1 17) (τ35.1 18) (τ35.1 32) (τ35.2.1 39) (τ35.2.1 40) (τ35.2.1 41) from by (rw [w18_τ35, w32_τ35, g39_τ35, g40_τ35, g41_τ35, i195_12, i195_13, i195_14, show τ_195.1 18 = σ.1 18 from by omega, show τ_195.1 32 = σ.1 32 from by omega]; exact J_dt_low DT_0 (by omega))) (show J_pl (τ35.1 17) (τ35.1 31) (τ35.1 32) (τ35.1 30) (τ35.2.1 42) (τ35.2.1 41) (τ35.2.1 52) from by (rw [q33_1, ew, show τ_195.1 17 = σ.1 17 from by omega, w31_τ35, syq, w32_τ35, show τ_195.1 32 = σ.1 32 from by omega, w30_τ35, show τ_195.1 30 = σ.1 30 from by omega, g42_τ35, g41_τ35, g52_τ35, i195_15, i195_14, i195_16]; exact PLt)) (show J_sv (τ35.1 32) (τ35.1 23) (τ35.2.1 42) (τ35.2.1 53) from by (rw [w32_τ35, w23_τ35, g42_τ35, g53_τ35, show τ_195.1 32 = σ.1 32 from by omega, show τ_195.1 23 = σ.1 23 from by omega, i195_15, i195_17]; exact SV_0)), ?_⟩
          intro x44 τ45 r_x44 hn_τ45 hf_τ45 hq
          obtain ⟨hT, q43_1, q43_2, q43_3, q43_4, q43_5, q43_6⟩ := hq
          replace q43_1 : 0 ≤ x44 ∧ x44 ≤ 19 := q43_1
          replace q43_2 : x44 = 0 → 0 ≤ (τ45.1 31) ∧ (τ45.1 31) ≤ 40000 := q43_2
          replace q43_3 : x44 = 0 → J_dt (τ45.1 17) (τ45.1 18) (τ45.1 32) (τ45.2.1 39) (τ45.2.1 40) (τ45.2.1 41) := q43_3
          replace q43_4 : x44 = 0 → J_pl (τ45.1 17) (τ45.1 31) (τ45.1 32) (τ45.1 30) (τ45.2.1 42) (τ45.2.1 41) (τ45.2.1 52) := q43_4
          replace q43_5 : x44 = 0 → J_sv (τ45.1 32) (τ45.1 23) (τ45.2.1 42) (τ45.2.1 53) := q43_5
          replace q43_6 : x44 = 0 → (τ45.1 32) = (τ35.1 32) + 1 ∧ (τ45.1 30) = (τ35.1 30) + 1 ∧ (τ45.1 23) = (τ35.1 23) + (0 : Int) := q43_6
          replace ag : c_ag σ τ45 := ag_r ag hf_τ45 rfl rfl
          have w3_τ45 : τ45.1 3 = τ35.1 3 := hf_τ45.1 3 (by decide)
          have w5_τ45 : τ45.1 5 = τ35.1 5 := hf_τ45.1 5 (by decide)
          have w6_τ45 : τ45.1 6 = τ35.1 6 := hf_τ45.1 6 (by decide)
          have w7_τ45 : τ45.1 7 = τ35.1 7 := hf_τ45.1 7 (by decide)
          have w13_τ45 : τ45.1 13 = τ35.1 13 := hf_τ45.1 13 (by decide)
          have w14_τ45 : τ45.1 14 = τ35.1 14 := hf_τ45.1 14 (by decide)
          have w15_τ45 : τ45.1 15 = τ35.1 15 := hf_τ45.1 15 (by decide)
          have w16_τ45 : τ45.1 16 = τ35.1 16 := hf_τ45.1 16 (by decide)
          have w19_τ45 : τ45.1 19 = τ35.1 19 := hf_τ45.1 19 (by decide)
          have g10_τ45 : τ45.2.1 10 = τ35.2.1 10 := hf_τ45.2.1 10 (by decide)
          have g13_τ45 : τ45.2.1 13 = τ35.2.1 13 := hf_τ45.2.1 13 (by decide)
          have g14_τ45 : τ45.2.1 14 = τ35.2.1 14 := hf_τ45.2.1 14 (by decide)
          have g15_τ45 : τ45.2.1 15 = τ35.2.1 15 := hf_τ45.2.1 15 (by decide)
          have g16_τ45 : τ45.2.1 16 = τ35.2.1 16 := hf_τ45.2.1 16 (by decide)
          have g27_τ45 : τ45.2.1 27 = τ35.2.1 27 := hf_τ45.2.1 27 (by decide)
          have g28_τ45 : τ45.2.1 28 = τ35.2.1 28 := hf_τ45.2.1 28 (by decide)
          have g29_τ45 : τ45.2.1 29 = τ35.2.1 29 := hf_τ45.2.1 29 (by decide)
          have g30_τ45 : τ45.2.1 30 = τ35.2.1 30 := hf_τ45.2.1 30 (by decide)
          have g31_τ45 : τ45.2.1 31 = τ35.2.1 31 := hf_τ45.2.1 31 (by decide)
          have g32_τ45 : τ45.2.1 32 = τ35.2.1 32 := hf_τ45.2.1 32 (by decide)
          have g33_τ45 : τ45.2.1 33 = τ35.2.1 33 := hf_τ45.2.1 33 (by decide)
          have g34_τ45 : τ45.2.1 34 = τ35.2.1 34 := hf_τ45.2.1 34 (by decide)
          have g35_τ45 : τ45.2.1 35 = τ35.2.1 35 := hf_τ45.2.1 35 (by decide)
          have g36_τ45 : τ45.2.1 36 = τ35.2.1 36 := hf_τ45.2.1 36 (by decide)
          have g37_τ45 : τ45.2.1 37 = τ35.2.1 37 := hf_τ45.2.1 37 (by decide)
          have g43_τ45 : τ45.2.1 43 = τ35.2.1 43 := hf_τ45.2.1 43 (by decide)
          have g44_τ45 : τ45.2.1 44 = τ35.2.1 44 := hf_τ45.2.1 44 (by decide)
          have g45_τ45 : τ45.2.1 45 = τ35.2.1 45 := hf_τ45.2.1 45 (by decide)
          have W3 : τ45.1 3 = σ.1 3 := by first | exact w3_τ45.trans W3 | omega
          have W5 : τ45.1 5 = σ.1 5 := by first | exact w5_τ45.trans W5 | omega
          have W6 : τ45.1 6 = σ.1 6 := by first | exact w6_τ45.trans W6 | omega
          have W7 : τ45.1 7 = σ.1 7 := by first | exact w7_τ45.trans W7 | omega
          have W13 : τ45.1 13 = σ.1 13 := by first | exact w13_τ45.trans W13 | omega
          have W14 : τ45.1 14 = σ.1 14 := by first | exact w14_τ45.trans W14 | omega
          have W15 : τ45.1 15 = σ.1 15 := by first | exact w15_τ45.trans W15 | omega
          have W16 : τ45.1 16 = σ.1 16 := by first | exact w16_τ45.trans W16 | omega
          have G10 : τ45.2.1 10 = σ.2.1 10 := (g10_τ45).trans G10
          have G13 : τ45.2.1 13 = σ.2.1 13 := (g13_τ45).trans G13
          have G14 : τ45.2.1 14 = σ.2.1 14 := (g14_τ45).trans G14
          have G15 : τ45.2.1 15 = σ.2.1 15 := (g15_τ45).trans G15
          have G16 : τ45.2.1 16 = σ.2.1 16 := (g16_τ45).trans G16
          have G27 : τ45.2.1 27 = σ.2.1 27 := (g27_τ45).trans G27
          have G28 : τ45.2.1 28 = σ.2.1 28 := (g28_τ45).trans G28
          have G29 : τ45.2.1 29 = σ.2.1 29 := (g29_τ45).trans G29
          have G30 : τ45.2.1 30 = σ.2.1 30 := (g30_τ45).trans G30
          have G31 : τ45.2.1 31 = σ.2.1 31 := (g31_τ45).trans G31
          have G32 : τ45.2.1 32 = σ.2.1 32 := (g32_τ45).trans G32
          have G33 : τ45.2.1 33 = σ.2.1 33 := (g33_τ45).trans G33
          have G34 : τ45.2.1 34 = σ.2.1 34 := (g34_τ45).trans G34
          have y36_15_τ45 : τ45.2.1 36 (τ45.1 15) = (τ35.2.1 36) (τ35.1 15) := by rw [g36_τ45, w15_τ45]
          have TX : J_vs (τ45.1 6) (τ45.1 5) (τ45.2.1 15) := by rw [show (J_vs (τ45.1 6) (τ45.1 5) (τ45.2.1 15)) = (J_vs (τ35.1 6) (τ35.1 5) (τ35.2.1 15)) from by rw [w5_τ45, w6_τ45, g15_τ45]]; exact TX
          have BP : J_bp (τ45.2.1 44) (τ45.2.1 45) := by rw [show (J_bp (τ45.2.1 44) (τ45.2.1 45)) = (J_bp (τ35.2.1 44) (τ35.2.1 45)) from by rw [g44_τ45, g45_τ45]]; exact BP
          have CH : j_eq (σ.2.1 36 (σ.1 15)) (σ.2.1 37) (τ45.2.1 37) := by rw [show (j_eq (σ.2.1 36 (σ.1 15)) (σ.2.1 37) (τ45.2.1 37)) = (j_eq (σ.2.1 36 (σ.1 15)) (σ.2.1 37) (τ35.2.1 37)) from by rw [g37_τ45]]; exact CH
          have A10 : ∀ j, (-1) ≤ τ45.2.1 10 j ∧ τ45.2.1 10 j ≤ 99 := fun j => hT.2 10 j
          have A13 : ∀ j, 0 ≤ τ45.2.1 13 j ∧ τ45.2.1 13 j ≤ 4 := fun j => hT.2 13 j
          have A14 : ∀ j, 0 ≤ τ45.2.1 14 j ∧ τ45.2.1 14 j ≤ 30000 := fun j => hT.2 14 j
          have A15 : ∀ j, 0 ≤ τ45.2.1 15 j ∧ τ45.2.1 15 j ≤ 999 := fun j => hT.2 15 j
          have A16 : ∀ j, (-1) ≤ τ45.2.1 16 j ∧ τ45.2.1 16 j ≤ 1499 := fun j => hT.2 16 j
          have A27 : ∀ j, 0 ≤ τ45.2.1 27 j ∧ τ45.2.1 27 j ≤ 90000 := fun j => hT.2 27 j
          have A28 : ∀ j, 0 ≤ τ45.2.1 28 j ∧ τ45.2.1 28 j ≤ 60 := fun j => hT.2 28 j
          have A29 : ∀ j, 0 ≤ τ45.2.1 29 j ∧ τ45.2.1 29 j ≤ 1499 := fun j => hT.2 29 j
          have A30 : ∀ j, 0 ≤ τ45.2.1 30 j ∧ τ45.2.1 30 j ≤ 20000 := fun j => hT.2 30 j
          have A31 : ∀ j, 0 ≤ τ45.2.1 31 j ∧ τ45.2.1 31 j ≤ 20000 := fun j => hT.2 31 j
          have A32 : ∀ j, 0 ≤ τ45.2.1 32 j ∧ τ45.2.1 32 j ≤ 999999 := fun j => hT.2 32 j
          have A33 : ∀ j, 0 ≤ τ45.2.1 33 j ∧ τ45.2.1 33 j ≤ 20000 := fun j => hT.2 33 j
          have A34 : ∀ j, 0 ≤ τ45.2.1 34 j ∧ τ45.2.1 34 j ≤ 20000 := fun j => hT.2 34 j
          have A35 : ∀ j, 0 ≤ τ45.2.1 35 j ∧ τ45.2.1 35 j ≤ 1499 := fun j => hT.2 35 j
          have A36 : ∀ j, 0 ≤ τ45.2.1 36 j ∧ τ45.2.1 36 j ≤ 20000 := fun j => hT.2 36 j
          have A37 : ∀ j, 0 ≤ τ45.2.1 37 j ∧ τ45.2.1 37 j ≤ 19999 := fun j => hT.2 37 j
          have A39 : ∀ j, 0 ≤ τ45.2.1 39 j ∧ τ45.2.1 39 j ≤ 1060 := fun j => hT.2 39 j
          have A40 : ∀ j, 0 ≤ τ45.2.1 40 j ∧ τ45.2.1 40 j ≤ 42000 := fun j => hT.2 40 j
          have A41 : ∀ j, (-2) ≤ τ45.2.1 41 j ∧ τ45.2.1 41 j ≤ 1000 := fun j => hT.2 41 j
          have A42 : ∀ j, (-2147483648) ≤ τ45.2.1 42 j ∧ τ45.2.1 42 j ≤ 2147483647 := fun j => hT.2 42 j
          have A43 : ∀ j, 0 ≤ τ45.2.1 43 j ∧ τ45.2.1 43 j ≤ 1060 := fun j => hT.2 43 j
          have A44 : ∀ j, 0 ≤ τ45.2.1 44 j ∧ τ45.2.1 44 j ≤ 42000 := fun j => hT.2 44 j
          have A45 : ∀ j, 0 ≤ τ45.2.1 45 j ∧ τ45.2.1 45 j ≤ 1000 := fun j => hT.2 45 j
          have A52 : ∀ j, 0 ≤ τ45.2.1 52 j ∧ τ45.2.1 52 j ≤ 19999 := fun j => hT.2 52 j
          have A53 : ∀ j, 0 ≤ τ45.2.1 53 j ∧ τ45.2.1 53 j ≤ 19999 := fun j => hT.2 53 j
          have v3 : 0 ≤ τ45.1 3 ∧ τ45.1 3 ≤ 2500 := hT.1 3
          have v5 : 0 ≤ τ45.1 5 ∧ τ45.1 5 ≤ 1000 := hT.1 5
          have v6 : 0 ≤ τ45.1 6 ∧ τ45.1 6 ≤ 30000 := hT.1 6
          have v7 : 0 ≤ τ45.1 7 ∧ τ45.1 7 ≤ 1500 := hT.1 7
          have v13 : 0 ≤ τ45.1 13 ∧ τ45.1 13 ≤ 90000 := hT.1 13
          have v14 : 0 ≤ τ45.1 14 ∧ τ45.1 14 ≤ 20000 := hT.1 14
          have v15 : 0 ≤ τ45.1 15 ∧ τ45.1 15 ≤ 20000 := hT.1 15
          have v16 : 0 ≤ τ45.1 16 ∧ τ45.1 16 ≤ 20000 := hT.1 16
          have v17 : 0 ≤ τ45.1 17 ∧ τ45.1 17 ≤ 42000 := hT.1 17
          have v18 : 0 ≤ τ45.1 18 ∧ τ45.1 18 ≤ 42000 := hT.1 18
          have v19 : 0 ≤ τ45.1 19 ∧ τ45.1 19 ≤ 1000 := hT.1 19
          have v23 : 0 ≤ τ45.1 23 ∧ τ45.1 23 ≤ 300 := hT.1 23
          have v30 : 0 ≤ τ45.1 30 ∧ τ45.1 30 ≤ 200 := hT.1 30
          have v31 : (-2147483648) ≤ τ45.1 31 ∧ τ45.1 31 ≤ 2147483647 := hT.1 31
          have v32 : 0 ≤ τ45.1 32 ∧ τ45.1 32 ≤ 20000 := hT.1 32
          have a36_15 : 0 ≤ τ45.2.1 36 (τ45.1 15) ∧ τ45.2.1 36 (τ45.1 15) ≤ 20000 := hT.2 36 _
          exact ⟨hT, (show 0 ≤ x44 ∧ x44 ≤ 19 from by (first | omega | (simp only [st_s] <;> omega) | assumption | omega | fail)), (show x44 = 0 → 0 ≤ (τ45.1 31) ∧ (τ45.1 31) ≤ 40000 from by (intro z; first | (exfalso; omega) | exact q43_2 z | omega)), (show x44 = 0 → J_dt (τ45.1 17) (τ45.1 18) (τ45.1 32) (τ45.2.1 39) (τ45.2.1 40) (τ45.2.1 41) from by (intro z; first | (exfalso; omega) | exact q43_3 z | omega)), (show x44 = 0 → J_pl (τ45.1 17) (τ45.1 31) (τ45.1 32) (τ45.1 30) (τ45.2.1 42) (τ45.2.1 41) (τ45.2.1 52) from by (intro z; first | (exfalso; omega) | exact q43_4 z | omega)), (show x44 = 0 → J_sv (τ45.1 32) (τ45.1 23) (τ45.2.1 42) (τ45.2.1 53) from by (intro z; first | (exfalso; omega) | exact q43_5 z | omega)), (show x44 = 0 → J_rb (τ45.1 7) (τ45.1 15) (τ45.1 32) (τ45.2.1 13) (τ45.2.1 28) (τ45.2.1 35) (τ45.2.1 36) (τ45.2.1 37) from by (first | (intro z; exfalso; omega) | (intro z; rw [show τ45.1 32 = σ.1 32 + 1 from by have := q43_6 z; omega, w7_τ45, w7_τ35, W7, w15_τ45, w15_τ35, W15, g13_τ45, g13_τ35, G13, g28_τ45, g28_τ35, G28, g35_τ45, g35_τ35, g36_τ45, g36_τ35, g37_τ45, g37_τ35]; exact i195_6) | (intro z; rw [show τ45.1 32 = σ.1 32 + 1 from by have := q43_6 z; omega, W7, W15, G13, G28, g35_τ45, g35_τ35, g36_τ45, g36_τ35, g37_τ45, g37_τ35]; exact i195_6) | fail)), (show J_bp (τ45.2.1 44) (τ45.2.1 45) from BP), (show J_all (τ45.1 7) (τ45.1 6) (τ45.1 13) (τ45.1 14) (τ45.1 15) (τ45.2.1 13) (τ45.2.1 14) (τ45.2.1 15) (τ45.2.1 16) (τ45.2.1 10) (τ45.2.1 27) (τ45.2.1 28) (τ45.2.1 29) (τ45.2.1 30) (τ45.2.1 31) (τ45.2.1 32) (τ45.2.1 33) (τ45.2.1 34) (τ45.2.1 35) (τ45.2.1 36) (τ45.2.1 37) from by (first | exact CJ | exact c_J_ag CJ_0 hT0 ag (by omega) (by first | (rw [G10]; exact j_rr0 _ _) | exact j_rr0 _ _) TX_0 CH (by omega) | fail)), (show j_eq (σ.2.1 36 (σ.1 15)) (σ.2.1 37) (τ45.2.1 37) from CH), (show x44 = 0 → (τ45.1 32) = (σ.1 32) + 1 ∧ τ45.2.1 36 ((σ.1 15) + (σ.1 32) + 1) + (τ45.1 30) = σ.2.1 36 ((σ.1 15) + (σ.1 32)) + (σ.1 30) + 1 from by (first | (intro z; exfalso; omega) | (intro z; have y := q43_6 z; have e := i195_18; rw [← g36_τ35, ← g36_τ45] at e; omega) | fail)), (show x44 = 0 → (n1 < 65536 → (τ45.1 23) = (σ.1 23)) ∧ (65536 ≤ n1 → (τ45.1 23) = (σ.1 23) + 1) from by (first | (intro z; exfalso; omega) | (intro z; have y := q43_6 z; omega) | fail)), ag⟩
        ·
          refine h271 _ _ ?_
          refine ⟨_, K_X10_putNew hT (show 0 ≤ (1 : Int) ∧ (1 : Int) ≤ 1 from by (first | omega | (simp only [st_s] <;> omega) | assumption | omega | fail)) (show (τ35.1 32) < 20000 from by (first | omega | (simp only [st_s] <;> omega) | assumption | omega | fail)) (show ¬ (1 : Int) = 0 → (τ35.1 23) < 300 from by (first | omega | (simp only [st_s] <;> omega) | assumption | omega | fail)) (show 0 ≤ (τ35.1 31) ∧ (τ35.1 31) ≤ 40000 from by (first | omega | (simp only [st_s] <;> omega) | assumption | omega | fail)) (show J_bt (τ35.1 19) (τ35.2.1 43) from by (rw [w19_τ35, g43_τ35]; exact i195_9)) (show J_dt (τ35.1 17) (τ35.1 18) (τ35.1 32) (τ35.2.1 39) (τ35.2.1 40) (τ35.2.1 41) from by (rw [w18_τ35, w32_τ35, g39_τ35, g40_τ35, g41_τ35, i195_12, i195_13, i195_14, show τ_195.1 18 = σ.1 18 from by omega, show τ_195.1 32 = σ.1 32 from by omega]; exact J_dt_low DT_0 (by omega))) (show J_pl (τ35.1 17) (τ35.1 31) (τ35.1 32) (τ35.1 30) (τ35.2.1 42) (τ35.2.1 41) (τ35.2.1 52) from by (rw [q33_1, ew, show τ_195.1 17 = σ.1 17 from by omega, w31_τ35, syq, w32_τ35, show τ_195.1 32 = σ.1 32 from by omega, w30_τ35, show τ_195.1 30 = σ.1 30 from by omega, g42_τ35, g41_τ35, g52_τ35, i195_15, i195_14, i195_16]; exact PLt)) (show J_sv (τ35.1 32) (τ35.1 23) (τ35.2.1 42) (τ35.2.1 53) from by (rw [w32_τ35, w23_τ35, g42_τ35, g53_τ35, show τ_195.1 32 = σ.1 32 from by omega, show τ_195.1 23 = σ.1 23 from by omega, i195_15, i195_17]; exact SV_0)), ?_⟩
          intro x44 τ45 r_x44 hn_τ45 hf_τ45 hq
          obtain ⟨hT, q43_1, q43_2, q43_3, q43_4, q43_5, q43_6⟩ := hq
          replace q43_1 : 0 ≤ x44 ∧ x44 ≤ 19 := q43_1
          replace q43_2 : x44 = 0 → 0 ≤ (τ45.1 31) ∧ (τ45.1 31) ≤ 40000 := q43_2
          replace q43_3 : x44 = 0 → J_dt (τ45.1 17) (τ45.1 18) (τ45.1 32) (τ45.2.1 39) (τ45.2.1 40) (τ45.2.1 41) := q43_3
          replace q43_4 : x44 = 0 → J_pl (τ45.1 17) (τ45.1 31) (τ45.1 32) (τ45.1 30) (τ45.2.1 42) (τ45.2.1 41) (τ45.2.1 52) := q43_4
          replace q43_5 : x44 = 0 → J_sv (τ45.1 32) (τ45.1 23) (τ45.2.1 42) (τ45.2.1 53) := q43_5
          replace q43_6 : x44 = 0 → (τ45.1 32) = (τ35.1 32) + 1 ∧ (τ45.1 30) = (τ35.1 30) + 1 ∧ (τ45.1 23) = (τ35.1 23) + (1 : Int) := q43_6
          replace ag : c_ag σ τ45 := ag_r ag hf_τ45 rfl rfl
          have w3_τ45 : τ45.1 3 = τ35.1 3 := hf_τ45.1 3 (by decide)
          have w5_τ45 : τ45.1 5 = τ35.1 5 := hf_τ45.1 5 (by decide)
          have w6_τ45 : τ45.1 6 = τ35.1 6 := hf_τ45.1 6 (by decide)
          have w7_τ45 : τ45.1 7 = τ35.1 7 := hf_τ45.1 7 (by decide)
          have w13_τ45 : τ45.1 13 = τ35.1 13 := hf_τ45.1 13 (by decide)
          have w14_τ45 : τ45.1 14 = τ35.1 14 := hf_τ45.1 14 (by decide)
          have w15_τ45 : τ45.1 15 = τ35.1 15 := hf_τ45.1 15 (by decide)
          have w16_τ45 : τ45.1 16 = τ35.1 16 := hf_τ45.1 16 (by decide)
          have w19_τ45 : τ45.1 19 = τ35.1 19 := hf_τ45.1 19 (by decide)
          have g10_τ45 : τ45.2.1 10 = τ35.2.1 10 := hf_τ45.2.1 10 (by decide)
          have g13_τ45 : τ45.2.1 13 = τ35.2.1 13 := hf_τ45.2.1 13 (by decide)
          have g14_τ45 : τ45.2.1 14 = τ35.2.1 14 := hf_τ45.2.1 14 (by decide)
          have g15_τ45 : τ45.2.1 15 = τ35.2.1 15 := hf_τ45.2.1 15 (by decide)
          have g16_τ45 : τ45.2.1 16 = τ35.2.1 16 := hf_τ45.2.1 16 (by decide)
          have g27_τ45 : τ45.2.1 27 = τ35.2.1 27 := hf_τ45.2.1 27 (by decide)
          have g28_τ45 : τ45.2.1 28 = τ35.2.1 28 := hf_τ45.2.1 28 (by decide)
          have g29_τ45 : τ45.2.1 29 = τ35.2.1 29 := hf_τ45.2.1 29 (by decide)
          have g30_τ45 : τ45.2.1 30 = τ35.2.1 30 := hf_τ45.2.1 30 (by decide)
          have g31_τ45 : τ45.2.1 31 = τ35.2.1 31 := hf_τ45.2.1 31 (by decide)
          have g32_τ45 : τ45.2.1 32 = τ35.2.1 32 := hf_τ45.2.1 32 (by decide)
          have g33_τ45 : τ45.2.1 33 = τ35.2.1 33 := hf_τ45.2.1 33 (by decide)
          have g34_τ45 : τ45.2.1 34 = τ35.2.1 34 := hf_τ45.2.1 34 (by decide)
          have g35_τ45 : τ45.2.1 35 = τ35.2.1 35 := hf_τ45.2.1 35 (by decide)
          have g36_τ45 : τ45.2.1 36 = τ35.2.1 36 := hf_τ45.2.1 36 (by decide)
          have g37_τ45 : τ45.2.1 37 = τ35.2.1 37 := hf_τ45.2.1 37 (by decide)
          have g43_τ45 : τ45.2.1 43 = τ35.2.1 43 := hf_τ45.2.1 43 (by decide)
          have g44_τ45 : τ45.2.1 44 = τ35.2.1 44 := hf_τ45.2.1 44 (by decide)
          have g45_τ45 : τ45.2.1 45 = τ35.2.1 45 := hf_τ45.2.1 45 (by decide)
          have W3 : τ45.1 3 = σ.1 3 := by first | exact w3_τ45.trans W3 | omega
          have W5 : τ45.1 5 = σ.1 5 := by first | exact w5_τ45.trans W5 | omega
          have W6 : τ45.1 6 = σ.1 6 := by first | exact w6_τ45.trans W6 | omega
          have W7 : τ45.1 7 = σ.1 7 := by first | exact w7_τ45.trans W7 | omega
          have W13 : τ45.1 13 = σ.1 13 := by first | exact w13_τ45.trans W13 | omega
          have W14 : τ45.1 14 = σ.1 14 := by first | exact w14_τ45.trans W14 | omega
          have W15 : τ45.1 15 = σ.1 15 := by first | exact w15_τ45.trans W15 | omega
          have W16 : τ45.1 16 = σ.1 16 := by first | exact w16_τ45.trans W16 | omega
          have G10 : τ45.2.1 10 = σ.2.1 10 := (g10_τ45).trans G10
          have G13 : τ45.2.1 13 = σ.2.1 13 := (g13_τ45).trans G13
          have G14 : τ45.2.1 14 = σ.2.1 14 := (g14_τ45).trans G14
          have G15 : τ45.2.1 15 = σ.2.1 15 := (g15_τ45).trans G15
          have G16 : τ45.2.1 16 = σ.2.1 16 := (g16_τ45).trans G16
          have G27 : τ45.2.1 27 = σ.2.1 27 := (g27_τ45).trans G27
          have G28 : τ45.2.1 28 = σ.2.1 28 := (g28_τ45).trans G28
          have G29 : τ45.2.1 29 = σ.2.1 29 := (g29_τ45).trans G29
          have G30 : τ45.2.1 30 = σ.2.1 30 := (g30_τ45).trans G30
          have G31 : τ45.2.1 31 = σ.2.1 31 := (g31_τ45).trans G31
          have G32 : τ45.2.1 32 = σ.2.1 32 := (g32_τ45).trans G32
          have G33 : τ45.2.1 33 = σ.2.1 33 := (g33_τ45).trans G33
          have G34 : τ45.2.1 34 = σ.2.1 34 := (g34_τ45).trans G34
          have y36_15_τ45 : τ45.2.1 36 (τ45.1 15) = (τ35.2.1 36) (τ35.1 15) := by rw [g36_τ45, w15_τ45]
          have TX : J_vs (τ45.1 6) (τ45.1 5) (τ45.2.1 15) := by rw [show (J_vs (τ45.1 6) (τ45.1 5) (τ45.2.1 15)) = (J_vs (τ35.1 6) (τ35.1 5) (τ35.2.1 15)) from by rw [w5_τ45, w6_τ45, g15_τ45]]; exact TX
          have BP : J_bp (τ45.2.1 44) (τ45.2.1 45) := by rw [show (J_bp (τ45.2.1 44) (τ45.2.1 45)) = (J_bp (τ35.2.1 44) (τ35.2.1 45)) from by rw [g44_τ45, g45_τ45]]; exact BP
          have CH : j_eq (σ.2.1 36 (σ.1 15)) (σ.2.1 37) (τ45.2.1 37) := by rw [show (j_eq (σ.2.1 36 (σ.1 15)) (σ.2.1 37) (τ45.2.1 37)) = (j_eq (σ.2.1 36 (σ.1 15)) (σ.2.1 37) (τ35.2.1 37)) from by rw [g37_τ45]]; exact CH
          have A10 : ∀ j, (-1) ≤ τ45.2.1 10 j ∧ τ45.2.1 10 j ≤ 99 := fun j => hT.2 10 j
          have A13 : ∀ j, 0 ≤ τ45.2.1 13 j ∧ τ45.2.1 13 j ≤ 4 := fun j => hT.2 13 j
          have A14 : ∀ j, 0 ≤ τ45.2.1 14 j ∧ τ45.2.1 14 j ≤ 30000 := fun j => hT.2 14 j
          have A15 : ∀ j, 0 ≤ τ45.2.1 15 j ∧ τ45.2.1 15 j ≤ 999 := fun j => hT.2 15 j
          have A16 : ∀ j, (-1) ≤ τ45.2.1 16 j ∧ τ45.2.1 16 j ≤ 1499 := fun j => hT.2 16 j
          have A27 : ∀ j, 0 ≤ τ45.2.1 27 j ∧ τ45.2.1 27 j ≤ 90000 := fun j => hT.2 27 j
          have A28 : ∀ j, 0 ≤ τ45.2.1 28 j ∧ τ45.2.1 28 j ≤ 60 := fun j => hT.2 28 j
          have A29 : ∀ j, 0 ≤ τ45.2.1 29 j ∧ τ45.2.1 29 j ≤ 1499 := fun j => hT.2 29 j
          have A30 : ∀ j, 0 ≤ τ45.2.1 30 j ∧ τ45.2.1 30 j ≤ 20000 := fun j => hT.2 30 j
          have A31 : ∀ j, 0 ≤ τ45.2.1 31 j ∧ τ45.2.1 31 j ≤ 20000 := fun j => hT.2 31 j
          have A32 : ∀ j, 0 ≤ τ45.2.1 32 j ∧ τ45.2.1 32 j ≤ 999999 := fun j => hT.2 32 j
          have A33 : ∀ j, 0 ≤ τ45.2.1 33 j ∧ τ45.2.1 33 j ≤ 20000 := fun j => hT.2 33 j
          have A34 : ∀ j, 0 ≤ τ45.2.1 34 j ∧ τ45.2.1 34 j ≤ 20000 := fun j => hT.2 34 j
          have A35 : ∀ j, 0 ≤ τ45.2.1 35 j ∧ τ45.2.1 35 j ≤ 1499 := fun j => hT.2 35 j
          have A36 : ∀ j, 0 ≤ τ45.2.1 36 j ∧ τ45.2.1 36 j ≤ 20000 := fun j => hT.2 36 j
          have A37 : ∀ j, 0 ≤ τ45.2.1 37 j ∧ τ45.2.1 37 j ≤ 19999 := fun j => hT.2 37 j
          have A39 : ∀ j, 0 ≤ τ45.2.1 39 j ∧ τ45.2.1 39 j ≤ 1060 := fun j => hT.2 39 j
          have A40 : ∀ j, 0 ≤ τ45.2.1 40 j ∧ τ45.2.1 40 j ≤ 42000 := fun j => hT.2 40 j
          have A41 : ∀ j, (-2) ≤ τ45.2.1 41 j ∧ τ45.2.1 41 j ≤ 1000 := fun j => hT.2 41 j
          have A42 : ∀ j, (-2147483648) ≤ τ45.2.1 42 j ∧ τ45.2.1 42 j ≤ 2147483647 := fun j => hT.2 42 j
          have A43 : ∀ j, 0 ≤ τ45.2.1 43 j ∧ τ45.2.1 43 j ≤ 1060 := fun j => hT.2 43 j
          have A44 : ∀ j, 0 ≤ τ45.2.1 44 j ∧ τ45.2.1 44 j ≤ 42000 := fun j => hT.2 44 j
          have A45 : ∀ j, 0 ≤ τ45.2.1 45 j ∧ τ45.2.1 45 j ≤ 1000 := fun j => hT.2 45 j
          have A52 : ∀ j, 0 ≤ τ45.2.1 52 j ∧ τ45.2.1 52 j ≤ 19999 := fun j => hT.2 52 j
          have A53 : ∀ j, 0 ≤ τ45.2.1 53 j ∧ τ45.2.1 53 j ≤ 19999 := fun j => hT.2 53 j
          have v3 : 0 ≤ τ45.1 3 ∧ τ45.1 3 ≤ 2500 := hT.1 3
          have v5 : 0 ≤ τ45.1 5 ∧ τ45.1 5 ≤ 1000 := hT.1 5
          have v6 : 0 ≤ τ45.1 6 ∧ τ45.1 6 ≤ 30000 := hT.1 6
          have v7 : 0 ≤ τ45.1 7 ∧ τ45.1 7 ≤ 1500 := hT.1 7
          have v13 : 0 ≤ τ45.1 13 ∧ τ45.1 13 ≤ 90000 := hT.1 13
          have v14 : 0 ≤ τ45.1 14 ∧ τ45.1 14 ≤ 20000 := hT.1 14
          have v15 : 0 ≤ τ45.1 15 ∧ τ45.1 15 ≤ 20000 := hT.1 15
          have v16 : 0 ≤ τ45.1 16 ∧ τ45.1 16 ≤ 20000 := hT.1 16
          have v17 : 0 ≤ τ45.1 17 ∧ τ45.1 17 ≤ 42000 := hT.1 17
          have v18 : 0 ≤ τ45.1 18 ∧ τ45.1 18 ≤ 42000 := hT.1 18
          have v19 : 0 ≤ τ45.1 19 ∧ τ45.1 19 ≤ 1000 := hT.1 19
          have v23 : 0 ≤ τ45.1 23 ∧ τ45.1 23 ≤ 300 := hT.1 23
          have v30 : 0 ≤ τ45.1 30 ∧ τ45.1 30 ≤ 200 := hT.1 30
          have v31 : (-2147483648) ≤ τ45.1 31 ∧ τ45.1 31 ≤ 2147483647 := hT.1 31
          have v32 : 0 ≤ τ45.1 32 ∧ τ45.1 32 ≤ 20000 := hT.1 32
          have a36_15 : 0 ≤ τ45.2.1 36 (τ45.1 15) ∧ τ45.2.1 36 (τ45.1 15) ≤ 20000 := hT.2 36 _
          exact ⟨hT, (show 0 ≤ x44 ∧ x44 ≤ 19 from by (first | omega | (simp only [st_s] <;> omega) | assumption | omega | fail)), (show x44 = 0 → 0 ≤ (τ45.1 31) ∧ (τ45.1 31) ≤ 40000 from by (intro z; first | (exfalso; omega) | exact q43_2 z | omega)), (show x44 = 0 → J_dt (τ45.1 17) (τ45.1 18) (τ45.1 32) (τ45.2.1 39) (τ45.2.1 40) (τ45.2.1 41) from by (intro z; first | (exfalso; omega) | exact q43_3 z | omega)), (show x44 = 0 → J_pl (τ45.1 17) (τ45.1 31) (τ45.1 32) (τ45.1 30) (τ45.2.1 42) (τ45.2.1 41) (τ45.2.1 52) from by (intro z; first | (exfalso; omega) | exact q43_4 z | omega)), (show x44 = 0 → J_sv (τ45.1 32) (τ45.1 23) (τ45.2.1 42) (τ45.2.1 53) from by (intro z; first | (exfalso; omega) | exact q43_5 z | omega)), (show x44 = 0 → J_rb (τ45.1 7) (τ45.1 15) (τ45.1 32) (τ45.2.1 13) (τ45.2.1 28) (τ45.2.1 35) (τ45.2.1 36) (τ45.2.1 37) from by (first | (intro z; exfalso; omega) | (intro z; rw [show τ45.1 32 = σ.1 32 + 1 from by have := q43_6 z; omega, w7_τ45, w7_τ35, W7, w15_τ45, w15_τ35, W15, g13_τ45, g13_τ35, G13, g28_τ45, g28_τ35, G28, g35_τ45, g35_τ35, g36_τ45, g36_τ35, g37_τ45, g37_τ35]; exact i195_6) | (intro z; rw [show τ45.1 32 = σ.1 32 + 1 from by have := q43_6 z; omega, W7, W15, G13, G28, g35_τ45, g35_τ35, g36_τ45, g36_τ35, g37_τ45, g37_τ35]; exact i195_6) | fail)), (show J_bp (τ45.2.1 44) (τ45.2.1 45) from BP), (show J_all (τ45.1 7) (τ45.1 6) (τ45.1 13) (τ45.1 14) (τ45.1 15) (τ45.2.1 13) (τ45.2.1 14) (τ45.2.1 15) (τ45.2.1 16) (τ45.2.1 10) (τ45.2.1 27) (τ45.2.1 28) (τ45.2.1 29) (τ45.2.1 30) (τ45.2.1 31) (τ45.2.1 32) (τ45.2.1 33) (τ45.2.1 34) (τ45.2.1 35) (τ45.2.1 36) (τ45.2.1 37) from by (first | exact CJ | exact c_J_ag CJ_0 hT0 ag (by omega) (by first | (rw [G10]; exact j_rr0 _ _) | exact j_rr0 _ _) TX_0 CH (by omega) | fail)), (show j_eq (σ.2.1 36 (σ.1 15)) (σ.2.1 37) (τ45.2.1 37) from CH), (show x44 = 0 → (τ45.1 32) = (σ.1 32) + 1 ∧ τ45.2.1 36 ((σ.1 15) + (σ.1 32) + 1) + (τ45.1 30) = σ.2.1 36 ((σ.1 15) + (σ.1 32)) + (σ.1 30) + 1 from by (first | (intro z; exfalso; omega) | (intro z; have y := q43_6 z; have e := i195_18; rw [← g36_τ35, ← g36_τ45] at e; omega) | fail)), (show x44 = 0 → (n1 < 65536 → (τ45.1 23) = (σ.1 23)) ∧ (65536 ≤ n1 → (τ45.1 23) = (σ.1 23) + 1) from by (first | (intro z; exfalso; omega) | (intro z; have y := q43_6 z; omega) | fail)), ag⟩
      ·
        refine ⟨(show 0 ≤ (u4_195 + u6_195) ∧ (u4_195 + u6_195) < 20000 from by (first | omega | (simp only [st_s] <;> omega) | assumption | omega | fail)), ?_⟩
        intro x38 r_x38 e_x38
        have b_x38 : 0 ≤ x38 ∧ x38 ≤ 19999 := by rw [e_x38]; exact hT.2 37 _
        refine ⟨(show 0 ≤ x38 ∧ x38 < 20000 from by (first | omega | (simp only [st_s] <;> omega) | assumption | omega | fail)), ?_⟩
        intro x40 r_x40 e_x40
        have b_x40 : (-2) ≤ x40 ∧ x40 ≤ 1000 := by rw [e_x40]; exact hT.2 41 _
        have x40e : x40 = σ.2.1 41 (σ.2.1 52 (σ.1 30 - u5_195 + u6_195)) := by rw [e_x40, e_x38, i195_14, i195_5 u6_195 (by omega) (by omega)]
        refine ⟨(⟨by (first | omega | (simp only [st_s] <;> omega) | assumption | omega | fail), by (first | omega | (simp only [st_s] <;> omega) | assumption | omega | fail)⟩ : rg (τ_195.1 31 - x40)), ?_⟩
        replace ag := ag_v (i := 31) (x := (τ_195.1 31 - x40)) ag (Or.inl rfl)
        replace hT := cT_v (i := 31) hT (show (-2147483648) ≤ (τ_195.1 31 - x40) ∧ (τ_195.1 31 - x40) ≤ 2147483647 from by (first | omega | (simp only [st_s] <;> omega) | assumption | omega | fail))
        refine ⟨(⟨by (first | omega | (simp only [st_s] <;> omega) | assumption | omega | fail), by (first | omega | (simp only [st_s] <;> omega) | assumption | omega | fail)⟩ : rg (u6_195 + 1)), ?_⟩
        exact ih_195 _ _ _ _ (show (61 - (u6_195 + 1) : Int) < ((m_195 : Nat) : Int) from by ((first | omega | (simp only [st_s] <;> omega) | assumption | omega | fail))) hT ag (show τ_195.1 3 = σ.1 3 from by first | exact W3 | omega) (show τ_195.1 5 = σ.1 5 from by first | exact W5 | omega) (show τ_195.1 6 = σ.1 6 from by first | exact W6 | omega) (show τ_195.1 7 = σ.1 7 from by first | exact W7 | omega) (show τ_195.1 13 = σ.1 13 from by first | exact W13 | omega) (show τ_195.1 14 = σ.1 14 from by first | exact W14 | omega) (show τ_195.1 15 = σ.1 15 from by first | exact W15 | omega) (show τ_195.1 16 = σ.1 16 from by first | exact W16 | omega) G10 G13 G14 G15 G16 G27 G28 G29 G30 G31 G32 G33 G34 (show u4_195 = σ.2.1 36 ((σ.1 15) + (σ.1 32)) from by (first | omega | (simp only [st_s] <;> omega) | assumption | omega | fail)) (show 0 ≤ u5_195 ∧ u5_195 ≤ (σ.1 30) ∧ u5_195 ≤ 60 from by (first | omega | (simp only [st_s] <;> omega) | assumption | omega | fail)) (show u5_195 = (if 2 ≤ σ.2.1 13 (n1 % 65536) then σ.2.1 28 (n1 % 65536) else 0) from by (first | exact i195_3 | exact i166_3 | fail)) (show 0 ≤ (u6_195 + 1) ∧ (u6_195 + 1) ≤ u5_195 from by (first | omega | (simp only [st_s] <;> omega) | assumption | omega | fail)) (show ∀ k : Int, 0 ≤ k → k < u5_195 → τ_195.2.1 37 (u4_195 + k) = σ.2.1 52 ((σ.1 30) - u5_195 + k) from by (first | exact i195_5 | exact i166_4 | fail)) (show J_rb (σ.1 7) (σ.1 15) ((σ.1 32) + 1) (σ.2.1 13) (σ.2.1 28) (τ_195.2.1 35) (τ_195.2.1 36) (τ_195.2.1 37) from by (first | exact i195_6 | exact rb1 | fail)) (show j_eq (σ.2.1 36 (σ.1 15)) (σ.2.1 37) (τ_195.2.1 37) from CH) (show J_bp (τ_195.2.1 44) (τ_195.2.1 45) from BP) (show J_bt (τ_195.1 19) (τ_195.2.1 43) from by (first | exact i195_9 | exact i166_8 | fail)) (show ((τ_195.1 31 - x40)) = (σ.1 31) - sm (fun k => σ.2.1 41 (σ.2.1 52 ((σ.1 30) - u5_195 + k))) (u6_195 + 1) from by (first | (rw [sm_0]; omega) | (rw [sw]; omega) | fail)) (show (τ_195.1 17) = (σ.1 17) ∧ (τ_195.1 18) = (σ.1 18) ∧ (τ_195.1 32) = (σ.1 32) ∧ (τ_195.1 30) = (σ.1 30) ∧ (τ_195.1 23) = (σ.1 23) from by (first | omega | (simp only [st_s] <;> omega) | assumption | omega | fail)) (show τ_195.2.1 39 = σ.2.1 39 from by (first | exact i195_12 | exact i166_11 | fail)) (show τ_195.2.1 40 = σ.2.1 40 from by (first | exact i195_13 | exact i166_12 | fail)) (show τ_195.2.1 41 = σ.2.1 41 from by (first | exact i195_14 | exact i166_13 | fail)) (show τ_195.2.1 42 = σ.2.1 42 from by (first | exact i195_15 | exact i166_14 | fail)) (show τ_195.2.1 52 = σ.2.1 52 from by (first | exact i195_16 | exact i166_15 | fail)) (show τ_195.2.1 53 = σ.2.1 53 from by (first | exact i195_17 | exact i166_16 | fail)) (show τ_195.2.1 36 ((σ.1 15) + (σ.1 32) + 1) = u4_195 + u5_195 from by (first | exact i195_18 | exact st_s _ _ _ | fail))
  have l_166 : ∀ (u4_166 : Int) (u5_166 : Int) (τ_166 : S0), (c_T τ_166) → (c_ag σ τ_166) → (τ_166.1 3 = σ.1 3) → (τ_166.1 5 = σ.1 5) → (τ_166.1 6 = σ.1 6) → (τ_166.1 7 = σ.1 7) → (τ_166.1 13 = σ.1 13) → (τ_166.1 14 = σ.1 14) → (τ_166.1 15 = σ.1 15) → (τ_166.1 16 = σ.1 16) → (τ_166.2.1 10 = σ.2.1 10) → (τ_166.2.1 13 = σ.2.1 13) → (τ_166.2.1 14 = σ.2.1 14) → (τ_166.2.1 15 = σ.2.1 15) → (τ_166.2.1 16 = σ.2.1 16) → (τ_166.2.1 27 = σ.2.1 27) → (τ_166.2.1 28 = σ.2.1 28) → (τ_166.2.1 29 = σ.2.1 29) → (τ_166.2.1 30 = σ.2.1 30) → (τ_166.2.1 31 = σ.2.1 31) → (τ_166.2.1 32 = σ.2.1 32) → (τ_166.2.1 33 = σ.2.1 33) → (τ_166.2.1 34 = σ.2.1 34) → (u4_166 = σ.2.1 36 ((σ.1 15) + (σ.1 32))) → (0 ≤ u5_166 ∧ u5_166 ≤ (σ.1 30) ∧ u5_166 ≤ 60) → (u5_166 = (if 2 ≤ σ.2.1 13 (n1 % 65536) then σ.2.1 28 (n1 % 65536) else 0)) → (∀ k : Int, 0 ≤ k → k < u5_166 → τ_166.2.1 37 (u4_166 + k) = σ.2.1 52 ((σ.1 30) - u5_166 + k)) → (J_rb (τ_166.1 7) (τ_166.1 15) (τ_166.1 32) (τ_166.2.1 13) (τ_166.2.1 28) (τ_166.2.1 35) (τ_166.2.1 36) (τ_166.2.1 37)) → (j_eq (σ.2.1 36 (σ.1 15)) (σ.2.1 37) (τ_166.2.1 37)) → (J_bp (τ_166.2.1 44) (τ_166.2.1 45)) → (J_bt (τ_166.1 19) (τ_166.2.1 43)) → ((τ_166.1 31) = (σ.1 31)) → ((τ_166.1 17) = (σ.1 17) ∧ (τ_166.1 18) = (σ.1 18) ∧ (τ_166.1 32) = (σ.1 32) ∧ (τ_166.1 30) = (σ.1 30) ∧ (τ_166.1 23) = (σ.1 23)) → (τ_166.2.1 39 = σ.2.1 39) → (τ_166.2.1 40 = σ.2.1 40) → (τ_166.2.1 41 = σ.2.1 41) → (τ_166.2.1 42 = σ.2.1 42) → (τ_166.2.1 52 = σ.2.1 52) → (τ_166.2.1 53 = σ.2.1 53) → (τ_166.2.1 35 = σ.2.1 35) → (τ_166.2.1 36 = σ.2.1 36) → P166 n1 (n1 % 65536) ((σ.1 15) + (σ.1 32)) u4_166 u5_166 τ_166 := by
    intro u4_166 u5_166 τ_166 hT ag W3 W5 W6 W7 W13 W14 W15 W16 G10 G13 G14 G15 G16 G27 G28 G29 G30 G31 G32 G33 G34 i166_1 i166_2 i166_3 i166_4 i166_5 i166_6 i166_7 i166_8 i166_9 i166_10 i166_11 i166_12 i166_13 i166_14 i166_15 i166_16 i166_17 i166_18
    have A10 : ∀ j, (-1) ≤ τ_166.2.1 10 j ∧ τ_166.2.1 10 j ≤ 99 := fun j => hT.2 10 j
    have A13 : ∀ j, 0 ≤ τ_166.2.1 13 j ∧ τ_166.2.1 13 j ≤ 4 := fun j => hT.2 13 j
    have A14 : ∀ j, 0 ≤ τ_166.2.1 14 j ∧ τ_166.2.1 14 j ≤ 30000 := fun j => hT.2 14 j
    have A15 : ∀ j, 0 ≤ τ_166.2.1 15 j ∧ τ_166.2.1 15 j ≤ 999 := fun j => hT.2 15 j
    have A16 : ∀ j, (-1) ≤ τ_166.2.1 16 j ∧ τ_166.2.1 16 j ≤ 1499 := fun j => hT.2 16 j
    have A27 : ∀ j, 0 ≤ τ_166.2.1 27 j ∧ τ_166.2.1 27 j ≤ 90000 := fun j => hT.2 27 j
    have A28 : ∀ j, 0 ≤ τ_166.2.1 28 j ∧ τ_166.2.1 28 j ≤ 60 := fun j => hT.2 28 j
    have A29 : ∀ j, 0 ≤ τ_166.2.1 29 j ∧ τ_166.2.1 29 j ≤ 1499 := fun j => hT.2 29 j
    have A30 : ∀ j, 0 ≤ τ_166.2.1 30 j ∧ τ_166.2.1 30 j ≤ 20000 := fun j => hT.2 30 j
    have A31 : ∀ j, 0 ≤ τ_166.2.1 31 j ∧ τ_166.2.1 31 j ≤ 20000 := fun j => hT.2 31 j
    have A32 : ∀ j, 0 ≤ τ_166.2.1 32 j ∧ τ_166.2.1 32 j ≤ 999999 := fun j => hT.2 32 j
    have A33 : ∀ j, 0 ≤ τ_166.2.1 33 j ∧ τ_166.2.1 33 j ≤ 20000 := fun j => hT.2 33 j
    have A34 : ∀ j, 0 ≤ τ_166.2.1 34 j ∧ τ_166.2.1 34 j ≤ 20000 := fun j => hT.2 34 j
    have A35 : ∀ j, 0 ≤ τ_166.2.1 35 j ∧ τ_166.2.1 35 j ≤ 1499 := fun j => hT.2 35 j
    have A36 : ∀ j, 0 ≤ τ_166.2.1 36 j ∧ τ_166.2.1 36 j ≤ 20000 := fun j => hT.2 36 j
    have A37 : ∀ j, 0 ≤ τ_166.2.1 37 j ∧ τ_166.2.1 37 j ≤ 19999 := fun j => hT.2 37 j
    have A39 : ∀ j, 0 ≤ τ_166.2.1 39 j ∧ τ_166.2.1 39 j ≤ 1060 := fun j => hT.2 39 j
    have A40 : ∀ j, 0 ≤ τ_166.2.1 40 j ∧ τ_166.2.1 40 j ≤ 42000 := fun j => hT.2 40 j
    have A41 : ∀ j, (-2) ≤ τ_166.2.1 41 j ∧ τ_166.2.1 41 j ≤ 1000 := fun j => hT.2 41 j
    have A42 : ∀ j, (-2147483648) ≤ τ_166.2.1 42 j ∧ τ_166.2.1 42 j ≤ 2147483647 := fun j => hT.2 42 j
    have A43 : ∀ j, 0 ≤ τ_166.2.1 43 j ∧ τ_166.2.1 43 j ≤ 1060 := fun j => hT.2 43 j
    have A44 : ∀ j, 0 ≤ τ_166.2.1 44 j ∧ τ_166.2.1 44 j ≤ 42000 := fun j => hT.2 44 j
    have A45 : ∀ j, 0 ≤ τ_166.2.1 45 j ∧ τ_166.2.1 45 j ≤ 1000 := fun j => hT.2 45 j
    have A52 : ∀ j, 0 ≤ τ_166.2.1 52 j ∧ τ_166.2.1 52 j ≤ 19999 := fun j => hT.2 52 j
    have A53 : ∀ j, 0 ≤ τ_166.2.1 53 j ∧ τ_166.2.1 53 j ≤ 19999 := fun j => hT.2 53 j
    have v3 : 0 ≤ τ_166.1 3 ∧ τ_166.1 3 ≤ 2500 := hT.1 3
    have v5 : 0 ≤ τ_166.1 5 ∧ τ_166.1 5 ≤ 1000 := hT.1 5
    have v6 : 0 ≤ τ_166.1 6 ∧ τ_166.1 6 ≤ 30000 := hT.1 6
    have v7 : 0 ≤ τ_166.1 7 ∧ τ_166.1 7 ≤ 1500 := hT.1 7
    have v13 : 0 ≤ τ_166.1 13 ∧ τ_166.1 13 ≤ 90000 := hT.1 13
    have v14 : 0 ≤ τ_166.1 14 ∧ τ_166.1 14 ≤ 20000 := hT.1 14
    have v15 : 0 ≤ τ_166.1 15 ∧ τ_166.1 15 ≤ 20000 := hT.1 15
    have v16 : 0 ≤ τ_166.1 16 ∧ τ_166.1 16 ≤ 20000 := hT.1 16
    have v17 : 0 ≤ τ_166.1 17 ∧ τ_166.1 17 ≤ 42000 := hT.1 17
    have v18 : 0 ≤ τ_166.1 18 ∧ τ_166.1 18 ≤ 42000 := hT.1 18
    have v19 : 0 ≤ τ_166.1 19 ∧ τ_166.1 19 ≤ 1000 := hT.1 19
    have v23 : 0 ≤ τ_166.1 23 ∧ τ_166.1 23 ≤ 300 := hT.1 23
    have v30 : 0 ≤ τ_166.1 30 ∧ τ_166.1 30 ≤ 200 := hT.1 30
    have v31 : (-2147483648) ≤ τ_166.1 31 ∧ τ_166.1 31 ≤ 2147483647 := hT.1 31
    have v32 : 0 ≤ τ_166.1 32 ∧ τ_166.1 32 ≤ 20000 := hT.1 32
    have a36_15 : 0 ≤ τ_166.2.1 36 (τ_166.1 15) ∧ τ_166.2.1 36 (τ_166.1 15) ≤ 20000 := hT.2 36 _
    have TX : J_vs (τ_166.1 6) (τ_166.1 5) (τ_166.2.1 15) := by rw [show (J_vs (τ_166.1 6) (τ_166.1 5) (τ_166.2.1 15)) = (J_vs (σ.1 6) (σ.1 5) (σ.2.1 15)) from by rw [W5, W6, G15]]; exact TX_0
    have BP : J_bp (τ_166.2.1 44) (τ_166.2.1 45) := i166_7
    have RB : J_rb (τ_166.1 7) (τ_166.1 15) (τ_166.1 32) (τ_166.2.1 13) (τ_166.2.1 28) (τ_166.2.1 35) (τ_166.2.1 36) (τ_166.2.1 37) := i166_5
    have CH : j_eq (σ.2.1 36 (σ.1 15)) (σ.2.1 37) (τ_166.2.1 37) := i166_6
    have G15i : τ_166.1 15 = σ.1 15 := W15
    refine h166 n1 (n1 % 65536) ((σ.1 15) + (σ.1 32)) u4_166 u5_166 τ_166 ?_
    have rb1 := J_rb_a (t := u5_166) (s := n1 % 65536) RB (fun j => by rw [G28]; exact f0 j) (by omega) (by rw [W7]; exact p3) (by rw [G13, G28]; exact i166_3) (fun k k0 k1 => by rw [i166_18, show τ_166.1 15 + τ_166.1 32 = σ.1 15 + σ.1 32 from by omega, ← i166_1, i166_4 k k0 k1, show τ_166.1 32 = σ.1 32 from by omega]; exact prr _ (by omega) (by omega))
    rw [W7, W15, show τ_166.1 32 = σ.1 32 from by omega, G13, G28] at rb1
    have eu : τ_166.2.1 36 (σ.1 15 + σ.1 32) = u4_166 := by rw [i166_18, ← i166_1]
    rw [eu] at rb1
    refine ⟨(show 0 ≤ ((σ.1 15) + (σ.1 32)) ∧ ((σ.1 15) + (σ.1 32)) < 20000 from by (first | omega | (simp only [st_s] <;> omega) | assumption | omega | fail)), ?_⟩
    replace ag := ag_w (k := 35) (x := (n1 % 65536)) 15 0 ag rfl (show σ.1 15 + 0 ≤ ((σ.1 15) + (σ.1 32)) from by (first | omega | (simp only [st_s] <;> omega) | assumption | omega | fail))
    replace hT := cT_a (k := 35) (j := ((σ.1 15) + (σ.1 32))) hT (show (0 : Int) ≤ (n1 % 65536) ∧ (n1 % 65536) ≤ 1499 from by (first | omega | (simp only [st_s] <;> omega) | assumption | omega | fail))
    refine ⟨(show 0 ≤ (((σ.1 15) + (σ.1 32)) + 1) ∧ (((σ.1 15) + (σ.1 32)) + 1) < 20001 from by (first | omega | (simp only [st_s] <;> omega) | assumption | omega | fail)), ?_⟩
    refine ⟨(⟨by (first | omega | (simp only [st_s] <;> omega) | assumption | omega | fail), by (first | omega | (simp only [st_s] <;> omega) | assumption | omega | fail)⟩ : rg (u4_166 + u5_166)), ?_⟩
    replace ag := ag_w (k := 36) (x := (u4_166 + u5_166)) 15 1 ag rfl (show σ.1 15 + 1 ≤ (((σ.1 15) + (σ.1 32)) + 1) from by (first | omega | (simp only [st_s] <;> omega) | assumption | omega | fail))
    replace hT := cT_a (k := 36) (j := (((σ.1 15) + (σ.1 32)) + 1)) hT (show (0 : Int) ≤ (u4_166 + u5_166) ∧ (u4_166 + u5_166) ≤ 20000 from by (first | omega | (simp only [st_s] <;> omega) | assumption | omega | fail))
    exact l_195 ((61 - 0 : Int).toNat + 1) _ _ _ _ (show (61 - 0 : Int) < (((61 - 0 : Int).toNat + 1 : Nat) : Int) from by ((first | omega | (simp only [st_s] <;> omega) | assumption | omega | fail))) hT ag (show τ_166.1 3 = σ.1 3 from by first | exact W3 | omega) (show τ_166.1 5 = σ.1 5 from by first | exact W5 | omega) (show τ_166.1 6 = σ.1 6 from by first | exact W6 | omega) (show τ_166.1 7 = σ.1 7 from by first | exact W7 | omega) (show τ_166.1 13 = σ.1 13 from by first | exact W13 | omega) (show τ_166.1 14 = σ.1 14 from by first | exact W14 | omega) (show τ_166.1 15 = σ.1 15 from by first | exact W15 | omega) (show τ_166.1 16 = σ.1 16 from by first | exact W16 | omega) G10 G13 G14 G15 G16 G27 G28 G29 G30 G31 G32 G33 G34 (show u4_166 = σ.2.1 36 ((σ.1 15) + (σ.1 32)) from by (first | omega | (simp only [st_s] <;> omega) | assumption | omega | fail)) (show 0 ≤ u5_166 ∧ u5_166 ≤ (σ.1 30) ∧ u5_166 ≤ 60 from by (first | omega | (simp only [st_s] <;> omega) | assumption | omega | fail)) (show u5_166 = (if 2 ≤ σ.2.1 13 (n1 % 65536) then σ.2.1 28 (n1 % 65536) else 0) from by (first | exact i195_3 | exact i166_3 | fail)) (show 0 ≤ 0 ∧ 0 ≤ u5_166 from by (first | omega | (simp only [st_s] <;> omega) | assumption | omega | fail)) (show ∀ k : Int, 0 ≤ k → k < u5_166 → τ_166.2.1 37 (u4_166 + k) = σ.2.1 52 ((σ.1 30) - u5_166 + k) from by (first | exact i195_5 | exact i166_4 | fail)) (show J_rb (σ.1 7) (σ.1 15) ((σ.1 32) + 1) (σ.2.1 13) (σ.2.1 28) ((st (τ_166.2.1 35) ((σ.1 15) + (σ.1 32)) (n1 % 65536))) ((st (τ_166.2.1 36) (((σ.1 15) + (σ.1 32)) + 1) (u4_166 + u5_166))) (τ_166.2.1 37) from by (first | exact i195_6 | exact rb1 | fail)) (show j_eq (σ.2.1 36 (σ.1 15)) (σ.2.1 37) (τ_166.2.1 37) from CH) (show J_bp (τ_166.2.1 44) (τ_166.2.1 45) from BP) (show J_bt (τ_166.1 19) (τ_166.2.1 43) from by (first | exact i195_9 | exact i166_8 | fail)) (show (τ_166.1 31) = (σ.1 31) - sm (fun k => σ.2.1 41 (σ.2.1 52 ((σ.1 30) - u5_166 + k))) 0 from by (first | (rw [sm_0]; omega) | (rw [sw]; omega) | fail)) (show (τ_166.1 17) = (σ.1 17) ∧ (τ_166.1 18) = (σ.1 18) ∧ (τ_166.1 32) = (σ.1 32) ∧ (τ_166.1 30) = (σ.1 30) ∧ (τ_166.1 23) = (σ.1 23) from by (first | omega | (simp only [st_s] <;> omega) | assumption | omega | fail)) (show τ_166.2.1 39 = σ.2.1 39 from by (first | exact i195_12 | exact i166_11 | fail)) (show τ_166.2.1 40 = σ.2.1 40 from by (first | exact i195_13 | exact i166_12 | fail)) (show τ_166.2.1 41 = σ.2.1 41 from by (first | exact i195_14 | exact i166_13 | fail)) (show τ_166.2.1 42 = σ.2.1 42 from by (first | exact i195_15 | exact i166_14 | fail)) (show τ_166.2.1 52 = σ.2.1 52 from by (first | exact i195_16 | exact i166_15 | fail)) (show τ_166.2.1 53 = σ.2.1 53 from by (first | exact i195_17 | exact i166_16 | fail)) (show (st (τ_166.2.1 36) (((σ.1 15) + (σ.1 32)) + 1) (u4_166 + u5_166)) ((σ.1 15) + (σ.1 32) + 1) = u4_166 + u5_166 from by (first | exact i195_18 | exact st_s _ _ _ | fail))
  have l_82 : ∀ (m_82 : Nat) (u4_82 : Int) (u5_82 : Int) (u6_82 : Int) (τ_82 : S0), 61 - u6_82 < (m_82 : Int) → (c_T τ_82) → (c_ag σ τ_82) → (τ_82.1 3 = σ.1 3) → (τ_82.1 5 = σ.1 5) → (τ_82.1 6 = σ.1 6) → (τ_82.1 7 = σ.1 7) → (τ_82.1 13 = σ.1 13) → (τ_82.1 14 = σ.1 14) → (τ_82.1 15 = σ.1 15) → (τ_82.1 16 = σ.1 16) → (τ_82.2.1 10 = σ.2.1 10) → (τ_82.2.1 13 = σ.2.1 13) → (τ_82.2.1 14 = σ.2.1 14) → (τ_82.2.1 15 = σ.2.1 15) → (τ_82.2.1 16 = σ.2.1 16) → (τ_82.2.1 27 = σ.2.1 27) → (τ_82.2.1 28 = σ.2.1 28) → (τ_82.2.1 29 = σ.2.1 29) → (τ_82.2.1 30 = σ.2.1 30) → (τ_82.2.1 31 = σ.2.1 31) → (τ_82.2.1 32 = σ.2.1 32) → (τ_82.2.1 33 = σ.2.1 33) → (τ_82.2.1 34 = σ.2.1 34) → (u4_82 = σ.2.1 36 ((σ.1 15) + (σ.1 32))) → (u5_82 = σ.2.1 28 (n1 % 65536)) → (u5_82 ≤ (σ.1 30)) → (2 ≤ σ.2.1 13 (n1 % 65536)) → (0 ≤ u6_82 ∧ u6_82 ≤ u5_82 ∧ u5_82 ≤ 60) → (J_rb (τ_82.1 7) (τ_82.1 15) (τ_82.1 32) (τ_82.2.1 13) (τ_82.2.1 28) (τ_82.2.1 35) (τ_82.2.1 36) (τ_82.2.1 37)) → (j_eq (σ.2.1 36 (σ.1 15)) (σ.2.1 37) (τ_82.2.1 37)) → (∀ k : Int, 0 ≤ k → k < u6_82 → τ_82.2.1 37 (u4_82 + k) = σ.2.1 52 ((σ.1 30) - u5_82 + k)) → (J_bp (τ_82.2.1 44) (τ_82.2.1 45)) → ((τ_82.1 31) = (σ.1 31)) → ((τ_82.1 17) = (σ.1 17) ∧ (τ_82.1 18) = (σ.1 18) ∧ (τ_82.1 32) = (σ.1 32) ∧ (τ_82.1 30) = (σ.1 30) ∧ (τ_82.1 23) = (σ.1 23)) → (τ_82.2.1 39 = σ.2.1 39) → (τ_82.2.1 40 = σ.2.1 40) → (τ_82.2.1 41 = σ.2.1 41) → (τ_82.2.1 42 = σ.2.1 42) → (τ_82.2.1 52 = σ.2.1 52) → (τ_82.2.1 53 = σ.2.1 53) → (τ_82.2.1 35 = σ.2.1 35) → (τ_82.2.1 36 = σ.2.1 36) → P82 n1 (n1 % 65536) ((σ.1 15) + (σ.1 32)) u4_82 u5_82 u6_82 τ_82 := by
    intro m_82
    induction m_82 with
    | zero =>
      intro u4_82 u5_82 u6_82 τ_82 hm hT ag W3 W5 W6 W7 W13 W14 W15 W16 G10 G13 G14 G15 G16 G27 G28 G29 G30 G31 G32 G33 G34 i82_1 i82_2 i82_3 i82_4 i82_5 i82_6 i82_7 i82_8 i82_9 i82_10 i82_11 i82_12 i82_13 i82_14 i82_15 i82_16 i82_17 i82_18 i82_19
      have A10 : ∀ j, (-1) ≤ τ_82.2.1 10 j ∧ τ_82.2.1 10 j ≤ 99 := fun j => hT.2 10 j
      have A13 : ∀ j, 0 ≤ τ_82.2.1 13 j ∧ τ_82.2.1 13 j ≤ 4 := fun j => hT.2 13 j
      have A14 : ∀ j, 0 ≤ τ_82.2.1 14 j ∧ τ_82.2.1 14 j ≤ 30000 := fun j => hT.2 14 j
      have A15 : ∀ j, 0 ≤ τ_82.2.1 15 j ∧ τ_82.2.1 15 j ≤ 999 := fun j => hT.2 15 j
      have A16 : ∀ j, (-1) ≤ τ_82.2.1 16 j ∧ τ_82.2.1 16 j ≤ 1499 := fun j => hT.2 16 j
      have A27 : ∀ j, 0 ≤ τ_82.2.1 27 j ∧ τ_82.2.1 27 j ≤ 90000 := fun j => hT.2 27 j
      have A28 : ∀ j, 0 ≤ τ_82.2.1 28 j ∧ τ_82.2.1 28 j ≤ 60 := fun j => hT.2 28 j
      have A29 : ∀ j, 0 ≤ τ_82.2.1 29 j ∧ τ_82.2.1 29 j ≤ 1499 := fun j => hT.2 29 j
      have A30 : ∀ j, 0 ≤ τ_82.2.1 30 j ∧ τ_82.2.1 30 j ≤ 20000 := fun j => hT.2 30 j
      have A31 : ∀ j, 0 ≤ τ_82.2.1 31 j ∧ τ_82.2.1 31 j ≤ 20000 := fun j => hT.2 31 j
      have A32 : ∀ j, 0 ≤ τ_82.2.1 32 j ∧ τ_82.2.1 32 j ≤ 999999 := fun j => hT.2 32 j
      have A33 : ∀ j, 0 ≤ τ_82.2.1 33 j ∧ τ_82.2.1 33 j ≤ 20000 := fun j => hT.2 33 j
      have A34 : ∀ j, 0 ≤ τ_82.2.1 34 j ∧ τ_82.2.1 34 j ≤ 20000 := fun j => hT.2 34 j
      have A35 : ∀ j, 0 ≤ τ_82.2.1 35 j ∧ τ_82.2.1 35 j ≤ 1499 := fun j => hT.2 35 j
      have A36 : ∀ j, 0 ≤ τ_82.2.1 36 j ∧ τ_82.2.1 36 j ≤ 20000 := fun j => hT.2 36 j
      have A37 : ∀ j, 0 ≤ τ_82.2.1 37 j ∧ τ_82.2.1 37 j ≤ 19999 := fun j => hT.2 37 j
      have A39 : ∀ j, 0 ≤ τ_82.2.1 39 j ∧ τ_82.2.1 39 j ≤ 1060 := fun j => hT.2 39 j
      have A40 : ∀ j, 0 ≤ τ_82.2.1 40 j ∧ τ_82.2.1 40 j ≤ 42000 := fun j => hT.2 40 j
      have A41 : ∀ j, (-2) ≤ τ_82.2.1 41 j ∧ τ_82.2.1 41 j ≤ 1000 := fun j => hT.2 41 j
      have A42 : ∀ j, (-2147483648) ≤ τ_82.2.1 42 j ∧ τ_82.2.1 42 j ≤ 2147483647 := fun j => hT.2 42 j
      have A43 : ∀ j, 0 ≤ τ_82.2.1 43 j ∧ τ_82.2.1 43 j ≤ 1060 := fun j => hT.2 43 j
      have A44 : ∀ j, 0 ≤ τ_82.2.1 44 j ∧ τ_82.2.1 44 j ≤ 42000 := fun j => hT.2 44 j
      have A45 : ∀ j, 0 ≤ τ_82.2.1 45 j ∧ τ_82.2.1 45 j ≤ 1000 := fun j => hT.2 45 j
      have A52 : ∀ j, 0 ≤ τ_82.2.1 52 j ∧ τ_82.2.1 52 j ≤ 19999 := fun j => hT.2 52 j
      have A53 : ∀ j, 0 ≤ τ_82.2.1 53 j ∧ τ_82.2.1 53 j ≤ 19999 := fun j => hT.2 53 j
      have v3 : 0 ≤ τ_82.1 3 ∧ τ_82.1 3 ≤ 2500 := hT.1 3
      have v5 : 0 ≤ τ_82.1 5 ∧ τ_82.1 5 ≤ 1000 := hT.1 5
      have v6 : 0 ≤ τ_82.1 6 ∧ τ_82.1 6 ≤ 30000 := hT.1 6
      have v7 : 0 ≤ τ_82.1 7 ∧ τ_82.1 7 ≤ 1500 := hT.1 7
      have v13 : 0 ≤ τ_82.1 13 ∧ τ_82.1 13 ≤ 90000 := hT.1 13
      have v14 : 0 ≤ τ_82.1 14 ∧ τ_82.1 14 ≤ 20000 := hT.1 14
      have v15 : 0 ≤ τ_82.1 15 ∧ τ_82.1 15 ≤ 20000 := hT.1 15
      have v16 : 0 ≤ τ_82.1 16 ∧ τ_82.1 16 ≤ 20000 := hT.1 16
      have v17 : 0 ≤ τ_82.1 17 ∧ τ_82.1 17 ≤ 42000 := hT.1 17
      have v18 : 0 ≤ τ_82.1 18 ∧ τ_82.1 18 ≤ 42000 := hT.1 18
      have v19 : 0 ≤ τ_82.1 19 ∧ τ_82.1 19 ≤ 1000 := hT.1 19
      have v23 : 0 ≤ τ_82.1 23 ∧ τ_82.1 23 ≤ 300 := hT.1 23
      have v30 : 0 ≤ τ_82.1 30 ∧ τ_82.1 30 ≤ 200 := hT.1 30
      have v31 : (-2147483648) ≤ τ_82.1 31 ∧ τ_82.1 31 ≤ 2147483647 := hT.1 31
      have v32 : 0 ≤ τ_82.1 32 ∧ τ_82.1 32 ≤ 20000 := hT.1 32
      have a36_15 : 0 ≤ τ_82.2.1 36 (τ_82.1 15) ∧ τ_82.2.1 36 (τ_82.1 15) ≤ 20000 := hT.2 36 _
      exfalso; (first | omega | (simp only [st_s] <;> omega) | assumption | omega | fail)
    | succ m_82 ih_82 =>
      intro u4_82 u5_82 u6_82 τ_82 hm_82 hT ag W3 W5 W6 W7 W13 W14 W15 W16 G10 G13 G14 G15 G16 G27 G28 G29 G30 G31 G32 G33 G34 i82_1 i82_2 i82_3 i82_4 i82_5 i82_6 i82_7 i82_8 i82_9 i82_10 i82_11 i82_12 i82_13 i82_14 i82_15 i82_16 i82_17 i82_18 i82_19
      have A10 : ∀ j, (-1) ≤ τ_82.2.1 10 j ∧ τ_82.2.1 10 j ≤ 99 := fun j => hT.2 10 j
      have A13 : ∀ j, 0 ≤ τ_82.2.1 13 j ∧ τ_82.2.1 13 j ≤ 4 := fun j => hT.2 13 j
      have A14 : ∀ j, 0 ≤ τ_82.2.1 14 j ∧ τ_82.2.1 14 j ≤ 30000 := fun j => hT.2 14 j
      have A15 : ∀ j, 0 ≤ τ_82.2.1 15 j ∧ τ_82.2.1 15 j ≤ 999 := fun j => hT.2 15 j
      have A16 : ∀ j, (-1) ≤ τ_82.2.1 16 j ∧ τ_82.2.1 16 j ≤ 1499 := fun j => hT.2 16 j
      have A27 : ∀ j, 0 ≤ τ_82.2.1 27 j ∧ τ_82.2.1 27 j ≤ 90000 := fun j => hT.2 27 j
      have A28 : ∀ j, 0 ≤ τ_82.2.1 28 j ∧ τ_82.2.1 28 j ≤ 60 := fun j => hT.2 28 j
      have A29 : ∀ j, 0 ≤ τ_82.2.1 29 j ∧ τ_82.2.1 29 j ≤ 1499 := fun j => hT.2 29 j
      have A30 : ∀ j, 0 ≤ τ_82.2.1 30 j ∧ τ_82.2.1 30 j ≤ 20000 := fun j => hT.2 30 j
      have A31 : ∀ j, 0 ≤ τ_82.2.1 31 j ∧ τ_82.2.1 31 j ≤ 20000 := fun j => hT.2 31 j
      have A32 : ∀ j, 0 ≤ τ_82.2.1 32 j ∧ τ_82.2.1 32 j ≤ 999999 := fun j => hT.2 32 j
      have A33 : ∀ j, 0 ≤ τ_82.2.1 33 j ∧ τ_82.2.1 33 j ≤ 20000 := fun j => hT.2 33 j
      have A34 : ∀ j, 0 ≤ τ_82.2.1 34 j ∧ τ_82.2.1 34 j ≤ 20000 := fun j => hT.2 34 j
      have A35 : ∀ j, 0 ≤ τ_82.2.1 35 j ∧ τ_82.2.1 35 j ≤ 1499 := fun j => hT.2 35 j
      have A36 : ∀ j, 0 ≤ τ_82.2.1 36 j ∧ τ_82.2.1 36 j ≤ 20000 := fun j => hT.2 36 j
      have A37 : ∀ j, 0 ≤ τ_82.2.1 37 j ∧ τ_82.2.1 37 j ≤ 19999 := fun j => hT.2 37 j
      have A39 : ∀ j, 0 ≤ τ_82.2.1 39 j ∧ τ_82.2.1 39 j ≤ 1060 := fun j => hT.2 39 j
      have A40 : ∀ j, 0 ≤ τ_82.2.1 40 j ∧ τ_82.2.1 40 j ≤ 42000 := fun j => hT.2 40 j
      have A41 : ∀ j, (-2) ≤ τ_82.2.1 41 j ∧ τ_82.2.1 41 j ≤ 1000 := fun j => hT.2 41 j
      have A42 : ∀ j, (-2147483648) ≤ τ_82.2.1 42 j ∧ τ_82.2.1 42 j ≤ 2147483647 := fun j => hT.2 42 j
      have A43 : ∀ j, 0 ≤ τ_82.2.1 43 j ∧ τ_82.2.1 43 j ≤ 1060 := fun j => hT.2 43 j
      have A44 : ∀ j, 0 ≤ τ_82.2.1 44 j ∧ τ_82.2.1 44 j ≤ 42000 := fun j => hT.2 44 j
      have A45 : ∀ j, 0 ≤ τ_82.2.1 45 j ∧ τ_82.2.1 45 j ≤ 1000 := fun j => hT.2 45 j
      have A52 : ∀ j, 0 ≤ τ_82.2.1 52 j ∧ τ_82.2.1 52 j ≤ 19999 := fun j => hT.2 52 j
      have A53 : ∀ j, 0 ≤ τ_82.2.1 53 j ∧ τ_82.2.1 53 j ≤ 19999 := fun j => hT.2 53 j
      have v3 : 0 ≤ τ_82.1 3 ∧ τ_82.1 3 ≤ 2500 := hT.1 3
      have v5 : 0 ≤ τ_82.1 5 ∧ τ_82.1 5 ≤ 1000 := hT.1 5
      have v6 : 0 ≤ τ_82.1 6 ∧ τ_82.1 6 ≤ 30000 := hT.1 6
      have v7 : 0 ≤ τ_82.1 7 ∧ τ_82.1 7 ≤ 1500 := hT.1 7
      have v13 : 0 ≤ τ_82.1 13 ∧ τ_82.1 13 ≤ 90000 := hT.1 13
      have v14 : 0 ≤ τ_82.1 14 ∧ τ_82.1 14 ≤ 20000 := hT.1 14
      have v15 : 0 ≤ τ_82.1 15 ∧ τ_82.1 15 ≤ 20000 := hT.1 15
      have v16 : 0 ≤ τ_82.1 16 ∧ τ_82.1 16 ≤ 20000 := hT.1 16
      have v17 : 0 ≤ τ_82.1 17 ∧ τ_82.1 17 ≤ 42000 := hT.1 17
      have v18 : 0 ≤ τ_82.1 18 ∧ τ_82.1 18 ≤ 42000 := hT.1 18
      have v19 : 0 ≤ τ_82.1 19 ∧ τ_82.1 19 ≤ 1000 := hT.1 19
      have v23 : 0 ≤ τ_82.1 23 ∧ τ_82.1 23 ≤ 300 := hT.1 23
      have v30 : 0 ≤ τ_82.1 30 ∧ τ_82.1 30 ≤ 200 := hT.1 30
      have v31 : (-2147483648) ≤ τ_82.1 31 ∧ τ_82.1 31 ≤ 2147483647 := hT.1 31
      have v32 : 0 ≤ τ_82.1 32 ∧ τ_82.1 32 ≤ 20000 := hT.1 32
      have a36_15 : 0 ≤ τ_82.2.1 36 (τ_82.1 15) ∧ τ_82.2.1 36 (τ_82.1 15) ≤ 20000 := hT.2 36 _
      have TX : J_vs (τ_82.1 6) (τ_82.1 5) (τ_82.2.1 15) := by rw [show (J_vs (τ_82.1 6) (τ_82.1 5) (τ_82.2.1 15)) = (J_vs (σ.1 6) (σ.1 5) (σ.2.1 15)) from by rw [W5, W6, G15]]; exact TX_0
      have BP : J_bp (τ_82.2.1 44) (τ_82.2.1 45) := i82_9
      have RB : J_rb (τ_82.1 7) (τ_82.1 15) (τ_82.1 32) (τ_82.2.1 13) (τ_82.2.1 28) (τ_82.2.1 35) (τ_82.2.1 36) (τ_82.2.1 37) := i82_6
      have CH : j_eq (σ.2.1 36 (σ.1 15)) (σ.2.1 37) (τ_82.2.1 37) := i82_7
      have G15i : τ_82.1 15 = σ.1 15 := W15
      have fsb := f0 (n1 % 65536)
      refine h82 n1 (n1 % 65536) ((σ.1 15) + (σ.1 32)) u4_82 u5_82 u6_82 τ_82 ?_
      refine ⟨fun c11 => ?_, fun c11 => ?_⟩
      ·
        have cfn : J_cf u4_82 u5_82 (τ_82.2.1 37) (τ_82.2.1 40) (τ_82.2.1 41) (τ_82.2.1 39) := fun k k0 k1 => by rw [i82_8 k k0 (by omega), i82_12, i82_13, i82_14]; have w := J_dt_b DT_0 (s52 (σ.1 30 - u5_82 + k)).1 (prr _ (by omega) (by omega)); exact ⟨w.1, w.2, J_dt_d DT_0 (s52 (σ.1 30 - u5_82 + k)).1 (prr _ (by omega) (by omega)) (fun j => (s40 j).1)⟩
        refine ⟨_, K_X6_bind hT (show 0 ≤ (n1 % 65536) from by (first | omega | (simp only [st_s] <;> omega) | assumption | omega | fail)) (show (n1 % 65536) < (τ_82.1 7) from by (first | omega | (simp only [st_s] <;> omega) | assumption | omega | fail)) (show 2 ≤ τ_82.2.1 13 (n1 % 65536) from by (rw [G13]; exact i82_4)) (show J_all (τ_82.1 7) (τ_82.1 6) (τ_82.1 13) (τ_82.1 14) (τ_82.1 15) (τ_82.2.1 13) (τ_82.2.1 14) (τ_82.2.1 15) (τ_82.2.1 16) (τ_82.2.1 10) (τ_82.2.1 27) (τ_82.2.1 28) (τ_82.2.1 29) (τ_82.2.1 30) (τ_82.2.1 31) (τ_82.2.1 32) (τ_82.2.1 33) (τ_82.2.1 34) (τ_82.2.1 35) (τ_82.2.1 36) (τ_82.2.1 37) from by (exact c_J_ag CJ_0 hT0 ag (by omega) (by first | (rw [G10]; exact j_rr0 _ _) | exact j_rr0 _ _) TX_0 CH (by omega))) (show 0 ≤ u4_82 from by (first | omega | (simp only [st_s] <;> omega) | assumption | omega | fail)) (show u4_82 + τ_82.2.1 28 (n1 % 65536) ≤ 20000 from by (rw [G28]; omega)) (show J_cf u4_82 (τ_82.2.1 28 (n1 % 65536)) (τ_82.2.1 37) (τ_82.2.1 40) (τ_82.2.1 41) (τ_82.2.1 39) from by (rw [G28, ← i82_2]; exact cfn)) (show J_bp (τ_82.2.1 44) (τ_82.2.1 45) from BP), ?_⟩
        intro x13 τ14 r_x13 hn_τ14 hf_τ14 hq
        obtain ⟨hT, q12_1, q12_2, q12_3⟩ := hq
        replace q12_1 : 0 ≤ x13 ∧ x13 ≤ 1 := q12_1
        replace q12_2 : J_bp (τ14.2.1 44) (τ14.2.1 45) := q12_2
        replace q12_3 : ¬ x13 = 0 → J_bn (n1 % 65536) (τ14.2.1 28 (n1 % 65536)) (τ14.2.1 13) (τ14.2.1 14) (τ14.2.1 15) (τ14.2.1 27) (τ14.2.1 29) (τ14.2.1 39) (τ14.2.1 44) (τ14.2.1 45) := q12_3
        replace ag : c_ag σ τ14 := ag_r ag hf_τ14 rfl rfl
        have w3_τ14 : τ14.1 3 = τ_82.1 3 := hf_τ14.1 3 (by decide)
        have w5_τ14 : τ14.1 5 = τ_82.1 5 := hf_τ14.1 5 (by decide)
        have w6_τ14 : τ14.1 6 = τ_82.1 6 := hf_τ14.1 6 (by decide)
        have w7_τ14 : τ14.1 7 = τ_82.1 7 := hf_τ14.1 7 (by decide)
        have w13_τ14 : τ14.1 13 = τ_82.1 13 := hf_τ14.1 13 (by decide)
        have w14_τ14 : τ14.1 14 = τ_82.1 14 := hf_τ14.1 14 (by decide)
        have w15_τ14 : τ14.1 15 = τ_82.1 15 := hf_τ14.1 15 (by decide)
        have w16_τ14 : τ14.1 16 = τ_82.1 16 := hf_τ14.1 16 (by decide)
        have w17_τ14 : τ14.1 17 = τ_82.1 17 := hf_τ14.1 17 (by decide)
        have w18_τ14 : τ14.1 18 = τ_82.1 18 := hf_τ14.1 18 (by decide)
        have w19_τ14 : τ14.1 19 = τ_82.1 19 := hf_τ14.1 19 (by decide)
        have w23_τ14 : τ14.1 23 = τ_82.1 23 := hf_τ14.1 23 (by decide)
        have w30_τ14 : τ14.1 30 = τ_82.1 30 := hf_τ14.1 30 (by decide)
        have w31_τ14 : τ14.1 31 = τ_82.1 31 := hf_τ14.1 31 (by decide)
        have w32_τ14 : τ14.1 32 = τ_82.1 32 := hf_τ14.1 32 (by decide)
        have g10_τ14 : τ14.2.1 10 = τ_82.2.1 10 := hf_τ14.2.1 10 (by decide)
        have g13_τ14 : τ14.2.1 13 = τ_82.2.1 13 := hf_τ14.2.1 13 (by decide)
        have g14_τ14 : τ14.2.1 14 = τ_82.2.1 14 := hf_τ14.2.1 14 (by decide)
        have g15_τ14 : τ14.2.1 15 = τ_82.2.1 15 := hf_τ14.2.1 15 (by decide)
        have g16_τ14 : τ14.2.1 16 = τ_82.2.1 16 := hf_τ14.2.1 16 (by decide)
        have g27_τ14 : τ14.2.1 27 = τ_82.2.1 27 := hf_τ14.2.1 27 (by decide)
        have g28_τ14 : τ14.2.1 28 = τ_82.2.1 28 := hf_τ14.2.1 28 (by decide)
        have g29_τ14 : τ14.2.1 29 = τ_82.2.1 29 := hf_τ14.2.1 29 (by decide)
        have g30_τ14 : τ14.2.1 30 = τ_82.2.1 30 := hf_τ14.2.1 30 (by decide)
        have g31_τ14 : τ14.2.1 31 = τ_82.2.1 31 := hf_τ14.2.1 31 (by decide)
        have g32_τ14 : τ14.2.1 32 = τ_82.2.1 32 := hf_τ14.2.1 32 (by decide)
        have g33_τ14 : τ14.2.1 33 = τ_82.2.1 33 := hf_τ14.2.1 33 (by decide)
        have g34_τ14 : τ14.2.1 34 = τ_82.2.1 34 := hf_τ14.2.1 34 (by decide)
        have g35_τ14 : τ14.2.1 35 = τ_82.2.1 35 := hf_τ14.2.1 35 (by decide)
        have g36_τ14 : τ14.2.1 36 = τ_82.2.1 36 := hf_τ14.2.1 36 (by decide)
        have g37_τ14 : τ14.2.1 37 = τ_82.2.1 37 := hf_τ14.2.1 37 (by decide)
        have g39_τ14 : τ14.2.1 39 = τ_82.2.1 39 := hf_τ14.2.1 39 (by decide)
        have g40_τ14 : τ14.2.1 40 = τ_82.2.1 40 := hf_τ14.2.1 40 (by decide)
        have g41_τ14 : τ14.2.1 41 = τ_82.2.1 41 := hf_τ14.2.1 41 (by decide)
        have g42_τ14 : τ14.2.1 42 = τ_82.2.1 42 := hf_τ14.2.1 42 (by decide)
        have g43_τ14 : τ14.2.1 43 = τ_82.2.1 43 := hf_τ14.2.1 43 (by decide)
        have g52_τ14 : τ14.2.1 52 = τ_82.2.1 52 := hf_τ14.2.1 52 (by decide)
        have g53_τ14 : τ14.2.1 53 = τ_82.2.1 53 := hf_τ14.2.1 53 (by decide)
        have W3 : τ14.1 3 = σ.1 3 := by first | exact w3_τ14.trans W3 | omega
        have W5 : τ14.1 5 = σ.1 5 := by first | exact w5_τ14.trans W5 | omega
        have W6 : τ14.1 6 = σ.1 6 := by first | exact w6_τ14.trans W6 | omega
        have W7 : τ14.1 7 = σ.1 7 := by first | exact w7_τ14.trans W7 | omega
        have W13 : τ14.1 13 = σ.1 13 := by first | exact w13_τ14.trans W13 | omega
        have W14 : τ14.1 14 = σ.1 14 := by first | exact w14_τ14.trans W14 | omega
        have W15 : τ14.1 15 = σ.1 15 := by first | exact w15_τ14.trans W15 | omega
        have W16 : τ14.1 16 = σ.1 16 := by first | exact w16_τ14.trans W16 | omega
        have G10 : τ14.2.1 10 = σ.2.1 10 := (g10_τ14).trans G10
        have G13 : τ14.2.1 13 = σ.2.1 13 := (g13_τ14).trans G13
        have G14 : τ14.2.1 14 = σ.2.1 14 := (g14_τ14).trans G14
        have G15 : τ14.2.1 15 = σ.2.1 15 := (g15_τ14).trans G15
        have G16 : τ14.2.1 16 = σ.2.1 16 := (g16_τ14).trans G16
        have G27 : τ14.2.1 27 = σ.2.1 27 := (g27_τ14).trans G27
        have G28 : τ14.2.1 28 = σ.2.1 28 := (g28_τ14).trans G28
        have G29 : τ14.2.1 29 = σ.2.1 29 := (g29_τ14).trans G29
        have G30 : τ14.2.1 30 = σ.2.1 30 := (g30_τ14).trans G30
        have G31 : τ14.2.1 31 = σ.2.1 31 := (g31_τ14).trans G31
        have G32 : τ14.2.1 32 = σ.2.1 32 := (g32_τ14).trans G32
        have G33 : τ14.2.1 33 = σ.2.1 33 := (g33_τ14).trans G33
        have G34 : τ14.2.1 34 = σ.2.1 34 := (g34_τ14).trans G34
        have y36_15_τ14 : τ14.2.1 36 (τ14.1 15) = (τ_82.2.1 36) (τ_82.1 15) := by rw [g36_τ14, w15_τ14]
        have TX : J_vs (τ14.1 6) (τ14.1 5) (τ14.2.1 15) := by rw [show (J_vs (τ14.1 6) (τ14.1 5) (τ14.2.1 15)) = (J_vs (τ_82.1 6) (τ_82.1 5) (τ_82.2.1 15)) from by rw [w5_τ14, w6_τ14, g15_τ14]]; exact TX
        have BP : J_bp (τ14.2.1 44) (τ14.2.1 45) := q12_2
        have RB : J_rb (τ14.1 7) (τ14.1 15) (τ14.1 32) (τ14.2.1 13) (τ14.2.1 28) (τ14.2.1 35) (τ14.2.1 36) (τ14.2.1 37) := by rw [show (J_rb (τ14.1 7) (τ14.1 15) (τ14.1 32) (τ14.2.1 13) (τ14.2.1 28) (τ14.2.1 35) (τ14.2.1 36) (τ14.2.1 37)) = (J_rb (τ_82.1 7) (τ_82.1 15) (τ_82.1 32) (τ_82.2.1 13) (τ_82.2.1 28) (τ_82.2.1 35) (τ_82.2.1 36) (τ_82.2.1 37)) from by rw [w7_τ14, w15_τ14, w32_τ14, g13_τ14, g28_τ14, g35_τ14, g36_τ14, g37_τ14]]; exact RB
        have CH : j_eq (σ.2.1 36 (σ.1 15)) (σ.2.1 37) (τ14.2.1 37) := by rw [show (j_eq (σ.2.1 36 (σ.1 15)) (σ.2.1 37) (τ14.2.1 37)) = (j_eq (σ.2.1 36 (σ.1 15)) (σ.2.1 37) (τ_82.2.1 37)) from by rw [g37_τ14]]; exact CH
        have A10 : ∀ j, (-1) ≤ τ14.2.1 10 j ∧ τ14.2.1 10 j ≤ 99 := fun j => hT.2 10 j
        have A13 : ∀ j, 0 ≤ τ14.2.1 13 j ∧ τ14.2.1 13 j ≤ 4 := fun j => hT.2 13 j
        have A14 : ∀ j, 0 ≤ τ14.2.1 14 j ∧ τ14.2.1 14 j ≤ 30000 := fun j => hT.2 14 j
        have A15 : ∀ j, 0 ≤ τ14.2.1 15 j ∧ τ14.2.1 15 j ≤ 999 := fun j => hT.2 15 j
        have A16 : ∀ j, (-1) ≤ τ14.2.1 16 j ∧ τ14.2.1 16 j ≤ 1499 := fun j => hT.2 16 j
        have A27 : ∀ j, 0 ≤ τ14.2.1 27 j ∧ τ14.2.1 27 j ≤ 90000 := fun j => hT.2 27 j
        have A28 : ∀ j, 0 ≤ τ14.2.1 28 j ∧ τ14.2.1 28 j ≤ 60 := fun j => hT.2 28 j
        have A29 : ∀ j, 0 ≤ τ14.2.1 29 j ∧ τ14.2.1 29 j ≤ 1499 := fun j => hT.2 29 j
        have A30 : ∀ j, 0 ≤ τ14.2.1 30 j ∧ τ14.2.1 30 j ≤ 20000 := fun j => hT.2 30 j
        have A31 : ∀ j, 0 ≤ τ14.2.1 31 j ∧ τ14.2.1 31 j ≤ 20000 := fun j => hT.2 31 j
        have A32 : ∀ j, 0 ≤ τ14.2.1 32 j ∧ τ14.2.1 32 j ≤ 999999 := fun j => hT.2 32 j
        have A33 : ∀ j, 0 ≤ τ14.2.1 33 j ∧ τ14.2.1 33 j ≤ 20000 := fun j => hT.2 33 j
        have A34 : ∀ j, 0 ≤ τ14.2.1 34 j ∧ τ14.2.1 34 j ≤ 20000 := fun j => hT.2 34 j
        have A35 : ∀ j, 0 ≤ τ14.2.1 35 j ∧ τ14.2.1 35 j ≤ 1499 := fun j => hT.2 35 j
        have A36 : ∀ j, 0 ≤ τ14.2.1 36 j ∧ τ14.2.1 36 j ≤ 20000 := fun j => hT.2 36 j
        have A37 : ∀ j, 0 ≤ τ14.2.1 37 j ∧ τ14.2.1 37 j ≤ 19999 := fun j => hT.2 37 j
        have A39 : ∀ j, 0 ≤ τ14.2.1 39 j ∧ τ14.2.1 39 j ≤ 1060 := fun j => hT.2 39 j
        have A40 : ∀ j, 0 ≤ τ14.2.1 40 j ∧ τ14.2.1 40 j ≤ 42000 := fun j => hT.2 40 j
        have A41 : ∀ j, (-2) ≤ τ14.2.1 41 j ∧ τ14.2.1 41 j ≤ 1000 := fun j => hT.2 41 j
        have A42 : ∀ j, (-2147483648) ≤ τ14.2.1 42 j ∧ τ14.2.1 42 j ≤ 2147483647 := fun j => hT.2 42 j
        have A43 : ∀ j, 0 ≤ τ14.2.1 43 j ∧ τ14.2.1 43 j ≤ 1060 := fun j => hT.2 43 j
        have A44 : ∀ j, 0 ≤ τ14.2.1 44 j ∧ τ14.2.1 44 j ≤ 42000 := fun j => hT.2 44 j
        have A45 : ∀ j, 0 ≤ τ14.2.1 45 j ∧ τ14.2.1 45 j ≤ 1000 := fun j => hT.2 45 j
        have A52 : ∀ j, 0 ≤ τ14.2.1 52 j ∧ τ14.2.1 52 j ≤ 19999 := fun j => hT.2 52 j
        have A53 : ∀ j, 0 ≤ τ14.2.1 53 j ∧ τ14.2.1 53 j ≤ 19999 := fun j => hT.2 53 j
        have v3 : 0 ≤ τ14.1 3 ∧ τ14.1 3 ≤ 2500 := hT.1 3
        have v5 : 0 ≤ τ14.1 5 ∧ τ14.1 5 ≤ 1000 := hT.1 5
        have v6 : 0 ≤ τ14.1 6 ∧ τ14.1 6 ≤ 30000 := hT.1 6
        have v7 : 0 ≤ τ14.1 7 ∧ τ14.1 7 ≤ 1500 := hT.1 7
        have v13 : 0 ≤ τ14.1 13 ∧ τ14.1 13 ≤ 90000 := hT.1 13
        have v14 : 0 ≤ τ14.1 14 ∧ τ14.1 14 ≤ 20000 := hT.1 14
        have v15 : 0 ≤ τ14.1 15 ∧ τ14.1 15 ≤ 20000 := hT.1 15
        have v16 : 0 ≤ τ14.1 16 ∧ τ14.1 16 ≤ 20000 := hT.1 16
        have v17 : 0 ≤ τ14.1 17 ∧ τ14.1 17 ≤ 42000 := hT.1 17
        have v18 : 0 ≤ τ14.1 18 ∧ τ14.1 18 ≤ 42000 := hT.1 18
        have v19 : 0 ≤ τ14.1 19 ∧ τ14.1 19 ≤ 1000 := hT.1 19
        have v23 : 0 ≤ τ14.1 23 ∧ τ14.1 23 ≤ 300 := hT.1 23
        have v30 : 0 ≤ τ14.1 30 ∧ τ14.1 30 ≤ 200 := hT.1 30
        have v31 : (-2147483648) ≤ τ14.1 31 ∧ τ14.1 31 ≤ 2147483647 := hT.1 31
        have v32 : 0 ≤ τ14.1 32 ∧ τ14.1 32 ≤ 20000 := hT.1 32
        have a36_15 : 0 ≤ τ14.2.1 36 (τ14.1 15) ∧ τ14.2.1 36 (τ14.1 15) ≤ 20000 := hT.2 36 _
        refine ⟨fun c15 => ?_, fun c15 => ?_⟩
        ·
          refine ⟨_, K_X6_keepsApart hT (show 0 ≤ (n1 % 65536) from by (first | omega | (simp only [st_s] <;> omega) | assumption | omega | fail)) (show (n1 % 65536) < (τ14.1 7) from by (first | omega | (simp only [st_s] <;> omega) | assumption | omega | fail)) (show 2 ≤ τ14.2.1 13 (n1 % 65536) from by (rw [G13]; exact i82_4)) (show J_all (τ14.1 7) (τ14.1 6) (τ14.1 13) (τ14.1 14) (τ14.1 15) (τ14.2.1 13) (τ14.2.1 14) (τ14.2.1 15) (τ14.2.1 16) (τ14.2.1 10) (τ14.2.1 27) (τ14.2.1 28) (τ14.2.1 29) (τ14.2.1 30) (τ14.2.1 31) (τ14.2.1 32) (τ14.2.1 33) (τ14.2.1 34) (τ14.2.1 35) (τ14.2.1 36) (τ14.2.1 37) from by (exact c_J_ag CJ_0 hT0 ag (by omega) (by first | (rw [G10]; exact j_rr0 _ _) | exact j_rr0 _ _) TX_0 CH (by omega))) (show J_bp (τ14.2.1 44) (τ14.2.1 45) from BP) (show J_bn (n1 % 65536) (τ14.2.1 28 (n1 % 65536)) (τ14.2.1 13) (τ14.2.1 14) (τ14.2.1 15) (τ14.2.1 27) (τ14.2.1 29) (τ14.2.1 39) (τ14.2.1 44) (τ14.2.1 45) from by exact q12_3 c15), ?_⟩
          intro x17 τ18 r_x17 hn_τ18 hf_τ18 hq
          obtain ⟨hT, q16_1⟩ := hq
          replace q16_1 : 0 ≤ x17 ∧ x17 ≤ 1 := q16_1
          replace ag : c_ag σ τ18 := ag_r ag hf_τ18 rfl rfl
          have w3_τ18 : τ18.1 3 = τ14.1 3 := hf_τ18.1 3 (by decide)
          have w5_τ18 : τ18.1 5 = τ14.1 5 := hf_τ18.1 5 (by decide)
          have w6_τ18 : τ18.1 6 = τ14.1 6 := hf_τ18.1 6 (by decide)
          have w7_τ18 : τ18.1 7 = τ14.1 7 := hf_τ18.1 7 (by decide)
          have w13_τ18 : τ18.1 13 = τ14.1 13 := hf_τ18.1 13 (by decide)
          have w14_τ18 : τ18.1 14 = τ14.1 14 := hf_τ18.1 14 (by decide)
          have w15_τ18 : τ18.1 15 = τ14.1 15 := hf_τ18.1 15 (by decide)
          have w16_τ18 : τ18.1 16 = τ14.1 16 := hf_τ18.1 16 (by decide)
          have w17_τ18 : τ18.1 17 = τ14.1 17 := hf_τ18.1 17 (by decide)
          have w18_τ18 : τ18.1 18 = τ14.1 18 := hf_τ18.1 18 (by decide)
          have w19_τ18 : τ18.1 19 = τ14.1 19 := hf_τ18.1 19 (by decide)
          have w23_τ18 : τ18.1 23 = τ14.1 23 := hf_τ18.1 23 (by decide)
          have w30_τ18 : τ18.1 30 = τ14.1 30 := hf_τ18.1 30 (by decide)
          have w31_τ18 : τ18.1 31 = τ14.1 31 := hf_τ18.1 31 (by decide)
          have w32_τ18 : τ18.1 32 = τ14.1 32 := hf_τ18.1 32 (by decide)
          have g10_τ18 : τ18.2.1 10 = τ14.2.1 10 := hf_τ18.2.1 10 (by decide)
          have g13_τ18 : τ18.2.1 13 = τ14.2.1 13 := hf_τ18.2.1 13 (by decide)
          have g14_τ18 : τ18.2.1 14 = τ14.2.1 14 := hf_τ18.2.1 14 (by decide)
          have g15_τ18 : τ18.2.1 15 = τ14.2.1 15 := hf_τ18.2.1 15 (by decide)
          have g16_τ18 : τ18.2.1 16 = τ14.2.1 16 := hf_τ18.2.1 16 (by decide)
          have g27_τ18 : τ18.2.1 27 = τ14.2.1 27 := hf_τ18.2.1 27 (by decide)
          have g28_τ18 : τ18.2.1 28 = τ14.2.1 28 := hf_τ18.2.1 28 (by decide)
          have g29_τ18 : τ18.2.1 29 = τ14.2.1 29 := hf_τ18.2.1 29 (by decide)
          have g30_τ18 : τ18.2.1 30 = τ14.2.1 30 := hf_τ18.2.1 30 (by decide)
          have g31_τ18 : τ18.2.1 31 = τ14.2.1 31 := hf_τ18.2.1 31 (by decide)
          have g32_τ18 : τ18.2.1 32 = τ14.2.1 32 := hf_τ18.2.1 32 (by decide)
          have g33_τ18 : τ18.2.1 33 = τ14.2.1 33 := hf_τ18.2.1 33 (by decide)
          have g34_τ18 : τ18.2.1 34 = τ14.2.1 34 := hf_τ18.2.1 34 (by decide)
          have g35_τ18 : τ18.2.1 35 = τ14.2.1 35 := hf_τ18.2.1 35 (by decide)
          have g36_τ18 : τ18.2.1 36 = τ14.2.1 36 := hf_τ18.2.1 36 (by decide)
          have g37_τ18 : τ18.2.1 37 = τ14.2.1 37 := hf_τ18.2.1 37 (by decide)
          have g39_τ18 : τ18.2.1 39 = τ14.2.1 39 := hf_τ18.2.1 39 (by decide)
          have g40_τ18 : τ18.2.1 40 = τ14.2.1 40 := hf_τ18.2.1 40 (by decide)
          have g41_τ18 : τ18.2.1 41 = τ14.2.1 41 := hf_τ18.2.1 41 (by decide)
          have g42_τ18 : τ18.2.1 42 = τ14.2.1 42 := hf_τ18.2.1 42 (by decide)
          have g43_τ18 : τ18.2.1 43 = τ14.2.1 43 := hf_τ18.2.1 43 (by decide)
          have g44_τ18 : τ18.2.1 44 = τ14.2.1 44 := hf_τ18.2.1 44 (by decide)
          have g45_τ18 : τ18.2.1 45 = τ14.2.1 45 := hf_τ18.2.1 45 (by decide)
          have g52_τ18 : τ18.2.1 52 = τ14.2.1 52 := hf_τ18.2.1 52 (by decide)
          have g53_τ18 : τ18.2.1 53 = τ14.2.1 53 := hf_τ18.2.1 53 (by decide)
          have W3 : τ18.1 3 = σ.1 3 := by first | exact w3_τ18.trans W3 | omega
          have W5 : τ18.1 5 = σ.1 5 := by first | exact w5_τ18.trans W5 | omega
          have W6 : τ18.1 6 = σ.1 6 := by first | exact w6_τ18.trans W6 | omega
          have W7 : τ18.1 7 = σ.1 7 := by first | exact w7_τ18.trans W7 | omega
          have W13 : τ18.1 13 = σ.1 13 := by first | exact w13_τ18.trans W13 | omega
          have W14 : τ18.1 14 = σ.1 14 := by first | exact w14_τ18.trans W14 | omega
          have W15 : τ18.1 15 = σ.1 15 := by first | exact w15_τ18.trans W15 | omega
          have W16 : τ18.1 16 = σ.1 16 := by first | exact w16_τ18.trans W16 | omega
          have G10 : τ18.2.1 10 = σ.2.1 10 := (g10_τ18).trans G10
          have G13 : τ18.2.1 13 = σ.2.1 13 := (g13_τ18).trans G13
          have G14 : τ18.2.1 14 = σ.2.1 14 := (g14_τ18).trans G14
          have G15 : τ18.2.1 15 = σ.2.1 15 := (g15_τ18).trans G15
          have G16 : τ18.2.1 16 = σ.2.1 16 := (g16_τ18).trans G16
          have G27 : τ18.2.1 27 = σ.2.1 27 := (g27_τ18).trans G27
          have G28 : τ18.2.1 28 = σ.2.1 28 := (g28_τ18).trans G28
          have G29 : τ18.2.1 29 = σ.2.1 29 := (g29_τ18).trans G29
          have G30 : τ18.2.1 30 = σ.2.1 30 := (g30_τ18).trans G30
          have G31 : τ18.2.1 31 = σ.2.1 31 := (g31_τ18).trans G31
          have G32 : τ18.2.1 32 = σ.2.1 32 := (g32_τ18).trans G32
          have G33 : τ18.2.1 33 = σ.2.1 33 := (g33_τ18).trans G33
          have G34 : τ18.2.1 34 = σ.2.1 34 := (g34_τ18).trans G34
          have y36_15_τ18 : τ18.2.1 36 (τ18.1 15) = (τ14.2.1 36) (τ14.1 15) := by rw [g36_τ18, w15_τ18]
          have TX : J_vs (τ18.1 6) (τ18.1 5) (τ18.2.1 15) := by rw [show (J_vs (τ18.1 6) (τ18.1 5) (τ18.2.1 15)) = (J_vs (τ14.1 6) (τ14.1 5) (τ14.2.1 15)) from by rw [w5_τ18, w6_τ18, g15_τ18]]; exact TX
          have BP : J_bp (τ18.2.1 44) (τ18.2.1 45) := by rw [show (J_bp (τ18.2.1 44) (τ18.2.1 45)) = (J_bp (τ14.2.1 44) (τ14.2.1 45)) from by rw [g44_τ18, g45_τ18]]; exact BP
          have RB : J_rb (τ18.1 7) (τ18.1 15) (τ18.1 32) (τ18.2.1 13) (τ18.2.1 28) (τ18.2.1 35) (τ18.2.1 36) (τ18.2.1 37) := by rw [show (J_rb (τ18.1 7) (τ18.1 15) (τ18.1 32) (τ18.2.1 13) (τ18.2.1 28) (τ18.2.1 35) (τ18.2.1 36) (τ18.2.1 37)) = (J_rb (τ14.1 7) (τ14.1 15) (τ14.1 32) (τ14.2.1 13) (τ14.2.1 28) (τ14.2.1 35) (τ14.2.1 36) (τ14.2.1 37)) from by rw [w7_τ18, w15_τ18, w32_τ18, g13_τ18, g28_τ18, g35_τ18, g36_τ18, g37_τ18]]; exact RB
          have CH : j_eq (σ.2.1 36 (σ.1 15)) (σ.2.1 37) (τ18.2.1 37) := by rw [show (j_eq (σ.2.1 36 (σ.1 15)) (σ.2.1 37) (τ18.2.1 37)) = (j_eq (σ.2.1 36 (σ.1 15)) (σ.2.1 37) (τ14.2.1 37)) from by rw [g37_τ18]]; exact CH
          have A10 : ∀ j, (-1) ≤ τ18.2.1 10 j ∧ τ18.2.1 10 j ≤ 99 := fun j => hT.2 10 j
          have A13 : ∀ j, 0 ≤ τ18.2.1 13 j ∧ τ18.2.1 13 j ≤ 4 := fun j => hT.2 13 j
          have A14 : ∀ j, 0 ≤ τ18.2.1 14 j ∧ τ18.2.1 14 j ≤ 30000 := fun j => hT.2 14 j
          have A15 : ∀ j, 0 ≤ τ18.2.1 15 j ∧ τ18.2.1 15 j ≤ 999 := fun j => hT.2 15 j
          have A16 : ∀ j, (-1) ≤ τ18.2.1 16 j ∧ τ18.2.1 16 j ≤ 1499 := fun j => hT.2 16 j
          have A27 : ∀ j, 0 ≤ τ18.2.1 27 j ∧ τ18.2.1 27 j ≤ 90000 := fun j => hT.2 27 j
          have A28 : ∀ j, 0 ≤ τ18.2.1 28 j ∧ τ18.2.1 28 j ≤ 60 := fun j => hT.2 28 j
          have A29 : ∀ j, 0 ≤ τ18.2.1 29 j ∧ τ18.2.1 29 j ≤ 1499 := fun j => hT.2 29 j
          have A30 : ∀ j, 0 ≤ τ18.2.1 30 j ∧ τ18.2.1 30 j ≤ 20000 := fun j => hT.2 30 j
          have A31 : ∀ j, 0 ≤ τ18.2.1 31 j ∧ τ18.2.1 31 j ≤ 20000 := fun j => hT.2 31 j
          have A32 : ∀ j, 0 ≤ τ18.2.1 32 j ∧ τ18.2.1 32 j ≤ 999999 := fun j => hT.2 32 j
          have A33 : ∀ j, 0 ≤ τ18.2.1 33 j ∧ τ18.2.1 33 j ≤ 20000 := fun j => hT.2 33 j
          have A34 : ∀ j, 0 ≤ τ18.2.1 34 j ∧ τ18.2.1 34 j ≤ 20000 := fun j => hT.2 34 j
          have A35 : ∀ j, 0 ≤ τ18.2.1 35 j ∧ τ18.2.1 35 j ≤ 1499 := fun j => hT.2 35 j
          have A36 : ∀ j, 0 ≤ τ18.2.1 36 j ∧ τ18.2.1 36 j ≤ 20000 := fun j => hT.2 36 j
          have A37 : ∀ j, 0 ≤ τ18.2.1 37 j ∧ τ18.2.1 37 j ≤ 19999 := fun j => hT.2 37 j
          have A39 : ∀ j, 0 ≤ τ18.2.1 39 j ∧ τ18.2.1 39 j ≤ 1060 := fun j => hT.2 39 j
          have A40 : ∀ j, 0 ≤ τ18.2.1 40 j ∧ τ18.2.1 40 j ≤ 42000 := fun j => hT.2 40 j
          have A41 : ∀ j, (-2) ≤ τ18.2.1 41 j ∧ τ18.2.1 41 j ≤ 1000 := fun j => hT.2 41 j
          have A42 : ∀ j, (-2147483648) ≤ τ18.2.1 42 j ∧ τ18.2.1 42 j ≤ 2147483647 := fun j => hT.2 42 j
          have A43 : ∀ j, 0 ≤ τ18.2.1 43 j ∧ τ18.2.1 43 j ≤ 1060 := fun j => hT.2 43 j
          have A44 : ∀ j, 0 ≤ τ18.2.1 44 j ∧ τ18.2.1 44 j ≤ 42000 := fun j => hT.2 44 j
          have A45 : ∀ j, 0 ≤ τ18.2.1 45 j ∧ τ18.2.1 45 j ≤ 1000 := fun j => hT.2 45 j
          have A52 : ∀ j, 0 ≤ τ18.2.1 52 j ∧ τ18.2.1 52 j ≤ 19999 := fun j => hT.2 52 j
          have A53 : ∀ j, 0 ≤ τ18.2.1 53 j ∧ τ18.2.1 53 j ≤ 19999 := fun j => hT.2 53 j
          have v3 : 0 ≤ τ18.1 3 ∧ τ18.1 3 ≤ 2500 := hT.1 3
          have v5 : 0 ≤ τ18.1 5 ∧ τ18.1 5 ≤ 1000 := hT.1 5
          have v6 : 0 ≤ τ18.1 6 ∧ τ18.1 6 ≤ 30000 := hT.1 6
          have v7 : 0 ≤ τ18.1 7 ∧ τ18.1 7 ≤ 1500 := hT.1 7
          have v13 : 0 ≤ τ18.1 13 ∧ τ18.1 13 ≤ 90000 := hT.1 13
          have v14 : 0 ≤ τ18.1 14 ∧ τ18.1 14 ≤ 20000 := hT.1 14
          have v15 : 0 ≤ τ18.1 15 ∧ τ18.1 15 ≤ 20000 := hT.1 15
          have v16 : 0 ≤ τ18.1 16 ∧ τ18.1 16 ≤ 20000 := hT.1 16
          have v17 : 0 ≤ τ18.1 17 ∧ τ18.1 17 ≤ 42000 := hT.1 17
          have v18 : 0 ≤ τ18.1 18 ∧ τ18.1 18 ≤ 42000 := hT.1 18
          have v19 : 0 ≤ τ18.1 19 ∧ τ18.1 19 ≤ 1000 := hT.1 19
          have v23 : 0 ≤ τ18.1 23 ∧ τ18.1 23 ≤ 300 := hT.1 23
          have v30 : 0 ≤ τ18.1 30 ∧ τ18.1 30 ≤ 200 := hT.1 30
          have v31 : (-2147483648) ≤ τ18.1 31 ∧ τ18.1 31 ≤ 2147483647 := hT.1 31
          have v32 : 0 ≤ τ18.1 32 ∧ τ18.1 32 ≤ 20000 := hT.1 32
          have a36_15 : 0 ≤ τ18.2.1 36 (τ18.1 15) ∧ τ18.2.1 36 (τ18.1 15) ≤ 20000 := hT.2 36 _
          refine ⟨fun c19 => ?_, fun c19 => ?_⟩
          ·
            refine ⟨_, K_X6_build hT (show 0 ≤ (n1 % 65536) from by (first | omega | (simp only [st_s] <;> omega) | assumption | omega | fail)) (show (n1 % 65536) < 1500 from by (first | omega | (simp only [st_s] <;> omega) | assumption | omega | fail)) (show τ18.2.1 14 (n1 % 65536) ≤ τ18.2.1 14 ((n1 % 65536) + 1) from by (rw [G14]; omega)) (show τ18.2.1 14 ((n1 % 65536) + 1) ≤ τ18.2.1 14 (n1 % 65536) + 300 from by (rw [G14]; omega)) (show J_bp (τ18.2.1 44) (τ18.2.1 45) from BP) (show J_tb (n1 % 65536) (τ18.2.1 14) (τ18.2.1 15) (τ18.2.1 16) (τ18.2.1 39) (τ18.2.1 44) (τ18.2.1 45) from by (intro p a b c; rw [G14] at a b; rw [G16] at c; rw [G15]; have v := vft i82_4 p a b c; have w := q12_3 c15; rw [← g13_τ18, ← g14_τ18, ← g15_τ18, ← g27_τ18, ← g28_τ18, ← g29_τ18, ← g39_τ18, ← g44_τ18, ← g45_τ18, G13, G14, G15, G27, G28, G29] at w; exact J_bn_v w v)), ?_⟩
            intro x21 τ22 r_x21 hn_τ22 hf_τ22 hq
            obtain ⟨hT, q20_1, q20_2⟩ := hq
            replace q20_1 : 0 ≤ x21 ∧ x21 ≤ 1 := q20_1
            replace q20_2 : ¬ x21 = 0 → J_bt (τ22.1 19) (τ22.2.1 43) := q20_2
            replace ag : c_ag σ τ22 := ag_r ag hf_τ22 rfl rfl
            have w3_τ22 : τ22.1 3 = τ18.1 3 := hf_τ22.1 3 (by decide)
            have w5_τ22 : τ22.1 5 = τ18.1 5 := hf_τ22.1 5 (by decide)
            have w6_τ22 : τ22.1 6 = τ18.1 6 := hf_τ22.1 6 (by decide)
            have w7_τ22 : τ22.1 7 = τ18.1 7 := hf_τ22.1 7 (by decide)
            have w13_τ22 : τ22.1 13 = τ18.1 13 := hf_τ22.1 13 (by decide)
            have w14_τ22 : τ22.1 14 = τ18.1 14 := hf_τ22.1 14 (by decide)
            have w15_τ22 : τ22.1 15 = τ18.1 15 := hf_τ22.1 15 (by decide)
            have w16_τ22 : τ22.1 16 = τ18.1 16 := hf_τ22.1 16 (by decide)
            have w17_τ22 : τ22.1 17 = τ18.1 17 := hf_τ22.1 17 (by decide)
            have w18_τ22 : τ22.1 18 = τ18.1 18 := hf_τ22.1 18 (by decide)
            have w23_τ22 : τ22.1 23 = τ18.1 23 := hf_τ22.1 23 (by decide)
            have w30_τ22 : τ22.1 30 = τ18.1 30 := hf_τ22.1 30 (by decide)
            have w31_τ22 : τ22.1 31 = τ18.1 31 := hf_τ22.1 31 (by decide)
            have w32_τ22 : τ22.1 32 = τ18.1 32 := hf_τ22.1 32 (by decide)
            have g10_τ22 : τ22.2.1 10 = τ18.2.1 10 := hf_τ22.2.1 10 (by decide)
            have g13_τ22 : τ22.2.1 13 = τ18.2.1 13 := hf_τ22.2.1 13 (by decide)
            have g14_τ22 : τ22.2.1 14 = τ18.2.1 14 := hf_τ22.2.1 14 (by decide)
            have g15_τ22 : τ22.2.1 15 = τ18.2.1 15 := hf_τ22.2.1 15 (by decide)
            have g16_τ22 : τ22.2.1 16 = τ18.2.1 16 := hf_τ22.2.1 16 (by decide)
            have g27_τ22 : τ22.2.1 27 = τ18.2.1 27 := hf_τ22.2.1 27 (by decide)
            have g28_τ22 : τ22.2.1 28 = τ18.2.1 28 := hf_τ22.2.1 28 (by decide)
            have g29_τ22 : τ22.2.1 29 = τ18.2.1 29 := hf_τ22.2.1 29 (by decide)
            have g30_τ22 : τ22.2.1 30 = τ18.2.1 30 := hf_τ22.2.1 30 (by decide)
            have g31_τ22 : τ22.2.1 31 = τ18.2.1 31 := hf_τ22.2.1 31 (by decide)
            have g32_τ22 : τ22.2.1 32 = τ18.2.1 32 := hf_τ22.2.1 32 (by decide)
            have g33_τ22 : τ22.2.1 33 = τ18.2.1 33 := hf_τ22.2.1 33 (by decide)
            have g34_τ22 : τ22.2.1 34 = τ18.2.1 34 := hf_τ22.2.1 34 (by decide)
            have g35_τ22 : τ22.2.1 35 = τ18.2.1 35 := hf_τ22.2.1 35 (by decide)
            have g36_τ22 : τ22.2.1 36 = τ18.2.1 36 := hf_τ22.2.1 36 (by decide)
            have g37_τ22 : τ22.2.1 37 = τ18.2.1 37 := hf_τ22.2.1 37 (by decide)
            have g39_τ22 : τ22.2.1 39 = τ18.2.1 39 := hf_τ22.2.1 39 (by decide)
            have g40_τ22 : τ22.2.1 40 = τ18.2.1 40 := hf_τ22.2.1 40 (by decide)
            have g41_τ22 : τ22.2.1 41 = τ18.2.1 41 := hf_τ22.2.1 41 (by decide)
            have g42_τ22 : τ22.2.1 42 = τ18.2.1 42 := hf_τ22.2.1 42 (by decide)
            have g44_τ22 : τ22.2.1 44 = τ18.2.1 44 := hf_τ22.2.1 44 (by decide)
            have g45_τ22 : τ22.2.1 45 = τ18.2.1 45 := hf_τ22.2.1 45 (by decide)
            have g52_τ22 : τ22.2.1 52 = τ18.2.1 52 := hf_τ22.2.1 52 (by decide)
            have g53_τ22 : τ22.2.1 53 = τ18.2.1 53 := hf_τ22.2.1 53 (by decide)
            have W3 : τ22.1 3 = σ.1 3 := by first | exact w3_τ22.trans W3 | omega
            have W5 : τ22.1 5 = σ.1 5 := by first | exact w5_τ22.trans W5 | omega
            have W6 : τ22.1 6 = σ.1 6 := by first | exact w6_τ22.trans W6 | omega
            have W7 : τ22.1 7 = σ.1 7 := by first | exact w7_τ22.trans W7 | omega
            have W13 : τ22.1 13 = σ.1 13 := by first | exact w13_τ22.trans W13 | omega
            have W14 : τ22.1 14 = σ.1 14 := by first | exact w14_τ22.trans W14 | omega
            have W15 : τ22.1 15 = σ.1 15 := by first | exact w15_τ22.trans W15 | omega
            have W16 : τ22.1 16 = σ.1 16 := by first | exact w16_τ22.trans W16 | omega
            have G10 : τ22.2.1 10 = σ.2.1 10 := (g10_τ22).trans G10
            have G13 : τ22.2.1 13 = σ.2.1 13 := (g13_τ22).trans G13
            have G14 : τ22.2.1 14 = σ.2.1 14 := (g14_τ22).trans G14
            have G15 : τ22.2.1 15 = σ.2.1 15 := (g15_τ22).trans G15
            have G16 : τ22.2.1 16 = σ.2.1 16 := (g16_τ22).trans G16
            have G27 : τ22.2.1 27 = σ.2.1 27 := (g27_τ22).trans G27
            have G28 : τ22.2.1 28 = σ.2.1 28 := (g28_τ22).trans G28
            have G29 : τ22.2.1 29 = σ.2.1 29 := (g29_τ22).trans G29
            have G30 : τ22.2.1 30 = σ.2.1 30 := (g30_τ22).trans G30
            have G31 : τ22.2.1 31 = σ.2.1 31 := (g31_τ22).trans G31
            have G32 : τ22.2.1 32 = σ.2.1 32 := (g32_τ22).trans G32
            have G33 : τ22.2.1 33 = σ.2.1 33 := (g33_τ22).trans G33
            have G34 : τ22.2.1 34 = σ.2.1 34 := (g34_τ22).trans G34
            have y36_15_τ22 : τ22.2.1 36 (τ22.1 15) = (τ18.2.1 36) (τ18.1 15) := by rw [g36_τ22, w15_τ22]
            have TX : J_vs (τ22.1 6) (τ22.1 5) (τ22.2.1 15) := by rw [show (J_vs (τ22.1 6) (τ22.1 5) (τ22.2.1 15)) = (J_vs (τ18.1 6) (τ18.1 5) (τ18.2.1 15)) from by rw [w5_τ22, w6_τ22, g15_τ22]]; exact TX
            have BP : J_bp (τ22.2.1 44) (τ22.2.1 45) := by rw [show (J_bp (τ22.2.1 44) (τ22.2.1 45)) = (J_bp (τ18.2.1 44) (τ18.2.1 45)) from by rw [g44_τ22, g45_τ22]]; exact BP
            have RB : J_rb (τ22.1 7) (τ22.1 15) (τ22.1 32) (τ22.2.1 13) (τ22.2.1 28) (τ22.2.1 35) (τ22.2.1 36) (τ22.2.1 37) := by rw [show (J_rb (τ22.1 7) (τ22.1 15) (τ22.1 32) (τ22.2.1 13) (τ22.2.1 28) (τ22.2.1 35) (τ22.2.1 36) (τ22.2.1 37)) = (J_rb (τ18.1 7) (τ18.1 15) (τ18.1 32) (τ18.2.1 13) (τ18.2.1 28) (τ18.2.1 35) (τ18.2.1 36) (τ18.2.1 37)) from by rw [w7_τ22, w15_τ22, w32_τ22, g13_τ22, g28_τ22, g35_τ22, g36_τ22, g37_τ22]]; exact RB
            have CH : j_eq (σ.2.1 36 (σ.1 15)) (σ.2.1 37) (τ22.2.1 37) := by rw [show (j_eq (σ.2.1 36 (σ.1 15)) (σ.2.1 37) (τ22.2.1 37)) = (j_eq (σ.2.1 36 (σ.1 15)) (σ.2.1 37) (τ18.2.1 37)) from by rw [g37_τ22]]; exact CH
            have A10 : ∀ j, (-1) ≤ τ22.2.1 10 j ∧ τ22.2.1 10 j ≤ 99 := fun j => hT.2 10 j
            have A13 : ∀ j, 0 ≤ τ22.2.1 13 j ∧ τ22.2.1 13 j ≤ 4 := fun j => hT.2 13 j
            have A14 : ∀ j, 0 ≤ τ22.2.1 14 j ∧ τ22.2.1 14 j ≤ 30000 := fun j => hT.2 14 j
            have A15 : ∀ j, 0 ≤ τ22.2.1 15 j ∧ τ22.2.1 15 j ≤ 999 := fun j => hT.2 15 j
            have A16 : ∀ j, (-1) ≤ τ22.2.1 16 j ∧ τ22.2.1 16 j ≤ 1499 := fun j => hT.2 16 j
            have A27 : ∀ j, 0 ≤ τ22.2.1 27 j ∧ τ22.2.1 27 j ≤ 90000 := fun j => hT.2 27 j
            have A28 : ∀ j, 0 ≤ τ22.2.1 28 j ∧ τ22.2.1 28 j ≤ 60 := fun j => hT.2 28 j
            have A29 : ∀ j, 0 ≤ τ22.2.1 29 j ∧ τ22.2.1 29 j ≤ 1499 := fun j => hT.2 29 j
            have A30 : ∀ j, 0 ≤ τ22.2.1 30 j ∧ τ22.2.1 30 j ≤ 20000 := fun j => hT.2 30 j
            have A31 : ∀ j, 0 ≤ τ22.2.1 31 j ∧ τ22.2.1 31 j ≤ 20000 := fun j => hT.2 31 j
            have A32 : ∀ j, 0 ≤ τ22.2.1 32 j ∧ τ22.2.1 32 j ≤ 999999 := fun j => hT.2 32 j
            have A33 : ∀ j, 0 ≤ τ22.2.1 33 j ∧ τ22.2.1 33 j ≤ 20000 := fun j => hT.2 33 j
            have A34 : ∀ j, 0 ≤ τ22.2.1 34 j ∧ τ22.2.1 34 j ≤ 20000 := fun j => hT.2 34 j
            have A35 : ∀ j, 0 ≤ τ22.2.1 35 j ∧ τ22.2.1 35 j ≤ 1499 := fun j => hT.2 35 j
            have A36 : ∀ j, 0 ≤ τ22.2.1 36 j ∧ τ22.2.1 36 j ≤ 20000 := fun j => hT.2 36 j
            have A37 : ∀ j, 0 ≤ τ22.2.1 37 j ∧ τ22.2.1 37 j ≤ 19999 := fun j => hT.2 37 j
            have A39 : ∀ j, 0 ≤ τ22.2.1 39 j ∧ τ22.2.1 39 j ≤ 1060 := fun j => hT.2 39 j
            have A40 : ∀ j, 0 ≤ τ22.2.1 40 j ∧ τ22.2.1 40 j ≤ 42000 := fun j => hT.2 40 j
            have A41 : ∀ j, (-2) ≤ τ22.2.1 41 j ∧ τ22.2.1 41 j ≤ 1000 := fun j => hT.2 41 j
            have A42 : ∀ j, (-2147483648) ≤ τ22.2.1 42 j ∧ τ22.2.1 42 j ≤ 2147483647 := fun j => hT.2 42 j
            have A43 : ∀ j, 0 ≤ τ22.2.1 43 j ∧ τ22.2.1 43 j ≤ 1060 := fun j => hT.2 43 j
            have A44 : ∀ j, 0 ≤ τ22.2.1 44 j ∧ τ22.2.1 44 j ≤ 42000 := fun j => hT.2 44 j
            have A45 : ∀ j, 0 ≤ τ22.2.1 45 j ∧ τ22.2.1 45 j ≤ 1000 := fun j => hT.2 45 j
            have A52 : ∀ j, 0 ≤ τ22.2.1 52 j ∧ τ22.2.1 52 j ≤ 19999 := fun j => hT.2 52 j
            have A53 : ∀ j, 0 ≤ τ22.2.1 53 j ∧ τ22.2.1 53 j ≤ 19999 := fun j => hT.2 53 j
            have v3 : 0 ≤ τ22.1 3 ∧ τ22.1 3 ≤ 2500 := hT.1 3
            have v5 : 0 ≤ τ22.1 5 ∧ τ22.1 5 ≤ 1000 := hT.1 5
            have v6 : 0 ≤ τ22.1 6 ∧ τ22.1 6 ≤ 30000 := hT.1 6
            have v7 : 0 ≤ τ22.1 7 ∧ τ22.1 7 ≤ 1500 := hT.1 7
            have v13 : 0 ≤ τ22.1 13 ∧ τ22.1 13 ≤ 90000 := hT.1 13
            have v14 : 0 ≤ τ22.1 14 ∧ τ22.1 14 ≤ 20000 := hT.1 14
            have v15 : 0 ≤ τ22.1 15 ∧ τ22.1 15 ≤ 20000 := hT.1 15
            have v16 : 0 ≤ τ22.1 16 ∧ τ22.1 16 ≤ 20000 := hT.1 16
            have v17 : 0 ≤ τ22.1 17 ∧ τ22.1 17 ≤ 42000 := hT.1 17
            have v18 : 0 ≤ τ22.1 18 ∧ τ22.1 18 ≤ 42000 := hT.1 18
            have v19 : 0 ≤ τ22.1 19 ∧ τ22.1 19 ≤ 1000 := hT.1 19
            have v23 : 0 ≤ τ22.1 23 ∧ τ22.1 23 ≤ 300 := hT.1 23
            have v30 : 0 ≤ τ22.1 30 ∧ τ22.1 30 ≤ 200 := hT.1 30
            have v31 : (-2147483648) ≤ τ22.1 31 ∧ τ22.1 31 ≤ 2147483647 := hT.1 31
            have v32 : 0 ≤ τ22.1 32 ∧ τ22.1 32 ≤ 20000 := hT.1 32
            have a36_15 : 0 ≤ τ22.2.1 36 (τ22.1 15) ∧ τ22.2.1 36 (τ22.1 15) ≤ 20000 := hT.2 36 _
            refine ⟨fun c23 => ?_, fun c23 => ?_⟩
            ·
              exact l_166 _ _ _ hT ag (show τ22.1 3 = σ.1 3 from by first | exact W3 | omega) (show τ22.1 5 = σ.1 5 from by first | exact W5 | omega) (show τ22.1 6 = σ.1 6 from by first | exact W6 | omega) (show τ22.1 7 = σ.1 7 from by first | exact W7 | omega) (show τ22.1 13 = σ.1 13 from by first | exact W13 | omega) (show τ22.1 14 = σ.1 14 from by first | exact W14 | omega) (show τ22.1 15 = σ.1 15 from by first | exact W15 | omega) (show τ22.1 16 = σ.1 16 from by first | exact W16 | omega) G10 G13 G14 G15 G16 G27 G28 G29 G30 G31 G32 G33 G34 (show u4_82 = σ.2.1 36 ((σ.1 15) + (σ.1 32)) from by (first | omega | (simp only [st_s] <;> omega) | assumption | omega | fail)) (show 0 ≤ u5_82 ∧ u5_82 ≤ (σ.1 30) ∧ u5_82 ≤ 60 from by (first | omega | (simp only [st_s] <;> omega) | assumption | omega | fail)) (show u5_82 = (if 2 ≤ σ.2.1 13 (n1 % 65536) then σ.2.1 28 (n1 % 65536) else 0) from by (first | (rw [if_pos i82_4]; omega) | (rw [if_neg (by rw [← e_x4]; omega)]) | fail)) (show ∀ k : Int, 0 ≤ k → k < u5_82 → τ22.2.1 37 (u4_82 + k) = σ.2.1 52 ((σ.1 30) - u5_82 + k) from by (intro k k0 k1; first | (exfalso; omega) | (rw [g37_τ22, g37_τ18, g37_τ14]; exact i82_8 k k0 (by omega)))) (show J_rb (τ22.1 7) (τ22.1 15) (τ22.1 32) (τ22.2.1 13) (τ22.2.1 28) (τ22.2.1 35) (τ22.2.1 36) (τ22.2.1 37) from RB) (show j_eq (σ.2.1 36 (σ.1 15)) (σ.2.1 37) (τ22.2.1 37) from CH) (show J_bp (τ22.2.1 44) (τ22.2.1 45) from BP) (show J_bt (τ22.1 19) (τ22.2.1 43) from by (first | exact q8_2 | exact q20_2 (by omega) | fail)) (show (τ22.1 31) = (σ.1 31) from by (first | omega | (simp only [st_s] <;> omega) | assumption | omega | fail)) (show (τ22.1 17) = (σ.1 17) ∧ (τ22.1 18) = (σ.1 18) ∧ (τ22.1 32) = (σ.1 32) ∧ (τ22.1 30) = (σ.1 30) ∧ (τ22.1 23) = (σ.1 23) from by (first | omega | (simp only [st_s] <;> omega) | assumption | omega | fail)) (show τ22.2.1 39 = σ.2.1 39 from by (first | rfl | exact g39_τ10 | exact i82_12 | (rw [g39_τ22, g39_τ18, g39_τ14]; exact i82_12) | fail)) (show τ22.2.1 40 = σ.2.1 40 from by (first | rfl | exact g40_τ10 | exact i82_13 | (rw [g40_τ22, g40_τ18, g40_τ14]; exact i82_13) | fail)) (show τ22.2.1 41 = σ.2.1 41 from by (first | rfl | exact g41_τ10 | exact i82_14 | (rw [g41_τ22, g41_τ18, g41_τ14]; exact i82_14) | fail)) (show τ22.2.1 42 = σ.2.1 42 from by (first | rfl | exact g42_τ10 | exact i82_15 | (rw [g42_τ22, g42_τ18, g42_τ14]; exact i82_15) | fail)) (show τ22.2.1 52 = σ.2.1 52 from by (first | rfl | exact g52_τ10 | exact i82_16 | (rw [g52_τ22, g52_τ18, g52_τ14]; exact i82_16) | fail)) (show τ22.2.1 53 = σ.2.1 53 from by (first | rfl | exact g53_τ10 | exact i82_17 | (rw [g53_τ22, g53_τ18, g53_τ14]; exact i82_17) | fail)) (show τ22.2.1 35 = σ.2.1 35 from by (first | rfl | exact g35_τ10 | exact i82_18 | (rw [g35_τ22, g35_τ18, g35_τ14]; exact i82_18) | fail)) (show τ22.2.1 36 = σ.2.1 36 from by (first | rfl | exact g36_τ10 | exact i82_19 | (rw [g36_τ22, g36_τ18, g36_τ14]; exact i82_19) | fail))
            ·
              exact ⟨hT, (show 0 ≤ 5 ∧ 5 ≤ 19 from by (first | omega | (simp only [st_s] <;> omega) | assumption | omega | fail)), (show 5 = 0 → 0 ≤ (τ22.1 31) ∧ (τ22.1 31) ≤ 40000 from by (intro z; first | (exfalso; omega) | exact q43_2 z | omega)), (show 5 = 0 → J_dt (τ22.1 17) (τ22.1 18) (τ22.1 32) (τ22.2.1 39) (τ22.2.1 40) (τ22.2.1 41) from by (intro z; first | (exfalso; omega) | exact q43_3 z | omega)), (show 5 = 0 → J_pl (τ22.1 17) (τ22.1 31) (τ22.1 32) (τ22.1 30) (τ22.2.1 42) (τ22.2.1 41) (τ22.2.1 52) from by (intro z; first | (exfalso; omega) | exact q43_4 z | omega)), (show 5 = 0 → J_sv (τ22.1 32) (τ22.1 23) (τ22.2.1 42) (τ22.2.1 53) from by (intro z; first | (exfalso; omega) | exact q43_5 z | omega)), (show 5 = 0 → J_rb (τ22.1 7) (τ22.1 15) (τ22.1 32) (τ22.2.1 13) (τ22.2.1 28) (τ22.2.1 35) (τ22.2.1 36) (τ22.2.1 37) from by (first | (intro z; exfalso; omega) | (intro z; rw [show τ45.1 32 = σ.1 32 + 1 from by have := q43_6 z; omega, w7_τ45, w7_τ35, W7, w15_τ45, w15_τ35, W15, g13_τ45, g13_τ35, G13, g28_τ45, g28_τ35, G28, g35_τ45, g35_τ35, g36_τ45, g36_τ35, g37_τ45, g37_τ35]; exact i195_6) | (intro z; rw [show τ45.1 32 = σ.1 32 + 1 from by have := q43_6 z; omega, W7, W15, G13, G28, g35_τ45, g35_τ35, g36_τ45, g36_τ35, g37_τ45, g37_τ35]; exact i195_6) | fail)), (show J_bp (τ22.2.1 44) (τ22.2.1 45) from BP), (show J_all (τ22.1 7) (τ22.1 6) (τ22.1 13) (τ22.1 14) (τ22.1 15) (τ22.2.1 13) (τ22.2.1 14) (τ22.2.1 15) (τ22.2.1 16) (τ22.2.1 10) (τ22.2.1 27) (τ22.2.1 28) (τ22.2.1 29) (τ22.2.1 30) (τ22.2.1 31) (τ22.2.1 32) (τ22.2.1 33) (τ22.2.1 34) (τ22.2.1 35) (τ22.2.1 36) (τ22.2.1 37) from by (first | exact CJ | exact c_J_ag CJ_0 hT0 ag (by omega) (by first | (rw [G10]; exact j_rr0 _ _) | exact j_rr0 _ _) TX_0 CH (by omega) | fail)), (show j_eq (σ.2.1 36 (σ.1 15)) (σ.2.1 37) (τ22.2.1 37) from CH), (show 5 = 0 → (τ22.1 32) = (σ.1 32) + 1 ∧ τ22.2.1 36 ((σ.1 15) + (σ.1 32) + 1) + (τ22.1 30) = σ.2.1 36 ((σ.1 15) + (σ.1 32)) + (σ.1 30) + 1 from by (first | (intro z; exfalso; omega) | (intro z; have y := q43_6 z; have e := i195_18; rw [← g36_τ35, ← g36_τ45] at e; omega) | fail)), (show 5 = 0 → (n1 < 65536 → (τ22.1 23) = (σ.1 23)) ∧ (65536 ≤ n1 → (τ22.1 23) = (σ.1 23) + 1) from by (first | (intro z; exfalso; omega) | (intro z; have y := q43_6 z; omega) | fail)), ag⟩
          ·
            exact ⟨hT, (show 0 ≤ 17 ∧ 17 ≤ 19 from by (first | omega | (simp only [st_s] <;> omega) | assumption | omega | fail)), (show 17 = 0 → 0 ≤ (τ18.1 31) ∧ (τ18.1 31) ≤ 40000 from by (intro z; first | (exfalso; omega) | exact q43_2 z | omega)), (show 17 = 0 → J_dt (τ18.1 17) (τ18.1 18) (τ18.1 32) (τ18.2.1 39) (τ18.2.1 40) (τ18.2.1 41) from by (intro z; first | (exfalso; omega) | exact q43_3 z | omega)), (show 17 = 0 → J_pl (τ18.1 17) (τ18.1 31) (τ18.1 32) (τ18.1 30) (τ18.2.1 42) (τ18.2.1 41) (τ18.2.1 52) from by (intro z; first | (exfalso; omega) | exact q43_4 z | omega)), (show 17 = 0 → J_sv (τ18.1 32) (τ18.1 23) (τ18.2.1 42) (τ18.2.1 53) from by (intro z; first | (exfalso; omega) | exact q43_5 z | omega)), (show 17 = 0 → J_rb (τ18.1 7) (τ18.1 15) (τ18.1 32) (τ18.2.1 13) (τ18.2.1 28) (τ18.2.1 35) (τ18.2.1 36) (τ18.2.1 37) from by (first | (intro z; exfalso; omega) | (intro z; rw [show τ45.1 32 = σ.1 32 + 1 from by have := q43_6 z; omega, w7_τ45, w7_τ35, W7, w15_τ45, w15_τ35, W15, g13_τ45, g13_τ35, G13, g28_τ45, g28_τ35, G28, g35_τ45, g35_τ35, g36_τ45, g36_τ35, g37_τ45, g37_τ35]; exact i195_6) | (intro z; rw [show τ45.1 32 = σ.1 32 + 1 from by have := q43_6 z; omega, W7, W15, G13, G28, g35_τ45, g35_τ35, g36_τ45, g36_τ35, g37_τ45, g37_τ35]; exact i195_6) | fail)), (show J_bp (τ18.2.1 44) (τ18.2.1 45) from BP), (show J_all (τ18.1 7) (τ18.1 6) (τ18.1 13) (τ18.1 14) (τ18.1 15) (τ18.2.1 13) (τ18.2.1 14) (τ18.2.1 15) (τ18.2.1 16) (τ18.2.1 10) (τ18.2.1 27) (τ18.2.1 28) (τ18.2.1 29) (τ18.2.1 30) (τ18.2.1 31) (τ18.2.1 32) (τ18.2.1 33) (τ18.2.1 34) (τ18.2.1 35) (τ18.2.1 36) (τ18.2.1 37) from by (first | exact CJ | exact c_J_ag CJ_0 hT0 ag (by omega) (by first | (rw [G10]; exact j_rr0 _ _) | exact j_rr0 _ _) TX_0 CH (by omega) | fail)), (show j_eq (σ.2.1 36 (σ.1 15)) (σ.2.1 37) (τ18.2.1 37) from CH), (show 17 = 0 → (τ18.1 32) = (σ.1 32) + 1 ∧ τ18.2.1 36 ((σ.1 15) + (σ.1 32) + 1) + (τ18.1 30) = σ.2.1 36 ((σ.1 15) + (σ.1 32)) + (σ.1 30) + 1 from by (first | (intro z; exfalso; omega) | (intro z; have y := q43_6 z; have e := i195_18; rw [← g36_τ35, ← g36_τ45] at e; omega) | fail)), (show 17 = 0 → (n1 < 65536 → (τ18.1 23) = (σ.1 23)) ∧ (65536 ≤ n1 → (τ18.1 23) = (σ.1 23) + 1) from by (first | (intro z; exfalso; omega) | (intro z; have y := q43_6 z; omega) | fail)), ag⟩
        ·
          exact ⟨hT, (show 0 ≤ 16 ∧ 16 ≤ 19 from by (first | omega | (simp only [st_s] <;> omega) | assumption | omega | fail)), (show 16 = 0 → 0 ≤ (τ14.1 31) ∧ (τ14.1 31) ≤ 40000 from by (intro z; first | (exfalso; omega) | exact q43_2 z | omega)), (show 16 = 0 → J_dt (τ14.1 17) (τ14.1 18) (τ14.1 32) (τ14.2.1 39) (τ14.2.1 40) (τ14.2.1 41) from by (intro z; first | (exfalso; omega) | exact q43_3 z | omega)), (show 16 = 0 → J_pl (τ14.1 17) (τ14.1 31) (τ14.1 32) (τ14.1 30) (τ14.2.1 42) (τ14.2.1 41) (τ14.2.1 52) from by (intro z; first | (exfalso; omega) | exact q43_4 z | omega)), (show 16 = 0 → J_sv (τ14.1 32) (τ14.1 23) (τ14.2.1 42) (τ14.2.1 53) from by (intro z; first | (exfalso; omega) | exact q43_5 z | omega)), (show 16 = 0 → J_rb (τ14.1 7) (τ14.1 15) (τ14.1 32) (τ14.2.1 13) (τ14.2.1 28) (τ14.2.1 35) (τ14.2.1 36) (τ14.2.1 37) from by (first | (intro z; exfalso; omega) | (intro z; rw [show τ45.1 32 = σ.1 32 + 1 from by have := q43_6 z; omega, w7_τ45, w7_τ35, W7, w15_τ45, w15_τ35, W15, g13_τ45, g13_τ35, G13, g28_τ45, g28_τ35, G28, g35_τ45, g35_τ35, g36_τ45, g36_τ35, g37_τ45, g37_τ35]; exact i195_6) | (intro z; rw [show τ45.1 32 = σ.1 32 + 1 from by have := q43_6 z; omega, W7, W15, G13, G28, g35_τ45, g35_τ35, g36_τ45, g36_τ35, g37_τ45, g37_τ35]; exact i195_6) | fail)), (show J_bp (τ14.2.1 44) (τ14.2.1 45) from BP), (show J_all (τ14.1 7) (τ14.1 6) (τ14.1 13) (τ14.1 14) (τ14.1 15) (τ14.2.1 13) (τ14.2.1 14) (τ14.2.1 15) (τ14.2.1 16) (τ14.2.1 10) (τ14.2.1 27) (τ14.2.1 28) (τ14.2.1 29) (τ14.2.1 30) (τ14.2.1 31) (τ14.2.1 32) (τ14.2.1 33) (τ14.2.1 34) (τ14.2.1 35) (τ14.2.1 36) (τ14.2.1 37) from by (first | exact CJ | exact c_J_ag CJ_0 hT0 ag (by omega) (by first | (rw [G10]; exact j_rr0 _ _) | exact j_rr0 _ _) TX_0 CH (by omega) | fail)), (show j_eq (σ.2.1 36 (σ.1 15)) (σ.2.1 37) (τ14.2.1 37) from CH), (show 16 = 0 → (τ14.1 32) = (σ.1 32) + 1 ∧ τ14.2.1 36 ((σ.1 15) + (σ.1 32) + 1) + (τ14.1 30) = σ.2.1 36 ((σ.1 15) + (σ.1 32)) + (σ.1 30) + 1 from by (first | (intro z; exfalso; omega) | (intro z; have y := q43_6 z; have e := i195_18; rw [← g36_τ35, ← g36_τ45] at e; omega) | fail)), (show 16 = 0 → (n1 < 65536 → (τ14.1 23) = (σ.1 23)) ∧ (65536 ≤ n1 → (τ14.1 23) = (σ.1 23) + 1) from by (first | (intro z; exfalso; omega) | (intro z; have y := q43_6 z; omega) | fail)), ag⟩
      ·
        refine ⟨(show 0 ≤ ((τ_82.1 30 - u5_82) + u6_82) ∧ ((τ_82.1 30 - u5_82) + u6_82) < 200 from by (first | omega | (simp only [st_s] <;> omega) | assumption | omega | fail)), ?_⟩
        intro x25 r_x25 e_x25
        have b_x25 : 0 ≤ x25 ∧ x25 ≤ 19999 := by rw [e_x25]; exact hT.2 52 _
        refine ⟨(show 0 ≤ (u4_82 + u6_82) ∧ (u4_82 + u6_82) < 20000 from by (first | omega | (simp only [st_s] <;> omega) | assumption | omega | fail)), ?_⟩
        replace ag := ag_a (k := 37) (e := (u4_82 + u6_82)) (x := x25) ag rfl
        replace hT := cT_a (k := 37) (j := (u4_82 + u6_82)) hT (show (0 : Int) ≤ x25 ∧ x25 ≤ 19999 from by (first | omega | (simp only [st_s] <;> omega) | assumption | omega | fail))
        refine ⟨(⟨by (first | omega | (simp only [st_s] <;> omega) | assumption | omega | fail), by (first | omega | (simp only [st_s] <;> omega) | assumption | omega | fail)⟩ : rg (u6_82 + 1)), ?_⟩
        exact ih_82 _ _ _ _ (show (61 - (u6_82 + 1) : Int) < ((m_82 : Nat) : Int) from by ((first | omega | (simp only [st_s] <;> omega) | assumption | omega | fail))) hT ag (show τ_82.1 3 = σ.1 3 from by first | exact W3 | omega) (show τ_82.1 5 = σ.1 5 from by first | exact W5 | omega) (show τ_82.1 6 = σ.1 6 from by first | exact W6 | omega) (show τ_82.1 7 = σ.1 7 from by first | exact W7 | omega) (show τ_82.1 13 = σ.1 13 from by first | exact W13 | omega) (show τ_82.1 14 = σ.1 14 from by first | exact W14 | omega) (show τ_82.1 15 = σ.1 15 from by first | exact W15 | omega) (show τ_82.1 16 = σ.1 16 from by first | exact W16 | omega) G10 G13 G14 G15 G16 G27 G28 G29 G30 G31 G32 G33 G34 (show u4_82 = σ.2.1 36 ((σ.1 15) + (σ.1 32)) from by (first | omega | (simp only [st_s] <;> omega) | assumption | omega | fail)) (show u5_82 = σ.2.1 28 (n1 % 65536) from by (first | omega | (rw [e_x6]) | fail)) (show u5_82 ≤ (σ.1 30) from by (first | omega | (simp only [st_s] <;> omega) | assumption | omega | fail)) (show 2 ≤ σ.2.1 13 (n1 % 65536) from by (first | exact i82_4 | (rw [← e_x4]; exact c5) | fail)) (show 0 ≤ (u6_82 + 1) ∧ (u6_82 + 1) ≤ u5_82 ∧ u5_82 ≤ 60 from by (first | omega | (simp only [st_s] <;> omega) | assumption | omega | fail)) (show J_rb (τ_82.1 7) (τ_82.1 15) (τ_82.1 32) (τ_82.2.1 13) (τ_82.2.1 28) (τ_82.2.1 35) (τ_82.2.1 36) ((st (τ_82.2.1 37) (u4_82 + u6_82) x25)) from by (first | exact RB | exact J_rb_c RB (fun j => (A28 j).1) (by rw [i82_19, show τ_82.1 15 = σ.1 15 from by omega, show τ_82.1 32 = σ.1 32 from by omega]; omega) | fail)) (show j_eq (σ.2.1 36 (σ.1 15)) (σ.2.1 37) ((st (τ_82.2.1 37) (u4_82 + u6_82) x25)) from by (first | exact CH | exact j_eqs CH (by omega) | fail)) (show ∀ k : Int, 0 ≤ k → k < (u6_82 + 1) → (st (τ_82.2.1 37) (u4_82 + u6_82) x25) (u4_82 + k) = σ.2.1 52 ((σ.1 30) - u5_82 + k) from by (intro k k0 k1; first | (exfalso; omega) | (by_cases z : k = u6_82; (rw [z, st_s, e_x25, i82_16, show τ_82.1 30 = σ.1 30 from by omega]); (rw [st_n _ _ (by omega)]; exact i82_8 k k0 (by omega))))) (show J_bp (τ_82.2.1 44) (τ_82.2.1 45) from BP) (show (τ_82.1 31) = (σ.1 31) from by (first | omega | (simp only [st_s] <;> omega) | assumption | omega | fail)) (show (τ_82.1 17) = (σ.1 17) ∧ (τ_82.1 18) = (σ.1 18) ∧ (τ_82.1 32) = (σ.1 32) ∧ (τ_82.1 30) = (σ.1 30) ∧ (τ_82.1 23) = (σ.1 23) from by (first | omega | (simp only [st_s] <;> omega) | assumption | omega | fail)) (show τ_82.2.1 39 = σ.2.1 39 from by (first | rfl | exact i82_12 | fail)) (show τ_82.2.1 40 = σ.2.1 40 from by (first | rfl | exact i82_13 | fail)) (show τ_82.2.1 41 = σ.2.1 41 from by (first | rfl | exact i82_14 | fail)) (show τ_82.2.1 42 = σ.2.1 42 from by (first | rfl | exact i82_15 | fail)) (show τ_82.2.1 52 = σ.2.1 52 from by (first | rfl | exact i82_16 | fail)) (show τ_82.2.1 53 = σ.2.1 53 from by (first | rfl | exact i82_17 | fail)) (show τ_82.2.1 35 = σ.2.1 35 from by (first | rfl | exact i82_18 | fail)) (show τ_82.2.1 36 = σ.2.1 36 from by (first | rfl | exact i82_19 | fail))
  refine ⟨(show 0 ≤ (σ.1 15 + σ.1 32) ∧ (σ.1 15 + σ.1 32) < 20001 from by (first | omega | (simp only [st_s] <;> omega) | assumption | omega | fail)), ?_⟩
  intro x2 r_x2 e_x2
  have b_x2 : 0 ≤ x2 ∧ x2 ≤ 20000 := by rw [e_x2]; exact hT.2 36 _
  refine ⟨(show 0 ≤ (n1 % 65536) ∧ (n1 % 65536) < 1500 from by (first | omega | (simp only [st_s] <;> omega) | assumption | omega | fail)), ?_⟩
  intro x4 r_x4 e_x4
  have b_x4 : 0 ≤ x4 ∧ x4 ≤ 4 := by rw [e_x4]; exact hT.2 13 _
  refine ⟨fun c5 => ?_, fun c5 => ?_⟩
  ·
    intro x6 r_x6 e_x6
    have b_x6 : 0 ≤ x6 ∧ x6 ≤ 60 := by rw [e_x6]; exact hT.2 28 _
    refine ⟨fun c7 => ?_, fun c7 => ?_⟩
    ·
      exact l_82 ((61 - 0 : Int).toNat + 1) _ _ _ _ (show (61 - 0 : Int) < (((61 - 0 : Int).toNat + 1 : Nat) : Int) from by ((first | omega | (simp only [st_s] <;> omega) | assumption | omega | fail))) hT ag (show σ.1 3 = σ.1 3 from by first | exact W3 | omega) (show σ.1 5 = σ.1 5 from by first | exact W5 | omega) (show σ.1 6 = σ.1 6 from by first | exact W6 | omega) (show σ.1 7 = σ.1 7 from by first | exact W7 | omega) (show σ.1 13 = σ.1 13 from by first | exact W13 | omega) (show σ.1 14 = σ.1 14 from by first | exact W14 | omega) (show σ.1 15 = σ.1 15 from by first | exact W15 | omega) (show σ.1 16 = σ.1 16 from by first | exact W16 | omega) G10 G13 G14 G15 G16 G27 G28 G29 G30 G31 G32 G33 G34 (show x2 = σ.2.1 36 ((σ.1 15) + (σ.1 32)) from by (first | omega | (simp only [st_s] <;> omega) | assumption | omega | fail)) (show x6 = σ.2.1 28 (n1 % 65536) from by (first | omega | (rw [e_x6]) | fail)) (show x6 ≤ (σ.1 30) from by (first | omega | (simp only [st_s] <;> omega) | assumption | omega | fail)) (show 2 ≤ σ.2.1 13 (n1 % 65536) from by (first | exact i82_4 | (rw [← e_x4]; exact c5) | fail)) (show 0 ≤ 0 ∧ 0 ≤ x6 ∧ x6 ≤ 60 from by (first | omega | (simp only [st_s] <;> omega) | assumption | omega | fail)) (show J_rb (σ.1 7) (σ.1 15) (σ.1 32) (σ.2.1 13) (σ.2.1 28) (σ.2.1 35) (σ.2.1 36) (σ.2.1 37) from RB) (show j_eq (σ.2.1 36 (σ.1 15)) (σ.2.1 37) (σ.2.1 37) from CH) (show ∀ k : Int, 0 ≤ k → k < 0 → σ.2.1 37 (x2 + k) = σ.2.1 52 ((σ.1 30) - x6 + k) from by (intro k k0 k1; first | (exfalso; omega) | (by_cases z : k = u6_82; (rw [z, st_s, e_x25, i82_16, show τ_82.1 30 = σ.1 30 from by omega]); (rw [st_n _ _ (by omega)]; exact i82_8 k k0 (by omega))))) (show J_bp (σ.2.1 44) (σ.2.1 45) from BP) (show (σ.1 31) = (σ.1 31) from by (first | omega | (simp only [st_s] <;> omega) | assumption | omega | fail)) (show (σ.1 17) = (σ.1 17) ∧ (σ.1 18) = (σ.1 18) ∧ (σ.1 32) = (σ.1 32) ∧ (σ.1 30) = (σ.1 30) ∧ (σ.1 23) = (σ.1 23) from by (first | omega | (simp only [st_s] <;> omega) | assumption | omega | fail)) (show σ.2.1 39 = σ.2.1 39 from by (first | rfl | exact i82_12 | fail)) (show σ.2.1 40 = σ.2.1 40 from by (first | rfl | exact i82_13 | fail)) (show σ.2.1 41 = σ.2.1 41 from by (first | rfl | exact i82_14 | fail)) (show σ.2.1 42 = σ.2.1 42 from by (first | rfl | exact i82_15 | fail)) (show σ.2.1 52 = σ.2.1 52 from by (first | rfl | exact i82_16 | fail)) (show σ.2.1 53 = σ.2.1 53 from by (first | rfl | exact i82_17 | fail)) (show σ.2.1 35 = σ.2.1 35 from by (first | rfl | exact i82_18 | fail)) (show σ.2.1 36 = σ.2.1 36 from by (first | rfl | exact i82_19 | fail))
    ·
      exact ⟨hT, (show 0 ≤ 15 ∧ 15 ≤ 19 from by (first | omega | (simp only [st_s] <;> omega) | assumption | omega | fail)), (show 15 = 0 → 0 ≤ (σ.1 31) ∧ (σ.1 31) ≤ 40000 from by (intro z; first | (exfalso; omega) | exact q43_2 z | omega)), (show 15 = 0 → J_dt (σ.1 17) (σ.1 18) (σ.1 32) (σ.2.1 39) (σ.2.1 40) (σ.2.1 41) from by (intro z; first | (exfalso; omega) | exact q43_3 z | omega)), (show 15 = 0 → J_pl (σ.1 17) (σ.1 31) (σ.1 32) (σ.1 30) (σ.2.1 42) (σ.2.1 41) (σ.2.1 52) from by (intro z; first | (exfalso; omega) | exact q43_4 z | omega)), (show 15 = 0 → J_sv (σ.1 32) (σ.1 23) (σ.2.1 42) (σ.2.1 53) from by (intro z; first | (exfalso; omega) | exact q43_5 z | omega)), (show 15 = 0 → J_rb (σ.1 7) (σ.1 15) (σ.1 32) (σ.2.1 13) (σ.2.1 28) (σ.2.1 35) (σ.2.1 36) (σ.2.1 37) from by (first | (intro z; exfalso; omega) | (intro z; rw [show τ45.1 32 = σ.1 32 + 1 from by have := q43_6 z; omega, w7_τ45, w7_τ35, W7, w15_τ45, w15_τ35, W15, g13_τ45, g13_τ35, G13, g28_τ45, g28_τ35, G28, g35_τ45, g35_τ35, g36_τ45, g36_τ35, g37_τ45, g37_τ35]; exact i195_6) | (intro z; rw [show τ45.1 32 = σ.1 32 + 1 from by have := q43_6 z; omega, W7, W15, G13, G28, g35_τ45, g35_τ35, g36_τ45, g36_τ35, g37_τ45, g37_τ35]; exact i195_6) | fail)), (show J_bp (σ.2.1 44) (σ.2.1 45) from BP), (show J_all (σ.1 7) (σ.1 6) (σ.1 13) (σ.1 14) (σ.1 15) (σ.2.1 13) (σ.2.1 14) (σ.2.1 15) (σ.2.1 16) (σ.2.1 10) (σ.2.1 27) (σ.2.1 28) (σ.2.1 29) (σ.2.1 30) (σ.2.1 31) (σ.2.1 32) (σ.2.1 33) (σ.2.1 34) (σ.2.1 35) (σ.2.1 36) (σ.2.1 37) from CJ), (show j_eq (σ.2.1 36 (σ.1 15)) (σ.2.1 37) (σ.2.1 37) from CH), (show 15 = 0 → (σ.1 32) = (σ.1 32) + 1 ∧ σ.2.1 36 ((σ.1 15) + (σ.1 32) + 1) + (σ.1 30) = σ.2.1 36 ((σ.1 15) + (σ.1 32)) + (σ.1 30) + 1 from by (first | (intro z; exfalso; omega) | (intro z; have y := q43_6 z; have e := i195_18; rw [← g36_τ35, ← g36_τ45] at e; omega) | fail)), (show 15 = 0 → (n1 < 65536 → (σ.1 23) = (σ.1 23)) ∧ (65536 ≤ n1 → (σ.1 23) = (σ.1 23) + 1) from by (first | (intro z; exfalso; omega) | (intro z; have y := q43_6 z; omega) | fail)), ag⟩
  ·
    refine ⟨_, K_X6_buildHypothesis hT (show 0 ≤ (n1 % 65536) from by (first | omega | (simp only [st_s] <;> omega) | assumption | omega | fail)) (show (n1 % 65536) < 1500 from by (first | omega | (simp only [st_s] <;> omega) | assumption | omega | fail)) (show σ.2.1 14 (n1 % 65536) ≤ σ.2.1 14 ((n1 % 65536) + 1) from by (first | omega | (simp only [st_s] <;> omega) | assumption | omega | fail)) (show σ.2.1 14 ((n1 % 65536) + 1) ≤ σ.2.1 14 (n1 % 65536) + 300 from by (first | omega | (simp only [st_s] <;> omega) | assumption | omega | fail)), ?_⟩
    intro τ10 hn_τ10 hf_τ10 hq
    obtain ⟨hT, q8_1, q8_2⟩ := hq
    replace q8_1 : (τ10.1 19) = σ.2.1 14 ((n1 % 65536) + 1) - σ.2.1 14 (n1 % 65536) := q8_1
    replace q8_2 : J_bt (τ10.1 19) (τ10.2.1 43) := q8_2
    replace ag : c_ag σ τ10 := ag_r ag hf_τ10 rfl rfl
    have w3_τ10 : τ10.1 3 = σ.1 3 := hf_τ10.1 3 (by decide)
    have w5_τ10 : τ10.1 5 = σ.1 5 := hf_τ10.1 5 (by decide)
    have w6_τ10 : τ10.1 6 = σ.1 6 := hf_τ10.1 6 (by decide)
    have w7_τ10 : τ10.1 7 = σ.1 7 := hf_τ10.1 7 (by decide)
    have w13_τ10 : τ10.1 13 = σ.1 13 := hf_τ10.1 13 (by decide)
    have w14_τ10 : τ10.1 14 = σ.1 14 := hf_τ10.1 14 (by decide)
    have w15_τ10 : τ10.1 15 = σ.1 15 := hf_τ10.1 15 (by decide)
    have w16_τ10 : τ10.1 16 = σ.1 16 := hf_τ10.1 16 (by decide)
    have w17_τ10 : τ10.1 17 = σ.1 17 := hf_τ10.1 17 (by decide)
    have w18_τ10 : τ10.1 18 = σ.1 18 := hf_τ10.1 18 (by decide)
    have w23_τ10 : τ10.1 23 = σ.1 23 := hf_τ10.1 23 (by decide)
    have w30_τ10 : τ10.1 30 = σ.1 30 := hf_τ10.1 30 (by decide)
    have w31_τ10 : τ10.1 31 = σ.1 31 := hf_τ10.1 31 (by decide)
    have w32_τ10 : τ10.1 32 = σ.1 32 := hf_τ10.1 32 (by decide)
    have g10_τ10 : τ10.2.1 10 = σ.2.1 10 := hf_τ10.2.1 10 (by decide)
    have g13_τ10 : τ10.2.1 13 = σ.2.1 13 := hf_τ10.2.1 13 (by decide)
    have g14_τ10 : τ10.2.1 14 = σ.2.1 14 := hf_τ10.2.1 14 (by decide)
    have g15_τ10 : τ10.2.1 15 = σ.2.1 15 := hf_τ10.2.1 15 (by decide)
    have g16_τ10 : τ10.2.1 16 = σ.2.1 16 := hf_τ10.2.1 16 (by decide)
    have g27_τ10 : τ10.2.1 27 = σ.2.1 27 := hf_τ10.2.1 27 (by decide)
    have g28_τ10 : τ10.2.1 28 = σ.2.1 28 := hf_τ10.2.1 28 (by decide)
    have g29_τ10 : τ10.2.1 29 = σ.2.1 29 := hf_τ10.2.1 29 (by decide)
    have g30_τ10 : τ10.2.1 30 = σ.2.1 30 := hf_τ10.2.1 30 (by decide)
    have g31_τ10 : τ10.2.1 31 = σ.2.1 31 := hf_τ10.2.1 31 (by decide)
    have g32_τ10 : τ10.2.1 32 = σ.2.1 32 := hf_τ10.2.1 32 (by decide)
    have g33_τ10 : τ10.2.1 33 = σ.2.1 33 := hf_τ10.2.1 33 (by decide)
    have g34_τ10 : τ10.2.1 34 = σ.2.1 34 := hf_τ10.2.1 34 (by decide)
    have g35_τ10 : τ10.2.1 35 = σ.2.1 35 := hf_τ10.2.1 35 (by decide)
    have g36_τ10 : τ10.2.1 36 = σ.2.1 36 := hf_τ10.2.1 36 (by decide)
    have g37_τ10 : τ10.2.1 37 = σ.2.1 37 := hf_τ10.2.1 37 (by decide)
    have g39_τ10 : τ10.2.1 39 = σ.2.1 39 := hf_τ10.2.1 39 (by decide)
    have g40_τ10 : τ10.2.1 40 = σ.2.1 40 := hf_τ10.2.1 40 (by decide)
    have g41_τ10 : τ10.2.1 41 = σ.2.1 41 := hf_τ10.2.1 41 (by decide)
    have g42_τ10 : τ10.2.1 42 = σ.2.1 42 := hf_τ10.2.1 42 (by decide)
    have g44_τ10 : τ10.2.1 44 = σ.2.1 44 := hf_τ10.2.1 44 (by decide)
    have g45_τ10 : τ10.2.1 45 = σ.2.1 45 := hf_τ10.2.1 45 (by decide)
    have g52_τ10 : τ10.2.1 52 = σ.2.1 52 := hf_τ10.2.1 52 (by decide)
    have g53_τ10 : τ10.2.1 53 = σ.2.1 53 := hf_τ10.2.1 53 (by decide)
    have W3 : τ10.1 3 = σ.1 3 := by first | exact w3_τ10.trans W3 | omega
    have W5 : τ10.1 5 = σ.1 5 := by first | exact w5_τ10.trans W5 | omega
    have W6 : τ10.1 6 = σ.1 6 := by first | exact w6_τ10.trans W6 | omega
    have W7 : τ10.1 7 = σ.1 7 := by first | exact w7_τ10.trans W7 | omega
    have W13 : τ10.1 13 = σ.1 13 := by first | exact w13_τ10.trans W13 | omega
    have W14 : τ10.1 14 = σ.1 14 := by first | exact w14_τ10.trans W14 | omega
    have W15 : τ10.1 15 = σ.1 15 := by first | exact w15_τ10.trans W15 | omega
    have W16 : τ10.1 16 = σ.1 16 := by first | exact w16_τ10.trans W16 | omega
    have G10 : τ10.2.1 10 = σ.2.1 10 := (g10_τ10).trans G10
    have G13 : τ10.2.1 13 = σ.2.1 13 := (g13_τ10).trans G13
    have G14 : τ10.2.1 14 = σ.2.1 14 := (g14_τ10).trans G14
    have G15 : τ10.2.1 15 = σ.2.1 15 := (g15_τ10).trans G15
    have G16 : τ10.2.1 16 = σ.2.1 16 := (g16_τ10).trans G16
    have G27 : τ10.2.1 27 = σ.2.1 27 := (g27_τ10).trans G27
    have G28 : τ10.2.1 28 = σ.2.1 28 := (g28_τ10).trans G28
    have G29 : τ10.2.1 29 = σ.2.1 29 := (g29_τ10).trans G29
    have G30 : τ10.2.1 30 = σ.2.1 30 := (g30_τ10).trans G30
    have G31 : τ10.2.1 31 = σ.2.1 31 := (g31_τ10).trans G31
    have G32 : τ10.2.1 32 = σ.2.1 32 := (g32_τ10).trans G32
    have G33 : τ10.2.1 33 = σ.2.1 33 := (g33_τ10).trans G33
    have G34 : τ10.2.1 34 = σ.2.1 34 := (g34_τ10).trans G34
    have y36_15_τ10 : τ10.2.1 36 (τ10.1 15) = (σ.2.1 36) (σ.1 15) := by rw [g36_τ10, w15_τ10]
    have TX : J_vs (τ10.1 6) (τ10.1 5) (τ10.2.1 15) := by rw [show (J_vs (τ10.1 6) (τ10.1 5) (τ10.2.1 15)) = (J_vs (σ.1 6) (σ.1 5) (σ.2.1 15)) from by rw [w5_τ10, w6_τ10, g15_τ10]]; exact TX
    have CJ : J_all (τ10.1 7) (τ10.1 6) (τ10.1 13) (τ10.1 14) (τ10.1 15) (τ10.2.1 13) (τ10.2.1 14) (τ10.2.1 15) (τ10.2.1 16) (τ10.2.1 10) (τ10.2.1 27) (τ10.2.1 28) (τ10.2.1 29) (τ10.2.1 30) (τ10.2.1 31) (τ10.2.1 32) (τ10.2.1 33) (τ10.2.1 34) (τ10.2.1 35) (τ10.2.1 36) (τ10.2.1 37) := by rw [show (J_all (τ10.1 7) (τ10.1 6) (τ10.1 13) (τ10.1 14) (τ10.1 15) (τ10.2.1 13) (τ10.2.1 14) (τ10.2.1 15) (τ10.2.1 16) (τ10.2.1 10) (τ10.2.1 27) (τ10.2.1 28) (τ10.2.1 29) (τ10.2.1 30) (τ10.2.1 31) (τ10.2.1 32) (τ10.2.1 33) (τ10.2.1 34) (τ10.2.1 35) (τ10.2.1 36) (τ10.2.1 37)) = (J_all (σ.1 7) (σ.1 6) (σ.1 13) (σ.1 14) (σ.1 15) (σ.2.1 13) (σ.2.1 14) (σ.2.1 15) (σ.2.1 16) (σ.2.1 10) (σ.2.1 27) (σ.2.1 28) (σ.2.1 29) (σ.2.1 30) (σ.2.1 31) (σ.2.1 32) (σ.2.1 33) (σ.2.1 34) (σ.2.1 35) (σ.2.1 36) (σ.2.1 37)) from by rw [w6_τ10, w7_τ10, w13_τ10, w14_τ10, w15_τ10, g10_τ10, g13_τ10, g14_τ10, g15_τ10, g16_τ10, g27_τ10, g28_τ10, g29_τ10, g30_τ10, g31_τ10, g32_τ10, g33_τ10, g34_τ10, g35_τ10, g36_τ10, g37_τ10]]; exact CJ
    have BP : J_bp (τ10.2.1 44) (τ10.2.1 45) := by rw [show (J_bp (τ10.2.1 44) (τ10.2.1 45)) = (J_bp (σ.2.1 44) (σ.2.1 45)) from by rw [g44_τ10, g45_τ10]]; exact BP
    have DT : J_dt (τ10.1 17) (τ10.1 18) (τ10.1 32) (τ10.2.1 39) (τ10.2.1 40) (τ10.2.1 41) := by rw [show (J_dt (τ10.1 17) (τ10.1 18) (τ10.1 32) (τ10.2.1 39) (τ10.2.1 40) (τ10.2.1 41)) = (J_dt (σ.1 17) (σ.1 18) (σ.1 32) (σ.2.1 39) (σ.2.1 40) (σ.2.1 41)) from by rw [w17_τ10, w18_τ10, w32_τ10, g39_τ10, g40_τ10, g41_τ10]]; exact DT
    have PL : J_pl (τ10.1 17) (τ10.1 31) (τ10.1 32) (τ10.1 30) (τ10.2.1 42) (τ10.2.1 41) (τ10.2.1 52) := by rw [show (J_pl (τ10.1 17) (τ10.1 31) (τ10.1 32) (τ10.1 30) (τ10.2.1 42) (τ10.2.1 41) (τ10.2.1 52)) = (J_pl (σ.1 17) (σ.1 31) (σ.1 32) (σ.1 30) (σ.2.1 42) (σ.2.1 41) (σ.2.1 52)) from by rw [w17_τ10, w30_τ10, w31_τ10, w32_τ10, g41_τ10, g42_τ10, g52_τ10]]; exact PL
    have SV : J_sv (τ10.1 32) (τ10.1 23) (τ10.2.1 42) (τ10.2.1 53) := by rw [show (J_sv (τ10.1 32) (τ10.1 23) (τ10.2.1 42) (τ10.2.1 53)) = (J_sv (σ.1 32) (σ.1 23) (σ.2.1 42) (σ.2.1 53)) from by rw [w23_τ10, w32_τ10, g42_τ10, g53_τ10]]; exact SV
    have RB : J_rb (τ10.1 7) (τ10.1 15) (τ10.1 32) (τ10.2.1 13) (τ10.2.1 28) (τ10.2.1 35) (τ10.2.1 36) (τ10.2.1 37) := by rw [show (J_rb (τ10.1 7) (τ10.1 15) (τ10.1 32) (τ10.2.1 13) (τ10.2.1 28) (τ10.2.1 35) (τ10.2.1 36) (τ10.2.1 37)) = (J_rb (σ.1 7) (σ.1 15) (σ.1 32) (σ.2.1 13) (σ.2.1 28) (σ.2.1 35) (σ.2.1 36) (σ.2.1 37)) from by rw [w7_τ10, w15_τ10, w32_τ10, g13_τ10, g28_τ10, g35_τ10, g36_τ10, g37_τ10]]; exact RB
    have CH : j_eq (σ.2.1 36 (σ.1 15)) (σ.2.1 37) (τ10.2.1 37) := by rw [show (j_eq (σ.2.1 36 (σ.1 15)) (σ.2.1 37) (τ10.2.1 37)) = (j_eq (σ.2.1 36 (σ.1 15)) (σ.2.1 37) (σ.2.1 37)) from by rw [g37_τ10]]; exact CH
    have A10 : ∀ j, (-1) ≤ τ10.2.1 10 j ∧ τ10.2.1 10 j ≤ 99 := fun j => hT.2 10 j
    have A13 : ∀ j, 0 ≤ τ10.2.1 13 j ∧ τ10.2.1 13 j ≤ 4 := fun j => hT.2 13 j
    have A14 : ∀ j, 0 ≤ τ10.2.1 14 j ∧ τ10.2.1 14 j ≤ 30000 := fun j => hT.2 14 j
    have A15 : ∀ j, 0 ≤ τ10.2.1 15 j ∧ τ10.2.1 15 j ≤ 999 := fun j => hT.2 15 j
    have A16 : ∀ j, (-1) ≤ τ10.2.1 16 j ∧ τ10.2.1 16 j ≤ 1499 := fun j => hT.2 16 j
    have A27 : ∀ j, 0 ≤ τ10.2.1 27 j ∧ τ10.2.1 27 j ≤ 90000 := fun j => hT.2 27 j
    have A28 : ∀ j, 0 ≤ τ10.2.1 28 j ∧ τ10.2.1 28 j ≤ 60 := fun j => hT.2 28 j
    have A29 : ∀ j, 0 ≤ τ10.2.1 29 j ∧ τ10.2.1 29 j ≤ 1499 := fun j => hT.2 29 j
    have A30 : ∀ j, 0 ≤ τ10.2.1 30 j ∧ τ10.2.1 30 j ≤ 20000 := fun j => hT.2 30 j
    have A31 : ∀ j, 0 ≤ τ10.2.1 31 j ∧ τ10.2.1 31 j ≤ 20000 := fun j => hT.2 31 j
    have A32 : ∀ j, 0 ≤ τ10.2.1 32 j ∧ τ10.2.1 32 j ≤ 999999 := fun j => hT.2 32 j
    have A33 : ∀ j, 0 ≤ τ10.2.1 33 j ∧ τ10.2.1 33 j ≤ 20000 := fun j => hT.2 33 j
    have A34 : ∀ j, 0 ≤ τ10.2.1 34 j ∧ τ10.2.1 34 j ≤ 20000 := fun j => hT.2 34 j
    have A35 : ∀ j, 0 ≤ τ10.2.1 35 j ∧ τ10.2.1 35 j ≤ 1499 := fun j => hT.2 35 j
    have A36 : ∀ j, 0 ≤ τ10.2.1 36 j ∧ τ10.2.1 36 j ≤ 20000 := fun j => hT.2 36 j
    have A37 : ∀ j, 0 ≤ τ10.2.1 37 j ∧ τ10.2.1 37 j ≤ 19999 := fun j => hT.2 37 j
    have A39 : ∀ j, 0 ≤ τ10.2.1 39 j ∧ τ10.2.1 39 j ≤ 1060 := fun j => hT.2 39 j
    have A40 : ∀ j, 0 ≤ τ10.2.1 40 j ∧ τ10.2.1 40 j ≤ 42000 := fun j => hT.2 40 j
    have A41 : ∀ j, (-2) ≤ τ10.2.1 41 j ∧ τ10.2.1 41 j ≤ 1000 := fun j => hT.2 41 j
    have A42 : ∀ j, (-2147483648) ≤ τ10.2.1 42 j ∧ τ10.2.1 42 j ≤ 2147483647 := fun j => hT.2 42 j
    have A43 : ∀ j, 0 ≤ τ10.2.1 43 j ∧ τ10.2.1 43 j ≤ 1060 := fun j => hT.2 43 j
    have A44 : ∀ j, 0 ≤ τ10.2.1 44 j ∧ τ10.2.1 44 j ≤ 42000 := fun j => hT.2 44 j
    have A45 : ∀ j, 0 ≤ τ10.2.1 45 j ∧ τ10.2.1 45 j ≤ 1000 := fun j => hT.2 45 j
    have A52 : ∀ j, 0 ≤ τ10.2.1 52 j ∧ τ10.2.1 52 j ≤ 19999 := fun j => hT.2 52 j
    have A53 : ∀ j, 0 ≤ τ10.2.1 53 j ∧ τ10.2.1 53 j ≤ 19999 := fun j => hT.2 53 j
    have v3 : 0 ≤ τ10.1 3 ∧ τ10.1 3 ≤ 2500 := hT.1 3
    have v5 : 0 ≤ τ10.1 5 ∧ τ10.1 5 ≤ 1000 := hT.1 5
    have v6 : 0 ≤ τ10.1 6 ∧ τ10.1 6 ≤ 30000 := hT.1 6
    have v7 : 0 ≤ τ10.1 7 ∧ τ10.1 7 ≤ 1500 := hT.1 7
    have v13 : 0 ≤ τ10.1 13 ∧ τ10.1 13 ≤ 90000 := hT.1 13
    have v14 : 0 ≤ τ10.1 14 ∧ τ10.1 14 ≤ 20000 := hT.1 14
    have v15 : 0 ≤ τ10.1 15 ∧ τ10.1 15 ≤ 20000 := hT.1 15
    have v16 : 0 ≤ τ10.1 16 ∧ τ10.1 16 ≤ 20000 := hT.1 16
    have v17 : 0 ≤ τ10.1 17 ∧ τ10.1 17 ≤ 42000 := hT.1 17
    have v18 : 0 ≤ τ10.1 18 ∧ τ10.1 18 ≤ 42000 := hT.1 18
    have v19 : 0 ≤ τ10.1 19 ∧ τ10.1 19 ≤ 1000 := hT.1 19
    have v23 : 0 ≤ τ10.1 23 ∧ τ10.1 23 ≤ 300 := hT.1 23
    have v30 : 0 ≤ τ10.1 30 ∧ τ10.1 30 ≤ 200 := hT.1 30
    have v31 : (-2147483648) ≤ τ10.1 31 ∧ τ10.1 31 ≤ 2147483647 := hT.1 31
    have v32 : 0 ≤ τ10.1 32 ∧ τ10.1 32 ≤ 20000 := hT.1 32
    have a36_15 : 0 ≤ τ10.2.1 36 (τ10.1 15) ∧ τ10.2.1 36 (τ10.1 15) ≤ 20000 := hT.2 36 _
    exact l_166 _ _ _ hT ag (show τ10.1 3 = σ.1 3 from by first | exact W3 | omega) (show τ10.1 5 = σ.1 5 from by first | exact W5 | omega) (show τ10.1 6 = σ.1 6 from by first | exact W6 | omega) (show τ10.1 7 = σ.1 7 from by first | exact W7 | omega) (show τ10.1 13 = σ.1 13 from by first | exact W13 | omega) (show τ10.1 14 = σ.1 14 from by first | exact W14 | omega) (show τ10.1 15 = σ.1 15 from by first | exact W15 | omega) (show τ10.1 16 = σ.1 16 from by first | exact W16 | omega) G10 G13 G14 G15 G16 G27 G28 G29 G30 G31 G32 G33 G34 (show x2 = σ.2.1 36 ((σ.1 15) + (σ.1 32)) from by (first | omega | (simp only [st_s] <;> omega) | assumption | omega | fail)) (show 0 ≤ 0 ∧ 0 ≤ (σ.1 30) ∧ 0 ≤ 60 from by (first | omega | (simp only [st_s] <;> omega) | assumption | omega | fail)) (show 0 = (if 2 ≤ σ.2.1 13 (n1 % 65536) then σ.2.1 28 (n1 % 65536) else 0) from by (first | (rw [if_pos i82_4]; omega) | (rw [if_neg (by rw [← e_x4]; omega)]) | fail)) (show ∀ k : Int, 0 ≤ k → k < 0 → τ10.2.1 37 (x2 + k) = σ.2.1 52 ((σ.1 30) - 0 + k) from by (intro k k0 k1; first | (exfalso; omega) | (rw [g37_τ22, g37_τ18, g37_τ14]; exact i82_8 k k0 (by omega)))) (show J_rb (τ10.1 7) (τ10.1 15) (τ10.1 32) (τ10.2.1 13) (τ10.2.1 28) (τ10.2.1 35) (τ10.2.1 36) (τ10.2.1 37) from RB) (show j_eq (σ.2.1 36 (σ.1 15)) (σ.2.1 37) (τ10.2.1 37) from CH) (show J_bp (τ10.2.1 44) (τ10.2.1 45) from BP) (show J_bt (τ10.1 19) (τ10.2.1 43) from by (first | exact q8_2 | exact q20_2 (by omega) | fail)) (show (τ10.1 31) = (σ.1 31) from by (first | omega | (simp only [st_s] <;> omega) | assumption | omega | fail)) (show (τ10.1 17) = (σ.1 17) ∧ (τ10.1 18) = (σ.1 18) ∧ (τ10.1 32) = (σ.1 32) ∧ (τ10.1 30) = (σ.1 30) ∧ (τ10.1 23) = (σ.1 23) from by (first | omega | (simp only [st_s] <;> omega) | assumption | omega | fail)) (show τ10.2.1 39 = σ.2.1 39 from by (first | rfl | exact g39_τ10 | exact i82_12 | (rw [g39_τ22, g39_τ18, g39_τ14]; exact i82_12) | fail)) (show τ10.2.1 40 = σ.2.1 40 from by (first | rfl | exact g40_τ10 | exact i82_13 | (rw [g40_τ22, g40_τ18, g40_τ14]; exact i82_13) | fail)) (show τ10.2.1 41 = σ.2.1 41 from by (first | rfl | exact g41_τ10 | exact i82_14 | (rw [g41_τ22, g41_τ18, g41_τ14]; exact i82_14) | fail)) (show τ10.2.1 42 = σ.2.1 42 from by (first | rfl | exact g42_τ10 | exact i82_15 | (rw [g42_τ22, g42_τ18, g42_τ14]; exact i82_15) | fail)) (show τ10.2.1 52 = σ.2.1 52 from by (first | rfl | exact g52_τ10 | exact i82_16 | (rw [g52_τ22, g52_τ18, g52_τ14]; exact i82_16) | fail)) (show τ10.2.1 53 = σ.2.1 53 from by (first | rfl | exact g53_τ10 | exact i82_17 | (rw [g53_τ22, g53_τ18, g53_τ14]; exact i82_17) | fail)) (show τ10.2.1 35 = σ.2.1 35 from by (first | rfl | exact g35_τ10 | exact i82_18 | (rw [g35_τ22, g35_τ18, g35_τ14]; exact i82_18) | fail)) (show τ10.2.1 36 = σ.2.1 36 from by (first | rfl | exact g36_τ10 | exact i82_19 | (rw [g36_τ22, g36_τ18, g36_τ14]; exact i82_19) | fail))
set_option maxHeartbeats 4000000 in
theorem K_X10_goThrough {n1 : Int} {σ : S0} (hT : c_T σ) (p1 : 0 ≤ n1) (p2 : n1 ≤ 60000) (p3 : (σ.1 24) = (σ.1 7)) (p4 : (σ.1 7) < 1500) (p5 : J_sp (σ.1 24) (σ.1 21) (σ.1 23) (σ.1 22) (σ.2.1 49) (σ.2.1 51)) (p6 : (σ.1 16) + (σ.1 21) ≤ 20000) (p7 : J_all (σ.1 7) (σ.1 6) (σ.1 13) (σ.1 14) (σ.1 15) (σ.2.1 13) (σ.2.1 14) (σ.2.1 15) (σ.2.1 16) (σ.2.1 10) (σ.2.1 27) (σ.2.1 28) (σ.2.1 29) (σ.2.1 30) (σ.2.1 31) (σ.2.1 32) (σ.2.1 33) (σ.2.1 34) (σ.2.1 35) (σ.2.1 36) (σ.2.1 37)) (p8 : J_bp (σ.2.1 44) (σ.2.1 45)) (p9 : J_vs (σ.1 6) (σ.1 5) (σ.2.1 15)) (p10 : (σ.1 15) ≤ (σ.1 16)) (p11 : σ.2.1 36 (σ.1 15) ≤ (σ.1 16)) : W_X10_goThrough n1 σ (fun (x : Int) (τ : S0) => (c_T τ) ∧ (0 ≤ x ∧ x ≤ 19) ∧ (J_bp (τ.2.1 44) (τ.2.1 45)) ∧ (j_eq (σ.2.1 36 (σ.1 15)) (σ.2.1 37) (τ.2.1 37)) ∧ (x = 0 → J_sp (τ.1 24) (τ.1 21) (τ.1 23) (τ.1 22) (τ.2.1 49) (τ.2.1 51)) ∧ (x = 0 → J_r (σ.1 7) (τ.1 15) (τ.2.1 13) (τ.2.1 28) (τ.2.1 33) (τ.2.1 34) (τ.2.1 35) (τ.2.1 36) (τ.2.1 37)) ∧ (x = 0 → ∀ r s : Int, (σ.1 15) ≤ r → r ≤ s → s ≤ (τ.1 15) → τ.2.1 36 r ≤ τ.2.1 36 s) ∧ (x = 0 → (τ.1 15) ≤ (σ.1 16) + (σ.1 21) ∧ τ.2.1 36 (τ.1 15) ≤ (σ.1 16) + (σ.1 21)) ∧ (¬ x = 0 → (τ.1 15) = (σ.1 15)) ∧ (c_ag σ τ)) := by
  have A10 : ∀ j, (-1) ≤ σ.2.1 10 j ∧ σ.2.1 10 j ≤ 99 := fun j => hT.2 10 j
  have A13 : ∀ j, 0 ≤ σ.2.1 13 j ∧ σ.2.1 13 j ≤ 4 := fun j => hT.2 13 j
  have A14 : ∀ j, 0 ≤ σ.2.1 14 j ∧ σ.2.1 14 j ≤ 30000 := fun j => hT.2 14 j
  have A15 : ∀ j, 0 ≤ σ.2.1 15 j ∧ σ.2.1 15 j ≤ 999 := fun j => hT.2 15 j
  have A16 : ∀ j, (-1) ≤ σ.2.1 16 j ∧ σ.2.1 16 j ≤ 1499 := fun j => hT.2 16 j
  have A27 : ∀ j, 0 ≤ σ.2.1 27 j ∧ σ.2.1 27 j ≤ 90000 := fun j => hT.2 27 j
  have A28 : ∀ j, 0 ≤ σ.2.1 28 j ∧ σ.2.1 28 j ≤ 60 := fun j => hT.2 28 j
  have A29 : ∀ j, 0 ≤ σ.2.1 29 j ∧ σ.2.1 29 j ≤ 1499 := fun j => hT.2 29 j
  have A30 : ∀ j, 0 ≤ σ.2.1 30 j ∧ σ.2.1 30 j ≤ 20000 := fun j => hT.2 30 j
  have A31 : ∀ j, 0 ≤ σ.2.1 31 j ∧ σ.2.1 31 j ≤ 20000 := fun j => hT.2 31 j
  have A32 : ∀ j, 0 ≤ σ.2.1 32 j ∧ σ.2.1 32 j ≤ 999999 := fun j => hT.2 32 j
  have A33 : ∀ j, 0 ≤ σ.2.1 33 j ∧ σ.2.1 33 j ≤ 20000 := fun j => hT.2 33 j
  have A34 : ∀ j, 0 ≤ σ.2.1 34 j ∧ σ.2.1 34 j ≤ 20000 := fun j => hT.2 34 j
  have A35 : ∀ j, 0 ≤ σ.2.1 35 j ∧ σ.2.1 35 j ≤ 1499 := fun j => hT.2 35 j
  have A36 : ∀ j, 0 ≤ σ.2.1 36 j ∧ σ.2.1 36 j ≤ 20000 := fun j => hT.2 36 j
  have A37 : ∀ j, 0 ≤ σ.2.1 37 j ∧ σ.2.1 37 j ≤ 19999 := fun j => hT.2 37 j
  have A39 : ∀ j, 0 ≤ σ.2.1 39 j ∧ σ.2.1 39 j ≤ 1060 := fun j => hT.2 39 j
  have A40 : ∀ j, 0 ≤ σ.2.1 40 j ∧ σ.2.1 40 j ≤ 42000 := fun j => hT.2 40 j
  have A41 : ∀ j, (-2) ≤ σ.2.1 41 j ∧ σ.2.1 41 j ≤ 1000 := fun j => hT.2 41 j
  have A42 : ∀ j, (-2147483648) ≤ σ.2.1 42 j ∧ σ.2.1 42 j ≤ 2147483647 := fun j => hT.2 42 j
  have A44 : ∀ j, 0 ≤ σ.2.1 44 j ∧ σ.2.1 44 j ≤ 42000 := fun j => hT.2 44 j
  have A45 : ∀ j, 0 ≤ σ.2.1 45 j ∧ σ.2.1 45 j ≤ 1000 := fun j => hT.2 45 j
  have A49 : ∀ j, (-300) ≤ σ.2.1 49 j ∧ σ.2.1 49 j ≤ 67035 := fun j => hT.2 49 j
  have A51 : ∀ j, 0 ≤ σ.2.1 51 j ∧ σ.2.1 51 j ≤ 1499 := fun j => hT.2 51 j
  have A52 : ∀ j, 0 ≤ σ.2.1 52 j ∧ σ.2.1 52 j ≤ 19999 := fun j => hT.2 52 j
  have A53 : ∀ j, 0 ≤ σ.2.1 53 j ∧ σ.2.1 53 j ≤ 19999 := fun j => hT.2 53 j
  have v3 : 0 ≤ σ.1 3 ∧ σ.1 3 ≤ 2500 := hT.1 3
  have v5 : 0 ≤ σ.1 5 ∧ σ.1 5 ≤ 1000 := hT.1 5
  have v6 : 0 ≤ σ.1 6 ∧ σ.1 6 ≤ 30000 := hT.1 6
  have v7 : 0 ≤ σ.1 7 ∧ σ.1 7 ≤ 1500 := hT.1 7
  have v13 : 0 ≤ σ.1 13 ∧ σ.1 13 ≤ 90000 := hT.1 13
  have v14 : 0 ≤ σ.1 14 ∧ σ.1 14 ≤ 20000 := hT.1 14
  have v15 : 0 ≤ σ.1 15 ∧ σ.1 15 ≤ 20000 := hT.1 15
  have v16 : 0 ≤ σ.1 16 ∧ σ.1 16 ≤ 20000 := hT.1 16
  have v17 : 0 ≤ σ.1 17 ∧ σ.1 17 ≤ 42000 := hT.1 17
  have v18 : 0 ≤ σ.1 18 ∧ σ.1 18 ≤ 42000 := hT.1 18
  have v21 : 0 ≤ σ.1 21 ∧ σ.1 21 ≤ 20000 := hT.1 21
  have v22 : 0 ≤ σ.1 22 ∧ σ.1 22 ≤ 300 := hT.1 22
  have v23 : 0 ≤ σ.1 23 ∧ σ.1 23 ≤ 300 := hT.1 23
  have v24 : 0 ≤ σ.1 24 ∧ σ.1 24 ≤ 1499 := hT.1 24
  have v30 : 0 ≤ σ.1 30 ∧ σ.1 30 ≤ 200 := hT.1 30
  have v31 : (-2147483648) ≤ σ.1 31 ∧ σ.1 31 ≤ 2147483647 := hT.1 31
  have v32 : 0 ≤ σ.1 32 ∧ σ.1 32 ≤ 20000 := hT.1 32
  have a36_15 : 0 ≤ σ.2.1 36 (σ.1 15) ∧ σ.2.1 36 (σ.1 15) ≤ 20000 := hT.2 36 _
  have W3 : σ.1 3 = σ.1 3 := rfl
  have W5 : σ.1 5 = σ.1 5 := rfl
  have W6 : σ.1 6 = σ.1 6 := rfl
  have W7 : σ.1 7 = σ.1 7 := rfl
  have W13 : σ.1 13 = σ.1 13 := rfl
  have W14 : σ.1 14 = σ.1 14 := rfl
  have W16 : σ.1 16 = σ.1 16 := rfl
  have W21 : σ.1 21 = σ.1 21 := rfl
  have W22 : σ.1 22 = σ.1 22 := rfl
  have W24 : σ.1 24 = σ.1 24 := rfl
  have G10 : σ.2.1 10 = σ.2.1 10 := rfl
  have G13 : σ.2.1 13 = σ.2.1 13 := rfl
  have G14 : σ.2.1 14 = σ.2.1 14 := rfl
  have G15 : σ.2.1 15 = σ.2.1 15 := rfl
  have G16 : σ.2.1 16 = σ.2.1 16 := rfl
  have G27 : σ.2.1 27 = σ.2.1 27 := rfl
  have G28 : σ.2.1 28 = σ.2.1 28 := rfl
  have G29 : σ.2.1 29 = σ.2.1 29 := rfl
  have G30 : σ.2.1 30 = σ.2.1 30 := rfl
  have G31 : σ.2.1 31 = σ.2.1 31 := rfl
  have G32 : σ.2.1 32 = σ.2.1 32 := rfl
  have G49 : σ.2.1 49 = σ.2.1 49 := rfl
  have G51 : σ.2.1 51 = σ.2.1 51 := rfl
  have ag : c_ag σ σ := ag_0 σ
  intro P29 P86 h29 h86
  have hT0 := hT
  have CH := j_eq0 (σ.2.1 36 (σ.1 15)) (σ.2.1 37)
  have s52 := A52
  have s53 := A53
  have s28 := fun j => (A28 j).1
  have spp := p5
  have TX : J_vs (σ.1 6) (σ.1 5) (σ.2.1 15) := p9
  have CJ : J_all (σ.1 7) (σ.1 6) (σ.1 13) (σ.1 14) (σ.1 15) (σ.2.1 13) (σ.2.1 14) (σ.2.1 15) (σ.2.1 16) (σ.2.1 10) (σ.2.1 27) (σ.2.1 28) (σ.2.1 29) (σ.2.1 30) (σ.2.1 31) (σ.2.1 32) (σ.2.1 33) (σ.2.1 34) (σ.2.1 35) (σ.2.1 36) (σ.2.1 37) := p7
  have BP : J_bp (σ.2.1 44) (σ.2.1 45) := p8
  have SP : J_sp (σ.1 24) (σ.1 21) (σ.1 23) (σ.1 22) (σ.2.1 49) (σ.2.1 51) := p5
  have BP_0 := BP
  have CH_0 := CH
  have CJ_0 := CJ
  have SP_0 := SP
  have TX_0 := TX
  have l_29 : ∀ (m_29 : Nat) (u2_29 : Int) (τ_29 : S0), 20001 - u2_29 < (m_29 : Int) → (c_T τ_29) → (c_ag σ τ_29) → (τ_29.1 3 = σ.1 3) → (τ_29.1 5 = σ.1 5) → (τ_29.1 6 = σ.1 6) → (τ_29.1 7 = σ.1 7) → (τ_29.1 13 = σ.1 13) → (τ_29.1 14 = σ.1 14) → (τ_29.1 16 = σ.1 16) → (τ_29.1 21 = σ.1 21) → (τ_29.1 22 = σ.1 22) → (τ_29.1 24 = σ.1 24) → (τ_29.2.1 10 = σ.2.1 10) → (τ_29.2.1 13 = σ.2.1 13) → (τ_29.2.1 14 = σ.2.1 14) → (τ_29.2.1 15 = σ.2.1 15) → (τ_29.2.1 16 = σ.2.1 16) → (τ_29.2.1 27 = σ.2.1 27) → (τ_29.2.1 28 = σ.2.1 28) → (τ_29.2.1 29 = σ.2.1 29) → (τ_29.2.1 30 = σ.2.1 30) → (τ_29.2.1 31 = σ.2.1 31) → (τ_29.2.1 32 = σ.2.1 32) → (τ_29.2.1 49 = σ.2.1 49) → (τ_29.2.1 51 = σ.2.1 51) → (0 ≤ u2_29) → (u2_29 ≤ (σ.1 21)) → (J_dt (τ_29.1 17) (τ_29.1 18) (τ_29.1 32) (τ_29.2.1 39) (τ_29.2.1 40) (τ_29.2.1 41)) → (J_pl (τ_29.1 17) (τ_29.1 31) (τ_29.1 32) (τ_29.1 30) (τ_29.2.1 42) (τ_29.2.1 41) (τ_29.2.1 52)) → (J_sv (τ_29.1 32) (τ_29.1 23) (τ_29.2.1 42) (τ_29.2.1 53)) → (J_rb (τ_29.1 7) (τ_29.1 15) (τ_29.1 32) (τ_29.2.1 13) (τ_29.2.1 28) (τ_29.2.1 35) (τ_29.2.1 36) (τ_29.2.1 37)) → (J_bp (τ_29.2.1 44) (τ_29.2.1 45)) → (J_all (τ_29.1 7) (τ_29.1 6) (τ_29.1 13) (τ_29.1 14) (τ_29.1 15) (τ_29.2.1 13) (τ_29.2.1 14) (τ_29.2.1 15) (τ_29.2.1 16) (τ_29.2.1 10) (τ_29.2.1 27) (τ_29.2.1 28) (τ_29.2.1 29) (τ_29.2.1 30) (τ_29.2.1 31) (τ_29.2.1 32) (τ_29.2.1 33) (τ_29.2.1 34) (τ_29.2.1 35) (τ_29.2.1 36) (τ_29.2.1 37)) → (j_eq (σ.2.1 36 (σ.1 15)) (σ.2.1 37) (τ_29.2.1 37)) → (0 ≤ (τ_29.1 31) ∧ (τ_29.1 31) ≤ 40000) → ((τ_29.1 32) ≤ u2_29) → (τ_29.2.1 36 ((τ_29.1 15) + (τ_29.1 32)) + (τ_29.1 30) ≤ (σ.1 16) + u2_29) → ((τ_29.1 23) = sv (σ.2.1 49) u2_29) → ((τ_29.1 15) = (σ.1 15)) → P29 n1 u2_29 τ_29 := by
    intro m_29
    induction m_29 with
    | zero =>
      intro u2_29 τ_29 hm hT ag W3 W5 W6 W7 W13 W14 W16 W21 W22 W24 G10 G13 G14 G15 G16 G27 G28 G29 G30 G31 G32 G49 G51 i29_1 i29_2 i29_3 i29_4 i29_5 i29_6 i29_7 i29_8 i29_9 i29_10 i29_11 i29_12 i29_13 i29_14
      have A10 : ∀ j, (-1) ≤ τ_29.2.1 10 j ∧ τ_29.2.1 10 j ≤ 99 := fun j => hT.2 10 j
      have A13 : ∀ j, 0 ≤ τ_29.2.1 13 j ∧ τ_29.2.1 13 j ≤ 4 := fun j => hT.2 13 j
      have A14 : ∀ j, 0 ≤ τ_29.2.1 14 j ∧ τ_29.2.1 14 j ≤ 30000 := fun j => hT.2 14 j
      have A15 : ∀ j, 0 ≤ τ_29.2.1 15 j ∧ τ_29.2.1 15 j ≤ 999 := fun j => hT.2 15 j
      have A16 : ∀ j, (-1) ≤ τ_29.2.1 16 j ∧ τ_29.2.1 16 j ≤ 1499 := fun j => hT.2 16 j
      have A27 : ∀ j, 0 ≤ τ_29.2.1 27 j ∧ τ_29.2.1 27 j ≤ 90000 := fun j => hT.2 27 j
      have A28 : ∀ j, 0 ≤ τ_29.2.1 28 j ∧ τ_29.2.1 28 j ≤ 60 := fun j => hT.2 28 j
      have A29 : ∀ j, 0 ≤ τ_29.2.1 29 j ∧ τ_29.2.1 29 j ≤ 1499 := fun j => hT.2 29 j
      have A30 : ∀ j, 0 ≤ τ_29.2.1 30 j ∧ τ_29.2.1 30 j ≤ 20000 := fun j => hT.2 30 j
      have A31 : ∀ j, 0 ≤ τ_29.2.1 31 j ∧ τ_29.2.1 31 j ≤ 20000 := fun j => hT.2 31 j
      have A32 : ∀ j, 0 ≤ τ_29.2.1 32 j ∧ τ_29.2.1 32 j ≤ 999999 := fun j => hT.2 32 j
      have A33 : ∀ j, 0 ≤ τ_29.2.1 33 j ∧ τ_29.2.1 33 j ≤ 20000 := fun j => hT.2 33 j
      have A34 : ∀ j, 0 ≤ τ_29.2.1 34 j ∧ τ_29.2.1 34 j ≤ 20000 := fun j => hT.2 34 j
      have A35 : ∀ j, 0 ≤ τ_29.2.1 35 j ∧ τ_29.2.1 35 j ≤ 1499 := fun j => hT.2 35 j
      have A36 : ∀ j, 0 ≤ τ_29.2.1 36 j ∧ τ_29.2.1 36 j ≤ 20000 := fun j => hT.2 36 j
      have A37 : ∀ j, 0 ≤ τ_29.2.1 37 j ∧ τ_29.2.1 37 j ≤ 19999 := fun j => hT.2 37 j
      have A39 : ∀ j, 0 ≤ τ_29.2.1 39 j ∧ τ_29.2.1 39 j ≤ 1060 := fun j => hT.2 39 j
      have A40 : ∀ j, 0 ≤ τ_29.2.1 40 j ∧ τ_29.2.1 40 j ≤ 42000 := fun j => hT.2 40 j
      have A41 : ∀ j, (-2) ≤ τ_29.2.1 41 j ∧ τ_29.2.1 41 j ≤ 1000 := fun j => hT.2 41 j
      have A42 : ∀ j, (-2147483648) ≤ τ_29.2.1 42 j ∧ τ_29.2.1 42 j ≤ 2147483647 := fun j => hT.2 42 j
      have A44 : ∀ j, 0 ≤ τ_29.2.1 44 j ∧ τ_29.2.1 44 j ≤ 42000 := fun j => hT.2 44 j
      have A45 : ∀ j, 0 ≤ τ_29.2.1 45 j ∧ τ_29.2.1 45 j ≤ 1000 := fun j => hT.2 45 j
      have A49 : ∀ j, (-300) ≤ τ_29.2.1 49 j ∧ τ_29.2.1 49 j ≤ 67035 := fun j => hT.2 49 j
      have A51 : ∀ j, 0 ≤ τ_29.2.1 51 j ∧ τ_29.2.1 51 j ≤ 1499 := fun j => hT.2 51 j
      have A52 : ∀ j, 0 ≤ τ_29.2.1 52 j ∧ τ_29.2.1 52 j ≤ 19999 := fun j => hT.2 52 j
      have A53 : ∀ j, 0 ≤ τ_29.2.1 53 j ∧ τ_29.2.1 53 j ≤ 19999 := fun j => hT.2 53 j
      have v3 : 0 ≤ τ_29.1 3 ∧ τ_29.1 3 ≤ 2500 := hT.1 3
      have v5 : 0 ≤ τ_29.1 5 ∧ τ_29.1 5 ≤ 1000 := hT.1 5
      have v6 : 0 ≤ τ_29.1 6 ∧ τ_29.1 6 ≤ 30000 := hT.1 6
      have v7 : 0 ≤ τ_29.1 7 ∧ τ_29.1 7 ≤ 1500 := hT.1 7
      have v13 : 0 ≤ τ_29.1 13 ∧ τ_29.1 13 ≤ 90000 := hT.1 13
      have v14 : 0 ≤ τ_29.1 14 ∧ τ_29.1 14 ≤ 20000 := hT.1 14
      have v15 : 0 ≤ τ_29.1 15 ∧ τ_29.1 15 ≤ 20000 := hT.1 15
      have v16 : 0 ≤ τ_29.1 16 ∧ τ_29.1 16 ≤ 20000 := hT.1 16
      have v17 : 0 ≤ τ_29.1 17 ∧ τ_29.1 17 ≤ 42000 := hT.1 17
      have v18 : 0 ≤ τ_29.1 18 ∧ τ_29.1 18 ≤ 42000 := hT.1 18
      have v21 : 0 ≤ τ_29.1 21 ∧ τ_29.1 21 ≤ 20000 := hT.1 21
      have v22 : 0 ≤ τ_29.1 22 ∧ τ_29.1 22 ≤ 300 := hT.1 22
      have v23 : 0 ≤ τ_29.1 23 ∧ τ_29.1 23 ≤ 300 := hT.1 23
      have v24 : 0 ≤ τ_29.1 24 ∧ τ_29.1 24 ≤ 1499 := hT.1 24
      have v30 : 0 ≤ τ_29.1 30 ∧ τ_29.1 30 ≤ 200 := hT.1 30
      have v31 : (-2147483648) ≤ τ_29.1 31 ∧ τ_29.1 31 ≤ 2147483647 := hT.1 31
      have v32 : 0 ≤ τ_29.1 32 ∧ τ_29.1 32 ≤ 20000 := hT.1 32
      have a36_15 : 0 ≤ τ_29.2.1 36 (τ_29.1 15) ∧ τ_29.2.1 36 (τ_29.1 15) ≤ 20000 := hT.2 36 _
      have av15 : σ.1 15 ≤ τ_29.1 15 := ag.1 15 (by decide)
      exfalso; (first | omega | (simp only [st_s] <;> omega) | assumption | omega | fail)
    | succ m_29 ih_29 =>
      intro u2_29 τ_29 hm_29 hT ag W3 W5 W6 W7 W13 W14 W16 W21 W22 W24 G10 G13 G14 G15 G16 G27 G28 G29 G30 G31 G32 G49 G51 i29_1 i29_2 i29_3 i29_4 i29_5 i29_6 i29_7 i29_8 i29_9 i29_10 i29_11 i29_12 i29_13 i29_14
      have A10 : ∀ j, (-1) ≤ τ_29.2.1 10 j ∧ τ_29.2.1 10 j ≤ 99 := fun j => hT.2 10 j
      have A13 : ∀ j, 0 ≤ τ_29.2.1 13 j ∧ τ_29.2.1 13 j ≤ 4 := fun j => hT.2 13 j
      have A14 : ∀ j, 0 ≤ τ_29.2.1 14 j ∧ τ_29.2.1 14 j ≤ 30000 := fun j => hT.2 14 j
      have A15 : ∀ j, 0 ≤ τ_29.2.1 15 j ∧ τ_29.2.1 15 j ≤ 999 := fun j => hT.2 15 j
      have A16 : ∀ j, (-1) ≤ τ_29.2.1 16 j ∧ τ_29.2.1 16 j ≤ 1499 := fun j => hT.2 16 j
      have A27 : ∀ j, 0 ≤ τ_29.2.1 27 j ∧ τ_29.2.1 27 j ≤ 90000 := fun j => hT.2 27 j
      have A28 : ∀ j, 0 ≤ τ_29.2.1 28 j ∧ τ_29.2.1 28 j ≤ 60 := fun j => hT.2 28 j
      have A29 : ∀ j, 0 ≤ τ_29.2.1 29 j ∧ τ_29.2.1 29 j ≤ 1499 := fun j => hT.2 29 j
      have A30 : ∀ j, 0 ≤ τ_29.2.1 30 j ∧ τ_29.2.1 30 j ≤ 20000 := fun j => hT.2 30 j
      have A31 : ∀ j, 0 ≤ τ_29.2.1 31 j ∧ τ_29.2.1 31 j ≤ 20000 := fun j => hT.2 31 j
      have A32 : ∀ j, 0 ≤ τ_29.2.1 32 j ∧ τ_29.2.1 32 j ≤ 999999 := fun j => hT.2 32 j
      have A33 : ∀ j, 0 ≤ τ_29.2.1 33 j ∧ τ_29.2.1 33 j ≤ 20000 := fun j => hT.2 33 j
      have A34 : ∀ j, 0 ≤ τ_29.2.1 34 j ∧ τ_29.2.1 34 j ≤ 20000 := fun j => hT.2 34 j
      have A35 : ∀ j, 0 ≤ τ_29.2.1 35 j ∧ τ_29.2.1 35 j ≤ 1499 := fun j => hT.2 35 j
      have A36 : ∀ j, 0 ≤ τ_29.2.1 36 j ∧ τ_29.2.1 36 j ≤ 20000 := fun j => hT.2 36 j
      have A37 : ∀ j, 0 ≤ τ_29.2.1 37 j ∧ τ_29.2.1 37 j ≤ 19999 := fun j => hT.2 37 j
      have A39 : ∀ j, 0 ≤ τ_29.2.1 39 j ∧ τ_29.2.1 39 j ≤ 1060 := fun j => hT.2 39 j
      have A40 : ∀ j, 0 ≤ τ_29.2.1 40 j ∧ τ_29.2.1 40 j ≤ 42000 := fun j => hT.2 40 j
      have A41 : ∀ j, (-2) ≤ τ_29.2.1 41 j ∧ τ_29.2.1 41 j ≤ 1000 := fun j => hT.2 41 j
      have A42 : ∀ j, (-2147483648) ≤ τ_29.2.1 42 j ∧ τ_29.2.1 42 j ≤ 2147483647 := fun j => hT.2 42 j
      have A44 : ∀ j, 0 ≤ τ_29.2.1 44 j ∧ τ_29.2.1 44 j ≤ 42000 := fun j => hT.2 44 j
      have A45 : ∀ j, 0 ≤ τ_29.2.1 45 j ∧ τ_29.2.1 45 j ≤ 1000 := fun j => hT.2 45 j
      have A49 : ∀ j, (-300) ≤ τ_29.2.1 49 j ∧ τ_29.2.1 49 j ≤ 67035 := fun j => hT.2 49 j
      have A51 : ∀ j, 0 ≤ τ_29.2.1 51 j ∧ τ_29.2.1 51 j ≤ 1499 := fun j => hT.2 51 j
      have A52 : ∀ j, 0 ≤ τ_29.2.1 52 j ∧ τ_29.2.1 52 j ≤ 19999 := fun j => hT.2 52 j
      have A53 : ∀ j, 0 ≤ τ_29.2.1 53 j ∧ τ_29.2.1 53 j ≤ 19999 := fun j => hT.2 53 j
      have v3 : 0 ≤ τ_29.1 3 ∧ τ_29.1 3 ≤ 2500 := hT.1 3
      have v5 : 0 ≤ τ_29.1 5 ∧ τ_29.1 5 ≤ 1000 := hT.1 5
      have v6 : 0 ≤ τ_29.1 6 ∧ τ_29.1 6 ≤ 30000 := hT.1 6
      have v7 : 0 ≤ τ_29.1 7 ∧ τ_29.1 7 ≤ 1500 := hT.1 7
      have v13 : 0 ≤ τ_29.1 13 ∧ τ_29.1 13 ≤ 90000 := hT.1 13
      have v14 : 0 ≤ τ_29.1 14 ∧ τ_29.1 14 ≤ 20000 := hT.1 14
      have v15 : 0 ≤ τ_29.1 15 ∧ τ_29.1 15 ≤ 20000 := hT.1 15
      have v16 : 0 ≤ τ_29.1 16 ∧ τ_29.1 16 ≤ 20000 := hT.1 16
      have v17 : 0 ≤ τ_29.1 17 ∧ τ_29.1 17 ≤ 42000 := hT.1 17
      have v18 : 0 ≤ τ_29.1 18 ∧ τ_29.1 18 ≤ 42000 := hT.1 18
      have v21 : 0 ≤ τ_29.1 21 ∧ τ_29.1 21 ≤ 20000 := hT.1 21
      have v22 : 0 ≤ τ_29.1 22 ∧ τ_29.1 22 ≤ 300 := hT.1 22
      have v23 : 0 ≤ τ_29.1 23 ∧ τ_29.1 23 ≤ 300 := hT.1 23
      have v24 : 0 ≤ τ_29.1 24 ∧ τ_29.1 24 ≤ 1499 := hT.1 24
      have v30 : 0 ≤ τ_29.1 30 ∧ τ_29.1 30 ≤ 200 := hT.1 30
      have v31 : (-2147483648) ≤ τ_29.1 31 ∧ τ_29.1 31 ≤ 2147483647 := hT.1 31
      have v32 : 0 ≤ τ_29.1 32 ∧ τ_29.1 32 ≤ 20000 := hT.1 32
      have a36_15 : 0 ≤ τ_29.2.1 36 (τ_29.1 15) ∧ τ_29.2.1 36 (τ_29.1 15) ≤ 20000 := hT.2 36 _
      have av15 : σ.1 15 ≤ τ_29.1 15 := ag.1 15 (by decide)
      have TX : J_vs (τ_29.1 6) (τ_29.1 5) (τ_29.2.1 15) := by rw [show (J_vs (τ_29.1 6) (τ_29.1 5) (τ_29.2.1 15)) = (J_vs (σ.1 6) (σ.1 5) (σ.2.1 15)) from by rw [W5, W6, G15]]; exact TX_0
      have CJ : J_all (τ_29.1 7) (τ_29.1 6) (τ_29.1 13) (τ_29.1 14) (τ_29.1 15) (τ_29.2.1 13) (τ_29.2.1 14) (τ_29.2.1 15) (τ_29.2.1 16) (τ_29.2.1 10) (τ_29.2.1 27) (τ_29.2.1 28) (τ_29.2.1 29) (τ_29.2.1 30) (τ_29.2.1 31) (τ_29.2.1 32) (τ_29.2.1 33) (τ_29.2.1 34) (τ_29.2.1 35) (τ_29.2.1 36) (τ_29.2.1 37) := i29_8
      have BP : J_bp (τ_29.2.1 44) (τ_29.2.1 45) := i29_7
      have DT : J_dt (τ_29.1 17) (τ_29.1 18) (τ_29.1 32) (τ_29.2.1 39) (τ_29.2.1 40) (τ_29.2.1 41) := i29_3
      have PL : J_pl (τ_29.1 17) (τ_29.1 31) (τ_29.1 32) (τ_29.1 30) (τ_29.2.1 42) (τ_29.2.1 41) (τ_29.2.1 52) := i29_4
      have SV : J_sv (τ_29.1 32) (τ_29.1 23) (τ_29.2.1 42) (τ_29.2.1 53) := i29_5
      have RB : J_rb (τ_29.1 7) (τ_29.1 15) (τ_29.1 32) (τ_29.2.1 13) (τ_29.2.1 28) (τ_29.2.1 35) (τ_29.2.1 36) (τ_29.2.1 37) := i29_6
      have CH : j_eq (σ.2.1 36 (σ.1 15)) (σ.2.1 37) (τ_29.2.1 37) := i29_9
      have ag29 := ag_k ag 36 15 1 (by decide)
      have a52 := A52 0
      refine h29 n1 u2_29 τ_29 ?_
      refine ⟨fun c4 => ?_, fun c4 => ?_⟩
      ·
        replace ag := ag_v (i := 29) (x := n1) ag (Or.inl rfl)
        replace hT := cT_v (i := 29) hT (show 0 ≤ n1 ∧ n1 ≤ 60000 from by (first | omega | (simp only [st_s] <;> omega) | assumption | omega | fail))
        refine ⟨fun c5 => ?_, fun c5 => ?_⟩
        ·
          intro x6 r_x6 e_x6
          have b_x6 : 0 ≤ x6 ∧ x6 ≤ 19999 := by rw [e_x6]; exact hT.2 52 _
          have db := J_dt_b DT a52.1 (PL.1 0 (by omega) (by omega))
          refine ⟨_, K_X6_isStatement hT (show 0 ≤ x6 from by (first | omega | (simp only [st_s] <;> omega) | assumption | omega | fail)) (show x6 < 20000 from by (first | omega | (simp only [st_s] <;> omega) | assumption | omega | fail)) (show τ_29.2.1 40 x6 + τ_29.2.1 41 x6 ≤ 42000 from by (rw [e_x6]; exact db.2)) (show 0 ≤ (τ_29.1 24) from by (first | omega | (simp only [st_s] <;> omega) | assumption | omega | fail)) (show (τ_29.1 24) < 1500 from by (first | omega | (simp only [st_s] <;> omega) | assumption | omega | fail)), ?_⟩
          intro x8 r_x8 hq
          have q7_1 := hq
          replace q7_1 : 0 ≤ x8 ∧ x8 ≤ 1 := q7_1
          refine ⟨fun c10 => ?_, fun c10 => ?_⟩
          ·
            have pr1 := PL.1 0 (by omega) (by omega)
            have rbx := RB
            have rle := fun (r s : Int) (a : τ_29.1 15 ≤ r) (b : r ≤ s) (c : s ≤ τ_29.1 15 + τ_29.1 32) => J_rb_le RB (fun j => (A28 j).1) a b c
            refine ⟨_, K_X0_keepRows hT (show 0 ≤ (τ_29.1 24) from by (first | omega | (simp only [st_s] <;> omega) | assumption | omega | fail)) (show (τ_29.1 24) < 1500 from by (first | omega | (simp only [st_s] <;> omega) | assumption | omega | fail)) (show 0 ≤ (τ_29.1 32) from by (first | omega | (simp only [st_s] <;> omega) | assumption | omega | fail)) (show (τ_29.1 15) + (τ_29.1 32) ≤ 20000 from by (first | omega | (simp only [st_s] <;> omega) | assumption | omega | fail)) (show ∀ r c : Int, (τ_29.1 15) ≤ r → r < (τ_29.1 15) + (τ_29.1 32) → τ_29.2.1 36 r ≤ c → c < τ_29.2.1 36 (r + 1) → (τ_29.1 15) + τ_29.2.1 37 c < 20000 from by exact fun r c a b d e => by have := (rbx r a b).2.2 c d e; omega) (show (τ_29.1 7) ≤ (τ_29.1 24) from by (first | omega | (simp only [st_s] <;> omega) | assumption | omega | fail)), ?_⟩
            intro τ13 hn_τ13 hf_τ13 hq
            obtain ⟨hT, q11_1, q11_2, q11_3, q11_4⟩ := hq
            replace q11_1 : (τ13.1 15) = (τ_29.1 15) + (τ_29.1 32) := q11_1
            replace q11_2 : τ13.2.1 33 = st (τ_29.2.1 33) (τ_29.1 24) (τ_29.1 15) := q11_2
            replace q11_3 : τ13.2.1 34 = st (τ_29.2.1 34) (τ_29.1 24) (τ_29.1 32) := q11_3
            replace q11_4 : c_ag (s_v τ_29 29 n1) τ13 := q11_4
            replace ag : c_ag σ τ13 := ag_t ag q11_4 rfl
            have w3_τ13 : τ13.1 3 = τ_29.1 3 := hf_τ13.1 3 (by decide)
            have w5_τ13 : τ13.1 5 = τ_29.1 5 := hf_τ13.1 5 (by decide)
            have w6_τ13 : τ13.1 6 = τ_29.1 6 := hf_τ13.1 6 (by decide)
            have w7_τ13 : τ13.1 7 = τ_29.1 7 := hf_τ13.1 7 (by decide)
            have w13_τ13 : τ13.1 13 = τ_29.1 13 := hf_τ13.1 13 (by decide)
            have w14_τ13 : τ13.1 14 = τ_29.1 14 := hf_τ13.1 14 (by decide)
            have w16_τ13 : τ13.1 16 = τ_29.1 16 := hf_τ13.1 16 (by decide)
            have w17_τ13 : τ13.1 17 = τ_29.1 17 := hf_τ13.1 17 (by decide)
            have w18_τ13 : τ13.1 18 = τ_29.1 18 := hf_τ13.1 18 (by decide)
            have w21_τ13 : τ13.1 21 = τ_29.1 21 := hf_τ13.1 21 (by decide)
            have w22_τ13 : τ13.1 22 = τ_29.1 22 := hf_τ13.1 22 (by decide)
            have w23_τ13 : τ13.1 23 = τ_29.1 23 := hf_τ13.1 23 (by decide)
            have w24_τ13 : τ13.1 24 = τ_29.1 24 := hf_τ13.1 24 (by decide)
            have w30_τ13 : τ13.1 30 = τ_29.1 30 := hf_τ13.1 30 (by decide)
            have w31_τ13 : τ13.1 31 = τ_29.1 31 := hf_τ13.1 31 (by decide)
            have w32_τ13 : τ13.1 32 = τ_29.1 32 := hf_τ13.1 32 (by decide)
            have g10_τ13 : τ13.2.1 10 = τ_29.2.1 10 := hf_τ13.2.1 10 (by decide)
            have g13_τ13 : τ13.2.1 13 = τ_29.2.1 13 := hf_τ13.2.1 13 (by decide)
            have g14_τ13 : τ13.2.1 14 = τ_29.2.1 14 := hf_τ13.2.1 14 (by decide)
            have g15_τ13 : τ13.2.1 15 = τ_29.2.1 15 := hf_τ13.2.1 15 (by decide)
            have g16_τ13 : τ13.2.1 16 = τ_29.2.1 16 := hf_τ13.2.1 16 (by decide)
            have g27_τ13 : τ13.2.1 27 = τ_29.2.1 27 := hf_τ13.2.1 27 (by decide)
            have g28_τ13 : τ13.2.1 28 = τ_29.2.1 28 := hf_τ13.2.1 28 (by decide)
            have g29_τ13 : τ13.2.1 29 = τ_29.2.1 29 := hf_τ13.2.1 29 (by decide)
            have g30_τ13 : τ13.2.1 30 = τ_29.2.1 30 := hf_τ13.2.1 30 (by decide)
            have g31_τ13 : τ13.2.1 31 = τ_29.2.1 31 := hf_τ13.2.1 31 (by decide)
            have g32_τ13 : τ13.2.1 32 = τ_29.2.1 32 := hf_τ13.2.1 32 (by decide)
            have g35_τ13 : τ13.2.1 35 = τ_29.2.1 35 := hf_τ13.2.1 35 (by decide)
            have g36_τ13 : τ13.2.1 36 = τ_29.2.1 36 := hf_τ13.2.1 36 (by decide)
            have g37_τ13 : τ13.2.1 37 = τ_29.2.1 37 := hf_τ13.2.1 37 (by decide)
            have g39_τ13 : τ13.2.1 39 = τ_29.2.1 39 := hf_τ13.2.1 39 (by decide)
            have g40_τ13 : τ13.2.1 40 = τ_29.2.1 40 := hf_τ13.2.1 40 (by decide)
            have g41_τ13 : τ13.2.1 41 = τ_29.2.1 41 := hf_τ13.2.1 41 (by decide)
            have g42_τ13 : τ13.2.1 42 = τ_29.2.1 42 := hf_τ13.2.1 42 (by decide)
            have g44_τ13 : τ13.2.1 44 = τ_29.2.1 44 := hf_τ13.2.1 44 (by decide)
            have g45_τ13 : τ13.2.1 45 = τ_29.2.1 45 := hf_τ13.2.1 45 (by decide)
            have g49_τ13 : τ13.2.1 49 = τ_29.2.1 49 := hf_τ13.2.1 49 (by decide)
            have g51_τ13 : τ13.2.1 51 = τ_29.2.1 51 := hf_τ13.2.1 51 (by decide)
            have g52_τ13 : τ13.2.1 52 = τ_29.2.1 52 := hf_τ13.2.1 52 (by decide)
            have g53_τ13 : τ13.2.1 53 = τ_29.2.1 53 := hf_τ13.2.1 53 (by decide)
            have W3 : τ13.1 3 = σ.1 3 := by first | exact w3_τ13.trans W3 | omega
            have W5 : τ13.1 5 = σ.1 5 := by first | exact w5_τ13.trans W5 | omega
            have W6 : τ13.1 6 = σ.1 6 := by first | exact w6_τ13.trans W6 | omega
            have W7 : τ13.1 7 = σ.1 7 := by first | exact w7_τ13.trans W7 | omega
            have W13 : τ13.1 13 = σ.1 13 := by first | exact w13_τ13.trans W13 | omega
            have W14 : τ13.1 14 = σ.1 14 := by first | exact w14_τ13.trans W14 | omega
            have W16 : τ13.1 16 = σ.1 16 := by first | exact w16_τ13.trans W16 | omega
            have W21 : τ13.1 21 = σ.1 21 := by first | exact w21_τ13.trans W21 | omega
            have W22 : τ13.1 22 = σ.1 22 := by first | exact w22_τ13.trans W22 | omega
            have W24 : τ13.1 24 = σ.1 24 := by first | exact w24_τ13.trans W24 | omega
            have G10 : τ13.2.1 10 = σ.2.1 10 := (g10_τ13).trans G10
            have G13 : τ13.2.1 13 = σ.2.1 13 := (g13_τ13).trans G13
            have G14 : τ13.2.1 14 = σ.2.1 14 := (g14_τ13).trans G14
            have G15 : τ13.2.1 15 = σ.2.1 15 := (g15_τ13).trans G15
            have G16 : τ13.2.1 16 = σ.2.1 16 := (g16_τ13).trans G16
            have G27 : τ13.2.1 27 = σ.2.1 27 := (g27_τ13).trans G27
            have G28 : τ13.2.1 28 = σ.2.1 28 := (g28_τ13).trans G28
            have G29 : τ13.2.1 29 = σ.2.1 29 := (g29_τ13).trans G29
            have G30 : τ13.2.1 30 = σ.2.1 30 := (g30_τ13).trans G30
            have G31 : τ13.2.1 31 = σ.2.1 31 := (g31_τ13).trans G31
            have G32 : τ13.2.1 32 = σ.2.1 32 := (g32_τ13).trans G32
            have G49 : τ13.2.1 49 = σ.2.1 49 := (g49_τ13).trans G49
            have G51 : τ13.2.1 51 = σ.2.1 51 := (g51_τ13).trans G51
            have TX : J_vs (τ13.1 6) (τ13.1 5) (τ13.2.1 15) := by rw [show (J_vs (τ13.1 6) (τ13.1 5) (τ13.2.1 15)) = (J_vs (τ_29.1 6) (τ_29.1 5) (τ_29.2.1 15)) from by rw [w5_τ13, w6_τ13, g15_τ13]]; exact TX
            have BP : J_bp (τ13.2.1 44) (τ13.2.1 45) := by rw [show (J_bp (τ13.2.1 44) (τ13.2.1 45)) = (J_bp (τ_29.2.1 44) (τ_29.2.1 45)) from by rw [g44_τ13, g45_τ13]]; exact BP
            have DT : J_dt (τ13.1 17) (τ13.1 18) (τ13.1 32) (τ13.2.1 39) (τ13.2.1 40) (τ13.2.1 41) := by rw [show (J_dt (τ13.1 17) (τ13.1 18) (τ13.1 32) (τ13.2.1 39) (τ13.2.1 40) (τ13.2.1 41)) = (J_dt (τ_29.1 17) (τ_29.1 18) (τ_29.1 32) (τ_29.2.1 39) (τ_29.2.1 40) (τ_29.2.1 41)) from by rw [w17_τ13, w18_τ13, w32_τ13, g39_τ13, g40_τ13, g41_τ13]]; exact DT
            have PL : J_pl (τ13.1 17) (τ13.1 31) (τ13.1 32) (τ13.1 30) (τ13.2.1 42) (τ13.2.1 41) (τ13.2.1 52) := by rw [show (J_pl (τ13.1 17) (τ13.1 31) (τ13.1 32) (τ13.1 30) (τ13.2.1 42) (τ13.2.1 41) (τ13.2.1 52)) = (J_pl (τ_29.1 17) (τ_29.1 31) (τ_29.1 32) (τ_29.1 30) (τ_29.2.1 42) (τ_29.2.1 41) (τ_29.2.1 52)) from by rw [w17_τ13, w30_τ13, w31_τ13, w32_τ13, g41_τ13, g42_τ13, g52_τ13]]; exact PL
            have SV : J_sv (τ13.1 32) (τ13.1 23) (τ13.2.1 42) (τ13.2.1 53) := by rw [show (J_sv (τ13.1 32) (τ13.1 23) (τ13.2.1 42) (τ13.2.1 53)) = (J_sv (τ_29.1 32) (τ_29.1 23) (τ_29.2.1 42) (τ_29.2.1 53)) from by rw [w23_τ13, w32_τ13, g42_τ13, g53_τ13]]; exact SV
            have CH : j_eq (σ.2.1 36 (σ.1 15)) (σ.2.1 37) (τ13.2.1 37) := by rw [show (j_eq (σ.2.1 36 (σ.1 15)) (σ.2.1 37) (τ13.2.1 37)) = (j_eq (σ.2.1 36 (σ.1 15)) (σ.2.1 37) (τ_29.2.1 37)) from by rw [g37_τ13]]; exact CH
            have A10 : ∀ j, (-1) ≤ τ13.2.1 10 j ∧ τ13.2.1 10 j ≤ 99 := fun j => hT.2 10 j
            have A13 : ∀ j, 0 ≤ τ13.2.1 13 j ∧ τ13.2.1 13 j ≤ 4 := fun j => hT.2 13 j
            have A14 : ∀ j, 0 ≤ τ13.2.1 14 j ∧ τ13.2.1 14 j ≤ 30000 := fun j => hT.2 14 j
            have A15 : ∀ j, 0 ≤ τ13.2.1 15 j ∧ τ13.2.1 15 j ≤ 999 := fun j => hT.2 15 j
            have A16 : ∀ j, (-1) ≤ τ13.2.1 16 j ∧ τ13.2.1 16 j ≤ 1499 := fun j => hT.2 16 j
            have A27 : ∀ j, 0 ≤ τ13.2.1 27 j ∧ τ13.2.1 27 j ≤ 90000 := fun j => hT.2 27 j
            have A28 : ∀ j, 0 ≤ τ13.2.1 28 j ∧ τ13.2.1 28 j ≤ 60 := fun j => hT.2 28 j
            have A29 : ∀ j, 0 ≤ τ13.2.1 29 j ∧ τ13.2.1 29 j ≤ 1499 := fun j => hT.2 29 j
            have A30 : ∀ j, 0 ≤ τ13.2.1 30 j ∧ τ13.2.1 30 j ≤ 20000 := fun j => hT.2 30 j
            have A31 : ∀ j, 0 ≤ τ13.2.1 31 j ∧ τ13.2.1 31 j ≤ 20000 := fun j => hT.2 31 j
            have A32 : ∀ j, 0 ≤ τ13.2.1 32 j ∧ τ13.2.1 32 j ≤ 999999 := fun j => hT.2 32 j
            have A33 : ∀ j, 0 ≤ τ13.2.1 33 j ∧ τ13.2.1 33 j ≤ 20000 := fun j => hT.2 33 j
            have A34 : ∀ j, 0 ≤ τ13.2.1 34 j ∧ τ13.2.1 34 j ≤ 20000 := fun j => hT.2 34 j
            have A35 : ∀ j, 0 ≤ τ13.2.1 35 j ∧ τ13.2.1 35 j ≤ 1499 := fun j => hT.2 35 j
            have A36 : ∀ j, 0 ≤ τ13.2.1 36 j ∧ τ13.2.1 36 j ≤ 20000 := fun j => hT.2 36 j
            have A37 : ∀ j, 0 ≤ τ13.2.1 37 j ∧ τ13.2.1 37 j ≤ 19999 := fun j => hT.2 37 j
            have A39 : ∀ j, 0 ≤ τ13.2.1 39 j ∧ τ13.2.1 39 j ≤ 1060 := fun j => hT.2 39 j
            have A40 : ∀ j, 0 ≤ τ13.2.1 40 j ∧ τ13.2.1 40 j ≤ 42000 := fun j => hT.2 40 j
            have A41 : ∀ j, (-2) ≤ τ13.2.1 41 j ∧ τ13.2.1 41 j ≤ 1000 := fun j => hT.2 41 j
            have A42 : ∀ j, (-2147483648) ≤ τ13.2.1 42 j ∧ τ13.2.1 42 j ≤ 2147483647 := fun j => hT.2 42 j
            have A44 : ∀ j, 0 ≤ τ13.2.1 44 j ∧ τ13.2.1 44 j ≤ 42000 := fun j => hT.2 44 j
            have A45 : ∀ j, 0 ≤ τ13.2.1 45 j ∧ τ13.2.1 45 j ≤ 1000 := fun j => hT.2 45 j
            have A49 : ∀ j, (-300) ≤ τ13.2.1 49 j ∧ τ13.2.1 49 j ≤ 67035 := fun j => hT.2 49 j
            have A51 : ∀ j, 0 ≤ τ13.2.1 51 j ∧ τ13.2.1 51 j ≤ 1499 := fun j => hT.2 51 j
            have A52 : ∀ j, 0 ≤ τ13.2.1 52 j ∧ τ13.2.1 52 j ≤ 19999 := fun j => hT.2 52 j
            have A53 : ∀ j, 0 ≤ τ13.2.1 53 j ∧ τ13.2.1 53 j ≤ 19999 := fun j => hT.2 53 j
            have v3 : 0 ≤ τ13.1 3 ∧ τ13.1 3 ≤ 2500 := hT.1 3
            have v5 : 0 ≤ τ13.1 5 ∧ τ13.1 5 ≤ 1000 := hT.1 5
            have v6 : 0 ≤ τ13.1 6 ∧ τ13.1 6 ≤ 30000 := hT.1 6
            have v7 : 0 ≤ τ13.1 7 ∧ τ13.1 7 ≤ 1500 := hT.1 7
            have v13 : 0 ≤ τ13.1 13 ∧ τ13.1 13 ≤ 90000 := hT.1 13
            have v14 : 0 ≤ τ13.1 14 ∧ τ13.1 14 ≤ 20000 := hT.1 14
            have v15 : 0 ≤ τ13.1 15 ∧ τ13.1 15 ≤ 20000 := hT.1 15
            have v16 : 0 ≤ τ13.1 16 ∧ τ13.1 16 ≤ 20000 := hT.1 16
            have v17 : 0 ≤ τ13.1 17 ∧ τ13.1 17 ≤ 42000 := hT.1 17
            have v18 : 0 ≤ τ13.1 18 ∧ τ13.1 18 ≤ 42000 := hT.1 18
            have v21 : 0 ≤ τ13.1 21 ∧ τ13.1 21 ≤ 20000 := hT.1 21
            have v22 : 0 ≤ τ13.1 22 ∧ τ13.1 22 ≤ 300 := hT.1 22
            have v23 : 0 ≤ τ13.1 23 ∧ τ13.1 23 ≤ 300 := hT.1 23
            have v24 : 0 ≤ τ13.1 24 ∧ τ13.1 24 ≤ 1499 := hT.1 24
            have v30 : 0 ≤ τ13.1 30 ∧ τ13.1 30 ≤ 200 := hT.1 30
            have v31 : (-2147483648) ≤ τ13.1 31 ∧ τ13.1 31 ≤ 2147483647 := hT.1 31
            have v32 : 0 ≤ τ13.1 32 ∧ τ13.1 32 ≤ 20000 := hT.1 32
            have a36_15 : 0 ≤ τ13.2.1 36 (τ13.1 15) ∧ τ13.2.1 36 (τ13.1 15) ≤ 20000 := hT.2 36 _
            have av15 : σ.1 15 ≤ τ13.1 15 := ag.1 15 (by decide)
            exact ⟨hT, (show 0 ≤ 0 ∧ 0 ≤ 19 from by (first | omega | (simp only [st_s] <;> omega) | assumption | omega | fail)), (show J_bp (τ13.2.1 44) (τ13.2.1 45) from BP), (show j_eq (σ.2.1 36 (σ.1 15)) (σ.2.1 37) (τ13.2.1 37) from CH), (show 0 = 0 → J_sp (τ13.1 24) (τ13.1 21) (τ13.1 23) (τ13.1 22) (τ13.2.1 49) (τ13.2.1 51) from by (first | (intro z; exfalso; omega) | (intro z; have e : τ13.1 23 = σ.1 23 := (by rw [w23_τ13, i29_13, show u2_29 = σ.1 21 from by omega]; exact spp.2.1.symm); rw [W24, W21, e, W22, G49, G51]; exact p5) | fail)), (show 0 = 0 → J_r (σ.1 7) (τ13.1 15) (τ13.2.1 13) (τ13.2.1 28) (τ13.2.1 33) (τ13.2.1 34) (τ13.2.1 35) (τ13.2.1 36) (τ13.2.1 37) from by (first | (intro z; exfalso; omega) | (intro z; rw [q11_1, q11_2, q11_3, show τ_29.1 24 = σ.1 7 from by omega, g13_τ13, g28_τ13, g35_τ13, g36_τ13, g37_τ13]; have rb2 := rbx; rw [show τ_29.1 7 = σ.1 7 from by omega] at rb2; exact J_r_new rb2 (by omega)) | fail)), (show 0 = 0 → ∀ r s : Int, (σ.1 15) ≤ r → r ≤ s → s ≤ (τ13.1 15) → τ13.2.1 36 r ≤ τ13.2.1 36 s from by (first | (intro z; exfalso; omega) | (intro z r s a b c; rw [g36_τ13]; exact rle r s (by omega) b (by omega)) | fail)), (show 0 = 0 → (τ13.1 15) ≤ (σ.1 16) + (σ.1 21) ∧ τ13.2.1 36 (τ13.1 15) ≤ (σ.1 16) + (σ.1 21) from by (first | (intro z; exfalso; omega) | (intro z; rw [g36_τ13, q11_1]; omega) | fail)), (show ¬ 0 = 0 → (τ13.1 15) = (σ.1 15) from by (first | omega | (simp only [st_s] <;> omega) | assumption | omega | fail)), ag⟩
          ·
            exact ⟨hT, (show 0 ≤ 19 ∧ 19 ≤ 19 from by (first | omega | (simp only [st_s] <;> omega) | assumption | omega | fail)), (show J_bp (τ_29.2.1 44) (τ_29.2.1 45) from BP), (show j_eq (σ.2.1 36 (σ.1 15)) (σ.2.1 37) (τ_29.2.1 37) from CH), (show 19 = 0 → J_sp (τ_29.1 24) (τ_29.1 21) (τ_29.1 23) (τ_29.1 22) (τ_29.2.1 49) (τ_29.2.1 51) from by (first | (intro z; exfalso; omega) | (intro z; have e : τ13.1 23 = σ.1 23 := (by rw [w23_τ13, i29_13, show u2_29 = σ.1 21 from by omega]; exact spp.2.1.symm); rw [W24, W21, e, W22, G49, G51]; exact p5) | fail)), (show 19 = 0 → J_r (σ.1 7) (τ_29.1 15) (τ_29.2.1 13) (τ_29.2.1 28) (τ_29.2.1 33) (τ_29.2.1 34) (τ_29.2.1 35) (τ_29.2.1 36) (τ_29.2.1 37) from by (first | (intro z; exfalso; omega) | (intro z; rw [q11_1, q11_2, q11_3, show τ_29.1 24 = σ.1 7 from by omega, g13_τ13, g28_τ13, g35_τ13, g36_τ13, g37_τ13]; have rb2 := rbx; rw [show τ_29.1 7 = σ.1 7 from by omega] at rb2; exact J_r_new rb2 (by omega)) | fail)), (show 19 = 0 → ∀ r s : Int, (σ.1 15) ≤ r → r ≤ s → s ≤ (τ_29.1 15) → τ_29.2.1 36 r ≤ τ_29.2.1 36 s from by (first | (intro z; exfalso; omega) | (intro z r s a b c; rw [g36_τ13]; exact rle r s (by omega) b (by omega)) | fail)), (show 19 = 0 → (τ_29.1 15) ≤ (σ.1 16) + (σ.1 21) ∧ τ_29.2.1 36 (τ_29.1 15) ≤ (σ.1 16) + (σ.1 21) from by (first | (intro z; exfalso; omega) | (intro z; rw [g36_τ13, q11_1]; omega) | fail)), (show ¬ 19 = 0 → (τ_29.1 15) = (σ.1 15) from by (first | omega | (simp only [st_s] <;> omega) | assumption | omega | fail)), ag⟩
        ·
          exact ⟨hT, (show 0 ≤ 18 ∧ 18 ≤ 19 from by (first | omega | (simp only [st_s] <;> omega) | assumption | omega | fail)), (show J_bp (τ_29.2.1 44) (τ_29.2.1 45) from BP), (show j_eq (σ.2.1 36 (σ.1 15)) (σ.2.1 37) (τ_29.2.1 37) from CH), (show 18 = 0 → J_sp (τ_29.1 24) (τ_29.1 21) (τ_29.1 23) (τ_29.1 22) (τ_29.2.1 49) (τ_29.2.1 51) from by (first | (intro z; exfalso; omega) | (intro z; have e : τ13.1 23 = σ.1 23 := (by rw [w23_τ13, i29_13, show u2_29 = σ.1 21 from by omega]; exact spp.2.1.symm); rw [W24, W21, e, W22, G49, G51]; exact p5) | fail)), (show 18 = 0 → J_r (σ.1 7) (τ_29.1 15) (τ_29.2.1 13) (τ_29.2.1 28) (τ_29.2.1 33) (τ_29.2.1 34) (τ_29.2.1 35) (τ_29.2.1 36) (τ_29.2.1 37) from by (first | (intro z; exfalso; omega) | (intro z; rw [q11_1, q11_2, q11_3, show τ_29.1 24 = σ.1 7 from by omega, g13_τ13, g28_τ13, g35_τ13, g36_τ13, g37_τ13]; have rb2 := rbx; rw [show τ_29.1 7 = σ.1 7 from by omega] at rb2; exact J_r_new rb2 (by omega)) | fail)), (show 18 = 0 → ∀ r s : Int, (σ.1 15) ≤ r → r ≤ s → s ≤ (τ_29.1 15) → τ_29.2.1 36 r ≤ τ_29.2.1 36 s from by (first | (intro z; exfalso; omega) | (intro z r s a b c; rw [g36_τ13]; exact rle r s (by omega) b (by omega)) | fail)), (show 18 = 0 → (τ_29.1 15) ≤ (σ.1 16) + (σ.1 21) ∧ τ_29.2.1 36 (τ_29.1 15) ≤ (σ.1 16) + (σ.1 21) from by (first | (intro z; exfalso; omega) | (intro z; rw [g36_τ13, q11_1]; omega) | fail)), (show ¬ 18 = 0 → (τ_29.1 15) = (σ.1 15) from by (first | omega | (simp only [st_s] <;> omega) | assumption | omega | fail)), ag⟩
      ·
        have svu := sv_u (σ.2.1 49) (n := u2_29) (by omega)
        have svm := sv_m (σ.2.1 49) (n := u2_29 + 1) (m := σ.1 21) (by omega) (by omega)
        have sv1 := spp.2.1
        have st0 := spp.1 u2_29 (by omega) (by omega)
        refine ⟨(show 0 ≤ u2_29 ∧ u2_29 < 20000 from by (first | omega | (simp only [st_s] <;> omega) | assumption | omega | fail)), ?_⟩
        intro x15 r_x15 e_x15
        have b_x15 : 0 ≤ x15 ∧ x15 ≤ 60000 := by rw [e_x15]; exact hT.2 50 _
        replace ag := ag_v (i := 29) (x := x15) ag (Or.inl rfl)
        replace hT := cT_v (i := 29) hT (show 0 ≤ x15 ∧ x15 ≤ 60000 from by (first | omega | (simp only [st_s] <;> omega) | assumption | omega | fail))
        intro x16 r_x16 e_x16
        have b_x16 : (-300) ≤ x16 ∧ x16 ≤ 67035 := by rw [e_x16]; exact hT.2 49 _
        rw [G49] at e_x16
        refine ⟨fun c17 => ?_, fun c17 => ?_⟩
        ·
          intro x18 r_x18 e_x18
          have b_x18 : (-300) ≤ x18 ∧ x18 ≤ 67035 := by rw [e_x18]; exact hT.2 49 _
          rw [G49] at e_x18
          refine ⟨_, K_X10_take hT (show 0 ≤ x18 from by (first | omega | (simp only [st_s] <;> omega) | assumption | omega | fail)) (show x18 < 131072 from by (first | omega | (simp only [st_s] <;> omega) | assumption | omega | fail)) (show x18 % 65536 < (τ_29.1 7) from by (first | omega | (simp only [st_s] <;> omega) | assumption | omega | fail)) (show J_all (τ_29.1 7) (τ_29.1 6) (τ_29.1 13) (τ_29.1 14) (τ_29.1 15) (τ_29.2.1 13) (τ_29.2.1 14) (τ_29.2.1 15) (τ_29.2.1 16) (τ_29.2.1 10) (τ_29.2.1 27) (τ_29.2.1 28) (τ_29.2.1 29) (τ_29.2.1 30) (τ_29.2.1 31) (τ_29.2.1 32) (τ_29.2.1 33) (τ_29.2.1 34) (τ_29.2.1 35) (τ_29.2.1 36) (τ_29.2.1 37) from CJ) (show J_bp (τ_29.2.1 44) (τ_29.2.1 45) from BP) (show J_dt (τ_29.1 17) (τ_29.1 18) (τ_29.1 32) (τ_29.2.1 39) (τ_29.2.1 40) (τ_29.2.1 41) from DT) (show J_pl (τ_29.1 17) (τ_29.1 31) (τ_29.1 32) (τ_29.1 30) (τ_29.2.1 42) (τ_29.2.1 41) (τ_29.2.1 52) from PL) (show J_sv (τ_29.1 32) (τ_29.1 23) (τ_29.2.1 42) (τ_29.2.1 53) from SV) (show J_rb (τ_29.1 7) (τ_29.1 15) (τ_29.1 32) (τ_29.2.1 13) (τ_29.2.1 28) (τ_29.2.1 35) (τ_29.2.1 36) (τ_29.2.1 37) from RB) (show (τ_29.1 15) + (τ_29.1 32) < 20000 from by (first | omega | (simp only [st_s] <;> omega) | assumption | omega | fail)) (show τ_29.2.1 36 ((τ_29.1 15) + (τ_29.1 32)) + (τ_29.1 30) < 20000 from by (first | omega | (simp only [st_s] <;> omega) | assumption | omega | fail)) (show 65536 ≤ x18 → (τ_29.1 23) < 300 from by (first | omega | (simp only [st_s] <;> omega) | assumption | omega | fail)) (show 0 ≤ (τ_29.1 31) ∧ (τ_29.1 31) ≤ 40000 from by (first | omega | (simp only [st_s] <;> omega) | assumption | omega | fail)) (show J_vs (τ_29.1 6) (τ_29.1 5) (τ_29.2.1 15) from TX), ?_⟩
          intro x20 τ21 r_x20 hn_τ21 hf_τ21 hq
          obtain ⟨hT, q19_1, q19_2, q19_3, q19_4, q19_5, q19_6, q19_7, q19_8, q19_9, q19_10, q19_11, q19_12⟩ := hq
          replace q19_1 : 0 ≤ x20 ∧ x20 ≤ 19 := q19_1
          replace q19_2 : x20 = 0 → 0 ≤ (τ21.1 31) ∧ (τ21.1 31) ≤ 40000 := q19_2
          replace q19_3 : x20 = 0 → J_dt (τ21.1 17) (τ21.1 18) (τ21.1 32) (τ21.2.1 39) (τ21.2.1 40) (τ21.2.1 41) := q19_3
          replace q19_4 : x20 = 0 → J_pl (τ21.1 17) (τ21.1 31) (τ21.1 32) (τ21.1 30) (τ21.2.1 42) (τ21.2.1 41) (τ21.2.1 52) := q19_4
          replace q19_5 : x20 = 0 → J_sv (τ21.1 32) (τ21.1 23) (τ21.2.1 42) (τ21.2.1 53) := q19_5
          replace q19_6 : x20 = 0 → J_rb (τ21.1 7) (τ21.1 15) (τ21.1 32) (τ21.2.1 13) (τ21.2.1 28) (τ21.2.1 35) (τ21.2.1 36) (τ21.2.1 37) := q19_6
          replace q19_7 : J_bp (τ21.2.1 44) (τ21.2.1 45) := q19_7
          replace q19_8 : J_all (τ21.1 7) (τ21.1 6) (τ21.1 13) (τ21.1 14) (τ21.1 15) (τ21.2.1 13) (τ21.2.1 14) (τ21.2.1 15) (τ21.2.1 16) (τ21.2.1 10) (τ21.2.1 27) (τ21.2.1 28) (τ21.2.1 29) (τ21.2.1 30) (τ21.2.1 31) (τ21.2.1 32) (τ21.2.1 33) (τ21.2.1 34) (τ21.2.1 35) (τ21.2.1 36) (τ21.2.1 37) := q19_8
          replace q19_9 : j_eq (τ_29.2.1 36 (τ_29.1 15)) (τ_29.2.1 37) (τ21.2.1 37) := q19_9
          replace q19_10 : x20 = 0 → (τ21.1 32) = (τ_29.1 32) + 1 ∧ τ21.2.1 36 ((τ_29.1 15) + (τ_29.1 32) + 1) + (τ21.1 30) = τ_29.2.1 36 ((τ_29.1 15) + (τ_29.1 32)) + (τ_29.1 30) + 1 := q19_10
          replace q19_11 : x20 = 0 → (x18 < 65536 → (τ21.1 23) = (τ_29.1 23)) ∧ (65536 ≤ x18 → (τ21.1 23) = (τ_29.1 23) + 1) := q19_11
          replace q19_12 : c_ag (s_v τ_29 29 x15) τ21 := q19_12
          replace ag : c_ag σ τ21 := ag_t ag q19_12 rfl
          have w3_τ21 : τ21.1 3 = τ_29.1 3 := hf_τ21.1 3 (by decide)
          have w5_τ21 : τ21.1 5 = τ_29.1 5 := hf_τ21.1 5 (by decide)
          have w6_τ21 : τ21.1 6 = τ_29.1 6 := hf_τ21.1 6 (by decide)
          have w7_τ21 : τ21.1 7 = τ_29.1 7 := hf_τ21.1 7 (by decide)
          have w13_τ21 : τ21.1 13 = τ_29.1 13 := hf_τ21.1 13 (by decide)
          have w14_τ21 : τ21.1 14 = τ_29.1 14 := hf_τ21.1 14 (by decide)
          have w15_τ21 : τ21.1 15 = τ_29.1 15 := hf_τ21.1 15 (by decide)
          have w16_τ21 : τ21.1 16 = τ_29.1 16 := hf_τ21.1 16 (by decide)
          have w21_τ21 : τ21.1 21 = τ_29.1 21 := hf_τ21.1 21 (by decide)
          have w22_τ21 : τ21.1 22 = τ_29.1 22 := hf_τ21.1 22 (by decide)
          have w24_τ21 : τ21.1 24 = τ_29.1 24 := hf_τ21.1 24 (by decide)
          have g10_τ21 : τ21.2.1 10 = τ_29.2.1 10 := hf_τ21.2.1 10 (by decide)
          have g13_τ21 : τ21.2.1 13 = τ_29.2.1 13 := hf_τ21.2.1 13 (by decide)
          have g14_τ21 : τ21.2.1 14 = τ_29.2.1 14 := hf_τ21.2.1 14 (by decide)
          have g15_τ21 : τ21.2.1 15 = τ_29.2.1 15 := hf_τ21.2.1 15 (by decide)
          have g16_τ21 : τ21.2.1 16 = τ_29.2.1 16 := hf_τ21.2.1 16 (by decide)
          have g27_τ21 : τ21.2.1 27 = τ_29.2.1 27 := hf_τ21.2.1 27 (by decide)
          have g28_τ21 : τ21.2.1 28 = τ_29.2.1 28 := hf_τ21.2.1 28 (by decide)
          have g29_τ21 : τ21.2.1 29 = τ_29.2.1 29 := hf_τ21.2.1 29 (by decide)
          have g30_τ21 : τ21.2.1 30 = τ_29.2.1 30 := hf_τ21.2.1 30 (by decide)
          have g31_τ21 : τ21.2.1 31 = τ_29.2.1 31 := hf_τ21.2.1 31 (by decide)
          have g32_τ21 : τ21.2.1 32 = τ_29.2.1 32 := hf_τ21.2.1 32 (by decide)
          have g33_τ21 : τ21.2.1 33 = τ_29.2.1 33 := hf_τ21.2.1 33 (by decide)
          have g34_τ21 : τ21.2.1 34 = τ_29.2.1 34 := hf_τ21.2.1 34 (by decide)
          have g49_τ21 : τ21.2.1 49 = τ_29.2.1 49 := hf_τ21.2.1 49 (by decide)
          have g51_τ21 : τ21.2.1 51 = τ_29.2.1 51 := hf_τ21.2.1 51 (by decide)
          have W3 : τ21.1 3 = σ.1 3 := by first | exact w3_τ21.trans W3 | omega
          have W5 : τ21.1 5 = σ.1 5 := by first | exact w5_τ21.trans W5 | omega
          have W6 : τ21.1 6 = σ.1 6 := by first | exact w6_τ21.trans W6 | omega
          have W7 : τ21.1 7 = σ.1 7 := by first | exact w7_τ21.trans W7 | omega
          have W13 : τ21.1 13 = σ.1 13 := by first | exact w13_τ21.trans W13 | omega
          have W14 : τ21.1 14 = σ.1 14 := by first | exact w14_τ21.trans W14 | omega
          have W16 : τ21.1 16 = σ.1 16 := by first | exact w16_τ21.trans W16 | omega
          have W21 : τ21.1 21 = σ.1 21 := by first | exact w21_τ21.trans W21 | omega
          have W22 : τ21.1 22 = σ.1 22 := by first | exact w22_τ21.trans W22 | omega
          have W24 : τ21.1 24 = σ.1 24 := by first | exact w24_τ21.trans W24 | omega
          have G10 : τ21.2.1 10 = σ.2.1 10 := (g10_τ21).trans G10
          have G13 : τ21.2.1 13 = σ.2.1 13 := (g13_τ21).trans G13
          have G14 : τ21.2.1 14 = σ.2.1 14 := (g14_τ21).trans G14
          have G15 : τ21.2.1 15 = σ.2.1 15 := (g15_τ21).trans G15
          have G16 : τ21.2.1 16 = σ.2.1 16 := (g16_τ21).trans G16
          have G27 : τ21.2.1 27 = σ.2.1 27 := (g27_τ21).trans G27
          have G28 : τ21.2.1 28 = σ.2.1 28 := (g28_τ21).trans G28
          have G29 : τ21.2.1 29 = σ.2.1 29 := (g29_τ21).trans G29
          have G30 : τ21.2.1 30 = σ.2.1 30 := (g30_τ21).trans G30
          have G31 : τ21.2.1 31 = σ.2.1 31 := (g31_τ21).trans G31
          have G32 : τ21.2.1 32 = σ.2.1 32 := (g32_τ21).trans G32
          have G49 : τ21.2.1 49 = σ.2.1 49 := (g49_τ21).trans G49
          have G51 : τ21.2.1 51 = σ.2.1 51 := (g51_τ21).trans G51
          have TX : J_vs (τ21.1 6) (τ21.1 5) (τ21.2.1 15) := by rw [show (J_vs (τ21.1 6) (τ21.1 5) (τ21.2.1 15)) = (J_vs (τ_29.1 6) (τ_29.1 5) (τ_29.2.1 15)) from by rw [w5_τ21, w6_τ21, g15_τ21]]; exact TX
          have CJ : J_all (τ21.1 7) (τ21.1 6) (τ21.1 13) (τ21.1 14) (τ21.1 15) (τ21.2.1 13) (τ21.2.1 14) (τ21.2.1 15) (τ21.2.1 16) (τ21.2.1 10) (τ21.2.1 27) (τ21.2.1 28) (τ21.2.1 29) (τ21.2.1 30) (τ21.2.1 31) (τ21.2.1 32) (τ21.2.1 33) (τ21.2.1 34) (τ21.2.1 35) (τ21.2.1 36) (τ21.2.1 37) := q19_8
          have BP : J_bp (τ21.2.1 44) (τ21.2.1 45) := q19_7
          have A10 : ∀ j, (-1) ≤ τ21.2.1 10 j ∧ τ21.2.1 10 j ≤ 99 := fun j => hT.2 10 j
          have A13 : ∀ j, 0 ≤ τ21.2.1 13 j ∧ τ21.2.1 13 j ≤ 4 := fun j => hT.2 13 j
          have A14 : ∀ j, 0 ≤ τ21.2.1 14 j ∧ τ21.2.1 14 j ≤ 30000 := fun j => hT.2 14 j
          have A15 : ∀ j, 0 ≤ τ21.2.1 15 j ∧ τ21.2.1 15 j ≤ 999 := fun j => hT.2 15 j
          have A16 : ∀ j, (-1) ≤ τ21.2.1 16 j ∧ τ21.2.1 16 j ≤ 1499 := fun j => hT.2 16 j
          have A27 : ∀ j, 0 ≤ τ21.2.1 27 j ∧ τ21.2.1 27 j ≤ 90000 := fun j => hT.2 27 j
          have A28 : ∀ j, 0 ≤ τ21.2.1 28 j ∧ τ21.2.1 28 j ≤ 60 := fun j => hT.2 28 j
          have A29 : ∀ j, 0 ≤ τ21.2.1 29 j ∧ τ21.2.1 29 j ≤ 1499 := fun j => hT.2 29 j
          have A30 : ∀ j, 0 ≤ τ21.2.1 30 j ∧ τ21.2.1 30 j ≤ 20000 := fun j => hT.2 30 j
          have A31 : ∀ j, 0 ≤ τ21.2.1 31 j ∧ τ21.2.1 31 j ≤ 20000 := fun j => hT.2 31 j
          have A32 : ∀ j, 0 ≤ τ21.2.1 32 j ∧ τ21.2.1 32 j ≤ 999999 := fun j => hT.2 32 j
          have A33 : ∀ j, 0 ≤ τ21.2.1 33 j ∧ τ21.2.1 33 j ≤ 20000 := fun j => hT.2 33 j
          have A34 : ∀ j, 0 ≤ τ21.2.1 34 j ∧ τ21.2.1 34 j ≤ 20000 := fun j => hT.2 34 j
          have A35 : ∀ j, 0 ≤ τ21.2.1 35 j ∧ τ21.2.1 35 j ≤ 1499 := fun j => hT.2 35 j
          have A36 : ∀ j, 0 ≤ τ21.2.1 36 j ∧ τ21.2.1 36 j ≤ 20000 := fun j => hT.2 36 j
          have A37 : ∀ j, 0 ≤ τ21.2.1 37 j ∧ τ21.2.1 37 j ≤ 19999 := fun j => hT.2 37 j
          have A39 : ∀ j, 0 ≤ τ21.2.1 39 j ∧ τ21.2.1 39 j ≤ 1060 := fun j => hT.2 39 j
          have A40 : ∀ j, 0 ≤ τ21.2.1 40 j ∧ τ21.2.1 40 j ≤ 42000 := fun j => hT.2 40 j
          have A41 : ∀ j, (-2) ≤ τ21.2.1 41 j ∧ τ21.2.1 41 j ≤ 1000 := fun j => hT.2 41 j
          have A42 : ∀ j, (-2147483648) ≤ τ21.2.1 42 j ∧ τ21.2.1 42 j ≤ 2147483647 := fun j => hT.2 42 j
          have A44 : ∀ j, 0 ≤ τ21.2.1 44 j ∧ τ21.2.1 44 j ≤ 42000 := fun j => hT.2 44 j
          have A45 : ∀ j, 0 ≤ τ21.2.1 45 j ∧ τ21.2.1 45 j ≤ 1000 := fun j => hT.2 45 j
          have A49 : ∀ j, (-300) ≤ τ21.2.1 49 j ∧ τ21.2.1 49 j ≤ 67035 := fun j => hT.2 49 j
          have A51 : ∀ j, 0 ≤ τ21.2.1 51 j ∧ τ21.2.1 51 j ≤ 1499 := fun j => hT.2 51 j
          have A52 : ∀ j, 0 ≤ τ21.2.1 52 j ∧ τ21.2.1 52 j ≤ 19999 := fun j => hT.2 52 j
          have A53 : ∀ j, 0 ≤ τ21.2.1 53 j ∧ τ21.2.1 53 j ≤ 19999 := fun j => hT.2 53 j
          have v3 : 0 ≤ τ21.1 3 ∧ τ21.1 3 ≤ 2500 := hT.1 3
          have v5 : 0 ≤ τ21.1 5 ∧ τ21.1 5 ≤ 1000 := hT.1 5
          have v6 : 0 ≤ τ21.1 6 ∧ τ21.1 6 ≤ 30000 := hT.1 6
          have v7 : 0 ≤ τ21.1 7 ∧ τ21.1 7 ≤ 1500 := hT.1 7
          have v13 : 0 ≤ τ21.1 13 ∧ τ21.1 13 ≤ 90000 := hT.1 13
          have v14 : 0 ≤ τ21.1 14 ∧ τ21.1 14 ≤ 20000 := hT.1 14
          have v15 : 0 ≤ τ21.1 15 ∧ τ21.1 15 ≤ 20000 := hT.1 15
          have v16 : 0 ≤ τ21.1 16 ∧ τ21.1 16 ≤ 20000 := hT.1 16
          have v17 : 0 ≤ τ21.1 17 ∧ τ21.1 17 ≤ 42000 := hT.1 17
          have v18 : 0 ≤ τ21.1 18 ∧ τ21.1 18 ≤ 42000 := hT.1 18
          have v21 : 0 ≤ τ21.1 21 ∧ τ21.1 21 ≤ 20000 := hT.1 21
          have v22 : 0 ≤ τ21.1 22 ∧ τ21.1 22 ≤ 300 := hT.1 22
          have v23 : 0 ≤ τ21.1 23 ∧ τ21.1 23 ≤ 300 := hT.1 23
          have v24 : 0 ≤ τ21.1 24 ∧ τ21.1 24 ≤ 1499 := hT.1 24
          have v30 : 0 ≤ τ21.1 30 ∧ τ21.1 30 ≤ 200 := hT.1 30
          have v31 : (-2147483648) ≤ τ21.1 31 ∧ τ21.1 31 ≤ 2147483647 := hT.1 31
          have v32 : 0 ≤ τ21.1 32 ∧ τ21.1 32 ≤ 20000 := hT.1 32
          have a36_15 : 0 ≤ τ21.2.1 36 (τ21.1 15) ∧ τ21.2.1 36 (τ21.1 15) ≤ 20000 := hT.2 36 _
          have av15 : σ.1 15 ≤ τ21.1 15 := ag.1 15 (by decide)
          refine h86 _ _ _ _ ?_
          refine ⟨fun c28 => ?_, fun c28 => ?_⟩
          ·
            refine ⟨(⟨by (first | omega | (simp only [st_s] <;> omega) | assumption | omega | fail), by (first | omega | (simp only [st_s] <;> omega) | assumption | omega | fail)⟩ : rg (u2_29 + 1)), ?_⟩
            exact ih_29 _ _ (show (20001 - (u2_29 + 1) : Int) < ((m_29 : Nat) : Int) from by ((first | omega | (simp only [st_s] <;> omega) | assumption | omega | fail))) hT ag (show τ21.1 3 = σ.1 3 from by first | exact W3 | omega) (show τ21.1 5 = σ.1 5 from by first | exact W5 | omega) (show τ21.1 6 = σ.1 6 from by first | exact W6 | omega) (show τ21.1 7 = σ.1 7 from by first | exact W7 | omega) (show τ21.1 13 = σ.1 13 from by first | exact W13 | omega) (show τ21.1 14 = σ.1 14 from by first | exact W14 | omega) (show τ21.1 16 = σ.1 16 from by first | exact W16 | omega) (show τ21.1 21 = σ.1 21 from by first | exact W21 | omega) (show τ21.1 22 = σ.1 22 from by first | exact W22 | omega) (show τ21.1 24 = σ.1 24 from by first | exact W24 | omega) G10 G13 G14 G15 G16 G27 G28 G29 G30 G31 G32 G49 G51 (show 0 ≤ (u2_29 + 1) from by (first | omega | (simp only [st_s] <;> omega) | assumption | omega | fail)) (show (u2_29 + 1) ≤ (σ.1 21) from by (first | omega | (simp only [st_s] <;> omega) | assumption | omega | fail)) (show J_dt (τ21.1 17) (τ21.1 18) (τ21.1 32) (τ21.2.1 39) (τ21.2.1 40) (τ21.2.1 41) from by (first | exact DT | exact q19_3 (by omega) | (rw [q1_1, q1_2]; exact J_dt0 _ _ _) | (rw [w17_τ27, w18_τ27, w32_τ27, g39_τ27, g40_τ27, g41_τ27]; exact DT) | fail)) (show J_pl (τ21.1 17) (τ21.1 31) (τ21.1 32) (τ21.1 30) (τ21.2.1 42) (τ21.2.1 41) (τ21.2.1 52) from by (first | exact PL | exact q19_4 (by omega) | (rw [q1_1]; exact J_pl0 _ _ _) | (have y := q25_2 (by omega); rw [w17_τ27, y.1, w32_τ27, y.2.2.1, g42_τ27, g41_τ27, y.2.2.2]; have p := ppl; rw [show j_w (τ_29.2.1 42) (τ_29.2.1 41) x24 = 0 from by omega, show τ_29.1 17 + 0 = τ_29.1 17 from by omega] at p; exact p) | fail)) (show J_sv (τ21.1 32) (τ21.1 23) (τ21.2.1 42) (τ21.2.1 53) from by (first | exact SV | exact q19_5 (by omega) | exact J_sv0 _ _ | fail)) (show J_rb (τ21.1 7) (τ21.1 15) (τ21.1 32) (τ21.2.1 13) (τ21.2.1 28) (τ21.2.1 35) (τ21.2.1 36) (τ21.2.1 37) from by (first | exact RB | exact q19_6 (by omega) | exact J_rb0 _ _ _ _ _ _ _ | fail)) (show J_bp (τ21.2.1 44) (τ21.2.1 45) from BP) (show J_all (τ21.1 7) (τ21.1 6) (τ21.1 13) (τ21.1 14) (τ21.1 15) (τ21.2.1 13) (τ21.2.1 14) (τ21.2.1 15) (τ21.2.1 16) (τ21.2.1 10) (τ21.2.1 27) (τ21.2.1 28) (τ21.2.1 29) (τ21.2.1 30) (τ21.2.1 31) (τ21.2.1 32) (τ21.2.1 33) (τ21.2.1 34) (τ21.2.1 35) (τ21.2.1 36) (τ21.2.1 37) from CJ) (show j_eq (σ.2.1 36 (σ.1 15)) (σ.2.1 37) (τ21.2.1 37) from by (first | exact CH | (refine j_eqt CH ?_; have q := q19_9; rw [show τ_29.1 15 = σ.1 15 from by omega] at q; have e36 := ag29 (σ.1 15) (by omega); rw [e36] at q; exact q) | fail)) (show 0 ≤ (τ21.1 31) ∧ (τ21.1 31) ≤ 40000 from by (first | omega | exact q19_2 (by omega) | fail)) (show (τ21.1 32) ≤ (u2_29 + 1) from by (first | omega | (have y := q19_10 (by omega); omega) | fail)) (show τ21.2.1 36 ((τ21.1 15) + (τ21.1 32)) + (τ21.1 30) ≤ (σ.1 16) + (u2_29 + 1) from by (first | (rw [g36_τ3, w15_τ3, show σ.1 15 + 0 = σ.1 15 from by omega]; omega) | (have y := q19_10 (by omega); rw [show τ21.1 15 + τ21.1 32 = τ_29.1 15 + τ_29.1 32 + 1 from by omega]; omega) | (have y := q25_2 (by omega); rw [g36_τ27, w15_τ27, w32_τ27]; omega) | fail)) (show (τ21.1 23) = sv (σ.2.1 49) (u2_29 + 1) from by (first | rfl | (have y := q19_11 (by omega); omega) | (rw [w23_τ27]; omega) | fail)) (show (τ21.1 15) = (σ.1 15) from by (first | omega | (simp only [st_s] <;> omega) | assumption | omega | fail))
          ·
            exact ⟨hT, (show 0 ≤ x20 ∧ x20 ≤ 19 from by (first | omega | (simp only [st_s] <;> omega) | assumption | omega | fail)), (show J_bp (τ21.2.1 44) (τ21.2.1 45) from BP), (show j_eq (σ.2.1 36 (σ.1 15)) (σ.2.1 37) (τ21.2.1 37) from by (first | exact CH | (refine j_eqt CH ?_; have q := q19_9; rw [show τ_29.1 15 = σ.1 15 from by omega] at q; have e36 := ag29 (σ.1 15) (by omega); rw [e36] at q; exact q) | fail)), (show x20 = 0 → J_sp (τ21.1 24) (τ21.1 21) (τ21.1 23) (τ21.1 22) (τ21.2.1 49) (τ21.2.1 51) from by (first | (intro z; exfalso; omega) | (intro z; have e : τ13.1 23 = σ.1 23 := (by rw [w23_τ13, i29_13, show u2_29 = σ.1 21 from by omega]; exact spp.2.1.symm); rw [W24, W21, e, W22, G49, G51]; exact p5) | fail)), (show x20 = 0 → J_r (σ.1 7) (τ21.1 15) (τ21.2.1 13) (τ21.2.1 28) (τ21.2.1 33) (τ21.2.1 34) (τ21.2.1 35) (τ21.2.1 36) (τ21.2.1 37) from by (first | (intro z; exfalso; omega) | (intro z; rw [q11_1, q11_2, q11_3, show τ_29.1 24 = σ.1 7 from by omega, g13_τ13, g28_τ13, g35_τ13, g36_τ13, g37_τ13]; have rb2 := rbx; rw [show τ_29.1 7 = σ.1 7 from by omega] at rb2; exact J_r_new rb2 (by omega)) | fail)), (show x20 = 0 → ∀ r s : Int, (σ.1 15) ≤ r → r ≤ s → s ≤ (τ21.1 15) → τ21.2.1 36 r ≤ τ21.2.1 36 s from by (first | (intro z; exfalso; omega) | (intro z r s a b c; rw [g36_τ13]; exact rle r s (by omega) b (by omega)) | fail)), (show x20 = 0 → (τ21.1 15) ≤ (σ.1 16) + (σ.1 21) ∧ τ21.2.1 36 (τ21.1 15) ≤ (σ.1 16) + (σ.1 21) from by (first | (intro z; exfalso; omega) | (intro z; rw [g36_τ13, q11_1]; omega) | fail)), (show ¬ x20 = 0 → (τ21.1 15) = (σ.1 15) from by (first | omega | (simp only [st_s] <;> omega) | assumption | omega | fail)), ag⟩
        ·
          intro x22 r_x22 e_x22
          have b_x22 : (-300) ≤ x22 ∧ x22 ≤ 67035 := by rw [e_x22]; exact hT.2 49 _
          rw [G49] at e_x22
          refine ⟨(show 0 ≤ (-1 - x22) ∧ (-1 - x22) < 300 from by (first | omega | (simp only [st_s] <;> omega) | assumption | omega | fail)), ?_⟩
          intro x24 r_x24 e_x24
          have b_x24 : 0 ≤ x24 ∧ x24 ≤ 19999 := by rw [e_x24]; exact hT.2 53 _
          have svk := SV (-1 - x22) (by omega) (by omega)
          rw [← e_x24] at svk
          have dk := J_dt_b DT (show 0 ≤ x24 from by omega) svk.1
          have jw := j_w_u (τ_29.2.1 42) (τ_29.2.1 41) x24
          have ppl := J_pl_p PL (r := x24) (by omega) svk.1
          refine ⟨_, K2_X10_putAgain hT (show 0 ≤ x24 from by (first | omega | (simp only [st_s] <;> omega) | assumption | omega | fail)) (show x24 < 20000 from by (first | omega | (simp only [st_s] <;> omega) | assumption | omega | fail)) (show 0 ≤ (τ_29.1 31) ∧ (τ_29.1 31) ≤ 40000 from by (first | omega | (simp only [st_s] <;> omega) | assumption | omega | fail)) (show 0 ≤ τ_29.2.1 41 x24 from by exact dk.1), ?_⟩
          intro x26 τ27 r_x26 hn_τ27 hf_τ27 hq
          obtain ⟨hT, q25_1, q25_2⟩ := hq
          replace q25_1 : 0 ≤ x26 ∧ x26 ≤ 19 := q25_1
          replace q25_2 : x26 = 0 → (τ27.1 31) = (τ_29.1 31) + τ_29.2.1 41 x24 ∧ (τ27.1 31) ≤ 40000 ∧ (τ27.1 30) = (τ_29.1 30) + 1 ∧ τ27.2.1 52 = st (τ_29.2.1 52) (τ_29.1 30) x24 := q25_2
          replace ag : c_ag σ τ27 := ag_r ag hf_τ27 rfl rfl
          have w3_τ27 : τ27.1 3 = τ_29.1 3 := hf_τ27.1 3 (by decide)
          have w5_τ27 : τ27.1 5 = τ_29.1 5 := hf_τ27.1 5 (by decide)
          have w6_τ27 : τ27.1 6 = τ_29.1 6 := hf_τ27.1 6 (by decide)
          have w7_τ27 : τ27.1 7 = τ_29.1 7 := hf_τ27.1 7 (by decide)
          have w13_τ27 : τ27.1 13 = τ_29.1 13 := hf_τ27.1 13 (by decide)
          have w14_τ27 : τ27.1 14 = τ_29.1 14 := hf_τ27.1 14 (by decide)
          have w15_τ27 : τ27.1 15 = τ_29.1 15 := hf_τ27.1 15 (by decide)
          have w16_τ27 : τ27.1 16 = τ_29.1 16 := hf_τ27.1 16 (by decide)
          have w17_τ27 : τ27.1 17 = τ_29.1 17 := hf_τ27.1 17 (by decide)
          have w18_τ27 : τ27.1 18 = τ_29.1 18 := hf_τ27.1 18 (by decide)
          have w21_τ27 : τ27.1 21 = τ_29.1 21 := hf_τ27.1 21 (by decide)
          have w22_τ27 : τ27.1 22 = τ_29.1 22 := hf_τ27.1 22 (by decide)
          have w23_τ27 : τ27.1 23 = τ_29.1 23 := hf_τ27.1 23 (by decide)
          have w24_τ27 : τ27.1 24 = τ_29.1 24 := hf_τ27.1 24 (by decide)
          have w32_τ27 : τ27.1 32 = τ_29.1 32 := hf_τ27.1 32 (by decide)
          have g10_τ27 : τ27.2.1 10 = τ_29.2.1 10 := hf_τ27.2.1 10 (by decide)
          have g13_τ27 : τ27.2.1 13 = τ_29.2.1 13 := hf_τ27.2.1 13 (by decide)
          have g14_τ27 : τ27.2.1 14 = τ_29.2.1 14 := hf_τ27.2.1 14 (by decide)
          have g15_τ27 : τ27.2.1 15 = τ_29.2.1 15 := hf_τ27.2.1 15 (by decide)
          have g16_τ27 : τ27.2.1 16 = τ_29.2.1 16 := hf_τ27.2.1 16 (by decide)
          have g27_τ27 : τ27.2.1 27 = τ_29.2.1 27 := hf_τ27.2.1 27 (by decide)
          have g28_τ27 : τ27.2.1 28 = τ_29.2.1 28 := hf_τ27.2.1 28 (by decide)
          have g29_τ27 : τ27.2.1 29 = τ_29.2.1 29 := hf_τ27.2.1 29 (by decide)
          have g30_τ27 : τ27.2.1 30 = τ_29.2.1 30 := hf_τ27.2.1 30 (by decide)
          have g31_τ27 : τ27.2.1 31 = τ_29.2.1 31 := hf_τ27.2.1 31 (by decide)
          have g32_τ27 : τ27.2.1 32 = τ_29.2.1 32 := hf_τ27.2.1 32 (by decide)
          have g33_τ27 : τ27.2.1 33 = τ_29.2.1 33 := hf_τ27.2.1 33 (by decide)
          have g34_τ27 : τ27.2.1 34 = τ_29.2.1 34 := hf_τ27.2.1 34 (by decide)
          have g35_τ27 : τ27.2.1 35 = τ_29.2.1 35 := hf_τ27.2.1 35 (by decide)
          have g36_τ27 : τ27.2.1 36 = τ_29.2.1 36 := hf_τ27.2.1 36 (by decide)
          have g37_τ27 : τ27.2.1 37 = τ_29.2.1 37 := hf_τ27.2.1 37 (by decide)
          have g39_τ27 : τ27.2.1 39 = τ_29.2.1 39 := hf_τ27.2.1 39 (by decide)
          have g40_τ27 : τ27.2.1 40 = τ_29.2.1 40 := hf_τ27.2.1 40 (by decide)
          have g41_τ27 : τ27.2.1 41 = τ_29.2.1 41 := hf_τ27.2.1 41 (by decide)
          have g42_τ27 : τ27.2.1 42 = τ_29.2.1 42 := hf_τ27.2.1 42 (by decide)
          have g44_τ27 : τ27.2.1 44 = τ_29.2.1 44 := hf_τ27.2.1 44 (by decide)
          have g45_τ27 : τ27.2.1 45 = τ_29.2.1 45 := hf_τ27.2.1 45 (by decide)
          have g49_τ27 : τ27.2.1 49 = τ_29.2.1 49 := hf_τ27.2.1 49 (by decide)
          have g51_τ27 : τ27.2.1 51 = τ_29.2.1 51 := hf_τ27.2.1 51 (by decide)
          have g53_τ27 : τ27.2.1 53 = τ_29.2.1 53 := hf_τ27.2.1 53 (by decide)
          have W3 : τ27.1 3 = σ.1 3 := by first | exact w3_τ27.trans W3 | omega
          have W5 : τ27.1 5 = σ.1 5 := by first | exact w5_τ27.trans W5 | omega
          have W6 : τ27.1 6 = σ.1 6 := by first | exact w6_τ27.trans W6 | omega
          have W7 : τ27.1 7 = σ.1 7 := by first | exact w7_τ27.trans W7 | omega
          have W13 : τ27.1 13 = σ.1 13 := by first | exact w13_τ27.trans W13 | omega
          have W14 : τ27.1 14 = σ.1 14 := by first | exact w14_τ27.trans W14 | omega
          have W16 : τ27.1 16 = σ.1 16 := by first | exact w16_τ27.trans W16 | omega
          have W21 : τ27.1 21 = σ.1 21 := by first | exact w21_τ27.trans W21 | omega
          have W22 : τ27.1 22 = σ.1 22 := by first | exact w22_τ27.trans W22 | omega
          have W24 : τ27.1 24 = σ.1 24 := by first | exact w24_τ27.trans W24 | omega
          have G10 : τ27.2.1 10 = σ.2.1 10 := (g10_τ27).trans G10
          have G13 : τ27.2.1 13 = σ.2.1 13 := (g13_τ27).trans G13
          have G14 : τ27.2.1 14 = σ.2.1 14 := (g14_τ27).trans G14
          have G15 : τ27.2.1 15 = σ.2.1 15 := (g15_τ27).trans G15
          have G16 : τ27.2.1 16 = σ.2.1 16 := (g16_τ27).trans G16
          have G27 : τ27.2.1 27 = σ.2.1 27 := (g27_τ27).trans G27
          have G28 : τ27.2.1 28 = σ.2.1 28 := (g28_τ27).trans G28
          have G29 : τ27.2.1 29 = σ.2.1 29 := (g29_τ27).trans G29
          have G30 : τ27.2.1 30 = σ.2.1 30 := (g30_τ27).trans G30
          have G31 : τ27.2.1 31 = σ.2.1 31 := (g31_τ27).trans G31
          have G32 : τ27.2.1 32 = σ.2.1 32 := (g32_τ27).trans G32
          have G49 : τ27.2.1 49 = σ.2.1 49 := (g49_τ27).trans G49
          have G51 : τ27.2.1 51 = σ.2.1 51 := (g51_τ27).trans G51
          have y36_15_τ27 : τ27.2.1 36 (τ27.1 15) = (τ_29.2.1 36) (τ_29.1 15) := by rw [g36_τ27, w15_τ27]
          have TX : J_vs (τ27.1 6) (τ27.1 5) (τ27.2.1 15) := by rw [show (J_vs (τ27.1 6) (τ27.1 5) (τ27.2.1 15)) = (J_vs (τ_29.1 6) (τ_29.1 5) (τ_29.2.1 15)) from by rw [w5_τ27, w6_τ27, g15_τ27]]; exact TX
          have CJ : J_all (τ27.1 7) (τ27.1 6) (τ27.1 13) (τ27.1 14) (τ27.1 15) (τ27.2.1 13) (τ27.2.1 14) (τ27.2.1 15) (τ27.2.1 16) (τ27.2.1 10) (τ27.2.1 27) (τ27.2.1 28) (τ27.2.1 29) (τ27.2.1 30) (τ27.2.1 31) (τ27.2.1 32) (τ27.2.1 33) (τ27.2.1 34) (τ27.2.1 35) (τ27.2.1 36) (τ27.2.1 37) := by rw [show (J_all (τ27.1 7) (τ27.1 6) (τ27.1 13) (τ27.1 14) (τ27.1 15) (τ27.2.1 13) (τ27.2.1 14) (τ27.2.1 15) (τ27.2.1 16) (τ27.2.1 10) (τ27.2.1 27) (τ27.2.1 28) (τ27.2.1 29) (τ27.2.1 30) (τ27.2.1 31) (τ27.2.1 32) (τ27.2.1 33) (τ27.2.1 34) (τ27.2.1 35) (τ27.2.1 36) (τ27.2.1 37)) = (J_all (τ_29.1 7) (τ_29.1 6) (τ_29.1 13) (τ_29.1 14) (τ_29.1 15) (τ_29.2.1 13) (τ_29.2.1 14) (τ_29.2.1 15) (τ_29.2.1 16) (τ_29.2.1 10) (τ_29.2.1 27) (τ_29.2.1 28) (τ_29.2.1 29) (τ_29.2.1 30) (τ_29.2.1 31) (τ_29.2.1 32) (τ_29.2.1 33) (τ_29.2.1 34) (τ_29.2.1 35) (τ_29.2.1 36) (τ_29.2.1 37)) from by rw [w6_τ27, w7_τ27, w13_τ27, w14_τ27, w15_τ27, g10_τ27, g13_τ27, g14_τ27, g15_τ27, g16_τ27, g27_τ27, g28_τ27, g29_τ27, g30_τ27, g31_τ27, g32_τ27, g33_τ27, g34_τ27, g35_τ27, g36_τ27, g37_τ27]]; exact CJ
          have BP : J_bp (τ27.2.1 44) (τ27.2.1 45) := by rw [show (J_bp (τ27.2.1 44) (τ27.2.1 45)) = (J_bp (τ_29.2.1 44) (τ_29.2.1 45)) from by rw [g44_τ27, g45_τ27]]; exact BP
          have DT : J_dt (τ27.1 17) (τ27.1 18) (τ27.1 32) (τ27.2.1 39) (τ27.2.1 40) (τ27.2.1 41) := by rw [show (J_dt (τ27.1 17) (τ27.1 18) (τ27.1 32) (τ27.2.1 39) (τ27.2.1 40) (τ27.2.1 41)) = (J_dt (τ_29.1 17) (τ_29.1 18) (τ_29.1 32) (τ_29.2.1 39) (τ_29.2.1 40) (τ_29.2.1 41)) from by rw [w17_τ27, w18_τ27, w32_τ27, g39_τ27, g40_τ27, g41_τ27]]; exact DT
          have SV : J_sv (τ27.1 32) (τ27.1 23) (τ27.2.1 42) (τ27.2.1 53) := by rw [show (J_sv (τ27.1 32) (τ27.1 23) (τ27.2.1 42) (τ27.2.1 53)) = (J_sv (τ_29.1 32) (τ_29.1 23) (τ_29.2.1 42) (τ_29.2.1 53)) from by rw [w23_τ27, w32_τ27, g42_τ27, g53_τ27]]; exact SV
          have RB : J_rb (τ27.1 7) (τ27.1 15) (τ27.1 32) (τ27.2.1 13) (τ27.2.1 28) (τ27.2.1 35) (τ27.2.1 36) (τ27.2.1 37) := by rw [show (J_rb (τ27.1 7) (τ27.1 15) (τ27.1 32) (τ27.2.1 13) (τ27.2.1 28) (τ27.2.1 35) (τ27.2.1 36) (τ27.2.1 37)) = (J_rb (τ_29.1 7) (τ_29.1 15) (τ_29.1 32) (τ_29.2.1 13) (τ_29.2.1 28) (τ_29.2.1 35) (τ_29.2.1 36) (τ_29.2.1 37)) from by rw [w7_τ27, w15_τ27, w32_τ27, g13_τ27, g28_τ27, g35_τ27, g36_τ27, g37_τ27]]; exact RB
          have CH : j_eq (σ.2.1 36 (σ.1 15)) (σ.2.1 37) (τ27.2.1 37) := by rw [show (j_eq (σ.2.1 36 (σ.1 15)) (σ.2.1 37) (τ27.2.1 37)) = (j_eq (σ.2.1 36 (σ.1 15)) (σ.2.1 37) (τ_29.2.1 37)) from by rw [g37_τ27]]; exact CH
          have A10 : ∀ j, (-1) ≤ τ27.2.1 10 j ∧ τ27.2.1 10 j ≤ 99 := fun j => hT.2 10 j
          have A13 : ∀ j, 0 ≤ τ27.2.1 13 j ∧ τ27.2.1 13 j ≤ 4 := fun j => hT.2 13 j
          have A14 : ∀ j, 0 ≤ τ27.2.1 14 j ∧ τ27.2.1 14 j ≤ 30000 := fun j => hT.2 14 j
          have A15 : ∀ j, 0 ≤ τ27.2.1 15 j ∧ τ27.2.1 15 j ≤ 999 := fun j => hT.2 15 j
          have A16 : ∀ j, (-1) ≤ τ27.2.1 16 j ∧ τ27.2.1 16 j ≤ 1499 := fun j => hT.2 16 j
          have A27 : ∀ j, 0 ≤ τ27.2.1 27 j ∧ τ27.2.1 27 j ≤ 90000 := fun j => hT.2 27 j
          have A28 : ∀ j, 0 ≤ τ27.2.1 28 j ∧ τ27.2.1 28 j ≤ 60 := fun j => hT.2 28 j
          have A29 : ∀ j, 0 ≤ τ27.2.1 29 j ∧ τ27.2.1 29 j ≤ 1499 := fun j => hT.2 29 j
          have A30 : ∀ j, 0 ≤ τ27.2.1 30 j ∧ τ27.2.1 30 j ≤ 20000 := fun j => hT.2 30 j
          have A31 : ∀ j, 0 ≤ τ27.2.1 31 j ∧ τ27.2.1 31 j ≤ 20000 := fun j => hT.2 31 j
          have A32 : ∀ j, 0 ≤ τ27.2.1 32 j ∧ τ27.2.1 32 j ≤ 999999 := fun j => hT.2 32 j
          have A33 : ∀ j, 0 ≤ τ27.2.1 33 j ∧ τ27.2.1 33 j ≤ 20000 := fun j => hT.2 33 j
          have A34 : ∀ j, 0 ≤ τ27.2.1 34 j ∧ τ27.2.1 34 j ≤ 20000 := fun j => hT.2 34 j
          have A35 : ∀ j, 0 ≤ τ27.2.1 35 j ∧ τ27.2.1 35 j ≤ 1499 := fun j => hT.2 35 j
          have A36 : ∀ j, 0 ≤ τ27.2.1 36 j ∧ τ27.2.1 36 j ≤ 20000 := fun j => hT.2 36 j
          have A37 : ∀ j, 0 ≤ τ27.2.1 37 j ∧ τ27.2.1 37 j ≤ 19999 := fun j => hT.2 37 j
          have A39 : ∀ j, 0 ≤ τ27.2.1 39 j ∧ τ27.2.1 39 j ≤ 1060 := fun j => hT.2 39 j
          have A40 : ∀ j, 0 ≤ τ27.2.1 40 j ∧ τ27.2.1 40 j ≤ 42000 := fun j => hT.2 40 j
          have A41 : ∀ j, (-2) ≤ τ27.2.1 41 j ∧ τ27.2.1 41 j ≤ 1000 := fun j => hT.2 41 j
          have A42 : ∀ j, (-2147483648) ≤ τ27.2.1 42 j ∧ τ27.2.1 42 j ≤ 2147483647 := fun j => hT.2 42 j
          have A44 : ∀ j, 0 ≤ τ27.2.1 44 j ∧ τ27.2.1 44 j ≤ 42000 := fun j => hT.2 44 j
          have A45 : ∀ j, 0 ≤ τ27.2.1 45 j ∧ τ27.2.1 45 j ≤ 1000 := fun j => hT.2 45 j
          have A49 : ∀ j, (-300) ≤ τ27.2.1 49 j ∧ τ27.2.1 49 j ≤ 67035 := fun j => hT.2 49 j
          have A51 : ∀ j, 0 ≤ τ27.2.1 51 j ∧ τ27.2.1 51 j ≤ 1499 := fun j => hT.2 51 j
          have A52 : ∀ j, 0 ≤ τ27.2.1 52 j ∧ τ27.2.1 52 j ≤ 19999 := fun j => hT.2 52 j
          have A53 : ∀ j, 0 ≤ τ27.2.1 53 j ∧ τ27.2.1 53 j ≤ 19999 := fun j => hT.2 53 j
          have v3 : 0 ≤ τ27.1 3 ∧ τ27.1 3 ≤ 2500 := hT.1 3
          have v5 : 0 ≤ τ27.1 5 ∧ τ27.1 5 ≤ 1000 := hT.1 5
          have v6 : 0 ≤ τ27.1 6 ∧ τ27.1 6 ≤ 30000 := hT.1 6
          have v7 : 0 ≤ τ27.1 7 ∧ τ27.1 7 ≤ 1500 := hT.1 7
          have v13 : 0 ≤ τ27.1 13 ∧ τ27.1 13 ≤ 90000 := hT.1 13
          have v14 : 0 ≤ τ27.1 14 ∧ τ27.1 14 ≤ 20000 := hT.1 14
          have v15 : 0 ≤ τ27.1 15 ∧ τ27.1 15 ≤ 20000 := hT.1 15
          have v16 : 0 ≤ τ27.1 16 ∧ τ27.1 16 ≤ 20000 := hT.1 16
          have v17 : 0 ≤ τ27.1 17 ∧ τ27.1 17 ≤ 42000 := hT.1 17
          have v18 : 0 ≤ τ27.1 18 ∧ τ27.1 18 ≤ 42000 := hT.1 18
          have v21 : 0 ≤ τ27.1 21 ∧ τ27.1 21 ≤ 20000 := hT.1 21
          have v22 : 0 ≤ τ27.1 22 ∧ τ27.1 22 ≤ 300 := hT.1 22
          have v23 : 0 ≤ τ27.1 23 ∧ τ27.1 23 ≤ 300 := hT.1 23
          have v24 : 0 ≤ τ27.1 24 ∧ τ27.1 24 ≤ 1499 := hT.1 24
          have v30 : 0 ≤ τ27.1 30 ∧ τ27.1 30 ≤ 200 := hT.1 30
          have v31 : (-2147483648) ≤ τ27.1 31 ∧ τ27.1 31 ≤ 2147483647 := hT.1 31
          have v32 : 0 ≤ τ27.1 32 ∧ τ27.1 32 ≤ 20000 := hT.1 32
          have a36_15 : 0 ≤ τ27.2.1 36 (τ27.1 15) ∧ τ27.2.1 36 (τ27.1 15) ≤ 20000 := hT.2 36 _
          have av15 : σ.1 15 ≤ τ27.1 15 := ag.1 15 (by decide)
          refine h86 _ _ _ _ ?_
          refine ⟨fun c28 => ?_, fun c28 => ?_⟩
          ·
            refine ⟨(⟨by (first | omega | (simp only [st_s] <;> omega) | assumption | omega | fail), by (first | omega | (simp only [st_s] <;> omega) | assumption | omega | fail)⟩ : rg (u2_29 + 1)), ?_⟩
            exact ih_29 _ _ (show (20001 - (u2_29 + 1) : Int) < ((m_29 : Nat) : Int) from by ((first | omega | (simp only [st_s] <;> omega) | assumption | omega | fail))) hT ag (show τ27.1 3 = σ.1 3 from by first | exact W3 | omega) (show τ27.1 5 = σ.1 5 from by first | exact W5 | omega) (show τ27.1 6 = σ.1 6 from by first | exact W6 | omega) (show τ27.1 7 = σ.1 7 from by first | exact W7 | omega) (show τ27.1 13 = σ.1 13 from by first | exact W13 | omega) (show τ27.1 14 = σ.1 14 from by first | exact W14 | omega) (show τ27.1 16 = σ.1 16 from by first | exact W16 | omega) (show τ27.1 21 = σ.1 21 from by first | exact W21 | omega) (show τ27.1 22 = σ.1 22 from by first | exact W22 | omega) (show τ27.1 24 = σ.1 24 from by first | exact W24 | omega) G10 G13 G14 G15 G16 G27 G28 G29 G30 G31 G32 G49 G51 (show 0 ≤ (u2_29 + 1) from by (first | omega | (simp only [st_s] <;> omega) | assumption | omega | fail)) (show (u2_29 + 1) ≤ (σ.1 21) from by (first | omega | (simp only [st_s] <;> omega) | assumption | omega | fail)) (show J_dt (τ27.1 17) (τ27.1 18) (τ27.1 32) (τ27.2.1 39) (τ27.2.1 40) (τ27.2.1 41) from DT) (show J_pl (τ27.1 17) (τ27.1 31) (τ27.1 32) (τ27.1 30) (τ27.2.1 42) (τ27.2.1 41) (τ27.2.1 52) from by (first | exact PL | exact q19_4 (by omega) | (rw [q1_1]; exact J_pl0 _ _ _) | (have y := q25_2 (by omega); rw [w17_τ27, y.1, w32_τ27, y.2.2.1, g42_τ27, g41_τ27, y.2.2.2]; have p := ppl; rw [show j_w (τ_29.2.1 42) (τ_29.2.1 41) x24 = 0 from by omega, show τ_29.1 17 + 0 = τ_29.1 17 from by omega] at p; exact p) | fail)) (show J_sv (τ27.1 32) (τ27.1 23) (τ27.2.1 42) (τ27.2.1 53) from SV) (show J_rb (τ27.1 7) (τ27.1 15) (τ27.1 32) (τ27.2.1 13) (τ27.2.1 28) (τ27.2.1 35) (τ27.2.1 36) (τ27.2.1 37) from RB) (show J_bp (τ27.2.1 44) (τ27.2.1 45) from BP) (show J_all (τ27.1 7) (τ27.1 6) (τ27.1 13) (τ27.1 14) (τ27.1 15) (τ27.2.1 13) (τ27.2.1 14) (τ27.2.1 15) (τ27.2.1 16) (τ27.2.1 10) (τ27.2.1 27) (τ27.2.1 28) (τ27.2.1 29) (τ27.2.1 30) (τ27.2.1 31) (τ27.2.1 32) (τ27.2.1 33) (τ27.2.1 34) (τ27.2.1 35) (τ27.2.1 36) (τ27.2.1 37) from CJ) (show j_eq (σ.2.1 36 (σ.1 15)) (σ.2.1 37) (τ27.2.1 37) from CH) (show 0 ≤ (τ27.1 31) ∧ (τ27.1 31) ≤ 40000 from by (first | omega | exact q19_2 (by omega) | fail)) (show (τ27.1 32) ≤ (u2_29 + 1) from by (first | omega | (have y := q19_10 (by omega); omega) | fail)) (show τ27.2.1 36 ((τ27.1 15) + (τ27.1 32)) + (τ27.1 30) ≤ (σ.1 16) + (u2_29 + 1) from by (first | (rw [g36_τ3, w15_τ3, show σ.1 15 + 0 = σ.1 15 from by omega]; omega) | (have y := q19_10 (by omega); rw [show τ21.1 15 + τ21.1 32 = τ_29.1 15 + τ_29.1 32 + 1 from by omega]; omega) | (have y := q25_2 (by omega); rw [g36_τ27, w15_τ27, w32_τ27]; omega) | fail)) (show (τ27.1 23) = sv (σ.2.1 49) (u2_29 + 1) from by (first | rfl | (have y := q19_11 (by omega); omega) | (rw [w23_τ27]; omega) | fail)) (show (τ27.1 15) = (σ.1 15) from by (first | omega | (simp only [st_s] <;> omega) | assumption | omega | fail))
          ·
            exact ⟨hT, (show 0 ≤ x26 ∧ x26 ≤ 19 from by (first | omega | (simp only [st_s] <;> omega) | assumption | omega | fail)), (show J_bp (τ27.2.1 44) (τ27.2.1 45) from BP), (show j_eq (σ.2.1 36 (σ.1 15)) (σ.2.1 37) (τ27.2.1 37) from CH), (show x26 = 0 → J_sp (τ27.1 24) (τ27.1 21) (τ27.1 23) (τ27.1 22) (τ27.2.1 49) (τ27.2.1 51) from by (first | (intro z; exfalso; omega) | (intro z; have e : τ13.1 23 = σ.1 23 := (by rw [w23_τ13, i29_13, show u2_29 = σ.1 21 from by omega]; exact spp.2.1.symm); rw [W24, W21, e, W22, G49, G51]; exact p5) | fail)), (show x26 = 0 → J_r (σ.1 7) (τ27.1 15) (τ27.2.1 13) (τ27.2.1 28) (τ27.2.1 33) (τ27.2.1 34) (τ27.2.1 35) (τ27.2.1 36) (τ27.2.1 37) from by (first | (intro z; exfalso; omega) | (intro z; rw [q11_1, q11_2, q11_3, show τ_29.1 24 = σ.1 7 from by omega, g13_τ13, g28_τ13, g35_τ13, g36_τ13, g37_τ13]; have rb2 := rbx; rw [show τ_29.1 7 = σ.1 7 from by omega] at rb2; exact J_r_new rb2 (by omega)) | fail)), (show x26 = 0 → ∀ r s : Int, (σ.1 15) ≤ r → r ≤ s → s ≤ (τ27.1 15) → τ27.2.1 36 r ≤ τ27.2.1 36 s from by (first | (intro z; exfalso; omega) | (intro z r s a b c; rw [g36_τ13]; exact rle r s (by omega) b (by omega)) | fail)), (show x26 = 0 → (τ27.1 15) ≤ (σ.1 16) + (σ.1 21) ∧ τ27.2.1 36 (τ27.1 15) ≤ (σ.1 16) + (σ.1 21) from by (first | (intro z; exfalso; omega) | (intro z; rw [g36_τ13, q11_1]; omega) | fail)), (show ¬ x26 = 0 → (τ27.1 15) = (σ.1 15) from by (first | omega | (simp only [st_s] <;> omega) | assumption | omega | fail)), ag⟩
  refine ⟨_, K2_X6_clear hT, ?_⟩
  intro τ3 hn_τ3 hf_τ3 hq
  obtain ⟨hT, q1_1, q1_2⟩ := hq
  replace q1_1 : (τ3.1 17) = 0 := q1_1
  replace q1_2 : (τ3.1 18) = 42000 := q1_2
  replace ag : c_ag σ τ3 := ag_r ag hf_τ3 rfl rfl
  have w3_τ3 : τ3.1 3 = σ.1 3 := hf_τ3.1 3 (by decide)
  have w5_τ3 : τ3.1 5 = σ.1 5 := hf_τ3.1 5 (by decide)
  have w6_τ3 : τ3.1 6 = σ.1 6 := hf_τ3.1 6 (by decide)
  have w7_τ3 : τ3.1 7 = σ.1 7 := hf_τ3.1 7 (by decide)
  have w13_τ3 : τ3.1 13 = σ.1 13 := hf_τ3.1 13 (by decide)
  have w14_τ3 : τ3.1 14 = σ.1 14 := hf_τ3.1 14 (by decide)
  have w15_τ3 : τ3.1 15 = σ.1 15 := hf_τ3.1 15 (by decide)
  have w16_τ3 : τ3.1 16 = σ.1 16 := hf_τ3.1 16 (by decide)
  have w21_τ3 : τ3.1 21 = σ.1 21 := hf_τ3.1 21 (by decide)
  have w22_τ3 : τ3.1 22 = σ.1 22 := hf_τ3.1 22 (by decide)
  have w23_τ3 : τ3.1 23 = σ.1 23 := hf_τ3.1 23 (by decide)
  have w24_τ3 : τ3.1 24 = σ.1 24 := hf_τ3.1 24 (by decide)
  have w30_τ3 : τ3.1 30 = σ.1 30 := hf_τ3.1 30 (by decide)
  have w31_τ3 : τ3.1 31 = σ.1 31 := hf_τ3.1 31 (by decide)
  have w32_τ3 : τ3.1 32 = σ.1 32 := hf_τ3.1 32 (by decide)
  have g10_τ3 : τ3.2.1 10 = σ.2.1 10 := hf_τ3.2.1 10 (by decide)
  have g13_τ3 : τ3.2.1 13 = σ.2.1 13 := hf_τ3.2.1 13 (by decide)
  have g14_τ3 : τ3.2.1 14 = σ.2.1 14 := hf_τ3.2.1 14 (by decide)
  have g15_τ3 : τ3.2.1 15 = σ.2.1 15 := hf_τ3.2.1 15 (by decide)
  have g16_τ3 : τ3.2.1 16 = σ.2.1 16 := hf_τ3.2.1 16 (by decide)
  have g27_τ3 : τ3.2.1 27 = σ.2.1 27 := hf_τ3.2.1 27 (by decide)
  have g28_τ3 : τ3.2.1 28 = σ.2.1 28 := hf_τ3.2.1 28 (by decide)
  have g29_τ3 : τ3.2.1 29 = σ.2.1 29 := hf_τ3.2.1 29 (by decide)
  have g30_τ3 : τ3.2.1 30 = σ.2.1 30 := hf_τ3.2.1 30 (by decide)
  have g31_τ3 : τ3.2.1 31 = σ.2.1 31 := hf_τ3.2.1 31 (by decide)
  have g32_τ3 : τ3.2.1 32 = σ.2.1 32 := hf_τ3.2.1 32 (by decide)
  have g33_τ3 : τ3.2.1 33 = σ.2.1 33 := hf_τ3.2.1 33 (by decide)
  have g34_τ3 : τ3.2.1 34 = σ.2.1 34 := hf_τ3.2.1 34 (by decide)
  have g35_τ3 : τ3.2.1 35 = σ.2.1 35 := hf_τ3.2.1 35 (by decide)
  have g36_τ3 : τ3.2.1 36 = σ.2.1 36 := hf_τ3.2.1 36 (by decide)
  have g37_τ3 : τ3.2.1 37 = σ.2.1 37 := hf_τ3.2.1 37 (by decide)
  have g39_τ3 : τ3.2.1 39 = σ.2.1 39 := hf_τ3.2.1 39 (by decide)
  have g40_τ3 : τ3.2.1 40 = σ.2.1 40 := hf_τ3.2.1 40 (by decide)
  have g41_τ3 : τ3.2.1 41 = σ.2.1 41 := hf_τ3.2.1 41 (by decide)
  have g42_τ3 : τ3.2.1 42 = σ.2.1 42 := hf_τ3.2.1 42 (by decide)
  have g44_τ3 : τ3.2.1 44 = σ.2.1 44 := hf_τ3.2.1 44 (by decide)
  have g45_τ3 : τ3.2.1 45 = σ.2.1 45 := hf_τ3.2.1 45 (by decide)
  have g49_τ3 : τ3.2.1 49 = σ.2.1 49 := hf_τ3.2.1 49 (by decide)
  have g51_τ3 : τ3.2.1 51 = σ.2.1 51 := hf_τ3.2.1 51 (by decide)
  have g52_τ3 : τ3.2.1 52 = σ.2.1 52 := hf_τ3.2.1 52 (by decide)
  have g53_τ3 : τ3.2.1 53 = σ.2.1 53 := hf_τ3.2.1 53 (by decide)
  have W3 : τ3.1 3 = σ.1 3 := by first | exact w3_τ3.trans W3 | omega
  have W5 : τ3.1 5 = σ.1 5 := by first | exact w5_τ3.trans W5 | omega
  have W6 : τ3.1 6 = σ.1 6 := by first | exact w6_τ3.trans W6 | omega
  have W7 : τ3.1 7 = σ.1 7 := by first | exact w7_τ3.trans W7 | omega
  have W13 : τ3.1 13 = σ.1 13 := by first | exact w13_τ3.trans W13 | omega
  have W14 : τ3.1 14 = σ.1 14 := by first | exact w14_τ3.trans W14 | omega
  have W16 : τ3.1 16 = σ.1 16 := by first | exact w16_τ3.trans W16 | omega
  have W21 : τ3.1 21 = σ.1 21 := by first | exact w21_τ3.trans W21 | omega
  have W22 : τ3.1 22 = σ.1 22 := by first | exact w22_τ3.trans W22 | omega
  have W24 : τ3.1 24 = σ.1 24 := by first | exact w24_τ3.trans W24 | omega
  have G10 : τ3.2.1 10 = σ.2.1 10 := (g10_τ3).trans G10
  have G13 : τ3.2.1 13 = σ.2.1 13 := (g13_τ3).trans G13
  have G14 : τ3.2.1 14 = σ.2.1 14 := (g14_τ3).trans G14
  have G15 : τ3.2.1 15 = σ.2.1 15 := (g15_τ3).trans G15
  have G16 : τ3.2.1 16 = σ.2.1 16 := (g16_τ3).trans G16
  have G27 : τ3.2.1 27 = σ.2.1 27 := (g27_τ3).trans G27
  have G28 : τ3.2.1 28 = σ.2.1 28 := (g28_τ3).trans G28
  have G29 : τ3.2.1 29 = σ.2.1 29 := (g29_τ3).trans G29
  have G30 : τ3.2.1 30 = σ.2.1 30 := (g30_τ3).trans G30
  have G31 : τ3.2.1 31 = σ.2.1 31 := (g31_τ3).trans G31
  have G32 : τ3.2.1 32 = σ.2.1 32 := (g32_τ3).trans G32
  have G49 : τ3.2.1 49 = σ.2.1 49 := (g49_τ3).trans G49
  have G51 : τ3.2.1 51 = σ.2.1 51 := (g51_τ3).trans G51
  have y36_15_τ3 : τ3.2.1 36 (τ3.1 15) = (σ.2.1 36) (σ.1 15) := by rw [g36_τ3, w15_τ3]
  have TX : J_vs (τ3.1 6) (τ3.1 5) (τ3.2.1 15) := by rw [show (J_vs (τ3.1 6) (τ3.1 5) (τ3.2.1 15)) = (J_vs (σ.1 6) (σ.1 5) (σ.2.1 15)) from by rw [w5_τ3, w6_τ3, g15_τ3]]; exact TX
  have CJ : J_all (τ3.1 7) (τ3.1 6) (τ3.1 13) (τ3.1 14) (τ3.1 15) (τ3.2.1 13) (τ3.2.1 14) (τ3.2.1 15) (τ3.2.1 16) (τ3.2.1 10) (τ3.2.1 27) (τ3.2.1 28) (τ3.2.1 29) (τ3.2.1 30) (τ3.2.1 31) (τ3.2.1 32) (τ3.2.1 33) (τ3.2.1 34) (τ3.2.1 35) (τ3.2.1 36) (τ3.2.1 37) := by rw [show (J_all (τ3.1 7) (τ3.1 6) (τ3.1 13) (τ3.1 14) (τ3.1 15) (τ3.2.1 13) (τ3.2.1 14) (τ3.2.1 15) (τ3.2.1 16) (τ3.2.1 10) (τ3.2.1 27) (τ3.2.1 28) (τ3.2.1 29) (τ3.2.1 30) (τ3.2.1 31) (τ3.2.1 32) (τ3.2.1 33) (τ3.2.1 34) (τ3.2.1 35) (τ3.2.1 36) (τ3.2.1 37)) = (J_all (σ.1 7) (σ.1 6) (σ.1 13) (σ.1 14) (σ.1 15) (σ.2.1 13) (σ.2.1 14) (σ.2.1 15) (σ.2.1 16) (σ.2.1 10) (σ.2.1 27) (σ.2.1 28) (σ.2.1 29) (σ.2.1 30) (σ.2.1 31) (σ.2.1 32) (σ.2.1 33) (σ.2.1 34) (σ.2.1 35) (σ.2.1 36) (σ.2.1 37)) from by rw [w6_τ3, w7_τ3, w13_τ3, w14_τ3, w15_τ3, g10_τ3, g13_τ3, g14_τ3, g15_τ3, g16_τ3, g27_τ3, g28_τ3, g29_τ3, g30_τ3, g31_τ3, g32_τ3, g33_τ3, g34_τ3, g35_τ3, g36_τ3, g37_τ3]]; exact CJ
  have BP : J_bp (τ3.2.1 44) (τ3.2.1 45) := by rw [show (J_bp (τ3.2.1 44) (τ3.2.1 45)) = (J_bp (σ.2.1 44) (σ.2.1 45)) from by rw [g44_τ3, g45_τ3]]; exact BP
  have SP : J_sp (τ3.1 24) (τ3.1 21) (τ3.1 23) (τ3.1 22) (τ3.2.1 49) (τ3.2.1 51) := by rw [show (J_sp (τ3.1 24) (τ3.1 21) (τ3.1 23) (τ3.1 22) (τ3.2.1 49) (τ3.2.1 51)) = (J_sp (σ.1 24) (σ.1 21) (σ.1 23) (σ.1 22) (σ.2.1 49) (σ.2.1 51)) from by rw [w21_τ3, w22_τ3, w23_τ3, w24_τ3, g49_τ3, g51_τ3]]; exact SP
  have CH : j_eq (σ.2.1 36 (σ.1 15)) (σ.2.1 37) (τ3.2.1 37) := by rw [show (j_eq (σ.2.1 36 (σ.1 15)) (σ.2.1 37) (τ3.2.1 37)) = (j_eq (σ.2.1 36 (σ.1 15)) (σ.2.1 37) (σ.2.1 37)) from by rw [g37_τ3]]; exact CH
  have A10 : ∀ j, (-1) ≤ τ3.2.1 10 j ∧ τ3.2.1 10 j ≤ 99 := fun j => hT.2 10 j
  have A13 : ∀ j, 0 ≤ τ3.2.1 13 j ∧ τ3.2.1 13 j ≤ 4 := fun j => hT.2 13 j
  have A14 : ∀ j, 0 ≤ τ3.2.1 14 j ∧ τ3.2.1 14 j ≤ 30000 := fun j => hT.2 14 j
  have A15 : ∀ j, 0 ≤ τ3.2.1 15 j ∧ τ3.2.1 15 j ≤ 999 := fun j => hT.2 15 j
  have A16 : ∀ j, (-1) ≤ τ3.2.1 16 j ∧ τ3.2.1 16 j ≤ 1499 := fun j => hT.2 16 j
  have A27 : ∀ j, 0 ≤ τ3.2.1 27 j ∧ τ3.2.1 27 j ≤ 90000 := fun j => hT.2 27 j
  have A28 : ∀ j, 0 ≤ τ3.2.1 28 j ∧ τ3.2.1 28 j ≤ 60 := fun j => hT.2 28 j
  have A29 : ∀ j, 0 ≤ τ3.2.1 29 j ∧ τ3.2.1 29 j ≤ 1499 := fun j => hT.2 29 j
  have A30 : ∀ j, 0 ≤ τ3.2.1 30 j ∧ τ3.2.1 30 j ≤ 20000 := fun j => hT.2 30 j
  have A31 : ∀ j, 0 ≤ τ3.2.1 31 j ∧ τ3.2.1 31 j ≤ 20000 := fun j => hT.2 31 j
  have A32 : ∀ j, 0 ≤ τ3.2.1 32 j ∧ τ3.2.1 32 j ≤ 999999 := fun j => hT.2 32 j
  have A33 : ∀ j, 0 ≤ τ3.2.1 33 j ∧ τ3.2.1 33 j ≤ 20000 := fun j => hT.2 33 j
  have A34 : ∀ j, 0 ≤ τ3.2.1 34 j ∧ τ3.2.1 34 j ≤ 20000 := fun j => hT.2 34 j
  have A35 : ∀ j, 0 ≤ τ3.2.1 35 j ∧ τ3.2.1 35 j ≤ 1499 := fun j => hT.2 35 j
  have A36 : ∀ j, 0 ≤ τ3.2.1 36 j ∧ τ3.2.1 36 j ≤ 20000 := fun j => hT.2 36 j
  have A37 : ∀ j, 0 ≤ τ3.2.1 37 j ∧ τ3.2.1 37 j ≤ 19999 := fun j => hT.2 37 j
  have A39 : ∀ j, 0 ≤ τ3.2.1 39 j ∧ τ3.2.1 39 j ≤ 1060 := fun j => hT.2 39 j
  have A40 : ∀ j, 0 ≤ τ3.2.1 40 j ∧ τ3.2.1 40 j ≤ 42000 := fun j => hT.2 40 j
  have A41 : ∀ j, (-2) ≤ τ3.2.1 41 j ∧ τ3.2.1 41 j ≤ 1000 := fun j => hT.2 41 j
  have A42 : ∀ j, (-2147483648) ≤ τ3.2.1 42 j ∧ τ3.2.1 42 j ≤ 2147483647 := fun j => hT.2 42 j
  have A44 : ∀ j, 0 ≤ τ3.2.1 44 j ∧ τ3.2.1 44 j ≤ 42000 := fun j => hT.2 44 j
  have A45 : ∀ j, 0 ≤ τ3.2.1 45 j ∧ τ3.2.1 45 j ≤ 1000 := fun j => hT.2 45 j
  have A49 : ∀ j, (-300) ≤ τ3.2.1 49 j ∧ τ3.2.1 49 j ≤ 67035 := fun j => hT.2 49 j
  have A51 : ∀ j, 0 ≤ τ3.2.1 51 j ∧ τ3.2.1 51 j ≤ 1499 := fun j => hT.2 51 j
  have A52 : ∀ j, 0 ≤ τ3.2.1 52 j ∧ τ3.2.1 52 j ≤ 19999 := fun j => hT.2 52 j
  have A53 : ∀ j, 0 ≤ τ3.2.1 53 j ∧ τ3.2.1 53 j ≤ 19999 := fun j => hT.2 53 j
  have v3 : 0 ≤ τ3.1 3 ∧ τ3.1 3 ≤ 2500 := hT.1 3
  have v5 : 0 ≤ τ3.1 5 ∧ τ3.1 5 ≤ 1000 := hT.1 5
  have v6 : 0 ≤ τ3.1 6 ∧ τ3.1 6 ≤ 30000 := hT.1 6
  have v7 : 0 ≤ τ3.1 7 ∧ τ3.1 7 ≤ 1500 := hT.1 7
  have v13 : 0 ≤ τ3.1 13 ∧ τ3.1 13 ≤ 90000 := hT.1 13
  have v14 : 0 ≤ τ3.1 14 ∧ τ3.1 14 ≤ 20000 := hT.1 14
  have v15 : 0 ≤ τ3.1 15 ∧ τ3.1 15 ≤ 20000 := hT.1 15
  have v16 : 0 ≤ τ3.1 16 ∧ τ3.1 16 ≤ 20000 := hT.1 16
  have v17 : 0 ≤ τ3.1 17 ∧ τ3.1 17 ≤ 42000 := hT.1 17
  have v18 : 0 ≤ τ3.1 18 ∧ τ3.1 18 ≤ 42000 := hT.1 18
  have v21 : 0 ≤ τ3.1 21 ∧ τ3.1 21 ≤ 20000 := hT.1 21
  have v22 : 0 ≤ τ3.1 22 ∧ τ3.1 22 ≤ 300 := hT.1 22
  have v23 : 0 ≤ τ3.1 23 ∧ τ3.1 23 ≤ 300 := hT.1 23
  have v24 : 0 ≤ τ3.1 24 ∧ τ3.1 24 ≤ 1499 := hT.1 24
  have v30 : 0 ≤ τ3.1 30 ∧ τ3.1 30 ≤ 200 := hT.1 30
  have v31 : (-2147483648) ≤ τ3.1 31 ∧ τ3.1 31 ≤ 2147483647 := hT.1 31
  have v32 : 0 ≤ τ3.1 32 ∧ τ3.1 32 ≤ 20000 := hT.1 32
  have a36_15 : 0 ≤ τ3.2.1 36 (τ3.1 15) ∧ τ3.2.1 36 (τ3.1 15) ≤ 20000 := hT.2 36 _
  have av15 : σ.1 15 ≤ τ3.1 15 := ag.1 15 (by decide)
  replace ag := ag_v (i := 30) (x := 0) ag (Or.inl rfl)
  replace hT := cT_v (i := 30) hT (show (0 : Int) ≤ 0 ∧ 0 ≤ 200 from by (first | omega | (simp only [st_s] <;> omega) | assumption | omega | fail))
  replace ag := ag_v (i := 23) (x := 0) ag (Or.inl rfl)
  replace hT := cT_v (i := 23) hT (show (0 : Int) ≤ 0 ∧ 0 ≤ 300 from by (first | omega | (simp only [st_s] <;> omega) | assumption | omega | fail))
  replace ag := ag_v (i := 31) (x := 0) ag (Or.inl rfl)
  replace hT := cT_v (i := 31) hT (show (-2147483648 : Int) ≤ 0 ∧ 0 ≤ 2147483647 from by (first | omega | (simp only [st_s] <;> omega) | assumption | omega | fail))
  replace ag := ag_v (i := 32) (x := 0) ag (Or.inl rfl)
  replace hT := cT_v (i := 32) hT (show (0 : Int) ≤ 0 ∧ 0 ≤ 20000 from by (first | omega | (simp only [st_s] <;> omega) | assumption | omega | fail))
  exact l_29 ((20001 - 0 : Int).toNat + 1) _ _ (show (20001 - 0 : Int) < (((20001 - 0 : Int).toNat + 1 : Nat) : Int) from by ((first | omega | (simp only [st_s] <;> omega) | assumption | omega | fail))) hT ag (show τ3.1 3 = σ.1 3 from by first | exact W3 | omega) (show τ3.1 5 = σ.1 5 from by first | exact W5 | omega) (show τ3.1 6 = σ.1 6 from by first | exact W6 | omega) (show τ3.1 7 = σ.1 7 from by first | exact W7 | omega) (show τ3.1 13 = σ.1 13 from by first | exact W13 | omega) (show τ3.1 14 = σ.1 14 from by first | exact W14 | omega) (show τ3.1 16 = σ.1 16 from by first | exact W16 | omega) (show τ3.1 21 = σ.1 21 from by first | exact W21 | omega) (show τ3.1 22 = σ.1 22 from by first | exact W22 | omega) (show τ3.1 24 = σ.1 24 from by first | exact W24 | omega) G10 G13 G14 G15 G16 G27 G28 G29 G30 G31 G32 G49 G51 (show 0 ≤ 0 from by (first | omega | (simp only [st_s] <;> omega) | assumption | omega | fail)) (show 0 ≤ (σ.1 21) from by (first | omega | (simp only [st_s] <;> omega) | assumption | omega | fail)) (show J_dt (τ3.1 17) (τ3.1 18) ((0 : Int)) (τ3.2.1 39) (τ3.2.1 40) (τ3.2.1 41) from by (first | exact DT | exact q19_3 (by omega) | (rw [q1_1, q1_2]; exact J_dt0 _ _ _) | (rw [w17_τ27, w18_τ27, w32_τ27, g39_τ27, g40_τ27, g41_τ27]; exact DT) | fail)) (show J_pl (τ3.1 17) ((0 : Int)) ((0 : Int)) ((0 : Int)) (τ3.2.1 42) (τ3.2.1 41) (τ3.2.1 52) from by (first | exact PL | exact q19_4 (by omega) | (rw [q1_1]; exact J_pl0 _ _ _) | (have y := q25_2 (by omega); rw [w17_τ27, y.1, w32_τ27, y.2.2.1, g42_τ27, g41_τ27, y.2.2.2]; have p := ppl; rw [show j_w (τ_29.2.1 42) (τ_29.2.1 41) x24 = 0 from by omega, show τ_29.1 17 + 0 = τ_29.1 17 from by omega] at p; exact p) | fail)) (show J_sv ((0 : Int)) ((0 : Int)) (τ3.2.1 42) (τ3.2.1 53) from by (first | exact SV | exact q19_5 (by omega) | exact J_sv0 _ _ | fail)) (show J_rb (τ3.1 7) (τ3.1 15) ((0 : Int)) (τ3.2.1 13) (τ3.2.1 28) (τ3.2.1 35) (τ3.2.1 36) (τ3.2.1 37) from by (first | exact RB | exact q19_6 (by omega) | exact J_rb0 _ _ _ _ _ _ _ | fail)) (show J_bp (τ3.2.1 44) (τ3.2.1 45) from BP) (show J_all (τ3.1 7) (τ3.1 6) (τ3.1 13) (τ3.1 14) (τ3.1 15) (τ3.2.1 13) (τ3.2.1 14) (τ3.2.1 15) (τ3.2.1 16) (τ3.2.1 10) (τ3.2.1 27) (τ3.2.1 28) (τ3.2.1 29) (τ3.2.1 30) (τ3.2.1 31) (τ3.2.1 32) (τ3.2.1 33) (τ3.2.1 34) (τ3.2.1 35) (τ3.2.1 36) (τ3.2.1 37) from CJ) (show j_eq (σ.2.1 36 (σ.1 15)) (σ.2.1 37) (τ3.2.1 37) from CH) (show 0 ≤ ((0 : Int)) ∧ ((0 : Int)) ≤ 40000 from by (first | omega | exact q19_2 (by omega) | fail)) (show ((0 : Int)) ≤ 0 from by (first | omega | (have y := q19_10 (by omega); omega) | fail)) (show τ3.2.1 36 ((τ3.1 15) + ((0 : Int))) + ((0 : Int)) ≤ (σ.1 16) + 0 from by (first | (rw [g36_τ3, w15_τ3, show σ.1 15 + 0 = σ.1 15 from by omega]; omega) | (have y := q19_10 (by omega); rw [show τ21.1 15 + τ21.1 32 = τ_29.1 15 + τ_29.1 32 + 1 from by omega]; omega) | (have y := q25_2 (by omega); rw [g36_τ27, w15_τ27, w32_τ27]; omega) | fail)) (show ((0 : Int)) = sv (σ.2.1 49) 0 from by (first | rfl | (have y := q19_11 (by omega); omega) | (rw [w23_τ27]; omega) | fail)) (show (τ3.1 15) = (σ.1 15) from by (first | omega | (simp only [st_s] <;> omega) | assumption | omega | fail))
