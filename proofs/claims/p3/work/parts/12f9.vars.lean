-- pure: an equality's two variables
def y_vq (σ : S0) (r k : Int) : Int := if σ.2.1 8 (σ.2.1 16 (σ.2.1 14 r + k)) = 0 then 0 else 1
/-- a rule with two variables has two hypotheses -/
theorem y_h2_2 {σ : S0} (J : n_J σ) (hT : m_T σ) {r : Int} (r0 : 0 ≤ r) (r1 : r < σ.1 5) (h : y_In σ r) (v : sm (y_vq σ r) (σ.2.1 15 r) = 2) : σ.2.1 19 r = 2 ∧ ∃ m : Int, (0 ≤ m ∧ m < y_nn σ r) ∧ y_f σ r (m + 1) < 0 := by
  obtain ⟨h1, _, h3, h4⟩ := y_rh J hT r0 r1 h
  have nn1 := y_nn1 r h
  have nn2 : y_nn σ r = σ.2.1 15 r - 1 := rfl
  have a := y_hs J hT r0 r1 h
  have c0 : y_vq σ r 0 = 0 := by
    unfold y_vq
    rw [show σ.2.1 14 r + 0 = σ.2.1 14 r by omega, if_pos h.1.1.2.2.1]
  have vv : ∀ m : Int, y_vq σ r (m + 1) = y_vi σ r m := fun m => by
    unfold y_vq y_vi y_f
    have b : 0 ≤ σ.2.1 16 (σ.2.1 14 r + (m + 1)) := (hT.2 16 _).1
    have b1 : -1 ≤ σ.2.1 10 (σ.2.1 16 (σ.2.1 14 r + (m + 1))) := (hT.2 10 _).1
    by_cases z : σ.2.1 8 (σ.2.1 16 (σ.2.1 14 r + (m + 1))) = 0
    · rw [if_pos z, if_pos z, if_neg (by omega)]
    · rw [if_neg z, if_neg z, if_pos (by omega)]
  have s : sm (y_vq σ r) (σ.2.1 15 r) = sm (y_vi σ r) (y_nn σ r) := by
    have t := sm_at (y_vq σ r) (n := 1) (d := y_nn σ r) (by omega) (by omega)
    rw [show 1 + y_nn σ r = σ.2.1 15 r by omega] at t
    rw [t, show (1 : Int) = 0 + 1 from rfl, sm_s _ (Int.le_refl _), sm_0, c0, sm_x (g := y_vi σ r) (fun m _ _ => by rw [← vv m]; exact congrArg (y_vq σ r) (by omega))]
    omega
  rw [s] at v
  obtain ⟨m, m0, m1, mv⟩ := sm_e (g := y_vi σ r) (n := y_nn σ r) (by omega)
  have mf : y_f σ r (m + 1) < 0 := by
    unfold y_vi at mv
    by_cases z : y_f σ r (m + 1) < 0
    · exact z
    · rw [if_neg z] at mv; omega
  refine ⟨?_, m, ⟨m0, m1⟩, mf⟩
  by_cases z : σ.2.1 19 r = 2
  · exact z
  · exfalso
    obtain ⟨k, k0, k1⟩ := h1 m m0 m1 mf
    have l1 : sm (st (y_vi σ r) m 0) (y_nn σ r) = 1 := by
      rw [sm_z _ m0 m1, v]
      have : y_vi σ r m = 1 := by unfold y_vi; rw [if_pos mf]
      omega
    obtain ⟨o, o0, o1, ov⟩ := sm_e (g := st (y_vi σ r) m 0) (n := y_nn σ r) (by omega)
    have om : o ≠ m := fun q => by rw [q, st_s] at ov; omega
    rw [st_n _ _ om] at ov
    have of : y_f σ r (o + 1) < 0 := by
      unfold y_vi at ov
      by_cases z : y_f σ r (o + 1) < 0
      · exact z
      · rw [if_neg z] at ov; omega
    obtain ⟨j, j0, j1⟩ := h1 o o0 o1 of
    have ej : j = k := by omega
    rw [ej, k1] at j1
    rcases Int.lt_trichotomy o m with y | y | y
    · exact h4 m o o0 y m1 mf j1.symm
    · exact om y
    · exact h4 o m m0 y o1 of j1
set_option maxHeartbeats 1000000 in
theorem K_X13_variablesOf {n1 : Int} {σ : S0} (hT : m_T σ) (p1 : 0 ≤ n1) (p2 : n1 < (σ.1 5)) (p3 : σ.2.1 15 n1 ≤ 300) : W_X13_variablesOf n1 σ (fun (x : Int) => (x = sm (y_vq σ n1) (σ.2.1 15 n1))) := by
  have A8 : ∀ j, 0 ≤ σ.2.1 8 j ∧ σ.2.1 8 j ≤ 1 := fun j => hT.2 8 j
  have A14 : ∀ j, 0 ≤ σ.2.1 14 j ∧ σ.2.1 14 j ≤ 30000 := fun j => hT.2 14 j
  have A15 : ∀ j, 0 ≤ σ.2.1 15 j ∧ σ.2.1 15 j ≤ 300 := fun j => hT.2 15 j
  have A16 : ∀ j, 0 ≤ σ.2.1 16 j ∧ σ.2.1 16 j ≤ 999 := fun j => hT.2 16 j
  have v5 : 0 ≤ σ.1 5 ∧ σ.1 5 ≤ 1500 := hT.1 5
  intro P9 h9
  have a14 := A14 n1
  have a15 := A15 n1
  have l_9 : ∀ (m_9 : Nat) (u2_9 : Int) (u3_9 : Int), σ.2.1 14 n1 + σ.2.1 15 n1 + 1 - u3_9 < (m_9 : Int) → (σ.2.1 14 n1 ≤ u3_9 ∧ u3_9 ≤ σ.2.1 14 n1 + σ.2.1 15 n1) → (u2_9 = sm (y_vq σ n1) (u3_9 - σ.2.1 14 n1)) → (0 ≤ u2_9 ∧ u2_9 ≤ u3_9 - σ.2.1 14 n1) → P9 n1 u2_9 u3_9 := by
    intro m_9
    induction m_9 with
    | zero =>
      intro u2_9 u3_9 hm i9_1 i9_2 i9_3
      exfalso; (first | omega | (simp only [st_s] <;> omega) | assumption | omega | fail)
    | succ m_9 ih_9 =>
      intro u2_9 u3_9 hm_9 i9_1 i9_2 i9_3
      have ss := fun a => sm_s (y_vq σ n1) (n := u3_9 - σ.2.1 14 n1) a
      refine h9 n1 u2_9 u3_9 ?_
      refine ⟨(show 0 ≤ n1 ∧ n1 < 1501 from by (first | omega | (simp only [st_s] <;> omega) | assumption | omega | fail)), ?_⟩
      intro x4 r_x4 e_x4
      have b_x4 : 0 ≤ x4 ∧ x4 ≤ 30000 := by rw [e_x4]; exact hT.2 14 _
      intro x5 r_x5 e_x5
      have b_x5 : 0 ≤ x5 ∧ x5 ≤ 300 := by rw [e_x5]; exact hT.2 15 _
      refine ⟨(⟨by (first | omega | (simp only [st_s] <;> omega) | assumption | omega | fail), by (first | omega | (simp only [st_s] <;> omega) | assumption | omega | fail)⟩ : rg (x4 + x5)), ?_⟩
      refine ⟨fun c7 => ?_, fun c7 => ?_⟩
      ·
        exact (show u2_9 = sm (y_vq σ n1) (σ.2.1 15 n1) from by (rw [i9_2, show u3_9 - σ.2.1 14 n1 = σ.2.1 15 n1 from by omega]))
      ·
        refine ⟨(show 0 ≤ u3_9 ∧ u3_9 < 30400 from by (first | omega | (simp only [st_s] <;> omega) | assumption | omega | fail)), ?_⟩
        intro x9 r_x9 e_x9
        have b_x9 : 0 ≤ x9 ∧ x9 ≤ 999 := by rw [e_x9]; exact hT.2 16 _
        refine ⟨(show 0 ≤ x9 ∧ x9 < 1001 from by (first | omega | (simp only [st_s] <;> omega) | assumption | omega | fail)), ?_⟩
        intro x11 r_x11 e_x11
        have b_x11 : 0 ≤ x11 ∧ x11 ≤ 1 := by rw [e_x11]; exact hT.2 8 _
        have f11 : x11 = σ.2.1 8 (σ.2.1 16 (σ.2.1 14 n1 + (u3_9 - σ.2.1 14 n1))) := by (rw [e_x11, e_x9]; exact congrArg (fun z => σ.2.1 8 (σ.2.1 16 z)) (by omega))
        have st9 := ss (by omega)
        unfold y_vq at st9
        rw [← f11] at st9
        refine ⟨fun c12 => ?_, fun c12 => ?_⟩
        ·
          refine ⟨(⟨by (first | omega | (simp only [st_s] <;> omega) | assumption | omega | fail), by (first | omega | (simp only [st_s] <;> omega) | assumption | omega | fail)⟩ : rg (u2_9 + 0)), ?_⟩
          refine ⟨(⟨by (first | omega | (simp only [st_s] <;> omega) | assumption | omega | fail), by (first | omega | (simp only [st_s] <;> omega) | assumption | omega | fail)⟩ : rg (u3_9 + 1)), ?_⟩
          exact ih_9 _ _ (show (σ.2.1 14 n1 + σ.2.1 15 n1 + 1 - (u3_9 + 1) : Int) < ((m_9 : Nat) : Int) from by ((first | omega | (simp only [st_s] <;> omega) | assumption | omega | fail))) (show σ.2.1 14 n1 ≤ (u3_9 + 1) ∧ (u3_9 + 1) ≤ σ.2.1 14 n1 + σ.2.1 15 n1 from by (first | omega | (simp only [st_s] <;> omega) | assumption | omega | fail)) (show (u2_9 + 0) = sm (y_vq σ n1) ((u3_9 + 1) - σ.2.1 14 n1) from by (first | (rw [show x2 - σ.2.1 14 n1 = 0 from by omega, sm_0]) | (rw [show u3_9 + 1 - σ.2.1 14 n1 = u3_9 - σ.2.1 14 n1 + 1 from by omega]; unfold y_vq; unfold y_vq at i9_2; rw [st9, if_pos (by assumption), i9_2]) | (rw [show u3_9 + 1 - σ.2.1 14 n1 = u3_9 - σ.2.1 14 n1 + 1 from by omega]; unfold y_vq; unfold y_vq at i9_2; rw [st9, if_neg (by assumption), i9_2]) | fail)) (show 0 ≤ (u2_9 + 0) ∧ (u2_9 + 0) ≤ (u3_9 + 1) - σ.2.1 14 n1 from by (first | omega | (simp only [st_s] <;> omega) | assumption | omega | fail))
        ·
          refine ⟨(⟨by (first | omega | (simp only [st_s] <;> omega) | assumption | omega | fail), by (first | omega | (simp only [st_s] <;> omega) | assumption | omega | fail)⟩ : rg (u2_9 + 1)), ?_⟩
          refine ⟨(⟨by (first | omega | (simp only [st_s] <;> omega) | assumption | omega | fail), by (first | omega | (simp only [st_s] <;> omega) | assumption | omega | fail)⟩ : rg (u3_9 + 1)), ?_⟩
          exact ih_9 _ _ (show (σ.2.1 14 n1 + σ.2.1 15 n1 + 1 - (u3_9 + 1) : Int) < ((m_9 : Nat) : Int) from by ((first | omega | (simp only [st_s] <;> omega) | assumption | omega | fail))) (show σ.2.1 14 n1 ≤ (u3_9 + 1) ∧ (u3_9 + 1) ≤ σ.2.1 14 n1 + σ.2.1 15 n1 from by (first | omega | (simp only [st_s] <;> omega) | assumption | omega | fail)) (show (u2_9 + 1) = sm (y_vq σ n1) ((u3_9 + 1) - σ.2.1 14 n1) from by (first | (rw [show x2 - σ.2.1 14 n1 = 0 from by omega, sm_0]) | (rw [show u3_9 + 1 - σ.2.1 14 n1 = u3_9 - σ.2.1 14 n1 + 1 from by omega]; unfold y_vq; unfold y_vq at i9_2; rw [st9, if_pos (by assumption), i9_2]) | (rw [show u3_9 + 1 - σ.2.1 14 n1 = u3_9 - σ.2.1 14 n1 + 1 from by omega]; unfold y_vq; unfold y_vq at i9_2; rw [st9, if_neg (by assumption), i9_2]) | fail)) (show 0 ≤ (u2_9 + 1) ∧ (u2_9 + 1) ≤ (u3_9 + 1) - σ.2.1 14 n1 from by (first | omega | (simp only [st_s] <;> omega) | assumption | omega | fail))
  refine ⟨(show 0 ≤ n1 ∧ n1 < 1501 from by (first | omega | (simp only [st_s] <;> omega) | assumption | omega | fail)), ?_⟩
  intro x2 r_x2 e_x2
  have b_x2 : 0 ≤ x2 ∧ x2 ≤ 30000 := by rw [e_x2]; exact hT.2 14 _
  exact l_9 ((σ.2.1 14 n1 + σ.2.1 15 n1 + 1 - x2 : Int).toNat + 1) _ _ (show (σ.2.1 14 n1 + σ.2.1 15 n1 + 1 - x2 : Int) < (((σ.2.1 14 n1 + σ.2.1 15 n1 + 1 - x2 : Int).toNat + 1 : Nat) : Int) from by ((first | omega | (simp only [st_s] <;> omega) | assumption | omega | fail))) (show σ.2.1 14 n1 ≤ x2 ∧ x2 ≤ σ.2.1 14 n1 + σ.2.1 15 n1 from by (first | omega | (simp only [st_s] <;> omega) | assumption | omega | fail)) (show 0 = sm (y_vq σ n1) (x2 - σ.2.1 14 n1) from by (first | (rw [show x2 - σ.2.1 14 n1 = 0 from by omega, sm_0]) | (rw [show u3_9 + 1 - σ.2.1 14 n1 = u3_9 - σ.2.1 14 n1 + 1 from by omega]; unfold y_vq; unfold y_vq at i9_2; rw [st9, if_pos (by assumption), i9_2]) | (rw [show u3_9 + 1 - σ.2.1 14 n1 = u3_9 - σ.2.1 14 n1 + 1 from by omega]; unfold y_vq; unfold y_vq at i9_2; rw [st9, if_neg (by assumption), i9_2]) | fail)) (show 0 ≤ 0 ∧ 0 ≤ x2 - σ.2.1 14 n1 from by (first | omega | (simp only [st_s] <;> omega) | assumption | omega | fail))
