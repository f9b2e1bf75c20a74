-- pure: the model feeds, ends, counts, finds
set_option maxHeartbeats 1000000 in
theorem K_X13_feed {n1 : Int} {n2 : Int} {n3 : Int} {n4 : Int} {n5 : Int} {σ : S0} (hT : m_T σ) : W_X13_feed n1 n2 n3 n4 n5 σ (fun (x : Int) (τ : S0) => (m_T τ) ∧ ((σ.1 0) + 20 ≤ 60000 → x = (σ.1 0) + 20 ∧ (τ.1 1) = 1 ∧ (τ.1 0) = x) ∧ (60000 < (σ.1 0) + 20 → x = -2 ∧ (τ.1 1) = 0 ∧ (τ.1 0) = (σ.1 0))) := by
  have v0 : 0 ≤ σ.1 0 ∧ σ.1 0 ≤ 60000 := hT.1 0
  have v1 : 0 ≤ σ.1 1 ∧ σ.1 1 ≤ 1 := hT.1 1
  intro P18 P34 P87 h18 h34 h87
  have l_34 : ∀ (m_34 : Nat) (u6_34 : Int) (τ_34 : S0), 21 - u6_34 < (m_34 : Int) → (m_T τ_34) → (0 ≤ u6_34) → (u6_34 ≤ 20) → ((τ_34.1 1) = 1) → ((τ_34.1 0) = (σ.1 0) + u6_34) → ((σ.1 0) + 20 ≤ 60000) → P34 n1 n2 n3 n4 n5 u6_34 τ_34 := by
    intro m_34
    induction m_34 with
    | zero =>
      intro u6_34 τ_34 hm hT i34_1 i34_2 i34_3 i34_4 i34_5
      have v0 : 0 ≤ τ_34.1 0 ∧ τ_34.1 0 ≤ 60000 := hT.1 0
      have v1 : 0 ≤ τ_34.1 1 ∧ τ_34.1 1 ≤ 1 := hT.1 1
      exfalso; (first | omega | (simp only [st_s] <;> omega) | assumption | omega | fail)
    | succ m_34 ih_34 =>
      intro u6_34 τ_34 hm_34 hT i34_1 i34_2 i34_3 i34_4 i34_5
      have v0 : 0 ≤ τ_34.1 0 ∧ τ_34.1 0 ≤ 60000 := hT.1 0
      have v1 : 0 ≤ τ_34.1 1 ∧ τ_34.1 1 ≤ 1 := hT.1 1
      refine h34 n1 n2 n3 n4 n5 u6_34 τ_34 ?_
      refine ⟨fun c5 => ?_, fun c5 => ?_⟩
      ·
        exact ⟨hT, (show (σ.1 0) + 20 ≤ 60000 → (τ_34.1 0) = (σ.1 0) + 20 ∧ (τ_34.1 1) = 1 ∧ (τ_34.1 0) = (τ_34.1 0) from by (first | omega | (simp only [st_s] <;> omega) | assumption | omega | fail)), (show 60000 < (σ.1 0) + 20 → (τ_34.1 0) = -2 ∧ (τ_34.1 1) = 0 ∧ (τ_34.1 0) = (σ.1 0) from by (first | omega | (simp only [st_s] <;> omega) | assumption | omega | fail))⟩
      ·
        refine ⟨fun c6 => ?_, fun c6 => ?_⟩
        ·
          refine ⟨fun c7 => ?_, fun c7 => ?_⟩
          ·
            refine ⟨fun c8 => ?_, fun c8 => ?_⟩
            ·
              refine ⟨fun c9 => ?_, fun c9 => ?_⟩
              ·
                refine h87 _ _ _ _ _ _ _ _ ?_
                intro x10 r_x10 h1_x10 h2_x10
                intro x11 r_x11
                refine ⟨(show 0 ≤ τ_34.1 0 ∧ τ_34.1 0 < 60000 from by (first | omega | (simp only [st_s] <;> omega) | assumption | omega | fail)), ?_⟩
                replace hT := mT_a (k := 0) (j := (τ_34.1 0)) hT (show (0 : Int) ≤ (x11 % 256) ∧ (x11 % 256) ≤ 255 from by (first | omega | (simp only [st_s] <;> omega) | assumption | omega | fail))
                refine ⟨(⟨by (first | omega | (simp only [st_s] <;> omega) | assumption | omega | fail), by (first | omega | (simp only [st_s] <;> omega) | assumption | omega | fail)⟩ : rg (τ_34.1 0 + 1)), ?_⟩
                replace hT := mT_v (i := 0) hT (show 0 ≤ (τ_34.1 0 + 1) ∧ (τ_34.1 0 + 1) ≤ 60000 from by (first | omega | (simp only [st_s] <;> omega) | assumption | omega | fail))
                refine ⟨(⟨by (first | omega | (simp only [st_s] <;> omega) | assumption | omega | fail), by (first | omega | (simp only [st_s] <;> omega) | assumption | omega | fail)⟩ : rg (u6_34 + 1)), ?_⟩
                exact ih_34 _ _ (show (21 - (u6_34 + 1) : Int) < ((m_34 : Nat) : Int) from by ((first | omega | (simp only [st_s] <;> omega) | assumption | omega | fail))) hT (show 0 ≤ (u6_34 + 1) from by (first | omega | (simp only [st_s] <;> omega) | assumption | omega | fail)) (show (u6_34 + 1) ≤ 20 from by (first | omega | (simp only [st_s] <;> omega) | assumption | omega | fail)) (show (τ_34.1 1) = 1 from by (first | omega | (simp only [st_s] <;> omega) | assumption | omega | fail)) (show ((τ_34.1 0 + 1)) = (σ.1 0) + (u6_34 + 1) from by (first | omega | (simp only [st_s] <;> omega) | assumption | omega | fail)) (show (σ.1 0) + 20 ≤ 60000 from by (first | omega | (simp only [st_s] <;> omega) | assumption | omega | fail))
              ·
                refine h87 _ _ _ _ _ _ _ _ ?_
                intro x10 r_x10 h1_x10 h2_x10
                intro x11 r_x11
                refine ⟨(show 0 ≤ τ_34.1 0 ∧ τ_34.1 0 < 60000 from by (first | omega | (simp only [st_s] <;> omega) | assumption | omega | fail)), ?_⟩
                replace hT := mT_a (k := 0) (j := (τ_34.1 0)) hT (show (0 : Int) ≤ (x11 % 256) ∧ (x11 % 256) ≤ 255 from by (first | omega | (simp only [st_s] <;> omega) | assumption | omega | fail))
                refine ⟨(⟨by (first | omega | (simp only [st_s] <;> omega) | assumption | omega | fail), by (first | omega | (simp only [st_s] <;> omega) | assumption | omega | fail)⟩ : rg (τ_34.1 0 + 1)), ?_⟩
                replace hT := mT_v (i := 0) hT (show 0 ≤ (τ_34.1 0 + 1) ∧ (τ_34.1 0 + 1) ≤ 60000 from by (first | omega | (simp only [st_s] <;> omega) | assumption | omega | fail))
                refine ⟨(⟨by (first | omega | (simp only [st_s] <;> omega) | assumption | omega | fail), by (first | omega | (simp only [st_s] <;> omega) | assumption | omega | fail)⟩ : rg (u6_34 + 1)), ?_⟩
                exact ih_34 _ _ (show (21 - (u6_34 + 1) : Int) < ((m_34 : Nat) : Int) from by ((first | omega | (simp only [st_s] <;> omega) | assumption | omega | fail))) hT (show 0 ≤ (u6_34 + 1) from by (first | omega | (simp only [st_s] <;> omega) | assumption | omega | fail)) (show (u6_34 + 1) ≤ 20 from by (first | omega | (simp only [st_s] <;> omega) | assumption | omega | fail)) (show (τ_34.1 1) = 1 from by (first | omega | (simp only [st_s] <;> omega) | assumption | omega | fail)) (show ((τ_34.1 0 + 1)) = (σ.1 0) + (u6_34 + 1) from by (first | omega | (simp only [st_s] <;> omega) | assumption | omega | fail)) (show (σ.1 0) + 20 ≤ 60000 from by (first | omega | (simp only [st_s] <;> omega) | assumption | omega | fail))
            ·
              refine h87 _ _ _ _ _ _ _ _ ?_
              intro x10 r_x10 h1_x10 h2_x10
              intro x11 r_x11
              refine ⟨(show 0 ≤ τ_34.1 0 ∧ τ_34.1 0 < 60000 from by (first | omega | (simp only [st_s] <;> omega) | assumption | omega | fail)), ?_⟩
              replace hT := mT_a (k := 0) (j := (τ_34.1 0)) hT (show (0 : Int) ≤ (x11 % 256) ∧ (x11 % 256) ≤ 255 from by (first | omega | (simp only [st_s] <;> omega) | assumption | omega | fail))
              refine ⟨(⟨by (first | omega | (simp only [st_s] <;> omega) | assumption | omega | fail), by (first | omega | (simp only [st_s] <;> omega) | assumption | omega | fail)⟩ : rg (τ_34.1 0 + 1)), ?_⟩
              replace hT := mT_v (i := 0) hT (show 0 ≤ (τ_34.1 0 + 1) ∧ (τ_34.1 0 + 1) ≤ 60000 from by (first | omega | (simp only [st_s] <;> omega) | assumption | omega | fail))
              refine ⟨(⟨by (first | omega | (simp only [st_s] <;> omega) | assumption | omega | fail), by (first | omega | (simp only [st_s] <;> omega) | assumption | omega | fail)⟩ : rg (u6_34 + 1)), ?_⟩
              exact ih_34 _ _ (show (21 - (u6_34 + 1) : Int) < ((m_34 : Nat) : Int) from by ((first | omega | (simp only [st_s] <;> omega) | assumption | omega | fail))) hT (show 0 ≤ (u6_34 + 1) from by (first | omega | (simp only [st_s] <;> omega) | assumption | omega | fail)) (show (u6_34 + 1) ≤ 20 from by (first | omega | (simp only [st_s] <;> omega) | assumption | omega | fail)) (show (τ_34.1 1) = 1 from by (first | omega | (simp only [st_s] <;> omega) | assumption | omega | fail)) (show ((τ_34.1 0 + 1)) = (σ.1 0) + (u6_34 + 1) from by (first | omega | (simp only [st_s] <;> omega) | assumption | omega | fail)) (show (σ.1 0) + 20 ≤ 60000 from by (first | omega | (simp only [st_s] <;> omega) | assumption | omega | fail))
          ·
            refine h87 _ _ _ _ _ _ _ _ ?_
            intro x10 r_x10 h1_x10 h2_x10
            intro x11 r_x11
            refine ⟨(show 0 ≤ τ_34.1 0 ∧ τ_34.1 0 < 60000 from by (first | omega | (simp only [st_s] <;> omega) | assumption | omega | fail)), ?_⟩
            replace hT := mT_a (k := 0) (j := (τ_34.1 0)) hT (show (0 : Int) ≤ (x11 % 256) ∧ (x11 % 256) ≤ 255 from by (first | omega | (simp only [st_s] <;> omega) | assumption | omega | fail))
            refine ⟨(⟨by (first | omega | (simp only [st_s] <;> omega) | assumption | omega | fail), by (first | omega | (simp only [st_s] <;> omega) | assumption | omega | fail)⟩ : rg (τ_34.1 0 + 1)), ?_⟩
            replace hT := mT_v (i := 0) hT (show 0 ≤ (τ_34.1 0 + 1) ∧ (τ_34.1 0 + 1) ≤ 60000 from by (first | omega | (simp only [st_s] <;> omega) | assumption | omega | fail))
            refine ⟨(⟨by (first | omega | (simp only [st_s] <;> omega) | assumption | omega | fail), by (first | omega | (simp only [st_s] <;> omega) | assumption | omega | fail)⟩ : rg (u6_34 + 1)), ?_⟩
            exact ih_34 _ _ (show (21 - (u6_34 + 1) : Int) < ((m_34 : Nat) : Int) from by ((first | omega | (simp only [st_s] <;> omega) | assumption | omega | fail))) hT (show 0 ≤ (u6_34 + 1) from by (first | omega | (simp only [st_s] <;> omega) | assumption | omega | fail)) (show (u6_34 + 1) ≤ 20 from by (first | omega | (simp only [st_s] <;> omega) | assumption | omega | fail)) (show (τ_34.1 1) = 1 from by (first | omega | (simp only [st_s] <;> omega) | assumption | omega | fail)) (show ((τ_34.1 0 + 1)) = (σ.1 0) + (u6_34 + 1) from by (first | omega | (simp only [st_s] <;> omega) | assumption | omega | fail)) (show (σ.1 0) + 20 ≤ 60000 from by (first | omega | (simp only [st_s] <;> omega) | assumption | omega | fail))
        ·
          refine h87 _ _ _ _ _ _ _ _ ?_
          intro x10 r_x10 h1_x10 h2_x10
          intro x11 r_x11
          refine ⟨(show 0 ≤ τ_34.1 0 ∧ τ_34.1 0 < 60000 from by (first | omega | (simp only [st_s] <;> omega) | assumption | omega | fail)), ?_⟩
          replace hT := mT_a (k := 0) (j := (τ_34.1 0)) hT (show (0 : Int) ≤ (x11 % 256) ∧ (x11 % 256) ≤ 255 from by (first | omega | (simp only [st_s] <;> omega) | assumption | omega | fail))
          refine ⟨(⟨by (first | omega | (simp only [st_s] <;> omega) | assumption | omega | fail), by (first | omega | (simp only [st_s] <;> omega) | assumption | omega | fail)⟩ : rg (τ_34.1 0 + 1)), ?_⟩
          replace hT := mT_v (i := 0) hT (show 0 ≤ (τ_34.1 0 + 1) ∧ (τ_34.1 0 + 1) ≤ 60000 from by (first | omega | (simp only [st_s] <;> omega) | assumption | omega | fail))
          refine ⟨(⟨by (first | omega | (simp only [st_s] <;> omega) | assumption | omega | fail), by (first | omega | (simp only [st_s] <;> omega) | assumption | omega | fail)⟩ : rg (u6_34 + 1)), ?_⟩
          exact ih_34 _ _ (show (21 - (u6_34 + 1) : Int) < ((m_34 : Nat) : Int) from by ((first | omega | (simp only [st_s] <;> omega) | assumption | omega | fail))) hT (show 0 ≤ (u6_34 + 1) from by (first | omega | (simp only [st_s] <;> omega) | assumption | omega | fail)) (show (u6_34 + 1) ≤ 20 from by (first | omega | (simp only [st_s] <;> omega) | assumption | omega | fail)) (show (τ_34.1 1) = 1 from by (first | omega | (simp only [st_s] <;> omega) | assumption | omega | fail)) (show ((τ_34.1 0 + 1)) = (σ.1 0) + (u6_34 + 1) from by (first | omega | (simp only [st_s] <;> omega) | assumption | omega | fail)) (show (σ.1 0) + 20 ≤ 60000 from by (first | omega | (simp only [st_s] <;> omega) | assumption | omega | fail))
  refine ⟨(⟨by (first | omega | (simp only [st_s] <;> omega) | assumption | omega | fail), by (first | omega | (simp only [st_s] <;> omega) | assumption | omega | fail)⟩ : rg (σ.1 0 + 20)), ?_⟩
  refine ⟨fun c2 => ?_, fun c2 => ?_⟩
  ·
    refine h18 _ _ _ _ _ _ _ ?_
    refine ⟨(show 0 ≤ 0 ∧ 0 ≤ 1 from by (first | omega | (simp only [st_s] <;> omega) | assumption | omega | fail)), ?_⟩
    replace hT := mT_v (i := 1) hT (show (0 : Int) ≤ 0 ∧ 0 ≤ 1 from by (first | omega | (simp only [st_s] <;> omega) | assumption | omega | fail))
    refine ⟨fun c4 => ?_, fun c4 => ?_⟩
    ·
      exact l_34 ((21 - 0 : Int).toNat + 1) _ _ (show (21 - 0 : Int) < (((21 - 0 : Int).toNat + 1 : Nat) : Int) from by ((first | omega | (simp only [st_s] <;> omega) | assumption | omega | fail))) hT (show 0 ≤ 0 from by (first | omega | (simp only [st_s] <;> omega) | assumption | omega | fail)) (show 0 ≤ 20 from by (first | omega | (simp only [st_s] <;> omega) | assumption | omega | fail)) (show (0) = 1 from by (first | omega | (simp only [st_s] <;> omega) | assumption | omega | fail)) (show (σ.1 0) = (σ.1 0) + 0 from by (first | omega | (simp only [st_s] <;> omega) | assumption | omega | fail)) (show (σ.1 0) + 20 ≤ 60000 from by (first | omega | (simp only [st_s] <;> omega) | assumption | omega | fail))
    ·
      exact ⟨hT, (show (σ.1 0) + 20 ≤ 60000 → (-2) = (σ.1 0) + 20 ∧ (0) = 1 ∧ (σ.1 0) = (-2) from by (first | omega | (simp only [st_s] <;> omega) | assumption | omega | fail)), (show 60000 < (σ.1 0) + 20 → (-2) = -2 ∧ (0) = 0 ∧ (σ.1 0) = (σ.1 0) from by (first | omega | (simp only [st_s] <;> omega) | assumption | omega | fail))⟩
  ·
    refine h18 _ _ _ _ _ _ _ ?_
    refine ⟨(show 0 ≤ 1 ∧ 1 ≤ 1 from by (first | omega | (simp only [st_s] <;> omega) | assumption | omega | fail)), ?_⟩
    replace hT := mT_v (i := 1) hT (show (0 : Int) ≤ 1 ∧ 1 ≤ 1 from by (first | omega | (simp only [st_s] <;> omega) | assumption | omega | fail))
    refine ⟨fun c4 => ?_, fun c4 => ?_⟩
    ·
      exact l_34 ((21 - 0 : Int).toNat + 1) _ _ (show (21 - 0 : Int) < (((21 - 0 : Int).toNat + 1 : Nat) : Int) from by ((first | omega | (simp only [st_s] <;> omega) | assumption | omega | fail))) hT (show 0 ≤ 0 from by (first | omega | (simp only [st_s] <;> omega) | assumption | omega | fail)) (show 0 ≤ 20 from by (first | omega | (simp only [st_s] <;> omega) | assumption | omega | fail)) (show (1) = 1 from by (first | omega | (simp only [st_s] <;> omega) | assumption | omega | fail)) (show (σ.1 0) = (σ.1 0) + 0 from by (first | omega | (simp only [st_s] <;> omega) | assumption | omega | fail)) (show (σ.1 0) + 20 ≤ 60000 from by (first | omega | (simp only [st_s] <;> omega) | assumption | omega | fail))
    ·
      exact ⟨hT, (show (σ.1 0) + 20 ≤ 60000 → (-2) = (σ.1 0) + 20 ∧ (1) = 1 ∧ (σ.1 0) = (-2) from by (first | omega | (simp only [st_s] <;> omega) | assumption | omega | fail)), (show 60000 < (σ.1 0) + 20 → (-2) = -2 ∧ (1) = 0 ∧ (σ.1 0) = (σ.1 0) from by (first | omega | (simp only [st_s] <;> omega) | assumption | omega | fail))⟩
set_option maxHeartbeats 1000000 in
theorem K_X13_end {n1 : Int} {σ : S0} (hT : m_T σ) (p1 : -2147483648 ≤ n1 ∧ n1 ≤ 2147483647) (p2 : ¬ (σ.1 1) = 0 → 20 ≤ (σ.1 0)) : W_X13_end n1 σ (fun (x : Int) (τ : S0) => (m_T τ) ∧ ((σ.1 1) = 0 → x = -1) ∧ (¬ (σ.1 1) = 0 → 0 ≤ n1 → n1 < 20 → x = (σ.1 0) - 20 + n1 ∧ (τ.1 1) = 0 ∧ (τ.1 0) = x) ∧ (n1 < 0 ∨ 20 ≤ n1 → x = -1) ∧ (x = -1 → (τ.1 1) = (σ.1 1) ∧ (τ.1 0) = (σ.1 0)) ∧ (¬ (τ.1 1) = 0 → 20 ≤ (τ.1 0))) := by
  have v0 : 0 ≤ σ.1 0 ∧ σ.1 0 ≤ 60000 := hT.1 0
  have v1 : 0 ≤ σ.1 1 ∧ σ.1 1 ≤ 1 := hT.1 1
  unfold W_X13_end
  refine ⟨fun c1 => ?_, fun c1 => ?_⟩
  ·
    exact ⟨hT, (show (σ.1 1) = 0 → (-1) = -1 from by (first | omega | (simp only [st_s] <;> omega) | assumption | omega | fail)), (show ¬ (σ.1 1) = 0 → 0 ≤ n1 → n1 < 20 → (-1) = (σ.1 0) - 20 + n1 ∧ (σ.1 1) = 0 ∧ (σ.1 0) = (-1) from by (first | omega | (simp only [st_s] <;> omega) | assumption | omega | fail)), (show n1 < 0 ∨ 20 ≤ n1 → (-1) = -1 from by (first | omega | (simp only [st_s] <;> omega) | assumption | omega | fail)), (show (-1) = -1 → (σ.1 1) = (σ.1 1) ∧ (σ.1 0) = (σ.1 0) from by (first | omega | (simp only [st_s] <;> omega) | assumption | omega | fail)), (show ¬ (σ.1 1) = 0 → 20 ≤ (σ.1 0) from by (first | omega | (simp only [st_s] <;> omega) | assumption | omega | fail))⟩
  ·
    refine ⟨_, K_X13_isIn hT, ?_⟩
    intro x3 r_x3 hq
    obtain ⟨q2_1, q2_2⟩ := hq
    replace q2_1 : 0 ≤ x3 ∧ x3 ≤ 1 := q2_1
    replace q2_2 : x3 = 1 ↔ ((0 : Int64) ≤ (j_of n1) ∧ (j_of n1) ≤ (19 : Int64)) := q2_2
    have in2 := in_i (show x3 = 1 ↔ (j_of 0 ≤ j_of n1 ∧ j_of n1 ≤ j_of 19) from q2_2) (by unfold rg; omega) (by unfold rg; omega) (by unfold rg; omega)
    refine ⟨fun c5 => ?_, fun c5 => ?_⟩
    ·
      refine ⟨(⟨by (first | omega | (simp only [st_s] <;> omega) | assumption | omega | fail), by (first | omega | (simp only [st_s] <;> omega) | assumption | omega | fail)⟩ : rg (σ.1 0 - (20 - n1))), ?_⟩
      replace hT := mT_v (i := 0) hT (show 0 ≤ (σ.1 0 - (20 - n1)) ∧ (σ.1 0 - (20 - n1)) ≤ 60000 from by (first | omega | (simp only [st_s] <;> omega) | assumption | omega | fail))
      replace hT := mT_v (i := 1) hT (show (0 : Int) ≤ 0 ∧ 0 ≤ 1 from by (first | omega | (simp only [st_s] <;> omega) | assumption | omega | fail))
      exact ⟨hT, (show (σ.1 1) = 0 → (σ.1 0 - (20 - n1)) = -1 from by (first | omega | (simp only [st_s] <;> omega) | assumption | omega | fail)), (show ¬ (σ.1 1) = 0 → 0 ≤ n1 → n1 < 20 → (σ.1 0 - (20 - n1)) = (σ.1 0) - 20 + n1 ∧ ((0 : Int)) = 0 ∧ ((σ.1 0 - (20 - n1))) = (σ.1 0 - (20 - n1)) from by (first | omega | (simp only [st_s] <;> omega) | assumption | omega | fail)), (show n1 < 0 ∨ 20 ≤ n1 → (σ.1 0 - (20 - n1)) = -1 from by (first | omega | (simp only [st_s] <;> omega) | assumption | omega | fail)), (show (σ.1 0 - (20 - n1)) = -1 → ((0 : Int)) = (σ.1 1) ∧ ((σ.1 0 - (20 - n1))) = (σ.1 0) from by (first | omega | (simp only [st_s] <;> omega) | assumption | omega | fail)), (show ¬ ((0 : Int)) = 0 → 20 ≤ ((σ.1 0 - (20 - n1))) from by (first | omega | (simp only [st_s] <;> omega) | assumption | omega | fail))⟩
    ·
      exact ⟨hT, (show (σ.1 1) = 0 → (-1) = -1 from by (first | omega | (simp only [st_s] <;> omega) | assumption | omega | fail)), (show ¬ (σ.1 1) = 0 → 0 ≤ n1 → n1 < 20 → (-1) = (σ.1 0) - 20 + n1 ∧ (σ.1 1) = 0 ∧ (σ.1 0) = (-1) from by (first | omega | (simp only [st_s] <;> omega) | assumption | omega | fail)), (show n1 < 0 ∨ 20 ≤ n1 → (-1) = -1 from by (first | omega | (simp only [st_s] <;> omega) | assumption | omega | fail)), (show (-1) = -1 → (σ.1 1) = (σ.1 1) ∧ (σ.1 0) = (σ.1 0) from by (first | omega | (simp only [st_s] <;> omega) | assumption | omega | fail)), (show ¬ (σ.1 1) = 0 → 20 ≤ (σ.1 0) from by (first | omega | (simp only [st_s] <;> omega) | assumption | omega | fail))⟩
set_option maxHeartbeats 1000000 in
theorem K_X13_count {n1 : Int} {σ : S0} (hT : m_T σ) : W_X13_count n1 σ (fun (x : Int) => True) := by
  have v3 : 0 ≤ σ.1 3 ∧ σ.1 3 ≤ 1000 := hT.1 3
  have v5 : 0 ≤ σ.1 5 ∧ σ.1 5 ≤ 1500 := hT.1 5
  have v8 : 0 ≤ σ.1 8 ∧ σ.1 8 ≤ 20000 := hT.1 8
  have v9 : 0 ≤ σ.1 9 ∧ σ.1 9 ≤ 20000 := hT.1 9
  intro P4 P40 P62 h4 h40 h62
  have l_40 : ∀ (m_40 : Nat) (u2_40 : Int) (u3_40 : Int) (u4_40 : Int), 1501 - u4_40 < (m_40 : Int) → (0 ≤ u2_40 ∧ u2_40 ≤ 1000) → (0 ≤ u3_40 ∧ u3_40 ≤ u4_40) → (0 ≤ u4_40 ∧ u4_40 ≤ 1500) → P40 n1 u2_40 u3_40 u4_40 := by
    intro m_40
    induction m_40 with
    | zero =>
      intro u2_40 u3_40 u4_40 hm i40_1 i40_2 i40_3
      exfalso; (first | omega | (simp only [st_s] <;> omega) | assumption | omega | fail)
    | succ m_40 ih_40 =>
      intro u2_40 u3_40 u4_40 hm_40 i40_1 i40_2 i40_3
      refine h40 n1 u2_40 u3_40 u4_40 ?_
      refine ⟨fun c9 => ?_, fun c9 => ?_⟩
      ·
        refine ⟨fun c10 => ?_, fun c10 => ?_, fun c10 => ?_, fun c10 => ?_, fun c10 => ?_, fun c10 => ?_, fun c10 => ?_, fun c10 => ?_, fun c10 => ?_, fun c10 => ?_, fun c10 => ?_⟩
        ·
          exact trivial
        ·
          exact trivial
        ·
          exact trivial
        ·
          exact trivial
        ·
          exact trivial
        ·
          exact trivial
        ·
          exact trivial
        ·
          exact trivial
        ·
          exact trivial
        ·
          exact trivial
        ·
          exact trivial
      ·
        refine ⟨fun c11 => ?_, fun c11 => ?_⟩
        ·
          intro x12 r_x12 e_x12
          refine h62 _ _ _ _ _ ?_
          refine ⟨(show 0 ≤ u4_40 ∧ u4_40 < 1501 from by (first | omega | (simp only [st_s] <;> omega) | assumption | omega | fail)), ?_⟩
          intro x14 r_x14 e_x14
          have b_x14 : 0 ≤ x14 ∧ x14 ≤ 4 := by rw [e_x14]; exact hT.2 13 _
          refine ⟨fun c15 => ?_, fun c15 => ?_⟩
          ·
            refine ⟨(⟨by (first | omega | (simp only [st_s] <;> omega) | assumption | omega | fail), by (first | omega | (simp only [st_s] <;> omega) | assumption | omega | fail)⟩ : rg (u3_40 + 1)), ?_⟩
            refine ⟨(⟨by (first | omega | (simp only [st_s] <;> omega) | assumption | omega | fail), by (first | omega | (simp only [st_s] <;> omega) | assumption | omega | fail)⟩ : rg (u4_40 + 1)), ?_⟩
            exact ih_40 _ _ _ (show (1501 - (u4_40 + 1) : Int) < ((m_40 : Nat) : Int) from by ((first | omega | (simp only [st_s] <;> omega) | assumption | omega | fail))) (show 0 ≤ u2_40 ∧ u2_40 ≤ 1000 from by (first | omega | (simp only [st_s] <;> omega) | assumption | omega | fail)) (show 0 ≤ (u3_40 + 1) ∧ (u3_40 + 1) ≤ (u4_40 + 1) from by (first | omega | (simp only [st_s] <;> omega) | assumption | omega | fail)) (show 0 ≤ (u4_40 + 1) ∧ (u4_40 + 1) ≤ 1500 from by (first | omega | (simp only [st_s] <;> omega) | assumption | omega | fail))
          ·
            refine ⟨fun c18 => ?_, fun c18 => ?_⟩
            ·
              refine ⟨(⟨by (first | omega | (simp only [st_s] <;> omega) | assumption | omega | fail), by (first | omega | (simp only [st_s] <;> omega) | assumption | omega | fail)⟩ : rg (u3_40 + 0)), ?_⟩
              refine ⟨(⟨by (first | omega | (simp only [st_s] <;> omega) | assumption | omega | fail), by (first | omega | (simp only [st_s] <;> omega) | assumption | omega | fail)⟩ : rg (u4_40 + 1)), ?_⟩
              exact ih_40 _ _ _ (show (1501 - (u4_40 + 1) : Int) < ((m_40 : Nat) : Int) from by ((first | omega | (simp only [st_s] <;> omega) | assumption | omega | fail))) (show 0 ≤ u2_40 ∧ u2_40 ≤ 1000 from by (first | omega | (simp only [st_s] <;> omega) | assumption | omega | fail)) (show 0 ≤ (u3_40 + 0) ∧ (u3_40 + 0) ≤ (u4_40 + 1) from by (first | omega | (simp only [st_s] <;> omega) | assumption | omega | fail)) (show 0 ≤ (u4_40 + 1) ∧ (u4_40 + 1) ≤ 1500 from by (first | omega | (simp only [st_s] <;> omega) | assumption | omega | fail))
            ·
              intro x21 r_x21 e_x21
              have b_x21 : 0 ≤ x21 ∧ x21 ≤ 4 := by rw [e_x21]; exact hT.2 13 _
              refine ⟨fun c22 => ?_, fun c22 => ?_⟩
              ·
                refine ⟨(⟨by (first | omega | (simp only [st_s] <;> omega) | assumption | omega | fail), by (first | omega | (simp only [st_s] <;> omega) | assumption | omega | fail)⟩ : rg (u3_40 + 0)), ?_⟩
                refine ⟨(⟨by (first | omega | (simp only [st_s] <;> omega) | assumption | omega | fail), by (first | omega | (simp only [st_s] <;> omega) | assumption | omega | fail)⟩ : rg (u4_40 + 1)), ?_⟩
                exact ih_40 _ _ _ (show (1501 - (u4_40 + 1) : Int) < ((m_40 : Nat) : Int) from by ((first | omega | (simp only [st_s] <;> omega) | assumption | omega | fail))) (show 0 ≤ u2_40 ∧ u2_40 ≤ 1000 from by (first | omega | (simp only [st_s] <;> omega) | assumption | omega | fail)) (show 0 ≤ (u3_40 + 0) ∧ (u3_40 + 0) ≤ (u4_40 + 1) from by (first | omega | (simp only [st_s] <;> omega) | assumption | omega | fail)) (show 0 ≤ (u4_40 + 1) ∧ (u4_40 + 1) ≤ 1500 from by (first | omega | (simp only [st_s] <;> omega) | assumption | omega | fail))
              ·
                refine ⟨(⟨by (first | omega | (simp only [st_s] <;> omega) | assumption | omega | fail), by (first | omega | (simp only [st_s] <;> omega) | assumption | omega | fail)⟩ : rg (u3_40 + 1)), ?_⟩
                refine ⟨(⟨by (first | omega | (simp only [st_s] <;> omega) | assumption | omega | fail), by (first | omega | (simp only [st_s] <;> omega) | assumption | omega | fail)⟩ : rg (u4_40 + 1)), ?_⟩
                exact ih_40 _ _ _ (show (1501 - (u4_40 + 1) : Int) < ((m_40 : Nat) : Int) from by ((first | omega | (simp only [st_s] <;> omega) | assumption | omega | fail))) (show 0 ≤ u2_40 ∧ u2_40 ≤ 1000 from by (first | omega | (simp only [st_s] <;> omega) | assumption | omega | fail)) (show 0 ≤ (u3_40 + 1) ∧ (u3_40 + 1) ≤ (u4_40 + 1) from by (first | omega | (simp only [st_s] <;> omega) | assumption | omega | fail)) (show 0 ≤ (u4_40 + 1) ∧ (u4_40 + 1) ≤ 1500 from by (first | omega | (simp only [st_s] <;> omega) | assumption | omega | fail))
        ·
          refine h62 _ _ _ _ _ ?_
          refine ⟨(show 0 ≤ u4_40 ∧ u4_40 < 1501 from by (first | omega | (simp only [st_s] <;> omega) | assumption | omega | fail)), ?_⟩
          intro x14 r_x14 e_x14
          have b_x14 : 0 ≤ x14 ∧ x14 ≤ 4 := by rw [e_x14]; exact hT.2 13 _
          refine ⟨fun c15 => ?_, fun c15 => ?_⟩
          ·
            refine ⟨(⟨by (first | omega | (simp only [st_s] <;> omega) | assumption | omega | fail), by (first | omega | (simp only [st_s] <;> omega) | assumption | omega | fail)⟩ : rg (u3_40 + 1)), ?_⟩
            refine ⟨(⟨by (first | omega | (simp only [st_s] <;> omega) | assumption | omega | fail), by (first | omega | (simp only [st_s] <;> omega) | assumption | omega | fail)⟩ : rg (u4_40 + 1)), ?_⟩
            exact ih_40 _ _ _ (show (1501 - (u4_40 + 1) : Int) < ((m_40 : Nat) : Int) from by ((first | omega | (simp only [st_s] <;> omega) | assumption | omega | fail))) (show 0 ≤ u2_40 ∧ u2_40 ≤ 1000 from by (first | omega | (simp only [st_s] <;> omega) | assumption | omega | fail)) (show 0 ≤ (u3_40 + 1) ∧ (u3_40 + 1) ≤ (u4_40 + 1) from by (first | omega | (simp only [st_s] <;> omega) | assumption | omega | fail)) (show 0 ≤ (u4_40 + 1) ∧ (u4_40 + 1) ≤ 1500 from by (first | omega | (simp only [st_s] <;> omega) | assumption | omega | fail))
          ·
            refine ⟨fun c18 => ?_, fun c18 => ?_⟩
            ·
              refine ⟨(⟨by (first | omega | (simp only [st_s] <;> omega) | assumption | omega | fail), by (first | omega | (simp only [st_s] <;> omega) | assumption | omega | fail)⟩ : rg (u3_40 + 0)), ?_⟩
              refine ⟨(⟨by (first | omega | (simp only [st_s] <;> omega) | assumption | omega | fail), by (first | omega | (simp only [st_s] <;> omega) | assumption | omega | fail)⟩ : rg (u4_40 + 1)), ?_⟩
              exact ih_40 _ _ _ (show (1501 - (u4_40 + 1) : Int) < ((m_40 : Nat) : Int) from by ((first | omega | (simp only [st_s] <;> omega) | assumption | omega | fail))) (show 0 ≤ u2_40 ∧ u2_40 ≤ 1000 from by (first | omega | (simp only [st_s] <;> omega) | assumption | omega | fail)) (show 0 ≤ (u3_40 + 0) ∧ (u3_40 + 0) ≤ (u4_40 + 1) from by (first | omega | (simp only [st_s] <;> omega) | assumption | omega | fail)) (show 0 ≤ (u4_40 + 1) ∧ (u4_40 + 1) ≤ 1500 from by (first | omega | (simp only [st_s] <;> omega) | assumption | omega | fail))
            ·
              intro x21 r_x21 e_x21
              have b_x21 : 0 ≤ x21 ∧ x21 ≤ 4 := by rw [e_x21]; exact hT.2 13 _
              refine ⟨fun c22 => ?_, fun c22 => ?_⟩
              ·
                refine ⟨(⟨by (first | omega | (simp only [st_s] <;> omega) | assumption | omega | fail), by (first | omega | (simp only [st_s] <;> omega) | assumption | omega | fail)⟩ : rg (u3_40 + 0)), ?_⟩
                refine ⟨(⟨by (first | omega | (simp only [st_s] <;> omega) | assumption | omega | fail), by (first | omega | (simp only [st_s] <;> omega) | assumption | omega | fail)⟩ : rg (u4_40 + 1)), ?_⟩
                exact ih_40 _ _ _ (show (1501 - (u4_40 + 1) : Int) < ((m_40 : Nat) : Int) from by ((first | omega | (simp only [st_s] <;> omega) | assumption | omega | fail))) (show 0 ≤ u2_40 ∧ u2_40 ≤ 1000 from by (first | omega | (simp only [st_s] <;> omega) | assumption | omega | fail)) (show 0 ≤ (u3_40 + 0) ∧ (u3_40 + 0) ≤ (u4_40 + 1) from by (first | omega | (simp only [st_s] <;> omega) | assumption | omega | fail)) (show 0 ≤ (u4_40 + 1) ∧ (u4_40 + 1) ≤ 1500 from by (first | omega | (simp only [st_s] <;> omega) | assumption | omega | fail))
              ·
                refine ⟨(⟨by (first | omega | (simp only [st_s] <;> omega) | assumption | omega | fail), by (first | omega | (simp only [st_s] <;> omega) | assumption | omega | fail)⟩ : rg (u3_40 + 1)), ?_⟩
                refine ⟨(⟨by (first | omega | (simp only [st_s] <;> omega) | assumption | omega | fail), by (first | omega | (simp only [st_s] <;> omega) | assumption | omega | fail)⟩ : rg (u4_40 + 1)), ?_⟩
                exact ih_40 _ _ _ (show (1501 - (u4_40 + 1) : Int) < ((m_40 : Nat) : Int) from by ((first | omega | (simp only [st_s] <;> omega) | assumption | omega | fail))) (show 0 ≤ u2_40 ∧ u2_40 ≤ 1000 from by (first | omega | (simp only [st_s] <;> omega) | assumption | omega | fail)) (show 0 ≤ (u3_40 + 1) ∧ (u3_40 + 1) ≤ (u4_40 + 1) from by (first | omega | (simp only [st_s] <;> omega) | assumption | omega | fail)) (show 0 ≤ (u4_40 + 1) ∧ (u4_40 + 1) ≤ 1500 from by (first | omega | (simp only [st_s] <;> omega) | assumption | omega | fail))
  have l_4 : ∀ (m_4 : Nat) (u2_4 : Int) (u3_4 : Int), 1001 - u3_4 < (m_4 : Int) → (0 ≤ u2_4 ∧ u2_4 ≤ u3_4) → (0 ≤ u3_4) → (u3_4 ≤ 1000) → P4 n1 u2_4 u3_4 := by
    intro m_4
    induction m_4 with
    | zero =>
      intro u2_4 u3_4 hm i4_1 i4_2 i4_3
      exfalso; (first | omega | (simp only [st_s] <;> omega) | assumption | omega | fail)
    | succ m_4 ih_4 =>
      intro u2_4 u3_4 hm_4 i4_1 i4_2 i4_3
      refine h4 n1 u2_4 u3_4 ?_
      refine ⟨fun c1 => ?_, fun c1 => ?_⟩
      ·
        exact l_40 ((1501 - 0 : Int).toNat + 1) _ _ _ (show (1501 - 0 : Int) < (((1501 - 0 : Int).toNat + 1 : Nat) : Int) from by ((first | omega | (simp only [st_s] <;> omega) | assumption | omega | fail))) (show 0 ≤ u2_4 ∧ u2_4 ≤ 1000 from by (first | omega | (simp only [st_s] <;> omega) | assumption | omega | fail)) (show 0 ≤ 0 ∧ 0 ≤ 0 from by (first | omega | (simp only [st_s] <;> omega) | assumption | omega | fail)) (show 0 ≤ 0 ∧ 0 ≤ 1500 from by (first | omega | (simp only [st_s] <;> omega) | assumption | omega | fail))
      ·
        refine ⟨(show 0 ≤ u3_4 ∧ u3_4 < 1001 from by (first | omega | (simp only [st_s] <;> omega) | assumption | omega | fail)), ?_⟩
        intro x3 r_x3 e_x3
        have b_x3 : 0 ≤ x3 ∧ x3 ≤ 1 := by rw [e_x3]; exact hT.2 8 _
        refine ⟨fun c4 => ?_, fun c4 => ?_⟩
        ·
          refine ⟨(⟨by (first | omega | (simp only [st_s] <;> omega) | assumption | omega | fail), by (first | omega | (simp only [st_s] <;> omega) | assumption | omega | fail)⟩ : rg (u2_4 + 1)), ?_⟩
          refine ⟨(⟨by (first | omega | (simp only [st_s] <;> omega) | assumption | omega | fail), by (first | omega | (simp only [st_s] <;> omega) | assumption | omega | fail)⟩ : rg (u3_4 + 1)), ?_⟩
          exact ih_4 _ _ (show (1001 - (u3_4 + 1) : Int) < ((m_4 : Nat) : Int) from by ((first | omega | (simp only [st_s] <;> omega) | assumption | omega | fail))) (show 0 ≤ (u2_4 + 1) ∧ (u2_4 + 1) ≤ (u3_4 + 1) from by (first | omega | (simp only [st_s] <;> omega) | assumption | omega | fail)) (show 0 ≤ (u3_4 + 1) from by (first | omega | (simp only [st_s] <;> omega) | assumption | omega | fail)) (show (u3_4 + 1) ≤ 1000 from by (first | omega | (simp only [st_s] <;> omega) | assumption | omega | fail))
        ·
          refine ⟨(⟨by (first | omega | (simp only [st_s] <;> omega) | assumption | omega | fail), by (first | omega | (simp only [st_s] <;> omega) | assumption | omega | fail)⟩ : rg (u2_4 + 0)), ?_⟩
          refine ⟨(⟨by (first | omega | (simp only [st_s] <;> omega) | assumption | omega | fail), by (first | omega | (simp only [st_s] <;> omega) | assumption | omega | fail)⟩ : rg (u3_4 + 1)), ?_⟩
          exact ih_4 _ _ (show (1001 - (u3_4 + 1) : Int) < ((m_4 : Nat) : Int) from by ((first | omega | (simp only [st_s] <;> omega) | assumption | omega | fail))) (show 0 ≤ (u2_4 + 0) ∧ (u2_4 + 0) ≤ (u3_4 + 1) from by (first | omega | (simp only [st_s] <;> omega) | assumption | omega | fail)) (show 0 ≤ (u3_4 + 1) from by (first | omega | (simp only [st_s] <;> omega) | assumption | omega | fail)) (show (u3_4 + 1) ≤ 1000 from by (first | omega | (simp only [st_s] <;> omega) | assumption | omega | fail))
  exact l_4 ((1001 - 0 : Int).toNat + 1) _ _ (show (1001 - 0 : Int) < (((1001 - 0 : Int).toNat + 1 : Nat) : Int) from by ((first | omega | (simp only [st_s] <;> omega) | assumption | omega | fail))) (show 0 ≤ 0 ∧ 0 ≤ 0 from by (first | omega | (simp only [st_s] <;> omega) | assumption | omega | fail)) (show 0 ≤ 0 from by (first | omega | (simp only [st_s] <;> omega) | assumption | omega | fail)) (show 0 ≤ 1000 from by (first | omega | (simp only [st_s] <;> omega) | assumption | omega | fail))
set_option maxHeartbeats 1000000 in
theorem K_X13_find {n1 : Int} {σ : S0} (hT : m_T σ) (p1 : oc (σ.2.1 6) < 4096) (p2 : oc (σ.2.1 7) < 4096) : W_X13_find n1 σ (fun (x : Int) (τ : S0) => (m_T τ) ∧ ((τ.1 0) = 0) ∧ ((τ.1 1) = 0)) := by
  have A6 : ∀ j, (-1) ≤ σ.2.1 6 j ∧ σ.2.1 6 j ≤ 999 := fun j => hT.2 6 j
  have A7 : ∀ j, (-1) ≤ σ.2.1 7 j ∧ σ.2.1 7 j ≤ 1499 := fun j => hT.2 7 j
  have v0 : 0 ≤ σ.1 0 ∧ σ.1 0 ≤ 60000 := hT.1 0
  have v1 : 0 ≤ σ.1 1 ∧ σ.1 1 ≤ 1 := hT.1 1
  have v16 : 0 ≤ σ.1 16 ∧ σ.1 16 ≤ 60000 := hT.1 16
  have v17 : 0 ≤ σ.1 17 ∧ σ.1 17 ≤ 60000 := hT.1 17
  have v18 : 0 ≤ σ.1 18 ∧ σ.1 18 ≤ 60000 := hT.1 18
  have G6 : σ.2.1 6 = σ.2.1 6 := rfl
  have G7 : σ.2.1 7 = σ.2.1 7 := rfl
  intro P38 P88 h38 h88
  refine ⟨_, K_X13_rowFrom hT (show 0 ≤ (0 : Int) from by (first | omega | (simp only [st_s] <;> omega) | assumption | omega | fail)) (show (0 : Int) ≤ (σ.1 0) from by (first | omega | (simp only [st_s] <;> omega) | assumption | omega | fail)), ?_⟩
  intro x2 τ3 r_x2 hn_τ3 hf_τ3 hq
  obtain ⟨hT, q1_1, q1_2, q1_3, q1_4, q1_5⟩ := hq
  replace q1_1 : -1 ≤ x2 ∧ x2 ≤ 1 := q1_1
  replace q1_2 : (τ3.1 16) ≤ (τ3.1 0) := q1_2
  replace q1_3 : (τ3.1 17) + (τ3.1 18) = (τ3.1 16) := q1_3
  replace q1_4 : (0 : Int) ≤ (τ3.1 17) := q1_4
  replace q1_5 : x2 = 1 → 0 < (τ3.1 18) := q1_5
  have w0_τ3 : τ3.1 0 = σ.1 0 := hf_τ3.1 0 (by decide)
  have w1_τ3 : τ3.1 1 = σ.1 1 := hf_τ3.1 1 (by decide)
  have g6_τ3 : τ3.2.1 6 = σ.2.1 6 := hf_τ3.2.1 6 (by decide)
  have g7_τ3 : τ3.2.1 7 = σ.2.1 7 := hf_τ3.2.1 7 (by decide)
  first | (have o6_τ3 := congrArg oc g6_τ3) | skip
  first | (have o7_τ3 := congrArg oc g7_τ3) | skip
  have G6 : τ3.2.1 6 = σ.2.1 6 := (g6_τ3).trans G6
  have G7 : τ3.2.1 7 = σ.2.1 7 := (g7_τ3).trans G7
  have A6 : ∀ j, (-1) ≤ τ3.2.1 6 j ∧ τ3.2.1 6 j ≤ 999 := fun j => hT.2 6 j
  have A7 : ∀ j, (-1) ≤ τ3.2.1 7 j ∧ τ3.2.1 7 j ≤ 1499 := fun j => hT.2 7 j
  have v0 : 0 ≤ τ3.1 0 ∧ τ3.1 0 ≤ 60000 := hT.1 0
  have v1 : 0 ≤ τ3.1 1 ∧ τ3.1 1 ≤ 1 := hT.1 1
  have v16 : 0 ≤ τ3.1 16 ∧ τ3.1 16 ≤ 60000 := hT.1 16
  have v17 : 0 ≤ τ3.1 17 ∧ τ3.1 17 ≤ 60000 := hT.1 17
  have v18 : 0 ≤ τ3.1 18 ∧ τ3.1 18 ≤ 60000 := hT.1 18
  refine ⟨fun c4 => ?_, fun c4 => ?_⟩
  ·
    refine h38 _ _ _ _ _ ?_
    refine ⟨fun c13 => ?_, fun c13 => ?_⟩
    ·
      refine h88 _ _ ?_
      refine ⟨_, K_X13_useTape hT, ?_⟩
      intro τ27 hn_τ27 hf_τ27 hq
      obtain ⟨hT, q25_1, q25_2⟩ := hq
      replace q25_1 : (τ27.1 0) = 0 := q25_1
      replace q25_2 : (τ27.1 1) = 0 := q25_2
      have w16_τ27 : τ27.1 16 = τ3.1 16 := hf_τ27.1 16 (by decide)
      have w17_τ27 : τ27.1 17 = τ3.1 17 := hf_τ27.1 17 (by decide)
      have w18_τ27 : τ27.1 18 = τ3.1 18 := hf_τ27.1 18 (by decide)
      have g6_τ27 : τ27.2.1 6 = τ3.2.1 6 := hf_τ27.2.1 6 (by decide)
      have g7_τ27 : τ27.2.1 7 = τ3.2.1 7 := hf_τ27.2.1 7 (by decide)
      first | (have o6_τ27 := congrArg oc g6_τ27) | skip
      first | (have o7_τ27 := congrArg oc g7_τ27) | skip
      have G6 : τ27.2.1 6 = σ.2.1 6 := (g6_τ27).trans G6
      have G7 : τ27.2.1 7 = σ.2.1 7 := (g7_τ27).trans G7
      have A6 : ∀ j, (-1) ≤ τ27.2.1 6 j ∧ τ27.2.1 6 j ≤ 999 := fun j => hT.2 6 j
      have A7 : ∀ j, (-1) ≤ τ27.2.1 7 j ∧ τ27.2.1 7 j ≤ 1499 := fun j => hT.2 7 j
      have v0 : 0 ≤ τ27.1 0 ∧ τ27.1 0 ≤ 60000 := hT.1 0
      have v1 : 0 ≤ τ27.1 1 ∧ τ27.1 1 ≤ 1 := hT.1 1
      have v16 : 0 ≤ τ27.1 16 ∧ τ27.1 16 ≤ 60000 := hT.1 16
      have v17 : 0 ≤ τ27.1 17 ∧ τ27.1 17 ≤ 60000 := hT.1 17
      have v18 : 0 ≤ τ27.1 18 ∧ τ27.1 18 ≤ 60000 := hT.1 18
      exact ⟨hT, (show (τ27.1 0) = 0 from by (first | omega | (simp only [st_s] <;> omega) | assumption | omega | fail)), (show (τ27.1 1) = 0 from by (first | omega | (simp only [st_s] <;> omega) | assumption | omega | fail))⟩
    ·
      refine ⟨_, K_X13_isIn hT, ?_⟩
      intro x15 r_x15 hq
      obtain ⟨q14_1, q14_2⟩ := hq
      replace q14_1 : 0 ≤ x15 ∧ x15 ≤ 1 := q14_1
      replace q14_2 : x15 = 1 ↔ ((0 : Int64) ≤ (j_of n1) ∧ (j_of n1) ≤ (1 : Int64)) := q14_2
      refine ⟨fun c17 => ?_, fun c17 => ?_⟩
      ·
        refine ⟨fun c18 => ?_, fun c18 => ?_⟩
        ·
          refine ⟨_, K_X13_findSymbol_q1 hT (show 0 ≤ (τ3.1 17) from by (first | omega | (simp only [st_s] <;> omega) | assumption | omega | fail)) (show (τ3.1 17) + (τ3.1 18) ≤ 60000 from by (first | omega | (simp only [st_s] <;> omega) | assumption | omega | fail)) (show oc (τ3.2.1 6) < 4096 from by (first | omega | (simp only [st_s] <;> omega) | assumption | omega | fail)), ?_⟩
          intro x20 r_x20 hq
          obtain ⟨q19_1, q19_2⟩ := hq
          replace q19_1 : -1 ≤ x20 ∧ x20 ≤ 999 := q19_1
          replace q19_2 : x20 = -1 ∨ ∃ e : Int, (0 ≤ e ∧ e < 4096) ∧ x20 = τ3.2.1 6 e := q19_2
          clear q19_2
          refine h88 _ _ ?_
          refine ⟨_, K_X13_useTape hT, ?_⟩
          intro τ27 hn_τ27 hf_τ27 hq
          obtain ⟨hT, q25_1, q25_2⟩ := hq
          replace q25_1 : (τ27.1 0) = 0 := q25_1
          replace q25_2 : (τ27.1 1) = 0 := q25_2
          have w16_τ27 : τ27.1 16 = τ3.1 16 := hf_τ27.1 16 (by decide)
          have w17_τ27 : τ27.1 17 = τ3.1 17 := hf_τ27.1 17 (by decide)
          have w18_τ27 : τ27.1 18 = τ3.1 18 := hf_τ27.1 18 (by decide)
          have g6_τ27 : τ27.2.1 6 = τ3.2.1 6 := hf_τ27.2.1 6 (by decide)
          have g7_τ27 : τ27.2.1 7 = τ3.2.1 7 := hf_τ27.2.1 7 (by decide)
          first | (have o6_τ27 := congrArg oc g6_τ27) | skip
          first | (have o7_τ27 := congrArg oc g7_τ27) | skip
          have G6 : τ27.2.1 6 = σ.2.1 6 := (g6_τ27).trans G6
          have G7 : τ27.2.1 7 = σ.2.1 7 := (g7_τ27).trans G7
          have A6 : ∀ j, (-1) ≤ τ27.2.1 6 j ∧ τ27.2.1 6 j ≤ 999 := fun j => hT.2 6 j
          have A7 : ∀ j, (-1) ≤ τ27.2.1 7 j ∧ τ27.2.1 7 j ≤ 1499 := fun j => hT.2 7 j
          have v0 : 0 ≤ τ27.1 0 ∧ τ27.1 0 ≤ 60000 := hT.1 0
          have v1 : 0 ≤ τ27.1 1 ∧ τ27.1 1 ≤ 1 := hT.1 1
          have v16 : 0 ≤ τ27.1 16 ∧ τ27.1 16 ≤ 60000 := hT.1 16
          have v17 : 0 ≤ τ27.1 17 ∧ τ27.1 17 ≤ 60000 := hT.1 17
          have v18 : 0 ≤ τ27.1 18 ∧ τ27.1 18 ≤ 60000 := hT.1 18
          exact ⟨hT, (show (τ27.1 0) = 0 from by (first | omega | (simp only [st_s] <;> omega) | assumption | omega | fail)), (show (τ27.1 1) = 0 from by (first | omega | (simp only [st_s] <;> omega) | assumption | omega | fail))⟩
        ·
          refine ⟨_, K_X13_findLabel_q1 hT (show 0 ≤ (τ3.1 17) from by (first | omega | (simp only [st_s] <;> omega) | assumption | omega | fail)) (show (τ3.1 17) + (τ3.1 18) ≤ 60000 from by (first | omega | (simp only [st_s] <;> omega) | assumption | omega | fail)) (show oc (τ3.2.1 7) < 4096 from by (first | omega | (simp only [st_s] <;> omega) | assumption | omega | fail)), ?_⟩
          intro x23 r_x23 hq
          have q22_1 := hq
          replace q22_1 : -1 ≤ x23 ∧ x23 ≤ 1499 := q22_1
          refine h88 _ _ ?_
          refine ⟨_, K_X13_useTape hT, ?_⟩
          intro τ27 hn_τ27 hf_τ27 hq
          obtain ⟨hT, q25_1, q25_2⟩ := hq
          replace q25_1 : (τ27.1 0) = 0 := q25_1
          replace q25_2 : (τ27.1 1) = 0 := q25_2
          have w16_τ27 : τ27.1 16 = τ3.1 16 := hf_τ27.1 16 (by decide)
          have w17_τ27 : τ27.1 17 = τ3.1 17 := hf_τ27.1 17 (by decide)
          have w18_τ27 : τ27.1 18 = τ3.1 18 := hf_τ27.1 18 (by decide)
          have g6_τ27 : τ27.2.1 6 = τ3.2.1 6 := hf_τ27.2.1 6 (by decide)
          have g7_τ27 : τ27.2.1 7 = τ3.2.1 7 := hf_τ27.2.1 7 (by decide)
          first | (have o6_τ27 := congrArg oc g6_τ27) | skip
          first | (have o7_τ27 := congrArg oc g7_τ27) | skip
          have G6 : τ27.2.1 6 = σ.2.1 6 := (g6_τ27).trans G6
          have G7 : τ27.2.1 7 = σ.2.1 7 := (g7_τ27).trans G7
          have A6 : ∀ j, (-1) ≤ τ27.2.1 6 j ∧ τ27.2.1 6 j ≤ 999 := fun j => hT.2 6 j
          have A7 : ∀ j, (-1) ≤ τ27.2.1 7 j ∧ τ27.2.1 7 j ≤ 1499 := fun j => hT.2 7 j
          have v0 : 0 ≤ τ27.1 0 ∧ τ27.1 0 ≤ 60000 := hT.1 0
          have v1 : 0 ≤ τ27.1 1 ∧ τ27.1 1 ≤ 1 := hT.1 1
          have v16 : 0 ≤ τ27.1 16 ∧ τ27.1 16 ≤ 60000 := hT.1 16
          have v17 : 0 ≤ τ27.1 17 ∧ τ27.1 17 ≤ 60000 := hT.1 17
          have v18 : 0 ≤ τ27.1 18 ∧ τ27.1 18 ≤ 60000 := hT.1 18
          exact ⟨hT, (show (τ27.1 0) = 0 from by (first | omega | (simp only [st_s] <;> omega) | assumption | omega | fail)), (show (τ27.1 1) = 0 from by (first | omega | (simp only [st_s] <;> omega) | assumption | omega | fail))⟩
      ·
        refine h88 _ _ ?_
        refine ⟨_, K_X13_useTape hT, ?_⟩
        intro τ27 hn_τ27 hf_τ27 hq
        obtain ⟨hT, q25_1, q25_2⟩ := hq
        replace q25_1 : (τ27.1 0) = 0 := q25_1
        replace q25_2 : (τ27.1 1) = 0 := q25_2
        have w16_τ27 : τ27.1 16 = τ3.1 16 := hf_τ27.1 16 (by decide)
        have w17_τ27 : τ27.1 17 = τ3.1 17 := hf_τ27.1 17 (by decide)
        have w18_τ27 : τ27.1 18 = τ3.1 18 := hf_τ27.1 18 (by decide)
        have g6_τ27 : τ27.2.1 6 = τ3.2.1 6 := hf_τ27.2.1 6 (by decide)
        have g7_τ27 : τ27.2.1 7 = τ3.2.1 7 := hf_τ27.2.1 7 (by decide)
        first | (have o6_τ27 := congrArg oc g6_τ27) | skip
        first | (have o7_τ27 := congrArg oc g7_τ27) | skip
        have G6 : τ27.2.1 6 = σ.2.1 6 := (g6_τ27).trans G6
        have G7 : τ27.2.1 7 = σ.2.1 7 := (g7_τ27).trans G7
        have A6 : ∀ j, (-1) ≤ τ27.2.1 6 j ∧ τ27.2.1 6 j ≤ 999 := fun j => hT.2 6 j
        have A7 : ∀ j, (-1) ≤ τ27.2.1 7 j ∧ τ27.2.1 7 j ≤ 1499 := fun j => hT.2 7 j
        have v0 : 0 ≤ τ27.1 0 ∧ τ27.1 0 ≤ 60000 := hT.1 0
        have v1 : 0 ≤ τ27.1 1 ∧ τ27.1 1 ≤ 1 := hT.1 1
        have v16 : 0 ≤ τ27.1 16 ∧ τ27.1 16 ≤ 60000 := hT.1 16
        have v17 : 0 ≤ τ27.1 17 ∧ τ27.1 17 ≤ 60000 := hT.1 17
        have v18 : 0 ≤ τ27.1 18 ∧ τ27.1 18 ≤ 60000 := hT.1 18
        exact ⟨hT, (show (τ27.1 0) = 0 from by (first | omega | (simp only [st_s] <;> omega) | assumption | omega | fail)), (show (τ27.1 1) = 0 from by (first | omega | (simp only [st_s] <;> omega) | assumption | omega | fail))⟩
  ·
    refine ⟨_, K_X13_rowFrom hT (show 0 ≤ (τ3.1 16) from by (first | omega | (simp only [st_s] <;> omega) | assumption | omega | fail)) (show (τ3.1 16) ≤ (τ3.1 0) from by (first | omega | (simp only [st_s] <;> omega) | assumption | omega | fail)), ?_⟩
    intro x6 τ7 r_x6 hn_τ7 hf_τ7 hq
    obtain ⟨hT, q5_1, q5_2, q5_3, q5_4, q5_5⟩ := hq
    replace q5_1 : -1 ≤ x6 ∧ x6 ≤ 1 := q5_1
    replace q5_2 : (τ7.1 16) ≤ (τ7.1 0) := q5_2
    replace q5_3 : (τ7.1 17) + (τ7.1 18) = (τ7.1 16) := q5_3
    replace q5_4 : (τ3.1 16) ≤ (τ7.1 17) := q5_4
    replace q5_5 : x6 = 1 → 0 < (τ7.1 18) := q5_5
    have w0_τ7 : τ7.1 0 = τ3.1 0 := hf_τ7.1 0 (by decide)
    have w1_τ7 : τ7.1 1 = τ3.1 1 := hf_τ7.1 1 (by decide)
    have g6_τ7 : τ7.2.1 6 = τ3.2.1 6 := hf_τ7.2.1 6 (by decide)
    have g7_τ7 : τ7.2.1 7 = τ3.2.1 7 := hf_τ7.2.1 7 (by decide)
    first | (have o6_τ7 := congrArg oc g6_τ7) | skip
    first | (have o7_τ7 := congrArg oc g7_τ7) | skip
    have G6 : τ7.2.1 6 = σ.2.1 6 := (g6_τ7).trans G6
    have G7 : τ7.2.1 7 = σ.2.1 7 := (g7_τ7).trans G7
    have A6 : ∀ j, (-1) ≤ τ7.2.1 6 j ∧ τ7.2.1 6 j ≤ 999 := fun j => hT.2 6 j
    have A7 : ∀ j, (-1) ≤ τ7.2.1 7 j ∧ τ7.2.1 7 j ≤ 1499 := fun j => hT.2 7 j
    have v0 : 0 ≤ τ7.1 0 ∧ τ7.1 0 ≤ 60000 := hT.1 0
    have v1 : 0 ≤ τ7.1 1 ∧ τ7.1 1 ≤ 1 := hT.1 1
    have v16 : 0 ≤ τ7.1 16 ∧ τ7.1 16 ≤ 60000 := hT.1 16
    have v17 : 0 ≤ τ7.1 17 ∧ τ7.1 17 ≤ 60000 := hT.1 17
    have v18 : 0 ≤ τ7.1 18 ∧ τ7.1 18 ≤ 60000 := hT.1 18
    refine ⟨fun c8 => ?_, fun c8 => ?_⟩
    ·
      refine ⟨(⟨by (first | omega | (simp only [st_s] <;> omega) | assumption | omega | fail), by (first | omega | (simp only [st_s] <;> omega) | assumption | omega | fail)⟩ : rg (τ3.1 17)), ?_⟩
      refine ⟨(⟨by (first | omega | (simp only [st_s] <;> omega) | assumption | omega | fail), by (first | omega | (simp only [st_s] <;> omega) | assumption | omega | fail)⟩ : rg (τ3.1 18)), ?_⟩
      refine h38 _ _ _ _ _ ?_
      refine ⟨fun c13 => ?_, fun c13 => ?_⟩
      ·
        refine h88 _ _ ?_
        refine ⟨_, K_X13_useTape hT, ?_⟩
        intro τ27 hn_τ27 hf_τ27 hq
        obtain ⟨hT, q25_1, q25_2⟩ := hq
        replace q25_1 : (τ27.1 0) = 0 := q25_1
        replace q25_2 : (τ27.1 1) = 0 := q25_2
        have w16_τ27 : τ27.1 16 = τ7.1 16 := hf_τ27.1 16 (by decide)
        have w17_τ27 : τ27.1 17 = τ7.1 17 := hf_τ27.1 17 (by decide)
        have w18_τ27 : τ27.1 18 = τ7.1 18 := hf_τ27.1 18 (by decide)
        have g6_τ27 : τ27.2.1 6 = τ7.2.1 6 := hf_τ27.2.1 6 (by decide)
        have g7_τ27 : τ27.2.1 7 = τ7.2.1 7 := hf_τ27.2.1 7 (by decide)
        first | (have o6_τ27 := congrArg oc g6_τ27) | skip
        first | (have o7_τ27 := congrArg oc g7_τ27) | skip
        have G6 : τ27.2.1 6 = σ.2.1 6 := (g6_τ27).trans G6
        have G7 : τ27.2.1 7 = σ.2.1 7 := (g7_τ27).trans G7
        have A6 : ∀ j, (-1) ≤ τ27.2.1 6 j ∧ τ27.2.1 6 j ≤ 999 := fun j => hT.2 6 j
        have A7 : ∀ j, (-1) ≤ τ27.2.1 7 j ∧ τ27.2.1 7 j ≤ 1499 := fun j => hT.2 7 j
        have v0 : 0 ≤ τ27.1 0 ∧ τ27.1 0 ≤ 60000 := hT.1 0
        have v1 : 0 ≤ τ27.1 1 ∧ τ27.1 1 ≤ 1 := hT.1 1
        have v16 : 0 ≤ τ27.1 16 ∧ τ27.1 16 ≤ 60000 := hT.1 16
        have v17 : 0 ≤ τ27.1 17 ∧ τ27.1 17 ≤ 60000 := hT.1 17
        have v18 : 0 ≤ τ27.1 18 ∧ τ27.1 18 ≤ 60000 := hT.1 18
        exact ⟨hT, (show (τ27.1 0) = 0 from by (first | omega | (simp only [st_s] <;> omega) | assumption | omega | fail)), (show (τ27.1 1) = 0 from by (first | omega | (simp only [st_s] <;> omega) | assumption | omega | fail))⟩
      ·
        refine ⟨_, K_X13_isIn hT, ?_⟩
        intro x15 r_x15 hq
        obtain ⟨q14_1, q14_2⟩ := hq
        replace q14_1 : 0 ≤ x15 ∧ x15 ≤ 1 := q14_1
        replace q14_2 : x15 = 1 ↔ ((0 : Int64) ≤ (j_of n1) ∧ (j_of n1) ≤ (1 : Int64)) := q14_2
        refine ⟨fun c17 => ?_, fun c17 => ?_⟩
        ·
          refine ⟨fun c18 => ?_, fun c18 => ?_⟩
          ·
            refine ⟨_, K_X13_findSymbol_q1 hT (show 0 ≤ (τ3.1 17) from by (first | omega | (simp only [st_s] <;> omega) | assumption | omega | fail)) (show (τ3.1 17) + (τ3.1 18) ≤ 60000 from by (first | omega | (simp only [st_s] <;> omega) | assumption | omega | fail)) (show oc (τ7.2.1 6) < 4096 from by (first | omega | (simp only [st_s] <;> omega) | assumption | omega | fail)), ?_⟩
            intro x20 r_x20 hq
            obtain ⟨q19_1, q19_2⟩ := hq
            replace q19_1 : -1 ≤ x20 ∧ x20 ≤ 999 := q19_1
            replace q19_2 : x20 = -1 ∨ ∃ e : Int, (0 ≤ e ∧ e < 4096) ∧ x20 = τ7.2.1 6 e := q19_2
            clear q19_2
            refine h88 _ _ ?_
            refine ⟨_, K_X13_useTape hT, ?_⟩
            intro τ27 hn_τ27 hf_τ27 hq
            obtain ⟨hT, q25_1, q25_2⟩ := hq
            replace q25_1 : (τ27.1 0) = 0 := q25_1
            replace q25_2 : (τ27.1 1) = 0 := q25_2
            have w16_τ27 : τ27.1 16 = τ7.1 16 := hf_τ27.1 16 (by decide)
            have w17_τ27 : τ27.1 17 = τ7.1 17 := hf_τ27.1 17 (by decide)
            have w18_τ27 : τ27.1 18 = τ7.1 18 := hf_τ27.1 18 (by decide)
            have g6_τ27 : τ27.2.1 6 = τ7.2.1 6 := hf_τ27.2.1 6 (by decide)
            have g7_τ27 : τ27.2.1 7 = τ7.2.1 7 := hf_τ27.2.1 7 (by decide)
            first | (have o6_τ27 := congrArg oc g6_τ27) | skip
            first | (have o7_τ27 := congrArg oc g7_τ27) | skip
            have G6 : τ27.2.1 6 = σ.2.1 6 := (g6_τ27).trans G6
            have G7 : τ27.2.1 7 = σ.2.1 7 := (g7_τ27).trans G7
            have A6 : ∀ j, (-1) ≤ τ27.2.1 6 j ∧ τ27.2.1 6 j ≤ 999 := fun j => hT.2 6 j
            have A7 : ∀ j, (-1) ≤ τ27.2.1 7 j ∧ τ27.2.1 7 j ≤ 1499 := fun j => hT.2 7 j
            have v0 : 0 ≤ τ27.1 0 ∧ τ27.1 0 ≤ 60000 := hT.1 0
            have v1 : 0 ≤ τ27.1 1 ∧ τ27.1 1 ≤ 1 := hT.1 1
            have v16 : 0 ≤ τ27.1 16 ∧ τ27.1 16 ≤ 60000 := hT.1 16
            have v17 : 0 ≤ τ27.1 17 ∧ τ27.1 17 ≤ 60000 := hT.1 17
            have v18 : 0 ≤ τ27.1 18 ∧ τ27.1 18 ≤ 60000 := hT.1 18
            exact ⟨hT, (show (τ27.1 0) = 0 from by (first | omega | (simp only [st_s] <;> omega) | assumption | omega | fail)), (show (τ27.1 1) = 0 from by (first | omega | (simp only [st_s] <;> omega) | assumption | omega | fail))⟩
          ·
            refine ⟨_, K_X13_findLabel_q1 hT (show 0 ≤ (τ3.1 17) from by (first | omega | (simp only [st_s] <;> omega) | assumption | omega | fail)) (show (τ3.1 17) + (τ3.1 18) ≤ 60000 from by (first | omega | (simp only [st_s] <;> omega) | assumption | omega | fail)) (show oc (τ7.2.1 7) < 4096 from by (first | omega | (simp only [st_s] <;> omega) | assumption | omega | fail)), ?_⟩
            intro x23 r_x23 hq
            have q22_1 := hq
            replace q22_1 : -1 ≤ x23 ∧ x23 ≤ 1499 := q22_1
            refine h88 _ _ ?_
            refine ⟨_, K_X13_useTape hT, ?_⟩
            intro τ27 hn_τ27 hf_τ27 hq
            obtain ⟨hT, q25_1, q25_2⟩ := hq
            replace q25_1 : (τ27.1 0) = 0 := q25_1
            replace q25_2 : (τ27.1 1) = 0 := q25_2
            have w16_τ27 : τ27.1 16 = τ7.1 16 := hf_τ27.1 16 (by decide)
            have w17_τ27 : τ27.1 17 = τ7.1 17 := hf_τ27.1 17 (by decide)
            have w18_τ27 : τ27.1 18 = τ7.1 18 := hf_τ27.1 18 (by decide)
            have g6_τ27 : τ27.2.1 6 = τ7.2.1 6 := hf_τ27.2.1 6 (by decide)
            have g7_τ27 : τ27.2.1 7 = τ7.2.1 7 := hf_τ27.2.1 7 (by decide)
            first | (have o6_τ27 := congrArg oc g6_τ27) | skip
            first | (have o7_τ27 := congrArg oc g7_τ27) | skip
            have G6 : τ27.2.1 6 = σ.2.1 6 := (g6_τ27).trans G6
            have G7 : τ27.2.1 7 = σ.2.1 7 := (g7_τ27).trans G7
            have A6 : ∀ j, (-1) ≤ τ27.2.1 6 j ∧ τ27.2.1 6 j ≤ 999 := fun j => hT.2 6 j
            have A7 : ∀ j, (-1) ≤ τ27.2.1 7 j ∧ τ27.2.1 7 j ≤ 1499 := fun j => hT.2 7 j
            have v0 : 0 ≤ τ27.1 0 ∧ τ27.1 0 ≤ 60000 := hT.1 0
            have v1 : 0 ≤ τ27.1 1 ∧ τ27.1 1 ≤ 1 := hT.1 1
            have v16 : 0 ≤ τ27.1 16 ∧ τ27.1 16 ≤ 60000 := hT.1 16
            have v17 : 0 ≤ τ27.1 17 ∧ τ27.1 17 ≤ 60000 := hT.1 17
            have v18 : 0 ≤ τ27.1 18 ∧ τ27.1 18 ≤ 60000 := hT.1 18
            exact ⟨hT, (show (τ27.1 0) = 0 from by (first | omega | (simp only [st_s] <;> omega) | assumption | omega | fail)), (show (τ27.1 1) = 0 from by (first | omega | (simp only [st_s] <;> omega) | assumption | omega | fail))⟩
        ·
          refine h88 _ _ ?_
          refine ⟨_, K_X13_useTape hT, ?_⟩
          intro τ27 hn_τ27 hf_τ27 hq
          obtain ⟨hT, q25_1, q25_2⟩ := hq
          replace q25_1 : (τ27.1 0) = 0 := q25_1
          replace q25_2 : (τ27.1 1) = 0 := q25_2
          have w16_τ27 : τ27.1 16 = τ7.1 16 := hf_τ27.1 16 (by decide)
          have w17_τ27 : τ27.1 17 = τ7.1 17 := hf_τ27.1 17 (by decide)
          have w18_τ27 : τ27.1 18 = τ7.1 18 := hf_τ27.1 18 (by decide)
          have g6_τ27 : τ27.2.1 6 = τ7.2.1 6 := hf_τ27.2.1 6 (by decide)
          have g7_τ27 : τ27.2.1 7 = τ7.2.1 7 := hf_τ27.2.1 7 (by decide)
          first | (have o6_τ27 := congrArg oc g6_τ27) | skip
          first | (have o7_τ27 := congrArg oc g7_τ27) | skip
          have G6 : τ27.2.1 6 = σ.2.1 6 := (g6_τ27).trans G6
          have G7 : τ27.2.1 7 = σ.2.1 7 := (g7_τ27).trans G7
          have A6 : ∀ j, (-1) ≤ τ27.2.1 6 j ∧ τ27.2.1 6 j ≤ 999 := fun j => hT.2 6 j
          have A7 : ∀ j, (-1) ≤ τ27.2.1 7 j ∧ τ27.2.1 7 j ≤ 1499 := fun j => hT.2 7 j
          have v0 : 0 ≤ τ27.1 0 ∧ τ27.1 0 ≤ 60000 := hT.1 0
          have v1 : 0 ≤ τ27.1 1 ∧ τ27.1 1 ≤ 1 := hT.1 1
          have v16 : 0 ≤ τ27.1 16 ∧ τ27.1 16 ≤ 60000 := hT.1 16
          have v17 : 0 ≤ τ27.1 17 ∧ τ27.1 17 ≤ 60000 := hT.1 17
          have v18 : 0 ≤ τ27.1 18 ∧ τ27.1 18 ≤ 60000 := hT.1 18
          exact ⟨hT, (show (τ27.1 0) = 0 from by (first | omega | (simp only [st_s] <;> omega) | assumption | omega | fail)), (show (τ27.1 1) = 0 from by (first | omega | (simp only [st_s] <;> omega) | assumption | omega | fail))⟩
    ·
      refine ⟨(⟨by (first | omega | (simp only [st_s] <;> omega) | assumption | omega | fail), by (first | omega | (simp only [st_s] <;> omega) | assumption | omega | fail)⟩ : rg (τ3.1 17)), ?_⟩
      refine ⟨(⟨by (first | omega | (simp only [st_s] <;> omega) | assumption | omega | fail), by (first | omega | (simp only [st_s] <;> omega) | assumption | omega | fail)⟩ : rg (τ3.1 18)), ?_⟩
      refine h38 _ _ _ _ _ ?_
      refine ⟨fun c13 => ?_, fun c13 => ?_⟩
      ·
        refine h88 _ _ ?_
        refine ⟨_, K_X13_useTape hT, ?_⟩
        intro τ27 hn_τ27 hf_τ27 hq
        obtain ⟨hT, q25_1, q25_2⟩ := hq
        replace q25_1 : (τ27.1 0) = 0 := q25_1
        replace q25_2 : (τ27.1 1) = 0 := q25_2
        have w16_τ27 : τ27.1 16 = τ7.1 16 := hf_τ27.1 16 (by decide)
        have w17_τ27 : τ27.1 17 = τ7.1 17 := hf_τ27.1 17 (by decide)
        have w18_τ27 : τ27.1 18 = τ7.1 18 := hf_τ27.1 18 (by decide)
        have g6_τ27 : τ27.2.1 6 = τ7.2.1 6 := hf_τ27.2.1 6 (by decide)
        have g7_τ27 : τ27.2.1 7 = τ7.2.1 7 := hf_τ27.2.1 7 (by decide)
        first | (have o6_τ27 := congrArg oc g6_τ27) | skip
        first | (have o7_τ27 := congrArg oc g7_τ27) | skip
        have G6 : τ27.2.1 6 = σ.2.1 6 := (g6_τ27).trans G6
        have G7 : τ27.2.1 7 = σ.2.1 7 := (g7_τ27).trans G7
        have A6 : ∀ j, (-1) ≤ τ27.2.1 6 j ∧ τ27.2.1 6 j ≤ 999 := fun j => hT.2 6 j
        have A7 : ∀ j, (-1) ≤ τ27.2.1 7 j ∧ τ27.2.1 7 j ≤ 1499 := fun j => hT.2 7 j
        have v0 : 0 ≤ τ27.1 0 ∧ τ27.1 0 ≤ 60000 := hT.1 0
        have v1 : 0 ≤ τ27.1 1 ∧ τ27.1 1 ≤ 1 := hT.1 1
        have v16 : 0 ≤ τ27.1 16 ∧ τ27.1 16 ≤ 60000 := hT.1 16
        have v17 : 0 ≤ τ27.1 17 ∧ τ27.1 17 ≤ 60000 := hT.1 17
        have v18 : 0 ≤ τ27.1 18 ∧ τ27.1 18 ≤ 60000 := hT.1 18
        exact ⟨hT, (show (τ27.1 0) = 0 from by (first | omega | (simp only [st_s] <;> omega) | assumption | omega | fail)), (show (τ27.1 1) = 0 from by (first | omega | (simp only [st_s] <;> omega) | assumption | omega | fail))⟩
      ·
        refine ⟨_, K_X13_isIn hT, ?_⟩
        intro x15 r_x15 hq
        obtain ⟨q14_1, q14_2⟩ := hq
        replace q14_1 : 0 ≤ x15 ∧ x15 ≤ 1 := q14_1
        replace q14_2 : x15 = 1 ↔ ((0 : Int64) ≤ (j_of n1) ∧ (j_of n1) ≤ (1 : Int64)) := q14_2
        refine ⟨fun c17 => ?_, fun c17 => ?_⟩
        ·
          refine ⟨fun c18 => ?_, fun c18 => ?_⟩
          ·
            refine ⟨_, K_X13_findSymbol_q1 hT (show 0 ≤ (τ3.1 17) from by (first | omega | (simp only [st_s] <;> omega) | assumption | omega | fail)) (show (τ3.1 17) + (τ3.1 18) ≤ 60000 from by (first | omega | (simp only [st_s] <;> omega) | assumption | omega | fail)) (show oc (τ7.2.1 6) < 4096 from by (first | omega | (simp only [st_s] <;> omega) | assumption | omega | fail)), ?_⟩
            intro x20 r_x20 hq
            obtain ⟨q19_1, q19_2⟩ := hq
            replace q19_1 : -1 ≤ x20 ∧ x20 ≤ 999 := q19_1
            replace q19_2 : x20 = -1 ∨ ∃ e : Int, (0 ≤ e ∧ e < 4096) ∧ x20 = τ7.2.1 6 e := q19_2
            clear q19_2
            refine h88 _ _ ?_
            refine ⟨_, K_X13_useTape hT, ?_⟩
            intro τ27 hn_τ27 hf_τ27 hq
            obtain ⟨hT, q25_1, q25_2⟩ := hq
            replace q25_1 : (τ27.1 0) = 0 := q25_1
            replace q25_2 : (τ27.1 1) = 0 := q25_2
            have w16_τ27 : τ27.1 16 = τ7.1 16 := hf_τ27.1 16 (by decide)
            have w17_τ27 : τ27.1 17 = τ7.1 17 := hf_τ27.1 17 (by decide)
            have w18_τ27 : τ27.1 18 = τ7.1 18 := hf_τ27.1 18 (by decide)
            have g6_τ27 : τ27.2.1 6 = τ7.2.1 6 := hf_τ27.2.1 6 (by decide)
            have g7_τ27 : τ27.2.1 7 = τ7.2.1 7 := hf_τ27.2.1 7 (by decide)
            first | (have o6_τ27 := congrArg oc g6_τ27) | skip
            first | (have o7_τ27 := congrArg oc g7_τ27) | skip
            have G6 : τ27.2.1 6 = σ.2.1 6 := (g6_τ27).trans G6
            have G7 : τ27.2.1 7 = σ.2.1 7 := (g7_τ27).trans G7
            have A6 : ∀ j, (-1) ≤ τ27.2.1 6 j ∧ τ27.2.1 6 j ≤ 999 := fun j => hT.2 6 j
            have A7 : ∀ j, (-1) ≤ τ27.2.1 7 j ∧ τ27.2.1 7 j ≤ 1499 := fun j => hT.2 7 j
            have v0 : 0 ≤ τ27.1 0 ∧ τ27.1 0 ≤ 60000 := hT.1 0
            have v1 : 0 ≤ τ27.1 1 ∧ τ27.1 1 ≤ 1 := hT.1 1
            have v16 : 0 ≤ τ27.1 16 ∧ τ27.1 16 ≤ 60000 := hT.1 16
            have v17 : 0 ≤ τ27.1 17 ∧ τ27.1 17 ≤ 60000 := hT.1 17
            have v18 : 0 ≤ τ27.1 18 ∧ τ27.1 18 ≤ 60000 := hT.1 18
            exact ⟨hT, (show (τ27.1 0) = 0 from by (first | omega | (simp only [st_s] <;> omega) | assumption | omega | fail)), (show (τ27.1 1) = 0 from by (first | omega | (simp only [st_s] <;> omega) | assumption | omega | fail))⟩
          ·
            refine ⟨_, K_X13_findLabel_q1 hT (show 0 ≤ (τ3.1 17) from by (first | omega | (simp only [st_s] <;> omega) | assumption | omega | fail)) (show (τ3.1 17) + (τ3.1 18) ≤ 60000 from by (first | omega | (simp only [st_s] <;> omega) | assumption | omega | fail)) (show oc (τ7.2.1 7) < 4096 from by (first | omega | (simp only [st_s] <;> omega) | assumption | omega | fail)), ?_⟩
            intro x23 r_x23 hq
            have q22_1 := hq
            replace q22_1 : -1 ≤ x23 ∧ x23 ≤ 1499 := q22_1
            refine h88 _ _ ?_
            refine ⟨_, K_X13_useTape hT, ?_⟩
            intro τ27 hn_τ27 hf_τ27 hq
            obtain ⟨hT, q25_1, q25_2⟩ := hq
            replace q25_1 : (τ27.1 0) = 0 := q25_1
            replace q25_2 : (τ27.1 1) = 0 := q25_2
            have w16_τ27 : τ27.1 16 = τ7.1 16 := hf_τ27.1 16 (by decide)
            have w17_τ27 : τ27.1 17 = τ7.1 17 := hf_τ27.1 17 (by decide)
            have w18_τ27 : τ27.1 18 = τ7.1 18 := hf_τ27.1 18 (by decide)
            have g6_τ27 : τ27.2.1 6 = τ7.2.1 6 := hf_τ27.2.1 6 (by decide)
            have g7_τ27 : τ27.2.1 7 = τ7.2.1 7 := hf_τ27.2.1 7 (by decide)
            first | (have o6_τ27 := congrArg oc g6_τ27) | skip
            first | (have o7_τ27 := congrArg oc g7_τ27) | skip
            have G6 : τ27.2.1 6 = σ.2.1 6 := (g6_τ27).trans G6
            have G7 : τ27.2.1 7 = σ.2.1 7 := (g7_τ27).trans G7
            have A6 : ∀ j, (-1) ≤ τ27.2.1 6 j ∧ τ27.2.1 6 j ≤ 999 := fun j => hT.2 6 j
            have A7 : ∀ j, (-1) ≤ τ27.2.1 7 j ∧ τ27.2.1 7 j ≤ 1499 := fun j => hT.2 7 j
            have v0 : 0 ≤ τ27.1 0 ∧ τ27.1 0 ≤ 60000 := hT.1 0
            have v1 : 0 ≤ τ27.1 1 ∧ τ27.1 1 ≤ 1 := hT.1 1
            have v16 : 0 ≤ τ27.1 16 ∧ τ27.1 16 ≤ 60000 := hT.1 16
            have v17 : 0 ≤ τ27.1 17 ∧ τ27.1 17 ≤ 60000 := hT.1 17
            have v18 : 0 ≤ τ27.1 18 ∧ τ27.1 18 ≤ 60000 := hT.1 18
            exact ⟨hT, (show (τ27.1 0) = 0 from by (first | omega | (simp only [st_s] <;> omega) | assumption | omega | fail)), (show (τ27.1 1) = 0 from by (first | omega | (simp only [st_s] <;> omega) | assumption | omega | fail))⟩
        ·
          refine h88 _ _ ?_
          refine ⟨_, K_X13_useTape hT, ?_⟩
          intro τ27 hn_τ27 hf_τ27 hq
          obtain ⟨hT, q25_1, q25_2⟩ := hq
          replace q25_1 : (τ27.1 0) = 0 := q25_1
          replace q25_2 : (τ27.1 1) = 0 := q25_2
          have w16_τ27 : τ27.1 16 = τ7.1 16 := hf_τ27.1 16 (by decide)
          have w17_τ27 : τ27.1 17 = τ7.1 17 := hf_τ27.1 17 (by decide)
          have w18_τ27 : τ27.1 18 = τ7.1 18 := hf_τ27.1 18 (by decide)
          have g6_τ27 : τ27.2.1 6 = τ7.2.1 6 := hf_τ27.2.1 6 (by decide)
          have g7_τ27 : τ27.2.1 7 = τ7.2.1 7 := hf_τ27.2.1 7 (by decide)
          first | (have o6_τ27 := congrArg oc g6_τ27) | skip
          first | (have o7_τ27 := congrArg oc g7_τ27) | skip
          have G6 : τ27.2.1 6 = σ.2.1 6 := (g6_τ27).trans G6
          have G7 : τ27.2.1 7 = σ.2.1 7 := (g7_τ27).trans G7
          have A6 : ∀ j, (-1) ≤ τ27.2.1 6 j ∧ τ27.2.1 6 j ≤ 999 := fun j => hT.2 6 j
          have A7 : ∀ j, (-1) ≤ τ27.2.1 7 j ∧ τ27.2.1 7 j ≤ 1499 := fun j => hT.2 7 j
          have v0 : 0 ≤ τ27.1 0 ∧ τ27.1 0 ≤ 60000 := hT.1 0
          have v1 : 0 ≤ τ27.1 1 ∧ τ27.1 1 ≤ 1 := hT.1 1
          have v16 : 0 ≤ τ27.1 16 ∧ τ27.1 16 ≤ 60000 := hT.1 16
          have v17 : 0 ≤ τ27.1 17 ∧ τ27.1 17 ≤ 60000 := hT.1 17
          have v18 : 0 ≤ τ27.1 18 ∧ τ27.1 18 ≤ 60000 := hT.1 18
          exact ⟨hT, (show (τ27.1 0) = 0 from by (first | omega | (simp only [st_s] <;> omega) | assumption | omega | fail)), (show (τ27.1 1) = 0 from by (first | omega | (simp only [st_s] <;> omega) | assumption | omega | fail))⟩
set_option maxHeartbeats 1000000 in
theorem K_X13_apart {n1 : Int} {n2 : Int} {n3 : Int} {σ : S0} (hT : m_T σ) (p1 : -2147483648 ≤ n1 ∧ n1 ≤ 2147483647) (p2 : J_pa (σ.2.1 21) (σ.2.1 22)) : W_X13_apart n1 n2 n3 σ (fun (x : Int) => True) := by
  have A21 : ∀ j, 0 ≤ σ.2.1 21 j ∧ σ.2.1 21 j ≤ 20000 := fun j => hT.2 21 j
  have A22 : ∀ j, 0 ≤ σ.2.1 22 j ∧ σ.2.1 22 j ≤ 20000 := fun j => hT.2 22 j
  have v5 : 0 ≤ σ.1 5 ∧ σ.1 5 ≤ 1500 := hT.1 5
  intro P18 P58 h18 h58
  have PA : J_pa (σ.2.1 21) (σ.2.1 22) := p2
  have PA_0 := PA
  have l_18 : ∀ (m_18 : Nat) (u4_18 : Int), 20001 - u4_18 < (m_18 : Int) → (0 ≤ n1 ∧ n1 < 1500) → (0 ≤ u4_18) → (u4_18 ≤ 20000) → P18 n1 n2 n3 u4_18 := by
    intro m_18
    induction m_18 with
    | zero =>
      intro u4_18 hm i18_1 i18_2 i18_3
      exfalso; (first | omega | (simp only [st_s] <;> omega) | assumption | omega | fail)
    | succ m_18 ih_18 =>
      intro u4_18 hm_18 i18_1 i18_2 i18_3
      refine h18 n1 n2 n3 u4_18 ?_
      refine ⟨(show 0 ≤ n1 ∧ n1 < 1501 from by (first | omega | (simp only [st_s] <;> omega) | assumption | omega | fail)), ?_⟩
      intro x8 r_x8 e_x8
      have b_x8 : 0 ≤ x8 ∧ x8 ≤ 20000 := by rw [e_x8]; exact hT.2 21 _
      intro x9 r_x9 e_x9
      have b_x9 : 0 ≤ x9 ∧ x9 ≤ 20000 := by rw [e_x9]; exact hT.2 22 _
      have pp := p2 n1
      rw [← e_x8, ← e_x9] at pp
      refine ⟨(⟨by (first | omega | (simp only [st_s] <;> omega) | assumption | omega | fail), by (first | omega | (simp only [st_s] <;> omega) | assumption | omega | fail)⟩ : rg (x8 + x9)), ?_⟩
      refine ⟨fun c11 => ?_, fun c11 => ?_⟩
      ·
        exact trivial
      ·
        refine ⟨(show 0 ≤ u4_18 ∧ u4_18 < 20000 from by (first | omega | (simp only [st_s] <;> omega) | assumption | omega | fail)), ?_⟩
        intro x13 r_x13 e_x13
        have b_x13 : 0 ≤ x13 ∧ x13 ≤ 999 := by rw [e_x13]; exact hT.2 23 _
        refine ⟨fun c14 => ?_, fun c14 => ?_⟩
        ·
          refine h58 _ _ _ _ ?_
          refine ⟨(show 0 ≤ u4_18 ∧ u4_18 < 20000 from by (first | omega | (simp only [st_s] <;> omega) | assumption | omega | fail)), ?_⟩
          intro x18 r_x18 e_x18
          have b_x18 : 0 ≤ x18 ∧ x18 ≤ 999 := by rw [e_x18]; exact hT.2 23 _
          refine ⟨fun c19 => ?_, fun c19 => ?_⟩
          ·
            refine ⟨(⟨by (first | omega | (simp only [st_s] <;> omega) | assumption | omega | fail), by (first | omega | (simp only [st_s] <;> omega) | assumption | omega | fail)⟩ : rg (u4_18 + 1)), ?_⟩
            exact ih_18 _ (show (20001 - (u4_18 + 1) : Int) < ((m_18 : Nat) : Int) from by ((first | omega | (simp only [st_s] <;> omega) | assumption | omega | fail))) (show 0 ≤ n1 ∧ n1 < 1500 from by (first | omega | (simp only [st_s] <;> omega) | assumption | omega | fail)) (show 0 ≤ (u4_18 + 1) from by (first | omega | (simp only [st_s] <;> omega) | assumption | omega | fail)) (show (u4_18 + 1) ≤ 20000 from by (first | omega | (simp only [st_s] <;> omega) | assumption | omega | fail))
          ·
            intro x21 r_x21 e_x21
            have b_x21 : 0 ≤ x21 ∧ x21 ≤ 999 := by rw [e_x21]; exact hT.2 24 _
            refine ⟨fun c22 => ?_, fun c22 => ?_⟩
            ·
              refine ⟨(⟨by (first | omega | (simp only [st_s] <;> omega) | assumption | omega | fail), by (first | omega | (simp only [st_s] <;> omega) | assumption | omega | fail)⟩ : rg (u4_18 + 1)), ?_⟩
              exact ih_18 _ (show (20001 - (u4_18 + 1) : Int) < ((m_18 : Nat) : Int) from by ((first | omega | (simp only [st_s] <;> omega) | assumption | omega | fail))) (show 0 ≤ n1 ∧ n1 < 1500 from by (first | omega | (simp only [st_s] <;> omega) | assumption | omega | fail)) (show 0 ≤ (u4_18 + 1) from by (first | omega | (simp only [st_s] <;> omega) | assumption | omega | fail)) (show (u4_18 + 1) ≤ 20000 from by (first | omega | (simp only [st_s] <;> omega) | assumption | omega | fail))
            ·
              exact trivial
        ·
          intro x15 r_x15 e_x15
          have b_x15 : 0 ≤ x15 ∧ x15 ≤ 999 := by rw [e_x15]; exact hT.2 24 _
          refine ⟨fun c16 => ?_, fun c16 => ?_⟩
          ·
            exact trivial
          ·
            refine h58 _ _ _ _ ?_
            refine ⟨(show 0 ≤ u4_18 ∧ u4_18 < 20000 from by (first | omega | (simp only [st_s] <;> omega) | assumption | omega | fail)), ?_⟩
            intro x18 r_x18 e_x18
            have b_x18 : 0 ≤ x18 ∧ x18 ≤ 999 := by rw [e_x18]; exact hT.2 23 _
            refine ⟨fun c19 => ?_, fun c19 => ?_⟩
            ·
              refine ⟨(⟨by (first | omega | (simp only [st_s] <;> omega) | assumption | omega | fail), by (first | omega | (simp only [st_s] <;> omega) | assumption | omega | fail)⟩ : rg (u4_18 + 1)), ?_⟩
              exact ih_18 _ (show (20001 - (u4_18 + 1) : Int) < ((m_18 : Nat) : Int) from by ((first | omega | (simp only [st_s] <;> omega) | assumption | omega | fail))) (show 0 ≤ n1 ∧ n1 < 1500 from by (first | omega | (simp only [st_s] <;> omega) | assumption | omega | fail)) (show 0 ≤ (u4_18 + 1) from by (first | omega | (simp only [st_s] <;> omega) | assumption | omega | fail)) (show (u4_18 + 1) ≤ 20000 from by (first | omega | (simp only [st_s] <;> omega) | assumption | omega | fail))
            ·
              intro x21 r_x21 e_x21
              have b_x21 : 0 ≤ x21 ∧ x21 ≤ 999 := by rw [e_x21]; exact hT.2 24 _
              refine ⟨fun c22 => ?_, fun c22 => ?_⟩
              ·
                refine ⟨(⟨by (first | omega | (simp only [st_s] <;> omega) | assumption | omega | fail), by (first | omega | (simp only [st_s] <;> omega) | assumption | omega | fail)⟩ : rg (u4_18 + 1)), ?_⟩
                exact ih_18 _ (show (20001 - (u4_18 + 1) : Int) < ((m_18 : Nat) : Int) from by ((first | omega | (simp only [st_s] <;> omega) | assumption | omega | fail))) (show 0 ≤ n1 ∧ n1 < 1500 from by (first | omega | (simp only [st_s] <;> omega) | assumption | omega | fail)) (show 0 ≤ (u4_18 + 1) from by (first | omega | (simp only [st_s] <;> omega) | assumption | omega | fail)) (show (u4_18 + 1) ≤ 20000 from by (first | omega | (simp only [st_s] <;> omega) | assumption | omega | fail))
              ·
                exact trivial
  refine ⟨_, K_X13_isAssertion hT (show -2147483648 ≤ n1 ∧ n1 ≤ 2147483647 from by (first | omega | (simp only [st_s] <;> omega) | assumption | omega | fail)), ?_⟩
  intro x2 r_x2 hq
  obtain ⟨q1_1, q1_2⟩ := hq
  replace q1_1 : 0 ≤ x2 ∧ x2 ≤ 1 := q1_1
  replace q1_2 : ¬ x2 = 0 → 0 ≤ n1 ∧ n1 < (σ.1 5) ∧ 2 ≤ σ.2.1 13 n1 := q1_2
  refine ⟨fun c4 => ?_, fun c4 => ?_⟩
  ·
    refine ⟨(show 0 ≤ n1 ∧ n1 < 1501 from by (first | omega | (simp only [st_s] <;> omega) | assumption | omega | fail)), ?_⟩
    intro x6 r_x6 e_x6
    have b_x6 : 0 ≤ x6 ∧ x6 ≤ 20000 := by rw [e_x6]; exact hT.2 21 _
    exact l_18 ((20001 - x6 : Int).toNat + 1) _ (show (20001 - x6 : Int) < (((20001 - x6 : Int).toNat + 1 : Nat) : Int) from by ((first | omega | (simp only [st_s] <;> omega) | assumption | omega | fail))) (show 0 ≤ n1 ∧ n1 < 1500 from by (first | omega | (simp only [st_s] <;> omega) | assumption | omega | fail)) (show 0 ≤ x6 from by (first | omega | (simp only [st_s] <;> omega) | assumption | omega | fail)) (show x6 ≤ 20000 from by (first | omega | (simp only [st_s] <;> omega) | assumption | omega | fail))
  ·
    exact trivial
