-- pure: what is taken for an equality
def y_EQ (σ : S0) : Prop := ∀ r : Int, 0 ≤ r → r < σ.1 5 → ¬ σ.2.1 96 r = 0 → y_R σ r ∧ sm (y_vq σ r) (σ.2.1 15 r) = 2
theorem y_EQ_s {σ : S0} {n v : Int} (h : y_EQ σ) (e : ¬ v = 0 → y_R σ n ∧ sm (y_vq σ n) (σ.2.1 15 n) = 2) : y_EQ (s_a σ 96 n v) := fun r r0 r1 z => by
  have z : ¬ st (σ.2.1 96) n v r = 0 := z
  by_cases q : r = n
  · rw [q, st_s] at z
    rw [q]; exact e z
  · rw [st_n _ _ q] at z
    exact h r r0 r1 z
theorem y_EQ_h {σ τ : S0} {wv wa wb : List Nat} (h : y_EQ σ) (hf : f_r wv wa wb σ τ) (d1 : [5, 11].all (fun i => !wv.contains i) = true) (d2 : [8, 10, 13, 14, 15, 16, 18, 19, 20, 96].all (fun i => !wa.contains i) = true) : y_EQ τ := by
  have V : ∀ i : Nat, i ∈ [5, 11] → τ.1 i = σ.1 i := fun i hi => hf.1 i (by simpa using List.all_eq_true.mp d1 i hi)
  have A : ∀ i : Nat, i ∈ [8, 10, 13, 14, 15, 16, 18, 19, 20, 96] → τ.2.1 i = σ.2.1 i := fun i hi => hf.2.1 i (by simpa using List.all_eq_true.mp d2 i hi)
  have SD : y_SD σ τ := ⟨V 11 (by simp), A 8 (by simp), A 10 (by simp), A 13 (by simp), A 14 (by simp), A 15 (by simp), A 16 (by simp), A 18 (by simp), A 19 (by simp), A 20 (by simp)⟩
  have q : y_vq τ = y_vq σ := by funext r k; unfold y_vq; rw [A 8 (by simp), A 14 (by simp), A 16 (by simp)]
  unfold y_EQ
  rw [(y_SD_e SD).1, q, V 5 (by simp), A 15 (by simp), A 96 (by simp)]
  exact h
set_option maxHeartbeats 1000000 in
theorem K_X13_equate {n1 : Int} {σ : S0} (hT : m_T σ) (p1 : -2147483648 ≤ n1 ∧ n1 ≤ 2147483647) (p2 : n_J σ) (p3 : y_EQ σ) : W_X13_equate n1 σ (fun (x : Int) (τ : S0) => (m_T τ) ∧ (y_EQ τ)) := by
  have v5 : 0 ≤ σ.1 5 ∧ σ.1 5 ≤ 1500 := hT.1 5
  have W5 : σ.1 5 = σ.1 5 := rfl
  intro P58 P63 P86 h58 h63 h86
  have J := p2
  have l5 : σ.1 5 ≤ 1500 := (hT.1 5).2
  have l_63 : ∀ (m_63 : Nat) (u2_63 : Int) (u3_63 : Int) (τ_63 : S0), 1502 - u3_63 < (m_63 : Int) → (m_T τ_63) → (τ_63.1 5 = σ.1 5) → (0 ≤ u3_63 ∧ u3_63 ≤ 1500) → (0 ≤ u2_63 ∧ u2_63 ≤ u3_63) → (y_EQ τ_63) → P63 u2_63 u3_63 τ_63 := by
    intro m_63
    induction m_63 with
    | zero =>
      intro u2_63 u3_63 τ_63 hm hT W5 i63_1 i63_2 i63_3
      have v5 : 0 ≤ τ_63.1 5 ∧ τ_63.1 5 ≤ 1500 := hT.1 5
      exfalso; (first | omega | (simp only [st_s] <;> omega) | assumption | omega | fail)
    | succ m_63 ih_63 =>
      intro u2_63 u3_63 τ_63 hm_63 hT W5 i63_1 i63_2 i63_3
      have v5 : 0 ≤ τ_63.1 5 ∧ τ_63.1 5 ≤ 1500 := hT.1 5
      refine h63 u2_63 u3_63 τ_63 ?_
      refine ⟨fun c20 => ?_, fun c20 => ?_⟩
      ·
        exact ⟨hT, (show y_EQ τ_63 from by (first | exact p3 | exact i63_3 | fail))⟩
      ·
        refine ⟨(show 0 ≤ u3_63 ∧ u3_63 < 1501 from by (first | omega | (simp only [st_s] <;> omega) | assumption | omega | fail)), ?_⟩
        intro x22 r_x22 e_x22
        have b_x22 : 0 ≤ x22 ∧ x22 ≤ 1 := by rw [e_x22]; exact hT.2 96 _
        refine ⟨fun c23 => ?_, fun c23 => ?_⟩
        ·
          refine h86 _ _ _ _ ?_
          refine ⟨(show 0 ≤ u3_63 ∧ u3_63 < 1501 from by (first | omega | (simp only [st_s] <;> omega) | assumption | omega | fail)), ?_⟩
          replace hT := mT_a (k := 95) (j := u3_63) hT (show (-9 : Int) ≤ (-9) ∧ (-9) ≤ 1499 from by (first | omega | (simp only [st_s] <;> omega) | assumption | omega | fail))
          refine ⟨(⟨by (first | omega | (simp only [st_s] <;> omega) | assumption | omega | fail), by (first | omega | (simp only [st_s] <;> omega) | assumption | omega | fail)⟩ : rg (u2_63 + 0)), ?_⟩
          refine ⟨(⟨by (first | omega | (simp only [st_s] <;> omega) | assumption | omega | fail), by (first | omega | (simp only [st_s] <;> omega) | assumption | omega | fail)⟩ : rg (u3_63 + 1)), ?_⟩
          exact ih_63 _ _ _ (show (1502 - (u3_63 + 1) : Int) < ((m_63 : Nat) : Int) from by ((first | omega | (simp only [st_s] <;> omega) | assumption | omega | fail))) hT (show τ_63.1 5 = σ.1 5 from by first | exact W5 | omega) (show 0 ≤ (u3_63 + 1) ∧ (u3_63 + 1) ≤ 1500 from by (first | omega | (simp only [st_s] <;> omega) | assumption | omega | fail)) (show 0 ≤ (u2_63 + 0) ∧ (u2_63 + 0) ≤ (u3_63 + 1) from by (first | omega | (simp only [st_s] <;> omega) | assumption | omega | fail)) (show y_EQ (s_a τ_63 95 u3_63 (-9)) from by (first | exact i63_3 | exact y_EQ_s p3 (fun z => absurd rfl z) | exact y_EQ_s p3 (fun _ => ⟨q8_2.mp (by assumption), by omega⟩) | fail))
        ·
          refine h86 _ _ _ _ ?_
          refine ⟨(show 0 ≤ u3_63 ∧ u3_63 < 1501 from by (first | omega | (simp only [st_s] <;> omega) | assumption | omega | fail)), ?_⟩
          replace hT := mT_a (k := 95) (j := u3_63) hT (show (-9 : Int) ≤ (-9) ∧ (-9) ≤ 1499 from by (first | omega | (simp only [st_s] <;> omega) | assumption | omega | fail))
          refine ⟨(⟨by (first | omega | (simp only [st_s] <;> omega) | assumption | omega | fail), by (first | omega | (simp only [st_s] <;> omega) | assumption | omega | fail)⟩ : rg (u2_63 + 1)), ?_⟩
          refine ⟨(⟨by (first | omega | (simp only [st_s] <;> omega) | assumption | omega | fail), by (first | omega | (simp only [st_s] <;> omega) | assumption | omega | fail)⟩ : rg (u3_63 + 1)), ?_⟩
          exact ih_63 _ _ _ (show (1502 - (u3_63 + 1) : Int) < ((m_63 : Nat) : Int) from by ((first | omega | (simp only [st_s] <;> omega) | assumption | omega | fail))) hT (show τ_63.1 5 = σ.1 5 from by first | exact W5 | omega) (show 0 ≤ (u3_63 + 1) ∧ (u3_63 + 1) ≤ 1500 from by (first | omega | (simp only [st_s] <;> omega) | assumption | omega | fail)) (show 0 ≤ (u2_63 + 1) ∧ (u2_63 + 1) ≤ (u3_63 + 1) from by (first | omega | (simp only [st_s] <;> omega) | assumption | omega | fail)) (show y_EQ (s_a τ_63 95 u3_63 (-9)) from by (first | exact i63_3 | exact y_EQ_s p3 (fun z => absurd rfl z) | exact y_EQ_s p3 (fun _ => ⟨q8_2.mp (by assumption), by omega⟩) | fail))
  refine ⟨_, K_X13_isStatement hT (show -2147483648 ≤ n1 ∧ n1 ≤ 2147483647 from by (first | omega | (simp only [st_s] <;> omega) | assumption | omega | fail)), ?_⟩
  intro x2 r_x2 hq
  obtain ⟨q1_1, q1_2⟩ := hq
  replace q1_1 : 0 ≤ x2 ∧ x2 ≤ 1 := q1_1
  replace q1_2 : ¬ x2 = 0 → 0 ≤ n1 ∧ n1 < (σ.1 5) := q1_2
  refine ⟨fun c4 => ?_, fun c4 => ?_⟩
  ·
    exact ⟨hT, (show y_EQ σ from by (first | exact p3 | exact i63_3 | fail))⟩
  ·
    refine ⟨(show 0 ≤ n1 ∧ n1 < 1501 from by (first | omega | (simp only [st_s] <;> omega) | assumption | omega | fail)), ?_⟩
    intro x6 r_x6 e_x6
    have b_x6 : 0 ≤ x6 ∧ x6 ≤ 4 := by rw [e_x6]; exact hT.2 13 _
    have w2 := q1_2 (by omega)
    have na := (J n1 w2.1 w2.2).1.1
    refine ⟨fun c7 => ?_, fun c7 => ?_⟩
    ·
      refine ⟨_, K_X13_isRule hT (show 0 ≤ n1 from by (first | omega | (simp only [st_s] <;> omega) | assumption | omega | fail)) (show n1 < (σ.1 5) from by (first | omega | (simp only [st_s] <;> omega) | assumption | omega | fail)), ?_⟩
      intro x9 r_x9 hq
      obtain ⟨q8_1, q8_2⟩ := hq
      replace q8_1 : 0 ≤ x9 ∧ x9 ≤ 1 := q8_1
      replace q8_2 : ¬ x9 = 0 ↔ y_R σ n1 := q8_2
      refine ⟨fun c11 => ?_, fun c11 => ?_⟩
      ·
        exact ⟨hT, (show y_EQ σ from by (first | exact p3 | exact i63_3 | fail))⟩
      ·
        refine ⟨_, K_X13_variablesOf hT (show 0 ≤ n1 from by (first | omega | (simp only [st_s] <;> omega) | assumption | omega | fail)) (show n1 < (σ.1 5) from by (first | omega | (simp only [st_s] <;> omega) | assumption | omega | fail)) (show σ.2.1 15 n1 ≤ 300 from by (first | omega | (simp only [st_s] <;> omega) | assumption | omega | fail)), ?_⟩
        intro x13 r_x13 hq
        have q12_1 := hq
        replace q12_1 : x13 = sm (y_vq σ n1) (σ.2.1 15 n1) := q12_1
        refine ⟨fun c15 => ?_, fun c15 => ?_⟩
        ·
          intro x16 r_x16 e_x16
          have b_x16 : 0 ≤ x16 ∧ x16 ≤ 1 := by rw [e_x16]; exact hT.2 96 _
          refine ⟨fun c17 => ?_, fun c17 => ?_⟩
          ·
            refine h58 _ _ _ ?_
            refine ⟨(show 0 ≤ n1 ∧ n1 < 1501 from by (first | omega | (simp only [st_s] <;> omega) | assumption | omega | fail)), ?_⟩
            refine ⟨(show 0 ≤ 0 ∧ 0 ≤ 1 from by (first | omega | (simp only [st_s] <;> omega) | assumption | omega | fail)), ?_⟩
            replace hT := mT_a (k := 96) (j := n1) hT (show (0 : Int) ≤ 0 ∧ 0 ≤ 1 from by (first | omega | (simp only [st_s] <;> omega) | assumption | omega | fail))
            exact l_63 ((1502 - 0 : Int).toNat + 1) _ _ _ (show (1502 - 0 : Int) < (((1502 - 0 : Int).toNat + 1 : Nat) : Int) from by ((first | omega | (simp only [st_s] <;> omega) | assumption | omega | fail))) hT (show σ.1 5 = σ.1 5 from by first | exact W5 | omega) (show 0 ≤ 0 ∧ 0 ≤ 1500 from by (first | omega | (simp only [st_s] <;> omega) | assumption | omega | fail)) (show 0 ≤ 0 ∧ 0 ≤ 0 from by (first | omega | (simp only [st_s] <;> omega) | assumption | omega | fail)) (show y_EQ (s_a σ 96 n1 0) from by (first | exact i63_3 | exact y_EQ_s p3 (fun z => absurd rfl z) | exact y_EQ_s p3 (fun _ => ⟨q8_2.mp (by assumption), by omega⟩) | fail))
          ·
            refine h58 _ _ _ ?_
            refine ⟨(show 0 ≤ n1 ∧ n1 < 1501 from by (first | omega | (simp only [st_s] <;> omega) | assumption | omega | fail)), ?_⟩
            refine ⟨(show 0 ≤ 1 ∧ 1 ≤ 1 from by (first | omega | (simp only [st_s] <;> omega) | assumption | omega | fail)), ?_⟩
            replace hT := mT_a (k := 96) (j := n1) hT (show (0 : Int) ≤ 1 ∧ 1 ≤ 1 from by (first | omega | (simp only [st_s] <;> omega) | assumption | omega | fail))
            exact l_63 ((1502 - 0 : Int).toNat + 1) _ _ _ (show (1502 - 0 : Int) < (((1502 - 0 : Int).toNat + 1 : Nat) : Int) from by ((first | omega | (simp only [st_s] <;> omega) | assumption | omega | fail))) hT (show σ.1 5 = σ.1 5 from by first | exact W5 | omega) (show 0 ≤ 0 ∧ 0 ≤ 1500 from by (first | omega | (simp only [st_s] <;> omega) | assumption | omega | fail)) (show 0 ≤ 0 ∧ 0 ≤ 0 from by (first | omega | (simp only [st_s] <;> omega) | assumption | omega | fail)) (show y_EQ (s_a σ 96 n1 1) from by (first | exact i63_3 | exact y_EQ_s p3 (fun z => absurd rfl z) | exact y_EQ_s p3 (fun _ => ⟨q8_2.mp (by assumption), by omega⟩) | fail))
        ·
          exact ⟨hT, (show y_EQ σ from by (first | exact p3 | exact i63_3 | fail))⟩
    ·
      exact ⟨hT, (show y_EQ σ from by (first | exact p3 | exact i63_3 | fail))⟩
