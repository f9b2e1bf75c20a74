-- pure: the class's reader
theorem j_in_lt {n N x : Int} {f : Int → Int} (h : j_in n N f) (x0 : 0 ≤ x) (x1 : x < N) (hx : ∀ i : Int, 0 ≤ i → i < n → ¬ f i = x) (h0 : 0 ≤ n) : n < N := by
  have := j_in_n (j_ins h x0 x1 hx) (by omega) (by omega)
  omega
set_option maxHeartbeats 1000000 in
theorem K2_X7_label {n1 : Int} {n2 : Int} {σ : S0} (hT : c_T σ) (p1 : 0 ≤ n1) (p2 : 0 ≤ n2) (p3 : n1 + n2 ≤ 60000) (p4 : ¬ σ.1 66 = 0) (p5 : J_ht (σ.1 3) (σ.2.1 2) (σ.2.1 3) (σ.2.1 5) (σ.2.1 6)) (p6 : J_mn (σ.1 3) (σ.1 5) ((σ.1 7) + 1) (σ.2.1 4)) (p7 : J_nl (σ.1 3) (σ.2.1 2) (σ.2.1 3) (σ.2.1 4)) (p8 : (σ.1 38) = -1 → (σ.1 39) = -1 → ∀ n : Int, 0 ≤ n → n < (σ.1 3) → ¬ c_eq (σ.2.1 2) (σ.2.1 3) n (σ.2.1 0) n1 n2) : W_X7_label n1 n2 σ (fun (x : Int) (τ : S0) => (c_T τ) ∧ (0 ≤ x ∧ x ≤ 19) ∧ (x = 0 → (τ.1 35) = 1 ∧ (σ.1 7) < 1500) ∧ (J_ht (τ.1 3) (τ.2.1 2) (τ.2.1 3) (τ.2.1 5) (τ.2.1 6)) ∧ (J_mn (τ.1 3) (τ.1 5) ((τ.1 7) + 1) (τ.2.1 4)) ∧ (J_nl (τ.1 3) (τ.2.1 2) (τ.2.1 3) (τ.2.1 4)) ∧ (j_nm σ τ) ∧ (c_ag σ τ)) := by
  have A2 : ∀ j, 0 ≤ σ.2.1 2 j ∧ σ.2.1 2 j ≤ 65535 := fun j => hT.2 2 j
  have A3 : ∀ j, 0 ≤ σ.2.1 3 j ∧ σ.2.1 3 j ≤ 30000 := fun j => hT.2 3 j
  have A4 : ∀ j, (-1000) ≤ σ.2.1 4 j ∧ σ.2.1 4 j ≤ 1499 := fun j => hT.2 4 j
  have A5 : ∀ j, 0 ≤ σ.2.1 5 j ∧ σ.2.1 5 j ≤ 2500 := fun j => hT.2 5 j
  have A6 : ∀ j, 0 ≤ σ.2.1 6 j ∧ σ.2.1 6 j ≤ 2500 := fun j => hT.2 6 j
  have A15 : ∀ j, 0 ≤ σ.2.1 15 j ∧ σ.2.1 15 j ≤ 999 := fun j => hT.2 15 j
  have A20 : ∀ j, 0 ≤ σ.2.1 20 j ∧ σ.2.1 20 j ≤ 999 := fun j => hT.2 20 j
  have v3 : 0 ≤ σ.1 3 ∧ σ.1 3 ≤ 2500 := hT.1 3
  have v5 : 0 ≤ σ.1 5 ∧ σ.1 5 ≤ 1000 := hT.1 5
  have v6 : 0 ≤ σ.1 6 ∧ σ.1 6 ≤ 30000 := hT.1 6
  have v7 : 0 ≤ σ.1 7 ∧ σ.1 7 ≤ 1500 := hT.1 7
  have v13 : 0 ≤ σ.1 13 ∧ σ.1 13 ≤ 90000 := hT.1 13
  have v14 : 0 ≤ σ.1 14 ∧ σ.1 14 ≤ 20000 := hT.1 14
  have v15 : 0 ≤ σ.1 15 ∧ σ.1 15 ≤ 20000 := hT.1 15
  have v16 : 0 ≤ σ.1 16 ∧ σ.1 16 ≤ 20000 := hT.1 16
  have v35 : 0 ≤ σ.1 35 ∧ σ.1 35 ≤ 7 := hT.1 35
  have v38 : (-1) ≤ σ.1 38 ∧ σ.1 38 ≤ 999 := hT.1 38
  have v39 : (-1) ≤ σ.1 39 ∧ σ.1 39 ≤ 1499 := hT.1 39
  have v66 : 0 ≤ σ.1 66 ∧ σ.1 66 ≤ 1 := hT.1 66
  have a3_3 : 0 ≤ σ.2.1 3 (σ.1 3) ∧ σ.2.1 3 (σ.1 3) ≤ 30000 := hT.2 3 _
  have W5 : σ.1 5 = σ.1 5 := rfl
  have W6 : σ.1 6 = σ.1 6 := rfl
  have W7 : σ.1 7 = σ.1 7 := rfl
  have W13 : σ.1 13 = σ.1 13 := rfl
  have W14 : σ.1 14 = σ.1 14 := rfl
  have W15 : σ.1 15 = σ.1 15 := rfl
  have W16 : σ.1 16 = σ.1 16 := rfl
  have W38 : σ.1 38 = σ.1 38 := rfl
  have W39 : σ.1 39 = σ.1 39 := rfl
  have W66 : σ.1 66 = σ.1 66 := rfl
  have G15 : σ.2.1 15 = σ.2.1 15 := rfl
  have G20 : σ.2.1 20 = σ.2.1 20 := rfl
  have ag : c_ag σ σ := ag_0 σ
  have HT : J_ht (σ.1 3) (σ.2.1 2) (σ.2.1 3) (σ.2.1 5) (σ.2.1 6) := p5
  have NL : J_nl (σ.1 3) (σ.2.1 2) (σ.2.1 3) (σ.2.1 4) := p7
  have MN : J_mn (σ.1 3) (σ.1 5) ((σ.1 7) + 1) (σ.2.1 4) := p6
  have HT_0 := HT
  have MN_0 := MN
  have NL_0 := NL
  unfold W_X7_label
  refine ⟨fun c1 => ?_, fun c1 => ?_⟩
  ·
    exact ⟨hT, (show 0 ≤ 5 ∧ 5 ≤ 19 from by (first | omega | (simp only [st_s] <;> omega) | assumption | omega | fail)), (show 5 = 0 → (σ.1 35) = 1 ∧ (σ.1 7) < 1500 from by (first | omega | (simp only [st_s] <;> omega) | assumption | omega | fail)), (show J_ht (σ.1 3) (σ.2.1 2) (σ.2.1 3) (σ.2.1 5) (σ.2.1 6) from HT), (show J_mn (σ.1 3) (σ.1 5) ((σ.1 7) + 1) (σ.2.1 4) from MN), (show J_nl (σ.1 3) (σ.2.1 2) (σ.2.1 3) (σ.2.1 4) from NL), (show j_nm σ σ from by (first | exact j_nm0 _ | exact (show j_nm σ τ16 from q14_5) | fail)), ag⟩
  ·
    refine ⟨_, K_X3_hasRoomForName hT (show -100000 ≤ n2 from by (first | omega | (simp only [st_s] <;> omega) | assumption | omega | fail)) (show n2 ≤ 100000 from by (first | omega | (simp only [st_s] <;> omega) | assumption | omega | fail)), ?_⟩
    intro x3 r_x3 hq
    obtain ⟨q2_1, q2_2⟩ := hq
    replace q2_1 : 0 ≤ x3 ∧ x3 ≤ 1 := q2_1
    replace q2_2 : ¬ x3 = 0 → n2 ≤ 60 ∧ σ.2.1 3 (σ.1 3) + n2 ≤ 30000 ∧ (σ.1 3) < 2500 := q2_2
    refine ⟨fun c5 => ?_, fun c5 => ?_⟩
    ·
      refine ⟨(show ¬ σ.1 66 = 0 from by (first | omega | (simp only [st_s] <;> omega) | assumption | omega | fail)), ?_⟩
      refine ⟨_, K2_X12_isLabel_q13 hT (show 0 ≤ n1 from by (first | omega | (simp only [st_s] <;> omega) | assumption | omega | fail)) (show 0 ≤ n2 from by (first | omega | (simp only [st_s] <;> omega) | assumption | omega | fail)) (show n1 + n2 ≤ 60000 from by (first | omega | (simp only [st_s] <;> omega) | assumption | omega | fail)), ?_⟩
      intro x8 r_x8 hq
      obtain ⟨q7_1, q7_2, q7_3⟩ := hq
      replace q7_1 : 0 ≤ x8 ∧ x8 ≤ 1 := q7_1
      replace q7_2 : ¬ x8 = 0 → ∀ k : Int, 0 ≤ k → k < n2 → j_lc (σ.2.1 0 (n1 + k)) := q7_2
      replace q7_3 : (∀ k : Int, 0 ≤ k → k < n2 → j_lc (σ.2.1 0 (n1 + k))) → ¬ x8 = 0 := q7_3
      refine ⟨fun c10 => ?_, fun c10 => ?_⟩
      ·
        refine ⟨fun c11 => ?_, fun c11 => ?_⟩
        ·
          exact ⟨hT, (show 0 ≤ 7 ∧ 7 ≤ 19 from by (first | omega | (simp only [st_s] <;> omega) | assumption | omega | fail)), (show 7 = 0 → (σ.1 35) = 1 ∧ (σ.1 7) < 1500 from by (first | omega | (simp only [st_s] <;> omega) | assumption | omega | fail)), (show J_ht (σ.1 3) (σ.2.1 2) (σ.2.1 3) (σ.2.1 5) (σ.2.1 6) from HT), (show J_mn (σ.1 3) (σ.1 5) ((σ.1 7) + 1) (σ.2.1 4) from MN), (show J_nl (σ.1 3) (σ.2.1 2) (σ.2.1 3) (σ.2.1 4) from NL), (show j_nm σ σ from by (first | exact j_nm0 _ | exact (show j_nm σ τ16 from q14_5) | fail)), ag⟩
        ·
          refine ⟨fun c12 => ?_, fun c12 => ?_⟩
          ·
            refine ⟨(show ¬ σ.1 66 = 0 from by (first | omega | (simp only [st_s] <;> omega) | assumption | omega | fail)), ?_⟩
            refine ⟨_, K2_X3_addLabel_q13 hT (show 0 ≤ n1 from by (first | omega | (simp only [st_s] <;> omega) | assumption | omega | fail)) (show 0 ≤ n2 from by (first | omega | (simp only [st_s] <;> omega) | assumption | omega | fail)) (show n2 ≤ 60 from by (first | omega | (simp only [st_s] <;> omega) | assumption | omega | fail)) (show n1 + n2 ≤ 60000 from by (first | omega | (simp only [st_s] <;> omega) | assumption | omega | fail)) (show σ.2.1 3 (σ.1 3) + n2 ≤ 30000 from by (first | omega | (simp only [st_s] <;> omega) | assumption | omega | fail)) (show (σ.1 3) < 2500 from by (first | omega | (simp only [st_s] <;> omega) | assumption | omega | fail)) (show (σ.1 7) < 1500 from by (first | omega | (simp only [st_s] <;> omega) | assumption | omega | fail)) (show J_ht (σ.1 3) (σ.2.1 2) (σ.2.1 3) (σ.2.1 5) (σ.2.1 6) from HT) (show J_mn (σ.1 3) (σ.1 5) ((σ.1 7) + 1) (σ.2.1 4) from MN) (show J_nl (σ.1 3) (σ.2.1 2) (σ.2.1 3) (σ.2.1 4) from NL) (show ∀ k : Int, 0 ≤ k → k < n2 → j_lc (σ.2.1 0 (n1 + k)) from by exact q7_2 c10) (show ∀ n : Int, 0 ≤ n → n < (σ.1 3) → ¬ c_eq (σ.2.1 2) (σ.2.1 3) n (σ.2.1 0) n1 n2 from by exact p8 (by omega) (by omega)), ?_⟩
            intro τ16 hn_τ16 hf_τ16 hq
            obtain ⟨hT, q14_1, q14_2, q14_3, q14_4, q14_5, q14_6⟩ := hq
            replace q14_1 : (τ16.1 3) = (σ.1 3) + 1 := q14_1
            replace q14_2 : J_ht (τ16.1 3) (τ16.2.1 2) (τ16.2.1 3) (τ16.2.1 5) (τ16.2.1 6) := q14_2
            replace q14_3 : J_mn (τ16.1 3) (τ16.1 5) ((τ16.1 7) + 1) (τ16.2.1 4) := q14_3
            replace q14_4 : J_nl (τ16.1 3) (τ16.2.1 2) (τ16.2.1 3) (τ16.2.1 4) := q14_4
            replace q14_5 : j_nm σ τ16 := q14_5
            replace q14_6 : c_ag σ τ16 := q14_6
            replace ag : c_ag σ τ16 := ag_t ag q14_6 rfl
            have w5_τ16 : τ16.1 5 = σ.1 5 := hf_τ16.1 5 (by decide)
            have w6_τ16 : τ16.1 6 = σ.1 6 := hf_τ16.1 6 (by decide)
            have w7_τ16 : τ16.1 7 = σ.1 7 := hf_τ16.1 7 (by decide)
            have w13_τ16 : τ16.1 13 = σ.1 13 := hf_τ16.1 13 (by decide)
            have w14_τ16 : τ16.1 14 = σ.1 14 := hf_τ16.1 14 (by decide)
            have w15_τ16 : τ16.1 15 = σ.1 15 := hf_τ16.1 15 (by decide)
            have w16_τ16 : τ16.1 16 = σ.1 16 := hf_τ16.1 16 (by decide)
            have w35_τ16 : τ16.1 35 = σ.1 35 := hf_τ16.1 35 (by decide)
            have w38_τ16 : τ16.1 38 = σ.1 38 := hf_τ16.1 38 (by decide)
            have w39_τ16 : τ16.1 39 = σ.1 39 := hf_τ16.1 39 (by decide)
            have w66_τ16 : τ16.1 66 = σ.1 66 := hf_τ16.1 66 (by decide)
            have g15_τ16 : τ16.2.1 15 = σ.2.1 15 := hf_τ16.2.1 15 (by decide)
            have g20_τ16 : τ16.2.1 20 = σ.2.1 20 := hf_τ16.2.1 20 (by decide)
            have W5 : τ16.1 5 = σ.1 5 := by first | exact w5_τ16.trans W5 | omega
            have W6 : τ16.1 6 = σ.1 6 := by first | exact w6_τ16.trans W6 | omega
            have W7 : τ16.1 7 = σ.1 7 := by first | exact w7_τ16.trans W7 | omega
            have W13 : τ16.1 13 = σ.1 13 := by first | exact w13_τ16.trans W13 | omega
            have W14 : τ16.1 14 = σ.1 14 := by first | exact w14_τ16.trans W14 | omega
            have W15 : τ16.1 15 = σ.1 15 := by first | exact w15_τ16.trans W15 | omega
            have W16 : τ16.1 16 = σ.1 16 := by first | exact w16_τ16.trans W16 | omega
            have W38 : τ16.1 38 = σ.1 38 := by first | exact w38_τ16.trans W38 | omega
            have W39 : τ16.1 39 = σ.1 39 := by first | exact w39_τ16.trans W39 | omega
            have W66 : τ16.1 66 = σ.1 66 := by first | exact w66_τ16.trans W66 | omega
            have G15 : τ16.2.1 15 = σ.2.1 15 := (g15_τ16).trans G15
            have G20 : τ16.2.1 20 = σ.2.1 20 := (g20_τ16).trans G20
            have HT : J_ht (τ16.1 3) (τ16.2.1 2) (τ16.2.1 3) (τ16.2.1 5) (τ16.2.1 6) := q14_2
            have NL : J_nl (τ16.1 3) (τ16.2.1 2) (τ16.2.1 3) (τ16.2.1 4) := q14_4
            have MN : J_mn (τ16.1 3) (τ16.1 5) ((τ16.1 7) + 1) (τ16.2.1 4) := q14_3
            have A2 : ∀ j, 0 ≤ τ16.2.1 2 j ∧ τ16.2.1 2 j ≤ 65535 := fun j => hT.2 2 j
            have A3 : ∀ j, 0 ≤ τ16.2.1 3 j ∧ τ16.2.1 3 j ≤ 30000 := fun j => hT.2 3 j
            have A4 : ∀ j, (-1000) ≤ τ16.2.1 4 j ∧ τ16.2.1 4 j ≤ 1499 := fun j => hT.2 4 j
            have A5 : ∀ j, 0 ≤ τ16.2.1 5 j ∧ τ16.2.1 5 j ≤ 2500 := fun j => hT.2 5 j
            have A6 : ∀ j, 0 ≤ τ16.2.1 6 j ∧ τ16.2.1 6 j ≤ 2500 := fun j => hT.2 6 j
            have A15 : ∀ j, 0 ≤ τ16.2.1 15 j ∧ τ16.2.1 15 j ≤ 999 := fun j => hT.2 15 j
            have A20 : ∀ j, 0 ≤ τ16.2.1 20 j ∧ τ16.2.1 20 j ≤ 999 := fun j => hT.2 20 j
            have v3 : 0 ≤ τ16.1 3 ∧ τ16.1 3 ≤ 2500 := hT.1 3
            have v5 : 0 ≤ τ16.1 5 ∧ τ16.1 5 ≤ 1000 := hT.1 5
            have v6 : 0 ≤ τ16.1 6 ∧ τ16.1 6 ≤ 30000 := hT.1 6
            have v7 : 0 ≤ τ16.1 7 ∧ τ16.1 7 ≤ 1500 := hT.1 7
            have v13 : 0 ≤ τ16.1 13 ∧ τ16.1 13 ≤ 90000 := hT.1 13
            have v14 : 0 ≤ τ16.1 14 ∧ τ16.1 14 ≤ 20000 := hT.1 14
            have v15 : 0 ≤ τ16.1 15 ∧ τ16.1 15 ≤ 20000 := hT.1 15
            have v16 : 0 ≤ τ16.1 16 ∧ τ16.1 16 ≤ 20000 := hT.1 16
            have v35 : 0 ≤ τ16.1 35 ∧ τ16.1 35 ≤ 7 := hT.1 35
            have v38 : (-1) ≤ τ16.1 38 ∧ τ16.1 38 ≤ 999 := hT.1 38
            have v39 : (-1) ≤ τ16.1 39 ∧ τ16.1 39 ≤ 1499 := hT.1 39
            have v66 : 0 ≤ τ16.1 66 ∧ τ16.1 66 ≤ 1 := hT.1 66
            have a3_3 : 0 ≤ τ16.2.1 3 (τ16.1 3) ∧ τ16.2.1 3 (τ16.1 3) ≤ 30000 := hT.2 3 _
            have av3 : σ.1 3 ≤ τ16.1 3 := ag.1 3 (by decide)
            replace ag := ag_v (i := 35) (x := 1) ag (Or.inl rfl)
            replace hT := cT_v (i := 35) hT (show (0 : Int) ≤ 1 ∧ 1 ≤ 7 from by (first | omega | (simp only [st_s] <;> omega) | assumption | omega | fail))
            exact ⟨hT, (show 0 ≤ 0 ∧ 0 ≤ 19 from by (first | omega | (simp only [st_s] <;> omega) | assumption | omega | fail)), (show 0 = 0 → ((1 : Int)) = 1 ∧ (σ.1 7) < 1500 from by (first | omega | (simp only [st_s] <;> omega) | assumption | omega | fail)), (show J_ht (τ16.1 3) (τ16.2.1 2) (τ16.2.1 3) (τ16.2.1 5) (τ16.2.1 6) from HT), (show J_mn (τ16.1 3) (τ16.1 5) ((τ16.1 7) + 1) (τ16.2.1 4) from MN), (show J_nl (τ16.1 3) (τ16.2.1 2) (τ16.2.1 3) (τ16.2.1 4) from NL), (show j_nm σ (s_v τ16 35 1) from by (first | exact j_nm0 _ | exact (show j_nm σ τ16 from q14_5) | fail)), ag⟩
          ·
            exact ⟨hT, (show 0 ≤ 7 ∧ 7 ≤ 19 from by (first | omega | (simp only [st_s] <;> omega) | assumption | omega | fail)), (show 7 = 0 → (σ.1 35) = 1 ∧ (σ.1 7) < 1500 from by (first | omega | (simp only [st_s] <;> omega) | assumption | omega | fail)), (show J_ht (σ.1 3) (σ.2.1 2) (σ.2.1 3) (σ.2.1 5) (σ.2.1 6) from HT), (show J_mn (σ.1 3) (σ.1 5) ((σ.1 7) + 1) (σ.2.1 4) from MN), (show J_nl (σ.1 3) (σ.2.1 2) (σ.2.1 3) (σ.2.1 4) from NL), (show j_nm σ σ from by (first | exact j_nm0 _ | exact (show j_nm σ τ16 from q14_5) | fail)), ag⟩
      ·
        exact ⟨hT, (show 0 ≤ 6 ∧ 6 ≤ 19 from by (first | omega | (simp only [st_s] <;> omega) | assumption | omega | fail)), (show 6 = 0 → (σ.1 35) = 1 ∧ (σ.1 7) < 1500 from by (first | omega | (simp only [st_s] <;> omega) | assumption | omega | fail)), (show J_ht (σ.1 3) (σ.2.1 2) (σ.2.1 3) (σ.2.1 5) (σ.2.1 6) from HT), (show J_mn (σ.1 3) (σ.1 5) ((σ.1 7) + 1) (σ.2.1 4) from MN), (show J_nl (σ.1 3) (σ.2.1 2) (σ.2.1 3) (σ.2.1 4) from NL), (show j_nm σ σ from by (first | exact j_nm0 _ | exact (show j_nm σ τ16 from q14_5) | fail)), ag⟩
    ·
      exact ⟨hT, (show 0 ≤ 5 ∧ 5 ≤ 19 from by (first | omega | (simp only [st_s] <;> omega) | assumption | omega | fail)), (show 5 = 0 → (σ.1 35) = 1 ∧ (σ.1 7) < 1500 from by (first | omega | (simp only [st_s] <;> omega) | assumption | omega | fail)), (show J_ht (σ.1 3) (σ.2.1 2) (σ.2.1 3) (σ.2.1 5) (σ.2.1 6) from HT), (show J_mn (σ.1 3) (σ.1 5) ((σ.1 7) + 1) (σ.2.1 4) from MN), (show J_nl (σ.1 3) (σ.2.1 2) (σ.2.1 3) (σ.2.1 4) from NL), (show j_nm σ σ from by (first | exact j_nm0 _ | exact (show j_nm σ τ16 from q14_5) | fail)), ag⟩
set_option maxHeartbeats 1000000 in
theorem K2_X7_faultOfNewSymbol {n1 : Int} {σ : S0} (hT : c_T σ) (p1 : 0 ≤ n1) (p2 : n1 ≤ 60000) : W_X7_faultOfNewSymbol n1 σ (fun (x : Int) => (0 ≤ x ∧ x ≤ 19) ∧ (x = 0 → (σ.1 5) < 1000 ∧ n1 ≤ 60 ∧ σ.2.1 3 (σ.1 3) + n1 ≤ 30000 ∧ (σ.1 3) < 2500 ∧ (σ.1 39) = -1)) := by
  have A3 : ∀ j, 0 ≤ σ.2.1 3 j ∧ σ.2.1 3 j ≤ 30000 := fun j => hT.2 3 j
  have v3 : 0 ≤ σ.1 3 ∧ σ.1 3 ≤ 2500 := hT.1 3
  have v5 : 0 ≤ σ.1 5 ∧ σ.1 5 ≤ 1000 := hT.1 5
  have v39 : (-1) ≤ σ.1 39 ∧ σ.1 39 ≤ 1499 := hT.1 39
  have a3_3 : 0 ≤ σ.2.1 3 (σ.1 3) ∧ σ.2.1 3 (σ.1 3) ≤ 30000 := hT.2 3 _
  unfold W_X7_faultOfNewSymbol
  refine ⟨fun c1 => ?_, fun c1 => ?_⟩
  ·
    exact ⟨(show 0 ≤ 5 ∧ 5 ≤ 19 from by (first | omega | (simp only [st_s] <;> omega) | assumption | omega | fail)), (show 5 = 0 → (σ.1 5) < 1000 ∧ n1 ≤ 60 ∧ σ.2.1 3 (σ.1 3) + n1 ≤ 30000 ∧ (σ.1 3) < 2500 ∧ (σ.1 39) = -1 from by (first | omega | (simp only [st_s] <;> omega) | assumption | omega | fail))⟩
  ·
    refine ⟨_, K_X3_hasRoomForName hT (show -100000 ≤ n1 from by (first | omega | (simp only [st_s] <;> omega) | assumption | omega | fail)) (show n1 ≤ 100000 from by (first | omega | (simp only [st_s] <;> omega) | assumption | omega | fail)), ?_⟩
    intro x3 r_x3 hq
    obtain ⟨q2_1, q2_2⟩ := hq
    replace q2_1 : 0 ≤ x3 ∧ x3 ≤ 1 := q2_1
    replace q2_2 : ¬ x3 = 0 → n1 ≤ 60 ∧ σ.2.1 3 (σ.1 3) + n1 ≤ 30000 ∧ (σ.1 3) < 2500 := q2_2
    refine ⟨fun c5 => ?_, fun c5 => ?_⟩
    ·
      refine ⟨fun c6 => ?_, fun c6 => ?_⟩
      ·
        exact ⟨(show 0 ≤ 7 ∧ 7 ≤ 19 from by (first | omega | (simp only [st_s] <;> omega) | assumption | omega | fail)), (show 7 = 0 → (σ.1 5) < 1000 ∧ n1 ≤ 60 ∧ σ.2.1 3 (σ.1 3) + n1 ≤ 30000 ∧ (σ.1 3) < 2500 ∧ (σ.1 39) = -1 from by (first | omega | (simp only [st_s] <;> omega) | assumption | omega | fail))⟩
      ·
        exact ⟨(show 0 ≤ 0 ∧ 0 ≤ 19 from by (first | omega | (simp only [st_s] <;> omega) | assumption | omega | fail)), (show 0 = 0 → (σ.1 5) < 1000 ∧ n1 ≤ 60 ∧ σ.2.1 3 (σ.1 3) + n1 ≤ 30000 ∧ (σ.1 3) < 2500 ∧ (σ.1 39) = -1 from by (first | omega | (simp only [st_s] <;> omega) | assumption | omega | fail))⟩
    ·
      exact ⟨(show 0 ≤ 5 ∧ 5 ≤ 19 from by (first | omega | (simp only [st_s] <;> omega) | assumption | omega | fail)), (show 5 = 0 → (σ.1 5) < 1000 ∧ n1 ≤ 60 ∧ σ.2.1 3 (σ.1 3) + n1 ≤ 30000 ∧ (σ.1 3) < 2500 ∧ (σ.1 39) = -1 from by (first | omega | (simp only [st_s] <;> omega) | assumption | omega | fail))⟩
set_option maxHeartbeats 1000000 in
theorem K2_X7_declareConstant {n1 : Int} {n2 : Int} {σ : S0} (hT : c_T σ) (p1 : 0 ≤ n1) (p2 : 0 ≤ n2) (p3 : n1 + n2 ≤ 60000) (p4 : ¬ σ.1 66 = 0) (p5 : (σ.1 36) ≤ 1000) (p6 : J_ht (σ.1 3) (σ.2.1 2) (σ.2.1 3) (σ.2.1 5) (σ.2.1 6)) (p7 : J_mn (σ.1 3) (σ.1 5) ((σ.1 7) + 1) (σ.2.1 4)) (p8 : J_vs (σ.1 8) (σ.1 5) (σ.2.1 20)) (p9 : J_vs (σ.1 6) (σ.1 5) (σ.2.1 15)) (p10 : J_rks (σ.1 5) (σ.1 4) (σ.2.1 10) (σ.2.1 11)) (p11 : J_ff (σ.1 5) (σ.1 7) (σ.2.1 9) (σ.2.1 13) (σ.2.1 14) (σ.2.1 15)) (p12 : J_nl (σ.1 3) (σ.2.1 2) (σ.2.1 3) (σ.2.1 4)) (p13 : (σ.1 38) = -1 → (σ.1 39) = -1 → ∀ n : Int, 0 ≤ n → n < (σ.1 3) → ¬ c_eq (σ.2.1 2) (σ.2.1 3) n (σ.2.1 0) n1 n2) : W_X7_declareConstant n1 n2 σ (fun (x : Int) (τ : S0) => (c_T τ) ∧ (0 ≤ x ∧ x ≤ 19) ∧ (J_ht (τ.1 3) (τ.2.1 2) (τ.2.1 3) (τ.2.1 5) (τ.2.1 6)) ∧ (J_mn (τ.1 3) (τ.1 5) ((τ.1 7) + 1) (τ.2.1 4)) ∧ (J_vs (τ.1 8) (τ.1 5) (τ.2.1 20)) ∧ (J_vs (τ.1 6) (τ.1 5) (τ.2.1 15)) ∧ (J_rks (τ.1 5) (τ.1 4) (τ.2.1 10) (τ.2.1 11)) ∧ (J_ff (τ.1 5) (τ.1 7) (τ.2.1 9) (τ.2.1 13) (τ.2.1 14) (τ.2.1 15)) ∧ (j_rr ((σ.1 5)) (σ.2.1 10) (τ.2.1 10)) ∧ (x = 0 → (τ.1 36) = (σ.1 36) + 1 ∧ (τ.1 5) = (σ.1 5) + 1) ∧ (J_nl (τ.1 3) (τ.2.1 2) (τ.2.1 3) (τ.2.1 4)) ∧ (j_nm σ τ) ∧ (c_ag σ τ)) := by
  have A2 : ∀ j, 0 ≤ σ.2.1 2 j ∧ σ.2.1 2 j ≤ 65535 := fun j => hT.2 2 j
  have A3 : ∀ j, 0 ≤ σ.2.1 3 j ∧ σ.2.1 3 j ≤ 30000 := fun j => hT.2 3 j
  have A4 : ∀ j, (-1000) ≤ σ.2.1 4 j ∧ σ.2.1 4 j ≤ 1499 := fun j => hT.2 4 j
  have A5 : ∀ j, 0 ≤ σ.2.1 5 j ∧ σ.2.1 5 j ≤ 2500 := fun j => hT.2 5 j
  have A6 : ∀ j, 0 ≤ σ.2.1 6 j ∧ σ.2.1 6 j ≤ 2500 := fun j => hT.2 6 j
  have A9 : ∀ j, (-1) ≤ σ.2.1 9 j ∧ σ.2.1 9 j ≤ 1499 := fun j => hT.2 9 j
  have A10 : ∀ j, (-1) ≤ σ.2.1 10 j ∧ σ.2.1 10 j ≤ 99 := fun j => hT.2 10 j
  have A11 : ∀ j, 0 ≤ σ.2.1 11 j ∧ σ.2.1 11 j ≤ 999 := fun j => hT.2 11 j
  have A13 : ∀ j, 0 ≤ σ.2.1 13 j ∧ σ.2.1 13 j ≤ 4 := fun j => hT.2 13 j
  have A14 : ∀ j, 0 ≤ σ.2.1 14 j ∧ σ.2.1 14 j ≤ 30000 := fun j => hT.2 14 j
  have A15 : ∀ j, 0 ≤ σ.2.1 15 j ∧ σ.2.1 15 j ≤ 999 := fun j => hT.2 15 j
  have A20 : ∀ j, 0 ≤ σ.2.1 20 j ∧ σ.2.1 20 j ≤ 999 := fun j => hT.2 20 j
  have v3 : 0 ≤ σ.1 3 ∧ σ.1 3 ≤ 2500 := hT.1 3
  have v4 : 0 ≤ σ.1 4 ∧ σ.1 4 ≤ 100 := hT.1 4
  have v5 : 0 ≤ σ.1 5 ∧ σ.1 5 ≤ 1000 := hT.1 5
  have v6 : 0 ≤ σ.1 6 ∧ σ.1 6 ≤ 30000 := hT.1 6
  have v7 : 0 ≤ σ.1 7 ∧ σ.1 7 ≤ 1500 := hT.1 7
  have v8 : 0 ≤ σ.1 8 ∧ σ.1 8 ≤ 1000 := hT.1 8
  have v13 : 0 ≤ σ.1 13 ∧ σ.1 13 ≤ 90000 := hT.1 13
  have v14 : 0 ≤ σ.1 14 ∧ σ.1 14 ≤ 20000 := hT.1 14
  have v15 : 0 ≤ σ.1 15 ∧ σ.1 15 ≤ 20000 := hT.1 15
  have v16 : 0 ≤ σ.1 16 ∧ σ.1 16 ≤ 20000 := hT.1 16
  have v36 : 0 ≤ σ.1 36 ∧ σ.1 36 ≤ 1001 := hT.1 36
  have v38 : (-1) ≤ σ.1 38 ∧ σ.1 38 ≤ 999 := hT.1 38
  have v39 : (-1) ≤ σ.1 39 ∧ σ.1 39 ≤ 1499 := hT.1 39
  have v66 : 0 ≤ σ.1 66 ∧ σ.1 66 ≤ 1 := hT.1 66
  have a3_3 : 0 ≤ σ.2.1 3 (σ.1 3) ∧ σ.2.1 3 (σ.1 3) ≤ 30000 := hT.2 3 _
  have W4 : σ.1 4 = σ.1 4 := rfl
  have W6 : σ.1 6 = σ.1 6 := rfl
  have W7 : σ.1 7 = σ.1 7 := rfl
  have W8 : σ.1 8 = σ.1 8 := rfl
  have W13 : σ.1 13 = σ.1 13 := rfl
  have W14 : σ.1 14 = σ.1 14 := rfl
  have W15 : σ.1 15 = σ.1 15 := rfl
  have W16 : σ.1 16 = σ.1 16 := rfl
  have W38 : σ.1 38 = σ.1 38 := rfl
  have W39 : σ.1 39 = σ.1 39 := rfl
  have W66 : σ.1 66 = σ.1 66 := rfl
  have G11 : σ.2.1 11 = σ.2.1 11 := rfl
  have G13 : σ.2.1 13 = σ.2.1 13 := rfl
  have G14 : σ.2.1 14 = σ.2.1 14 := rfl
  have G15 : σ.2.1 15 = σ.2.1 15 := rfl
  have G20 : σ.2.1 20 = σ.2.1 20 := rfl
  have ag : c_ag σ σ := ag_0 σ
  have HT : J_ht (σ.1 3) (σ.2.1 2) (σ.2.1 3) (σ.2.1 5) (σ.2.1 6) := p6
  have NL : J_nl (σ.1 3) (σ.2.1 2) (σ.2.1 3) (σ.2.1 4) := p12
  have MN : J_mn (σ.1 3) (σ.1 5) ((σ.1 7) + 1) (σ.2.1 4) := p7
  have FF : J_ff (σ.1 5) (σ.1 7) (σ.2.1 9) (σ.2.1 13) (σ.2.1 14) (σ.2.1 15) := p11
  have VS : J_vs (σ.1 8) (σ.1 5) (σ.2.1 20) := p8
  have TX : J_vs (σ.1 6) (σ.1 5) (σ.2.1 15) := p9
  have RKS : J_rks (σ.1 5) (σ.1 4) (σ.2.1 10) (σ.2.1 11) := p10
  have FF_0 := FF
  have HT_0 := HT
  have MN_0 := MN
  have NL_0 := NL
  have RKS_0 := RKS
  have TX_0 := TX
  have VS_0 := VS
  unfold W_X7_declareConstant
  refine ⟨(⟨by (first | omega | (simp only [st_s] <;> omega) | assumption | omega | fail), by (first | omega | (simp only [st_s] <;> omega) | assumption | omega | fail)⟩ : rg (σ.1 36 + 1)), ?_⟩
  replace ag := ag_v (i := 36) (x := (σ.1 36 + 1)) ag (Or.inl rfl)
  replace hT := cT_v (i := 36) hT (show 0 ≤ (σ.1 36 + 1) ∧ (σ.1 36 + 1) ≤ 1001 from by (first | omega | (simp only [st_s] <;> omega) | assumption | omega | fail))
  refine ⟨fun c2 => ?_, fun c2 => ?_⟩
  ·
    refine ⟨_, K2_X7_faultOfNewSymbol hT (show 0 ≤ n2 from by (first | omega | (simp only [st_s] <;> omega) | assumption | omega | fail)) (show n2 ≤ 60000 from by (first | omega | (simp only [st_s] <;> omega) | assumption | omega | fail)), ?_⟩
    intro x4 r_x4 hq
    obtain ⟨q3_1, q3_2⟩ := hq
    replace q3_1 : 0 ≤ x4 ∧ x4 ≤ 19 := q3_1
    replace q3_2 : x4 = 0 → (σ.1 5) < 1000 ∧ n2 ≤ 60 ∧ σ.2.1 3 (σ.1 3) + n2 ≤ 30000 ∧ (σ.1 3) < 2500 ∧ (σ.1 39) = -1 := q3_2
    refine ⟨fun c6 => ?_, fun c6 => ?_⟩
    ·
      exact ⟨hT, (show 0 ≤ x4 ∧ x4 ≤ 19 from by (first | omega | (simp only [st_s] <;> omega) | assumption | omega | fail)), (show J_ht (σ.1 3) (σ.2.1 2) (σ.2.1 3) (σ.2.1 5) (σ.2.1 6) from HT), (show J_mn (σ.1 3) (σ.1 5) ((σ.1 7) + 1) (σ.2.1 4) from MN), (show J_vs (σ.1 8) (σ.1 5) (σ.2.1 20) from VS), (show J_vs (σ.1 6) (σ.1 5) (σ.2.1 15) from TX), (show J_rks (σ.1 5) (σ.1 4) (σ.2.1 10) (σ.2.1 11) from RKS), (show J_ff (σ.1 5) (σ.1 7) (σ.2.1 9) (σ.2.1 13) (σ.2.1 14) (σ.2.1 15) from FF), (show j_rr ((σ.1 5)) (σ.2.1 10) (σ.2.1 10) from by (first | exact RR0 | exact j_rr0 _ _ | fail)), (show x4 = 0 → ((σ.1 36 + 1)) = (σ.1 36) + 1 ∧ (σ.1 5) = (σ.1 5) + 1 from by (first | omega | (simp only [st_s] <;> omega) | assumption | omega | fail)), (show J_nl (σ.1 3) (σ.2.1 2) (σ.2.1 3) (σ.2.1 4) from NL), (show j_nm σ (s_v σ 36 (σ.1 36 + 1)) from by (first | exact j_nm0 _ | exact (show j_nm σ τ10 from q8_10) | fail)), ag⟩
    ·
      refine ⟨(show ¬ σ.1 66 = 0 from by (first | omega | (simp only [st_s] <;> omega) | assumption | omega | fail)), ?_⟩
      refine ⟨_, K2_X3_addSymbol_q13 hT (show 0 ≤ n1 from by (first | omega | (simp only [st_s] <;> omega) | assumption | omega | fail)) (show 0 ≤ n2 from by (first | omega | (simp only [st_s] <;> omega) | assumption | omega | fail)) (show n2 ≤ 60 from by (first | omega | (simp only [st_s] <;> omega) | assumption | omega | fail)) (show n1 + n2 ≤ 60000 from by (first | omega | (simp only [st_s] <;> omega) | assumption | omega | fail)) (show 0 ≤ (0 : Int) from by (first | omega | (simp only [st_s] <;> omega) | assumption | omega | fail)) (show (0 : Int) ≤ 1 from by (first | omega | (simp only [st_s] <;> omega) | assumption | omega | fail)) (show σ.2.1 3 (σ.1 3) + n2 ≤ 30000 from by (first | omega | (simp only [st_s] <;> omega) | assumption | omega | fail)) (show (σ.1 3) < 2500 from by (first | omega | (simp only [st_s] <;> omega) | assumption | omega | fail)) (show (σ.1 5) < 1000 from by (first | omega | (simp only [st_s] <;> omega) | assumption | omega | fail)) (show J_ht (σ.1 3) (σ.2.1 2) (σ.2.1 3) (σ.2.1 5) (σ.2.1 6) from HT) (show J_mn (σ.1 3) (σ.1 5) ((σ.1 7) + 1) (σ.2.1 4) from MN) (show J_nl (σ.1 3) (σ.2.1 2) (σ.2.1 3) (σ.2.1 4) from NL) (show ∀ n : Int, 0 ≤ n → n < (σ.1 3) → ¬ c_eq (σ.2.1 2) (σ.2.1 3) n (σ.2.1 0) n1 n2 from by exact p13 (by omega) (by omega)), ?_⟩
      intro x9 τ10 r_x9 hn_τ10 hf_τ10 hq
      obtain ⟨hT, q8_1, q8_2, q8_3, q8_4, q8_5, q8_6, q8_7, q8_8, q8_9, q8_10, q8_11⟩ := hq
      replace q8_1 : x9 = (σ.1 5) := q8_1
      replace q8_2 : (τ10.1 5) = (σ.1 5) + 1 := q8_2
      replace q8_3 : τ10.2.1 8 = st (σ.2.1 8) (σ.1 5) (0 : Int) := q8_3
      replace q8_4 : τ10.2.1 10 = st (σ.2.1 10) (σ.1 5) (-1) := q8_4
      replace q8_5 : τ10.2.1 9 = st (σ.2.1 9) (σ.1 5) (-1) := q8_5
      replace q8_6 : (τ10.1 3) = (σ.1 3) + 1 := q8_6
      replace q8_7 : J_ht (τ10.1 3) (τ10.2.1 2) (τ10.2.1 3) (τ10.2.1 5) (τ10.2.1 6) := q8_7
      replace q8_8 : J_mn (τ10.1 3) (τ10.1 5) ((τ10.1 7) + 1) (τ10.2.1 4) := q8_8
      replace q8_9 : J_nl (τ10.1 3) (τ10.2.1 2) (τ10.2.1 3) (τ10.2.1 4) := q8_9
      replace q8_10 : j_nm (s_v σ 36 (σ.1 36 + 1)) τ10 := q8_10
      replace q8_11 : c_ag (s_v σ 36 (σ.1 36 + 1)) τ10 := q8_11
      replace ag : c_ag σ τ10 := ag_t ag q8_11 rfl
      have w4_τ10 : τ10.1 4 = σ.1 4 := hf_τ10.1 4 (by decide)
      have w6_τ10 : τ10.1 6 = σ.1 6 := hf_τ10.1 6 (by decide)
      have w7_τ10 : τ10.1 7 = σ.1 7 := hf_τ10.1 7 (by decide)
      have w8_τ10 : τ10.1 8 = σ.1 8 := hf_τ10.1 8 (by decide)
      have w13_τ10 : τ10.1 13 = σ.1 13 := hf_τ10.1 13 (by decide)
      have w14_τ10 : τ10.1 14 = σ.1 14 := hf_τ10.1 14 (by decide)
      have w15_τ10 : τ10.1 15 = σ.1 15 := hf_τ10.1 15 (by decide)
      have w16_τ10 : τ10.1 16 = σ.1 16 := hf_τ10.1 16 (by decide)
      have w36_τ10 : τ10.1 36 = (σ.1 36 + 1) := hf_τ10.1 36 (by decide)
      have w38_τ10 : τ10.1 38 = σ.1 38 := hf_τ10.1 38 (by decide)
      have w39_τ10 : τ10.1 39 = σ.1 39 := hf_τ10.1 39 (by decide)
      have w66_τ10 : τ10.1 66 = σ.1 66 := hf_τ10.1 66 (by decide)
      have g11_τ10 : τ10.2.1 11 = σ.2.1 11 := hf_τ10.2.1 11 (by decide)
      have g13_τ10 : τ10.2.1 13 = σ.2.1 13 := hf_τ10.2.1 13 (by decide)
      have g14_τ10 : τ10.2.1 14 = σ.2.1 14 := hf_τ10.2.1 14 (by decide)
      have g15_τ10 : τ10.2.1 15 = σ.2.1 15 := hf_τ10.2.1 15 (by decide)
      have g20_τ10 : τ10.2.1 20 = σ.2.1 20 := hf_τ10.2.1 20 (by decide)
      have W4 : τ10.1 4 = σ.1 4 := by first | exact w4_τ10.trans W4 | omega
      have W6 : τ10.1 6 = σ.1 6 := by first | exact w6_τ10.trans W6 | omega
      have W7 : τ10.1 7 = σ.1 7 := by first | exact w7_τ10.trans W7 | omega
      have W8 : τ10.1 8 = σ.1 8 := by first | exact w8_τ10.trans W8 | omega
      have W13 : τ10.1 13 = σ.1 13 := by first | exact w13_τ10.trans W13 | omega
      have W14 : τ10.1 14 = σ.1 14 := by first | exact w14_τ10.trans W14 | omega
      have W15 : τ10.1 15 = σ.1 15 := by first | exact w15_τ10.trans W15 | omega
      have W16 : τ10.1 16 = σ.1 16 := by first | exact w16_τ10.trans W16 | omega
      have W38 : τ10.1 38 = σ.1 38 := by first | exact w38_τ10.trans W38 | omega
      have W39 : τ10.1 39 = σ.1 39 := by first | exact w39_τ10.trans W39 | omega
      have W66 : τ10.1 66 = σ.1 66 := by first | exact w66_τ10.trans W66 | omega
      have G11 : τ10.2.1 11 = σ.2.1 11 := (g11_τ10).trans G11
      have G13 : τ10.2.1 13 = σ.2.1 13 := (g13_τ10).trans G13
      have G14 : τ10.2.1 14 = σ.2.1 14 := (g14_τ10).trans G14
      have G15 : τ10.2.1 15 = σ.2.1 15 := (g15_τ10).trans G15
      have G20 : τ10.2.1 20 = σ.2.1 20 := (g20_τ10).trans G20
      have HT : J_ht (τ10.1 3) (τ10.2.1 2) (τ10.2.1 3) (τ10.2.1 5) (τ10.2.1 6) := q8_7
      have NL : J_nl (τ10.1 3) (τ10.2.1 2) (τ10.2.1 3) (τ10.2.1 4) := q8_9
      have MN : J_mn (τ10.1 3) (τ10.1 5) ((τ10.1 7) + 1) (τ10.2.1 4) := q8_8
      have A2 : ∀ j, 0 ≤ τ10.2.1 2 j ∧ τ10.2.1 2 j ≤ 65535 := fun j => hT.2 2 j
      have A3 : ∀ j, 0 ≤ τ10.2.1 3 j ∧ τ10.2.1 3 j ≤ 30000 := fun j => hT.2 3 j
      have A4 : ∀ j, (-1000) ≤ τ10.2.1 4 j ∧ τ10.2.1 4 j ≤ 1499 := fun j => hT.2 4 j
      have A5 : ∀ j, 0 ≤ τ10.2.1 5 j ∧ τ10.2.1 5 j ≤ 2500 := fun j => hT.2 5 j
      have A6 : ∀ j, 0 ≤ τ10.2.1 6 j ∧ τ10.2.1 6 j ≤ 2500 := fun j => hT.2 6 j
      have A9 : ∀ j, (-1) ≤ τ10.2.1 9 j ∧ τ10.2.1 9 j ≤ 1499 := fun j => hT.2 9 j
      have A10 : ∀ j, (-1) ≤ τ10.2.1 10 j ∧ τ10.2.1 10 j ≤ 99 := fun j => hT.2 10 j
      have A11 : ∀ j, 0 ≤ τ10.2.1 11 j ∧ τ10.2.1 11 j ≤ 999 := fun j => hT.2 11 j
      have A13 : ∀ j, 0 ≤ τ10.2.1 13 j ∧ τ10.2.1 13 j ≤ 4 := fun j => hT.2 13 j
      have A14 : ∀ j, 0 ≤ τ10.2.1 14 j ∧ τ10.2.1 14 j ≤ 30000 := fun j => hT.2 14 j
      have A15 : ∀ j, 0 ≤ τ10.2.1 15 j ∧ τ10.2.1 15 j ≤ 999 := fun j => hT.2 15 j
      have A20 : ∀ j, 0 ≤ τ10.2.1 20 j ∧ τ10.2.1 20 j ≤ 999 := fun j => hT.2 20 j
      have v3 : 0 ≤ τ10.1 3 ∧ τ10.1 3 ≤ 2500 := hT.1 3
      have v4 : 0 ≤ τ10.1 4 ∧ τ10.1 4 ≤ 100 := hT.1 4
      have v5 : 0 ≤ τ10.1 5 ∧ τ10.1 5 ≤ 1000 := hT.1 5
      have v6 : 0 ≤ τ10.1 6 ∧ τ10.1 6 ≤ 30000 := hT.1 6
      have v7 : 0 ≤ τ10.1 7 ∧ τ10.1 7 ≤ 1500 := hT.1 7
      have v8 : 0 ≤ τ10.1 8 ∧ τ10.1 8 ≤ 1000 := hT.1 8
      have v13 : 0 ≤ τ10.1 13 ∧ τ10.1 13 ≤ 90000 := hT.1 13
      have v14 : 0 ≤ τ10.1 14 ∧ τ10.1 14 ≤ 20000 := hT.1 14
      have v15 : 0 ≤ τ10.1 15 ∧ τ10.1 15 ≤ 20000 := hT.1 15
      have v16 : 0 ≤ τ10.1 16 ∧ τ10.1 16 ≤ 20000 := hT.1 16
      have v36 : 0 ≤ τ10.1 36 ∧ τ10.1 36 ≤ 1001 := hT.1 36
      have v38 : (-1) ≤ τ10.1 38 ∧ τ10.1 38 ≤ 999 := hT.1 38
      have v39 : (-1) ≤ τ10.1 39 ∧ τ10.1 39 ≤ 1499 := hT.1 39
      have v66 : 0 ≤ τ10.1 66 ∧ τ10.1 66 ≤ 1 := hT.1 66
      have a3_3 : 0 ≤ τ10.2.1 3 (τ10.1 3) ∧ τ10.2.1 3 (τ10.1 3) ≤ 30000 := hT.2 3 _
      have av3 : σ.1 3 ≤ τ10.1 3 := ag.1 3 (by decide)
      have av5 : σ.1 5 ≤ τ10.1 5 := ag.1 5 (by decide)
      have VS := J_vs_w VS_0 (show σ.1 5 ≤ τ10.1 5 from by omega) (show σ.1 8 ≤ σ.1 8 from Int.le_refl _)
      have TX := J_vs_w TX_0 (show σ.1 5 ≤ τ10.1 5 from by omega) (show σ.1 6 ≤ σ.1 6 from Int.le_refl _)
      rw [← w8_τ10, ← g20_τ10] at VS
      rw [← w6_τ10, ← g15_τ10] at TX
      have RKS : J_rks (τ10.1 5) (τ10.1 4) (τ10.2.1 10) (τ10.2.1 11) := by rw [q8_2, q8_4, w4_τ10, g11_τ10]; exact J_rks_s RKS_0 (by omega)
      have FF : J_ff (τ10.1 5) (τ10.1 7) (τ10.2.1 9) (τ10.2.1 13) (τ10.2.1 14) (τ10.2.1 15) := by rw [q8_2, q8_5, w7_τ10, g13_τ10, g14_τ10, g15_τ10]; exact J_ff_s FF_0
      have RR0 : j_rr (σ.1 5) (σ.2.1 10) (τ10.2.1 10) := by rw [q8_4]; exact j_rrs (by omega)
      exact ⟨hT, (show 0 ≤ x4 ∧ x4 ≤ 19 from by (first | omega | (simp only [st_s] <;> omega) | assumption | omega | fail)), (show J_ht (τ10.1 3) (τ10.2.1 2) (τ10.2.1 3) (τ10.2.1 5) (τ10.2.1 6) from HT), (show J_mn (τ10.1 3) (τ10.1 5) ((τ10.1 7) + 1) (τ10.2.1 4) from MN), (show J_vs (τ10.1 8) (τ10.1 5) (τ10.2.1 20) from VS), (show J_vs (τ10.1 6) (τ10.1 5) (τ10.2.1 15) from TX), (show J_rks (τ10.1 5) (τ10.1 4) (τ10.2.1 10) (τ10.2.1 11) from RKS), (show J_ff (τ10.1 5) (τ10.1 7) (τ10.2.1 9) (τ10.2.1 13) (τ10.2.1 14) (τ10.2.1 15) from FF), (show j_rr ((σ.1 5)) (σ.2.1 10) (τ10.2.1 10) from by (first | exact RR0 | exact j_rr0 _ _ | fail)), (show x4 = 0 → (τ10.1 36) = (σ.1 36) + 1 ∧ (τ10.1 5) = (σ.1 5) + 1 from by (first | omega | (simp only [st_s] <;> omega) | assumption | omega | fail)), (show J_nl (τ10.1 3) (τ10.2.1 2) (τ10.2.1 3) (τ10.2.1 4) from NL), (show j_nm σ τ10 from by (first | exact j_nm0 _ | exact (show j_nm σ τ10 from q8_10) | fail)), ag⟩
  ·
    exact ⟨hT, (show 0 ≤ 7 ∧ 7 ≤ 19 from by (first | omega | (simp only [st_s] <;> omega) | assumption | omega | fail)), (show J_ht (σ.1 3) (σ.2.1 2) (σ.2.1 3) (σ.2.1 5) (σ.2.1 6) from HT), (show J_mn (σ.1 3) (σ.1 5) ((σ.1 7) + 1) (σ.2.1 4) from MN), (show J_vs (σ.1 8) (σ.1 5) (σ.2.1 20) from VS), (show J_vs (σ.1 6) (σ.1 5) (σ.2.1 15) from TX), (show J_rks (σ.1 5) (σ.1 4) (σ.2.1 10) (σ.2.1 11) from RKS), (show J_ff (σ.1 5) (σ.1 7) (σ.2.1 9) (σ.2.1 13) (σ.2.1 14) (σ.2.1 15) from FF), (show j_rr ((σ.1 5)) (σ.2.1 10) (σ.2.1 10) from by (first | exact RR0 | exact j_rr0 _ _ | fail)), (show 7 = 0 → ((σ.1 36 + 1)) = (σ.1 36) + 1 ∧ (σ.1 5) = (σ.1 5) + 1 from by (first | omega | (simp only [st_s] <;> omega) | assumption | omega | fail)), (show J_nl (σ.1 3) (σ.2.1 2) (σ.2.1 3) (σ.2.1 4) from NL), (show j_nm σ (s_v σ 36 (σ.1 36 + 1)) from by (first | exact j_nm0 _ | exact (show j_nm σ τ10 from q8_10) | fail)), ag⟩
set_option maxHeartbeats 1000000 in
theorem K2_X7_declareVariable {n1 : Int} {n2 : Int} {σ : S0} (hT : c_T σ) (p1 : 0 ≤ n1) (p2 : 0 ≤ n2) (p3 : n1 + n2 ≤ 60000) (p4 : ¬ σ.1 66 = 0) (p5 : (σ.1 36) ≤ 1000) (p6 : (σ.1 38) < (σ.1 5)) (p7 : J_ht (σ.1 3) (σ.2.1 2) (σ.2.1 3) (σ.2.1 5) (σ.2.1 6)) (p8 : J_mn (σ.1 3) (σ.1 5) ((σ.1 7) + 1) (σ.2.1 4)) (p9 : J_vs (σ.1 8) (σ.1 5) (σ.2.1 20)) (p10 : J_vs (σ.1 6) (σ.1 5) (σ.2.1 15)) (p11 : J_va (σ.1 8) 1000 (σ.2.1 18) (σ.2.1 20)) (p12 : J_mk (σ.1 11) (σ.1 8) (σ.1 9) (σ.1 10) (σ.2.1 25)) (p13 : J_rks (σ.1 5) (σ.1 4) (σ.2.1 10) (σ.2.1 11)) (p14 : J_ff (σ.1 5) (σ.1 7) (σ.2.1 9) (σ.2.1 13) (σ.2.1 14) (σ.2.1 15)) (p15 : J_nl (σ.1 3) (σ.2.1 2) (σ.2.1 3) (σ.2.1 4)) (p16 : (σ.1 38) = -1 → (σ.1 39) = -1 → ∀ n : Int, 0 ≤ n → n < (σ.1 3) → ¬ c_eq (σ.2.1 2) (σ.2.1 3) n (σ.2.1 0) n1 n2) : W_X7_declareVariable n1 n2 σ (fun (x : Int) (τ : S0) => (c_T τ) ∧ (0 ≤ x ∧ x ≤ 19) ∧ (J_ht (τ.1 3) (τ.2.1 2) (τ.2.1 3) (τ.2.1 5) (τ.2.1 6)) ∧ (J_mn (τ.1 3) (τ.1 5) ((τ.1 7) + 1) (τ.2.1 4)) ∧ (J_vs (τ.1 8) (τ.1 5) (τ.2.1 20)) ∧ (J_vs (τ.1 6) (τ.1 5) (τ.2.1 15)) ∧ (J_va (τ.1 8) 1000 (τ.2.1 18) (τ.2.1 20)) ∧ (J_mk (τ.1 11) (τ.1 8) (τ.1 9) (τ.1 10) (τ.2.1 25)) ∧ (J_rks (τ.1 5) (τ.1 4) (τ.2.1 10) (τ.2.1 11)) ∧ (J_ff (τ.1 5) (τ.1 7) (τ.2.1 9) (τ.2.1 13) (τ.2.1 14) (τ.2.1 15)) ∧ (j_rr ((σ.1 5)) (σ.2.1 10) (τ.2.1 10)) ∧ (x = 0 → (τ.1 36) = (σ.1 36) + 1 ∧ (τ.1 8) = (σ.1 8) + 1) ∧ (c_Y σ τ) ∧ (J_nl (τ.1 3) (τ.2.1 2) (τ.2.1 3) (τ.2.1 4)) ∧ (j_nm σ τ) ∧ (c_ag σ τ)) := by
  have A2 : ∀ j, 0 ≤ σ.2.1 2 j ∧ σ.2.1 2 j ≤ 65535 := fun j => hT.2 2 j
  have A3 : ∀ j, 0 ≤ σ.2.1 3 j ∧ σ.2.1 3 j ≤ 30000 := fun j => hT.2 3 j
  have A4 : ∀ j, (-1000) ≤ σ.2.1 4 j ∧ σ.2.1 4 j ≤ 1499 := fun j => hT.2 4 j
  have A5 : ∀ j, 0 ≤ σ.2.1 5 j ∧ σ.2.1 5 j ≤ 2500 := fun j => hT.2 5 j
  have A6 : ∀ j, 0 ≤ σ.2.1 6 j ∧ σ.2.1 6 j ≤ 2500 := fun j => hT.2 6 j
  have A8 : ∀ j, 0 ≤ σ.2.1 8 j ∧ σ.2.1 8 j ≤ 1 := fun j => hT.2 8 j
  have A9 : ∀ j, (-1) ≤ σ.2.1 9 j ∧ σ.2.1 9 j ≤ 1499 := fun j => hT.2 9 j
  have A10 : ∀ j, (-1) ≤ σ.2.1 10 j ∧ σ.2.1 10 j ≤ 99 := fun j => hT.2 10 j
  have A11 : ∀ j, 0 ≤ σ.2.1 11 j ∧ σ.2.1 11 j ≤ 999 := fun j => hT.2 11 j
  have A13 : ∀ j, 0 ≤ σ.2.1 13 j ∧ σ.2.1 13 j ≤ 4 := fun j => hT.2 13 j
  have A14 : ∀ j, 0 ≤ σ.2.1 14 j ∧ σ.2.1 14 j ≤ 30000 := fun j => hT.2 14 j
  have A15 : ∀ j, 0 ≤ σ.2.1 15 j ∧ σ.2.1 15 j ≤ 999 := fun j => hT.2 15 j
  have A18 : ∀ j, 0 ≤ σ.2.1 18 j ∧ σ.2.1 18 j ≤ 1 := fun j => hT.2 18 j
  have A20 : ∀ j, 0 ≤ σ.2.1 20 j ∧ σ.2.1 20 j ≤ 999 := fun j => hT.2 20 j
  have A22 : ∀ j, 0 ≤ σ.2.1 22 j ∧ σ.2.1 22 j ≤ 1499 := fun j => hT.2 22 j
  have v3 : 0 ≤ σ.1 3 ∧ σ.1 3 ≤ 2500 := hT.1 3
  have v4 : 0 ≤ σ.1 4 ∧ σ.1 4 ≤ 100 := hT.1 4
  have v5 : 0 ≤ σ.1 5 ∧ σ.1 5 ≤ 1000 := hT.1 5
  have v6 : 0 ≤ σ.1 6 ∧ σ.1 6 ≤ 30000 := hT.1 6
  have v7 : 0 ≤ σ.1 7 ∧ σ.1 7 ≤ 1500 := hT.1 7
  have v8 : 0 ≤ σ.1 8 ∧ σ.1 8 ≤ 1000 := hT.1 8
  have v9 : 0 ≤ σ.1 9 ∧ σ.1 9 ≤ 1500 := hT.1 9
  have v10 : 0 ≤ σ.1 10 ∧ σ.1 10 ≤ 1000 := hT.1 10
  have v11 : 0 ≤ σ.1 11 ∧ σ.1 11 ≤ 50 := hT.1 11
  have v13 : 0 ≤ σ.1 13 ∧ σ.1 13 ≤ 90000 := hT.1 13
  have v14 : 0 ≤ σ.1 14 ∧ σ.1 14 ≤ 20000 := hT.1 14
  have v15 : 0 ≤ σ.1 15 ∧ σ.1 15 ≤ 20000 := hT.1 15
  have v16 : 0 ≤ σ.1 16 ∧ σ.1 16 ≤ 20000 := hT.1 16
  have v36 : 0 ≤ σ.1 36 ∧ σ.1 36 ≤ 1001 := hT.1 36
  have v38 : (-1) ≤ σ.1 38 ∧ σ.1 38 ≤ 999 := hT.1 38
  have v39 : (-1) ≤ σ.1 39 ∧ σ.1 39 ≤ 1499 := hT.1 39
  have v66 : 0 ≤ σ.1 66 ∧ σ.1 66 ≤ 1 := hT.1 66
  have a3_3 : 0 ≤ σ.2.1 3 (σ.1 3) ∧ σ.2.1 3 (σ.1 3) ≤ 30000 := hT.2 3 _
  have W4 : σ.1 4 = σ.1 4 := rfl
  have W6 : σ.1 6 = σ.1 6 := rfl
  have W7 : σ.1 7 = σ.1 7 := rfl
  have W9 : σ.1 9 = σ.1 9 := rfl
  have W10 : σ.1 10 = σ.1 10 := rfl
  have W11 : σ.1 11 = σ.1 11 := rfl
  have W13 : σ.1 13 = σ.1 13 := rfl
  have W14 : σ.1 14 = σ.1 14 := rfl
  have W15 : σ.1 15 = σ.1 15 := rfl
  have W16 : σ.1 16 = σ.1 16 := rfl
  have W38 : σ.1 38 = σ.1 38 := rfl
  have W39 : σ.1 39 = σ.1 39 := rfl
  have W66 : σ.1 66 = σ.1 66 := rfl
  have G11 : σ.2.1 11 = σ.2.1 11 := rfl
  have G13 : σ.2.1 13 = σ.2.1 13 := rfl
  have G14 : σ.2.1 14 = σ.2.1 14 := rfl
  have G15 : σ.2.1 15 = σ.2.1 15 := rfl
  have G22 : σ.2.1 22 = σ.2.1 22 := rfl
  have G25 : σ.2.1 25 = σ.2.1 25 := rfl
  have ag : c_ag σ σ := ag_0 σ
  intro P67 h67
  have mk0 : σ.2.1 25 0 ≤ σ.2.1 25 (3 * σ.1 11) := (p12.1 0 (σ.1 11) (by omega) (by omega) (Int.le_refl _)).1
  have mk1 := p12.2
  have HT : J_ht (σ.1 3) (σ.2.1 2) (σ.2.1 3) (σ.2.1 5) (σ.2.1 6) := p7
  have NL : J_nl (σ.1 3) (σ.2.1 2) (σ.2.1 3) (σ.2.1 4) := p15
  have MN : J_mn (σ.1 3) (σ.1 5) ((σ.1 7) + 1) (σ.2.1 4) := p8
  have VA : J_va (σ.1 8) 1000 (σ.2.1 18) (σ.2.1 20) := p11
  have MK : J_mk (σ.1 11) (σ.1 8) (σ.1 9) (σ.1 10) (σ.2.1 25) := p12
  have FF : J_ff (σ.1 5) (σ.1 7) (σ.2.1 9) (σ.2.1 13) (σ.2.1 14) (σ.2.1 15) := p14
  have VS : J_vs (σ.1 8) (σ.1 5) (σ.2.1 20) := p9
  have TX : J_vs (σ.1 6) (σ.1 5) (σ.2.1 15) := p10
  have RKS : J_rks (σ.1 5) (σ.1 4) (σ.2.1 10) (σ.2.1 11) := p13
  have FF_0 := FF
  have HT_0 := HT
  have MK_0 := MK
  have MN_0 := MN
  have NL_0 := NL
  have RKS_0 := RKS
  have TX_0 := TX
  have VA_0 := VA
  have VS_0 := VS
  refine ⟨(⟨by (first | omega | (simp only [st_s] <;> omega) | assumption | omega | fail), by (first | omega | (simp only [st_s] <;> omega) | assumption | omega | fail)⟩ : rg (σ.1 36 + 1)), ?_⟩
  replace ag := ag_v (i := 36) (x := (σ.1 36 + 1)) ag (Or.inl rfl)
  replace hT := cT_v (i := 36) hT (show 0 ≤ (σ.1 36 + 1) ∧ (σ.1 36 + 1) ≤ 1001 from by (first | omega | (simp only [st_s] <;> omega) | assumption | omega | fail))
  refine ⟨fun c2 => ?_, fun c2 => ?_⟩
  ·
    refine ⟨_, K_X9_isKnown hT (show -1 ≤ (σ.1 38) from by (first | omega | (simp only [st_s] <;> omega) | assumption | omega | fail)) (show (σ.1 38) < 1000 from by (first | omega | (simp only [st_s] <;> omega) | assumption | omega | fail)), ?_⟩
    intro x4 r_x4 hq
    obtain ⟨q3_1, q3_2, q3_3, q3_4⟩ := hq
    replace q3_1 : 0 ≤ x4 ∧ x4 ≤ 1 := q3_1
    replace q3_2 : ¬ x4 = 0 → 0 ≤ (σ.1 38) := q3_2
    replace q3_3 : ¬ x4 = 0 → σ.2.1 8 (σ.1 38) = 0 ∨ ¬ σ.2.1 18 (σ.1 38) = 0 := q3_3
    replace q3_4 : 0 ≤ (σ.1 38) → (σ.2.1 8 (σ.1 38) = 0 ∨ ¬ σ.2.1 18 (σ.1 38) = 0) → ¬ x4 = 0 := q3_4
    refine ⟨fun c6 => ?_, fun c6 => ?_⟩
    ·
      obtain ⟨τ_67, e_τ_67⟩ : ∃ z : S0, z = s_v σ 36 (σ.1 36 + 1) := ⟨_, rfl⟩
      rw [← e_τ_67]
      replace hT : c_T τ_67 := by rw [e_τ_67]; exact hT
      replace ag : c_ag σ τ_67 := by rw [e_τ_67]; exact ag
      have w3_τ_67 : τ_67.1 3 = σ.1 3 := by rw [e_τ_67]; rfl
      have w4_τ_67 : τ_67.1 4 = σ.1 4 := by rw [e_τ_67]; rfl
      have w5_τ_67 : τ_67.1 5 = σ.1 5 := by rw [e_τ_67]; rfl
      have w6_τ_67 : τ_67.1 6 = σ.1 6 := by rw [e_τ_67]; rfl
      have w7_τ_67 : τ_67.1 7 = σ.1 7 := by rw [e_τ_67]; rfl
      have w8_τ_67 : τ_67.1 8 = σ.1 8 := by rw [e_τ_67]; rfl
      have w9_τ_67 : τ_67.1 9 = σ.1 9 := by rw [e_τ_67]; rfl
      have w10_τ_67 : τ_67.1 10 = σ.1 10 := by rw [e_τ_67]; rfl
      have w11_τ_67 : τ_67.1 11 = σ.1 11 := by rw [e_τ_67]; rfl
      have w13_τ_67 : τ_67.1 13 = σ.1 13 := by rw [e_τ_67]; rfl
      have w14_τ_67 : τ_67.1 14 = σ.1 14 := by rw [e_τ_67]; rfl
      have w15_τ_67 : τ_67.1 15 = σ.1 15 := by rw [e_τ_67]; rfl
      have w16_τ_67 : τ_67.1 16 = σ.1 16 := by rw [e_τ_67]; rfl
      have w36_τ_67 : τ_67.1 36 = (σ.1 36 + 1) := by rw [e_τ_67]; rfl
      have w38_τ_67 : τ_67.1 38 = σ.1 38 := by rw [e_τ_67]; rfl
      have w39_τ_67 : τ_67.1 39 = σ.1 39 := by rw [e_τ_67]; rfl
      have w66_τ_67 : τ_67.1 66 = σ.1 66 := by rw [e_τ_67]; rfl
      have g2_τ_67 : τ_67.2.1 2 = σ.2.1 2 := by rw [e_τ_67]; rfl
      have g3_τ_67 : τ_67.2.1 3 = σ.2.1 3 := by rw [e_τ_67]; rfl
      have g4_τ_67 : τ_67.2.1 4 = σ.2.1 4 := by rw [e_τ_67]; rfl
      have g5_τ_67 : τ_67.2.1 5 = σ.2.1 5 := by rw [e_τ_67]; rfl
      have g6_τ_67 : τ_67.2.1 6 = σ.2.1 6 := by rw [e_τ_67]; rfl
      have g8_τ_67 : τ_67.2.1 8 = σ.2.1 8 := by rw [e_τ_67]; rfl
      have g9_τ_67 : τ_67.2.1 9 = σ.2.1 9 := by rw [e_τ_67]; rfl
      have g10_τ_67 : τ_67.2.1 10 = σ.2.1 10 := by rw [e_τ_67]; rfl
      have g11_τ_67 : τ_67.2.1 11 = σ.2.1 11 := by rw [e_τ_67]; rfl
      have g13_τ_67 : τ_67.2.1 13 = σ.2.1 13 := by rw [e_τ_67]; rfl
      have g14_τ_67 : τ_67.2.1 14 = σ.2.1 14 := by rw [e_τ_67]; rfl
      have g15_τ_67 : τ_67.2.1 15 = σ.2.1 15 := by rw [e_τ_67]; rfl
      have g18_τ_67 : τ_67.2.1 18 = σ.2.1 18 := by rw [e_τ_67]; rfl
      have g20_τ_67 : τ_67.2.1 20 = σ.2.1 20 := by rw [e_τ_67]; rfl
      have g22_τ_67 : τ_67.2.1 22 = σ.2.1 22 := by rw [e_τ_67]; rfl
      have g25_τ_67 : τ_67.2.1 25 = σ.2.1 25 := by rw [e_τ_67]; rfl
      have W4 : τ_67.1 4 = σ.1 4 := by first | exact w4_τ_67.trans W4 | omega
      have W6 : τ_67.1 6 = σ.1 6 := by first | exact w6_τ_67.trans W6 | omega
      have W7 : τ_67.1 7 = σ.1 7 := by first | exact w7_τ_67.trans W7 | omega
      have W9 : τ_67.1 9 = σ.1 9 := by first | exact w9_τ_67.trans W9 | omega
      have W10 : τ_67.1 10 = σ.1 10 := by first | exact w10_τ_67.trans W10 | omega
      have W11 : τ_67.1 11 = σ.1 11 := by first | exact w11_τ_67.trans W11 | omega
      have W13 : τ_67.1 13 = σ.1 13 := by first | exact w13_τ_67.trans W13 | omega
      have W14 : τ_67.1 14 = σ.1 14 := by first | exact w14_τ_67.trans W14 | omega
      have W15 : τ_67.1 15 = σ.1 15 := by first | exact w15_τ_67.trans W15 | omega
      have W16 : τ_67.1 16 = σ.1 16 := by first | exact w16_τ_67.trans W16 | omega
      have W38 : τ_67.1 38 = σ.1 38 := by first | exact w38_τ_67.trans W38 | omega
      have W39 : τ_67.1 39 = σ.1 39 := by first | exact w39_τ_67.trans W39 | omega
      have W66 : τ_67.1 66 = σ.1 66 := by first | exact w66_τ_67.trans W66 | omega
      have G11 : τ_67.2.1 11 = σ.2.1 11 := (g11_τ_67).trans G11
      have G13 : τ_67.2.1 13 = σ.2.1 13 := (g13_τ_67).trans G13
      have G14 : τ_67.2.1 14 = σ.2.1 14 := (g14_τ_67).trans G14
      have G15 : τ_67.2.1 15 = σ.2.1 15 := (g15_τ_67).trans G15
      have G22 : τ_67.2.1 22 = σ.2.1 22 := (g22_τ_67).trans G22
      have G25 : τ_67.2.1 25 = σ.2.1 25 := (g25_τ_67).trans G25
      have y3_3_τ_67 : τ_67.2.1 3 (τ_67.1 3) = (σ.2.1 3) (σ.1 3) := by rw [g3_τ_67, w3_τ_67]
      have HT : J_ht (τ_67.1 3) (τ_67.2.1 2) (τ_67.2.1 3) (τ_67.2.1 5) (τ_67.2.1 6) := by rw [show (J_ht (τ_67.1 3) (τ_67.2.1 2) (τ_67.2.1 3) (τ_67.2.1 5) (τ_67.2.1 6)) = (J_ht (σ.1 3) (σ.2.1 2) (σ.2.1 3) (σ.2.1 5) (σ.2.1 6)) from by rw [w3_τ_67, g2_τ_67, g3_τ_67, g5_τ_67, g6_τ_67]]; exact HT
      have NL : J_nl (τ_67.1 3) (τ_67.2.1 2) (τ_67.2.1 3) (τ_67.2.1 4) := by rw [show (J_nl (τ_67.1 3) (τ_67.2.1 2) (τ_67.2.1 3) (τ_67.2.1 4)) = (J_nl (σ.1 3) (σ.2.1 2) (σ.2.1 3) (σ.2.1 4)) from by rw [w3_τ_67, g2_τ_67, g3_τ_67, g4_τ_67]]; exact NL
      have MN : J_mn (τ_67.1 3) (τ_67.1 5) ((τ_67.1 7) + 1) (τ_67.2.1 4) := by rw [show (J_mn (τ_67.1 3) (τ_67.1 5) ((τ_67.1 7) + 1) (τ_67.2.1 4)) = (J_mn (σ.1 3) (σ.1 5) ((σ.1 7) + 1) (σ.2.1 4)) from by rw [w3_τ_67, w5_τ_67, w7_τ_67, g4_τ_67]]; exact MN
      have VA : J_va (τ_67.1 8) 1000 (τ_67.2.1 18) (τ_67.2.1 20) := by rw [show (J_va (τ_67.1 8) 1000 (τ_67.2.1 18) (τ_67.2.1 20)) = (J_va (σ.1 8) 1000 (σ.2.1 18) (σ.2.1 20)) from by rw [w8_τ_67, g18_τ_67, g20_τ_67]]; exact VA
      have MK : J_mk (τ_67.1 11) (τ_67.1 8) (τ_67.1 9) (τ_67.1 10) (τ_67.2.1 25) := by rw [show (J_mk (τ_67.1 11) (τ_67.1 8) (τ_67.1 9) (τ_67.1 10) (τ_67.2.1 25)) = (J_mk (σ.1 11) (σ.1 8) (σ.1 9) (σ.1 10) (σ.2.1 25)) from by rw [w8_τ_67, w9_τ_67, w10_τ_67, w11_τ_67, g25_τ_67]]; exact MK
      have FF : J_ff (τ_67.1 5) (τ_67.1 7) (τ_67.2.1 9) (τ_67.2.1 13) (τ_67.2.1 14) (τ_67.2.1 15) := by rw [show (J_ff (τ_67.1 5) (τ_67.1 7) (τ_67.2.1 9) (τ_67.2.1 13) (τ_67.2.1 14) (τ_67.2.1 15)) = (J_ff (σ.1 5) (σ.1 7) (σ.2.1 9) (σ.2.1 13) (σ.2.1 14) (σ.2.1 15)) from by rw [w5_τ_67, w7_τ_67, g9_τ_67, g13_τ_67, g14_τ_67, g15_τ_67]]; exact FF
      have VS : J_vs (τ_67.1 8) (τ_67.1 5) (τ_67.2.1 20) := by rw [show (J_vs (τ_67.1 8) (τ_67.1 5) (τ_67.2.1 20)) = (J_vs (σ.1 8) (σ.1 5) (σ.2.1 20)) from by rw [w5_τ_67, w8_τ_67, g20_τ_67]]; exact VS
      have TX : J_vs (τ_67.1 6) (τ_67.1 5) (τ_67.2.1 15) := by rw [show (J_vs (τ_67.1 6) (τ_67.1 5) (τ_67.2.1 15)) = (J_vs (σ.1 6) (σ.1 5) (σ.2.1 15)) from by rw [w5_τ_67, w6_τ_67, g15_τ_67]]; exact TX
      have RKS : J_rks (τ_67.1 5) (τ_67.1 4) (τ_67.2.1 10) (τ_67.2.1 11) := by rw [show (J_rks (τ_67.1 5) (τ_67.1 4) (τ_67.2.1 10) (τ_67.2.1 11)) = (J_rks (σ.1 5) (σ.1 4) (σ.2.1 10) (σ.2.1 11)) from by rw [w4_τ_67, w5_τ_67, g10_τ_67, g11_τ_67]]; exact RKS
      have A2 : ∀ j, 0 ≤ τ_67.2.1 2 j ∧ τ_67.2.1 2 j ≤ 65535 := fun j => hT.2 2 j
      have A3 : ∀ j, 0 ≤ τ_67.2.1 3 j ∧ τ_67.2.1 3 j ≤ 30000 := fun j => hT.2 3 j
      have A4 : ∀ j, (-1000) ≤ τ_67.2.1 4 j ∧ τ_67.2.1 4 j ≤ 1499 := fun j => hT.2 4 j
      have A5 : ∀ j, 0 ≤ τ_67.2.1 5 j ∧ τ_67.2.1 5 j ≤ 2500 := fun j => hT.2 5 j
      have A6 : ∀ j, 0 ≤ τ_67.2.1 6 j ∧ τ_67.2.1 6 j ≤ 2500 := fun j => hT.2 6 j
      have A8 : ∀ j, 0 ≤ τ_67.2.1 8 j ∧ τ_67.2.1 8 j ≤ 1 := fun j => hT.2 8 j
      have A9 : ∀ j, (-1) ≤ τ_67.2.1 9 j ∧ τ_67.2.1 9 j ≤ 1499 := fun j => hT.2 9 j
      have A10 : ∀ j, (-1) ≤ τ_67.2.1 10 j ∧ τ_67.2.1 10 j ≤ 99 := fun j => hT.2 10 j
      have A11 : ∀ j, 0 ≤ τ_67.2.1 11 j ∧ τ_67.2.1 11 j ≤ 999 := fun j => hT.2 11 j
      have A13 : ∀ j, 0 ≤ τ_67.2.1 13 j ∧ τ_67.2.1 13 j ≤ 4 := fun j => hT.2 13 j
      have A14 : ∀ j, 0 ≤ τ_67.2.1 14 j ∧ τ_67.2.1 14 j ≤ 30000 := fun j => hT.2 14 j
      have A15 : ∀ j, 0 ≤ τ_67.2.1 15 j ∧ τ_67.2.1 15 j ≤ 999 := fun j => hT.2 15 j
      have A18 : ∀ j, 0 ≤ τ_67.2.1 18 j ∧ τ_67.2.1 18 j ≤ 1 := fun j => hT.2 18 j
      have A20 : ∀ j, 0 ≤ τ_67.2.1 20 j ∧ τ_67.2.1 20 j ≤ 999 := fun j => hT.2 20 j
      have A22 : ∀ j, 0 ≤ τ_67.2.1 22 j ∧ τ_67.2.1 22 j ≤ 1499 := fun j => hT.2 22 j
      have v3 : 0 ≤ τ_67.1 3 ∧ τ_67.1 3 ≤ 2500 := hT.1 3
      have v4 : 0 ≤ τ_67.1 4 ∧ τ_67.1 4 ≤ 100 := hT.1 4
      have v5 : 0 ≤ τ_67.1 5 ∧ τ_67.1 5 ≤ 1000 := hT.1 5
      have v6 : 0 ≤ τ_67.1 6 ∧ τ_67.1 6 ≤ 30000 := hT.1 6
      have v7 : 0 ≤ τ_67.1 7 ∧ τ_67.1 7 ≤ 1500 := hT.1 7
      have v8 : 0 ≤ τ_67.1 8 ∧ τ_67.1 8 ≤ 1000 := hT.1 8
      have v9 : 0 ≤ τ_67.1 9 ∧ τ_67.1 9 ≤ 1500 := hT.1 9
      have v10 : 0 ≤ τ_67.1 10 ∧ τ_67.1 10 ≤ 1000 := hT.1 10
      have v11 : 0 ≤ τ_67.1 11 ∧ τ_67.1 11 ≤ 50 := hT.1 11
      have v13 : 0 ≤ τ_67.1 13 ∧ τ_67.1 13 ≤ 90000 := hT.1 13
      have v14 : 0 ≤ τ_67.1 14 ∧ τ_67.1 14 ≤ 20000 := hT.1 14
      have v15 : 0 ≤ τ_67.1 15 ∧ τ_67.1 15 ≤ 20000 := hT.1 15
      have v16 : 0 ≤ τ_67.1 16 ∧ τ_67.1 16 ≤ 20000 := hT.1 16
      have v36 : 0 ≤ τ_67.1 36 ∧ τ_67.1 36 ≤ 1001 := hT.1 36
      have v38 : (-1) ≤ τ_67.1 38 ∧ τ_67.1 38 ≤ 999 := hT.1 38
      have v39 : (-1) ≤ τ_67.1 39 ∧ τ_67.1 39 ≤ 1499 := hT.1 39
      have v66 : 0 ≤ τ_67.1 66 ∧ τ_67.1 66 ≤ 1 := hT.1 66
      have a3_3 : 0 ≤ τ_67.2.1 3 (τ_67.1 3) ∧ τ_67.2.1 3 (τ_67.1 3) ≤ 30000 := hT.2 3 _
      have av3 : σ.1 3 ≤ τ_67.1 3 := ag.1 3 (by decide)
      have av5 : σ.1 5 ≤ τ_67.1 5 := ag.1 5 (by decide)
      refine h67 _ _ ?_
      have hs : ∀ n : Int, 0 ≤ n → n < τ_67.1 8 → ¬ τ_67.2.1 20 n = (σ.1 38) := by intro n h0 h1 z; first | (have w := VA_0.2 n h0 (by omega); rw [g20_τ_67] at z; rw [z] at w; exact q3_4 (by omega) (Or.inr w.1) c6) | (rw [g20_τ14] at z; have := VS_0 n h0 (by omega); omega)
      have hv := j_in_lt VA.1 (show 0 ≤ (σ.1 38) from by omega) (by omega) hs (by omega)
      refine ⟨_, K2_X9_addVariable hT (show 0 ≤ (σ.1 38) from by (first | omega | (simp only [st_s] <;> omega) | assumption | omega | fail)) (show (σ.1 38) < 1000 from by (first | omega | (simp only [st_s] <;> omega) | assumption | omega | fail)) (show (τ_67.1 8) < 1000 from by (first | omega | (simp only [st_s] <;> omega) | assumption | omega | fail)) (show J_va (τ_67.1 8) 1000 (τ_67.2.1 18) (τ_67.2.1 20) from VA) (show J_mk (τ_67.1 11) (τ_67.1 8) (τ_67.1 9) (τ_67.1 10) (τ_67.2.1 25) from MK) (show ∀ n : Int, 0 ≤ n → n < (τ_67.1 8) → ¬ τ_67.2.1 20 n = (σ.1 38) from by exact hs), ?_⟩
      intro τ17 hn_τ17 hf_τ17 hq
      obtain ⟨hT, q15_1, q15_2, q15_3, q15_4, q15_5⟩ := hq
      replace q15_1 : (τ17.1 8) = (τ_67.1 8) + 1 := q15_1
      replace q15_2 : τ17.2.1 18 = st (τ_67.2.1 18) (σ.1 38) 1 := q15_2
      replace q15_3 : τ17.2.1 20 = st (τ_67.2.1 20) ((τ_67.1 8)) (σ.1 38) := q15_3
      replace q15_4 : J_va (τ17.1 8) 1000 (τ17.2.1 18) (τ17.2.1 20) := q15_4
      replace q15_5 : J_mk (τ17.1 11) (τ17.1 8) (τ17.1 9) (τ17.1 10) (τ17.2.1 25) := q15_5
      replace ag : c_ag σ τ17 := ag_r ag hf_τ17 rfl rfl
      have w3_τ17 : τ17.1 3 = τ_67.1 3 := hf_τ17.1 3 (by decide)
      have w4_τ17 : τ17.1 4 = τ_67.1 4 := hf_τ17.1 4 (by decide)
      have w5_τ17 : τ17.1 5 = τ_67.1 5 := hf_τ17.1 5 (by decide)
      have w6_τ17 : τ17.1 6 = τ_67.1 6 := hf_τ17.1 6 (by decide)
      have w7_τ17 : τ17.1 7 = τ_67.1 7 := hf_τ17.1 7 (by decide)
      have w9_τ17 : τ17.1 9 = τ_67.1 9 := hf_τ17.1 9 (by decide)
      have w10_τ17 : τ17.1 10 = τ_67.1 10 := hf_τ17.1 10 (by decide)
      have w11_τ17 : τ17.1 11 = τ_67.1 11 := hf_τ17.1 11 (by decide)
      have w13_τ17 : τ17.1 13 = τ_67.1 13 := hf_τ17.1 13 (by decide)
      have w14_τ17 : τ17.1 14 = τ_67.1 14 := hf_τ17.1 14 (by decide)
      have w15_τ17 : τ17.1 15 = τ_67.1 15 := hf_τ17.1 15 (by decide)
      have w16_τ17 : τ17.1 16 = τ_67.1 16 := hf_τ17.1 16 (by decide)
      have w36_τ17 : τ17.1 36 = τ_67.1 36 := hf_τ17.1 36 (by decide)
      have w38_τ17 : τ17.1 38 = τ_67.1 38 := hf_τ17.1 38 (by decide)
      have w39_τ17 : τ17.1 39 = τ_67.1 39 := hf_τ17.1 39 (by decide)
      have w66_τ17 : τ17.1 66 = τ_67.1 66 := hf_τ17.1 66 (by decide)
      have g2_τ17 : τ17.2.1 2 = τ_67.2.1 2 := hf_τ17.2.1 2 (by decide)
      have g3_τ17 : τ17.2.1 3 = τ_67.2.1 3 := hf_τ17.2.1 3 (by decide)
      have g4_τ17 : τ17.2.1 4 = τ_67.2.1 4 := hf_τ17.2.1 4 (by decide)
      have g5_τ17 : τ17.2.1 5 = τ_67.2.1 5 := hf_τ17.2.1 5 (by decide)
      have g6_τ17 : τ17.2.1 6 = τ_67.2.1 6 := hf_τ17.2.1 6 (by decide)
      have g8_τ17 : τ17.2.1 8 = τ_67.2.1 8 := hf_τ17.2.1 8 (by decide)
      have g9_τ17 : τ17.2.1 9 = τ_67.2.1 9 := hf_τ17.2.1 9 (by decide)
      have g10_τ17 : τ17.2.1 10 = τ_67.2.1 10 := hf_τ17.2.1 10 (by decide)
      have g11_τ17 : τ17.2.1 11 = τ_67.2.1 11 := hf_τ17.2.1 11 (by decide)
      have g13_τ17 : τ17.2.1 13 = τ_67.2.1 13 := hf_τ17.2.1 13 (by decide)
      have g14_τ17 : τ17.2.1 14 = τ_67.2.1 14 := hf_τ17.2.1 14 (by decide)
      have g15_τ17 : τ17.2.1 15 = τ_67.2.1 15 := hf_τ17.2.1 15 (by decide)
      have g22_τ17 : τ17.2.1 22 = τ_67.2.1 22 := hf_τ17.2.1 22 (by decide)
      have g25_τ17 : τ17.2.1 25 = τ_67.2.1 25 := hf_τ17.2.1 25 (by decide)
      have W4 : τ17.1 4 = σ.1 4 := by first | exact w4_τ17.trans W4 | omega
      have W6 : τ17.1 6 = σ.1 6 := by first | exact w6_τ17.trans W6 | omega
      have W7 : τ17.1 7 = σ.1 7 := by first | exact w7_τ17.trans W7 | omega
      have W9 : τ17.1 9 = σ.1 9 := by first | exact w9_τ17.trans W9 | omega
      have W10 : τ17.1 10 = σ.1 10 := by first | exact w10_τ17.trans W10 | omega
      have W11 : τ17.1 11 = σ.1 11 := by first | exact w11_τ17.trans W11 | omega
      have W13 : τ17.1 13 = σ.1 13 := by first | exact w13_τ17.trans W13 | omega
      have W14 : τ17.1 14 = σ.1 14 := by first | exact w14_τ17.trans W14 | omega
      have W15 : τ17.1 15 = σ.1 15 := by first | exact w15_τ17.trans W15 | omega
      have W16 : τ17.1 16 = σ.1 16 := by first | exact w16_τ17.trans W16 | omega
      have W38 : τ17.1 38 = σ.1 38 := by first | exact w38_τ17.trans W38 | omega
      have W39 : τ17.1 39 = σ.1 39 := by first | exact w39_τ17.trans W39 | omega
      have W66 : τ17.1 66 = σ.1 66 := by first | exact w66_τ17.trans W66 | omega
      have G11 : τ17.2.1 11 = σ.2.1 11 := (g11_τ17).trans G11
      have G13 : τ17.2.1 13 = σ.2.1 13 := (g13_τ17).trans G13
      have G14 : τ17.2.1 14 = σ.2.1 14 := (g14_τ17).trans G14
      have G15 : τ17.2.1 15 = σ.2.1 15 := (g15_τ17).trans G15
      have G22 : τ17.2.1 22 = σ.2.1 22 := (g22_τ17).trans G22
      have G25 : τ17.2.1 25 = σ.2.1 25 := (g25_τ17).trans G25
      have y3_3_τ17 : τ17.2.1 3 (τ17.1 3) = (τ_67.2.1 3) (τ_67.1 3) := by rw [g3_τ17, w3_τ17]
      have HT : J_ht (τ17.1 3) (τ17.2.1 2) (τ17.2.1 3) (τ17.2.1 5) (τ17.2.1 6) := by rw [show (J_ht (τ17.1 3) (τ17.2.1 2) (τ17.2.1 3) (τ17.2.1 5) (τ17.2.1 6)) = (J_ht (τ_67.1 3) (τ_67.2.1 2) (τ_67.2.1 3) (τ_67.2.1 5) (τ_67.2.1 6)) from by rw [w3_τ17, g2_τ17, g3_τ17, g5_τ17, g6_τ17]]; exact HT
      have NL : J_nl (τ17.1 3) (τ17.2.1 2) (τ17.2.1 3) (τ17.2.1 4) := by rw [show (J_nl (τ17.1 3) (τ17.2.1 2) (τ17.2.1 3) (τ17.2.1 4)) = (J_nl (τ_67.1 3) (τ_67.2.1 2) (τ_67.2.1 3) (τ_67.2.1 4)) from by rw [w3_τ17, g2_τ17, g3_τ17, g4_τ17]]; exact NL
      have MN : J_mn (τ17.1 3) (τ17.1 5) ((τ17.1 7) + 1) (τ17.2.1 4) := by rw [show (J_mn (τ17.1 3) (τ17.1 5) ((τ17.1 7) + 1) (τ17.2.1 4)) = (J_mn (τ_67.1 3) (τ_67.1 5) ((τ_67.1 7) + 1) (τ_67.2.1 4)) from by rw [w3_τ17, w5_τ17, w7_τ17, g4_τ17]]; exact MN
      have VA : J_va (τ17.1 8) 1000 (τ17.2.1 18) (τ17.2.1 20) := q15_4
      have MK : J_mk (τ17.1 11) (τ17.1 8) (τ17.1 9) (τ17.1 10) (τ17.2.1 25) := q15_5
      have FF : J_ff (τ17.1 5) (τ17.1 7) (τ17.2.1 9) (τ17.2.1 13) (τ17.2.1 14) (τ17.2.1 15) := by rw [show (J_ff (τ17.1 5) (τ17.1 7) (τ17.2.1 9) (τ17.2.1 13) (τ17.2.1 14) (τ17.2.1 15)) = (J_ff (τ_67.1 5) (τ_67.1 7) (τ_67.2.1 9) (τ_67.2.1 13) (τ_67.2.1 14) (τ_67.2.1 15)) from by rw [w5_τ17, w7_τ17, g9_τ17, g13_τ17, g14_τ17, g15_τ17]]; exact FF
      have TX : J_vs (τ17.1 6) (τ17.1 5) (τ17.2.1 15) := by rw [show (J_vs (τ17.1 6) (τ17.1 5) (τ17.2.1 15)) = (J_vs (τ_67.1 6) (τ_67.1 5) (τ_67.2.1 15)) from by rw [w5_τ17, w6_τ17, g15_τ17]]; exact TX
      have RKS : J_rks (τ17.1 5) (τ17.1 4) (τ17.2.1 10) (τ17.2.1 11) := by rw [show (J_rks (τ17.1 5) (τ17.1 4) (τ17.2.1 10) (τ17.2.1 11)) = (J_rks (τ_67.1 5) (τ_67.1 4) (τ_67.2.1 10) (τ_67.2.1 11)) from by rw [w4_τ17, w5_τ17, g10_τ17, g11_τ17]]; exact RKS
      have A2 : ∀ j, 0 ≤ τ17.2.1 2 j ∧ τ17.2.1 2 j ≤ 65535 := fun j => hT.2 2 j
      have A3 : ∀ j, 0 ≤ τ17.2.1 3 j ∧ τ17.2.1 3 j ≤ 30000 := fun j => hT.2 3 j
      have A4 : ∀ j, (-1000) ≤ τ17.2.1 4 j ∧ τ17.2.1 4 j ≤ 1499 := fun j => hT.2 4 j
      have A5 : ∀ j, 0 ≤ τ17.2.1 5 j ∧ τ17.2.1 5 j ≤ 2500 := fun j => hT.2 5 j
      have A6 : ∀ j, 0 ≤ τ17.2.1 6 j ∧ τ17.2.1 6 j ≤ 2500 := fun j => hT.2 6 j
      have A8 : ∀ j, 0 ≤ τ17.2.1 8 j ∧ τ17.2.1 8 j ≤ 1 := fun j => hT.2 8 j
      have A9 : ∀ j, (-1) ≤ τ17.2.1 9 j ∧ τ17.2.1 9 j ≤ 1499 := fun j => hT.2 9 j
      have A10 : ∀ j, (-1) ≤ τ17.2.1 10 j ∧ τ17.2.1 10 j ≤ 99 := fun j => hT.2 10 j
      have A11 : ∀ j, 0 ≤ τ17.2.1 11 j ∧ τ17.2.1 11 j ≤ 999 := fun j => hT.2 11 j
      have A13 : ∀ j, 0 ≤ τ17.2.1 13 j ∧ τ17.2.1 13 j ≤ 4 := fun j => hT.2 13 j
      have A14 : ∀ j, 0 ≤ τ17.2.1 14 j ∧ τ17.2.1 14 j ≤ 30000 := fun j => hT.2 14 j
      have A15 : ∀ j, 0 ≤ τ17.2.1 15 j ∧ τ17.2.1 15 j ≤ 999 := fun j => hT.2 15 j
      have A18 : ∀ j, 0 ≤ τ17.2.1 18 j ∧ τ17.2.1 18 j ≤ 1 := fun j => hT.2 18 j
      have A20 : ∀ j, 0 ≤ τ17.2.1 20 j ∧ τ17.2.1 20 j ≤ 999 := fun j => hT.2 20 j
      have A22 : ∀ j, 0 ≤ τ17.2.1 22 j ∧ τ17.2.1 22 j ≤ 1499 := fun j => hT.2 22 j
      have v3 : 0 ≤ τ17.1 3 ∧ τ17.1 3 ≤ 2500 := hT.1 3
      have v4 : 0 ≤ τ17.1 4 ∧ τ17.1 4 ≤ 100 := hT.1 4
      have v5 : 0 ≤ τ17.1 5 ∧ τ17.1 5 ≤ 1000 := hT.1 5
      have v6 : 0 ≤ τ17.1 6 ∧ τ17.1 6 ≤ 30000 := hT.1 6
      have v7 : 0 ≤ τ17.1 7 ∧ τ17.1 7 ≤ 1500 := hT.1 7
      have v8 : 0 ≤ τ17.1 8 ∧ τ17.1 8 ≤ 1000 := hT.1 8
      have v9 : 0 ≤ τ17.1 9 ∧ τ17.1 9 ≤ 1500 := hT.1 9
      have v10 : 0 ≤ τ17.1 10 ∧ τ17.1 10 ≤ 1000 := hT.1 10
      have v11 : 0 ≤ τ17.1 11 ∧ τ17.1 11 ≤ 50 := hT.1 11
      have v13 : 0 ≤ τ17.1 13 ∧ τ17.1 13 ≤ 90000 := hT.1 13
      have v14 : 0 ≤ τ17.1 14 ∧ τ17.1 14 ≤ 20000 := hT.1 14
      have v15 : 0 ≤ τ17.1 15 ∧ τ17.1 15 ≤ 20000 := hT.1 15
      have v16 : 0 ≤ τ17.1 16 ∧ τ17.1 16 ≤ 20000 := hT.1 16
      have v36 : 0 ≤ τ17.1 36 ∧ τ17.1 36 ≤ 1001 := hT.1 36
      have v38 : (-1) ≤ τ17.1 38 ∧ τ17.1 38 ≤ 999 := hT.1 38
      have v39 : (-1) ≤ τ17.1 39 ∧ τ17.1 39 ≤ 1499 := hT.1 39
      have v66 : 0 ≤ τ17.1 66 ∧ τ17.1 66 ≤ 1 := hT.1 66
      have a3_3 : 0 ≤ τ17.2.1 3 (τ17.1 3) ∧ τ17.2.1 3 (τ17.1 3) ≤ 30000 := hT.2 3 _
      have av3 : σ.1 3 ≤ τ17.1 3 := ag.1 3 (by decide)
      have av5 : σ.1 5 ≤ τ17.1 5 := ag.1 5 (by decide)
      have VS : J_vs (τ17.1 8) (τ17.1 5) (τ17.2.1 20) := by rw [q15_1, q15_3, w5_τ17]; exact J_vs_a VS (Int.le_refl _) (by omega)
      exact ⟨hT, (show 0 ≤ 0 ∧ 0 ≤ 19 from by (first | omega | (simp only [st_s] <;> omega) | assumption | omega | fail)), (show J_ht (τ17.1 3) (τ17.2.1 2) (τ17.2.1 3) (τ17.2.1 5) (τ17.2.1 6) from HT), (show J_mn (τ17.1 3) (τ17.1 5) ((τ17.1 7) + 1) (τ17.2.1 4) from MN), (show J_vs (τ17.1 8) (τ17.1 5) (τ17.2.1 20) from VS), (show J_vs (τ17.1 6) (τ17.1 5) (τ17.2.1 15) from TX), (show J_va (τ17.1 8) 1000 (τ17.2.1 18) (τ17.2.1 20) from VA), (show J_mk (τ17.1 11) (τ17.1 8) (τ17.1 9) (τ17.1 10) (τ17.2.1 25) from MK), (show J_rks (τ17.1 5) (τ17.1 4) (τ17.2.1 10) (τ17.2.1 11) from RKS), (show J_ff (τ17.1 5) (τ17.1 7) (τ17.2.1 9) (τ17.2.1 13) (τ17.2.1 14) (τ17.2.1 15) from FF), (show j_rr ((σ.1 5)) (σ.2.1 10) (τ17.2.1 10) from by (first | exact j_rr0 _ _ | (rw [g10_τ17, g10_τ_67]; exact j_rr0 _ _) | (rw [g10_τ17]; exact RR0) | fail)), (show 0 = 0 → (τ17.1 36) = (σ.1 36) + 1 ∧ (τ17.1 8) = (σ.1 8) + 1 from by (first | omega | (simp only [st_s] <;> omega) | assumption | omega | fail)), (show c_Y σ τ17 from by (first | exact c_Y0 _ | exact c_Y_g (by omega) rfl rfl rfl rfl | exact ⟨⟨by first | (rw [q15_3, g20_τ_67]; exact j_eqs (j_eq0 _ _) (by omega)) | (rw [q15_3, g20_τ14]; exact j_eqs (j_eq0 _ _) (by omega)), by rw [G22]; exact j_eq0 _ _, by rw [G11]; exact j_eq0 _ _, by omega⟩, by rw [G25], by rw [G25], by rw [G25]⟩ | fail)), (show J_nl (τ17.1 3) (τ17.2.1 2) (τ17.2.1 3) (τ17.2.1 4) from NL), (show j_nm σ τ17 from by (first | exact j_nm0 _ | exact (show j_nm σ τ17 from j_nm_h hf_τ17 rfl) | exact (show j_nm σ τ17 from j_nm_t q12_10 (j_nm_h hf_τ17 rfl)) | exact (show j_nm σ τ17 from j_nm_t (j_nm_c (j_nm0 σ) w3_τ_67 w5_τ_67 g2_τ_67 g3_τ_67 g4_τ_67) (j_nm_h hf_τ17 rfl)) | exact (show j_nm σ τ17 from j_nm_t (j_nm_c q12_10 w3_τ_67 w5_τ_67 g2_τ_67 g3_τ_67 g4_τ_67) (j_nm_h hf_τ17 rfl)) | fail)), ag⟩
    ·
      exact ⟨hT, (show 0 ≤ 7 ∧ 7 ≤ 19 from by (first | omega | (simp only [st_s] <;> omega) | assumption | omega | fail)), (show J_ht (σ.1 3) (σ.2.1 2) (σ.2.1 3) (σ.2.1 5) (σ.2.1 6) from HT), (show J_mn (σ.1 3) (σ.1 5) ((σ.1 7) + 1) (σ.2.1 4) from MN), (show J_vs (σ.1 8) (σ.1 5) (σ.2.1 20) from VS), (show J_vs (σ.1 6) (σ.1 5) (σ.2.1 15) from TX), (show J_va (σ.1 8) 1000 (σ.2.1 18) (σ.2.1 20) from VA), (show J_mk (σ.1 11) (σ.1 8) (σ.1 9) (σ.1 10) (σ.2.1 25) from MK), (show J_rks (σ.1 5) (σ.1 4) (σ.2.1 10) (σ.2.1 11) from RKS), (show J_ff (σ.1 5) (σ.1 7) (σ.2.1 9) (σ.2.1 13) (σ.2.1 14) (σ.2.1 15) from FF), (show j_rr ((σ.1 5)) (σ.2.1 10) (σ.2.1 10) from by (first | exact j_rr0 _ _ | (rw [g10_τ17, g10_τ_67]; exact j_rr0 _ _) | (rw [g10_τ17]; exact RR0) | fail)), (show 7 = 0 → ((σ.1 36 + 1)) = (σ.1 36) + 1 ∧ (σ.1 8) = (σ.1 8) + 1 from by (first | omega | (simp only [st_s] <;> omega) | assumption | omega | fail)), (show c_Y σ (s_v σ 36 (σ.1 36 + 1)) from by (first | exact c_Y0 _ | exact c_Y_g (by omega) rfl rfl rfl rfl | exact ⟨⟨by first | (rw [q15_3, g20_τ_67]; exact j_eqs (j_eq0 _ _) (by omega)) | (rw [q15_3, g20_τ14]; exact j_eqs (j_eq0 _ _) (by omega)), by rw [G22]; exact j_eq0 _ _, by rw [G11]; exact j_eq0 _ _, by omega⟩, by rw [G25], by rw [G25], by rw [G25]⟩ | fail)), (show J_nl (σ.1 3) (σ.2.1 2) (σ.2.1 3) (σ.2.1 4) from NL), (show j_nm σ (s_v σ 36 (σ.1 36 + 1)) from by (first | exact j_nm0 _ | exact (show j_nm σ τ17 from j_nm_h hf_τ17 rfl) | exact (show j_nm σ τ17 from j_nm_t q12_10 (j_nm_h hf_τ17 rfl)) | exact (show j_nm σ τ17 from j_nm_t (j_nm_c (j_nm0 σ) w3_τ_67 w5_τ_67 g2_τ_67 g3_τ_67 g4_τ_67) (j_nm_h hf_τ17 rfl)) | exact (show j_nm σ τ17 from j_nm_t (j_nm_c q12_10 w3_τ_67 w5_τ_67 g2_τ_67 g3_τ_67 g4_τ_67) (j_nm_h hf_τ17 rfl)) | fail)), ag⟩
  ·
    refine ⟨_, K2_X7_faultOfNewSymbol hT (show 0 ≤ n2 from by (first | omega | (simp only [st_s] <;> omega) | assumption | omega | fail)) (show n2 ≤ 60000 from by (first | omega | (simp only [st_s] <;> omega) | assumption | omega | fail)), ?_⟩
    intro x8 r_x8 hq
    obtain ⟨q7_1, q7_2⟩ := hq
    replace q7_1 : 0 ≤ x8 ∧ x8 ≤ 19 := q7_1
    replace q7_2 : x8 = 0 → (σ.1 5) < 1000 ∧ n2 ≤ 60 ∧ σ.2.1 3 (σ.1 3) + n2 ≤ 30000 ∧ (σ.1 3) < 2500 ∧ (σ.1 39) = -1 := q7_2
    refine ⟨fun c10 => ?_, fun c10 => ?_⟩
    ·
      refine ⟨(show ¬ σ.1 66 = 0 from by (first | omega | (simp only [st_s] <;> omega) | assumption | omega | fail)), ?_⟩
      refine ⟨_, K2_X3_addSymbol_q13 hT (show 0 ≤ n1 from by (first | omega | (simp only [st_s] <;> omega) | assumption | omega | fail)) (show 0 ≤ n2 from by (first | omega | (simp only [st_s] <;> omega) | assumption | omega | fail)) (show n2 ≤ 60 from by (first | omega | (simp only [st_s] <;> omega) | assumption | omega | fail)) (show n1 + n2 ≤ 60000 from by (first | omega | (simp only [st_s] <;> omega) | assumption | omega | fail)) (show 0 ≤ (1 : Int) from by (first | omega | (simp only [st_s] <;> omega) | assumption | omega | fail)) (show (1 : Int) ≤ 1 from by (first | omega | (simp only [st_s] <;> omega) | assumption | omega | fail)) (show σ.2.1 3 (σ.1 3) + n2 ≤ 30000 from by (first | omega | (simp only [st_s] <;> omega) | assumption | omega | fail)) (show (σ.1 3) < 2500 from by (first | omega | (simp only [st_s] <;> omega) | assumption | omega | fail)) (show (σ.1 5) < 1000 from by (first | omega | (simp only [st_s] <;> omega) | assumption | omega | fail)) (show J_ht (σ.1 3) (σ.2.1 2) (σ.2.1 3) (σ.2.1 5) (σ.2.1 6) from HT) (show J_mn (σ.1 3) (σ.1 5) ((σ.1 7) + 1) (σ.2.1 4) from MN) (show J_nl (σ.1 3) (σ.2.1 2) (σ.2.1 3) (σ.2.1 4) from NL) (show ∀ n : Int, 0 ≤ n → n < (σ.1 3) → ¬ c_eq (σ.2.1 2) (σ.2.1 3) n (σ.2.1 0) n1 n2 from by exact p16 (by omega) (by omega)), ?_⟩
      intro x13 τ14 r_x13 hn_τ14 hf_τ14 hq
      obtain ⟨hT, q12_1, q12_2, q12_3, q12_4, q12_5, q12_6, q12_7, q12_8, q12_9, q12_10, q12_11⟩ := hq
      replace q12_1 : x13 = (σ.1 5) := q12_1
      replace q12_2 : (τ14.1 5) = (σ.1 5) + 1 := q12_2
      replace q12_3 : τ14.2.1 8 = st (σ.2.1 8) (σ.1 5) (1 : Int) := q12_3
      replace q12_4 : τ14.2.1 10 = st (σ.2.1 10) (σ.1 5) (-1) := q12_4
      replace q12_5 : τ14.2.1 9 = st (σ.2.1 9) (σ.1 5) (-1) := q12_5
      replace q12_6 : (τ14.1 3) = (σ.1 3) + 1 := q12_6
      replace q12_7 : J_ht (τ14.1 3) (τ14.2.1 2) (τ14.2.1 3) (τ14.2.1 5) (τ14.2.1 6) := q12_7
      replace q12_8 : J_mn (τ14.1 3) (τ14.1 5) ((τ14.1 7) + 1) (τ14.2.1 4) := q12_8
      replace q12_9 : J_nl (τ14.1 3) (τ14.2.1 2) (τ14.2.1 3) (τ14.2.1 4) := q12_9
      replace q12_10 : j_nm (s_v σ 36 (σ.1 36 + 1)) τ14 := q12_10
      replace q12_11 : c_ag (s_v σ 36 (σ.1 36 + 1)) τ14 := q12_11
      replace ag : c_ag σ τ14 := ag_t ag q12_11 rfl
      have w4_τ14 : τ14.1 4 = σ.1 4 := hf_τ14.1 4 (by decide)
      have w6_τ14 : τ14.1 6 = σ.1 6 := hf_τ14.1 6 (by decide)
      have w7_τ14 : τ14.1 7 = σ.1 7 := hf_τ14.1 7 (by decide)
      have w8_τ14 : τ14.1 8 = σ.1 8 := hf_τ14.1 8 (by decide)
      have w9_τ14 : τ14.1 9 = σ.1 9 := hf_τ14.1 9 (by decide)
      have w10_τ14 : τ14.1 10 = σ.1 10 := hf_τ14.1 10 (by decide)
      have w11_τ14 : τ14.1 11 = σ.1 11 := hf_τ14.1 11 (by decide)
      have w13_τ14 : τ14.1 13 = σ.1 13 := hf_τ14.1 13 (by decide)
      have w14_τ14 : τ14.1 14 = σ.1 14 := hf_τ14.1 14 (by decide)
      have w15_τ14 : τ14.1 15 = σ.1 15 := hf_τ14.1 15 (by decide)
      have w16_τ14 : τ14.1 16 = σ.1 16 := hf_τ14.1 16 (by decide)
      have w36_τ14 : τ14.1 36 = (σ.1 36 + 1) := hf_τ14.1 36 (by decide)
      have w38_τ14 : τ14.1 38 = σ.1 38 := hf_τ14.1 38 (by decide)
      have w39_τ14 : τ14.1 39 = σ.1 39 := hf_τ14.1 39 (by decide)
      have w66_τ14 : τ14.1 66 = σ.1 66 := hf_τ14.1 66 (by decide)
      have g11_τ14 : τ14.2.1 11 = σ.2.1 11 := hf_τ14.2.1 11 (by decide)
      have g13_τ14 : τ14.2.1 13 = σ.2.1 13 := hf_τ14.2.1 13 (by decide)
      have g14_τ14 : τ14.2.1 14 = σ.2.1 14 := hf_τ14.2.1 14 (by decide)
      have g15_τ14 : τ14.2.1 15 = σ.2.1 15 := hf_τ14.2.1 15 (by decide)
      have g18_τ14 : τ14.2.1 18 = σ.2.1 18 := hf_τ14.2.1 18 (by decide)
      have g20_τ14 : τ14.2.1 20 = σ.2.1 20 := hf_τ14.2.1 20 (by decide)
      have g22_τ14 : τ14.2.1 22 = σ.2.1 22 := hf_τ14.2.1 22 (by decide)
      have g25_τ14 : τ14.2.1 25 = σ.2.1 25 := hf_τ14.2.1 25 (by decide)
      have W4 : τ14.1 4 = σ.1 4 := by first | exact w4_τ14.trans W4 | omega
      have W6 : τ14.1 6 = σ.1 6 := by first | exact w6_τ14.trans W6 | omega
      have W7 : τ14.1 7 = σ.1 7 := by first | exact w7_τ14.trans W7 | omega
      have W9 : τ14.1 9 = σ.1 9 := by first | exact w9_τ14.trans W9 | omega
      have W10 : τ14.1 10 = σ.1 10 := by first | exact w10_τ14.trans W10 | omega
      have W11 : τ14.1 11 = σ.1 11 := by first | exact w11_τ14.trans W11 | omega
      have W13 : τ14.1 13 = σ.1 13 := by first | exact w13_τ14.trans W13 | omega
      have W14 : τ14.1 14 = σ.1 14 := by first | exact w14_τ14.trans W14 | omega
      have W15 : τ14.1 15 = σ.1 15 := by first | exact w15_τ14.trans W15 | omega
      have W16 : τ14.1 16 = σ.1 16 := by first | exact w16_τ14.trans W16 | omega
      have W38 : τ14.1 38 = σ.1 38 := by first | exact w38_τ14.trans W38 | omega
      have W39 : τ14.1 39 = σ.1 39 := by first | exact w39_τ14.trans W39 | omega
      have W66 : τ14.1 66 = σ.1 66 := by first | exact w66_τ14.trans W66 | omega
      have G11 : τ14.2.1 11 = σ.2.1 11 := (g11_τ14).trans G11
      have G13 : τ14.2.1 13 = σ.2.1 13 := (g13_τ14).trans G13
      have G14 : τ14.2.1 14 = σ.2.1 14 := (g14_τ14).trans G14
      have G15 : τ14.2.1 15 = σ.2.1 15 := (g15_τ14).trans G15
      have G22 : τ14.2.1 22 = σ.2.1 22 := (g22_τ14).trans G22
      have G25 : τ14.2.1 25 = σ.2.1 25 := (g25_τ14).trans G25
      have HT : J_ht (τ14.1 3) (τ14.2.1 2) (τ14.2.1 3) (τ14.2.1 5) (τ14.2.1 6) := q12_7
      have NL : J_nl (τ14.1 3) (τ14.2.1 2) (τ14.2.1 3) (τ14.2.1 4) := q12_9
      have MN : J_mn (τ14.1 3) (τ14.1 5) ((τ14.1 7) + 1) (τ14.2.1 4) := q12_8
      have VA : J_va (τ14.1 8) 1000 (τ14.2.1 18) (τ14.2.1 20) := by rw [show (J_va (τ14.1 8) 1000 (τ14.2.1 18) (τ14.2.1 20)) = (J_va (σ.1 8) 1000 (σ.2.1 18) (σ.2.1 20)) from by rw [w8_τ14, g18_τ14, g20_τ14]]; exact VA
      have MK : J_mk (τ14.1 11) (τ14.1 8) (τ14.1 9) (τ14.1 10) (τ14.2.1 25) := by rw [show (J_mk (τ14.1 11) (τ14.1 8) (τ14.1 9) (τ14.1 10) (τ14.2.1 25)) = (J_mk (σ.1 11) (σ.1 8) (σ.1 9) (σ.1 10) (σ.2.1 25)) from by rw [w8_τ14, w9_τ14, w10_τ14, w11_τ14, g25_τ14]]; exact MK
      have A2 : ∀ j, 0 ≤ τ14.2.1 2 j ∧ τ14.2.1 2 j ≤ 65535 := fun j => hT.2 2 j
      have A3 : ∀ j, 0 ≤ τ14.2.1 3 j ∧ τ14.2.1 3 j ≤ 30000 := fun j => hT.2 3 j
      have A4 : ∀ j, (-1000) ≤ τ14.2.1 4 j ∧ τ14.2.1 4 j ≤ 1499 := fun j => hT.2 4 j
      have A5 : ∀ j, 0 ≤ τ14.2.1 5 j ∧ τ14.2.1 5 j ≤ 2500 := fun j => hT.2 5 j
      have A6 : ∀ j, 0 ≤ τ14.2.1 6 j ∧ τ14.2.1 6 j ≤ 2500 := fun j => hT.2 6 j
      have A8 : ∀ j, 0 ≤ τ14.2.1 8 j ∧ τ14.2.1 8 j ≤ 1 := fun j => hT.2 8 j
      have A9 : ∀ j, (-1) ≤ τ14.2.1 9 j ∧ τ14.2.1 9 j ≤ 1499 := fun j => hT.2 9 j
      have A10 : ∀ j, (-1) ≤ τ14.2.1 10 j ∧ τ14.2.1 10 j ≤ 99 := fun j => hT.2 10 j
      have A11 : ∀ j, 0 ≤ τ14.2.1 11 j ∧ τ14.2.1 11 j ≤ 999 := fun j => hT.2 11 j
      have A13 : ∀ j, 0 ≤ τ14.2.1 13 j ∧ τ14.2.1 13 j ≤ 4 := fun j => hT.2 13 j
      have A14 : ∀ j, 0 ≤ τ14.2.1 14 j ∧ τ14.2.1 14 j ≤ 30000 := fun j => hT.2 14 j
      have A15 : ∀ j, 0 ≤ τ14.2.1 15 j ∧ τ14.2.1 15 j ≤ 999 := fun j => hT.2 15 j
      have A18 : ∀ j, 0 ≤ τ14.2.1 18 j ∧ τ14.2.1 18 j ≤ 1 := fun j => hT.2 18 j
      have A20 : ∀ j, 0 ≤ τ14.2.1 20 j ∧ τ14.2.1 20 j ≤ 999 := fun j => hT.2 20 j
      have A22 : ∀ j, 0 ≤ τ14.2.1 22 j ∧ τ14.2.1 22 j ≤ 1499 := fun j => hT.2 22 j
      have v3 : 0 ≤ τ14.1 3 ∧ τ14.1 3 ≤ 2500 := hT.1 3
      have v4 : 0 ≤ τ14.1 4 ∧ τ14.1 4 ≤ 100 := hT.1 4
      have v5 : 0 ≤ τ14.1 5 ∧ τ14.1 5 ≤ 1000 := hT.1 5
      have v6 : 0 ≤ τ14.1 6 ∧ τ14.1 6 ≤ 30000 := hT.1 6
      have v7 : 0 ≤ τ14.1 7 ∧ τ14.1 7 ≤ 1500 := hT.1 7
      have v8 : 0 ≤ τ14.1 8 ∧ τ14.1 8 ≤ 1000 := hT.1 8
      have v9 : 0 ≤ τ14.1 9 ∧ τ14.1 9 ≤ 1500 := hT.1 9
      have v10 : 0 ≤ τ14.1 10 ∧ τ14.1 10 ≤ 1000 := hT.1 10
      have v11 : 0 ≤ τ14.1 11 ∧ τ14.1 11 ≤ 50 := hT.1 11
      have v13 : 0 ≤ τ14.1 13 ∧ τ14.1 13 ≤ 90000 := hT.1 13
      have v14 : 0 ≤ τ14.1 14 ∧ τ14.1 14 ≤ 20000 := hT.1 14
      have v15 : 0 ≤ τ14.1 15 ∧ τ14.1 15 ≤ 20000 := hT.1 15
      have v16 : 0 ≤ τ14.1 16 ∧ τ14.1 16 ≤ 20000 := hT.1 16
      have v36 : 0 ≤ τ14.1 36 ∧ τ14.1 36 ≤ 1001 := hT.1 36
      have v38 : (-1) ≤ τ14.1 38 ∧ τ14.1 38 ≤ 999 := hT.1 38
      have v39 : (-1) ≤ τ14.1 39 ∧ τ14.1 39 ≤ 1499 := hT.1 39
      have v66 : 0 ≤ τ14.1 66 ∧ τ14.1 66 ≤ 1 := hT.1 66
      have a3_3 : 0 ≤ τ14.2.1 3 (τ14.1 3) ∧ τ14.2.1 3 (τ14.1 3) ≤ 30000 := hT.2 3 _
      have av3 : σ.1 3 ≤ τ14.1 3 := ag.1 3 (by decide)
      have av5 : σ.1 5 ≤ τ14.1 5 := ag.1 5 (by decide)
      have VS := J_vs_w VS_0 (show σ.1 5 ≤ τ14.1 5 from by omega) (show σ.1 8 ≤ σ.1 8 from Int.le_refl _)
      have TX := J_vs_w TX_0 (show σ.1 5 ≤ τ14.1 5 from by omega) (show σ.1 6 ≤ σ.1 6 from Int.le_refl _)
      rw [← w8_τ14, ← g20_τ14] at VS
      rw [← w6_τ14, ← g15_τ14] at TX
      have RKS : J_rks (τ14.1 5) (τ14.1 4) (τ14.2.1 10) (τ14.2.1 11) := by rw [q12_2, q12_4, w4_τ14, g11_τ14]; exact J_rks_s RKS_0 (by omega)
      have FF : J_ff (τ14.1 5) (τ14.1 7) (τ14.2.1 9) (τ14.2.1 13) (τ14.2.1 14) (τ14.2.1 15) := by rw [q12_2, q12_5, w7_τ14, g13_τ14, g14_τ14, g15_τ14]; exact J_ff_s FF_0
      have RR0 : j_rr (σ.1 5) (σ.2.1 10) (τ14.2.1 10) := by rw [q12_4]; exact j_rrs (by omega)
      refine h67 _ _ ?_
      have hs : ∀ n : Int, 0 ≤ n → n < τ14.1 8 → ¬ τ14.2.1 20 n = x13 := by intro n h0 h1 z; first | (have w := VA_0.2 n h0 (by omega); rw [g20_τ_67] at z; rw [z] at w; exact q3_4 (by omega) (Or.inr w.1) c6) | (rw [g20_τ14] at z; have := VS_0 n h0 (by omega); omega)
      have hv := j_in_lt VA.1 (show 0 ≤ x13 from by omega) (by omega) hs (by omega)
      refine ⟨_, K2_X9_addVariable hT (show 0 ≤ x13 from by (first | omega | (simp only [st_s] <;> omega) | assumption | omega | fail)) (show x13 < 1000 from by (first | omega | (simp only [st_s] <;> omega) | assumption | omega | fail)) (show (τ14.1 8) < 1000 from by (first | omega | (simp only [st_s] <;> omega) | assumption | omega | fail)) (show J_va (τ14.1 8) 1000 (τ14.2.1 18) (τ14.2.1 20) from VA) (show J_mk (τ14.1 11) (τ14.1 8) (τ14.1 9) (τ14.1 10) (τ14.2.1 25) from MK) (show ∀ n : Int, 0 ≤ n → n < (τ14.1 8) → ¬ τ14.2.1 20 n = x13 from by exact hs), ?_⟩
      intro τ17 hn_τ17 hf_τ17 hq
      obtain ⟨hT, q15_1, q15_2, q15_3, q15_4, q15_5⟩ := hq
      replace q15_1 : (τ17.1 8) = (τ14.1 8) + 1 := q15_1
      replace q15_2 : τ17.2.1 18 = st (τ14.2.1 18) x13 1 := q15_2
      replace q15_3 : τ17.2.1 20 = st (τ14.2.1 20) ((τ14.1 8)) x13 := q15_3
      replace q15_4 : J_va (τ17.1 8) 1000 (τ17.2.1 18) (τ17.2.1 20) := q15_4
      replace q15_5 : J_mk (τ17.1 11) (τ17.1 8) (τ17.1 9) (τ17.1 10) (τ17.2.1 25) := q15_5
      replace ag : c_ag σ τ17 := ag_r ag hf_τ17 rfl rfl
      have w3_τ17 : τ17.1 3 = τ14.1 3 := hf_τ17.1 3 (by decide)
      have w4_τ17 : τ17.1 4 = τ14.1 4 := hf_τ17.1 4 (by decide)
      have w5_τ17 : τ17.1 5 = τ14.1 5 := hf_τ17.1 5 (by decide)
      have w6_τ17 : τ17.1 6 = τ14.1 6 := hf_τ17.1 6 (by decide)
      have w7_τ17 : τ17.1 7 = τ14.1 7 := hf_τ17.1 7 (by decide)
      have w9_τ17 : τ17.1 9 = τ14.1 9 := hf_τ17.1 9 (by decide)
      have w10_τ17 : τ17.1 10 = τ14.1 10 := hf_τ17.1 10 (by decide)
      have w11_τ17 : τ17.1 11 = τ14.1 11 := hf_τ17.1 11 (by decide)
      have w13_τ17 : τ17.1 13 = τ14.1 13 := hf_τ17.1 13 (by decide)
      have w14_τ17 : τ17.1 14 = τ14.1 14 := hf_τ17.1 14 (by decide)
      have w15_τ17 : τ17.1 15 = τ14.1 15 := hf_τ17.1 15 (by decide)
      have w16_τ17 : τ17.1 16 = τ14.1 16 := hf_τ17.1 16 (by decide)
      have w36_τ17 : τ17.1 36 = τ14.1 36 := hf_τ17.1 36 (by decide)
      have w38_τ17 : τ17.1 38 = τ14.1 38 := hf_τ17.1 38 (by decide)
      have w39_τ17 : τ17.1 39 = τ14.1 39 := hf_τ17.1 39 (by decide)
      have w66_τ17 : τ17.1 66 = τ14.1 66 := hf_τ17.1 66 (by decide)
      have g2_τ17 : τ17.2.1 2 = τ14.2.1 2 := hf_τ17.2.1 2 (by decide)
      have g3_τ17 : τ17.2.1 3 = τ14.2.1 3 := hf_τ17.2.1 3 (by decide)
      have g4_τ17 : τ17.2.1 4 = τ14.2.1 4 := hf_τ17.2.1 4 (by decide)
      have g5_τ17 : τ17.2.1 5 = τ14.2.1 5 := hf_τ17.2.1 5 (by decide)
      have g6_τ17 : τ17.2.1 6 = τ14.2.1 6 := hf_τ17.2.1 6 (by decide)
      have g8_τ17 : τ17.2.1 8 = τ14.2.1 8 := hf_τ17.2.1 8 (by decide)
      have g9_τ17 : τ17.2.1 9 = τ14.2.1 9 := hf_τ17.2.1 9 (by decide)
      have g10_τ17 : τ17.2.1 10 = τ14.2.1 10 := hf_τ17.2.1 10 (by decide)
      have g11_τ17 : τ17.2.1 11 = τ14.2.1 11 := hf_τ17.2.1 11 (by decide)
      have g13_τ17 : τ17.2.1 13 = τ14.2.1 13 := hf_τ17.2.1 13 (by decide)
      have g14_τ17 : τ17.2.1 14 = τ14.2.1 14 := hf_τ17.2.1 14 (by decide)
      have g15_τ17 : τ17.2.1 15 = τ14.2.1 15 := hf_τ17.2.1 15 (by decide)
      have g22_τ17 : τ17.2.1 22 = τ14.2.1 22 := hf_τ17.2.1 22 (by decide)
      have g25_τ17 : τ17.2.1 25 = τ14.2.1 25 := hf_τ17.2.1 25 (by decide)
      have W4 : τ17.1 4 = σ.1 4 := by first | exact w4_τ17.trans W4 | omega
      have W6 : τ17.1 6 = σ.1 6 := by first | exact w6_τ17.trans W6 | omega
      have W7 : τ17.1 7 = σ.1 7 := by first | exact w7_τ17.trans W7 | omega
      have W9 : τ17.1 9 = σ.1 9 := by first | exact w9_τ17.trans W9 | omega
      have W10 : τ17.1 10 = σ.1 10 := by first | exact w10_τ17.trans W10 | omega
      have W11 : τ17.1 11 = σ.1 11 := by first | exact w11_τ17.trans W11 | omega
      have W13 : τ17.1 13 = σ.1 13 := by first | exact w13_τ17.trans W13 | omega
      have W14 : τ17.1 14 = σ.1 14 := by first | exact w14_τ17.trans W14 | omega
      have W15 : τ17.1 15 = σ.1 15 := by first | exact w15_τ17.trans W15 | omega
      have W16 : τ17.1 16 = σ.1 16 := by first | exact w16_τ17.trans W16 | omega
      have W38 : τ17.1 38 = σ.1 38 := by first | exact w38_τ17.trans W38 | omega
      have W39 : τ17.1 39 = σ.1 39 := by first | exact w39_τ17.trans W39 | omega
      have W66 : τ17.1 66 = σ.1 66 := by first | exact w66_τ17.trans W66 | omega
      have G11 : τ17.2.1 11 = σ.2.1 11 := (g11_τ17).trans G11
      have G13 : τ17.2.1 13 = σ.2.1 13 := (g13_τ17).trans G13
      have G14 : τ17.2.1 14 = σ.2.1 14 := (g14_τ17).trans G14
      have G15 : τ17.2.1 15 = σ.2.1 15 := (g15_τ17).trans G15
      have G22 : τ17.2.1 22 = σ.2.1 22 := (g22_τ17).trans G22
      have G25 : τ17.2.1 25 = σ.2.1 25 := (g25_τ17).trans G25
      have y3_3_τ17 : τ17.2.1 3 (τ17.1 3) = (τ14.2.1 3) (τ14.1 3) := by rw [g3_τ17, w3_τ17]
      have HT : J_ht (τ17.1 3) (τ17.2.1 2) (τ17.2.1 3) (τ17.2.1 5) (τ17.2.1 6) := by rw [show (J_ht (τ17.1 3) (τ17.2.1 2) (τ17.2.1 3) (τ17.2.1 5) (τ17.2.1 6)) = (J_ht (τ14.1 3) (τ14.2.1 2) (τ14.2.1 3) (τ14.2.1 5) (τ14.2.1 6)) from by rw [w3_τ17, g2_τ17, g3_τ17, g5_τ17, g6_τ17]]; exact HT
      have NL : J_nl (τ17.1 3) (τ17.2.1 2) (τ17.2.1 3) (τ17.2.1 4) := by rw [show (J_nl (τ17.1 3) (τ17.2.1 2) (τ17.2.1 3) (τ17.2.1 4)) = (J_nl (τ14.1 3) (τ14.2.1 2) (τ14.2.1 3) (τ14.2.1 4)) from by rw [w3_τ17, g2_τ17, g3_τ17, g4_τ17]]; exact NL
      have MN : J_mn (τ17.1 3) (τ17.1 5) ((τ17.1 7) + 1) (τ17.2.1 4) := by rw [show (J_mn (τ17.1 3) (τ17.1 5) ((τ17.1 7) + 1) (τ17.2.1 4)) = (J_mn (τ14.1 3) (τ14.1 5) ((τ14.1 7) + 1) (τ14.2.1 4)) from by rw [w3_τ17, w5_τ17, w7_τ17, g4_τ17]]; exact MN
      have VA : J_va (τ17.1 8) 1000 (τ17.2.1 18) (τ17.2.1 20) := q15_4
      have MK : J_mk (τ17.1 11) (τ17.1 8) (τ17.1 9) (τ17.1 10) (τ17.2.1 25) := q15_5
      have FF : J_ff (τ17.1 5) (τ17.1 7) (τ17.2.1 9) (τ17.2.1 13) (τ17.2.1 14) (τ17.2.1 15) := by rw [show (J_ff (τ17.1 5) (τ17.1 7) (τ17.2.1 9) (τ17.2.1 13) (τ17.2.1 14) (τ17.2.1 15)) = (J_ff (τ14.1 5) (τ14.1 7) (τ14.2.1 9) (τ14.2.1 13) (τ14.2.1 14) (τ14.2.1 15)) from by rw [w5_τ17, w7_τ17, g9_τ17, g13_τ17, g14_τ17, g15_τ17]]; exact FF
      have TX : J_vs (τ17.1 6) (τ17.1 5) (τ17.2.1 15) := by rw [show (J_vs (τ17.1 6) (τ17.1 5) (τ17.2.1 15)) = (J_vs (τ14.1 6) (τ14.1 5) (τ14.2.1 15)) from by rw [w5_τ17, w6_τ17, g15_τ17]]; exact TX
      have RKS : J_rks (τ17.1 5) (τ17.1 4) (τ17.2.1 10) (τ17.2.1 11) := by rw [show (J_rks (τ17.1 5) (τ17.1 4) (τ17.2.1 10) (τ17.2.1 11)) = (J_rks (τ14.1 5) (τ14.1 4) (τ14.2.1 10) (τ14.2.1 11)) from by rw [w4_τ17, w5_τ17, g10_τ17, g11_τ17]]; exact RKS
      have A2 : ∀ j, 0 ≤ τ17.2.1 2 j ∧ τ17.2.1 2 j ≤ 65535 := fun j => hT.2 2 j
      have A3 : ∀ j, 0 ≤ τ17.2.1 3 j ∧ τ17.2.1 3 j ≤ 30000 := fun j => hT.2 3 j
      have A4 : ∀ j, (-1000) ≤ τ17.2.1 4 j ∧ τ17.2.1 4 j ≤ 1499 := fun j => hT.2 4 j
      have A5 : ∀ j, 0 ≤ τ17.2.1 5 j ∧ τ17.2.1 5 j ≤ 2500 := fun j => hT.2 5 j
      have A6 : ∀ j, 0 ≤ τ17.2.1 6 j ∧ τ17.2.1 6 j ≤ 2500 := fun j => hT.2 6 j
      have A8 : ∀ j, 0 ≤ τ17.2.1 8 j ∧ τ17.2.1 8 j ≤ 1 := fun j => hT.2 8 j
      have A9 : ∀ j, (-1) ≤ τ17.2.1 9 j ∧ τ17.2.1 9 j ≤ 1499 := fun j => hT.2 9 j
      have A10 : ∀ j, (-1) ≤ τ17.2.1 10 j ∧ τ17.2.1 10 j ≤ 99 := fun j => hT.2 10 j
      have A11 : ∀ j, 0 ≤ τ17.2.1 11 j ∧ τ17.2.1 11 j ≤ 999 := fun j => hT.2 11 j
      have A13 : ∀ j, 0 ≤ τ17.2.1 13 j ∧ τ17.2.1 13 j ≤ 4 := fun j => hT.2 13 j
      have A14 : ∀ j, 0 ≤ τ17.2.1 14 j ∧ τ17.2.1 14 j ≤ 30000 := fun j => hT.2 14 j
      have A15 : ∀ j, 0 ≤ τ17.2.1 15 j ∧ τ17.2.1 15 j ≤ 999 := fun j => hT.2 15 j
      have A18 : ∀ j, 0 ≤ τ17.2.1 18 j ∧ τ17.2.1 18 j ≤ 1 := fun j => hT.2 18 j
      have A20 : ∀ j, 0 ≤ τ17.2.1 20 j ∧ τ17.2.1 20 j ≤ 999 := fun j => hT.2 20 j
      have A22 : ∀ j, 0 ≤ τ17.2.1 22 j ∧ τ17.2.1 22 j ≤ 1499 := fun j => hT.2 22 j
      have v3 : 0 ≤ τ17.1 3 ∧ τ17.1 3 ≤ 2500 := hT.1 3
      have v4 : 0 ≤ τ17.1 4 ∧ τ17.1 4 ≤ 100 := hT.1 4
      have v5 : 0 ≤ τ17.1 5 ∧ τ17.1 5 ≤ 1000 := hT.1 5
      have v6 : 0 ≤ τ17.1 6 ∧ τ17.1 6 ≤ 30000 := hT.1 6
      have v7 : 0 ≤ τ17.1 7 ∧ τ17.1 7 ≤ 1500 := hT.1 7
      have v8 : 0 ≤ τ17.1 8 ∧ τ17.1 8 ≤ 1000 := hT.1 8
      have v9 : 0 ≤ τ17.1 9 ∧ τ17.1 9 ≤ 1500 := hT.1 9
      have v10 : 0 ≤ τ17.1 10 ∧ τ17.1 10 ≤ 1000 := hT.1 10
      have v11 : 0 ≤ τ17.1 11 ∧ τ17.1 11 ≤ 50 := hT.1 11
      have v13 : 0 ≤ τ17.1 13 ∧ τ17.1 13 ≤ 90000 := hT.1 13
      have v14 : 0 ≤ τ17.1 14 ∧ τ17.1 14 ≤ 20000 := hT.1 14
      have v15 : 0 ≤ τ17.1 15 ∧ τ17.1 15 ≤ 20000 := hT.1 15
      have v16 : 0 ≤ τ17.1 16 ∧ τ17.1 16 ≤ 20000 := hT.1 16
      have v36 : 0 ≤ τ17.1 36 ∧ τ17.1 36 ≤ 1001 := hT.1 36
      have v38 : (-1) ≤ τ17.1 38 ∧ τ17.1 38 ≤ 999 := hT.1 38
      have v39 : (-1) ≤ τ17.1 39 ∧ τ17.1 39 ≤ 1499 := hT.1 39
      have v66 : 0 ≤ τ17.1 66 ∧ τ17.1 66 ≤ 1 := hT.1 66
      have a3_3 : 0 ≤ τ17.2.1 3 (τ17.1 3) ∧ τ17.2.1 3 (τ17.1 3) ≤ 30000 := hT.2 3 _
      have av3 : σ.1 3 ≤ τ17.1 3 := ag.1 3 (by decide)
      have av5 : σ.1 5 ≤ τ17.1 5 := ag.1 5 (by decide)
      have VS : J_vs (τ17.1 8) (τ17.1 5) (τ17.2.1 20) := by rw [q15_1, q15_3, w5_τ17]; exact J_vs_a VS (Int.le_refl _) (by omega)
      exact ⟨hT, (show 0 ≤ 0 ∧ 0 ≤ 19 from by (first | omega | (simp only [st_s] <;> omega) | assumption | omega | fail)), (show J_ht (τ17.1 3) (τ17.2.1 2) (τ17.2.1 3) (τ17.2.1 5) (τ17.2.1 6) from HT), (show J_mn (τ17.1 3) (τ17.1 5) ((τ17.1 7) + 1) (τ17.2.1 4) from MN), (show J_vs (τ17.1 8) (τ17.1 5) (τ17.2.1 20) from VS), (show J_vs (τ17.1 6) (τ17.1 5) (τ17.2.1 15) from TX), (show J_va (τ17.1 8) 1000 (τ17.2.1 18) (τ17.2.1 20) from VA), (show J_mk (τ17.1 11) (τ17.1 8) (τ17.1 9) (τ17.1 10) (τ17.2.1 25) from MK), (show J_rks (τ17.1 5) (τ17.1 4) (τ17.2.1 10) (τ17.2.1 11) from RKS), (show J_ff (τ17.1 5) (τ17.1 7) (τ17.2.1 9) (τ17.2.1 13) (τ17.2.1 14) (τ17.2.1 15) from FF), (show j_rr ((σ.1 5)) (σ.2.1 10) (τ17.2.1 10) from by (first | exact j_rr0 _ _ | (rw [g10_τ17, g10_τ_67]; exact j_rr0 _ _) | (rw [g10_τ17]; exact RR0) | fail)), (show 0 = 0 → (τ17.1 36) = (σ.1 36) + 1 ∧ (τ17.1 8) = (σ.1 8) + 1 from by (first | omega | (simp only [st_s] <;> omega) | assumption | omega | fail)), (show c_Y σ τ17 from by (first | exact c_Y0 _ | exact c_Y_g (by omega) rfl rfl rfl rfl | exact ⟨⟨by first | (rw [q15_3, g20_τ_67]; exact j_eqs (j_eq0 _ _) (by omega)) | (rw [q15_3, g20_τ14]; exact j_eqs (j_eq0 _ _) (by omega)), by rw [G22]; exact j_eq0 _ _, by rw [G11]; exact j_eq0 _ _, by omega⟩, by rw [G25], by rw [G25], by rw [G25]⟩ | fail)), (show J_nl (τ17.1 3) (τ17.2.1 2) (τ17.2.1 3) (τ17.2.1 4) from NL), (show j_nm σ τ17 from by (first | exact j_nm0 _ | exact (show j_nm σ τ17 from j_nm_h hf_τ17 rfl) | exact (show j_nm σ τ17 from j_nm_t q12_10 (j_nm_h hf_τ17 rfl)) | exact (show j_nm σ τ17 from j_nm_t (j_nm_c (j_nm0 σ) w3_τ_67 w5_τ_67 g2_τ_67 g3_τ_67 g4_τ_67) (j_nm_h hf_τ17 rfl)) | exact (show j_nm σ τ17 from j_nm_t (j_nm_c q12_10 w3_τ_67 w5_τ_67 g2_τ_67 g3_τ_67 g4_τ_67) (j_nm_h hf_τ17 rfl)) | fail)), ag⟩
    ·
      exact ⟨hT, (show 0 ≤ x8 ∧ x8 ≤ 19 from by (first | omega | (simp only [st_s] <;> omega) | assumption | omega | fail)), (show J_ht (σ.1 3) (σ.2.1 2) (σ.2.1 3) (σ.2.1 5) (σ.2.1 6) from HT), (show J_mn (σ.1 3) (σ.1 5) ((σ.1 7) + 1) (σ.2.1 4) from MN), (show J_vs (σ.1 8) (σ.1 5) (σ.2.1 20) from VS), (show J_vs (σ.1 6) (σ.1 5) (σ.2.1 15) from TX), (show J_va (σ.1 8) 1000 (σ.2.1 18) (σ.2.1 20) from VA), (show J_mk (σ.1 11) (σ.1 8) (σ.1 9) (σ.1 10) (σ.2.1 25) from MK), (show J_rks (σ.1 5) (σ.1 4) (σ.2.1 10) (σ.2.1 11) from RKS), (show J_ff (σ.1 5) (σ.1 7) (σ.2.1 9) (σ.2.1 13) (σ.2.1 14) (σ.2.1 15) from FF), (show j_rr ((σ.1 5)) (σ.2.1 10) (σ.2.1 10) from by (first | exact j_rr0 _ _ | (rw [g10_τ17, g10_τ_67]; exact j_rr0 _ _) | (rw [g10_τ17]; exact RR0) | fail)), (show x8 = 0 → ((σ.1 36 + 1)) = (σ.1 36) + 1 ∧ (σ.1 8) = (σ.1 8) + 1 from by (first | omega | (simp only [st_s] <;> omega) | assumption | omega | fail)), (show c_Y σ (s_v σ 36 (σ.1 36 + 1)) from by (first | exact c_Y0 _ | exact c_Y_g (by omega) rfl rfl rfl rfl | exact ⟨⟨by first | (rw [q15_3, g20_τ_67]; exact j_eqs (j_eq0 _ _) (by omega)) | (rw [q15_3, g20_τ14]; exact j_eqs (j_eq0 _ _) (by omega)), by rw [G22]; exact j_eq0 _ _, by rw [G11]; exact j_eq0 _ _, by omega⟩, by rw [G25], by rw [G25], by rw [G25]⟩ | fail)), (show J_nl (σ.1 3) (σ.2.1 2) (σ.2.1 3) (σ.2.1 4) from NL), (show j_nm σ (s_v σ 36 (σ.1 36 + 1)) from by (first | exact j_nm0 _ | exact (show j_nm σ τ17 from j_nm_h hf_τ17 rfl) | exact (show j_nm σ τ17 from j_nm_t q12_10 (j_nm_h hf_τ17 rfl)) | exact (show j_nm σ τ17 from j_nm_t (j_nm_c (j_nm0 σ) w3_τ_67 w5_τ_67 g2_τ_67 g3_τ_67 g4_τ_67) (j_nm_h hf_τ17 rfl)) | exact (show j_nm σ τ17 from j_nm_t (j_nm_c q12_10 w3_τ_67 w5_τ_67 g2_τ_67 g3_τ_67 g4_τ_67) (j_nm_h hf_τ17 rfl)) | fail)), ag⟩
set_option maxHeartbeats 1000000 in
theorem K2_X7_takeApart {n1 : Int} {σ : S0} (hT : c_T σ) (p1 : -1 ≤ n1) (p2 : n1 < 1000) (p3 : j_in (σ.1 36) 1000 (σ.2.1 54)) (p4 : J_mk (σ.1 11) (σ.1 8) (σ.1 9) (σ.1 10) (σ.2.1 25)) : W_X7_takeApart n1 σ (fun (x : Int) (τ : S0) => (c_T τ) ∧ (0 ≤ x ∧ x ≤ 19) ∧ (x = 0 → j_in (τ.1 36) 1000 (τ.2.1 54)) ∧ (J_mk (τ.1 11) (τ.1 8) (τ.1 9) (τ.1 10) (τ.2.1 25))) := by
  have A54 : ∀ j, 0 ≤ σ.2.1 54 j ∧ σ.2.1 54 j ≤ 999 := fun j => hT.2 54 j
  have v8 : 0 ≤ σ.1 8 ∧ σ.1 8 ≤ 1000 := hT.1 8
  have v9 : 0 ≤ σ.1 9 ∧ σ.1 9 ≤ 1500 := hT.1 9
  have v10 : 0 ≤ σ.1 10 ∧ σ.1 10 ≤ 1000 := hT.1 10
  have v11 : 0 ≤ σ.1 11 ∧ σ.1 11 ≤ 50 := hT.1 11
  have v36 : 0 ≤ σ.1 36 ∧ σ.1 36 ≤ 1001 := hT.1 36
  have W8 : σ.1 8 = σ.1 8 := rfl
  have W9 : σ.1 9 = σ.1 9 := rfl
  have W11 : σ.1 11 = σ.1 11 := rfl
  have G25 : σ.2.1 25 = σ.2.1 25 := rfl
  intro P31 P60 h31 h60
  have nb := j_in_n p3 (by omega) (by omega)
  have MK : J_mk (σ.1 11) (σ.1 8) (σ.1 9) (σ.1 10) (σ.2.1 25) := p4
  have DJ : j_in (σ.1 36) 1000 (σ.2.1 54) := p3
  have DJ_0 := DJ
  have MK_0 := MK
  have l_60 : ∀ (m_60 : Nat) (u2_60 : Int) (τ_60 : S0), 1001 - u2_60 < (m_60 : Int) → (c_T τ_60) → (τ_60.1 8 = σ.1 8) → (τ_60.1 9 = σ.1 9) → (τ_60.1 11 = σ.1 11) → (τ_60.2.1 25 = σ.2.1 25) → (0 ≤ u2_60) → (u2_60 ≤ 1000) → (0 ≤ n1) → (∀ k : Int, 0 ≤ k → k < (σ.1 36) → ¬ σ.2.1 54 k = n1) → ((τ_60.1 36) = (σ.1 36)) → (τ_60.2.1 54 = σ.2.1 54) → (J_mk (τ_60.1 11) (τ_60.1 8) (τ_60.1 9) (τ_60.1 10) (τ_60.2.1 25)) → P60 n1 u2_60 τ_60 := by
    intro m_60
    induction m_60 with
    | zero =>
      intro u2_60 τ_60 hm hT W8 W9 W11 G25 i60_1 i60_2 i60_3 i60_4 i60_5 i60_6 i60_7
      have A54 : ∀ j, 0 ≤ τ_60.2.1 54 j ∧ τ_60.2.1 54 j ≤ 999 := fun j => hT.2 54 j
      have v8 : 0 ≤ τ_60.1 8 ∧ τ_60.1 8 ≤ 1000 := hT.1 8
      have v9 : 0 ≤ τ_60.1 9 ∧ τ_60.1 9 ≤ 1500 := hT.1 9
      have v10 : 0 ≤ τ_60.1 10 ∧ τ_60.1 10 ≤ 1000 := hT.1 10
      have v11 : 0 ≤ τ_60.1 11 ∧ τ_60.1 11 ≤ 50 := hT.1 11
      have v36 : 0 ≤ τ_60.1 36 ∧ τ_60.1 36 ≤ 1001 := hT.1 36
      exfalso; (first | omega | (simp only [st_s] <;> omega) | assumption | omega | fail)
    | succ m_60 ih_60 =>
      intro u2_60 τ_60 hm_60 hT W8 W9 W11 G25 i60_1 i60_2 i60_3 i60_4 i60_5 i60_6 i60_7
      have A54 : ∀ j, 0 ≤ τ_60.2.1 54 j ∧ τ_60.2.1 54 j ≤ 999 := fun j => hT.2 54 j
      have v8 : 0 ≤ τ_60.1 8 ∧ τ_60.1 8 ≤ 1000 := hT.1 8
      have v9 : 0 ≤ τ_60.1 9 ∧ τ_60.1 9 ≤ 1500 := hT.1 9
      have v10 : 0 ≤ τ_60.1 10 ∧ τ_60.1 10 ≤ 1000 := hT.1 10
      have v11 : 0 ≤ τ_60.1 11 ∧ τ_60.1 11 ≤ 50 := hT.1 11
      have v36 : 0 ≤ τ_60.1 36 ∧ τ_60.1 36 ≤ 1001 := hT.1 36
      have MK : J_mk (τ_60.1 11) (τ_60.1 8) (τ_60.1 9) (τ_60.1 10) (τ_60.2.1 25) := i60_7
      have nl := j_in_lt DJ_0 (show (0 : Int) ≤ n1 from by omega) p2 i60_4 (by omega)
      refine h60 n1 u2_60 τ_60 ?_
      refine ⟨fun c13 => ?_, fun c13 => ?_⟩
      ·
        refine ⟨(show 0 ≤ τ_60.1 36 ∧ τ_60.1 36 < 1000 from by (first | omega | (simp only [st_s] <;> omega) | assumption | omega | fail)), ?_⟩
        replace hT := cT_a (k := 54) (j := (τ_60.1 36)) hT (show (0 : Int) ≤ n1 ∧ n1 ≤ 999 from by (first | omega | (simp only [st_s] <;> omega) | assumption | omega | fail))
        refine ⟨(⟨by (first | omega | (simp only [st_s] <;> omega) | assumption | omega | fail), by (first | omega | (simp only [st_s] <;> omega) | assumption | omega | fail)⟩ : rg (τ_60.1 36 + 1)), ?_⟩
        replace hT := cT_v (i := 36) hT (show 0 ≤ (τ_60.1 36 + 1) ∧ (τ_60.1 36 + 1) ≤ 1001 from by (first | omega | (simp only [st_s] <;> omega) | assumption | omega | fail))
        exact ⟨hT, (show 0 ≤ 0 ∧ 0 ≤ 19 from by (first | omega | (simp only [st_s] <;> omega) | assumption | omega | fail)), (show 0 = 0 → j_in ((τ_60.1 36 + 1)) 1000 ((st (τ_60.2.1 54) (τ_60.1 36) n1)) from by (first | (intro z; exfalso; omega) | (intro _; rw [i60_6, i60_5]; exact j_ins DJ_0 (by omega) p2 i60_4) | fail)), (show J_mk (τ_60.1 11) (τ_60.1 8) (τ_60.1 9) (τ_60.1 10) (τ_60.2.1 25) from MK)⟩
      ·
        refine ⟨(show 0 ≤ u2_60 ∧ u2_60 < 1000 from by (first | omega | (simp only [st_s] <;> omega) | assumption | omega | fail)), ?_⟩
        intro x17 r_x17 e_x17
        have b_x17 : 0 ≤ x17 ∧ x17 ≤ 999 := by rw [e_x17]; exact hT.2 54 _
        refine ⟨_, K_X9_areApart hT (show 0 ≤ x17 from by (first | omega | (simp only [st_s] <;> omega) | assumption | omega | fail)) (show x17 < 1000 from by (first | omega | (simp only [st_s] <;> omega) | assumption | omega | fail)) (show 0 ≤ n1 from by (first | omega | (simp only [st_s] <;> omega) | assumption | omega | fail)) (show n1 < 1000 from by (first | omega | (simp only [st_s] <;> omega) | assumption | omega | fail)), ?_⟩
        intro x19 r_x19 hq
        have q18_1 := hq
        replace q18_1 : 0 ≤ x19 ∧ x19 ≤ 1 := q18_1
        refine ⟨fun c21 => ?_, fun c21 => ?_⟩
        ·
          refine ⟨fun c22 => ?_, fun c22 => ?_⟩
          ·
            intro x23 r_x23 e_x23
            have b_x23 : 0 ≤ x23 ∧ x23 ≤ 999 := by rw [e_x23]; exact hT.2 54 _
            refine ⟨_, K2_X9_addPair hT (show 0 ≤ x23 from by (first | omega | (simp only [st_s] <;> omega) | assumption | omega | fail)) (show x23 < 1000 from by (first | omega | (simp only [st_s] <;> omega) | assumption | omega | fail)) (show 0 ≤ n1 from by (first | omega | (simp only [st_s] <;> omega) | assumption | omega | fail)) (show n1 < 1000 from by (first | omega | (simp only [st_s] <;> omega) | assumption | omega | fail)) (show (τ_60.1 10) < 1000 from by (first | omega | (simp only [st_s] <;> omega) | assumption | omega | fail)) (show J_mk (τ_60.1 11) (τ_60.1 8) (τ_60.1 9) (τ_60.1 10) (τ_60.2.1 25) from MK), ?_⟩
            intro τ26 hn_τ26 hf_τ26 hq
            obtain ⟨hT, q24_1, q24_2⟩ := hq
            replace q24_1 : (τ26.1 10) = (τ_60.1 10) + 1 := q24_1
            replace q24_2 : J_mk (τ26.1 11) (τ26.1 8) (τ26.1 9) (τ26.1 10) (τ26.2.1 25) := q24_2
            have w8_τ26 : τ26.1 8 = τ_60.1 8 := hf_τ26.1 8 (by decide)
            have w9_τ26 : τ26.1 9 = τ_60.1 9 := hf_τ26.1 9 (by decide)
            have w11_τ26 : τ26.1 11 = τ_60.1 11 := hf_τ26.1 11 (by decide)
            have w36_τ26 : τ26.1 36 = τ_60.1 36 := hf_τ26.1 36 (by decide)
            have g25_τ26 : τ26.2.1 25 = τ_60.2.1 25 := hf_τ26.2.1 25 (by decide)
            have g54_τ26 : τ26.2.1 54 = τ_60.2.1 54 := hf_τ26.2.1 54 (by decide)
            have W8 : τ26.1 8 = σ.1 8 := by first | exact w8_τ26.trans W8 | omega
            have W9 : τ26.1 9 = σ.1 9 := by first | exact w9_τ26.trans W9 | omega
            have W11 : τ26.1 11 = σ.1 11 := by first | exact w11_τ26.trans W11 | omega
            have G25 : τ26.2.1 25 = σ.2.1 25 := (g25_τ26).trans G25
            have MK : J_mk (τ26.1 11) (τ26.1 8) (τ26.1 9) (τ26.1 10) (τ26.2.1 25) := q24_2
            have A54 : ∀ j, 0 ≤ τ26.2.1 54 j ∧ τ26.2.1 54 j ≤ 999 := fun j => hT.2 54 j
            have v8 : 0 ≤ τ26.1 8 ∧ τ26.1 8 ≤ 1000 := hT.1 8
            have v9 : 0 ≤ τ26.1 9 ∧ τ26.1 9 ≤ 1500 := hT.1 9
            have v10 : 0 ≤ τ26.1 10 ∧ τ26.1 10 ≤ 1000 := hT.1 10
            have v11 : 0 ≤ τ26.1 11 ∧ τ26.1 11 ≤ 50 := hT.1 11
            have v36 : 0 ≤ τ26.1 36 ∧ τ26.1 36 ≤ 1001 := hT.1 36
            refine ⟨(⟨by (first | omega | (simp only [st_s] <;> omega) | assumption | omega | fail), by (first | omega | (simp only [st_s] <;> omega) | assumption | omega | fail)⟩ : rg (u2_60 + 1)), ?_⟩
            exact ih_60 _ _ (show (1001 - (u2_60 + 1) : Int) < ((m_60 : Nat) : Int) from by ((first | omega | (simp only [st_s] <;> omega) | assumption | omega | fail))) hT (show τ26.1 8 = σ.1 8 from by first | exact W8 | omega) (show τ26.1 9 = σ.1 9 from by first | exact W9 | omega) (show τ26.1 11 = σ.1 11 from by first | exact W11 | omega) G25 (show 0 ≤ (u2_60 + 1) from by (first | omega | (simp only [st_s] <;> omega) | assumption | omega | fail)) (show (u2_60 + 1) ≤ 1000 from by (first | omega | (simp only [st_s] <;> omega) | assumption | omega | fail)) (show 0 ≤ n1 from by (first | omega | (simp only [st_s] <;> omega) | assumption | omega | fail)) (show ∀ k : Int, 0 ≤ k → k < (σ.1 36) → ¬ σ.2.1 54 k = n1 from by (first | assumption | exact fun k h0 h1 => i31_4 k h0 (by omega) | fail)) (show (τ26.1 36) = (σ.1 36) from by (first | omega | (simp only [st_s] <;> omega) | assumption | omega | fail)) (show τ26.2.1 54 = σ.2.1 54 from by (first | assumption | (rw [g54_τ26]; assumption) | fail)) (show J_mk (τ26.1 11) (τ26.1 8) (τ26.1 9) (τ26.1 10) (τ26.2.1 25) from MK)
          ·
            exact ⟨hT, (show 0 ≤ 5 ∧ 5 ≤ 19 from by (first | omega | (simp only [st_s] <;> omega) | assumption | omega | fail)), (show 5 = 0 → j_in (τ_60.1 36) 1000 (τ_60.2.1 54) from by (first | (intro z; exfalso; omega) | (intro _; rw [i60_6, i60_5]; exact j_ins DJ_0 (by omega) p2 i60_4) | fail)), (show J_mk (τ_60.1 11) (τ_60.1 8) (τ_60.1 9) (τ_60.1 10) (τ_60.2.1 25) from MK)⟩
        ·
          refine ⟨(⟨by (first | omega | (simp only [st_s] <;> omega) | assumption | omega | fail), by (first | omega | (simp only [st_s] <;> omega) | assumption | omega | fail)⟩ : rg (u2_60 + 1)), ?_⟩
          exact ih_60 _ _ (show (1001 - (u2_60 + 1) : Int) < ((m_60 : Nat) : Int) from by ((first | omega | (simp only [st_s] <;> omega) | assumption | omega | fail))) hT (show τ_60.1 8 = σ.1 8 from by first | exact W8 | omega) (show τ_60.1 9 = σ.1 9 from by first | exact W9 | omega) (show τ_60.1 11 = σ.1 11 from by first | exact W11 | omega) G25 (show 0 ≤ (u2_60 + 1) from by (first | omega | (simp only [st_s] <;> omega) | assumption | omega | fail)) (show (u2_60 + 1) ≤ 1000 from by (first | omega | (simp only [st_s] <;> omega) | assumption | omega | fail)) (show 0 ≤ n1 from by (first | omega | (simp only [st_s] <;> omega) | assumption | omega | fail)) (show ∀ k : Int, 0 ≤ k → k < (σ.1 36) → ¬ σ.2.1 54 k = n1 from by (first | assumption | exact fun k h0 h1 => i31_4 k h0 (by omega) | fail)) (show (τ_60.1 36) = (σ.1 36) from by (first | omega | (simp only [st_s] <;> omega) | assumption | omega | fail)) (show τ_60.2.1 54 = σ.2.1 54 from by (first | assumption | (rw [g54_τ26]; assumption) | fail)) (show J_mk (τ_60.1 11) (τ_60.1 8) (τ_60.1 9) (τ_60.1 10) (τ_60.2.1 25) from MK)
  have l_31 : ∀ (m_31 : Nat) (u2_31 : Int) (τ_31 : S0), 1001 - u2_31 < (m_31 : Int) → (c_T τ_31) → (τ_31.1 8 = σ.1 8) → (τ_31.1 9 = σ.1 9) → (τ_31.1 11 = σ.1 11) → (τ_31.2.1 25 = σ.2.1 25) → (0 ≤ u2_31) → (u2_31 ≤ 1000) → (0 ≤ n1) → (∀ k : Int, 0 ≤ k → k < u2_31 → ¬ σ.2.1 54 k = n1) → ((τ_31.1 36) = (σ.1 36)) → (τ_31.2.1 54 = σ.2.1 54) → (J_mk (τ_31.1 11) (τ_31.1 8) (τ_31.1 9) (τ_31.1 10) (τ_31.2.1 25)) → (u2_31 ≤ (σ.1 36)) → P31 n1 u2_31 τ_31 := by
    intro m_31
    induction m_31 with
    | zero =>
      intro u2_31 τ_31 hm hT W8 W9 W11 G25 i31_1 i31_2 i31_3 i31_4 i31_5 i31_6 i31_7 i31_8
      have A54 : ∀ j, 0 ≤ τ_31.2.1 54 j ∧ τ_31.2.1 54 j ≤ 999 := fun j => hT.2 54 j
      have v8 : 0 ≤ τ_31.1 8 ∧ τ_31.1 8 ≤ 1000 := hT.1 8
      have v9 : 0 ≤ τ_31.1 9 ∧ τ_31.1 9 ≤ 1500 := hT.1 9
      have v10 : 0 ≤ τ_31.1 10 ∧ τ_31.1 10 ≤ 1000 := hT.1 10
      have v11 : 0 ≤ τ_31.1 11 ∧ τ_31.1 11 ≤ 50 := hT.1 11
      have v36 : 0 ≤ τ_31.1 36 ∧ τ_31.1 36 ≤ 1001 := hT.1 36
      exfalso; (first | omega | (simp only [st_s] <;> omega) | assumption | omega | fail)
    | succ m_31 ih_31 =>
      intro u2_31 τ_31 hm_31 hT W8 W9 W11 G25 i31_1 i31_2 i31_3 i31_4 i31_5 i31_6 i31_7 i31_8
      have A54 : ∀ j, 0 ≤ τ_31.2.1 54 j ∧ τ_31.2.1 54 j ≤ 999 := fun j => hT.2 54 j
      have v8 : 0 ≤ τ_31.1 8 ∧ τ_31.1 8 ≤ 1000 := hT.1 8
      have v9 : 0 ≤ τ_31.1 9 ∧ τ_31.1 9 ≤ 1500 := hT.1 9
      have v10 : 0 ≤ τ_31.1 10 ∧ τ_31.1 10 ≤ 1000 := hT.1 10
      have v11 : 0 ≤ τ_31.1 11 ∧ τ_31.1 11 ≤ 50 := hT.1 11
      have v36 : 0 ≤ τ_31.1 36 ∧ τ_31.1 36 ≤ 1001 := hT.1 36
      have MK : J_mk (τ_31.1 11) (τ_31.1 8) (τ_31.1 9) (τ_31.1 10) (τ_31.2.1 25) := i31_7
      refine h31 n1 u2_31 τ_31 ?_
      refine ⟨fun c8 => ?_, fun c8 => ?_⟩
      ·
        exact l_60 ((1001 - 0 : Int).toNat + 1) _ _ (show (1001 - 0 : Int) < (((1001 - 0 : Int).toNat + 1 : Nat) : Int) from by ((first | omega | (simp only [st_s] <;> omega) | assumption | omega | fail))) hT (show τ_31.1 8 = σ.1 8 from by first | exact W8 | omega) (show τ_31.1 9 = σ.1 9 from by first | exact W9 | omega) (show τ_31.1 11 = σ.1 11 from by first | exact W11 | omega) G25 (show 0 ≤ 0 from by (first | omega | (simp only [st_s] <;> omega) | assumption | omega | fail)) (show 0 ≤ 1000 from by (first | omega | (simp only [st_s] <;> omega) | assumption | omega | fail)) (show 0 ≤ n1 from by (first | omega | (simp only [st_s] <;> omega) | assumption | omega | fail)) (show ∀ k : Int, 0 ≤ k → k < (σ.1 36) → ¬ σ.2.1 54 k = n1 from by (first | assumption | exact fun k h0 h1 => i31_4 k h0 (by omega) | fail)) (show (τ_31.1 36) = (σ.1 36) from by (first | omega | (simp only [st_s] <;> omega) | assumption | omega | fail)) (show τ_31.2.1 54 = σ.2.1 54 from by (first | assumption | (rw [g54_τ26]; assumption) | fail)) (show J_mk (τ_31.1 11) (τ_31.1 8) (τ_31.1 9) (τ_31.1 10) (τ_31.2.1 25) from MK)
      ·
        refine ⟨(show 0 ≤ u2_31 ∧ u2_31 < 1000 from by (first | omega | (simp only [st_s] <;> omega) | assumption | omega | fail)), ?_⟩
        intro x10 r_x10 e_x10
        have b_x10 : 0 ≤ x10 ∧ x10 ≤ 999 := by rw [e_x10]; exact hT.2 54 _
        refine ⟨fun c11 => ?_, fun c11 => ?_⟩
        ·
          refine ⟨(⟨by (first | omega | (simp only [st_s] <;> omega) | assumption | omega | fail), by (first | omega | (simp only [st_s] <;> omega) | assumption | omega | fail)⟩ : rg (u2_31 + 1)), ?_⟩
          exact ih_31 _ _ (show (1001 - (u2_31 + 1) : Int) < ((m_31 : Nat) : Int) from by ((first | omega | (simp only [st_s] <;> omega) | assumption | omega | fail))) hT (show τ_31.1 8 = σ.1 8 from by first | exact W8 | omega) (show τ_31.1 9 = σ.1 9 from by first | exact W9 | omega) (show τ_31.1 11 = σ.1 11 from by first | exact W11 | omega) G25 (show 0 ≤ (u2_31 + 1) from by (first | omega | (simp only [st_s] <;> omega) | assumption | omega | fail)) (show (u2_31 + 1) ≤ 1000 from by (first | omega | (simp only [st_s] <;> omega) | assumption | omega | fail)) (show 0 ≤ n1 from by (first | omega | (simp only [st_s] <;> omega) | assumption | omega | fail)) (show ∀ k : Int, 0 ≤ k → k < (u2_31 + 1) → ¬ σ.2.1 54 k = n1 from by (first | (intro k h0 h1; exfalso; omega) | (intro k h0 h1; by_cases z : k = u2_31; (rw [z, ← i31_6, ← e_x10]; exact c11); exact i31_4 k h0 (by omega)) | fail)) (show (τ_31.1 36) = (σ.1 36) from by (first | omega | (simp only [st_s] <;> omega) | assumption | omega | fail)) (show τ_31.2.1 54 = σ.2.1 54 from by (first | rfl | assumption | fail)) (show J_mk (τ_31.1 11) (τ_31.1 8) (τ_31.1 9) (τ_31.1 10) (τ_31.2.1 25) from MK) (show (u2_31 + 1) ≤ (σ.1 36) from by (first | omega | (simp only [st_s] <;> omega) | assumption | omega | fail))
        ·
          exact ⟨hT, (show 0 ≤ 7 ∧ 7 ≤ 19 from by (first | omega | (simp only [st_s] <;> omega) | assumption | omega | fail)), (show 7 = 0 → j_in (τ_31.1 36) 1000 (τ_31.2.1 54) from by (first | (intro z; exfalso; omega) | (intro _; rw [i60_6, i60_5]; exact j_ins DJ_0 (by omega) p2 i60_4) | fail)), (show J_mk (τ_31.1 11) (τ_31.1 8) (τ_31.1 9) (τ_31.1 10) (τ_31.2.1 25) from MK)⟩
  refine ⟨_, K_X9_isKnown hT (show -1 ≤ n1 from by (first | omega | (simp only [st_s] <;> omega) | assumption | omega | fail)) (show n1 < 1000 from by (first | omega | (simp only [st_s] <;> omega) | assumption | omega | fail)), ?_⟩
  intro x2 r_x2 hq
  obtain ⟨q1_1, q1_2, q1_3, q1_4⟩ := hq
  replace q1_1 : 0 ≤ x2 ∧ x2 ≤ 1 := q1_1
  replace q1_2 : ¬ x2 = 0 → 0 ≤ n1 := q1_2
  replace q1_3 : ¬ x2 = 0 → σ.2.1 8 n1 = 0 ∨ ¬ σ.2.1 18 n1 = 0 := q1_3
  replace q1_4 : 0 ≤ n1 → (σ.2.1 8 n1 = 0 ∨ ¬ σ.2.1 18 n1 = 0) → ¬ x2 = 0 := q1_4
  refine ⟨fun c4 => ?_, fun c4 => ?_⟩
  ·
    refine ⟨(show 0 ≤ n1 ∧ n1 < 1000 from by (first | omega | (simp only [st_s] <;> omega) | assumption | omega | fail)), ?_⟩
    intro x6 r_x6 e_x6
    have b_x6 : 0 ≤ x6 ∧ x6 ≤ 1 := by rw [e_x6]; exact hT.2 8 _
    refine ⟨fun c7 => ?_, fun c7 => ?_⟩
    ·
      exact l_31 ((1001 - 0 : Int).toNat + 1) _ _ (show (1001 - 0 : Int) < (((1001 - 0 : Int).toNat + 1 : Nat) : Int) from by ((first | omega | (simp only [st_s] <;> omega) | assumption | omega | fail))) hT (show σ.1 8 = σ.1 8 from by first | exact W8 | omega) (show σ.1 9 = σ.1 9 from by first | exact W9 | omega) (show σ.1 11 = σ.1 11 from by first | exact W11 | omega) G25 (show 0 ≤ 0 from by (first | omega | (simp only [st_s] <;> omega) | assumption | omega | fail)) (show 0 ≤ 1000 from by (first | omega | (simp only [st_s] <;> omega) | assumption | omega | fail)) (show 0 ≤ n1 from by (first | omega | (simp only [st_s] <;> omega) | assumption | omega | fail)) (show ∀ k : Int, 0 ≤ k → k < 0 → ¬ σ.2.1 54 k = n1 from by (first | (intro k h0 h1; exfalso; omega) | (intro k h0 h1; by_cases z : k = u2_31; (rw [z, ← i31_6, ← e_x10]; exact c11); exact i31_4 k h0 (by omega)) | fail)) (show (σ.1 36) = (σ.1 36) from by (first | omega | (simp only [st_s] <;> omega) | assumption | omega | fail)) (show σ.2.1 54 = σ.2.1 54 from by (first | rfl | assumption | fail)) (show J_mk (σ.1 11) (σ.1 8) (σ.1 9) (σ.1 10) (σ.2.1 25) from MK) (show 0 ≤ (σ.1 36) from by (first | omega | (simp only [st_s] <;> omega) | assumption | omega | fail))
    ·
      exact ⟨hT, (show 0 ≤ 10 ∧ 10 ≤ 19 from by (first | omega | (simp only [st_s] <;> omega) | assumption | omega | fail)), (show 10 = 0 → j_in (σ.1 36) 1000 (σ.2.1 54) from by (first | (intro z; exfalso; omega) | (intro _; rw [i60_6, i60_5]; exact j_ins DJ_0 (by omega) p2 i60_4) | fail)), (show J_mk (σ.1 11) (σ.1 8) (σ.1 9) (σ.1 10) (σ.2.1 25) from MK)⟩
  ·
    exact ⟨hT, (show 0 ≤ 9 ∧ 9 ≤ 19 from by (first | omega | (simp only [st_s] <;> omega) | assumption | omega | fail)), (show 9 = 0 → j_in (σ.1 36) 1000 (σ.2.1 54) from by (first | (intro z; exfalso; omega) | (intro _; rw [i60_6, i60_5]; exact j_ins DJ_0 (by omega) p2 i60_4) | fail)), (show J_mk (σ.1 11) (σ.1 8) (σ.1 9) (σ.1 10) (σ.2.1 25) from MK)⟩
