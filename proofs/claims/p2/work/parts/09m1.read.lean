-- pure: the model reads
set_option maxHeartbeats 1000000 in
theorem K_X13_markNamed {n1 : Int} {σ : S0} (hT : m_T σ) (p1 : 0 ≤ n1) (p2 : n1 < 1000) : W_X13_markNamed n1 σ (fun (τ : S0) => (m_T τ)) := by
  intro P59 h59
  refine ⟨(show 0 ≤ n1 ∧ n1 < 1001 from by omega), ?_⟩
  intro x2 r_x2 e_x2
  have b_x2 : 0 ≤ x2 ∧ x2 ≤ 30000 := by rw [e_x2]; exact hT.2 2 _
  intro x3 r_x3 e_x3
  have b_x3 : 0 ≤ x3 ∧ x3 ≤ 60 := by rw [e_x3]; exact hT.2 3 _
  refine ⟨fun c4 => ?_, fun c4 => ?_⟩
  ·
    refine h59 _ _ _ ?_
    refine ⟨(show 0 ≤ n1 ∧ n1 < 1001 from by omega), ?_⟩
    intro x15 r_x15 e_x15
    have b_x15 : 0 ≤ x15 ∧ x15 ≤ 60 := by rw [e_x15]; exact hT.2 3 _
    refine ⟨fun c16 => ?_, fun c16 => ?_⟩
    ·
      exact hT
    ·
      refine ⟨(show 0 ≤ x2 ∧ x2 < 30100 from by omega), ?_⟩
      intro x18 r_x18 e_x18
      have b_x18 : 0 ≤ x18 ∧ x18 ≤ 255 := by rw [e_x18]; exact hT.2 1 _
      refine ⟨fun c19 => ?_, fun c19 => ?_⟩
      ·
        exact hT
      ·
        refine ⟨(show 0 ≤ (x2 + 1) ∧ (x2 + 1) < 30100 from by omega), ?_⟩
        intro x21 r_x21 e_x21
        have b_x21 : 0 ≤ x21 ∧ x21 ≤ 255 := by rw [e_x21]; exact hT.2 1 _
        refine ⟨fun c22 => ?_, fun c22 => ?_⟩
        ·
          exact hT
        ·
          replace hT := mT_v (i := 11) hT (show (-1) ≤ n1 ∧ n1 ≤ 999 from by omega)
          exact hT
  ·
    refine ⟨(show 0 ≤ x2 ∧ x2 < 30100 from by omega), ?_⟩
    intro x6 r_x6 e_x6
    have b_x6 : 0 ≤ x6 ∧ x6 ≤ 255 := by rw [e_x6]; exact hT.2 1 _
    refine ⟨fun c7 => ?_, fun c7 => ?_⟩
    ·
      refine h59 _ _ _ ?_
      refine ⟨(show 0 ≤ n1 ∧ n1 < 1001 from by omega), ?_⟩
      intro x15 r_x15 e_x15
      have b_x15 : 0 ≤ x15 ∧ x15 ≤ 60 := by rw [e_x15]; exact hT.2 3 _
      refine ⟨fun c16 => ?_, fun c16 => ?_⟩
      ·
        exact hT
      ·
        refine ⟨(show 0 ≤ x2 ∧ x2 < 30100 from by omega), ?_⟩
        intro x18 r_x18 e_x18
        have b_x18 : 0 ≤ x18 ∧ x18 ≤ 255 := by rw [e_x18]; exact hT.2 1 _
        refine ⟨fun c19 => ?_, fun c19 => ?_⟩
        ·
          exact hT
        ·
          refine ⟨(show 0 ≤ (x2 + 1) ∧ (x2 + 1) < 30100 from by omega), ?_⟩
          intro x21 r_x21 e_x21
          have b_x21 : 0 ≤ x21 ∧ x21 ≤ 255 := by rw [e_x21]; exact hT.2 1 _
          refine ⟨fun c22 => ?_, fun c22 => ?_⟩
          ·
            exact hT
          ·
            replace hT := mT_v (i := 11) hT (show (-1) ≤ n1 ∧ n1 ≤ 999 from by omega)
            exact hT
    ·
      refine ⟨(show 0 ≤ (x2 + 1) ∧ (x2 + 1) < 30100 from by omega), ?_⟩
      intro x9 r_x9 e_x9
      have b_x9 : 0 ≤ x9 ∧ x9 ≤ 255 := by rw [e_x9]; exact hT.2 1 _
      refine ⟨fun c10 => ?_, fun c10 => ?_⟩
      ·
        refine h59 _ _ _ ?_
        refine ⟨(show 0 ≤ n1 ∧ n1 < 1001 from by omega), ?_⟩
        intro x15 r_x15 e_x15
        have b_x15 : 0 ≤ x15 ∧ x15 ≤ 60 := by rw [e_x15]; exact hT.2 3 _
        refine ⟨fun c16 => ?_, fun c16 => ?_⟩
        ·
          exact hT
        ·
          refine ⟨(show 0 ≤ x2 ∧ x2 < 30100 from by omega), ?_⟩
          intro x18 r_x18 e_x18
          have b_x18 : 0 ≤ x18 ∧ x18 ≤ 255 := by rw [e_x18]; exact hT.2 1 _
          refine ⟨fun c19 => ?_, fun c19 => ?_⟩
          ·
            exact hT
          ·
            refine ⟨(show 0 ≤ (x2 + 1) ∧ (x2 + 1) < 30100 from by omega), ?_⟩
            intro x21 r_x21 e_x21
            have b_x21 : 0 ≤ x21 ∧ x21 ≤ 255 := by rw [e_x21]; exact hT.2 1 _
            refine ⟨fun c22 => ?_, fun c22 => ?_⟩
            ·
              exact hT
            ·
              replace hT := mT_v (i := 11) hT (show (-1) ≤ n1 ∧ n1 ≤ 999 from by omega)
              exact hT
      ·
        refine ⟨(show 0 ≤ (x2 + 2) ∧ (x2 + 2) < 30100 from by omega), ?_⟩
        intro x12 r_x12 e_x12
        have b_x12 : 0 ≤ x12 ∧ x12 ≤ 255 := by rw [e_x12]; exact hT.2 1 _
        refine ⟨fun c13 => ?_, fun c13 => ?_⟩
        ·
          refine h59 _ _ _ ?_
          refine ⟨(show 0 ≤ n1 ∧ n1 < 1001 from by omega), ?_⟩
          intro x15 r_x15 e_x15
          have b_x15 : 0 ≤ x15 ∧ x15 ≤ 60 := by rw [e_x15]; exact hT.2 3 _
          refine ⟨fun c16 => ?_, fun c16 => ?_⟩
          ·
            exact hT
          ·
            refine ⟨(show 0 ≤ x2 ∧ x2 < 30100 from by omega), ?_⟩
            intro x18 r_x18 e_x18
            have b_x18 : 0 ≤ x18 ∧ x18 ≤ 255 := by rw [e_x18]; exact hT.2 1 _
            refine ⟨fun c19 => ?_, fun c19 => ?_⟩
            ·
              exact hT
            ·
              refine ⟨(show 0 ≤ (x2 + 1) ∧ (x2 + 1) < 30100 from by omega), ?_⟩
              intro x21 r_x21 e_x21
              have b_x21 : 0 ≤ x21 ∧ x21 ≤ 255 := by rw [e_x21]; exact hT.2 1 _
              refine ⟨fun c22 => ?_, fun c22 => ?_⟩
              ·
                exact hT
              ·
                replace hT := mT_v (i := 11) hT (show (-1) ≤ n1 ∧ n1 ≤ 999 from by omega)
                exact hT
        ·
          replace hT := mT_v (i := 10) hT (show (-1) ≤ n1 ∧ n1 ≤ 999 from by omega)
          obtain ⟨τ_59, e_τ_59⟩ : ∃ z : S0, z = s_v σ 10 n1 := ⟨_, rfl⟩
          rw [← e_τ_59]
          replace hT : m_T τ_59 := by rw [e_τ_59]; exact hT
          refine h59 _ _ _ ?_
          refine ⟨(show 0 ≤ n1 ∧ n1 < 1001 from by omega), ?_⟩
          intro x15 r_x15 e_x15
          have b_x15 : 0 ≤ x15 ∧ x15 ≤ 60 := by rw [e_x15]; exact hT.2 3 _
          refine ⟨fun c16 => ?_, fun c16 => ?_⟩
          ·
            exact hT
          ·
            refine ⟨(show 0 ≤ x2 ∧ x2 < 30100 from by omega), ?_⟩
            intro x18 r_x18 e_x18
            have b_x18 : 0 ≤ x18 ∧ x18 ≤ 255 := by rw [e_x18]; exact hT.2 1 _
            refine ⟨fun c19 => ?_, fun c19 => ?_⟩
            ·
              exact hT
            ·
              refine ⟨(show 0 ≤ (x2 + 1) ∧ (x2 + 1) < 30100 from by omega), ?_⟩
              intro x21 r_x21 e_x21
              have b_x21 : 0 ≤ x21 ∧ x21 ≤ 255 := by rw [e_x21]; exact hT.2 1 _
              refine ⟨fun c22 => ?_, fun c22 => ?_⟩
              ·
                exact hT
              ·
                replace hT := mT_v (i := 11) hT (show (-1) ≤ n1 ∧ n1 ≤ 999 from by omega)
                exact hT
set_option maxHeartbeats 1000000 in
theorem K_X13_declare {n1 : Int} {σ : S0} (hT : m_T σ) (p1 : 0 ≤ n1 ∧ n1 ≤ 1) (p2 : (σ.1 17) + (σ.1 18) ≤ (σ.1 0)) (p3 : oc (σ.2.1 6) ≤ (σ.1 3)) (p4 : oc (σ.2.1 7) < 4096) (p5 : (σ.1 12) ≤ ca (σ.2.1 9) (σ.1 3)) (p6 : j_lt (σ.2.1 6) (σ.1 3)) : W_X13_declare n1 σ (fun (τ : S0) => (m_T τ) ∧ (oc (τ.2.1 6) ≤ (τ.1 3)) ∧ ((τ.1 12) ≤ ca (τ.2.1 9) (τ.1 3)) ∧ (j_lt (τ.2.1 6) (τ.1 3))) := by
  have A6 : ∀ j, (-1) ≤ σ.2.1 6 j ∧ σ.2.1 6 j ≤ 999 := fun j => hT.2 6 j
  have A7 : ∀ j, (-1) ≤ σ.2.1 7 j ∧ σ.2.1 7 j ≤ 1499 := fun j => hT.2 7 j
  have A9 : ∀ j, 0 ≤ σ.2.1 9 j ∧ σ.2.1 9 j ≤ 1 := fun j => hT.2 9 j
  have v0 : 0 ≤ σ.1 0 ∧ σ.1 0 ≤ 60000 := hT.1 0
  have v2 : 0 ≤ σ.1 2 ∧ σ.1 2 ≤ 30000 := hT.1 2
  have v3 : 0 ≤ σ.1 3 ∧ σ.1 3 ≤ 1000 := hT.1 3
  have v12 : 0 ≤ σ.1 12 ∧ σ.1 12 ≤ 1000 := hT.1 12
  have v17 : 0 ≤ σ.1 17 ∧ σ.1 17 ≤ 60000 := hT.1 17
  have v18 : 0 ≤ σ.1 18 ∧ σ.1 18 ≤ 60000 := hT.1 18
  have v20 : 0 ≤ σ.1 20 ∧ σ.1 20 ≤ 19 := hT.1 20
  have W0 : σ.1 0 = σ.1 0 := rfl
  have W17 : σ.1 17 = σ.1 17 := rfl
  have W18 : σ.1 18 = σ.1 18 := rfl
  have G7 : σ.2.1 7 = σ.2.1 7 := rfl
  intro P15 P54 P60 P91 P118 P214 h15 h54 h60 h91 h118 h214
  have cb := ca_b (σ.2.1 9) (n := (σ.1 3)) (by omega)
  have cb1 := ca_b (σ.2.1 9) (n := (σ.1 3) + 1) (by omega)
  have Y1 : j_lt (σ.2.1 6) (σ.1 3) := p6
  refine ⟨_, K_X13_symbolHere hT (show (σ.1 17) + (σ.1 18) ≤ 60000 from by omega) (show oc (σ.2.1 6) < 4096 from by omega), ?_⟩
  intro x2 r_x2 hq
  obtain ⟨q1_1, q1_2⟩ := hq
  replace q1_1 : -1 ≤ x2 ∧ x2 ≤ 999 := q1_1
  replace q1_2 : x2 = -1 ∨ ∃ e : Int, x2 = σ.2.1 6 e := q1_2
  refine ⟨fun c4 => ?_, fun c4 => ?_⟩
  ·
    refine h15 _ _ _ _ ?_
    refine ⟨fun c5 => ?_, fun c5 => ?_⟩
    ·
      refine h54 _ ?_
      refine ⟨_, K_X13_failHere hT (show 0 ≤ 5 from by omega) (show 5 ≤ 19 from by omega), ?_⟩
      intro τ12 hn_τ12 hf_τ12 hq
      obtain ⟨hT, q10_1, q10_2⟩ := hq
      replace q10_1 : ¬ (σ.1 20) = 0 → (τ12.1 20) = (σ.1 20) := q10_1
      replace q10_2 : (σ.1 20) = 0 → (τ12.1 20) = 5 := q10_2
      have w0_τ12 : τ12.1 0 = σ.1 0 := hf_τ12.1 0 (by decide)
      have w2_τ12 : τ12.1 2 = σ.1 2 := hf_τ12.1 2 (by decide)
      have w3_τ12 : τ12.1 3 = σ.1 3 := hf_τ12.1 3 (by decide)
      have w12_τ12 : τ12.1 12 = σ.1 12 := hf_τ12.1 12 (by decide)
      have w17_τ12 : τ12.1 17 = σ.1 17 := hf_τ12.1 17 (by decide)
      have w18_τ12 : τ12.1 18 = σ.1 18 := hf_τ12.1 18 (by decide)
      have g6_τ12 : τ12.2.1 6 = σ.2.1 6 := hf_τ12.2.1 6 (by decide)
      have g7_τ12 : τ12.2.1 7 = σ.2.1 7 := hf_τ12.2.1 7 (by decide)
      have g9_τ12 : τ12.2.1 9 = σ.2.1 9 := hf_τ12.2.1 9 (by decide)
      first | (have ca_τ12 := congr (congrArg ca g9_τ12) w3_τ12) | skip
      first | (have o6_τ12 := congrArg oc g6_τ12) | skip
      first | (have o7_τ12 := congrArg oc g7_τ12) | skip
      have W0 : τ12.1 0 = σ.1 0 := by omega
      have W17 : τ12.1 17 = σ.1 17 := by omega
      have W18 : τ12.1 18 = σ.1 18 := by omega
      have G7 : τ12.2.1 7 = σ.2.1 7 := (g7_τ12).trans G7
      have Y1 : j_lt (τ12.2.1 6) (τ12.1 3) := by rw [show (j_lt (τ12.2.1 6) (τ12.1 3)) = (j_lt (σ.2.1 6) (σ.1 3)) from by rw [w3_τ12, g6_τ12]]; exact Y1
      have A6 : ∀ j, (-1) ≤ τ12.2.1 6 j ∧ τ12.2.1 6 j ≤ 999 := fun j => hT.2 6 j
      have A7 : ∀ j, (-1) ≤ τ12.2.1 7 j ∧ τ12.2.1 7 j ≤ 1499 := fun j => hT.2 7 j
      have A9 : ∀ j, 0 ≤ τ12.2.1 9 j ∧ τ12.2.1 9 j ≤ 1 := fun j => hT.2 9 j
      have v0 : 0 ≤ τ12.1 0 ∧ τ12.1 0 ≤ 60000 := hT.1 0
      have v2 : 0 ≤ τ12.1 2 ∧ τ12.1 2 ≤ 30000 := hT.1 2
      have v3 : 0 ≤ τ12.1 3 ∧ τ12.1 3 ≤ 1000 := hT.1 3
      have v12 : 0 ≤ τ12.1 12 ∧ τ12.1 12 ≤ 1000 := hT.1 12
      have v17 : 0 ≤ τ12.1 17 ∧ τ12.1 17 ≤ 60000 := hT.1 17
      have v18 : 0 ≤ τ12.1 18 ∧ τ12.1 18 ≤ 60000 := hT.1 18
      have v20 : 0 ≤ τ12.1 20 ∧ τ12.1 20 ≤ 19 := hT.1 20
      exact ⟨hT, (show oc (τ12.2.1 6) ≤ (τ12.1 3) from by omega), (show (τ12.1 12) ≤ ca (τ12.2.1 9) (τ12.1 3) from by omega), (show j_lt (τ12.2.1 6) (τ12.1 3) from Y1)⟩
    ·
      refine ⟨fun c6 => ?_, fun c6 => ?_⟩
      ·
        refine h60 _ _ _ _ ?_
        refine ⟨fun c13 => ?_, fun c13 => ?_⟩
        ·
          refine h91 _ _ _ _ _ ?_
          refine ⟨fun c20 => ?_, fun c20 => ?_⟩
          ·
            refine h118 _ ?_
            refine ⟨_, K_X13_failHere hT (show 0 ≤ 7 from by omega) (show 7 ≤ 19 from by omega), ?_⟩
            intro τ40 hn_τ40 hf_τ40 hq
            obtain ⟨hT, q38_1, q38_2⟩ := hq
            replace q38_1 : ¬ (σ.1 20) = 0 → (τ40.1 20) = (σ.1 20) := q38_1
            replace q38_2 : (σ.1 20) = 0 → (τ40.1 20) = 7 := q38_2
            have w0_τ40 : τ40.1 0 = σ.1 0 := hf_τ40.1 0 (by decide)
            have w2_τ40 : τ40.1 2 = σ.1 2 := hf_τ40.1 2 (by decide)
            have w3_τ40 : τ40.1 3 = σ.1 3 := hf_τ40.1 3 (by decide)
            have w12_τ40 : τ40.1 12 = σ.1 12 := hf_τ40.1 12 (by decide)
            have w17_τ40 : τ40.1 17 = σ.1 17 := hf_τ40.1 17 (by decide)
            have w18_τ40 : τ40.1 18 = σ.1 18 := hf_τ40.1 18 (by decide)
            have g6_τ40 : τ40.2.1 6 = σ.2.1 6 := hf_τ40.2.1 6 (by decide)
            have g7_τ40 : τ40.2.1 7 = σ.2.1 7 := hf_τ40.2.1 7 (by decide)
            have g9_τ40 : τ40.2.1 9 = σ.2.1 9 := hf_τ40.2.1 9 (by decide)
            first | (have ca_τ40 := congr (congrArg ca g9_τ40) w3_τ40) | skip
            first | (have o6_τ40 := congrArg oc g6_τ40) | skip
            first | (have o7_τ40 := congrArg oc g7_τ40) | skip
            have W0 : τ40.1 0 = σ.1 0 := by omega
            have W17 : τ40.1 17 = σ.1 17 := by omega
            have W18 : τ40.1 18 = σ.1 18 := by omega
            have G7 : τ40.2.1 7 = σ.2.1 7 := (g7_τ40).trans G7
            have Y1 : j_lt (τ40.2.1 6) (τ40.1 3) := by rw [show (j_lt (τ40.2.1 6) (τ40.1 3)) = (j_lt (σ.2.1 6) (σ.1 3)) from by rw [w3_τ40, g6_τ40]]; exact Y1
            have A6 : ∀ j, (-1) ≤ τ40.2.1 6 j ∧ τ40.2.1 6 j ≤ 999 := fun j => hT.2 6 j
            have A7 : ∀ j, (-1) ≤ τ40.2.1 7 j ∧ τ40.2.1 7 j ≤ 1499 := fun j => hT.2 7 j
            have A9 : ∀ j, 0 ≤ τ40.2.1 9 j ∧ τ40.2.1 9 j ≤ 1 := fun j => hT.2 9 j
            have v0 : 0 ≤ τ40.1 0 ∧ τ40.1 0 ≤ 60000 := hT.1 0
            have v2 : 0 ≤ τ40.1 2 ∧ τ40.1 2 ≤ 30000 := hT.1 2
            have v3 : 0 ≤ τ40.1 3 ∧ τ40.1 3 ≤ 1000 := hT.1 3
            have v12 : 0 ≤ τ40.1 12 ∧ τ40.1 12 ≤ 1000 := hT.1 12
            have v17 : 0 ≤ τ40.1 17 ∧ τ40.1 17 ≤ 60000 := hT.1 17
            have v18 : 0 ≤ τ40.1 18 ∧ τ40.1 18 ≤ 60000 := hT.1 18
            have v20 : 0 ≤ τ40.1 20 ∧ τ40.1 20 ≤ 19 := hT.1 20
            exact ⟨hT, (show oc (τ40.2.1 6) ≤ (τ40.1 3) from by omega), (show (τ40.1 12) ≤ ca (τ40.2.1 9) (τ40.1 3) from by omega), (show j_lt (τ40.2.1 6) (τ40.1 3) from Y1)⟩
          ·
            refine ⟨_, K_X13_findLabel_q1 hT (show 0 ≤ (σ.1 17) from by omega) (show (σ.1 17) + (σ.1 18) ≤ 60000 from by omega) (show oc (σ.2.1 7) < 4096 from by omega), ?_⟩
            intro x22 r_x22 hq
            have q21_1 := hq
            replace q21_1 : -1 ≤ x22 ∧ x22 ≤ 1499 := q21_1
            refine ⟨fun c24 => ?_, fun c24 => ?_⟩
            ·
              refine ⟨fun c25 => ?_, fun c25 => ?_⟩
              ·
                refine h214 _ _ _ ?_
                first | (have nn9 : τ37.2.1 9 = σ.2.1 9 := by rw [g9_τ37, g9_τ33, g9_τ30]) | skip
                first | (have nn3 : τ37.1 3 = σ.1 3 + 1 := by omega) | skip
                first | (have cn2 : ca (st (τ37.2.1 9) (σ.1 3) n1) (τ37.1 3) = ca (st (σ.2.1 9) (σ.1 3) n1) (σ.1 3 + 1) := by rw [nn9, nn3]) | skip
                refine ⟨(show 0 ≤ x2 ∧ x2 < 1001 from by omega), ?_⟩
                refine ⟨(show 0 ≤ n1 ∧ n1 ≤ 1 from by omega), ?_⟩
                replace hT := mT_a (k := 9) (j := x2) hT (show (0 : Int) ≤ n1 ∧ n1 ≤ 1 from by omega)
                refine ⟨fun c43 => ?_, fun c43 => ?_⟩
                ·
                  exact ⟨hT, (show oc (σ.2.1 6) ≤ (σ.1 3) from by omega), (show (σ.1 12) ≤ ca ((st (σ.2.1 9) x2 n1)) (σ.1 3) from by omega), (show j_lt (σ.2.1 6) (σ.1 3) from Y1)⟩
                ·
                  refine ⟨(show 0 ≤ σ.1 12 ∧ σ.1 12 < 1001 from by omega), ?_⟩
                  replace hT := mT_a (k := 30) (j := (σ.1 12)) hT (show (0 : Int) ≤ x2 ∧ x2 ≤ 999 from by omega)
                  refine ⟨(⟨by omega, by omega⟩ : rg (σ.1 12 + 1)), ?_⟩
                  replace hT := mT_v (i := 12) hT (show 0 ≤ (σ.1 12 + 1) ∧ (σ.1 12 + 1) ≤ 1000 from by omega)
                  exact ⟨hT, (show oc (σ.2.1 6) ≤ (σ.1 3) from by omega), (show ((σ.1 12 + 1)) ≤ ca ((st (σ.2.1 9) x2 n1)) (σ.1 3) from by omega), (show j_lt (σ.2.1 6) (σ.1 3) from Y1)⟩
              ·
                refine ⟨(⟨by omega, by omega⟩ : rg (σ.1 3 + 1)), ?_⟩
                replace hT := mT_v (i := 3) hT (show 0 ≤ (σ.1 3 + 1) ∧ (σ.1 3 + 1) ≤ 1000 from by omega)
                refine ⟨(show 0 ≤ σ.1 3 ∧ σ.1 3 < 1001 from by omega), ?_⟩
                replace hT := mT_a (k := 2) (j := (σ.1 3)) hT (show (0 : Int) ≤ (σ.1 2) ∧ (σ.1 2) ≤ 30000 from by omega)
                replace hT := mT_a (k := 3) (j := (σ.1 3)) hT (show (0 : Int) ≤ (σ.1 18) ∧ (σ.1 18) ≤ 60 from by omega)
                refine ⟨_, K_X13_keepChars hT (show 0 ≤ (σ.1 17) from by omega) (show 0 ≤ (σ.1 18) from by omega) (show (σ.1 17) + (σ.1 18) ≤ 60000 from by omega) (show (σ.1 2) + (σ.1 18) ≤ 30000 from by omega), ?_⟩
                intro τ30 hn_τ30 hf_τ30 hq
                obtain ⟨hT, q28_1⟩ := hq
                replace q28_1 : (τ30.1 2) = (σ.1 2) + (σ.1 18) := q28_1
                have w0_τ30 : τ30.1 0 = σ.1 0 := hf_τ30.1 0 (by decide)
                have w3_τ30 : τ30.1 3 = (σ.1 3 + 1) := hf_τ30.1 3 (by decide)
                have w12_τ30 : τ30.1 12 = σ.1 12 := hf_τ30.1 12 (by decide)
                have w17_τ30 : τ30.1 17 = σ.1 17 := hf_τ30.1 17 (by decide)
                have w18_τ30 : τ30.1 18 = σ.1 18 := hf_τ30.1 18 (by decide)
                have w20_τ30 : τ30.1 20 = σ.1 20 := hf_τ30.1 20 (by decide)
                have g6_τ30 : τ30.2.1 6 = σ.2.1 6 := hf_τ30.2.1 6 (by decide)
                have g7_τ30 : τ30.2.1 7 = σ.2.1 7 := hf_τ30.2.1 7 (by decide)
                have g9_τ30 : τ30.2.1 9 = σ.2.1 9 := hf_τ30.2.1 9 (by decide)
                first | (have ca_τ30 := congr (congrArg ca g9_τ30) w3_τ30) | skip
                first | (have o6_τ30 := congrArg oc g6_τ30) | skip
                first | (have o7_τ30 := congrArg oc g7_τ30) | skip
                have W0 : τ30.1 0 = σ.1 0 := by omega
                have W17 : τ30.1 17 = σ.1 17 := by omega
                have W18 : τ30.1 18 = σ.1 18 := by omega
                have G7 : τ30.2.1 7 = σ.2.1 7 := (g7_τ30).trans G7
                have A6 : ∀ j, (-1) ≤ τ30.2.1 6 j ∧ τ30.2.1 6 j ≤ 999 := fun j => hT.2 6 j
                have A7 : ∀ j, (-1) ≤ τ30.2.1 7 j ∧ τ30.2.1 7 j ≤ 1499 := fun j => hT.2 7 j
                have A9 : ∀ j, 0 ≤ τ30.2.1 9 j ∧ τ30.2.1 9 j ≤ 1 := fun j => hT.2 9 j
                have v0 : 0 ≤ τ30.1 0 ∧ τ30.1 0 ≤ 60000 := hT.1 0
                have v2 : 0 ≤ τ30.1 2 ∧ τ30.1 2 ≤ 30000 := hT.1 2
                have v3 : 0 ≤ τ30.1 3 ∧ τ30.1 3 ≤ 1000 := hT.1 3
                have v12 : 0 ≤ τ30.1 12 ∧ τ30.1 12 ≤ 1000 := hT.1 12
                have v17 : 0 ≤ τ30.1 17 ∧ τ30.1 17 ≤ 60000 := hT.1 17
                have v18 : 0 ≤ τ30.1 18 ∧ τ30.1 18 ≤ 60000 := hT.1 18
                have v20 : 0 ≤ τ30.1 20 ∧ τ30.1 20 ≤ 19 := hT.1 20
                refine ⟨_, K_X13_keepSymbol hT (show 0 ≤ (σ.1 3) from by omega) (show (σ.1 3) < 1000 from by omega) (show oc (τ30.2.1 6) < 4096 from by omega), ?_⟩
                intro τ33 hn_τ33 hf_τ33 hq
                obtain ⟨hT, q31_1, q31_2⟩ := hq
                replace q31_1 : oc (τ33.2.1 6) ≤ oc (τ30.2.1 6) + 1 := q31_1
                replace q31_2 : ∃ e : Int, τ33.2.1 6 = st (τ30.2.1 6) e (σ.1 3) := q31_2
                have w0_τ33 : τ33.1 0 = τ30.1 0 := hf_τ33.1 0 (by decide)
                have w2_τ33 : τ33.1 2 = τ30.1 2 := hf_τ33.1 2 (by decide)
                have w3_τ33 : τ33.1 3 = τ30.1 3 := hf_τ33.1 3 (by decide)
                have w12_τ33 : τ33.1 12 = τ30.1 12 := hf_τ33.1 12 (by decide)
                have w17_τ33 : τ33.1 17 = τ30.1 17 := hf_τ33.1 17 (by decide)
                have w18_τ33 : τ33.1 18 = τ30.1 18 := hf_τ33.1 18 (by decide)
                have w20_τ33 : τ33.1 20 = τ30.1 20 := hf_τ33.1 20 (by decide)
                have g7_τ33 : τ33.2.1 7 = τ30.2.1 7 := hf_τ33.2.1 7 (by decide)
                have g9_τ33 : τ33.2.1 9 = τ30.2.1 9 := hf_τ33.2.1 9 (by decide)
                first | (have ca_τ33 := congr (congrArg ca g9_τ33) w3_τ33) | skip
                first | (have o6_τ33 := congrArg oc g6_τ33) | skip
                first | (have o7_τ33 := congrArg oc g7_τ33) | skip
                have W0 : τ33.1 0 = σ.1 0 := by omega
                have W17 : τ33.1 17 = σ.1 17 := by omega
                have W18 : τ33.1 18 = σ.1 18 := by omega
                have G7 : τ33.2.1 7 = σ.2.1 7 := (g7_τ33).trans G7
                have A6 : ∀ j, (-1) ≤ τ33.2.1 6 j ∧ τ33.2.1 6 j ≤ 999 := fun j => hT.2 6 j
                have A7 : ∀ j, (-1) ≤ τ33.2.1 7 j ∧ τ33.2.1 7 j ≤ 1499 := fun j => hT.2 7 j
                have A9 : ∀ j, 0 ≤ τ33.2.1 9 j ∧ τ33.2.1 9 j ≤ 1 := fun j => hT.2 9 j
                have v0 : 0 ≤ τ33.1 0 ∧ τ33.1 0 ≤ 60000 := hT.1 0
                have v2 : 0 ≤ τ33.1 2 ∧ τ33.1 2 ≤ 30000 := hT.1 2
                have v3 : 0 ≤ τ33.1 3 ∧ τ33.1 3 ≤ 1000 := hT.1 3
                have v12 : 0 ≤ τ33.1 12 ∧ τ33.1 12 ≤ 1000 := hT.1 12
                have v17 : 0 ≤ τ33.1 17 ∧ τ33.1 17 ≤ 60000 := hT.1 17
                have v18 : 0 ≤ τ33.1 18 ∧ τ33.1 18 ≤ 60000 := hT.1 18
                have v20 : 0 ≤ τ33.1 20 ∧ τ33.1 20 ≤ 19 := hT.1 20
                refine ⟨(show 0 ≤ n1 ∧ n1 ≤ 1 from by omega), ?_⟩
                replace hT := mT_a (k := 8) (j := (σ.1 3)) hT (show (0 : Int) ≤ n1 ∧ n1 ≤ 1 from by omega)
                replace hT := mT_a (k := 10) (j := (σ.1 3)) hT (show (-1 : Int) ≤ (-1) ∧ (-1) ≤ 999 from by omega)
                replace hT := mT_a (k := 11) (j := (σ.1 3)) hT (show (-1 : Int) ≤ (-1) ∧ (-1) ≤ 1499 from by omega)
                replace hT := mT_a (k := 12) (j := (σ.1 3)) hT (show (0 : Int) ≤ 0 ∧ 0 ≤ 1 from by omega)
                have cn := ca_n (σ.2.1 9) ((σ.1 3)) n1 (by omega)
                have cb3 := ca_b (st (σ.2.1 9) ((σ.1 3)) n1) (n := (σ.1 3) + 1) (by omega)
                refine ⟨_, K_X13_markNamed hT (show 0 ≤ (σ.1 3) from by omega) (show (σ.1 3) < 1000 from by omega), ?_⟩
                intro τ37 hn_τ37 hf_τ37 hq
                replace hT := hq
                have w0_τ37 : τ37.1 0 = τ33.1 0 := hf_τ37.1 0 (by decide)
                have w2_τ37 : τ37.1 2 = τ33.1 2 := hf_τ37.1 2 (by decide)
                have w3_τ37 : τ37.1 3 = τ33.1 3 := hf_τ37.1 3 (by decide)
                have w12_τ37 : τ37.1 12 = τ33.1 12 := hf_τ37.1 12 (by decide)
                have w17_τ37 : τ37.1 17 = τ33.1 17 := hf_τ37.1 17 (by decide)
                have w18_τ37 : τ37.1 18 = τ33.1 18 := hf_τ37.1 18 (by decide)
                have w20_τ37 : τ37.1 20 = τ33.1 20 := hf_τ37.1 20 (by decide)
                have g6_τ37 : τ37.2.1 6 = τ33.2.1 6 := hf_τ37.2.1 6 (by decide)
                have g7_τ37 : τ37.2.1 7 = τ33.2.1 7 := hf_τ37.2.1 7 (by decide)
                have g9_τ37 : τ37.2.1 9 = τ33.2.1 9 := hf_τ37.2.1 9 (by decide)
                first | (have ca_τ37 := congr (congrArg ca g9_τ37) w3_τ37) | skip
                first | (have o6_τ37 := congrArg oc g6_τ37) | skip
                first | (have o7_τ37 := congrArg oc g7_τ37) | skip
                have W0 : τ37.1 0 = σ.1 0 := by omega
                have W17 : τ37.1 17 = σ.1 17 := by omega
                have W18 : τ37.1 18 = σ.1 18 := by omega
                have G7 : τ37.2.1 7 = σ.2.1 7 := (g7_τ37).trans G7
                have A6 : ∀ j, (-1) ≤ τ37.2.1 6 j ∧ τ37.2.1 6 j ≤ 999 := fun j => hT.2 6 j
                have A7 : ∀ j, (-1) ≤ τ37.2.1 7 j ∧ τ37.2.1 7 j ≤ 1499 := fun j => hT.2 7 j
                have A9 : ∀ j, 0 ≤ τ37.2.1 9 j ∧ τ37.2.1 9 j ≤ 1 := fun j => hT.2 9 j
                have v0 : 0 ≤ τ37.1 0 ∧ τ37.1 0 ≤ 60000 := hT.1 0
                have v2 : 0 ≤ τ37.1 2 ∧ τ37.1 2 ≤ 30000 := hT.1 2
                have v3 : 0 ≤ τ37.1 3 ∧ τ37.1 3 ≤ 1000 := hT.1 3
                have v12 : 0 ≤ τ37.1 12 ∧ τ37.1 12 ≤ 1000 := hT.1 12
                have v17 : 0 ≤ τ37.1 17 ∧ τ37.1 17 ≤ 60000 := hT.1 17
                have v18 : 0 ≤ τ37.1 18 ∧ τ37.1 18 ≤ 60000 := hT.1 18
                have v20 : 0 ≤ τ37.1 20 ∧ τ37.1 20 ≤ 19 := hT.1 20
                refine h214 _ _ _ ?_
                first | (have nn9 : τ37.2.1 9 = σ.2.1 9 := by rw [g9_τ37, g9_τ33, g9_τ30]) | skip
                first | (have nn3 : τ37.1 3 = σ.1 3 + 1 := by omega) | skip
                first | (have cn2 : ca (st (τ37.2.1 9) (σ.1 3) n1) (τ37.1 3) = ca (st (σ.2.1 9) (σ.1 3) n1) (σ.1 3 + 1) := by rw [nn9, nn3]) | skip
                refine ⟨(show 0 ≤ (σ.1 3) ∧ (σ.1 3) < 1001 from by omega), ?_⟩
                refine ⟨(show 0 ≤ n1 ∧ n1 ≤ 1 from by omega), ?_⟩
                replace hT := mT_a (k := 9) (j := (σ.1 3)) hT (show (0 : Int) ≤ n1 ∧ n1 ≤ 1 from by omega)
                refine ⟨fun c43 => ?_, fun c43 => ?_⟩
                ·
                  exact ⟨hT, (show oc (τ37.2.1 6) ≤ (τ37.1 3) from by omega), (show (τ37.1 12) ≤ ca ((st (τ37.2.1 9) (σ.1 3) n1)) (τ37.1 3) from by omega), (show j_lt (τ37.2.1 6) (τ37.1 3) from by (intro e; first | exact p6 e | (rw [g6_τ12, w3_τ12]; exact p6 e) | (rw [g6_τ40, w3_τ40]; exact p6 e) | (obtain ⟨ee, he⟩ := q31_2; rw [g6_τ37, he]; unfold st; split; omega; have := p6 e; rw [g6_τ30]; omega)))⟩
                ·
                  refine ⟨(show 0 ≤ τ37.1 12 ∧ τ37.1 12 < 1001 from by omega), ?_⟩
                  replace hT := mT_a (k := 30) (j := (τ37.1 12)) hT (show (0 : Int) ≤ (σ.1 3) ∧ (σ.1 3) ≤ 999 from by omega)
                  refine ⟨(⟨by omega, by omega⟩ : rg (τ37.1 12 + 1)), ?_⟩
                  replace hT := mT_v (i := 12) hT (show 0 ≤ (τ37.1 12 + 1) ∧ (τ37.1 12 + 1) ≤ 1000 from by omega)
                  exact ⟨hT, (show oc (τ37.2.1 6) ≤ (τ37.1 3) from by omega), (show ((τ37.1 12 + 1)) ≤ ca ((st (τ37.2.1 9) (σ.1 3) n1)) (τ37.1 3) from by omega), (show j_lt (τ37.2.1 6) (τ37.1 3) from by (intro e; first | exact p6 e | (rw [g6_τ12, w3_τ12]; exact p6 e) | (rw [g6_τ40, w3_τ40]; exact p6 e) | (obtain ⟨ee, he⟩ := q31_2; rw [g6_τ37, he]; unfold st; split; omega; have := p6 e; rw [g6_τ30]; omega)))⟩
            ·
              refine h118 _ ?_
              refine ⟨_, K_X13_failHere hT (show 0 ≤ 7 from by omega) (show 7 ≤ 19 from by omega), ?_⟩
              intro τ40 hn_τ40 hf_τ40 hq
              obtain ⟨hT, q38_1, q38_2⟩ := hq
              replace q38_1 : ¬ (σ.1 20) = 0 → (τ40.1 20) = (σ.1 20) := q38_1
              replace q38_2 : (σ.1 20) = 0 → (τ40.1 20) = 7 := q38_2
              have w0_τ40 : τ40.1 0 = σ.1 0 := hf_τ40.1 0 (by decide)
              have w2_τ40 : τ40.1 2 = σ.1 2 := hf_τ40.1 2 (by decide)
              have w3_τ40 : τ40.1 3 = σ.1 3 := hf_τ40.1 3 (by decide)
              have w12_τ40 : τ40.1 12 = σ.1 12 := hf_τ40.1 12 (by decide)
              have w17_τ40 : τ40.1 17 = σ.1 17 := hf_τ40.1 17 (by decide)
              have w18_τ40 : τ40.1 18 = σ.1 18 := hf_τ40.1 18 (by decide)
              have g6_τ40 : τ40.2.1 6 = σ.2.1 6 := hf_τ40.2.1 6 (by decide)
              have g7_τ40 : τ40.2.1 7 = σ.2.1 7 := hf_τ40.2.1 7 (by decide)
              have g9_τ40 : τ40.2.1 9 = σ.2.1 9 := hf_τ40.2.1 9 (by decide)
              first | (have ca_τ40 := congr (congrArg ca g9_τ40) w3_τ40) | skip
              first | (have o6_τ40 := congrArg oc g6_τ40) | skip
              first | (have o7_τ40 := congrArg oc g7_τ40) | skip
              have W0 : τ40.1 0 = σ.1 0 := by omega
              have W17 : τ40.1 17 = σ.1 17 := by omega
              have W18 : τ40.1 18 = σ.1 18 := by omega
              have G7 : τ40.2.1 7 = σ.2.1 7 := (g7_τ40).trans G7
              have Y1 : j_lt (τ40.2.1 6) (τ40.1 3) := by rw [show (j_lt (τ40.2.1 6) (τ40.1 3)) = (j_lt (σ.2.1 6) (σ.1 3)) from by rw [w3_τ40, g6_τ40]]; exact Y1
              have A6 : ∀ j, (-1) ≤ τ40.2.1 6 j ∧ τ40.2.1 6 j ≤ 999 := fun j => hT.2 6 j
              have A7 : ∀ j, (-1) ≤ τ40.2.1 7 j ∧ τ40.2.1 7 j ≤ 1499 := fun j => hT.2 7 j
              have A9 : ∀ j, 0 ≤ τ40.2.1 9 j ∧ τ40.2.1 9 j ≤ 1 := fun j => hT.2 9 j
              have v0 : 0 ≤ τ40.1 0 ∧ τ40.1 0 ≤ 60000 := hT.1 0
              have v2 : 0 ≤ τ40.1 2 ∧ τ40.1 2 ≤ 30000 := hT.1 2
              have v3 : 0 ≤ τ40.1 3 ∧ τ40.1 3 ≤ 1000 := hT.1 3
              have v12 : 0 ≤ τ40.1 12 ∧ τ40.1 12 ≤ 1000 := hT.1 12
              have v17 : 0 ≤ τ40.1 17 ∧ τ40.1 17 ≤ 60000 := hT.1 17
              have v18 : 0 ≤ τ40.1 18 ∧ τ40.1 18 ≤ 60000 := hT.1 18
              have v20 : 0 ≤ τ40.1 20 ∧ τ40.1 20 ≤ 19 := hT.1 20
              exact ⟨hT, (show oc (τ40.2.1 6) ≤ (τ40.1 3) from by omega), (show (τ40.1 12) ≤ ca (τ40.2.1 9) (τ40.1 3) from by omega), (show j_lt (τ40.2.1 6) (τ40.1 3) from Y1)⟩
        ·
          refine ⟨fun c14 => ?_, fun c14 => ?_⟩
          ·
            refine h91 _ _ _ _ _ ?_
            refine ⟨fun c20 => ?_, fun c20 => ?_⟩
            ·
              refine h118 _ ?_
              refine ⟨_, K_X13_failHere hT (show 0 ≤ 7 from by omega) (show 7 ≤ 19 from by omega), ?_⟩
              intro τ40 hn_τ40 hf_τ40 hq
              obtain ⟨hT, q38_1, q38_2⟩ := hq
              replace q38_1 : ¬ (σ.1 20) = 0 → (τ40.1 20) = (σ.1 20) := q38_1
              replace q38_2 : (σ.1 20) = 0 → (τ40.1 20) = 7 := q38_2
              have w0_τ40 : τ40.1 0 = σ.1 0 := hf_τ40.1 0 (by decide)
              have w2_τ40 : τ40.1 2 = σ.1 2 := hf_τ40.1 2 (by decide)
              have w3_τ40 : τ40.1 3 = σ.1 3 := hf_τ40.1 3 (by decide)
              have w12_τ40 : τ40.1 12 = σ.1 12 := hf_τ40.1 12 (by decide)
              have w17_τ40 : τ40.1 17 = σ.1 17 := hf_τ40.1 17 (by decide)
              have w18_τ40 : τ40.1 18 = σ.1 18 := hf_τ40.1 18 (by decide)
              have g6_τ40 : τ40.2.1 6 = σ.2.1 6 := hf_τ40.2.1 6 (by decide)
              have g7_τ40 : τ40.2.1 7 = σ.2.1 7 := hf_τ40.2.1 7 (by decide)
              have g9_τ40 : τ40.2.1 9 = σ.2.1 9 := hf_τ40.2.1 9 (by decide)
              first | (have ca_τ40 := congr (congrArg ca g9_τ40) w3_τ40) | skip
              first | (have o6_τ40 := congrArg oc g6_τ40) | skip
              first | (have o7_τ40 := congrArg oc g7_τ40) | skip
              have W0 : τ40.1 0 = σ.1 0 := by omega
              have W17 : τ40.1 17 = σ.1 17 := by omega
              have W18 : τ40.1 18 = σ.1 18 := by omega
              have G7 : τ40.2.1 7 = σ.2.1 7 := (g7_τ40).trans G7
              have Y1 : j_lt (τ40.2.1 6) (τ40.1 3) := by rw [show (j_lt (τ40.2.1 6) (τ40.1 3)) = (j_lt (σ.2.1 6) (σ.1 3)) from by rw [w3_τ40, g6_τ40]]; exact Y1
              have A6 : ∀ j, (-1) ≤ τ40.2.1 6 j ∧ τ40.2.1 6 j ≤ 999 := fun j => hT.2 6 j
              have A7 : ∀ j, (-1) ≤ τ40.2.1 7 j ∧ τ40.2.1 7 j ≤ 1499 := fun j => hT.2 7 j
              have A9 : ∀ j, 0 ≤ τ40.2.1 9 j ∧ τ40.2.1 9 j ≤ 1 := fun j => hT.2 9 j
              have v0 : 0 ≤ τ40.1 0 ∧ τ40.1 0 ≤ 60000 := hT.1 0
              have v2 : 0 ≤ τ40.1 2 ∧ τ40.1 2 ≤ 30000 := hT.1 2
              have v3 : 0 ≤ τ40.1 3 ∧ τ40.1 3 ≤ 1000 := hT.1 3
              have v12 : 0 ≤ τ40.1 12 ∧ τ40.1 12 ≤ 1000 := hT.1 12
              have v17 : 0 ≤ τ40.1 17 ∧ τ40.1 17 ≤ 60000 := hT.1 17
              have v18 : 0 ≤ τ40.1 18 ∧ τ40.1 18 ≤ 60000 := hT.1 18
              have v20 : 0 ≤ τ40.1 20 ∧ τ40.1 20 ≤ 19 := hT.1 20
              exact ⟨hT, (show oc (τ40.2.1 6) ≤ (τ40.1 3) from by omega), (show (τ40.1 12) ≤ ca (τ40.2.1 9) (τ40.1 3) from by omega), (show j_lt (τ40.2.1 6) (τ40.1 3) from Y1)⟩
            ·
              refine ⟨_, K_X13_findLabel_q1 hT (show 0 ≤ (σ.1 17) from by omega) (show (σ.1 17) + (σ.1 18) ≤ 60000 from by omega) (show oc (σ.2.1 7) < 4096 from by omega), ?_⟩
              intro x22 r_x22 hq
              have q21_1 := hq
              replace q21_1 : -1 ≤ x22 ∧ x22 ≤ 1499 := q21_1
              refine ⟨fun c24 => ?_, fun c24 => ?_⟩
              ·
                refine ⟨fun c25 => ?_, fun c25 => ?_⟩
                ·
                  refine h214 _ _ _ ?_
                  first | (have nn9 : τ37.2.1 9 = σ.2.1 9 := by rw [g9_τ37, g9_τ33, g9_τ30]) | skip
                  first | (have nn3 : τ37.1 3 = σ.1 3 + 1 := by omega) | skip
                  first | (have cn2 : ca (st (τ37.2.1 9) (σ.1 3) n1) (τ37.1 3) = ca (st (σ.2.1 9) (σ.1 3) n1) (σ.1 3 + 1) := by rw [nn9, nn3]) | skip
                  refine ⟨(show 0 ≤ x2 ∧ x2 < 1001 from by omega), ?_⟩
                  refine ⟨(show 0 ≤ n1 ∧ n1 ≤ 1 from by omega), ?_⟩
                  replace hT := mT_a (k := 9) (j := x2) hT (show (0 : Int) ≤ n1 ∧ n1 ≤ 1 from by omega)
                  refine ⟨fun c43 => ?_, fun c43 => ?_⟩
                  ·
                    exact ⟨hT, (show oc (σ.2.1 6) ≤ (σ.1 3) from by omega), (show (σ.1 12) ≤ ca ((st (σ.2.1 9) x2 n1)) (σ.1 3) from by omega), (show j_lt (σ.2.1 6) (σ.1 3) from Y1)⟩
                  ·
                    refine ⟨(show 0 ≤ σ.1 12 ∧ σ.1 12 < 1001 from by omega), ?_⟩
                    replace hT := mT_a (k := 30) (j := (σ.1 12)) hT (show (0 : Int) ≤ x2 ∧ x2 ≤ 999 from by omega)
                    refine ⟨(⟨by omega, by omega⟩ : rg (σ.1 12 + 1)), ?_⟩
                    replace hT := mT_v (i := 12) hT (show 0 ≤ (σ.1 12 + 1) ∧ (σ.1 12 + 1) ≤ 1000 from by omega)
                    exact ⟨hT, (show oc (σ.2.1 6) ≤ (σ.1 3) from by omega), (show ((σ.1 12 + 1)) ≤ ca ((st (σ.2.1 9) x2 n1)) (σ.1 3) from by omega), (show j_lt (σ.2.1 6) (σ.1 3) from Y1)⟩
                ·
                  refine ⟨(⟨by omega, by omega⟩ : rg (σ.1 3 + 1)), ?_⟩
                  replace hT := mT_v (i := 3) hT (show 0 ≤ (σ.1 3 + 1) ∧ (σ.1 3 + 1) ≤ 1000 from by omega)
                  refine ⟨(show 0 ≤ σ.1 3 ∧ σ.1 3 < 1001 from by omega), ?_⟩
                  replace hT := mT_a (k := 2) (j := (σ.1 3)) hT (show (0 : Int) ≤ (σ.1 2) ∧ (σ.1 2) ≤ 30000 from by omega)
                  replace hT := mT_a (k := 3) (j := (σ.1 3)) hT (show (0 : Int) ≤ (σ.1 18) ∧ (σ.1 18) ≤ 60 from by omega)
                  refine ⟨_, K_X13_keepChars hT (show 0 ≤ (σ.1 17) from by omega) (show 0 ≤ (σ.1 18) from by omega) (show (σ.1 17) + (σ.1 18) ≤ 60000 from by omega) (show (σ.1 2) + (σ.1 18) ≤ 30000 from by omega), ?_⟩
                  intro τ30 hn_τ30 hf_τ30 hq
                  obtain ⟨hT, q28_1⟩ := hq
                  replace q28_1 : (τ30.1 2) = (σ.1 2) + (σ.1 18) := q28_1
                  have w0_τ30 : τ30.1 0 = σ.1 0 := hf_τ30.1 0 (by decide)
                  have w3_τ30 : τ30.1 3 = (σ.1 3 + 1) := hf_τ30.1 3 (by decide)
                  have w12_τ30 : τ30.1 12 = σ.1 12 := hf_τ30.1 12 (by decide)
                  have w17_τ30 : τ30.1 17 = σ.1 17 := hf_τ30.1 17 (by decide)
                  have w18_τ30 : τ30.1 18 = σ.1 18 := hf_τ30.1 18 (by decide)
                  have w20_τ30 : τ30.1 20 = σ.1 20 := hf_τ30.1 20 (by decide)
                  have g6_τ30 : τ30.2.1 6 = σ.2.1 6 := hf_τ30.2.1 6 (by decide)
                  have g7_τ30 : τ30.2.1 7 = σ.2.1 7 := hf_τ30.2.1 7 (by decide)
                  have g9_τ30 : τ30.2.1 9 = σ.2.1 9 := hf_τ30.2.1 9 (by decide)
                  first | (have ca_τ30 := congr (congrArg ca g9_τ30) w3_τ30) | skip
                  first | (have o6_τ30 := congrArg oc g6_τ30) | skip
                  first | (have o7_τ30 := congrArg oc g7_τ30) | skip
                  have W0 : τ30.1 0 = σ.1 0 := by omega
                  have W17 : τ30.1 17 = σ.1 17 := by omega
                  have W18 : τ30.1 18 = σ.1 18 := by omega
                  have G7 : τ30.2.1 7 = σ.2.1 7 := (g7_τ30).trans G7
                  have A6 : ∀ j, (-1) ≤ τ30.2.1 6 j ∧ τ30.2.1 6 j ≤ 999 := fun j => hT.2 6 j
                  have A7 : ∀ j, (-1) ≤ τ30.2.1 7 j ∧ τ30.2.1 7 j ≤ 1499 := fun j => hT.2 7 j
                  have A9 : ∀ j, 0 ≤ τ30.2.1 9 j ∧ τ30.2.1 9 j ≤ 1 := fun j => hT.2 9 j
                  have v0 : 0 ≤ τ30.1 0 ∧ τ30.1 0 ≤ 60000 := hT.1 0
                  have v2 : 0 ≤ τ30.1 2 ∧ τ30.1 2 ≤ 30000 := hT.1 2
                  have v3 : 0 ≤ τ30.1 3 ∧ τ30.1 3 ≤ 1000 := hT.1 3
                  have v12 : 0 ≤ τ30.1 12 ∧ τ30.1 12 ≤ 1000 := hT.1 12
                  have v17 : 0 ≤ τ30.1 17 ∧ τ30.1 17 ≤ 60000 := hT.1 17
                  have v18 : 0 ≤ τ30.1 18 ∧ τ30.1 18 ≤ 60000 := hT.1 18
                  have v20 : 0 ≤ τ30.1 20 ∧ τ30.1 20 ≤ 19 := hT.1 20
                  refine ⟨_, K_X13_keepSymbol hT (show 0 ≤ (σ.1 3) from by omega) (show (σ.1 3) < 1000 from by omega) (show oc (τ30.2.1 6) < 4096 from by omega), ?_⟩
                  intro τ33 hn_τ33 hf_τ33 hq
                  obtain ⟨hT, q31_1, q31_2⟩ := hq
                  replace q31_1 : oc (τ33.2.1 6) ≤ oc (τ30.2.1 6) + 1 := q31_1
                  replace q31_2 : ∃ e : Int, τ33.2.1 6 = st (τ30.2.1 6) e (σ.1 3) := q31_2
                  have w0_τ33 : τ33.1 0 = τ30.1 0 := hf_τ33.1 0 (by decide)
                  have w2_τ33 : τ33.1 2 = τ30.1 2 := hf_τ33.1 2 (by decide)
                  have w3_τ33 : τ33.1 3 = τ30.1 3 := hf_τ33.1 3 (by decide)
                  have w12_τ33 : τ33.1 12 = τ30.1 12 := hf_τ33.1 12 (by decide)
                  have w17_τ33 : τ33.1 17 = τ30.1 17 := hf_τ33.1 17 (by decide)
                  have w18_τ33 : τ33.1 18 = τ30.1 18 := hf_τ33.1 18 (by decide)
                  have w20_τ33 : τ33.1 20 = τ30.1 20 := hf_τ33.1 20 (by decide)
                  have g7_τ33 : τ33.2.1 7 = τ30.2.1 7 := hf_τ33.2.1 7 (by decide)
                  have g9_τ33 : τ33.2.1 9 = τ30.2.1 9 := hf_τ33.2.1 9 (by decide)
                  first | (have ca_τ33 := congr (congrArg ca g9_τ33) w3_τ33) | skip
                  first | (have o6_τ33 := congrArg oc g6_τ33) | skip
                  first | (have o7_τ33 := congrArg oc g7_τ33) | skip
                  have W0 : τ33.1 0 = σ.1 0 := by omega
                  have W17 : τ33.1 17 = σ.1 17 := by omega
                  have W18 : τ33.1 18 = σ.1 18 := by omega
                  have G7 : τ33.2.1 7 = σ.2.1 7 := (g7_τ33).trans G7
                  have A6 : ∀ j, (-1) ≤ τ33.2.1 6 j ∧ τ33.2.1 6 j ≤ 999 := fun j => hT.2 6 j
                  have A7 : ∀ j, (-1) ≤ τ33.2.1 7 j ∧ τ33.2.1 7 j ≤ 1499 := fun j => hT.2 7 j
                  have A9 : ∀ j, 0 ≤ τ33.2.1 9 j ∧ τ33.2.1 9 j ≤ 1 := fun j => hT.2 9 j
                  have v0 : 0 ≤ τ33.1 0 ∧ τ33.1 0 ≤ 60000 := hT.1 0
                  have v2 : 0 ≤ τ33.1 2 ∧ τ33.1 2 ≤ 30000 := hT.1 2
                  have v3 : 0 ≤ τ33.1 3 ∧ τ33.1 3 ≤ 1000 := hT.1 3
                  have v12 : 0 ≤ τ33.1 12 ∧ τ33.1 12 ≤ 1000 := hT.1 12
                  have v17 : 0 ≤ τ33.1 17 ∧ τ33.1 17 ≤ 60000 := hT.1 17
                  have v18 : 0 ≤ τ33.1 18 ∧ τ33.1 18 ≤ 60000 := hT.1 18
                  have v20 : 0 ≤ τ33.1 20 ∧ τ33.1 20 ≤ 19 := hT.1 20
                  refine ⟨(show 0 ≤ n1 ∧ n1 ≤ 1 from by omega), ?_⟩
                  replace hT := mT_a (k := 8) (j := (σ.1 3)) hT (show (0 : Int) ≤ n1 ∧ n1 ≤ 1 from by omega)
                  replace hT := mT_a (k := 10) (j := (σ.1 3)) hT (show (-1 : Int) ≤ (-1) ∧ (-1) ≤ 999 from by omega)
                  replace hT := mT_a (k := 11) (j := (σ.1 3)) hT (show (-1 : Int) ≤ (-1) ∧ (-1) ≤ 1499 from by omega)
                  replace hT := mT_a (k := 12) (j := (σ.1 3)) hT (show (0 : Int) ≤ 0 ∧ 0 ≤ 1 from by omega)
                  have cn := ca_n (σ.2.1 9) ((σ.1 3)) n1 (by omega)
                  have cb3 := ca_b (st (σ.2.1 9) ((σ.1 3)) n1) (n := (σ.1 3) + 1) (by omega)
                  refine ⟨_, K_X13_markNamed hT (show 0 ≤ (σ.1 3) from by omega) (show (σ.1 3) < 1000 from by omega), ?_⟩
                  intro τ37 hn_τ37 hf_τ37 hq
                  replace hT := hq
                  have w0_τ37 : τ37.1 0 = τ33.1 0 := hf_τ37.1 0 (by decide)
                  have w2_τ37 : τ37.1 2 = τ33.1 2 := hf_τ37.1 2 (by decide)
                  have w3_τ37 : τ37.1 3 = τ33.1 3 := hf_τ37.1 3 (by decide)
                  have w12_τ37 : τ37.1 12 = τ33.1 12 := hf_τ37.1 12 (by decide)
                  have w17_τ37 : τ37.1 17 = τ33.1 17 := hf_τ37.1 17 (by decide)
                  have w18_τ37 : τ37.1 18 = τ33.1 18 := hf_τ37.1 18 (by decide)
                  have w20_τ37 : τ37.1 20 = τ33.1 20 := hf_τ37.1 20 (by decide)
                  have g6_τ37 : τ37.2.1 6 = τ33.2.1 6 := hf_τ37.2.1 6 (by decide)
                  have g7_τ37 : τ37.2.1 7 = τ33.2.1 7 := hf_τ37.2.1 7 (by decide)
                  have g9_τ37 : τ37.2.1 9 = τ33.2.1 9 := hf_τ37.2.1 9 (by decide)
                  first | (have ca_τ37 := congr (congrArg ca g9_τ37) w3_τ37) | skip
                  first | (have o6_τ37 := congrArg oc g6_τ37) | skip
                  first | (have o7_τ37 := congrArg oc g7_τ37) | skip
                  have W0 : τ37.1 0 = σ.1 0 := by omega
                  have W17 : τ37.1 17 = σ.1 17 := by omega
                  have W18 : τ37.1 18 = σ.1 18 := by omega
                  have G7 : τ37.2.1 7 = σ.2.1 7 := (g7_τ37).trans G7
                  have A6 : ∀ j, (-1) ≤ τ37.2.1 6 j ∧ τ37.2.1 6 j ≤ 999 := fun j => hT.2 6 j
                  have A7 : ∀ j, (-1) ≤ τ37.2.1 7 j ∧ τ37.2.1 7 j ≤ 1499 := fun j => hT.2 7 j
                  have A9 : ∀ j, 0 ≤ τ37.2.1 9 j ∧ τ37.2.1 9 j ≤ 1 := fun j => hT.2 9 j
                  have v0 : 0 ≤ τ37.1 0 ∧ τ37.1 0 ≤ 60000 := hT.1 0
                  have v2 : 0 ≤ τ37.1 2 ∧ τ37.1 2 ≤ 30000 := hT.1 2
                  have v3 : 0 ≤ τ37.1 3 ∧ τ37.1 3 ≤ 1000 := hT.1 3
                  have v12 : 0 ≤ τ37.1 12 ∧ τ37.1 12 ≤ 1000 := hT.1 12
                  have v17 : 0 ≤ τ37.1 17 ∧ τ37.1 17 ≤ 60000 := hT.1 17
                  have v18 : 0 ≤ τ37.1 18 ∧ τ37.1 18 ≤ 60000 := hT.1 18
                  have v20 : 0 ≤ τ37.1 20 ∧ τ37.1 20 ≤ 19 := hT.1 20
                  refine h214 _ _ _ ?_
                  first | (have nn9 : τ37.2.1 9 = σ.2.1 9 := by rw [g9_τ37, g9_τ33, g9_τ30]) | skip
                  first | (have nn3 : τ37.1 3 = σ.1 3 + 1 := by omega) | skip
                  first | (have cn2 : ca (st (τ37.2.1 9) (σ.1 3) n1) (τ37.1 3) = ca (st (σ.2.1 9) (σ.1 3) n1) (σ.1 3 + 1) := by rw [nn9, nn3]) | skip
                  refine ⟨(show 0 ≤ (σ.1 3) ∧ (σ.1 3) < 1001 from by omega), ?_⟩
                  refine ⟨(show 0 ≤ n1 ∧ n1 ≤ 1 from by omega), ?_⟩
                  replace hT := mT_a (k := 9) (j := (σ.1 3)) hT (show (0 : Int) ≤ n1 ∧ n1 ≤ 1 from by omega)
                  refine ⟨fun c43 => ?_, fun c43 => ?_⟩
                  ·
                    exact ⟨hT, (show oc (τ37.2.1 6) ≤ (τ37.1 3) from by omega), (show (τ37.1 12) ≤ ca ((st (τ37.2.1 9) (σ.1 3) n1)) (τ37.1 3) from by omega), (show j_lt (τ37.2.1 6) (τ37.1 3) from by (intro e; first | exact p6 e | (rw [g6_τ12, w3_τ12]; exact p6 e) | (rw [g6_τ40, w3_τ40]; exact p6 e) | (obtain ⟨ee, he⟩ := q31_2; rw [g6_τ37, he]; unfold st; split; omega; have := p6 e; rw [g6_τ30]; omega)))⟩
                  ·
                    refine ⟨(show 0 ≤ τ37.1 12 ∧ τ37.1 12 < 1001 from by omega), ?_⟩
                    replace hT := mT_a (k := 30) (j := (τ37.1 12)) hT (show (0 : Int) ≤ (σ.1 3) ∧ (σ.1 3) ≤ 999 from by omega)
                    refine ⟨(⟨by omega, by omega⟩ : rg (τ37.1 12 + 1)), ?_⟩
                    replace hT := mT_v (i := 12) hT (show 0 ≤ (τ37.1 12 + 1) ∧ (τ37.1 12 + 1) ≤ 1000 from by omega)
                    exact ⟨hT, (show oc (τ37.2.1 6) ≤ (τ37.1 3) from by omega), (show ((τ37.1 12 + 1)) ≤ ca ((st (τ37.2.1 9) (σ.1 3) n1)) (τ37.1 3) from by omega), (show j_lt (τ37.2.1 6) (τ37.1 3) from by (intro e; first | exact p6 e | (rw [g6_τ12, w3_τ12]; exact p6 e) | (rw [g6_τ40, w3_τ40]; exact p6 e) | (obtain ⟨ee, he⟩ := q31_2; rw [g6_τ37, he]; unfold st; split; omega; have := p6 e; rw [g6_τ30]; omega)))⟩
              ·
                refine h118 _ ?_
                refine ⟨_, K_X13_failHere hT (show 0 ≤ 7 from by omega) (show 7 ≤ 19 from by omega), ?_⟩
                intro τ40 hn_τ40 hf_τ40 hq
                obtain ⟨hT, q38_1, q38_2⟩ := hq
                replace q38_1 : ¬ (σ.1 20) = 0 → (τ40.1 20) = (σ.1 20) := q38_1
                replace q38_2 : (σ.1 20) = 0 → (τ40.1 20) = 7 := q38_2
                have w0_τ40 : τ40.1 0 = σ.1 0 := hf_τ40.1 0 (by decide)
                have w2_τ40 : τ40.1 2 = σ.1 2 := hf_τ40.1 2 (by decide)
                have w3_τ40 : τ40.1 3 = σ.1 3 := hf_τ40.1 3 (by decide)
                have w12_τ40 : τ40.1 12 = σ.1 12 := hf_τ40.1 12 (by decide)
                have w17_τ40 : τ40.1 17 = σ.1 17 := hf_τ40.1 17 (by decide)
                have w18_τ40 : τ40.1 18 = σ.1 18 := hf_τ40.1 18 (by decide)
                have g6_τ40 : τ40.2.1 6 = σ.2.1 6 := hf_τ40.2.1 6 (by decide)
                have g7_τ40 : τ40.2.1 7 = σ.2.1 7 := hf_τ40.2.1 7 (by decide)
                have g9_τ40 : τ40.2.1 9 = σ.2.1 9 := hf_τ40.2.1 9 (by decide)
                first | (have ca_τ40 := congr (congrArg ca g9_τ40) w3_τ40) | skip
                first | (have o6_τ40 := congrArg oc g6_τ40) | skip
                first | (have o7_τ40 := congrArg oc g7_τ40) | skip
                have W0 : τ40.1 0 = σ.1 0 := by omega
                have W17 : τ40.1 17 = σ.1 17 := by omega
                have W18 : τ40.1 18 = σ.1 18 := by omega
                have G7 : τ40.2.1 7 = σ.2.1 7 := (g7_τ40).trans G7
                have Y1 : j_lt (τ40.2.1 6) (τ40.1 3) := by rw [show (j_lt (τ40.2.1 6) (τ40.1 3)) = (j_lt (σ.2.1 6) (σ.1 3)) from by rw [w3_τ40, g6_τ40]]; exact Y1
                have A6 : ∀ j, (-1) ≤ τ40.2.1 6 j ∧ τ40.2.1 6 j ≤ 999 := fun j => hT.2 6 j
                have A7 : ∀ j, (-1) ≤ τ40.2.1 7 j ∧ τ40.2.1 7 j ≤ 1499 := fun j => hT.2 7 j
                have A9 : ∀ j, 0 ≤ τ40.2.1 9 j ∧ τ40.2.1 9 j ≤ 1 := fun j => hT.2 9 j
                have v0 : 0 ≤ τ40.1 0 ∧ τ40.1 0 ≤ 60000 := hT.1 0
                have v2 : 0 ≤ τ40.1 2 ∧ τ40.1 2 ≤ 30000 := hT.1 2
                have v3 : 0 ≤ τ40.1 3 ∧ τ40.1 3 ≤ 1000 := hT.1 3
                have v12 : 0 ≤ τ40.1 12 ∧ τ40.1 12 ≤ 1000 := hT.1 12
                have v17 : 0 ≤ τ40.1 17 ∧ τ40.1 17 ≤ 60000 := hT.1 17
                have v18 : 0 ≤ τ40.1 18 ∧ τ40.1 18 ≤ 60000 := hT.1 18
                have v20 : 0 ≤ τ40.1 20 ∧ τ40.1 20 ≤ 19 := hT.1 20
                exact ⟨hT, (show oc (τ40.2.1 6) ≤ (τ40.1 3) from by omega), (show (τ40.1 12) ≤ ca (τ40.2.1 9) (τ40.1 3) from by omega), (show j_lt (τ40.2.1 6) (τ40.1 3) from Y1)⟩
          ·
            refine ⟨(show 0 ≤ x2 ∧ x2 < 1001 from by omega), ?_⟩
            intro x16 r_x16 e_x16
            have b_x16 : 0 ≤ x16 ∧ x16 ≤ 1 := by rw [e_x16]; exact hT.2 8 _
            refine ⟨fun c17 => ?_, fun c17 => ?_⟩
            ·
              have ax : x2 < (σ.1 3) := by rcases q1_2 with h | ⟨e, h⟩; omega; rw [h]; exact p6 e
              refine h91 _ _ _ _ _ ?_
              refine ⟨fun c20 => ?_, fun c20 => ?_⟩
              ·
                refine h118 _ ?_
                refine ⟨_, K_X13_failHere hT (show 0 ≤ 7 from by omega) (show 7 ≤ 19 from by omega), ?_⟩
                intro τ40 hn_τ40 hf_τ40 hq
                obtain ⟨hT, q38_1, q38_2⟩ := hq
                replace q38_1 : ¬ (σ.1 20) = 0 → (τ40.1 20) = (σ.1 20) := q38_1
                replace q38_2 : (σ.1 20) = 0 → (τ40.1 20) = 7 := q38_2
                have w0_τ40 : τ40.1 0 = σ.1 0 := hf_τ40.1 0 (by decide)
                have w2_τ40 : τ40.1 2 = σ.1 2 := hf_τ40.1 2 (by decide)
                have w3_τ40 : τ40.1 3 = σ.1 3 := hf_τ40.1 3 (by decide)
                have w12_τ40 : τ40.1 12 = σ.1 12 := hf_τ40.1 12 (by decide)
                have w17_τ40 : τ40.1 17 = σ.1 17 := hf_τ40.1 17 (by decide)
                have w18_τ40 : τ40.1 18 = σ.1 18 := hf_τ40.1 18 (by decide)
                have g6_τ40 : τ40.2.1 6 = σ.2.1 6 := hf_τ40.2.1 6 (by decide)
                have g7_τ40 : τ40.2.1 7 = σ.2.1 7 := hf_τ40.2.1 7 (by decide)
                have g9_τ40 : τ40.2.1 9 = σ.2.1 9 := hf_τ40.2.1 9 (by decide)
                first | (have ca_τ40 := congr (congrArg ca g9_τ40) w3_τ40) | skip
                first | (have o6_τ40 := congrArg oc g6_τ40) | skip
                first | (have o7_τ40 := congrArg oc g7_τ40) | skip
                have W0 : τ40.1 0 = σ.1 0 := by omega
                have W17 : τ40.1 17 = σ.1 17 := by omega
                have W18 : τ40.1 18 = σ.1 18 := by omega
                have G7 : τ40.2.1 7 = σ.2.1 7 := (g7_τ40).trans G7
                have Y1 : j_lt (τ40.2.1 6) (τ40.1 3) := by rw [show (j_lt (τ40.2.1 6) (τ40.1 3)) = (j_lt (σ.2.1 6) (σ.1 3)) from by rw [w3_τ40, g6_τ40]]; exact Y1
                have A6 : ∀ j, (-1) ≤ τ40.2.1 6 j ∧ τ40.2.1 6 j ≤ 999 := fun j => hT.2 6 j
                have A7 : ∀ j, (-1) ≤ τ40.2.1 7 j ∧ τ40.2.1 7 j ≤ 1499 := fun j => hT.2 7 j
                have A9 : ∀ j, 0 ≤ τ40.2.1 9 j ∧ τ40.2.1 9 j ≤ 1 := fun j => hT.2 9 j
                have v0 : 0 ≤ τ40.1 0 ∧ τ40.1 0 ≤ 60000 := hT.1 0
                have v2 : 0 ≤ τ40.1 2 ∧ τ40.1 2 ≤ 30000 := hT.1 2
                have v3 : 0 ≤ τ40.1 3 ∧ τ40.1 3 ≤ 1000 := hT.1 3
                have v12 : 0 ≤ τ40.1 12 ∧ τ40.1 12 ≤ 1000 := hT.1 12
                have v17 : 0 ≤ τ40.1 17 ∧ τ40.1 17 ≤ 60000 := hT.1 17
                have v18 : 0 ≤ τ40.1 18 ∧ τ40.1 18 ≤ 60000 := hT.1 18
                have v20 : 0 ≤ τ40.1 20 ∧ τ40.1 20 ≤ 19 := hT.1 20
                exact ⟨hT, (show oc (τ40.2.1 6) ≤ (τ40.1 3) from by omega), (show (τ40.1 12) ≤ ca (τ40.2.1 9) (τ40.1 3) from by omega), (show j_lt (τ40.2.1 6) (τ40.1 3) from Y1)⟩
              ·
                refine ⟨_, K_X13_findLabel_q1 hT (show 0 ≤ (σ.1 17) from by omega) (show (σ.1 17) + (σ.1 18) ≤ 60000 from by omega) (show oc (σ.2.1 7) < 4096 from by omega), ?_⟩
                intro x22 r_x22 hq
                have q21_1 := hq
                replace q21_1 : -1 ≤ x22 ∧ x22 ≤ 1499 := q21_1
                refine ⟨fun c24 => ?_, fun c24 => ?_⟩
                ·
                  refine ⟨fun c25 => ?_, fun c25 => ?_⟩
                  ·
                    refine h214 _ _ _ ?_
                    first | (have nn9 : τ37.2.1 9 = σ.2.1 9 := by rw [g9_τ37, g9_τ33, g9_τ30]) | skip
                    first | (have nn3 : τ37.1 3 = σ.1 3 + 1 := by omega) | skip
                    first | (have cn2 : ca (st (τ37.2.1 9) (σ.1 3) n1) (τ37.1 3) = ca (st (σ.2.1 9) (σ.1 3) n1) (σ.1 3 + 1) := by rw [nn9, nn3]) | skip
                    refine ⟨(show 0 ≤ x2 ∧ x2 < 1001 from by omega), ?_⟩
                    refine ⟨(show 0 ≤ n1 ∧ n1 ≤ 1 from by omega), ?_⟩
                    replace hT := mT_a (k := 9) (j := x2) hT (show (0 : Int) ≤ n1 ∧ n1 ≤ 1 from by omega)
                    refine ⟨fun c43 => ?_, fun c43 => ?_⟩
                    ·
                      exact ⟨hT, (show oc (σ.2.1 6) ≤ (σ.1 3) from by omega), (show (σ.1 12) ≤ ca ((st (σ.2.1 9) x2 n1)) (σ.1 3) from by omega), (show j_lt (σ.2.1 6) (σ.1 3) from Y1)⟩
                    ·
                      refine ⟨(show 0 ≤ σ.1 12 ∧ σ.1 12 < 1001 from by omega), ?_⟩
                      replace hT := mT_a (k := 30) (j := (σ.1 12)) hT (show (0 : Int) ≤ x2 ∧ x2 ≤ 999 from by omega)
                      refine ⟨(⟨by omega, by omega⟩ : rg (σ.1 12 + 1)), ?_⟩
                      replace hT := mT_v (i := 12) hT (show 0 ≤ (σ.1 12 + 1) ∧ (σ.1 12 + 1) ≤ 1000 from by omega)
                      exact ⟨hT, (show oc (σ.2.1 6) ≤ (σ.1 3) from by omega), (show ((σ.1 12 + 1)) ≤ ca ((st (σ.2.1 9) x2 n1)) (σ.1 3) from by omega), (show j_lt (σ.2.1 6) (σ.1 3) from Y1)⟩
                  ·
                    refine ⟨(⟨by omega, by omega⟩ : rg (σ.1 3 + 1)), ?_⟩
                    replace hT := mT_v (i := 3) hT (show 0 ≤ (σ.1 3 + 1) ∧ (σ.1 3 + 1) ≤ 1000 from by omega)
                    refine ⟨(show 0 ≤ σ.1 3 ∧ σ.1 3 < 1001 from by omega), ?_⟩
                    replace hT := mT_a (k := 2) (j := (σ.1 3)) hT (show (0 : Int) ≤ (σ.1 2) ∧ (σ.1 2) ≤ 30000 from by omega)
                    replace hT := mT_a (k := 3) (j := (σ.1 3)) hT (show (0 : Int) ≤ (σ.1 18) ∧ (σ.1 18) ≤ 60 from by omega)
                    refine ⟨_, K_X13_keepChars hT (show 0 ≤ (σ.1 17) from by omega) (show 0 ≤ (σ.1 18) from by omega) (show (σ.1 17) + (σ.1 18) ≤ 60000 from by omega) (show (σ.1 2) + (σ.1 18) ≤ 30000 from by omega), ?_⟩
                    intro τ30 hn_τ30 hf_τ30 hq
                    obtain ⟨hT, q28_1⟩ := hq
                    replace q28_1 : (τ30.1 2) = (σ.1 2) + (σ.1 18) := q28_1
                    have w0_τ30 : τ30.1 0 = σ.1 0 := hf_τ30.1 0 (by decide)
                    have w3_τ30 : τ30.1 3 = (σ.1 3 + 1) := hf_τ30.1 3 (by decide)
                    have w12_τ30 : τ30.1 12 = σ.1 12 := hf_τ30.1 12 (by decide)
                    have w17_τ30 : τ30.1 17 = σ.1 17 := hf_τ30.1 17 (by decide)
                    have w18_τ30 : τ30.1 18 = σ.1 18 := hf_τ30.1 18 (by decide)
                    have w20_τ30 : τ30.1 20 = σ.1 20 := hf_τ30.1 20 (by decide)
                    have g6_τ30 : τ30.2.1 6 = σ.2.1 6 := hf_τ30.2.1 6 (by decide)
                    have g7_τ30 : τ30.2.1 7 = σ.2.1 7 := hf_τ30.2.1 7 (by decide)
                    have g9_τ30 : τ30.2.1 9 = σ.2.1 9 := hf_τ30.2.1 9 (by decide)
                    first | (have ca_τ30 := congr (congrArg ca g9_τ30) w3_τ30) | skip
                    first | (have o6_τ30 := congrArg oc g6_τ30) | skip
                    first | (have o7_τ30 := congrArg oc g7_τ30) | skip
                    have W0 : τ30.1 0 = σ.1 0 := by omega
                    have W17 : τ30.1 17 = σ.1 17 := by omega
                    have W18 : τ30.1 18 = σ.1 18 := by omega
                    have G7 : τ30.2.1 7 = σ.2.1 7 := (g7_τ30).trans G7
                    have A6 : ∀ j, (-1) ≤ τ30.2.1 6 j ∧ τ30.2.1 6 j ≤ 999 := fun j => hT.2 6 j
                    have A7 : ∀ j, (-1) ≤ τ30.2.1 7 j ∧ τ30.2.1 7 j ≤ 1499 := fun j => hT.2 7 j
                    have A9 : ∀ j, 0 ≤ τ30.2.1 9 j ∧ τ30.2.1 9 j ≤ 1 := fun j => hT.2 9 j
                    have v0 : 0 ≤ τ30.1 0 ∧ τ30.1 0 ≤ 60000 := hT.1 0
                    have v2 : 0 ≤ τ30.1 2 ∧ τ30.1 2 ≤ 30000 := hT.1 2
                    have v3 : 0 ≤ τ30.1 3 ∧ τ30.1 3 ≤ 1000 := hT.1 3
                    have v12 : 0 ≤ τ30.1 12 ∧ τ30.1 12 ≤ 1000 := hT.1 12
                    have v17 : 0 ≤ τ30.1 17 ∧ τ30.1 17 ≤ 60000 := hT.1 17
                    have v18 : 0 ≤ τ30.1 18 ∧ τ30.1 18 ≤ 60000 := hT.1 18
                    have v20 : 0 ≤ τ30.1 20 ∧ τ30.1 20 ≤ 19 := hT.1 20
                    refine ⟨_, K_X13_keepSymbol hT (show 0 ≤ (σ.1 3) from by omega) (show (σ.1 3) < 1000 from by omega) (show oc (τ30.2.1 6) < 4096 from by omega), ?_⟩
                    intro τ33 hn_τ33 hf_τ33 hq
                    obtain ⟨hT, q31_1, q31_2⟩ := hq
                    replace q31_1 : oc (τ33.2.1 6) ≤ oc (τ30.2.1 6) + 1 := q31_1
                    replace q31_2 : ∃ e : Int, τ33.2.1 6 = st (τ30.2.1 6) e (σ.1 3) := q31_2
                    have w0_τ33 : τ33.1 0 = τ30.1 0 := hf_τ33.1 0 (by decide)
                    have w2_τ33 : τ33.1 2 = τ30.1 2 := hf_τ33.1 2 (by decide)
                    have w3_τ33 : τ33.1 3 = τ30.1 3 := hf_τ33.1 3 (by decide)
                    have w12_τ33 : τ33.1 12 = τ30.1 12 := hf_τ33.1 12 (by decide)
                    have w17_τ33 : τ33.1 17 = τ30.1 17 := hf_τ33.1 17 (by decide)
                    have w18_τ33 : τ33.1 18 = τ30.1 18 := hf_τ33.1 18 (by decide)
                    have w20_τ33 : τ33.1 20 = τ30.1 20 := hf_τ33.1 20 (by decide)
                    have g7_τ33 : τ33.2.1 7 = τ30.2.1 7 := hf_τ33.2.1 7 (by decide)
                    have g9_τ33 : τ33.2.1 9 = τ30.2.1 9 := hf_τ33.2.1 9 (by decide)
                    first | (have ca_τ33 := congr (congrArg ca g9_τ33) w3_τ33) | skip
                    first | (have o6_τ33 := congrArg oc g6_τ33) | skip
                    first | (have o7_τ33 := congrArg oc g7_τ33) | skip
                    have W0 : τ33.1 0 = σ.1 0 := by omega
                    have W17 : τ33.1 17 = σ.1 17 := by omega
                    have W18 : τ33.1 18 = σ.1 18 := by omega
                    have G7 : τ33.2.1 7 = σ.2.1 7 := (g7_τ33).trans G7
                    have A6 : ∀ j, (-1) ≤ τ33.2.1 6 j ∧ τ33.2.1 6 j ≤ 999 := fun j => hT.2 6 j
                    have A7 : ∀ j, (-1) ≤ τ33.2.1 7 j ∧ τ33.2.1 7 j ≤ 1499 := fun j => hT.2 7 j
                    have A9 : ∀ j, 0 ≤ τ33.2.1 9 j ∧ τ33.2.1 9 j ≤ 1 := fun j => hT.2 9 j
                    have v0 : 0 ≤ τ33.1 0 ∧ τ33.1 0 ≤ 60000 := hT.1 0
                    have v2 : 0 ≤ τ33.1 2 ∧ τ33.1 2 ≤ 30000 := hT.1 2
                    have v3 : 0 ≤ τ33.1 3 ∧ τ33.1 3 ≤ 1000 := hT.1 3
                    have v12 : 0 ≤ τ33.1 12 ∧ τ33.1 12 ≤ 1000 := hT.1 12
                    have v17 : 0 ≤ τ33.1 17 ∧ τ33.1 17 ≤ 60000 := hT.1 17
                    have v18 : 0 ≤ τ33.1 18 ∧ τ33.1 18 ≤ 60000 := hT.1 18
                    have v20 : 0 ≤ τ33.1 20 ∧ τ33.1 20 ≤ 19 := hT.1 20
                    refine ⟨(show 0 ≤ n1 ∧ n1 ≤ 1 from by omega), ?_⟩
                    replace hT := mT_a (k := 8) (j := (σ.1 3)) hT (show (0 : Int) ≤ n1 ∧ n1 ≤ 1 from by omega)
                    replace hT := mT_a (k := 10) (j := (σ.1 3)) hT (show (-1 : Int) ≤ (-1) ∧ (-1) ≤ 999 from by omega)
                    replace hT := mT_a (k := 11) (j := (σ.1 3)) hT (show (-1 : Int) ≤ (-1) ∧ (-1) ≤ 1499 from by omega)
                    replace hT := mT_a (k := 12) (j := (σ.1 3)) hT (show (0 : Int) ≤ 0 ∧ 0 ≤ 1 from by omega)
                    have cn := ca_n (σ.2.1 9) ((σ.1 3)) n1 (by omega)
                    have cb3 := ca_b (st (σ.2.1 9) ((σ.1 3)) n1) (n := (σ.1 3) + 1) (by omega)
                    refine ⟨_, K_X13_markNamed hT (show 0 ≤ (σ.1 3) from by omega) (show (σ.1 3) < 1000 from by omega), ?_⟩
                    intro τ37 hn_τ37 hf_τ37 hq
                    replace hT := hq
                    have w0_τ37 : τ37.1 0 = τ33.1 0 := hf_τ37.1 0 (by decide)
                    have w2_τ37 : τ37.1 2 = τ33.1 2 := hf_τ37.1 2 (by decide)
                    have w3_τ37 : τ37.1 3 = τ33.1 3 := hf_τ37.1 3 (by decide)
                    have w12_τ37 : τ37.1 12 = τ33.1 12 := hf_τ37.1 12 (by decide)
                    have w17_τ37 : τ37.1 17 = τ33.1 17 := hf_τ37.1 17 (by decide)
                    have w18_τ37 : τ37.1 18 = τ33.1 18 := hf_τ37.1 18 (by decide)
                    have w20_τ37 : τ37.1 20 = τ33.1 20 := hf_τ37.1 20 (by decide)
                    have g6_τ37 : τ37.2.1 6 = τ33.2.1 6 := hf_τ37.2.1 6 (by decide)
                    have g7_τ37 : τ37.2.1 7 = τ33.2.1 7 := hf_τ37.2.1 7 (by decide)
                    have g9_τ37 : τ37.2.1 9 = τ33.2.1 9 := hf_τ37.2.1 9 (by decide)
                    first | (have ca_τ37 := congr (congrArg ca g9_τ37) w3_τ37) | skip
                    first | (have o6_τ37 := congrArg oc g6_τ37) | skip
                    first | (have o7_τ37 := congrArg oc g7_τ37) | skip
                    have W0 : τ37.1 0 = σ.1 0 := by omega
                    have W17 : τ37.1 17 = σ.1 17 := by omega
                    have W18 : τ37.1 18 = σ.1 18 := by omega
                    have G7 : τ37.2.1 7 = σ.2.1 7 := (g7_τ37).trans G7
                    have A6 : ∀ j, (-1) ≤ τ37.2.1 6 j ∧ τ37.2.1 6 j ≤ 999 := fun j => hT.2 6 j
                    have A7 : ∀ j, (-1) ≤ τ37.2.1 7 j ∧ τ37.2.1 7 j ≤ 1499 := fun j => hT.2 7 j
                    have A9 : ∀ j, 0 ≤ τ37.2.1 9 j ∧ τ37.2.1 9 j ≤ 1 := fun j => hT.2 9 j
                    have v0 : 0 ≤ τ37.1 0 ∧ τ37.1 0 ≤ 60000 := hT.1 0
                    have v2 : 0 ≤ τ37.1 2 ∧ τ37.1 2 ≤ 30000 := hT.1 2
                    have v3 : 0 ≤ τ37.1 3 ∧ τ37.1 3 ≤ 1000 := hT.1 3
                    have v12 : 0 ≤ τ37.1 12 ∧ τ37.1 12 ≤ 1000 := hT.1 12
                    have v17 : 0 ≤ τ37.1 17 ∧ τ37.1 17 ≤ 60000 := hT.1 17
                    have v18 : 0 ≤ τ37.1 18 ∧ τ37.1 18 ≤ 60000 := hT.1 18
                    have v20 : 0 ≤ τ37.1 20 ∧ τ37.1 20 ≤ 19 := hT.1 20
                    refine h214 _ _ _ ?_
                    first | (have nn9 : τ37.2.1 9 = σ.2.1 9 := by rw [g9_τ37, g9_τ33, g9_τ30]) | skip
                    first | (have nn3 : τ37.1 3 = σ.1 3 + 1 := by omega) | skip
                    first | (have cn2 : ca (st (τ37.2.1 9) (σ.1 3) n1) (τ37.1 3) = ca (st (σ.2.1 9) (σ.1 3) n1) (σ.1 3 + 1) := by rw [nn9, nn3]) | skip
                    refine ⟨(show 0 ≤ (σ.1 3) ∧ (σ.1 3) < 1001 from by omega), ?_⟩
                    refine ⟨(show 0 ≤ n1 ∧ n1 ≤ 1 from by omega), ?_⟩
                    replace hT := mT_a (k := 9) (j := (σ.1 3)) hT (show (0 : Int) ≤ n1 ∧ n1 ≤ 1 from by omega)
                    refine ⟨fun c43 => ?_, fun c43 => ?_⟩
                    ·
                      exact ⟨hT, (show oc (τ37.2.1 6) ≤ (τ37.1 3) from by omega), (show (τ37.1 12) ≤ ca ((st (τ37.2.1 9) (σ.1 3) n1)) (τ37.1 3) from by omega), (show j_lt (τ37.2.1 6) (τ37.1 3) from by (intro e; first | exact p6 e | (rw [g6_τ12, w3_τ12]; exact p6 e) | (rw [g6_τ40, w3_τ40]; exact p6 e) | (obtain ⟨ee, he⟩ := q31_2; rw [g6_τ37, he]; unfold st; split; omega; have := p6 e; rw [g6_τ30]; omega)))⟩
                    ·
                      refine ⟨(show 0 ≤ τ37.1 12 ∧ τ37.1 12 < 1001 from by omega), ?_⟩
                      replace hT := mT_a (k := 30) (j := (τ37.1 12)) hT (show (0 : Int) ≤ (σ.1 3) ∧ (σ.1 3) ≤ 999 from by omega)
                      refine ⟨(⟨by omega, by omega⟩ : rg (τ37.1 12 + 1)), ?_⟩
                      replace hT := mT_v (i := 12) hT (show 0 ≤ (τ37.1 12 + 1) ∧ (τ37.1 12 + 1) ≤ 1000 from by omega)
                      exact ⟨hT, (show oc (τ37.2.1 6) ≤ (τ37.1 3) from by omega), (show ((τ37.1 12 + 1)) ≤ ca ((st (τ37.2.1 9) (σ.1 3) n1)) (τ37.1 3) from by omega), (show j_lt (τ37.2.1 6) (τ37.1 3) from by (intro e; first | exact p6 e | (rw [g6_τ12, w3_τ12]; exact p6 e) | (rw [g6_τ40, w3_τ40]; exact p6 e) | (obtain ⟨ee, he⟩ := q31_2; rw [g6_τ37, he]; unfold st; split; omega; have := p6 e; rw [g6_τ30]; omega)))⟩
                ·
                  refine h118 _ ?_
                  refine ⟨_, K_X13_failHere hT (show 0 ≤ 7 from by omega) (show 7 ≤ 19 from by omega), ?_⟩
                  intro τ40 hn_τ40 hf_τ40 hq
                  obtain ⟨hT, q38_1, q38_2⟩ := hq
                  replace q38_1 : ¬ (σ.1 20) = 0 → (τ40.1 20) = (σ.1 20) := q38_1
                  replace q38_2 : (σ.1 20) = 0 → (τ40.1 20) = 7 := q38_2
                  have w0_τ40 : τ40.1 0 = σ.1 0 := hf_τ40.1 0 (by decide)
                  have w2_τ40 : τ40.1 2 = σ.1 2 := hf_τ40.1 2 (by decide)
                  have w3_τ40 : τ40.1 3 = σ.1 3 := hf_τ40.1 3 (by decide)
                  have w12_τ40 : τ40.1 12 = σ.1 12 := hf_τ40.1 12 (by decide)
                  have w17_τ40 : τ40.1 17 = σ.1 17 := hf_τ40.1 17 (by decide)
                  have w18_τ40 : τ40.1 18 = σ.1 18 := hf_τ40.1 18 (by decide)
                  have g6_τ40 : τ40.2.1 6 = σ.2.1 6 := hf_τ40.2.1 6 (by decide)
                  have g7_τ40 : τ40.2.1 7 = σ.2.1 7 := hf_τ40.2.1 7 (by decide)
                  have g9_τ40 : τ40.2.1 9 = σ.2.1 9 := hf_τ40.2.1 9 (by decide)
                  first | (have ca_τ40 := congr (congrArg ca g9_τ40) w3_τ40) | skip
                  first | (have o6_τ40 := congrArg oc g6_τ40) | skip
                  first | (have o7_τ40 := congrArg oc g7_τ40) | skip
                  have W0 : τ40.1 0 = σ.1 0 := by omega
                  have W17 : τ40.1 17 = σ.1 17 := by omega
                  have W18 : τ40.1 18 = σ.1 18 := by omega
                  have G7 : τ40.2.1 7 = σ.2.1 7 := (g7_τ40).trans G7
                  have Y1 : j_lt (τ40.2.1 6) (τ40.1 3) := by rw [show (j_lt (τ40.2.1 6) (τ40.1 3)) = (j_lt (σ.2.1 6) (σ.1 3)) from by rw [w3_τ40, g6_τ40]]; exact Y1
                  have A6 : ∀ j, (-1) ≤ τ40.2.1 6 j ∧ τ40.2.1 6 j ≤ 999 := fun j => hT.2 6 j
                  have A7 : ∀ j, (-1) ≤ τ40.2.1 7 j ∧ τ40.2.1 7 j ≤ 1499 := fun j => hT.2 7 j
                  have A9 : ∀ j, 0 ≤ τ40.2.1 9 j ∧ τ40.2.1 9 j ≤ 1 := fun j => hT.2 9 j
                  have v0 : 0 ≤ τ40.1 0 ∧ τ40.1 0 ≤ 60000 := hT.1 0
                  have v2 : 0 ≤ τ40.1 2 ∧ τ40.1 2 ≤ 30000 := hT.1 2
                  have v3 : 0 ≤ τ40.1 3 ∧ τ40.1 3 ≤ 1000 := hT.1 3
                  have v12 : 0 ≤ τ40.1 12 ∧ τ40.1 12 ≤ 1000 := hT.1 12
                  have v17 : 0 ≤ τ40.1 17 ∧ τ40.1 17 ≤ 60000 := hT.1 17
                  have v18 : 0 ≤ τ40.1 18 ∧ τ40.1 18 ≤ 60000 := hT.1 18
                  have v20 : 0 ≤ τ40.1 20 ∧ τ40.1 20 ≤ 19 := hT.1 20
                  exact ⟨hT, (show oc (τ40.2.1 6) ≤ (τ40.1 3) from by omega), (show (τ40.1 12) ≤ ca (τ40.2.1 9) (τ40.1 3) from by omega), (show j_lt (τ40.2.1 6) (τ40.1 3) from Y1)⟩
            ·
              have ax : x2 < (σ.1 3) := by rcases q1_2 with h | ⟨e, h⟩; omega; rw [h]; exact p6 e
              intro x18 r_x18 e_x18
              have b_x18 : 0 ≤ x18 ∧ x18 ≤ 1 := by rw [e_x18]; exact hT.2 9 _
              refine ⟨fun c19 => ?_, fun c19 => ?_⟩
              ·
                have ct := fun h1 : ¬ n1 = 0 => fun h2 : x18 = 0 => ca_t1 (σ.2.1 9) x2 ((σ.1 3)) n1 (by omega) ax (by rw [← e_x18]; exact h2) h1
                have cb2 := ca_b (st (σ.2.1 9) x2 n1) (n := (σ.1 3)) (by omega)
                refine h91 _ _ _ _ _ ?_
                refine ⟨fun c20 => ?_, fun c20 => ?_⟩
                ·
                  refine h118 _ ?_
                  refine ⟨_, K_X13_failHere hT (show 0 ≤ 7 from by omega) (show 7 ≤ 19 from by omega), ?_⟩
                  intro τ40 hn_τ40 hf_τ40 hq
                  obtain ⟨hT, q38_1, q38_2⟩ := hq
                  replace q38_1 : ¬ (σ.1 20) = 0 → (τ40.1 20) = (σ.1 20) := q38_1
                  replace q38_2 : (σ.1 20) = 0 → (τ40.1 20) = 7 := q38_2
                  have w0_τ40 : τ40.1 0 = σ.1 0 := hf_τ40.1 0 (by decide)
                  have w2_τ40 : τ40.1 2 = σ.1 2 := hf_τ40.1 2 (by decide)
                  have w3_τ40 : τ40.1 3 = σ.1 3 := hf_τ40.1 3 (by decide)
                  have w12_τ40 : τ40.1 12 = σ.1 12 := hf_τ40.1 12 (by decide)
                  have w17_τ40 : τ40.1 17 = σ.1 17 := hf_τ40.1 17 (by decide)
                  have w18_τ40 : τ40.1 18 = σ.1 18 := hf_τ40.1 18 (by decide)
                  have g6_τ40 : τ40.2.1 6 = σ.2.1 6 := hf_τ40.2.1 6 (by decide)
                  have g7_τ40 : τ40.2.1 7 = σ.2.1 7 := hf_τ40.2.1 7 (by decide)
                  have g9_τ40 : τ40.2.1 9 = σ.2.1 9 := hf_τ40.2.1 9 (by decide)
                  first | (have ca_τ40 := congr (congrArg ca g9_τ40) w3_τ40) | skip
                  first | (have o6_τ40 := congrArg oc g6_τ40) | skip
                  first | (have o7_τ40 := congrArg oc g7_τ40) | skip
                  have W0 : τ40.1 0 = σ.1 0 := by omega
                  have W17 : τ40.1 17 = σ.1 17 := by omega
                  have W18 : τ40.1 18 = σ.1 18 := by omega
                  have G7 : τ40.2.1 7 = σ.2.1 7 := (g7_τ40).trans G7
                  have Y1 : j_lt (τ40.2.1 6) (τ40.1 3) := by rw [show (j_lt (τ40.2.1 6) (τ40.1 3)) = (j_lt (σ.2.1 6) (σ.1 3)) from by rw [w3_τ40, g6_τ40]]; exact Y1
                  have A6 : ∀ j, (-1) ≤ τ40.2.1 6 j ∧ τ40.2.1 6 j ≤ 999 := fun j => hT.2 6 j
                  have A7 : ∀ j, (-1) ≤ τ40.2.1 7 j ∧ τ40.2.1 7 j ≤ 1499 := fun j => hT.2 7 j
                  have A9 : ∀ j, 0 ≤ τ40.2.1 9 j ∧ τ40.2.1 9 j ≤ 1 := fun j => hT.2 9 j
                  have v0 : 0 ≤ τ40.1 0 ∧ τ40.1 0 ≤ 60000 := hT.1 0
                  have v2 : 0 ≤ τ40.1 2 ∧ τ40.1 2 ≤ 30000 := hT.1 2
                  have v3 : 0 ≤ τ40.1 3 ∧ τ40.1 3 ≤ 1000 := hT.1 3
                  have v12 : 0 ≤ τ40.1 12 ∧ τ40.1 12 ≤ 1000 := hT.1 12
                  have v17 : 0 ≤ τ40.1 17 ∧ τ40.1 17 ≤ 60000 := hT.1 17
                  have v18 : 0 ≤ τ40.1 18 ∧ τ40.1 18 ≤ 60000 := hT.1 18
                  have v20 : 0 ≤ τ40.1 20 ∧ τ40.1 20 ≤ 19 := hT.1 20
                  exact ⟨hT, (show oc (τ40.2.1 6) ≤ (τ40.1 3) from by omega), (show (τ40.1 12) ≤ ca (τ40.2.1 9) (τ40.1 3) from by omega), (show j_lt (τ40.2.1 6) (τ40.1 3) from Y1)⟩
                ·
                  refine ⟨_, K_X13_findLabel_q1 hT (show 0 ≤ (σ.1 17) from by omega) (show (σ.1 17) + (σ.1 18) ≤ 60000 from by omega) (show oc (σ.2.1 7) < 4096 from by omega), ?_⟩
                  intro x22 r_x22 hq
                  have q21_1 := hq
                  replace q21_1 : -1 ≤ x22 ∧ x22 ≤ 1499 := q21_1
                  refine ⟨fun c24 => ?_, fun c24 => ?_⟩
                  ·
                    refine ⟨fun c25 => ?_, fun c25 => ?_⟩
                    ·
                      refine h214 _ _ _ ?_
                      first | (have nn9 : τ37.2.1 9 = σ.2.1 9 := by rw [g9_τ37, g9_τ33, g9_τ30]) | skip
                      first | (have nn3 : τ37.1 3 = σ.1 3 + 1 := by omega) | skip
                      first | (have cn2 : ca (st (τ37.2.1 9) (σ.1 3) n1) (τ37.1 3) = ca (st (σ.2.1 9) (σ.1 3) n1) (σ.1 3 + 1) := by rw [nn9, nn3]) | skip
                      refine ⟨(show 0 ≤ x2 ∧ x2 < 1001 from by omega), ?_⟩
                      refine ⟨(show 0 ≤ n1 ∧ n1 ≤ 1 from by omega), ?_⟩
                      replace hT := mT_a (k := 9) (j := x2) hT (show (0 : Int) ≤ n1 ∧ n1 ≤ 1 from by omega)
                      refine ⟨fun c43 => ?_, fun c43 => ?_⟩
                      ·
                        exact ⟨hT, (show oc (σ.2.1 6) ≤ (σ.1 3) from by omega), (show (σ.1 12) ≤ ca ((st (σ.2.1 9) x2 n1)) (σ.1 3) from by omega), (show j_lt (σ.2.1 6) (σ.1 3) from Y1)⟩
                      ·
                        refine ⟨(show 0 ≤ σ.1 12 ∧ σ.1 12 < 1001 from by omega), ?_⟩
                        replace hT := mT_a (k := 30) (j := (σ.1 12)) hT (show (0 : Int) ≤ x2 ∧ x2 ≤ 999 from by omega)
                        refine ⟨(⟨by omega, by omega⟩ : rg (σ.1 12 + 1)), ?_⟩
                        replace hT := mT_v (i := 12) hT (show 0 ≤ (σ.1 12 + 1) ∧ (σ.1 12 + 1) ≤ 1000 from by omega)
                        exact ⟨hT, (show oc (σ.2.1 6) ≤ (σ.1 3) from by omega), (show ((σ.1 12 + 1)) ≤ ca ((st (σ.2.1 9) x2 n1)) (σ.1 3) from by omega), (show j_lt (σ.2.1 6) (σ.1 3) from Y1)⟩
                    ·
                      refine ⟨(⟨by omega, by omega⟩ : rg (σ.1 3 + 1)), ?_⟩
                      replace hT := mT_v (i := 3) hT (show 0 ≤ (σ.1 3 + 1) ∧ (σ.1 3 + 1) ≤ 1000 from by omega)
                      refine ⟨(show 0 ≤ σ.1 3 ∧ σ.1 3 < 1001 from by omega), ?_⟩
                      replace hT := mT_a (k := 2) (j := (σ.1 3)) hT (show (0 : Int) ≤ (σ.1 2) ∧ (σ.1 2) ≤ 30000 from by omega)
                      replace hT := mT_a (k := 3) (j := (σ.1 3)) hT (show (0 : Int) ≤ (σ.1 18) ∧ (σ.1 18) ≤ 60 from by omega)
                      refine ⟨_, K_X13_keepChars hT (show 0 ≤ (σ.1 17) from by omega) (show 0 ≤ (σ.1 18) from by omega) (show (σ.1 17) + (σ.1 18) ≤ 60000 from by omega) (show (σ.1 2) + (σ.1 18) ≤ 30000 from by omega), ?_⟩
                      intro τ30 hn_τ30 hf_τ30 hq
                      obtain ⟨hT, q28_1⟩ := hq
                      replace q28_1 : (τ30.1 2) = (σ.1 2) + (σ.1 18) := q28_1
                      have w0_τ30 : τ30.1 0 = σ.1 0 := hf_τ30.1 0 (by decide)
                      have w3_τ30 : τ30.1 3 = (σ.1 3 + 1) := hf_τ30.1 3 (by decide)
                      have w12_τ30 : τ30.1 12 = σ.1 12 := hf_τ30.1 12 (by decide)
                      have w17_τ30 : τ30.1 17 = σ.1 17 := hf_τ30.1 17 (by decide)
                      have w18_τ30 : τ30.1 18 = σ.1 18 := hf_τ30.1 18 (by decide)
                      have w20_τ30 : τ30.1 20 = σ.1 20 := hf_τ30.1 20 (by decide)
                      have g6_τ30 : τ30.2.1 6 = σ.2.1 6 := hf_τ30.2.1 6 (by decide)
                      have g7_τ30 : τ30.2.1 7 = σ.2.1 7 := hf_τ30.2.1 7 (by decide)
                      have g9_τ30 : τ30.2.1 9 = σ.2.1 9 := hf_τ30.2.1 9 (by decide)
                      first | (have ca_τ30 := congr (congrArg ca g9_τ30) w3_τ30) | skip
                      first | (have o6_τ30 := congrArg oc g6_τ30) | skip
                      first | (have o7_τ30 := congrArg oc g7_τ30) | skip
                      have W0 : τ30.1 0 = σ.1 0 := by omega
                      have W17 : τ30.1 17 = σ.1 17 := by omega
                      have W18 : τ30.1 18 = σ.1 18 := by omega
                      have G7 : τ30.2.1 7 = σ.2.1 7 := (g7_τ30).trans G7
                      have A6 : ∀ j, (-1) ≤ τ30.2.1 6 j ∧ τ30.2.1 6 j ≤ 999 := fun j => hT.2 6 j
                      have A7 : ∀ j, (-1) ≤ τ30.2.1 7 j ∧ τ30.2.1 7 j ≤ 1499 := fun j => hT.2 7 j
                      have A9 : ∀ j, 0 ≤ τ30.2.1 9 j ∧ τ30.2.1 9 j ≤ 1 := fun j => hT.2 9 j
                      have v0 : 0 ≤ τ30.1 0 ∧ τ30.1 0 ≤ 60000 := hT.1 0
                      have v2 : 0 ≤ τ30.1 2 ∧ τ30.1 2 ≤ 30000 := hT.1 2
                      have v3 : 0 ≤ τ30.1 3 ∧ τ30.1 3 ≤ 1000 := hT.1 3
                      have v12 : 0 ≤ τ30.1 12 ∧ τ30.1 12 ≤ 1000 := hT.1 12
                      have v17 : 0 ≤ τ30.1 17 ∧ τ30.1 17 ≤ 60000 := hT.1 17
                      have v18 : 0 ≤ τ30.1 18 ∧ τ30.1 18 ≤ 60000 := hT.1 18
                      have v20 : 0 ≤ τ30.1 20 ∧ τ30.1 20 ≤ 19 := hT.1 20
                      refine ⟨_, K_X13_keepSymbol hT (show 0 ≤ (σ.1 3) from by omega) (show (σ.1 3) < 1000 from by omega) (show oc (τ30.2.1 6) < 4096 from by omega), ?_⟩
                      intro τ33 hn_τ33 hf_τ33 hq
                      obtain ⟨hT, q31_1, q31_2⟩ := hq
                      replace q31_1 : oc (τ33.2.1 6) ≤ oc (τ30.2.1 6) + 1 := q31_1
                      replace q31_2 : ∃ e : Int, τ33.2.1 6 = st (τ30.2.1 6) e (σ.1 3) := q31_2
                      have w0_τ33 : τ33.1 0 = τ30.1 0 := hf_τ33.1 0 (by decide)
                      have w2_τ33 : τ33.1 2 = τ30.1 2 := hf_τ33.1 2 (by decide)
                      have w3_τ33 : τ33.1 3 = τ30.1 3 := hf_τ33.1 3 (by decide)
                      have w12_τ33 : τ33.1 12 = τ30.1 12 := hf_τ33.1 12 (by decide)
                      have w17_τ33 : τ33.1 17 = τ30.1 17 := hf_τ33.1 17 (by decide)
                      have w18_τ33 : τ33.1 18 = τ30.1 18 := hf_τ33.1 18 (by decide)
                      have w20_τ33 : τ33.1 20 = τ30.1 20 := hf_τ33.1 20 (by decide)
                      have g7_τ33 : τ33.2.1 7 = τ30.2.1 7 := hf_τ33.2.1 7 (by decide)
                      have g9_τ33 : τ33.2.1 9 = τ30.2.1 9 := hf_τ33.2.1 9 (by decide)
                      first | (have ca_τ33 := congr (congrArg ca g9_τ33) w3_τ33) | skip
                      first | (have o6_τ33 := congrArg oc g6_τ33) | skip
                      first | (have o7_τ33 := congrArg oc g7_τ33) | skip
                      have W0 : τ33.1 0 = σ.1 0 := by omega
                      have W17 : τ33.1 17 = σ.1 17 := by omega
                      have W18 : τ33.1 18 = σ.1 18 := by omega
                      have G7 : τ33.2.1 7 = σ.2.1 7 := (g7_τ33).trans G7
                      have A6 : ∀ j, (-1) ≤ τ33.2.1 6 j ∧ τ33.2.1 6 j ≤ 999 := fun j => hT.2 6 j
                      have A7 : ∀ j, (-1) ≤ τ33.2.1 7 j ∧ τ33.2.1 7 j ≤ 1499 := fun j => hT.2 7 j
                      have A9 : ∀ j, 0 ≤ τ33.2.1 9 j ∧ τ33.2.1 9 j ≤ 1 := fun j => hT.2 9 j
                      have v0 : 0 ≤ τ33.1 0 ∧ τ33.1 0 ≤ 60000 := hT.1 0
                      have v2 : 0 ≤ τ33.1 2 ∧ τ33.1 2 ≤ 30000 := hT.1 2
                      have v3 : 0 ≤ τ33.1 3 ∧ τ33.1 3 ≤ 1000 := hT.1 3
                      have v12 : 0 ≤ τ33.1 12 ∧ τ33.1 12 ≤ 1000 := hT.1 12
                      have v17 : 0 ≤ τ33.1 17 ∧ τ33.1 17 ≤ 60000 := hT.1 17
                      have v18 : 0 ≤ τ33.1 18 ∧ τ33.1 18 ≤ 60000 := hT.1 18
                      have v20 : 0 ≤ τ33.1 20 ∧ τ33.1 20 ≤ 19 := hT.1 20
                      refine ⟨(show 0 ≤ n1 ∧ n1 ≤ 1 from by omega), ?_⟩
                      replace hT := mT_a (k := 8) (j := (σ.1 3)) hT (show (0 : Int) ≤ n1 ∧ n1 ≤ 1 from by omega)
                      replace hT := mT_a (k := 10) (j := (σ.1 3)) hT (show (-1 : Int) ≤ (-1) ∧ (-1) ≤ 999 from by omega)
                      replace hT := mT_a (k := 11) (j := (σ.1 3)) hT (show (-1 : Int) ≤ (-1) ∧ (-1) ≤ 1499 from by omega)
                      replace hT := mT_a (k := 12) (j := (σ.1 3)) hT (show (0 : Int) ≤ 0 ∧ 0 ≤ 1 from by omega)
                      have cn := ca_n (σ.2.1 9) ((σ.1 3)) n1 (by omega)
                      have cb3 := ca_b (st (σ.2.1 9) ((σ.1 3)) n1) (n := (σ.1 3) + 1) (by omega)
                      refine ⟨_, K_X13_markNamed hT (show 0 ≤ (σ.1 3) from by omega) (show (σ.1 3) < 1000 from by omega), ?_⟩
                      intro τ37 hn_τ37 hf_τ37 hq
                      replace hT := hq
                      have w0_τ37 : τ37.1 0 = τ33.1 0 := hf_τ37.1 0 (by decide)
                      have w2_τ37 : τ37.1 2 = τ33.1 2 := hf_τ37.1 2 (by decide)
                      have w3_τ37 : τ37.1 3 = τ33.1 3 := hf_τ37.1 3 (by decide)
                      have w12_τ37 : τ37.1 12 = τ33.1 12 := hf_τ37.1 12 (by decide)
                      have w17_τ37 : τ37.1 17 = τ33.1 17 := hf_τ37.1 17 (by decide)
                      have w18_τ37 : τ37.1 18 = τ33.1 18 := hf_τ37.1 18 (by decide)
                      have w20_τ37 : τ37.1 20 = τ33.1 20 := hf_τ37.1 20 (by decide)
                      have g6_τ37 : τ37.2.1 6 = τ33.2.1 6 := hf_τ37.2.1 6 (by decide)
                      have g7_τ37 : τ37.2.1 7 = τ33.2.1 7 := hf_τ37.2.1 7 (by decide)
                      have g9_τ37 : τ37.2.1 9 = τ33.2.1 9 := hf_τ37.2.1 9 (by decide)
                      first | (have ca_τ37 := congr (congrArg ca g9_τ37) w3_τ37) | skip
                      first | (have o6_τ37 := congrArg oc g6_τ37) | skip
                      first | (have o7_τ37 := congrArg oc g7_τ37) | skip
                      have W0 : τ37.1 0 = σ.1 0 := by omega
                      have W17 : τ37.1 17 = σ.1 17 := by omega
                      have W18 : τ37.1 18 = σ.1 18 := by omega
                      have G7 : τ37.2.1 7 = σ.2.1 7 := (g7_τ37).trans G7
                      have A6 : ∀ j, (-1) ≤ τ37.2.1 6 j ∧ τ37.2.1 6 j ≤ 999 := fun j => hT.2 6 j
                      have A7 : ∀ j, (-1) ≤ τ37.2.1 7 j ∧ τ37.2.1 7 j ≤ 1499 := fun j => hT.2 7 j
                      have A9 : ∀ j, 0 ≤ τ37.2.1 9 j ∧ τ37.2.1 9 j ≤ 1 := fun j => hT.2 9 j
                      have v0 : 0 ≤ τ37.1 0 ∧ τ37.1 0 ≤ 60000 := hT.1 0
                      have v2 : 0 ≤ τ37.1 2 ∧ τ37.1 2 ≤ 30000 := hT.1 2
                      have v3 : 0 ≤ τ37.1 3 ∧ τ37.1 3 ≤ 1000 := hT.1 3
                      have v12 : 0 ≤ τ37.1 12 ∧ τ37.1 12 ≤ 1000 := hT.1 12
                      have v17 : 0 ≤ τ37.1 17 ∧ τ37.1 17 ≤ 60000 := hT.1 17
                      have v18 : 0 ≤ τ37.1 18 ∧ τ37.1 18 ≤ 60000 := hT.1 18
                      have v20 : 0 ≤ τ37.1 20 ∧ τ37.1 20 ≤ 19 := hT.1 20
                      refine h214 _ _ _ ?_
                      first | (have nn9 : τ37.2.1 9 = σ.2.1 9 := by rw [g9_τ37, g9_τ33, g9_τ30]) | skip
                      first | (have nn3 : τ37.1 3 = σ.1 3 + 1 := by omega) | skip
                      first | (have cn2 : ca (st (τ37.2.1 9) (σ.1 3) n1) (τ37.1 3) = ca (st (σ.2.1 9) (σ.1 3) n1) (σ.1 3 + 1) := by rw [nn9, nn3]) | skip
                      refine ⟨(show 0 ≤ (σ.1 3) ∧ (σ.1 3) < 1001 from by omega), ?_⟩
                      refine ⟨(show 0 ≤ n1 ∧ n1 ≤ 1 from by omega), ?_⟩
                      replace hT := mT_a (k := 9) (j := (σ.1 3)) hT (show (0 : Int) ≤ n1 ∧ n1 ≤ 1 from by omega)
                      refine ⟨fun c43 => ?_, fun c43 => ?_⟩
                      ·
                        exact ⟨hT, (show oc (τ37.2.1 6) ≤ (τ37.1 3) from by omega), (show (τ37.1 12) ≤ ca ((st (τ37.2.1 9) (σ.1 3) n1)) (τ37.1 3) from by omega), (show j_lt (τ37.2.1 6) (τ37.1 3) from by (intro e; first | exact p6 e | (rw [g6_τ12, w3_τ12]; exact p6 e) | (rw [g6_τ40, w3_τ40]; exact p6 e) | (obtain ⟨ee, he⟩ := q31_2; rw [g6_τ37, he]; unfold st; split; omega; have := p6 e; rw [g6_τ30]; omega)))⟩
                      ·
                        refine ⟨(show 0 ≤ τ37.1 12 ∧ τ37.1 12 < 1001 from by omega), ?_⟩
                        replace hT := mT_a (k := 30) (j := (τ37.1 12)) hT (show (0 : Int) ≤ (σ.1 3) ∧ (σ.1 3) ≤ 999 from by omega)
                        refine ⟨(⟨by omega, by omega⟩ : rg (τ37.1 12 + 1)), ?_⟩
                        replace hT := mT_v (i := 12) hT (show 0 ≤ (τ37.1 12 + 1) ∧ (τ37.1 12 + 1) ≤ 1000 from by omega)
                        exact ⟨hT, (show oc (τ37.2.1 6) ≤ (τ37.1 3) from by omega), (show ((τ37.1 12 + 1)) ≤ ca ((st (τ37.2.1 9) (σ.1 3) n1)) (τ37.1 3) from by omega), (show j_lt (τ37.2.1 6) (τ37.1 3) from by (intro e; first | exact p6 e | (rw [g6_τ12, w3_τ12]; exact p6 e) | (rw [g6_τ40, w3_τ40]; exact p6 e) | (obtain ⟨ee, he⟩ := q31_2; rw [g6_τ37, he]; unfold st; split; omega; have := p6 e; rw [g6_τ30]; omega)))⟩
                  ·
                    refine h118 _ ?_
                    refine ⟨_, K_X13_failHere hT (show 0 ≤ 7 from by omega) (show 7 ≤ 19 from by omega), ?_⟩
                    intro τ40 hn_τ40 hf_τ40 hq
                    obtain ⟨hT, q38_1, q38_2⟩ := hq
                    replace q38_1 : ¬ (σ.1 20) = 0 → (τ40.1 20) = (σ.1 20) := q38_1
                    replace q38_2 : (σ.1 20) = 0 → (τ40.1 20) = 7 := q38_2
                    have w0_τ40 : τ40.1 0 = σ.1 0 := hf_τ40.1 0 (by decide)
                    have w2_τ40 : τ40.1 2 = σ.1 2 := hf_τ40.1 2 (by decide)
                    have w3_τ40 : τ40.1 3 = σ.1 3 := hf_τ40.1 3 (by decide)
                    have w12_τ40 : τ40.1 12 = σ.1 12 := hf_τ40.1 12 (by decide)
                    have w17_τ40 : τ40.1 17 = σ.1 17 := hf_τ40.1 17 (by decide)
                    have w18_τ40 : τ40.1 18 = σ.1 18 := hf_τ40.1 18 (by decide)
                    have g6_τ40 : τ40.2.1 6 = σ.2.1 6 := hf_τ40.2.1 6 (by decide)
                    have g7_τ40 : τ40.2.1 7 = σ.2.1 7 := hf_τ40.2.1 7 (by decide)
                    have g9_τ40 : τ40.2.1 9 = σ.2.1 9 := hf_τ40.2.1 9 (by decide)
                    first | (have ca_τ40 := congr (congrArg ca g9_τ40) w3_τ40) | skip
                    first | (have o6_τ40 := congrArg oc g6_τ40) | skip
                    first | (have o7_τ40 := congrArg oc g7_τ40) | skip
                    have W0 : τ40.1 0 = σ.1 0 := by omega
                    have W17 : τ40.1 17 = σ.1 17 := by omega
                    have W18 : τ40.1 18 = σ.1 18 := by omega
                    have G7 : τ40.2.1 7 = σ.2.1 7 := (g7_τ40).trans G7
                    have Y1 : j_lt (τ40.2.1 6) (τ40.1 3) := by rw [show (j_lt (τ40.2.1 6) (τ40.1 3)) = (j_lt (σ.2.1 6) (σ.1 3)) from by rw [w3_τ40, g6_τ40]]; exact Y1
                    have A6 : ∀ j, (-1) ≤ τ40.2.1 6 j ∧ τ40.2.1 6 j ≤ 999 := fun j => hT.2 6 j
                    have A7 : ∀ j, (-1) ≤ τ40.2.1 7 j ∧ τ40.2.1 7 j ≤ 1499 := fun j => hT.2 7 j
                    have A9 : ∀ j, 0 ≤ τ40.2.1 9 j ∧ τ40.2.1 9 j ≤ 1 := fun j => hT.2 9 j
                    have v0 : 0 ≤ τ40.1 0 ∧ τ40.1 0 ≤ 60000 := hT.1 0
                    have v2 : 0 ≤ τ40.1 2 ∧ τ40.1 2 ≤ 30000 := hT.1 2
                    have v3 : 0 ≤ τ40.1 3 ∧ τ40.1 3 ≤ 1000 := hT.1 3
                    have v12 : 0 ≤ τ40.1 12 ∧ τ40.1 12 ≤ 1000 := hT.1 12
                    have v17 : 0 ≤ τ40.1 17 ∧ τ40.1 17 ≤ 60000 := hT.1 17
                    have v18 : 0 ≤ τ40.1 18 ∧ τ40.1 18 ≤ 60000 := hT.1 18
                    have v20 : 0 ≤ τ40.1 20 ∧ τ40.1 20 ≤ 19 := hT.1 20
                    exact ⟨hT, (show oc (τ40.2.1 6) ≤ (τ40.1 3) from by omega), (show (τ40.1 12) ≤ ca (τ40.2.1 9) (τ40.1 3) from by omega), (show j_lt (τ40.2.1 6) (τ40.1 3) from Y1)⟩
              ·
                have ct := fun h1 : ¬ n1 = 0 => fun h2 : x18 = 0 => ca_t1 (σ.2.1 9) x2 ((σ.1 3)) n1 (by omega) ax (by rw [← e_x18]; exact h2) h1
                have cb2 := ca_b (st (σ.2.1 9) x2 n1) (n := (σ.1 3)) (by omega)
                refine h91 _ _ _ _ _ ?_
                refine ⟨fun c20 => ?_, fun c20 => ?_⟩
                ·
                  refine h118 _ ?_
                  refine ⟨_, K_X13_failHere hT (show 0 ≤ 7 from by omega) (show 7 ≤ 19 from by omega), ?_⟩
                  intro τ40 hn_τ40 hf_τ40 hq
                  obtain ⟨hT, q38_1, q38_2⟩ := hq
                  replace q38_1 : ¬ (σ.1 20) = 0 → (τ40.1 20) = (σ.1 20) := q38_1
                  replace q38_2 : (σ.1 20) = 0 → (τ40.1 20) = 7 := q38_2
                  have w0_τ40 : τ40.1 0 = σ.1 0 := hf_τ40.1 0 (by decide)
                  have w2_τ40 : τ40.1 2 = σ.1 2 := hf_τ40.1 2 (by decide)
                  have w3_τ40 : τ40.1 3 = σ.1 3 := hf_τ40.1 3 (by decide)
                  have w12_τ40 : τ40.1 12 = σ.1 12 := hf_τ40.1 12 (by decide)
                  have w17_τ40 : τ40.1 17 = σ.1 17 := hf_τ40.1 17 (by decide)
                  have w18_τ40 : τ40.1 18 = σ.1 18 := hf_τ40.1 18 (by decide)
                  have g6_τ40 : τ40.2.1 6 = σ.2.1 6 := hf_τ40.2.1 6 (by decide)
                  have g7_τ40 : τ40.2.1 7 = σ.2.1 7 := hf_τ40.2.1 7 (by decide)
                  have g9_τ40 : τ40.2.1 9 = σ.2.1 9 := hf_τ40.2.1 9 (by decide)
                  first | (have ca_τ40 := congr (congrArg ca g9_τ40) w3_τ40) | skip
                  first | (have o6_τ40 := congrArg oc g6_τ40) | skip
                  first | (have o7_τ40 := congrArg oc g7_τ40) | skip
                  have W0 : τ40.1 0 = σ.1 0 := by omega
                  have W17 : τ40.1 17 = σ.1 17 := by omega
                  have W18 : τ40.1 18 = σ.1 18 := by omega
                  have G7 : τ40.2.1 7 = σ.2.1 7 := (g7_τ40).trans G7
                  have Y1 : j_lt (τ40.2.1 6) (τ40.1 3) := by rw [show (j_lt (τ40.2.1 6) (τ40.1 3)) = (j_lt (σ.2.1 6) (σ.1 3)) from by rw [w3_τ40, g6_τ40]]; exact Y1
                  have A6 : ∀ j, (-1) ≤ τ40.2.1 6 j ∧ τ40.2.1 6 j ≤ 999 := fun j => hT.2 6 j
                  have A7 : ∀ j, (-1) ≤ τ40.2.1 7 j ∧ τ40.2.1 7 j ≤ 1499 := fun j => hT.2 7 j
                  have A9 : ∀ j, 0 ≤ τ40.2.1 9 j ∧ τ40.2.1 9 j ≤ 1 := fun j => hT.2 9 j
                  have v0 : 0 ≤ τ40.1 0 ∧ τ40.1 0 ≤ 60000 := hT.1 0
                  have v2 : 0 ≤ τ40.1 2 ∧ τ40.1 2 ≤ 30000 := hT.1 2
                  have v3 : 0 ≤ τ40.1 3 ∧ τ40.1 3 ≤ 1000 := hT.1 3
                  have v12 : 0 ≤ τ40.1 12 ∧ τ40.1 12 ≤ 1000 := hT.1 12
                  have v17 : 0 ≤ τ40.1 17 ∧ τ40.1 17 ≤ 60000 := hT.1 17
                  have v18 : 0 ≤ τ40.1 18 ∧ τ40.1 18 ≤ 60000 := hT.1 18
                  have v20 : 0 ≤ τ40.1 20 ∧ τ40.1 20 ≤ 19 := hT.1 20
                  exact ⟨hT, (show oc (τ40.2.1 6) ≤ (τ40.1 3) from by omega), (show (τ40.1 12) ≤ ca (τ40.2.1 9) (τ40.1 3) from by omega), (show j_lt (τ40.2.1 6) (τ40.1 3) from Y1)⟩
                ·
                  refine ⟨_, K_X13_findLabel_q1 hT (show 0 ≤ (σ.1 17) from by omega) (show (σ.1 17) + (σ.1 18) ≤ 60000 from by omega) (show oc (σ.2.1 7) < 4096 from by omega), ?_⟩
                  intro x22 r_x22 hq
                  have q21_1 := hq
                  replace q21_1 : -1 ≤ x22 ∧ x22 ≤ 1499 := q21_1
                  refine ⟨fun c24 => ?_, fun c24 => ?_⟩
                  ·
                    refine ⟨fun c25 => ?_, fun c25 => ?_⟩
                    ·
                      refine h214 _ _ _ ?_
                      first | (have nn9 : τ37.2.1 9 = σ.2.1 9 := by rw [g9_τ37, g9_τ33, g9_τ30]) | skip
                      first | (have nn3 : τ37.1 3 = σ.1 3 + 1 := by omega) | skip
                      first | (have cn2 : ca (st (τ37.2.1 9) (σ.1 3) n1) (τ37.1 3) = ca (st (σ.2.1 9) (σ.1 3) n1) (σ.1 3 + 1) := by rw [nn9, nn3]) | skip
                      refine ⟨(show 0 ≤ x2 ∧ x2 < 1001 from by omega), ?_⟩
                      refine ⟨(show 0 ≤ n1 ∧ n1 ≤ 1 from by omega), ?_⟩
                      replace hT := mT_a (k := 9) (j := x2) hT (show (0 : Int) ≤ n1 ∧ n1 ≤ 1 from by omega)
                      refine ⟨fun c43 => ?_, fun c43 => ?_⟩
                      ·
                        exact ⟨hT, (show oc (σ.2.1 6) ≤ (σ.1 3) from by omega), (show (σ.1 12) ≤ ca ((st (σ.2.1 9) x2 n1)) (σ.1 3) from by omega), (show j_lt (σ.2.1 6) (σ.1 3) from Y1)⟩
                      ·
                        refine ⟨(show 0 ≤ σ.1 12 ∧ σ.1 12 < 1001 from by omega), ?_⟩
                        replace hT := mT_a (k := 30) (j := (σ.1 12)) hT (show (0 : Int) ≤ x2 ∧ x2 ≤ 999 from by omega)
                        refine ⟨(⟨by omega, by omega⟩ : rg (σ.1 12 + 1)), ?_⟩
                        replace hT := mT_v (i := 12) hT (show 0 ≤ (σ.1 12 + 1) ∧ (σ.1 12 + 1) ≤ 1000 from by omega)
                        exact ⟨hT, (show oc (σ.2.1 6) ≤ (σ.1 3) from by omega), (show ((σ.1 12 + 1)) ≤ ca ((st (σ.2.1 9) x2 n1)) (σ.1 3) from by omega), (show j_lt (σ.2.1 6) (σ.1 3) from Y1)⟩
                    ·
                      refine ⟨(⟨by omega, by omega⟩ : rg (σ.1 3 + 1)), ?_⟩
                      replace hT := mT_v (i := 3) hT (show 0 ≤ (σ.1 3 + 1) ∧ (σ.1 3 + 1) ≤ 1000 from by omega)
                      refine ⟨(show 0 ≤ σ.1 3 ∧ σ.1 3 < 1001 from by omega), ?_⟩
                      replace hT := mT_a (k := 2) (j := (σ.1 3)) hT (show (0 : Int) ≤ (σ.1 2) ∧ (σ.1 2) ≤ 30000 from by omega)
                      replace hT := mT_a (k := 3) (j := (σ.1 3)) hT (show (0 : Int) ≤ (σ.1 18) ∧ (σ.1 18) ≤ 60 from by omega)
                      refine ⟨_, K_X13_keepChars hT (show 0 ≤ (σ.1 17) from by omega) (show 0 ≤ (σ.1 18) from by omega) (show (σ.1 17) + (σ.1 18) ≤ 60000 from by omega) (show (σ.1 2) + (σ.1 18) ≤ 30000 from by omega), ?_⟩
                      intro τ30 hn_τ30 hf_τ30 hq
                      obtain ⟨hT, q28_1⟩ := hq
                      replace q28_1 : (τ30.1 2) = (σ.1 2) + (σ.1 18) := q28_1
                      have w0_τ30 : τ30.1 0 = σ.1 0 := hf_τ30.1 0 (by decide)
                      have w3_τ30 : τ30.1 3 = (σ.1 3 + 1) := hf_τ30.1 3 (by decide)
                      have w12_τ30 : τ30.1 12 = σ.1 12 := hf_τ30.1 12 (by decide)
                      have w17_τ30 : τ30.1 17 = σ.1 17 := hf_τ30.1 17 (by decide)
                      have w18_τ30 : τ30.1 18 = σ.1 18 := hf_τ30.1 18 (by decide)
                      have w20_τ30 : τ30.1 20 = σ.1 20 := hf_τ30.1 20 (by decide)
                      have g6_τ30 : τ30.2.1 6 = σ.2.1 6 := hf_τ30.2.1 6 (by decide)
                      have g7_τ30 : τ30.2.1 7 = σ.2.1 7 := hf_τ30.2.1 7 (by decide)
                      have g9_τ30 : τ30.2.1 9 = σ.2.1 9 := hf_τ30.2.1 9 (by decide)
                      first | (have ca_τ30 := congr (congrArg ca g9_τ30) w3_τ30) | skip
                      first | (have o6_τ30 := congrArg oc g6_τ30) | skip
                      first | (have o7_τ30 := congrArg oc g7_τ30) | skip
                      have W0 : τ30.1 0 = σ.1 0 := by omega
                      have W17 : τ30.1 17 = σ.1 17 := by omega
                      have W18 : τ30.1 18 = σ.1 18 := by omega
                      have G7 : τ30.2.1 7 = σ.2.1 7 := (g7_τ30).trans G7
                      have A6 : ∀ j, (-1) ≤ τ30.2.1 6 j ∧ τ30.2.1 6 j ≤ 999 := fun j => hT.2 6 j
                      have A7 : ∀ j, (-1) ≤ τ30.2.1 7 j ∧ τ30.2.1 7 j ≤ 1499 := fun j => hT.2 7 j
                      have A9 : ∀ j, 0 ≤ τ30.2.1 9 j ∧ τ30.2.1 9 j ≤ 1 := fun j => hT.2 9 j
                      have v0 : 0 ≤ τ30.1 0 ∧ τ30.1 0 ≤ 60000 := hT.1 0
                      have v2 : 0 ≤ τ30.1 2 ∧ τ30.1 2 ≤ 30000 := hT.1 2
                      have v3 : 0 ≤ τ30.1 3 ∧ τ30.1 3 ≤ 1000 := hT.1 3
                      have v12 : 0 ≤ τ30.1 12 ∧ τ30.1 12 ≤ 1000 := hT.1 12
                      have v17 : 0 ≤ τ30.1 17 ∧ τ30.1 17 ≤ 60000 := hT.1 17
                      have v18 : 0 ≤ τ30.1 18 ∧ τ30.1 18 ≤ 60000 := hT.1 18
                      have v20 : 0 ≤ τ30.1 20 ∧ τ30.1 20 ≤ 19 := hT.1 20
                      refine ⟨_, K_X13_keepSymbol hT (show 0 ≤ (σ.1 3) from by omega) (show (σ.1 3) < 1000 from by omega) (show oc (τ30.2.1 6) < 4096 from by omega), ?_⟩
                      intro τ33 hn_τ33 hf_τ33 hq
                      obtain ⟨hT, q31_1, q31_2⟩ := hq
                      replace q31_1 : oc (τ33.2.1 6) ≤ oc (τ30.2.1 6) + 1 := q31_1
                      replace q31_2 : ∃ e : Int, τ33.2.1 6 = st (τ30.2.1 6) e (σ.1 3) := q31_2
                      have w0_τ33 : τ33.1 0 = τ30.1 0 := hf_τ33.1 0 (by decide)
                      have w2_τ33 : τ33.1 2 = τ30.1 2 := hf_τ33.1 2 (by decide)
                      have w3_τ33 : τ33.1 3 = τ30.1 3 := hf_τ33.1 3 (by decide)
                      have w12_τ33 : τ33.1 12 = τ30.1 12 := hf_τ33.1 12 (by decide)
                      have w17_τ33 : τ33.1 17 = τ30.1 17 := hf_τ33.1 17 (by decide)
                      have w18_τ33 : τ33.1 18 = τ30.1 18 := hf_τ33.1 18 (by decide)
                      have w20_τ33 : τ33.1 20 = τ30.1 20 := hf_τ33.1 20 (by decide)
                      have g7_τ33 : τ33.2.1 7 = τ30.2.1 7 := hf_τ33.2.1 7 (by decide)
                      have g9_τ33 : τ33.2.1 9 = τ30.2.1 9 := hf_τ33.2.1 9 (by decide)
                      first | (have ca_τ33 := congr (congrArg ca g9_τ33) w3_τ33) | skip
                      first | (have o6_τ33 := congrArg oc g6_τ33) | skip
                      first | (have o7_τ33 := congrArg oc g7_τ33) | skip
                      have W0 : τ33.1 0 = σ.1 0 := by omega
                      have W17 : τ33.1 17 = σ.1 17 := by omega
                      have W18 : τ33.1 18 = σ.1 18 := by omega
                      have G7 : τ33.2.1 7 = σ.2.1 7 := (g7_τ33).trans G7
                      have A6 : ∀ j, (-1) ≤ τ33.2.1 6 j ∧ τ33.2.1 6 j ≤ 999 := fun j => hT.2 6 j
                      have A7 : ∀ j, (-1) ≤ τ33.2.1 7 j ∧ τ33.2.1 7 j ≤ 1499 := fun j => hT.2 7 j
                      have A9 : ∀ j, 0 ≤ τ33.2.1 9 j ∧ τ33.2.1 9 j ≤ 1 := fun j => hT.2 9 j
                      have v0 : 0 ≤ τ33.1 0 ∧ τ33.1 0 ≤ 60000 := hT.1 0
                      have v2 : 0 ≤ τ33.1 2 ∧ τ33.1 2 ≤ 30000 := hT.1 2
                      have v3 : 0 ≤ τ33.1 3 ∧ τ33.1 3 ≤ 1000 := hT.1 3
                      have v12 : 0 ≤ τ33.1 12 ∧ τ33.1 12 ≤ 1000 := hT.1 12
                      have v17 : 0 ≤ τ33.1 17 ∧ τ33.1 17 ≤ 60000 := hT.1 17
                      have v18 : 0 ≤ τ33.1 18 ∧ τ33.1 18 ≤ 60000 := hT.1 18
                      have v20 : 0 ≤ τ33.1 20 ∧ τ33.1 20 ≤ 19 := hT.1 20
                      refine ⟨(show 0 ≤ n1 ∧ n1 ≤ 1 from by omega), ?_⟩
                      replace hT := mT_a (k := 8) (j := (σ.1 3)) hT (show (0 : Int) ≤ n1 ∧ n1 ≤ 1 from by omega)
                      replace hT := mT_a (k := 10) (j := (σ.1 3)) hT (show (-1 : Int) ≤ (-1) ∧ (-1) ≤ 999 from by omega)
                      replace hT := mT_a (k := 11) (j := (σ.1 3)) hT (show (-1 : Int) ≤ (-1) ∧ (-1) ≤ 1499 from by omega)
                      replace hT := mT_a (k := 12) (j := (σ.1 3)) hT (show (0 : Int) ≤ 0 ∧ 0 ≤ 1 from by omega)
                      have cn := ca_n (σ.2.1 9) ((σ.1 3)) n1 (by omega)
                      have cb3 := ca_b (st (σ.2.1 9) ((σ.1 3)) n1) (n := (σ.1 3) + 1) (by omega)
                      refine ⟨_, K_X13_markNamed hT (show 0 ≤ (σ.1 3) from by omega) (show (σ.1 3) < 1000 from by omega), ?_⟩
                      intro τ37 hn_τ37 hf_τ37 hq
                      replace hT := hq
                      have w0_τ37 : τ37.1 0 = τ33.1 0 := hf_τ37.1 0 (by decide)
                      have w2_τ37 : τ37.1 2 = τ33.1 2 := hf_τ37.1 2 (by decide)
                      have w3_τ37 : τ37.1 3 = τ33.1 3 := hf_τ37.1 3 (by decide)
                      have w12_τ37 : τ37.1 12 = τ33.1 12 := hf_τ37.1 12 (by decide)
                      have w17_τ37 : τ37.1 17 = τ33.1 17 := hf_τ37.1 17 (by decide)
                      have w18_τ37 : τ37.1 18 = τ33.1 18 := hf_τ37.1 18 (by decide)
                      have w20_τ37 : τ37.1 20 = τ33.1 20 := hf_τ37.1 20 (by decide)
                      have g6_τ37 : τ37.2.1 6 = τ33.2.1 6 := hf_τ37.2.1 6 (by decide)
                      have g7_τ37 : τ37.2.1 7 = τ33.2.1 7 := hf_τ37.2.1 7 (by decide)
                      have g9_τ37 : τ37.2.1 9 = τ33.2.1 9 := hf_τ37.2.1 9 (by decide)
                      first | (have ca_τ37 := congr (congrArg ca g9_τ37) w3_τ37) | skip
                      first | (have o6_τ37 := congrArg oc g6_τ37) | skip
                      first | (have o7_τ37 := congrArg oc g7_τ37) | skip
                      have W0 : τ37.1 0 = σ.1 0 := by omega
                      have W17 : τ37.1 17 = σ.1 17 := by omega
                      have W18 : τ37.1 18 = σ.1 18 := by omega
                      have G7 : τ37.2.1 7 = σ.2.1 7 := (g7_τ37).trans G7
                      have A6 : ∀ j, (-1) ≤ τ37.2.1 6 j ∧ τ37.2.1 6 j ≤ 999 := fun j => hT.2 6 j
                      have A7 : ∀ j, (-1) ≤ τ37.2.1 7 j ∧ τ37.2.1 7 j ≤ 1499 := fun j => hT.2 7 j
                      have A9 : ∀ j, 0 ≤ τ37.2.1 9 j ∧ τ37.2.1 9 j ≤ 1 := fun j => hT.2 9 j
                      have v0 : 0 ≤ τ37.1 0 ∧ τ37.1 0 ≤ 60000 := hT.1 0
                      have v2 : 0 ≤ τ37.1 2 ∧ τ37.1 2 ≤ 30000 := hT.1 2
                      have v3 : 0 ≤ τ37.1 3 ∧ τ37.1 3 ≤ 1000 := hT.1 3
                      have v12 : 0 ≤ τ37.1 12 ∧ τ37.1 12 ≤ 1000 := hT.1 12
                      have v17 : 0 ≤ τ37.1 17 ∧ τ37.1 17 ≤ 60000 := hT.1 17
                      have v18 : 0 ≤ τ37.1 18 ∧ τ37.1 18 ≤ 60000 := hT.1 18
                      have v20 : 0 ≤ τ37.1 20 ∧ τ37.1 20 ≤ 19 := hT.1 20
                      refine h214 _ _ _ ?_
                      first | (have nn9 : τ37.2.1 9 = σ.2.1 9 := by rw [g9_τ37, g9_τ33, g9_τ30]) | skip
                      first | (have nn3 : τ37.1 3 = σ.1 3 + 1 := by omega) | skip
                      first | (have cn2 : ca (st (τ37.2.1 9) (σ.1 3) n1) (τ37.1 3) = ca (st (σ.2.1 9) (σ.1 3) n1) (σ.1 3 + 1) := by rw [nn9, nn3]) | skip
                      refine ⟨(show 0 ≤ (σ.1 3) ∧ (σ.1 3) < 1001 from by omega), ?_⟩
                      refine ⟨(show 0 ≤ n1 ∧ n1 ≤ 1 from by omega), ?_⟩
                      replace hT := mT_a (k := 9) (j := (σ.1 3)) hT (show (0 : Int) ≤ n1 ∧ n1 ≤ 1 from by omega)
                      refine ⟨fun c43 => ?_, fun c43 => ?_⟩
                      ·
                        exact ⟨hT, (show oc (τ37.2.1 6) ≤ (τ37.1 3) from by omega), (show (τ37.1 12) ≤ ca ((st (τ37.2.1 9) (σ.1 3) n1)) (τ37.1 3) from by omega), (show j_lt (τ37.2.1 6) (τ37.1 3) from by (intro e; first | exact p6 e | (rw [g6_τ12, w3_τ12]; exact p6 e) | (rw [g6_τ40, w3_τ40]; exact p6 e) | (obtain ⟨ee, he⟩ := q31_2; rw [g6_τ37, he]; unfold st; split; omega; have := p6 e; rw [g6_τ30]; omega)))⟩
                      ·
                        refine ⟨(show 0 ≤ τ37.1 12 ∧ τ37.1 12 < 1001 from by omega), ?_⟩
                        replace hT := mT_a (k := 30) (j := (τ37.1 12)) hT (show (0 : Int) ≤ (σ.1 3) ∧ (σ.1 3) ≤ 999 from by omega)
                        refine ⟨(⟨by omega, by omega⟩ : rg (τ37.1 12 + 1)), ?_⟩
                        replace hT := mT_v (i := 12) hT (show 0 ≤ (τ37.1 12 + 1) ∧ (τ37.1 12 + 1) ≤ 1000 from by omega)
                        exact ⟨hT, (show oc (τ37.2.1 6) ≤ (τ37.1 3) from by omega), (show ((τ37.1 12 + 1)) ≤ ca ((st (τ37.2.1 9) (σ.1 3) n1)) (τ37.1 3) from by omega), (show j_lt (τ37.2.1 6) (τ37.1 3) from by (intro e; first | exact p6 e | (rw [g6_τ12, w3_τ12]; exact p6 e) | (rw [g6_τ40, w3_τ40]; exact p6 e) | (obtain ⟨ee, he⟩ := q31_2; rw [g6_τ37, he]; unfold st; split; omega; have := p6 e; rw [g6_τ30]; omega)))⟩
                  ·
                    refine h118 _ ?_
                    refine ⟨_, K_X13_failHere hT (show 0 ≤ 7 from by omega) (show 7 ≤ 19 from by omega), ?_⟩
                    intro τ40 hn_τ40 hf_τ40 hq
                    obtain ⟨hT, q38_1, q38_2⟩ := hq
                    replace q38_1 : ¬ (σ.1 20) = 0 → (τ40.1 20) = (σ.1 20) := q38_1
                    replace q38_2 : (σ.1 20) = 0 → (τ40.1 20) = 7 := q38_2
                    have w0_τ40 : τ40.1 0 = σ.1 0 := hf_τ40.1 0 (by decide)
                    have w2_τ40 : τ40.1 2 = σ.1 2 := hf_τ40.1 2 (by decide)
                    have w3_τ40 : τ40.1 3 = σ.1 3 := hf_τ40.1 3 (by decide)
                    have w12_τ40 : τ40.1 12 = σ.1 12 := hf_τ40.1 12 (by decide)
                    have w17_τ40 : τ40.1 17 = σ.1 17 := hf_τ40.1 17 (by decide)
                    have w18_τ40 : τ40.1 18 = σ.1 18 := hf_τ40.1 18 (by decide)
                    have g6_τ40 : τ40.2.1 6 = σ.2.1 6 := hf_τ40.2.1 6 (by decide)
                    have g7_τ40 : τ40.2.1 7 = σ.2.1 7 := hf_τ40.2.1 7 (by decide)
                    have g9_τ40 : τ40.2.1 9 = σ.2.1 9 := hf_τ40.2.1 9 (by decide)
                    first | (have ca_τ40 := congr (congrArg ca g9_τ40) w3_τ40) | skip
                    first | (have o6_τ40 := congrArg oc g6_τ40) | skip
                    first | (have o7_τ40 := congrArg oc g7_τ40) | skip
                    have W0 : τ40.1 0 = σ.1 0 := by omega
                    have W17 : τ40.1 17 = σ.1 17 := by omega
                    have W18 : τ40.1 18 = σ.1 18 := by omega
                    have G7 : τ40.2.1 7 = σ.2.1 7 := (g7_τ40).trans G7
                    have Y1 : j_lt (τ40.2.1 6) (τ40.1 3) := by rw [show (j_lt (τ40.2.1 6) (τ40.1 3)) = (j_lt (σ.2.1 6) (σ.1 3)) from by rw [w3_τ40, g6_τ40]]; exact Y1
                    have A6 : ∀ j, (-1) ≤ τ40.2.1 6 j ∧ τ40.2.1 6 j ≤ 999 := fun j => hT.2 6 j
                    have A7 : ∀ j, (-1) ≤ τ40.2.1 7 j ∧ τ40.2.1 7 j ≤ 1499 := fun j => hT.2 7 j
                    have A9 : ∀ j, 0 ≤ τ40.2.1 9 j ∧ τ40.2.1 9 j ≤ 1 := fun j => hT.2 9 j
                    have v0 : 0 ≤ τ40.1 0 ∧ τ40.1 0 ≤ 60000 := hT.1 0
                    have v2 : 0 ≤ τ40.1 2 ∧ τ40.1 2 ≤ 30000 := hT.1 2
                    have v3 : 0 ≤ τ40.1 3 ∧ τ40.1 3 ≤ 1000 := hT.1 3
                    have v12 : 0 ≤ τ40.1 12 ∧ τ40.1 12 ≤ 1000 := hT.1 12
                    have v17 : 0 ≤ τ40.1 17 ∧ τ40.1 17 ≤ 60000 := hT.1 17
                    have v18 : 0 ≤ τ40.1 18 ∧ τ40.1 18 ≤ 60000 := hT.1 18
                    have v20 : 0 ≤ τ40.1 20 ∧ τ40.1 20 ≤ 19 := hT.1 20
                    exact ⟨hT, (show oc (τ40.2.1 6) ≤ (τ40.1 3) from by omega), (show (τ40.1 12) ≤ ca (τ40.2.1 9) (τ40.1 3) from by omega), (show j_lt (τ40.2.1 6) (τ40.1 3) from Y1)⟩
      ·
        refine ⟨(⟨by omega, by omega⟩ : rg (σ.1 2 + σ.1 18)), ?_⟩
        refine ⟨fun c8 => ?_, fun c8 => ?_⟩
        ·
          refine h54 _ ?_
          refine ⟨_, K_X13_failHere hT (show 0 ≤ 5 from by omega) (show 5 ≤ 19 from by omega), ?_⟩
          intro τ12 hn_τ12 hf_τ12 hq
          obtain ⟨hT, q10_1, q10_2⟩ := hq
          replace q10_1 : ¬ (σ.1 20) = 0 → (τ12.1 20) = (σ.1 20) := q10_1
          replace q10_2 : (σ.1 20) = 0 → (τ12.1 20) = 5 := q10_2
          have w0_τ12 : τ12.1 0 = σ.1 0 := hf_τ12.1 0 (by decide)
          have w2_τ12 : τ12.1 2 = σ.1 2 := hf_τ12.1 2 (by decide)
          have w3_τ12 : τ12.1 3 = σ.1 3 := hf_τ12.1 3 (by decide)
          have w12_τ12 : τ12.1 12 = σ.1 12 := hf_τ12.1 12 (by decide)
          have w17_τ12 : τ12.1 17 = σ.1 17 := hf_τ12.1 17 (by decide)
          have w18_τ12 : τ12.1 18 = σ.1 18 := hf_τ12.1 18 (by decide)
          have g6_τ12 : τ12.2.1 6 = σ.2.1 6 := hf_τ12.2.1 6 (by decide)
          have g7_τ12 : τ12.2.1 7 = σ.2.1 7 := hf_τ12.2.1 7 (by decide)
          have g9_τ12 : τ12.2.1 9 = σ.2.1 9 := hf_τ12.2.1 9 (by decide)
          first | (have ca_τ12 := congr (congrArg ca g9_τ12) w3_τ12) | skip
          first | (have o6_τ12 := congrArg oc g6_τ12) | skip
          first | (have o7_τ12 := congrArg oc g7_τ12) | skip
          have W0 : τ12.1 0 = σ.1 0 := by omega
          have W17 : τ12.1 17 = σ.1 17 := by omega
          have W18 : τ12.1 18 = σ.1 18 := by omega
          have G7 : τ12.2.1 7 = σ.2.1 7 := (g7_τ12).trans G7
          have Y1 : j_lt (τ12.2.1 6) (τ12.1 3) := by rw [show (j_lt (τ12.2.1 6) (τ12.1 3)) = (j_lt (σ.2.1 6) (σ.1 3)) from by rw [w3_τ12, g6_τ12]]; exact Y1
          have A6 : ∀ j, (-1) ≤ τ12.2.1 6 j ∧ τ12.2.1 6 j ≤ 999 := fun j => hT.2 6 j
          have A7 : ∀ j, (-1) ≤ τ12.2.1 7 j ∧ τ12.2.1 7 j ≤ 1499 := fun j => hT.2 7 j
          have A9 : ∀ j, 0 ≤ τ12.2.1 9 j ∧ τ12.2.1 9 j ≤ 1 := fun j => hT.2 9 j
          have v0 : 0 ≤ τ12.1 0 ∧ τ12.1 0 ≤ 60000 := hT.1 0
          have v2 : 0 ≤ τ12.1 2 ∧ τ12.1 2 ≤ 30000 := hT.1 2
          have v3 : 0 ≤ τ12.1 3 ∧ τ12.1 3 ≤ 1000 := hT.1 3
          have v12 : 0 ≤ τ12.1 12 ∧ τ12.1 12 ≤ 1000 := hT.1 12
          have v17 : 0 ≤ τ12.1 17 ∧ τ12.1 17 ≤ 60000 := hT.1 17
          have v18 : 0 ≤ τ12.1 18 ∧ τ12.1 18 ≤ 60000 := hT.1 18
          have v20 : 0 ≤ τ12.1 20 ∧ τ12.1 20 ≤ 19 := hT.1 20
          exact ⟨hT, (show oc (τ12.2.1 6) ≤ (τ12.1 3) from by omega), (show (τ12.1 12) ≤ ca (τ12.2.1 9) (τ12.1 3) from by omega), (show j_lt (τ12.2.1 6) (τ12.1 3) from Y1)⟩
        ·
          refine ⟨fun c9 => ?_, fun c9 => ?_⟩
          ·
            refine h60 _ _ _ _ ?_
            refine ⟨fun c13 => ?_, fun c13 => ?_⟩
            ·
              refine h91 _ _ _ _ _ ?_
              refine ⟨fun c20 => ?_, fun c20 => ?_⟩
              ·
                refine h118 _ ?_
                refine ⟨_, K_X13_failHere hT (show 0 ≤ 7 from by omega) (show 7 ≤ 19 from by omega), ?_⟩
                intro τ40 hn_τ40 hf_τ40 hq
                obtain ⟨hT, q38_1, q38_2⟩ := hq
                replace q38_1 : ¬ (σ.1 20) = 0 → (τ40.1 20) = (σ.1 20) := q38_1
                replace q38_2 : (σ.1 20) = 0 → (τ40.1 20) = 7 := q38_2
                have w0_τ40 : τ40.1 0 = σ.1 0 := hf_τ40.1 0 (by decide)
                have w2_τ40 : τ40.1 2 = σ.1 2 := hf_τ40.1 2 (by decide)
                have w3_τ40 : τ40.1 3 = σ.1 3 := hf_τ40.1 3 (by decide)
                have w12_τ40 : τ40.1 12 = σ.1 12 := hf_τ40.1 12 (by decide)
                have w17_τ40 : τ40.1 17 = σ.1 17 := hf_τ40.1 17 (by decide)
                have w18_τ40 : τ40.1 18 = σ.1 18 := hf_τ40.1 18 (by decide)
                have g6_τ40 : τ40.2.1 6 = σ.2.1 6 := hf_τ40.2.1 6 (by decide)
                have g7_τ40 : τ40.2.1 7 = σ.2.1 7 := hf_τ40.2.1 7 (by decide)
                have g9_τ40 : τ40.2.1 9 = σ.2.1 9 := hf_τ40.2.1 9 (by decide)
                first | (have ca_τ40 := congr (congrArg ca g9_τ40) w3_τ40) | skip
                first | (have o6_τ40 := congrArg oc g6_τ40) | skip
                first | (have o7_τ40 := congrArg oc g7_τ40) | skip
                have W0 : τ40.1 0 = σ.1 0 := by omega
                have W17 : τ40.1 17 = σ.1 17 := by omega
                have W18 : τ40.1 18 = σ.1 18 := by omega
                have G7 : τ40.2.1 7 = σ.2.1 7 := (g7_τ40).trans G7
                have Y1 : j_lt (τ40.2.1 6) (τ40.1 3) := by rw [show (j_lt (τ40.2.1 6) (τ40.1 3)) = (j_lt (σ.2.1 6) (σ.1 3)) from by rw [w3_τ40, g6_τ40]]; exact Y1
                have A6 : ∀ j, (-1) ≤ τ40.2.1 6 j ∧ τ40.2.1 6 j ≤ 999 := fun j => hT.2 6 j
                have A7 : ∀ j, (-1) ≤ τ40.2.1 7 j ∧ τ40.2.1 7 j ≤ 1499 := fun j => hT.2 7 j
                have A9 : ∀ j, 0 ≤ τ40.2.1 9 j ∧ τ40.2.1 9 j ≤ 1 := fun j => hT.2 9 j
                have v0 : 0 ≤ τ40.1 0 ∧ τ40.1 0 ≤ 60000 := hT.1 0
                have v2 : 0 ≤ τ40.1 2 ∧ τ40.1 2 ≤ 30000 := hT.1 2
                have v3 : 0 ≤ τ40.1 3 ∧ τ40.1 3 ≤ 1000 := hT.1 3
                have v12 : 0 ≤ τ40.1 12 ∧ τ40.1 12 ≤ 1000 := hT.1 12
                have v17 : 0 ≤ τ40.1 17 ∧ τ40.1 17 ≤ 60000 := hT.1 17
                have v18 : 0 ≤ τ40.1 18 ∧ τ40.1 18 ≤ 60000 := hT.1 18
                have v20 : 0 ≤ τ40.1 20 ∧ τ40.1 20 ≤ 19 := hT.1 20
                exact ⟨hT, (show oc (τ40.2.1 6) ≤ (τ40.1 3) from by omega), (show (τ40.1 12) ≤ ca (τ40.2.1 9) (τ40.1 3) from by omega), (show j_lt (τ40.2.1 6) (τ40.1 3) from Y1)⟩
              ·
                refine ⟨_, K_X13_findLabel_q1 hT (show 0 ≤ (σ.1 17) from by omega) (show (σ.1 17) + (σ.1 18) ≤ 60000 from by omega) (show oc (σ.2.1 7) < 4096 from by omega), ?_⟩
                intro x22 r_x22 hq
                have q21_1 := hq
                replace q21_1 : -1 ≤ x22 ∧ x22 ≤ 1499 := q21_1
                refine ⟨fun c24 => ?_, fun c24 => ?_⟩
                ·
                  refine ⟨fun c25 => ?_, fun c25 => ?_⟩
                  ·
                    refine h214 _ _ _ ?_
                    first | (have nn9 : τ37.2.1 9 = σ.2.1 9 := by rw [g9_τ37, g9_τ33, g9_τ30]) | skip
                    first | (have nn3 : τ37.1 3 = σ.1 3 + 1 := by omega) | skip
                    first | (have cn2 : ca (st (τ37.2.1 9) (σ.1 3) n1) (τ37.1 3) = ca (st (σ.2.1 9) (σ.1 3) n1) (σ.1 3 + 1) := by rw [nn9, nn3]) | skip
                    refine ⟨(show 0 ≤ x2 ∧ x2 < 1001 from by omega), ?_⟩
                    refine ⟨(show 0 ≤ n1 ∧ n1 ≤ 1 from by omega), ?_⟩
                    replace hT := mT_a (k := 9) (j := x2) hT (show (0 : Int) ≤ n1 ∧ n1 ≤ 1 from by omega)
                    refine ⟨fun c43 => ?_, fun c43 => ?_⟩
                    ·
                      exact ⟨hT, (show oc (σ.2.1 6) ≤ (σ.1 3) from by omega), (show (σ.1 12) ≤ ca ((st (σ.2.1 9) x2 n1)) (σ.1 3) from by omega), (show j_lt (σ.2.1 6) (σ.1 3) from Y1)⟩
                    ·
                      refine ⟨(show 0 ≤ σ.1 12 ∧ σ.1 12 < 1001 from by omega), ?_⟩
                      replace hT := mT_a (k := 30) (j := (σ.1 12)) hT (show (0 : Int) ≤ x2 ∧ x2 ≤ 999 from by omega)
                      refine ⟨(⟨by omega, by omega⟩ : rg (σ.1 12 + 1)), ?_⟩
                      replace hT := mT_v (i := 12) hT (show 0 ≤ (σ.1 12 + 1) ∧ (σ.1 12 + 1) ≤ 1000 from by omega)
                      exact ⟨hT, (show oc (σ.2.1 6) ≤ (σ.1 3) from by omega), (show ((σ.1 12 + 1)) ≤ ca ((st (σ.2.1 9) x2 n1)) (σ.1 3) from by omega), (show j_lt (σ.2.1 6) (σ.1 3) from Y1)⟩
                  ·
                    refine ⟨(⟨by omega, by omega⟩ : rg (σ.1 3 + 1)), ?_⟩
                    replace hT := mT_v (i := 3) hT (show 0 ≤ (σ.1 3 + 1) ∧ (σ.1 3 + 1) ≤ 1000 from by omega)
                    refine ⟨(show 0 ≤ σ.1 3 ∧ σ.1 3 < 1001 from by omega), ?_⟩
                    replace hT := mT_a (k := 2) (j := (σ.1 3)) hT (show (0 : Int) ≤ (σ.1 2) ∧ (σ.1 2) ≤ 30000 from by omega)
                    replace hT := mT_a (k := 3) (j := (σ.1 3)) hT (show (0 : Int) ≤ (σ.1 18) ∧ (σ.1 18) ≤ 60 from by omega)
                    refine ⟨_, K_X13_keepChars hT (show 0 ≤ (σ.1 17) from by omega) (show 0 ≤ (σ.1 18) from by omega) (show (σ.1 17) + (σ.1 18) ≤ 60000 from by omega) (show (σ.1 2) + (σ.1 18) ≤ 30000 from by omega), ?_⟩
                    intro τ30 hn_τ30 hf_τ30 hq
                    obtain ⟨hT, q28_1⟩ := hq
                    replace q28_1 : (τ30.1 2) = (σ.1 2) + (σ.1 18) := q28_1
                    have w0_τ30 : τ30.1 0 = σ.1 0 := hf_τ30.1 0 (by decide)
                    have w3_τ30 : τ30.1 3 = (σ.1 3 + 1) := hf_τ30.1 3 (by decide)
                    have w12_τ30 : τ30.1 12 = σ.1 12 := hf_τ30.1 12 (by decide)
                    have w17_τ30 : τ30.1 17 = σ.1 17 := hf_τ30.1 17 (by decide)
                    have w18_τ30 : τ30.1 18 = σ.1 18 := hf_τ30.1 18 (by decide)
                    have w20_τ30 : τ30.1 20 = σ.1 20 := hf_τ30.1 20 (by decide)
                    have g6_τ30 : τ30.2.1 6 = σ.2.1 6 := hf_τ30.2.1 6 (by decide)
                    have g7_τ30 : τ30.2.1 7 = σ.2.1 7 := hf_τ30.2.1 7 (by decide)
                    have g9_τ30 : τ30.2.1 9 = σ.2.1 9 := hf_τ30.2.1 9 (by decide)
                    first | (have ca_τ30 := congr (congrArg ca g9_τ30) w3_τ30) | skip
                    first | (have o6_τ30 := congrArg oc g6_τ30) | skip
                    first | (have o7_τ30 := congrArg oc g7_τ30) | skip
                    have W0 : τ30.1 0 = σ.1 0 := by omega
                    have W17 : τ30.1 17 = σ.1 17 := by omega
                    have W18 : τ30.1 18 = σ.1 18 := by omega
                    have G7 : τ30.2.1 7 = σ.2.1 7 := (g7_τ30).trans G7
                    have A6 : ∀ j, (-1) ≤ τ30.2.1 6 j ∧ τ30.2.1 6 j ≤ 999 := fun j => hT.2 6 j
                    have A7 : ∀ j, (-1) ≤ τ30.2.1 7 j ∧ τ30.2.1 7 j ≤ 1499 := fun j => hT.2 7 j
                    have A9 : ∀ j, 0 ≤ τ30.2.1 9 j ∧ τ30.2.1 9 j ≤ 1 := fun j => hT.2 9 j
                    have v0 : 0 ≤ τ30.1 0 ∧ τ30.1 0 ≤ 60000 := hT.1 0
                    have v2 : 0 ≤ τ30.1 2 ∧ τ30.1 2 ≤ 30000 := hT.1 2
                    have v3 : 0 ≤ τ30.1 3 ∧ τ30.1 3 ≤ 1000 := hT.1 3
                    have v12 : 0 ≤ τ30.1 12 ∧ τ30.1 12 ≤ 1000 := hT.1 12
                    have v17 : 0 ≤ τ30.1 17 ∧ τ30.1 17 ≤ 60000 := hT.1 17
                    have v18 : 0 ≤ τ30.1 18 ∧ τ30.1 18 ≤ 60000 := hT.1 18
                    have v20 : 0 ≤ τ30.1 20 ∧ τ30.1 20 ≤ 19 := hT.1 20
                    refine ⟨_, K_X13_keepSymbol hT (show 0 ≤ (σ.1 3) from by omega) (show (σ.1 3) < 1000 from by omega) (show oc (τ30.2.1 6) < 4096 from by omega), ?_⟩
                    intro τ33 hn_τ33 hf_τ33 hq
                    obtain ⟨hT, q31_1, q31_2⟩ := hq
                    replace q31_1 : oc (τ33.2.1 6) ≤ oc (τ30.2.1 6) + 1 := q31_1
                    replace q31_2 : ∃ e : Int, τ33.2.1 6 = st (τ30.2.1 6) e (σ.1 3) := q31_2
                    have w0_τ33 : τ33.1 0 = τ30.1 0 := hf_τ33.1 0 (by decide)
                    have w2_τ33 : τ33.1 2 = τ30.1 2 := hf_τ33.1 2 (by decide)
                    have w3_τ33 : τ33.1 3 = τ30.1 3 := hf_τ33.1 3 (by decide)
                    have w12_τ33 : τ33.1 12 = τ30.1 12 := hf_τ33.1 12 (by decide)
                    have w17_τ33 : τ33.1 17 = τ30.1 17 := hf_τ33.1 17 (by decide)
                    have w18_τ33 : τ33.1 18 = τ30.1 18 := hf_τ33.1 18 (by decide)
                    have w20_τ33 : τ33.1 20 = τ30.1 20 := hf_τ33.1 20 (by decide)
                    have g7_τ33 : τ33.2.1 7 = τ30.2.1 7 := hf_τ33.2.1 7 (by decide)
                    have g9_τ33 : τ33.2.1 9 = τ30.2.1 9 := hf_τ33.2.1 9 (by decide)
                    first | (have ca_τ33 := congr (congrArg ca g9_τ33) w3_τ33) | skip
                    first | (have o6_τ33 := congrArg oc g6_τ33) | skip
                    first | (have o7_τ33 := congrArg oc g7_τ33) | skip
                    have W0 : τ33.1 0 = σ.1 0 := by omega
                    have W17 : τ33.1 17 = σ.1 17 := by omega
                    have W18 : τ33.1 18 = σ.1 18 := by omega
                    have G7 : τ33.2.1 7 = σ.2.1 7 := (g7_τ33).trans G7
                    have A6 : ∀ j, (-1) ≤ τ33.2.1 6 j ∧ τ33.2.1 6 j ≤ 999 := fun j => hT.2 6 j
                    have A7 : ∀ j, (-1) ≤ τ33.2.1 7 j ∧ τ33.2.1 7 j ≤ 1499 := fun j => hT.2 7 j
                    have A9 : ∀ j, 0 ≤ τ33.2.1 9 j ∧ τ33.2.1 9 j ≤ 1 := fun j => hT.2 9 j
                    have v0 : 0 ≤ τ33.1 0 ∧ τ33.1 0 ≤ 60000 := hT.1 0
                    have v2 : 0 ≤ τ33.1 2 ∧ τ33.1 2 ≤ 30000 := hT.1 2
                    have v3 : 0 ≤ τ33.1 3 ∧ τ33.1 3 ≤ 1000 := hT.1 3
                    have v12 : 0 ≤ τ33.1 12 ∧ τ33.1 12 ≤ 1000 := hT.1 12
                    have v17 : 0 ≤ τ33.1 17 ∧ τ33.1 17 ≤ 60000 := hT.1 17
                    have v18 : 0 ≤ τ33.1 18 ∧ τ33.1 18 ≤ 60000 := hT.1 18
                    have v20 : 0 ≤ τ33.1 20 ∧ τ33.1 20 ≤ 19 := hT.1 20
                    refine ⟨(show 0 ≤ n1 ∧ n1 ≤ 1 from by omega), ?_⟩
                    replace hT := mT_a (k := 8) (j := (σ.1 3)) hT (show (0 : Int) ≤ n1 ∧ n1 ≤ 1 from by omega)
                    replace hT := mT_a (k := 10) (j := (σ.1 3)) hT (show (-1 : Int) ≤ (-1) ∧ (-1) ≤ 999 from by omega)
                    replace hT := mT_a (k := 11) (j := (σ.1 3)) hT (show (-1 : Int) ≤ (-1) ∧ (-1) ≤ 1499 from by omega)
                    replace hT := mT_a (k := 12) (j := (σ.1 3)) hT (show (0 : Int) ≤ 0 ∧ 0 ≤ 1 from by omega)
                    have cn := ca_n (σ.2.1 9) ((σ.1 3)) n1 (by omega)
                    have cb3 := ca_b (st (σ.2.1 9) ((σ.1 3)) n1) (n := (σ.1 3) + 1) (by omega)
                    refine ⟨_, K_X13_markNamed hT (show 0 ≤ (σ.1 3) from by omega) (show (σ.1 3) < 1000 from by omega), ?_⟩
                    intro τ37 hn_τ37 hf_τ37 hq
                    replace hT := hq
                    have w0_τ37 : τ37.1 0 = τ33.1 0 := hf_τ37.1 0 (by decide)
                    have w2_τ37 : τ37.1 2 = τ33.1 2 := hf_τ37.1 2 (by decide)
                    have w3_τ37 : τ37.1 3 = τ33.1 3 := hf_τ37.1 3 (by decide)
                    have w12_τ37 : τ37.1 12 = τ33.1 12 := hf_τ37.1 12 (by decide)
                    have w17_τ37 : τ37.1 17 = τ33.1 17 := hf_τ37.1 17 (by decide)
                    have w18_τ37 : τ37.1 18 = τ33.1 18 := hf_τ37.1 18 (by decide)
                    have w20_τ37 : τ37.1 20 = τ33.1 20 := hf_τ37.1 20 (by decide)
                    have g6_τ37 : τ37.2.1 6 = τ33.2.1 6 := hf_τ37.2.1 6 (by decide)
                    have g7_τ37 : τ37.2.1 7 = τ33.2.1 7 := hf_τ37.2.1 7 (by decide)
                    have g9_τ37 : τ37.2.1 9 = τ33.2.1 9 := hf_τ37.2.1 9 (by decide)
                    first | (have ca_τ37 := congr (congrArg ca g9_τ37) w3_τ37) | skip
                    first | (have o6_τ37 := congrArg oc g6_τ37) | skip
                    first | (have o7_τ37 := congrArg oc g7_τ37) | skip
                    have W0 : τ37.1 0 = σ.1 0 := by omega
                    have W17 : τ37.1 17 = σ.1 17 := by omega
                    have W18 : τ37.1 18 = σ.1 18 := by omega
                    have G7 : τ37.2.1 7 = σ.2.1 7 := (g7_τ37).trans G7
                    have A6 : ∀ j, (-1) ≤ τ37.2.1 6 j ∧ τ37.2.1 6 j ≤ 999 := fun j => hT.2 6 j
                    have A7 : ∀ j, (-1) ≤ τ37.2.1 7 j ∧ τ37.2.1 7 j ≤ 1499 := fun j => hT.2 7 j
                    have A9 : ∀ j, 0 ≤ τ37.2.1 9 j ∧ τ37.2.1 9 j ≤ 1 := fun j => hT.2 9 j
                    have v0 : 0 ≤ τ37.1 0 ∧ τ37.1 0 ≤ 60000 := hT.1 0
                    have v2 : 0 ≤ τ37.1 2 ∧ τ37.1 2 ≤ 30000 := hT.1 2
                    have v3 : 0 ≤ τ37.1 3 ∧ τ37.1 3 ≤ 1000 := hT.1 3
                    have v12 : 0 ≤ τ37.1 12 ∧ τ37.1 12 ≤ 1000 := hT.1 12
                    have v17 : 0 ≤ τ37.1 17 ∧ τ37.1 17 ≤ 60000 := hT.1 17
                    have v18 : 0 ≤ τ37.1 18 ∧ τ37.1 18 ≤ 60000 := hT.1 18
                    have v20 : 0 ≤ τ37.1 20 ∧ τ37.1 20 ≤ 19 := hT.1 20
                    refine h214 _ _ _ ?_
                    first | (have nn9 : τ37.2.1 9 = σ.2.1 9 := by rw [g9_τ37, g9_τ33, g9_τ30]) | skip
                    first | (have nn3 : τ37.1 3 = σ.1 3 + 1 := by omega) | skip
                    first | (have cn2 : ca (st (τ37.2.1 9) (σ.1 3) n1) (τ37.1 3) = ca (st (σ.2.1 9) (σ.1 3) n1) (σ.1 3 + 1) := by rw [nn9, nn3]) | skip
                    refine ⟨(show 0 ≤ (σ.1 3) ∧ (σ.1 3) < 1001 from by omega), ?_⟩
                    refine ⟨(show 0 ≤ n1 ∧ n1 ≤ 1 from by omega), ?_⟩
                    replace hT := mT_a (k := 9) (j := (σ.1 3)) hT (show (0 : Int) ≤ n1 ∧ n1 ≤ 1 from by omega)
                    refine ⟨fun c43 => ?_, fun c43 => ?_⟩
                    ·
                      exact ⟨hT, (show oc (τ37.2.1 6) ≤ (τ37.1 3) from by omega), (show (τ37.1 12) ≤ ca ((st (τ37.2.1 9) (σ.1 3) n1)) (τ37.1 3) from by omega), (show j_lt (τ37.2.1 6) (τ37.1 3) from by (intro e; first | exact p6 e | (rw [g6_τ12, w3_τ12]; exact p6 e) | (rw [g6_τ40, w3_τ40]; exact p6 e) | (obtain ⟨ee, he⟩ := q31_2; rw [g6_τ37, he]; unfold st; split; omega; have := p6 e; rw [g6_τ30]; omega)))⟩
                    ·
                      refine ⟨(show 0 ≤ τ37.1 12 ∧ τ37.1 12 < 1001 from by omega), ?_⟩
                      replace hT := mT_a (k := 30) (j := (τ37.1 12)) hT (show (0 : Int) ≤ (σ.1 3) ∧ (σ.1 3) ≤ 999 from by omega)
                      refine ⟨(⟨by omega, by omega⟩ : rg (τ37.1 12 + 1)), ?_⟩
                      replace hT := mT_v (i := 12) hT (show 0 ≤ (τ37.1 12 + 1) ∧ (τ37.1 12 + 1) ≤ 1000 from by omega)
                      exact ⟨hT, (show oc (τ37.2.1 6) ≤ (τ37.1 3) from by omega), (show ((τ37.1 12 + 1)) ≤ ca ((st (τ37.2.1 9) (σ.1 3) n1)) (τ37.1 3) from by omega), (show j_lt (τ37.2.1 6) (τ37.1 3) from by (intro e; first | exact p6 e | (rw [g6_τ12, w3_τ12]; exact p6 e) | (rw [g6_τ40, w3_τ40]; exact p6 e) | (obtain ⟨ee, he⟩ := q31_2; rw [g6_τ37, he]; unfold st; split; omega; have := p6 e; rw [g6_τ30]; omega)))⟩
                ·
                  refine h118 _ ?_
                  refine ⟨_, K_X13_failHere hT (show 0 ≤ 7 from by omega) (show 7 ≤ 19 from by omega), ?_⟩
                  intro τ40 hn_τ40 hf_τ40 hq
                  obtain ⟨hT, q38_1, q38_2⟩ := hq
                  replace q38_1 : ¬ (σ.1 20) = 0 → (τ40.1 20) = (σ.1 20) := q38_1
                  replace q38_2 : (σ.1 20) = 0 → (τ40.1 20) = 7 := q38_2
                  have w0_τ40 : τ40.1 0 = σ.1 0 := hf_τ40.1 0 (by decide)
                  have w2_τ40 : τ40.1 2 = σ.1 2 := hf_τ40.1 2 (by decide)
                  have w3_τ40 : τ40.1 3 = σ.1 3 := hf_τ40.1 3 (by decide)
                  have w12_τ40 : τ40.1 12 = σ.1 12 := hf_τ40.1 12 (by decide)
                  have w17_τ40 : τ40.1 17 = σ.1 17 := hf_τ40.1 17 (by decide)
                  have w18_τ40 : τ40.1 18 = σ.1 18 := hf_τ40.1 18 (by decide)
                  have g6_τ40 : τ40.2.1 6 = σ.2.1 6 := hf_τ40.2.1 6 (by decide)
                  have g7_τ40 : τ40.2.1 7 = σ.2.1 7 := hf_τ40.2.1 7 (by decide)
                  have g9_τ40 : τ40.2.1 9 = σ.2.1 9 := hf_τ40.2.1 9 (by decide)
                  first | (have ca_τ40 := congr (congrArg ca g9_τ40) w3_τ40) | skip
                  first | (have o6_τ40 := congrArg oc g6_τ40) | skip
                  first | (have o7_τ40 := congrArg oc g7_τ40) | skip
                  have W0 : τ40.1 0 = σ.1 0 := by omega
                  have W17 : τ40.1 17 = σ.1 17 := by omega
                  have W18 : τ40.1 18 = σ.1 18 := by omega
                  have G7 : τ40.2.1 7 = σ.2.1 7 := (g7_τ40).trans G7
                  have Y1 : j_lt (τ40.2.1 6) (τ40.1 3) := by rw [show (j_lt (τ40.2.1 6) (τ40.1 3)) = (j_lt (σ.2.1 6) (σ.1 3)) from by rw [w3_τ40, g6_τ40]]; exact Y1
                  have A6 : ∀ j, (-1) ≤ τ40.2.1 6 j ∧ τ40.2.1 6 j ≤ 999 := fun j => hT.2 6 j
                  have A7 : ∀ j, (-1) ≤ τ40.2.1 7 j ∧ τ40.2.1 7 j ≤ 1499 := fun j => hT.2 7 j
                  have A9 : ∀ j, 0 ≤ τ40.2.1 9 j ∧ τ40.2.1 9 j ≤ 1 := fun j => hT.2 9 j
                  have v0 : 0 ≤ τ40.1 0 ∧ τ40.1 0 ≤ 60000 := hT.1 0
                  have v2 : 0 ≤ τ40.1 2 ∧ τ40.1 2 ≤ 30000 := hT.1 2
                  have v3 : 0 ≤ τ40.1 3 ∧ τ40.1 3 ≤ 1000 := hT.1 3
                  have v12 : 0 ≤ τ40.1 12 ∧ τ40.1 12 ≤ 1000 := hT.1 12
                  have v17 : 0 ≤ τ40.1 17 ∧ τ40.1 17 ≤ 60000 := hT.1 17
                  have v18 : 0 ≤ τ40.1 18 ∧ τ40.1 18 ≤ 60000 := hT.1 18
                  have v20 : 0 ≤ τ40.1 20 ∧ τ40.1 20 ≤ 19 := hT.1 20
                  exact ⟨hT, (show oc (τ40.2.1 6) ≤ (τ40.1 3) from by omega), (show (τ40.1 12) ≤ ca (τ40.2.1 9) (τ40.1 3) from by omega), (show j_lt (τ40.2.1 6) (τ40.1 3) from Y1)⟩
            ·
              refine ⟨fun c14 => ?_, fun c14 => ?_⟩
              ·
                refine h91 _ _ _ _ _ ?_
                refine ⟨fun c20 => ?_, fun c20 => ?_⟩
                ·
                  refine h118 _ ?_
                  refine ⟨_, K_X13_failHere hT (show 0 ≤ 7 from by omega) (show 7 ≤ 19 from by omega), ?_⟩
                  intro τ40 hn_τ40 hf_τ40 hq
                  obtain ⟨hT, q38_1, q38_2⟩ := hq
                  replace q38_1 : ¬ (σ.1 20) = 0 → (τ40.1 20) = (σ.1 20) := q38_1
                  replace q38_2 : (σ.1 20) = 0 → (τ40.1 20) = 7 := q38_2
                  have w0_τ40 : τ40.1 0 = σ.1 0 := hf_τ40.1 0 (by decide)
                  have w2_τ40 : τ40.1 2 = σ.1 2 := hf_τ40.1 2 (by decide)
                  have w3_τ40 : τ40.1 3 = σ.1 3 := hf_τ40.1 3 (by decide)
                  have w12_τ40 : τ40.1 12 = σ.1 12 := hf_τ40.1 12 (by decide)
                  have w17_τ40 : τ40.1 17 = σ.1 17 := hf_τ40.1 17 (by decide)
                  have w18_τ40 : τ40.1 18 = σ.1 18 := hf_τ40.1 18 (by decide)
                  have g6_τ40 : τ40.2.1 6 = σ.2.1 6 := hf_τ40.2.1 6 (by decide)
                  have g7_τ40 : τ40.2.1 7 = σ.2.1 7 := hf_τ40.2.1 7 (by decide)
                  have g9_τ40 : τ40.2.1 9 = σ.2.1 9 := hf_τ40.2.1 9 (by decide)
                  first | (have ca_τ40 := congr (congrArg ca g9_τ40) w3_τ40) | skip
                  first | (have o6_τ40 := congrArg oc g6_τ40) | skip
                  first | (have o7_τ40 := congrArg oc g7_τ40) | skip
                  have W0 : τ40.1 0 = σ.1 0 := by omega
                  have W17 : τ40.1 17 = σ.1 17 := by omega
                  have W18 : τ40.1 18 = σ.1 18 := by omega
                  have G7 : τ40.2.1 7 = σ.2.1 7 := (g7_τ40).trans G7
                  have Y1 : j_lt (τ40.2.1 6) (τ40.1 3) := by rw [show (j_lt (τ40.2.1 6) (τ40.1 3)) = (j_lt (σ.2.1 6) (σ.1 3)) from by rw [w3_τ40, g6_τ40]]; exact Y1
                  have A6 : ∀ j, (-1) ≤ τ40.2.1 6 j ∧ τ40.2.1 6 j ≤ 999 := fun j => hT.2 6 j
                  have A7 : ∀ j, (-1) ≤ τ40.2.1 7 j ∧ τ40.2.1 7 j ≤ 1499 := fun j => hT.2 7 j
                  have A9 : ∀ j, 0 ≤ τ40.2.1 9 j ∧ τ40.2.1 9 j ≤ 1 := fun j => hT.2 9 j
                  have v0 : 0 ≤ τ40.1 0 ∧ τ40.1 0 ≤ 60000 := hT.1 0
                  have v2 : 0 ≤ τ40.1 2 ∧ τ40.1 2 ≤ 30000 := hT.1 2
                  have v3 : 0 ≤ τ40.1 3 ∧ τ40.1 3 ≤ 1000 := hT.1 3
                  have v12 : 0 ≤ τ40.1 12 ∧ τ40.1 12 ≤ 1000 := hT.1 12
                  have v17 : 0 ≤ τ40.1 17 ∧ τ40.1 17 ≤ 60000 := hT.1 17
                  have v18 : 0 ≤ τ40.1 18 ∧ τ40.1 18 ≤ 60000 := hT.1 18
                  have v20 : 0 ≤ τ40.1 20 ∧ τ40.1 20 ≤ 19 := hT.1 20
                  exact ⟨hT, (show oc (τ40.2.1 6) ≤ (τ40.1 3) from by omega), (show (τ40.1 12) ≤ ca (τ40.2.1 9) (τ40.1 3) from by omega), (show j_lt (τ40.2.1 6) (τ40.1 3) from Y1)⟩
                ·
                  refine ⟨_, K_X13_findLabel_q1 hT (show 0 ≤ (σ.1 17) from by omega) (show (σ.1 17) + (σ.1 18) ≤ 60000 from by omega) (show oc (σ.2.1 7) < 4096 from by omega), ?_⟩
                  intro x22 r_x22 hq
                  have q21_1 := hq
                  replace q21_1 : -1 ≤ x22 ∧ x22 ≤ 1499 := q21_1
                  refine ⟨fun c24 => ?_, fun c24 => ?_⟩
                  ·
                    refine ⟨fun c25 => ?_, fun c25 => ?_⟩
                    ·
                      refine h214 _ _ _ ?_
                      first | (have nn9 : τ37.2.1 9 = σ.2.1 9 := by rw [g9_τ37, g9_τ33, g9_τ30]) | skip
                      first | (have nn3 : τ37.1 3 = σ.1 3 + 1 := by omega) | skip
                      first | (have cn2 : ca (st (τ37.2.1 9) (σ.1 3) n1) (τ37.1 3) = ca (st (σ.2.1 9) (σ.1 3) n1) (σ.1 3 + 1) := by rw [nn9, nn3]) | skip
                      refine ⟨(show 0 ≤ x2 ∧ x2 < 1001 from by omega), ?_⟩
                      refine ⟨(show 0 ≤ n1 ∧ n1 ≤ 1 from by omega), ?_⟩
                      replace hT := mT_a (k := 9) (j := x2) hT (show (0 : Int) ≤ n1 ∧ n1 ≤ 1 from by omega)
                      refine ⟨fun c43 => ?_, fun c43 => ?_⟩
                      ·
                        exact ⟨hT, (show oc (σ.2.1 6) ≤ (σ.1 3) from by omega), (show (σ.1 12) ≤ ca ((st (σ.2.1 9) x2 n1)) (σ.1 3) from by omega), (show j_lt (σ.2.1 6) (σ.1 3) from Y1)⟩
                      ·
                        refine ⟨(show 0 ≤ σ.1 12 ∧ σ.1 12 < 1001 from by omega), ?_⟩
                        replace hT := mT_a (k := 30) (j := (σ.1 12)) hT (show (0 : Int) ≤ x2 ∧ x2 ≤ 999 from by omega)
                        refine ⟨(⟨by omega, by omega⟩ : rg (σ.1 12 + 1)), ?_⟩
                        replace hT := mT_v (i := 12) hT (show 0 ≤ (σ.1 12 + 1) ∧ (σ.1 12 + 1) ≤ 1000 from by omega)
                        exact ⟨hT, (show oc (σ.2.1 6) ≤ (σ.1 3) from by omega), (show ((σ.1 12 + 1)) ≤ ca ((st (σ.2.1 9) x2 n1)) (σ.1 3) from by omega), (show j_lt (σ.2.1 6) (σ.1 3) from Y1)⟩
                    ·
                      refine ⟨(⟨by omega, by omega⟩ : rg (σ.1 3 + 1)), ?_⟩
                      replace hT := mT_v (i := 3) hT (show 0 ≤ (σ.1 3 + 1) ∧ (σ.1 3 + 1) ≤ 1000 from by omega)
                      refine ⟨(show 0 ≤ σ.1 3 ∧ σ.1 3 < 1001 from by omega), ?_⟩
                      replace hT := mT_a (k := 2) (j := (σ.1 3)) hT (show (0 : Int) ≤ (σ.1 2) ∧ (σ.1 2) ≤ 30000 from by omega)
                      replace hT := mT_a (k := 3) (j := (σ.1 3)) hT (show (0 : Int) ≤ (σ.1 18) ∧ (σ.1 18) ≤ 60 from by omega)
                      refine ⟨_, K_X13_keepChars hT (show 0 ≤ (σ.1 17) from by omega) (show 0 ≤ (σ.1 18) from by omega) (show (σ.1 17) + (σ.1 18) ≤ 60000 from by omega) (show (σ.1 2) + (σ.1 18) ≤ 30000 from by omega), ?_⟩
                      intro τ30 hn_τ30 hf_τ30 hq
                      obtain ⟨hT, q28_1⟩ := hq
                      replace q28_1 : (τ30.1 2) = (σ.1 2) + (σ.1 18) := q28_1
                      have w0_τ30 : τ30.1 0 = σ.1 0 := hf_τ30.1 0 (by decide)
                      have w3_τ30 : τ30.1 3 = (σ.1 3 + 1) := hf_τ30.1 3 (by decide)
                      have w12_τ30 : τ30.1 12 = σ.1 12 := hf_τ30.1 12 (by decide)
                      have w17_τ30 : τ30.1 17 = σ.1 17 := hf_τ30.1 17 (by decide)
                      have w18_τ30 : τ30.1 18 = σ.1 18 := hf_τ30.1 18 (by decide)
                      have w20_τ30 : τ30.1 20 = σ.1 20 := hf_τ30.1 20 (by decide)
                      have g6_τ30 : τ30.2.1 6 = σ.2.1 6 := hf_τ30.2.1 6 (by decide)
                      have g7_τ30 : τ30.2.1 7 = σ.2.1 7 := hf_τ30.2.1 7 (by decide)
                      have g9_τ30 : τ30.2.1 9 = σ.2.1 9 := hf_τ30.2.1 9 (by decide)
                      first | (have ca_τ30 := congr (congrArg ca g9_τ30) w3_τ30) | skip
                      first | (have o6_τ30 := congrArg oc g6_τ30) | skip
                      first | (have o7_τ30 := congrArg oc g7_τ30) | skip
                      have W0 : τ30.1 0 = σ.1 0 := by omega
                      have W17 : τ30.1 17 = σ.1 17 := by omega
                      have W18 : τ30.1 18 = σ.1 18 := by omega
                      have G7 : τ30.2.1 7 = σ.2.1 7 := (g7_τ30).trans G7
                      have A6 : ∀ j, (-1) ≤ τ30.2.1 6 j ∧ τ30.2.1 6 j ≤ 999 := fun j => hT.2 6 j
                      have A7 : ∀ j, (-1) ≤ τ30.2.1 7 j ∧ τ30.2.1 7 j ≤ 1499 := fun j => hT.2 7 j
                      have A9 : ∀ j, 0 ≤ τ30.2.1 9 j ∧ τ30.2.1 9 j ≤ 1 := fun j => hT.2 9 j
                      have v0 : 0 ≤ τ30.1 0 ∧ τ30.1 0 ≤ 60000 := hT.1 0
                      have v2 : 0 ≤ τ30.1 2 ∧ τ30.1 2 ≤ 30000 := hT.1 2
                      have v3 : 0 ≤ τ30.1 3 ∧ τ30.1 3 ≤ 1000 := hT.1 3
                      have v12 : 0 ≤ τ30.1 12 ∧ τ30.1 12 ≤ 1000 := hT.1 12
                      have v17 : 0 ≤ τ30.1 17 ∧ τ30.1 17 ≤ 60000 := hT.1 17
                      have v18 : 0 ≤ τ30.1 18 ∧ τ30.1 18 ≤ 60000 := hT.1 18
                      have v20 : 0 ≤ τ30.1 20 ∧ τ30.1 20 ≤ 19 := hT.1 20
                      refine ⟨_, K_X13_keepSymbol hT (show 0 ≤ (σ.1 3) from by omega) (show (σ.1 3) < 1000 from by omega) (show oc (τ30.2.1 6) < 4096 from by omega), ?_⟩
                      intro τ33 hn_τ33 hf_τ33 hq
                      obtain ⟨hT, q31_1, q31_2⟩ := hq
                      replace q31_1 : oc (τ33.2.1 6) ≤ oc (τ30.2.1 6) + 1 := q31_1
                      replace q31_2 : ∃ e : Int, τ33.2.1 6 = st (τ30.2.1 6) e (σ.1 3) := q31_2
                      have w0_τ33 : τ33.1 0 = τ30.1 0 := hf_τ33.1 0 (by decide)
                      have w2_τ33 : τ33.1 2 = τ30.1 2 := hf_τ33.1 2 (by decide)
                      have w3_τ33 : τ33.1 3 = τ30.1 3 := hf_τ33.1 3 (by decide)
                      have w12_τ33 : τ33.1 12 = τ30.1 12 := hf_τ33.1 12 (by decide)
                      have w17_τ33 : τ33.1 17 = τ30.1 17 := hf_τ33.1 17 (by decide)
                      have w18_τ33 : τ33.1 18 = τ30.1 18 := hf_τ33.1 18 (by decide)
                      have w20_τ33 : τ33.1 20 = τ30.1 20 := hf_τ33.1 20 (by decide)
                      have g7_τ33 : τ33.2.1 7 = τ30.2.1 7 := hf_τ33.2.1 7 (by decide)
                      have g9_τ33 : τ33.2.1 9 = τ30.2.1 9 := hf_τ33.2.1 9 (by decide)
                      first | (have ca_τ33 := congr (congrArg ca g9_τ33) w3_τ33) | skip
                      first | (have o6_τ33 := congrArg oc g6_τ33) | skip
                      first | (have o7_τ33 := congrArg oc g7_τ33) | skip
                      have W0 : τ33.1 0 = σ.1 0 := by omega
                      have W17 : τ33.1 17 = σ.1 17 := by omega
                      have W18 : τ33.1 18 = σ.1 18 := by omega
                      have G7 : τ33.2.1 7 = σ.2.1 7 := (g7_τ33).trans G7
                      have A6 : ∀ j, (-1) ≤ τ33.2.1 6 j ∧ τ33.2.1 6 j ≤ 999 := fun j => hT.2 6 j
                      have A7 : ∀ j, (-1) ≤ τ33.2.1 7 j ∧ τ33.2.1 7 j ≤ 1499 := fun j => hT.2 7 j
                      have A9 : ∀ j, 0 ≤ τ33.2.1 9 j ∧ τ33.2.1 9 j ≤ 1 := fun j => hT.2 9 j
                      have v0 : 0 ≤ τ33.1 0 ∧ τ33.1 0 ≤ 60000 := hT.1 0
                      have v2 : 0 ≤ τ33.1 2 ∧ τ33.1 2 ≤ 30000 := hT.1 2
                      have v3 : 0 ≤ τ33.1 3 ∧ τ33.1 3 ≤ 1000 := hT.1 3
                      have v12 : 0 ≤ τ33.1 12 ∧ τ33.1 12 ≤ 1000 := hT.1 12
                      have v17 : 0 ≤ τ33.1 17 ∧ τ33.1 17 ≤ 60000 := hT.1 17
                      have v18 : 0 ≤ τ33.1 18 ∧ τ33.1 18 ≤ 60000 := hT.1 18
                      have v20 : 0 ≤ τ33.1 20 ∧ τ33.1 20 ≤ 19 := hT.1 20
                      refine ⟨(show 0 ≤ n1 ∧ n1 ≤ 1 from by omega), ?_⟩
                      replace hT := mT_a (k := 8) (j := (σ.1 3)) hT (show (0 : Int) ≤ n1 ∧ n1 ≤ 1 from by omega)
                      replace hT := mT_a (k := 10) (j := (σ.1 3)) hT (show (-1 : Int) ≤ (-1) ∧ (-1) ≤ 999 from by omega)
                      replace hT := mT_a (k := 11) (j := (σ.1 3)) hT (show (-1 : Int) ≤ (-1) ∧ (-1) ≤ 1499 from by omega)
                      replace hT := mT_a (k := 12) (j := (σ.1 3)) hT (show (0 : Int) ≤ 0 ∧ 0 ≤ 1 from by omega)
                      have cn := ca_n (σ.2.1 9) ((σ.1 3)) n1 (by omega)
                      have cb3 := ca_b (st (σ.2.1 9) ((σ.1 3)) n1) (n := (σ.1 3) + 1) (by omega)
                      refine ⟨_, K_X13_markNamed hT (show 0 ≤ (σ.1 3) from by omega) (show (σ.1 3) < 1000 from by omega), ?_⟩
                      intro τ37 hn_τ37 hf_τ37 hq
                      replace hT := hq
                      have w0_τ37 : τ37.1 0 = τ33.1 0 := hf_τ37.1 0 (by decide)
                      have w2_τ37 : τ37.1 2 = τ33.1 2 := hf_τ37.1 2 (by decide)
                      have w3_τ37 : τ37.1 3 = τ33.1 3 := hf_τ37.1 3 (by decide)
                      have w12_τ37 : τ37.1 12 = τ33.1 12 := hf_τ37.1 12 (by decide)
                      have w17_τ37 : τ37.1 17 = τ33.1 17 := hf_τ37.1 17 (by decide)
                      have w18_τ37 : τ37.1 18 = τ33.1 18 := hf_τ37.1 18 (by decide)
                      have w20_τ37 : τ37.1 20 = τ33.1 20 := hf_τ37.1 20 (by decide)
                      have g6_τ37 : τ37.2.1 6 = τ33.2.1 6 := hf_τ37.2.1 6 (by decide)
                      have g7_τ37 : τ37.2.1 7 = τ33.2.1 7 := hf_τ37.2.1 7 (by decide)
                      have g9_τ37 : τ37.2.1 9 = τ33.2.1 9 := hf_τ37.2.1 9 (by decide)
                      first | (have ca_τ37 := congr (congrArg ca g9_τ37) w3_τ37) | skip
                      first | (have o6_τ37 := congrArg oc g6_τ37) | skip
                      first | (have o7_τ37 := congrArg oc g7_τ37) | skip
                      have W0 : τ37.1 0 = σ.1 0 := by omega
                      have W17 : τ37.1 17 = σ.1 17 := by omega
                      have W18 : τ37.1 18 = σ.1 18 := by omega
                      have G7 : τ37.2.1 7 = σ.2.1 7 := (g7_τ37).trans G7
                      have A6 : ∀ j, (-1) ≤ τ37.2.1 6 j ∧ τ37.2.1 6 j ≤ 999 := fun j => hT.2 6 j
                      have A7 : ∀ j, (-1) ≤ τ37.2.1 7 j ∧ τ37.2.1 7 j ≤ 1499 := fun j => hT.2 7 j
                      have A9 : ∀ j, 0 ≤ τ37.2.1 9 j ∧ τ37.2.1 9 j ≤ 1 := fun j => hT.2 9 j
                      have v0 : 0 ≤ τ37.1 0 ∧ τ37.1 0 ≤ 60000 := hT.1 0
                      have v2 : 0 ≤ τ37.1 2 ∧ τ37.1 2 ≤ 30000 := hT.1 2
                      have v3 : 0 ≤ τ37.1 3 ∧ τ37.1 3 ≤ 1000 := hT.1 3
                      have v12 : 0 ≤ τ37.1 12 ∧ τ37.1 12 ≤ 1000 := hT.1 12
                      have v17 : 0 ≤ τ37.1 17 ∧ τ37.1 17 ≤ 60000 := hT.1 17
                      have v18 : 0 ≤ τ37.1 18 ∧ τ37.1 18 ≤ 60000 := hT.1 18
                      have v20 : 0 ≤ τ37.1 20 ∧ τ37.1 20 ≤ 19 := hT.1 20
                      refine h214 _ _ _ ?_
                      first | (have nn9 : τ37.2.1 9 = σ.2.1 9 := by rw [g9_τ37, g9_τ33, g9_τ30]) | skip
                      first | (have nn3 : τ37.1 3 = σ.1 3 + 1 := by omega) | skip
                      first | (have cn2 : ca (st (τ37.2.1 9) (σ.1 3) n1) (τ37.1 3) = ca (st (σ.2.1 9) (σ.1 3) n1) (σ.1 3 + 1) := by rw [nn9, nn3]) | skip
                      refine ⟨(show 0 ≤ (σ.1 3) ∧ (σ.1 3) < 1001 from by omega), ?_⟩
                      refine ⟨(show 0 ≤ n1 ∧ n1 ≤ 1 from by omega), ?_⟩
                      replace hT := mT_a (k := 9) (j := (σ.1 3)) hT (show (0 : Int) ≤ n1 ∧ n1 ≤ 1 from by omega)
                      refine ⟨fun c43 => ?_, fun c43 => ?_⟩
                      ·
                        exact ⟨hT, (show oc (τ37.2.1 6) ≤ (τ37.1 3) from by omega), (show (τ37.1 12) ≤ ca ((st (τ37.2.1 9) (σ.1 3) n1)) (τ37.1 3) from by omega), (show j_lt (τ37.2.1 6) (τ37.1 3) from by (intro e; first | exact p6 e | (rw [g6_τ12, w3_τ12]; exact p6 e) | (rw [g6_τ40, w3_τ40]; exact p6 e) | (obtain ⟨ee, he⟩ := q31_2; rw [g6_τ37, he]; unfold st; split; omega; have := p6 e; rw [g6_τ30]; omega)))⟩
                      ·
                        refine ⟨(show 0 ≤ τ37.1 12 ∧ τ37.1 12 < 1001 from by omega), ?_⟩
                        replace hT := mT_a (k := 30) (j := (τ37.1 12)) hT (show (0 : Int) ≤ (σ.1 3) ∧ (σ.1 3) ≤ 999 from by omega)
                        refine ⟨(⟨by omega, by omega⟩ : rg (τ37.1 12 + 1)), ?_⟩
                        replace hT := mT_v (i := 12) hT (show 0 ≤ (τ37.1 12 + 1) ∧ (τ37.1 12 + 1) ≤ 1000 from by omega)
                        exact ⟨hT, (show oc (τ37.2.1 6) ≤ (τ37.1 3) from by omega), (show ((τ37.1 12 + 1)) ≤ ca ((st (τ37.2.1 9) (σ.1 3) n1)) (τ37.1 3) from by omega), (show j_lt (τ37.2.1 6) (τ37.1 3) from by (intro e; first | exact p6 e | (rw [g6_τ12, w3_τ12]; exact p6 e) | (rw [g6_τ40, w3_τ40]; exact p6 e) | (obtain ⟨ee, he⟩ := q31_2; rw [g6_τ37, he]; unfold st; split; omega; have := p6 e; rw [g6_τ30]; omega)))⟩
                  ·
                    refine h118 _ ?_
                    refine ⟨_, K_X13_failHere hT (show 0 ≤ 7 from by omega) (show 7 ≤ 19 from by omega), ?_⟩
                    intro τ40 hn_τ40 hf_τ40 hq
                    obtain ⟨hT, q38_1, q38_2⟩ := hq
                    replace q38_1 : ¬ (σ.1 20) = 0 → (τ40.1 20) = (σ.1 20) := q38_1
                    replace q38_2 : (σ.1 20) = 0 → (τ40.1 20) = 7 := q38_2
                    have w0_τ40 : τ40.1 0 = σ.1 0 := hf_τ40.1 0 (by decide)
                    have w2_τ40 : τ40.1 2 = σ.1 2 := hf_τ40.1 2 (by decide)
                    have w3_τ40 : τ40.1 3 = σ.1 3 := hf_τ40.1 3 (by decide)
                    have w12_τ40 : τ40.1 12 = σ.1 12 := hf_τ40.1 12 (by decide)
                    have w17_τ40 : τ40.1 17 = σ.1 17 := hf_τ40.1 17 (by decide)
                    have w18_τ40 : τ40.1 18 = σ.1 18 := hf_τ40.1 18 (by decide)
                    have g6_τ40 : τ40.2.1 6 = σ.2.1 6 := hf_τ40.2.1 6 (by decide)
                    have g7_τ40 : τ40.2.1 7 = σ.2.1 7 := hf_τ40.2.1 7 (by decide)
                    have g9_τ40 : τ40.2.1 9 = σ.2.1 9 := hf_τ40.2.1 9 (by decide)
                    first | (have ca_τ40 := congr (congrArg ca g9_τ40) w3_τ40) | skip
                    first | (have o6_τ40 := congrArg oc g6_τ40) | skip
                    first | (have o7_τ40 := congrArg oc g7_τ40) | skip
                    have W0 : τ40.1 0 = σ.1 0 := by omega
                    have W17 : τ40.1 17 = σ.1 17 := by omega
                    have W18 : τ40.1 18 = σ.1 18 := by omega
                    have G7 : τ40.2.1 7 = σ.2.1 7 := (g7_τ40).trans G7
                    have Y1 : j_lt (τ40.2.1 6) (τ40.1 3) := by rw [show (j_lt (τ40.2.1 6) (τ40.1 3)) = (j_lt (σ.2.1 6) (σ.1 3)) from by rw [w3_τ40, g6_τ40]]; exact Y1
                    have A6 : ∀ j, (-1) ≤ τ40.2.1 6 j ∧ τ40.2.1 6 j ≤ 999 := fun j => hT.2 6 j
                    have A7 : ∀ j, (-1) ≤ τ40.2.1 7 j ∧ τ40.2.1 7 j ≤ 1499 := fun j => hT.2 7 j
                    have A9 : ∀ j, 0 ≤ τ40.2.1 9 j ∧ τ40.2.1 9 j ≤ 1 := fun j => hT.2 9 j
                    have v0 : 0 ≤ τ40.1 0 ∧ τ40.1 0 ≤ 60000 := hT.1 0
                    have v2 : 0 ≤ τ40.1 2 ∧ τ40.1 2 ≤ 30000 := hT.1 2
                    have v3 : 0 ≤ τ40.1 3 ∧ τ40.1 3 ≤ 1000 := hT.1 3
                    have v12 : 0 ≤ τ40.1 12 ∧ τ40.1 12 ≤ 1000 := hT.1 12
                    have v17 : 0 ≤ τ40.1 17 ∧ τ40.1 17 ≤ 60000 := hT.1 17
                    have v18 : 0 ≤ τ40.1 18 ∧ τ40.1 18 ≤ 60000 := hT.1 18
                    have v20 : 0 ≤ τ40.1 20 ∧ τ40.1 20 ≤ 19 := hT.1 20
                    exact ⟨hT, (show oc (τ40.2.1 6) ≤ (τ40.1 3) from by omega), (show (τ40.1 12) ≤ ca (τ40.2.1 9) (τ40.1 3) from by omega), (show j_lt (τ40.2.1 6) (τ40.1 3) from Y1)⟩
              ·
                refine ⟨(show 0 ≤ x2 ∧ x2 < 1001 from by omega), ?_⟩
                intro x16 r_x16 e_x16
                have b_x16 : 0 ≤ x16 ∧ x16 ≤ 1 := by rw [e_x16]; exact hT.2 8 _
                refine ⟨fun c17 => ?_, fun c17 => ?_⟩
                ·
                  have ax : x2 < (σ.1 3) := by rcases q1_2 with h | ⟨e, h⟩; omega; rw [h]; exact p6 e
                  refine h91 _ _ _ _ _ ?_
                  refine ⟨fun c20 => ?_, fun c20 => ?_⟩
                  ·
                    refine h118 _ ?_
                    refine ⟨_, K_X13_failHere hT (show 0 ≤ 7 from by omega) (show 7 ≤ 19 from by omega), ?_⟩
                    intro τ40 hn_τ40 hf_τ40 hq
                    obtain ⟨hT, q38_1, q38_2⟩ := hq
                    replace q38_1 : ¬ (σ.1 20) = 0 → (τ40.1 20) = (σ.1 20) := q38_1
                    replace q38_2 : (σ.1 20) = 0 → (τ40.1 20) = 7 := q38_2
                    have w0_τ40 : τ40.1 0 = σ.1 0 := hf_τ40.1 0 (by decide)
                    have w2_τ40 : τ40.1 2 = σ.1 2 := hf_τ40.1 2 (by decide)
                    have w3_τ40 : τ40.1 3 = σ.1 3 := hf_τ40.1 3 (by decide)
                    have w12_τ40 : τ40.1 12 = σ.1 12 := hf_τ40.1 12 (by decide)
                    have w17_τ40 : τ40.1 17 = σ.1 17 := hf_τ40.1 17 (by decide)
                    have w18_τ40 : τ40.1 18 = σ.1 18 := hf_τ40.1 18 (by decide)
                    have g6_τ40 : τ40.2.1 6 = σ.2.1 6 := hf_τ40.2.1 6 (by decide)
                    have g7_τ40 : τ40.2.1 7 = σ.2.1 7 := hf_τ40.2.1 7 (by decide)
                    have g9_τ40 : τ40.2.1 9 = σ.2.1 9 := hf_τ40.2.1 9 (by decide)
                    first | (have ca_τ40 := congr (congrArg ca g9_τ40) w3_τ40) | skip
                    first | (have o6_τ40 := congrArg oc g6_τ40) | skip
                    first | (have o7_τ40 := congrArg oc g7_τ40) | skip
                    have W0 : τ40.1 0 = σ.1 0 := by omega
                    have W17 : τ40.1 17 = σ.1 17 := by omega
                    have W18 : τ40.1 18 = σ.1 18 := by omega
                    have G7 : τ40.2.1 7 = σ.2.1 7 := (g7_τ40).trans G7
                    have Y1 : j_lt (τ40.2.1 6) (τ40.1 3) := by rw [show (j_lt (τ40.2.1 6) (τ40.1 3)) = (j_lt (σ.2.1 6) (σ.1 3)) from by rw [w3_τ40, g6_τ40]]; exact Y1
                    have A6 : ∀ j, (-1) ≤ τ40.2.1 6 j ∧ τ40.2.1 6 j ≤ 999 := fun j => hT.2 6 j
                    have A7 : ∀ j, (-1) ≤ τ40.2.1 7 j ∧ τ40.2.1 7 j ≤ 1499 := fun j => hT.2 7 j
                    have A9 : ∀ j, 0 ≤ τ40.2.1 9 j ∧ τ40.2.1 9 j ≤ 1 := fun j => hT.2 9 j
                    have v0 : 0 ≤ τ40.1 0 ∧ τ40.1 0 ≤ 60000 := hT.1 0
                    have v2 : 0 ≤ τ40.1 2 ∧ τ40.1 2 ≤ 30000 := hT.1 2
                    have v3 : 0 ≤ τ40.1 3 ∧ τ40.1 3 ≤ 1000 := hT.1 3
                    have v12 : 0 ≤ τ40.1 12 ∧ τ40.1 12 ≤ 1000 := hT.1 12
                    have v17 : 0 ≤ τ40.1 17 ∧ τ40.1 17 ≤ 60000 := hT.1 17
                    have v18 : 0 ≤ τ40.1 18 ∧ τ40.1 18 ≤ 60000 := hT.1 18
                    have v20 : 0 ≤ τ40.1 20 ∧ τ40.1 20 ≤ 19 := hT.1 20
                    exact ⟨hT, (show oc (τ40.2.1 6) ≤ (τ40.1 3) from by omega), (show (τ40.1 12) ≤ ca (τ40.2.1 9) (τ40.1 3) from by omega), (show j_lt (τ40.2.1 6) (τ40.1 3) from Y1)⟩
                  ·
                    refine ⟨_, K_X13_findLabel_q1 hT (show 0 ≤ (σ.1 17) from by omega) (show (σ.1 17) + (σ.1 18) ≤ 60000 from by omega) (show oc (σ.2.1 7) < 4096 from by omega), ?_⟩
                    intro x22 r_x22 hq
                    have q21_1 := hq
                    replace q21_1 : -1 ≤ x22 ∧ x22 ≤ 1499 := q21_1
                    refine ⟨fun c24 => ?_, fun c24 => ?_⟩
                    ·
                      refine ⟨fun c25 => ?_, fun c25 => ?_⟩
                      ·
                        refine h214 _ _ _ ?_
                        first | (have nn9 : τ37.2.1 9 = σ.2.1 9 := by rw [g9_τ37, g9_τ33, g9_τ30]) | skip
                        first | (have nn3 : τ37.1 3 = σ.1 3 + 1 := by omega) | skip
                        first | (have cn2 : ca (st (τ37.2.1 9) (σ.1 3) n1) (τ37.1 3) = ca (st (σ.2.1 9) (σ.1 3) n1) (σ.1 3 + 1) := by rw [nn9, nn3]) | skip
                        refine ⟨(show 0 ≤ x2 ∧ x2 < 1001 from by omega), ?_⟩
                        refine ⟨(show 0 ≤ n1 ∧ n1 ≤ 1 from by omega), ?_⟩
                        replace hT := mT_a (k := 9) (j := x2) hT (show (0 : Int) ≤ n1 ∧ n1 ≤ 1 from by omega)
                        refine ⟨fun c43 => ?_, fun c43 => ?_⟩
                        ·
                          exact ⟨hT, (show oc (σ.2.1 6) ≤ (σ.1 3) from by omega), (show (σ.1 12) ≤ ca ((st (σ.2.1 9) x2 n1)) (σ.1 3) from by omega), (show j_lt (σ.2.1 6) (σ.1 3) from Y1)⟩
                        ·
                          refine ⟨(show 0 ≤ σ.1 12 ∧ σ.1 12 < 1001 from by omega), ?_⟩
                          replace hT := mT_a (k := 30) (j := (σ.1 12)) hT (show (0 : Int) ≤ x2 ∧ x2 ≤ 999 from by omega)
                          refine ⟨(⟨by omega, by omega⟩ : rg (σ.1 12 + 1)), ?_⟩
                          replace hT := mT_v (i := 12) hT (show 0 ≤ (σ.1 12 + 1) ∧ (σ.1 12 + 1) ≤ 1000 from by omega)
                          exact ⟨hT, (show oc (σ.2.1 6) ≤ (σ.1 3) from by omega), (show ((σ.1 12 + 1)) ≤ ca ((st (σ.2.1 9) x2 n1)) (σ.1 3) from by omega), (show j_lt (σ.2.1 6) (σ.1 3) from Y1)⟩
                      ·
                        refine ⟨(⟨by omega, by omega⟩ : rg (σ.1 3 + 1)), ?_⟩
                        replace hT := mT_v (i := 3) hT (show 0 ≤ (σ.1 3 + 1) ∧ (σ.1 3 + 1) ≤ 1000 from by omega)
                        refine ⟨(show 0 ≤ σ.1 3 ∧ σ.1 3 < 1001 from by omega), ?_⟩
                        replace hT := mT_a (k := 2) (j := (σ.1 3)) hT (show (0 : Int) ≤ (σ.1 2) ∧ (σ.1 2) ≤ 30000 from by omega)
                        replace hT := mT_a (k := 3) (j := (σ.1 3)) hT (show (0 : Int) ≤ (σ.1 18) ∧ (σ.1 18) ≤ 60 from by omega)
                        refine ⟨_, K_X13_keepChars hT (show 0 ≤ (σ.1 17) from by omega) (show 0 ≤ (σ.1 18) from by omega) (show (σ.1 17) + (σ.1 18) ≤ 60000 from by omega) (show (σ.1 2) + (σ.1 18) ≤ 30000 from by omega), ?_⟩
                        intro τ30 hn_τ30 hf_τ30 hq
                        obtain ⟨hT, q28_1⟩ := hq
                        replace q28_1 : (τ30.1 2) = (σ.1 2) + (σ.1 18) := q28_1
                        have w0_τ30 : τ30.1 0 = σ.1 0 := hf_τ30.1 0 (by decide)
                        have w3_τ30 : τ30.1 3 = (σ.1 3 + 1) := hf_τ30.1 3 (by decide)
                        have w12_τ30 : τ30.1 12 = σ.1 12 := hf_τ30.1 12 (by decide)
                        have w17_τ30 : τ30.1 17 = σ.1 17 := hf_τ30.1 17 (by decide)
                        have w18_τ30 : τ30.1 18 = σ.1 18 := hf_τ30.1 18 (by decide)
                        have w20_τ30 : τ30.1 20 = σ.1 20 := hf_τ30.1 20 (by decide)
                        have g6_τ30 : τ30.2.1 6 = σ.2.1 6 := hf_τ30.2.1 6 (by decide)
                        have g7_τ30 : τ30.2.1 7 = σ.2.1 7 := hf_τ30.2.1 7 (by decide)
                        have g9_τ30 : τ30.2.1 9 = σ.2.1 9 := hf_τ30.2.1 9 (by decide)
                        first | (have ca_τ30 := congr (congrArg ca g9_τ30) w3_τ30) | skip
                        first | (have o6_τ30 := congrArg oc g6_τ30) | skip
                        first | (have o7_τ30 := congrArg oc g7_τ30) | skip
                        have W0 : τ30.1 0 = σ.1 0 := by omega
                        have W17 : τ30.1 17 = σ.1 17 := by omega
                        have W18 : τ30.1 18 = σ.1 18 := by omega
                        have G7 : τ30.2.1 7 = σ.2.1 7 := (g7_τ30).trans G7
                        have A6 : ∀ j, (-1) ≤ τ30.2.1 6 j ∧ τ30.2.1 6 j ≤ 999 := fun j => hT.2 6 j
                        have A7 : ∀ j, (-1) ≤ τ30.2.1 7 j ∧ τ30.2.1 7 j ≤ 1499 := fun j => hT.2 7 j
                        have A9 : ∀ j, 0 ≤ τ30.2.1 9 j ∧ τ30.2.1 9 j ≤ 1 := fun j => hT.2 9 j
                        have v0 : 0 ≤ τ30.1 0 ∧ τ30.1 0 ≤ 60000 := hT.1 0
                        have v2 : 0 ≤ τ30.1 2 ∧ τ30.1 2 ≤ 30000 := hT.1 2
                        have v3 : 0 ≤ τ30.1 3 ∧ τ30.1 3 ≤ 1000 := hT.1 3
                        have v12 : 0 ≤ τ30.1 12 ∧ τ30.1 12 ≤ 1000 := hT.1 12
                        have v17 : 0 ≤ τ30.1 17 ∧ τ30.1 17 ≤ 60000 := hT.1 17
                        have v18 : 0 ≤ τ30.1 18 ∧ τ30.1 18 ≤ 60000 := hT.1 18
                        have v20 : 0 ≤ τ30.1 20 ∧ τ30.1 20 ≤ 19 := hT.1 20
                        refine ⟨_, K_X13_keepSymbol hT (show 0 ≤ (σ.1 3) from by omega) (show (σ.1 3) < 1000 from by omega) (show oc (τ30.2.1 6) < 4096 from by omega), ?_⟩
                        intro τ33 hn_τ33 hf_τ33 hq
                        obtain ⟨hT, q31_1, q31_2⟩ := hq
                        replace q31_1 : oc (τ33.2.1 6) ≤ oc (τ30.2.1 6) + 1 := q31_1
                        replace q31_2 : ∃ e : Int, τ33.2.1 6 = st (τ30.2.1 6) e (σ.1 3) := q31_2
                        have w0_τ33 : τ33.1 0 = τ30.1 0 := hf_τ33.1 0 (by decide)
                        have w2_τ33 : τ33.1 2 = τ30.1 2 := hf_τ33.1 2 (by decide)
                        have w3_τ33 : τ33.1 3 = τ30.1 3 := hf_τ33.1 3 (by decide)
                        have w12_τ33 : τ33.1 12 = τ30.1 12 := hf_τ33.1 12 (by decide)
                        have w17_τ33 : τ33.1 17 = τ30.1 17 := hf_τ33.1 17 (by decide)
                        have w18_τ33 : τ33.1 18 = τ30.1 18 := hf_τ33.1 18 (by decide)
                        have w20_τ33 : τ33.1 20 = τ30.1 20 := hf_τ33.1 20 (by decide)
                        have g7_τ33 : τ33.2.1 7 = τ30.2.1 7 := hf_τ33.2.1 7 (by decide)
                        have g9_τ33 : τ33.2.1 9 = τ30.2.1 9 := hf_τ33.2.1 9 (by decide)
                        first | (have ca_τ33 := congr (congrArg ca g9_τ33) w3_τ33) | skip
                        first | (have o6_τ33 := congrArg oc g6_τ33) | skip
                        first | (have o7_τ33 := congrArg oc g7_τ33) | skip
                        have W0 : τ33.1 0 = σ.1 0 := by omega
                        have W17 : τ33.1 17 = σ.1 17 := by omega
                        have W18 : τ33.1 18 = σ.1 18 := by omega
                        have G7 : τ33.2.1 7 = σ.2.1 7 := (g7_τ33).trans G7
                        have A6 : ∀ j, (-1) ≤ τ33.2.1 6 j ∧ τ33.2.1 6 j ≤ 999 := fun j => hT.2 6 j
                        have A7 : ∀ j, (-1) ≤ τ33.2.1 7 j ∧ τ33.2.1 7 j ≤ 1499 := fun j => hT.2 7 j
                        have A9 : ∀ j, 0 ≤ τ33.2.1 9 j ∧ τ33.2.1 9 j ≤ 1 := fun j => hT.2 9 j
                        have v0 : 0 ≤ τ33.1 0 ∧ τ33.1 0 ≤ 60000 := hT.1 0
                        have v2 : 0 ≤ τ33.1 2 ∧ τ33.1 2 ≤ 30000 := hT.1 2
                        have v3 : 0 ≤ τ33.1 3 ∧ τ33.1 3 ≤ 1000 := hT.1 3
                        have v12 : 0 ≤ τ33.1 12 ∧ τ33.1 12 ≤ 1000 := hT.1 12
                        have v17 : 0 ≤ τ33.1 17 ∧ τ33.1 17 ≤ 60000 := hT.1 17
                        have v18 : 0 ≤ τ33.1 18 ∧ τ33.1 18 ≤ 60000 := hT.1 18
                        have v20 : 0 ≤ τ33.1 20 ∧ τ33.1 20 ≤ 19 := hT.1 20
                        refine ⟨(show 0 ≤ n1 ∧ n1 ≤ 1 from by omega), ?_⟩
                        replace hT := mT_a (k := 8) (j := (σ.1 3)) hT (show (0 : Int) ≤ n1 ∧ n1 ≤ 1 from by omega)
                        replace hT := mT_a (k := 10) (j := (σ.1 3)) hT (show (-1 : Int) ≤ (-1) ∧ (-1) ≤ 999 from by omega)
                        replace hT := mT_a (k := 11) (j := (σ.1 3)) hT (show (-1 : Int) ≤ (-1) ∧ (-1) ≤ 1499 from by omega)
                        replace hT := mT_a (k := 12) (j := (σ.1 3)) hT (show (0 : Int) ≤ 0 ∧ 0 ≤ 1 from by omega)
                        have cn := ca_n (σ.2.1 9) ((σ.1 3)) n1 (by omega)
                        have cb3 := ca_b (st (σ.2.1 9) ((σ.1 3)) n1) (n := (σ.1 3) + 1) (by omega)
                        refine ⟨_, K_X13_markNamed hT (show 0 ≤ (σ.1 3) from by omega) (show (σ.1 3) < 1000 from by omega), ?_⟩
                        intro τ37 hn_τ37 hf_τ37 hq
                        replace hT := hq
                        have w0_τ37 : τ37.1 0 = τ33.1 0 := hf_τ37.1 0 (by decide)
                        have w2_τ37 : τ37.1 2 = τ33.1 2 := hf_τ37.1 2 (by decide)
                        have w3_τ37 : τ37.1 3 = τ33.1 3 := hf_τ37.1 3 (by decide)
                        have w12_τ37 : τ37.1 12 = τ33.1 12 := hf_τ37.1 12 (by decide)
                        have w17_τ37 : τ37.1 17 = τ33.1 17 := hf_τ37.1 17 (by decide)
                        have w18_τ37 : τ37.1 18 = τ33.1 18 := hf_τ37.1 18 (by decide)
                        have w20_τ37 : τ37.1 20 = τ33.1 20 := hf_τ37.1 20 (by decide)
                        have g6_τ37 : τ37.2.1 6 = τ33.2.1 6 := hf_τ37.2.1 6 (by decide)
                        have g7_τ37 : τ37.2.1 7 = τ33.2.1 7 := hf_τ37.2.1 7 (by decide)
                        have g9_τ37 : τ37.2.1 9 = τ33.2.1 9 := hf_τ37.2.1 9 (by decide)
                        first | (have ca_τ37 := congr (congrArg ca g9_τ37) w3_τ37) | skip
                        first | (have o6_τ37 := congrArg oc g6_τ37) | skip
                        first | (have o7_τ37 := congrArg oc g7_τ37) | skip
                        have W0 : τ37.1 0 = σ.1 0 := by omega
                        have W17 : τ37.1 17 = σ.1 17 := by omega
                        have W18 : τ37.1 18 = σ.1 18 := by omega
                        have G7 : τ37.2.1 7 = σ.2.1 7 := (g7_τ37).trans G7
                        have A6 : ∀ j, (-1) ≤ τ37.2.1 6 j ∧ τ37.2.1 6 j ≤ 999 := fun j => hT.2 6 j
                        have A7 : ∀ j, (-1) ≤ τ37.2.1 7 j ∧ τ37.2.1 7 j ≤ 1499 := fun j => hT.2 7 j
                        have A9 : ∀ j, 0 ≤ τ37.2.1 9 j ∧ τ37.2.1 9 j ≤ 1 := fun j => hT.2 9 j
                        have v0 : 0 ≤ τ37.1 0 ∧ τ37.1 0 ≤ 60000 := hT.1 0
                        have v2 : 0 ≤ τ37.1 2 ∧ τ37.1 2 ≤ 30000 := hT.1 2
                        have v3 : 0 ≤ τ37.1 3 ∧ τ37.1 3 ≤ 1000 := hT.1 3
                        have v12 : 0 ≤ τ37.1 12 ∧ τ37.1 12 ≤ 1000 := hT.1 12
                        have v17 : 0 ≤ τ37.1 17 ∧ τ37.1 17 ≤ 60000 := hT.1 17
                        have v18 : 0 ≤ τ37.1 18 ∧ τ37.1 18 ≤ 60000 := hT.1 18
                        have v20 : 0 ≤ τ37.1 20 ∧ τ37.1 20 ≤ 19 := hT.1 20
                        refine h214 _ _ _ ?_
                        first | (have nn9 : τ37.2.1 9 = σ.2.1 9 := by rw [g9_τ37, g9_τ33, g9_τ30]) | skip
                        first | (have nn3 : τ37.1 3 = σ.1 3 + 1 := by omega) | skip
                        first | (have cn2 : ca (st (τ37.2.1 9) (σ.1 3) n1) (τ37.1 3) = ca (st (σ.2.1 9) (σ.1 3) n1) (σ.1 3 + 1) := by rw [nn9, nn3]) | skip
                        refine ⟨(show 0 ≤ (σ.1 3) ∧ (σ.1 3) < 1001 from by omega), ?_⟩
                        refine ⟨(show 0 ≤ n1 ∧ n1 ≤ 1 from by omega), ?_⟩
                        replace hT := mT_a (k := 9) (j := (σ.1 3)) hT (show (0 : Int) ≤ n1 ∧ n1 ≤ 1 from by omega)
                        refine ⟨fun c43 => ?_, fun c43 => ?_⟩
                        ·
                          exact ⟨hT, (show oc (τ37.2.1 6) ≤ (τ37.1 3) from by omega), (show (τ37.1 12) ≤ ca ((st (τ37.2.1 9) (σ.1 3) n1)) (τ37.1 3) from by omega), (show j_lt (τ37.2.1 6) (τ37.1 3) from by (intro e; first | exact p6 e | (rw [g6_τ12, w3_τ12]; exact p6 e) | (rw [g6_τ40, w3_τ40]; exact p6 e) | (obtain ⟨ee, he⟩ := q31_2; rw [g6_τ37, he]; unfold st; split; omega; have := p6 e; rw [g6_τ30]; omega)))⟩
                        ·
                          refine ⟨(show 0 ≤ τ37.1 12 ∧ τ37.1 12 < 1001 from by omega), ?_⟩
                          replace hT := mT_a (k := 30) (j := (τ37.1 12)) hT (show (0 : Int) ≤ (σ.1 3) ∧ (σ.1 3) ≤ 999 from by omega)
                          refine ⟨(⟨by omega, by omega⟩ : rg (τ37.1 12 + 1)), ?_⟩
                          replace hT := mT_v (i := 12) hT (show 0 ≤ (τ37.1 12 + 1) ∧ (τ37.1 12 + 1) ≤ 1000 from by omega)
                          exact ⟨hT, (show oc (τ37.2.1 6) ≤ (τ37.1 3) from by omega), (show ((τ37.1 12 + 1)) ≤ ca ((st (τ37.2.1 9) (σ.1 3) n1)) (τ37.1 3) from by omega), (show j_lt (τ37.2.1 6) (τ37.1 3) from by (intro e; first | exact p6 e | (rw [g6_τ12, w3_τ12]; exact p6 e) | (rw [g6_τ40, w3_τ40]; exact p6 e) | (obtain ⟨ee, he⟩ := q31_2; rw [g6_τ37, he]; unfold st; split; omega; have := p6 e; rw [g6_τ30]; omega)))⟩
                    ·
                      refine h118 _ ?_
                      refine ⟨_, K_X13_failHere hT (show 0 ≤ 7 from by omega) (show 7 ≤ 19 from by omega), ?_⟩
                      intro τ40 hn_τ40 hf_τ40 hq
                      obtain ⟨hT, q38_1, q38_2⟩ := hq
                      replace q38_1 : ¬ (σ.1 20) = 0 → (τ40.1 20) = (σ.1 20) := q38_1
                      replace q38_2 : (σ.1 20) = 0 → (τ40.1 20) = 7 := q38_2
                      have w0_τ40 : τ40.1 0 = σ.1 0 := hf_τ40.1 0 (by decide)
                      have w2_τ40 : τ40.1 2 = σ.1 2 := hf_τ40.1 2 (by decide)
                      have w3_τ40 : τ40.1 3 = σ.1 3 := hf_τ40.1 3 (by decide)
                      have w12_τ40 : τ40.1 12 = σ.1 12 := hf_τ40.1 12 (by decide)
                      have w17_τ40 : τ40.1 17 = σ.1 17 := hf_τ40.1 17 (by decide)
                      have w18_τ40 : τ40.1 18 = σ.1 18 := hf_τ40.1 18 (by decide)
                      have g6_τ40 : τ40.2.1 6 = σ.2.1 6 := hf_τ40.2.1 6 (by decide)
                      have g7_τ40 : τ40.2.1 7 = σ.2.1 7 := hf_τ40.2.1 7 (by decide)
                      have g9_τ40 : τ40.2.1 9 = σ.2.1 9 := hf_τ40.2.1 9 (by decide)
                      first | (have ca_τ40 := congr (congrArg ca g9_τ40) w3_τ40) | skip
                      first | (have o6_τ40 := congrArg oc g6_τ40) | skip
                      first | (have o7_τ40 := congrArg oc g7_τ40) | skip
                      have W0 : τ40.1 0 = σ.1 0 := by omega
                      have W17 : τ40.1 17 = σ.1 17 := by omega
                      have W18 : τ40.1 18 = σ.1 18 := by omega
                      have G7 : τ40.2.1 7 = σ.2.1 7 := (g7_τ40).trans G7
                      have Y1 : j_lt (τ40.2.1 6) (τ40.1 3) := by rw [show (j_lt (τ40.2.1 6) (τ40.1 3)) = (j_lt (σ.2.1 6) (σ.1 3)) from by rw [w3_τ40, g6_τ40]]; exact Y1
                      have A6 : ∀ j, (-1) ≤ τ40.2.1 6 j ∧ τ40.2.1 6 j ≤ 999 := fun j => hT.2 6 j
                      have A7 : ∀ j, (-1) ≤ τ40.2.1 7 j ∧ τ40.2.1 7 j ≤ 1499 := fun j => hT.2 7 j
                      have A9 : ∀ j, 0 ≤ τ40.2.1 9 j ∧ τ40.2.1 9 j ≤ 1 := fun j => hT.2 9 j
                      have v0 : 0 ≤ τ40.1 0 ∧ τ40.1 0 ≤ 60000 := hT.1 0
                      have v2 : 0 ≤ τ40.1 2 ∧ τ40.1 2 ≤ 30000 := hT.1 2
                      have v3 : 0 ≤ τ40.1 3 ∧ τ40.1 3 ≤ 1000 := hT.1 3
                      have v12 : 0 ≤ τ40.1 12 ∧ τ40.1 12 ≤ 1000 := hT.1 12
                      have v17 : 0 ≤ τ40.1 17 ∧ τ40.1 17 ≤ 60000 := hT.1 17
                      have v18 : 0 ≤ τ40.1 18 ∧ τ40.1 18 ≤ 60000 := hT.1 18
                      have v20 : 0 ≤ τ40.1 20 ∧ τ40.1 20 ≤ 19 := hT.1 20
                      exact ⟨hT, (show oc (τ40.2.1 6) ≤ (τ40.1 3) from by omega), (show (τ40.1 12) ≤ ca (τ40.2.1 9) (τ40.1 3) from by omega), (show j_lt (τ40.2.1 6) (τ40.1 3) from Y1)⟩
                ·
                  have ax : x2 < (σ.1 3) := by rcases q1_2 with h | ⟨e, h⟩; omega; rw [h]; exact p6 e
                  intro x18 r_x18 e_x18
                  have b_x18 : 0 ≤ x18 ∧ x18 ≤ 1 := by rw [e_x18]; exact hT.2 9 _
                  refine ⟨fun c19 => ?_, fun c19 => ?_⟩
                  ·
                    have ct := fun h1 : ¬ n1 = 0 => fun h2 : x18 = 0 => ca_t1 (σ.2.1 9) x2 ((σ.1 3)) n1 (by omega) ax (by rw [← e_x18]; exact h2) h1
                    have cb2 := ca_b (st (σ.2.1 9) x2 n1) (n := (σ.1 3)) (by omega)
                    refine h91 _ _ _ _ _ ?_
                    refine ⟨fun c20 => ?_, fun c20 => ?_⟩
                    ·
                      refine h118 _ ?_
                      refine ⟨_, K_X13_failHere hT (show 0 ≤ 7 from by omega) (show 7 ≤ 19 from by omega), ?_⟩
                      intro τ40 hn_τ40 hf_τ40 hq
                      obtain ⟨hT, q38_1, q38_2⟩ := hq
                      replace q38_1 : ¬ (σ.1 20) = 0 → (τ40.1 20) = (σ.1 20) := q38_1
                      replace q38_2 : (σ.1 20) = 0 → (τ40.1 20) = 7 := q38_2
                      have w0_τ40 : τ40.1 0 = σ.1 0 := hf_τ40.1 0 (by decide)
                      have w2_τ40 : τ40.1 2 = σ.1 2 := hf_τ40.1 2 (by decide)
                      have w3_τ40 : τ40.1 3 = σ.1 3 := hf_τ40.1 3 (by decide)
                      have w12_τ40 : τ40.1 12 = σ.1 12 := hf_τ40.1 12 (by decide)
                      have w17_τ40 : τ40.1 17 = σ.1 17 := hf_τ40.1 17 (by decide)
                      have w18_τ40 : τ40.1 18 = σ.1 18 := hf_τ40.1 18 (by decide)
                      have g6_τ40 : τ40.2.1 6 = σ.2.1 6 := hf_τ40.2.1 6 (by decide)
                      have g7_τ40 : τ40.2.1 7 = σ.2.1 7 := hf_τ40.2.1 7 (by decide)
                      have g9_τ40 : τ40.2.1 9 = σ.2.1 9 := hf_τ40.2.1 9 (by decide)
                      first | (have ca_τ40 := congr (congrArg ca g9_τ40) w3_τ40) | skip
                      first | (have o6_τ40 := congrArg oc g6_τ40) | skip
                      first | (have o7_τ40 := congrArg oc g7_τ40) | skip
                      have W0 : τ40.1 0 = σ.1 0 := by omega
                      have W17 : τ40.1 17 = σ.1 17 := by omega
                      have W18 : τ40.1 18 = σ.1 18 := by omega
                      have G7 : τ40.2.1 7 = σ.2.1 7 := (g7_τ40).trans G7
                      have Y1 : j_lt (τ40.2.1 6) (τ40.1 3) := by rw [show (j_lt (τ40.2.1 6) (τ40.1 3)) = (j_lt (σ.2.1 6) (σ.1 3)) from by rw [w3_τ40, g6_τ40]]; exact Y1
                      have A6 : ∀ j, (-1) ≤ τ40.2.1 6 j ∧ τ40.2.1 6 j ≤ 999 := fun j => hT.2 6 j
                      have A7 : ∀ j, (-1) ≤ τ40.2.1 7 j ∧ τ40.2.1 7 j ≤ 1499 := fun j => hT.2 7 j
                      have A9 : ∀ j, 0 ≤ τ40.2.1 9 j ∧ τ40.2.1 9 j ≤ 1 := fun j => hT.2 9 j
                      have v0 : 0 ≤ τ40.1 0 ∧ τ40.1 0 ≤ 60000 := hT.1 0
                      have v2 : 0 ≤ τ40.1 2 ∧ τ40.1 2 ≤ 30000 := hT.1 2
                      have v3 : 0 ≤ τ40.1 3 ∧ τ40.1 3 ≤ 1000 := hT.1 3
                      have v12 : 0 ≤ τ40.1 12 ∧ τ40.1 12 ≤ 1000 := hT.1 12
                      have v17 : 0 ≤ τ40.1 17 ∧ τ40.1 17 ≤ 60000 := hT.1 17
                      have v18 : 0 ≤ τ40.1 18 ∧ τ40.1 18 ≤ 60000 := hT.1 18
                      have v20 : 0 ≤ τ40.1 20 ∧ τ40.1 20 ≤ 19 := hT.1 20
                      exact ⟨hT, (show oc (τ40.2.1 6) ≤ (τ40.1 3) from by omega), (show (τ40.1 12) ≤ ca (τ40.2.1 9) (τ40.1 3) from by omega), (show j_lt (τ40.2.1 6) (τ40.1 3) from Y1)⟩
                    ·
                      refine ⟨_, K_X13_findLabel_q1 hT (show 0 ≤ (σ.1 17) from by omega) (show (σ.1 17) + (σ.1 18) ≤ 60000 from by omega) (show oc (σ.2.1 7) < 4096 from by omega), ?_⟩
                      intro x22 r_x22 hq
                      have q21_1 := hq
                      replace q21_1 : -1 ≤ x22 ∧ x22 ≤ 1499 := q21_1
                      refine ⟨fun c24 => ?_, fun c24 => ?_⟩
                      ·
                        refine ⟨fun c25 => ?_, fun c25 => ?_⟩
                        ·
                          refine h214 _ _ _ ?_
                          first | (have nn9 : τ37.2.1 9 = σ.2.1 9 := by rw [g9_τ37, g9_τ33, g9_τ30]) | skip
                          first | (have nn3 : τ37.1 3 = σ.1 3 + 1 := by omega) | skip
                          first | (have cn2 : ca (st (τ37.2.1 9) (σ.1 3) n1) (τ37.1 3) = ca (st (σ.2.1 9) (σ.1 3) n1) (σ.1 3 + 1) := by rw [nn9, nn3]) | skip
                          refine ⟨(show 0 ≤ x2 ∧ x2 < 1001 from by omega), ?_⟩
                          refine ⟨(show 0 ≤ n1 ∧ n1 ≤ 1 from by omega), ?_⟩
                          replace hT := mT_a (k := 9) (j := x2) hT (show (0 : Int) ≤ n1 ∧ n1 ≤ 1 from by omega)
                          refine ⟨fun c43 => ?_, fun c43 => ?_⟩
                          ·
                            exact ⟨hT, (show oc (σ.2.1 6) ≤ (σ.1 3) from by omega), (show (σ.1 12) ≤ ca ((st (σ.2.1 9) x2 n1)) (σ.1 3) from by omega), (show j_lt (σ.2.1 6) (σ.1 3) from Y1)⟩
                          ·
                            refine ⟨(show 0 ≤ σ.1 12 ∧ σ.1 12 < 1001 from by omega), ?_⟩
                            replace hT := mT_a (k := 30) (j := (σ.1 12)) hT (show (0 : Int) ≤ x2 ∧ x2 ≤ 999 from by omega)
                            refine ⟨(⟨by omega, by omega⟩ : rg (σ.1 12 + 1)), ?_⟩
                            replace hT := mT_v (i := 12) hT (show 0 ≤ (σ.1 12 + 1) ∧ (σ.1 12 + 1) ≤ 1000 from by omega)
                            exact ⟨hT, (show oc (σ.2.1 6) ≤ (σ.1 3) from by omega), (show ((σ.1 12 + 1)) ≤ ca ((st (σ.2.1 9) x2 n1)) (σ.1 3) from by omega), (show j_lt (σ.2.1 6) (σ.1 3) from Y1)⟩
                        ·
                          refine ⟨(⟨by omega, by omega⟩ : rg (σ.1 3 + 1)), ?_⟩
                          replace hT := mT_v (i := 3) hT (show 0 ≤ (σ.1 3 + 1) ∧ (σ.1 3 + 1) ≤ 1000 from by omega)
                          refine ⟨(show 0 ≤ σ.1 3 ∧ σ.1 3 < 1001 from by omega), ?_⟩
                          replace hT := mT_a (k := 2) (j := (σ.1 3)) hT (show (0 : Int) ≤ (σ.1 2) ∧ (σ.1 2) ≤ 30000 from by omega)
                          replace hT := mT_a (k := 3) (j := (σ.1 3)) hT (show (0 : Int) ≤ (σ.1 18) ∧ (σ.1 18) ≤ 60 from by omega)
                          refine ⟨_, K_X13_keepChars hT (show 0 ≤ (σ.1 17) from by omega) (show 0 ≤ (σ.1 18) from by omega) (show (σ.1 17) + (σ.1 18) ≤ 60000 from by omega) (show (σ.1 2) + (σ.1 18) ≤ 30000 from by omega), ?_⟩
                          intro τ30 hn_τ30 hf_τ30 hq
                          obtain ⟨hT, q28_1⟩ := hq
                          replace q28_1 : (τ30.1 2) = (σ.1 2) + (σ.1 18) := q28_1
                          have w0_τ30 : τ30.1 0 = σ.1 0 := hf_τ30.1 0 (by decide)
                          have w3_τ30 : τ30.1 3 = (σ.1 3 + 1) := hf_τ30.1 3 (by decide)
                          have w12_τ30 : τ30.1 12 = σ.1 12 := hf_τ30.1 12 (by decide)
                          have w17_τ30 : τ30.1 17 = σ.1 17 := hf_τ30.1 17 (by decide)
                          have w18_τ30 : τ30.1 18 = σ.1 18 := hf_τ30.1 18 (by decide)
                          have w20_τ30 : τ30.1 20 = σ.1 20 := hf_τ30.1 20 (by decide)
                          have g6_τ30 : τ30.2.1 6 = σ.2.1 6 := hf_τ30.2.1 6 (by decide)
                          have g7_τ30 : τ30.2.1 7 = σ.2.1 7 := hf_τ30.2.1 7 (by decide)
                          have g9_τ30 : τ30.2.1 9 = σ.2.1 9 := hf_τ30.2.1 9 (by decide)
                          first | (have ca_τ30 := congr (congrArg ca g9_τ30) w3_τ30) | skip
                          first | (have o6_τ30 := congrArg oc g6_τ30) | skip
                          first | (have o7_τ30 := congrArg oc g7_τ30) | skip
                          have W0 : τ30.1 0 = σ.1 0 := by omega
                          have W17 : τ30.1 17 = σ.1 17 := by omega
                          have W18 : τ30.1 18 = σ.1 18 := by omega
                          have G7 : τ30.2.1 7 = σ.2.1 7 := (g7_τ30).trans G7
                          have A6 : ∀ j, (-1) ≤ τ30.2.1 6 j ∧ τ30.2.1 6 j ≤ 999 := fun j => hT.2 6 j
                          have A7 : ∀ j, (-1) ≤ τ30.2.1 7 j ∧ τ30.2.1 7 j ≤ 1499 := fun j => hT.2 7 j
                          have A9 : ∀ j, 0 ≤ τ30.2.1 9 j ∧ τ30.2.1 9 j ≤ 1 := fun j => hT.2 9 j
                          have v0 : 0 ≤ τ30.1 0 ∧ τ30.1 0 ≤ 60000 := hT.1 0
                          have v2 : 0 ≤ τ30.1 2 ∧ τ30.1 2 ≤ 30000 := hT.1 2
                          have v3 : 0 ≤ τ30.1 3 ∧ τ30.1 3 ≤ 1000 := hT.1 3
                          have v12 : 0 ≤ τ30.1 12 ∧ τ30.1 12 ≤ 1000 := hT.1 12
                          have v17 : 0 ≤ τ30.1 17 ∧ τ30.1 17 ≤ 60000 := hT.1 17
                          have v18 : 0 ≤ τ30.1 18 ∧ τ30.1 18 ≤ 60000 := hT.1 18
                          have v20 : 0 ≤ τ30.1 20 ∧ τ30.1 20 ≤ 19 := hT.1 20
                          refine ⟨_, K_X13_keepSymbol hT (show 0 ≤ (σ.1 3) from by omega) (show (σ.1 3) < 1000 from by omega) (show oc (τ30.2.1 6) < 4096 from by omega), ?_⟩
                          intro τ33 hn_τ33 hf_τ33 hq
                          obtain ⟨hT, q31_1, q31_2⟩ := hq
                          replace q31_1 : oc (τ33.2.1 6) ≤ oc (τ30.2.1 6) + 1 := q31_1
                          replace q31_2 : ∃ e : Int, τ33.2.1 6 = st (τ30.2.1 6) e (σ.1 3) := q31_2
                          have w0_τ33 : τ33.1 0 = τ30.1 0 := hf_τ33.1 0 (by decide)
                          have w2_τ33 : τ33.1 2 = τ30.1 2 := hf_τ33.1 2 (by decide)
                          have w3_τ33 : τ33.1 3 = τ30.1 3 := hf_τ33.1 3 (by decide)
                          have w12_τ33 : τ33.1 12 = τ30.1 12 := hf_τ33.1 12 (by decide)
                          have w17_τ33 : τ33.1 17 = τ30.1 17 := hf_τ33.1 17 (by decide)
                          have w18_τ33 : τ33.1 18 = τ30.1 18 := hf_τ33.1 18 (by decide)
                          have w20_τ33 : τ33.1 20 = τ30.1 20 := hf_τ33.1 20 (by decide)
                          have g7_τ33 : τ33.2.1 7 = τ30.2.1 7 := hf_τ33.2.1 7 (by decide)
                          have g9_τ33 : τ33.2.1 9 = τ30.2.1 9 := hf_τ33.2.1 9 (by decide)
                          first | (have ca_τ33 := congr (congrArg ca g9_τ33) w3_τ33) | skip
                          first | (have o6_τ33 := congrArg oc g6_τ33) | skip
                          first | (have o7_τ33 := congrArg oc g7_τ33) | skip
                          have W0 : τ33.1 0 = σ.1 0 := by omega
                          have W17 : τ33.1 17 = σ.1 17 := by omega
                          have W18 : τ33.1 18 = σ.1 18 := by omega
                          have G7 : τ33.2.1 7 = σ.2.1 7 := (g7_τ33).trans G7
                          have A6 : ∀ j, (-1) ≤ τ33.2.1 6 j ∧ τ33.2.1 6 j ≤ 999 := fun j => hT.2 6 j
                          have A7 : ∀ j, (-1) ≤ τ33.2.1 7 j ∧ τ33.2.1 7 j ≤ 1499 := fun j => hT.2 7 j
                          have A9 : ∀ j, 0 ≤ τ33.2.1 9 j ∧ τ33.2.1 9 j ≤ 1 := fun j => hT.2 9 j
                          have v0 : 0 ≤ τ33.1 0 ∧ τ33.1 0 ≤ 60000 := hT.1 0
                          have v2 : 0 ≤ τ33.1 2 ∧ τ33.1 2 ≤ 30000 := hT.1 2
                          have v3 : 0 ≤ τ33.1 3 ∧ τ33.1 3 ≤ 1000 := hT.1 3
                          have v12 : 0 ≤ τ33.1 12 ∧ τ33.1 12 ≤ 1000 := hT.1 12
                          have v17 : 0 ≤ τ33.1 17 ∧ τ33.1 17 ≤ 60000 := hT.1 17
                          have v18 : 0 ≤ τ33.1 18 ∧ τ33.1 18 ≤ 60000 := hT.1 18
                          have v20 : 0 ≤ τ33.1 20 ∧ τ33.1 20 ≤ 19 := hT.1 20
                          refine ⟨(show 0 ≤ n1 ∧ n1 ≤ 1 from by omega), ?_⟩
                          replace hT := mT_a (k := 8) (j := (σ.1 3)) hT (show (0 : Int) ≤ n1 ∧ n1 ≤ 1 from by omega)
                          replace hT := mT_a (k := 10) (j := (σ.1 3)) hT (show (-1 : Int) ≤ (-1) ∧ (-1) ≤ 999 from by omega)
                          replace hT := mT_a (k := 11) (j := (σ.1 3)) hT (show (-1 : Int) ≤ (-1) ∧ (-1) ≤ 1499 from by omega)
                          replace hT := mT_a (k := 12) (j := (σ.1 3)) hT (show (0 : Int) ≤ 0 ∧ 0 ≤ 1 from by omega)
                          have cn := ca_n (σ.2.1 9) ((σ.1 3)) n1 (by omega)
                          have cb3 := ca_b (st (σ.2.1 9) ((σ.1 3)) n1) (n := (σ.1 3) + 1) (by omega)
                          refine ⟨_, K_X13_markNamed hT (show 0 ≤ (σ.1 3) from by omega) (show (σ.1 3) < 1000 from by omega), ?_⟩
                          intro τ37 hn_τ37 hf_τ37 hq
                          replace hT := hq
                          have w0_τ37 : τ37.1 0 = τ33.1 0 := hf_τ37.1 0 (by decide)
                          have w2_τ37 : τ37.1 2 = τ33.1 2 := hf_τ37.1 2 (by decide)
                          have w3_τ37 : τ37.1 3 = τ33.1 3 := hf_τ37.1 3 (by decide)
                          have w12_τ37 : τ37.1 12 = τ33.1 12 := hf_τ37.1 12 (by decide)
                          have w17_τ37 : τ37.1 17 = τ33.1 17 := hf_τ37.1 17 (by decide)
                          have w18_τ37 : τ37.1 18 = τ33.1 18 := hf_τ37.1 18 (by decide)
                          have w20_τ37 : τ37.1 20 = τ33.1 20 := hf_τ37.1 20 (by decide)
                          have g6_τ37 : τ37.2.1 6 = τ33.2.1 6 := hf_τ37.2.1 6 (by decide)
                          have g7_τ37 : τ37.2.1 7 = τ33.2.1 7 := hf_τ37.2.1 7 (by decide)
                          have g9_τ37 : τ37.2.1 9 = τ33.2.1 9 := hf_τ37.2.1 9 (by decide)
                          first | (have ca_τ37 := congr (congrArg ca g9_τ37) w3_τ37) | skip
                          first | (have o6_τ37 := congrArg oc g6_τ37) | skip
                          first | (have o7_τ37 := congrArg oc g7_τ37) | skip
                          have W0 : τ37.1 0 = σ.1 0 := by omega
                          have W17 : τ37.1 17 = σ.1 17 := by omega
                          have W18 : τ37.1 18 = σ.1 18 := by omega
                          have G7 : τ37.2.1 7 = σ.2.1 7 := (g7_τ37).trans G7
                          have A6 : ∀ j, (-1) ≤ τ37.2.1 6 j ∧ τ37.2.1 6 j ≤ 999 := fun j => hT.2 6 j
                          have A7 : ∀ j, (-1) ≤ τ37.2.1 7 j ∧ τ37.2.1 7 j ≤ 1499 := fun j => hT.2 7 j
                          have A9 : ∀ j, 0 ≤ τ37.2.1 9 j ∧ τ37.2.1 9 j ≤ 1 := fun j => hT.2 9 j
                          have v0 : 0 ≤ τ37.1 0 ∧ τ37.1 0 ≤ 60000 := hT.1 0
                          have v2 : 0 ≤ τ37.1 2 ∧ τ37.1 2 ≤ 30000 := hT.1 2
                          have v3 : 0 ≤ τ37.1 3 ∧ τ37.1 3 ≤ 1000 := hT.1 3
                          have v12 : 0 ≤ τ37.1 12 ∧ τ37.1 12 ≤ 1000 := hT.1 12
                          have v17 : 0 ≤ τ37.1 17 ∧ τ37.1 17 ≤ 60000 := hT.1 17
                          have v18 : 0 ≤ τ37.1 18 ∧ τ37.1 18 ≤ 60000 := hT.1 18
                          have v20 : 0 ≤ τ37.1 20 ∧ τ37.1 20 ≤ 19 := hT.1 20
                          refine h214 _ _ _ ?_
                          first | (have nn9 : τ37.2.1 9 = σ.2.1 9 := by rw [g9_τ37, g9_τ33, g9_τ30]) | skip
                          first | (have nn3 : τ37.1 3 = σ.1 3 + 1 := by omega) | skip
                          first | (have cn2 : ca (st (τ37.2.1 9) (σ.1 3) n1) (τ37.1 3) = ca (st (σ.2.1 9) (σ.1 3) n1) (σ.1 3 + 1) := by rw [nn9, nn3]) | skip
                          refine ⟨(show 0 ≤ (σ.1 3) ∧ (σ.1 3) < 1001 from by omega), ?_⟩
                          refine ⟨(show 0 ≤ n1 ∧ n1 ≤ 1 from by omega), ?_⟩
                          replace hT := mT_a (k := 9) (j := (σ.1 3)) hT (show (0 : Int) ≤ n1 ∧ n1 ≤ 1 from by omega)
                          refine ⟨fun c43 => ?_, fun c43 => ?_⟩
                          ·
                            exact ⟨hT, (show oc (τ37.2.1 6) ≤ (τ37.1 3) from by omega), (show (τ37.1 12) ≤ ca ((st (τ37.2.1 9) (σ.1 3) n1)) (τ37.1 3) from by omega), (show j_lt (τ37.2.1 6) (τ37.1 3) from by (intro e; first | exact p6 e | (rw [g6_τ12, w3_τ12]; exact p6 e) | (rw [g6_τ40, w3_τ40]; exact p6 e) | (obtain ⟨ee, he⟩ := q31_2; rw [g6_τ37, he]; unfold st; split; omega; have := p6 e; rw [g6_τ30]; omega)))⟩
                          ·
                            refine ⟨(show 0 ≤ τ37.1 12 ∧ τ37.1 12 < 1001 from by omega), ?_⟩
                            replace hT := mT_a (k := 30) (j := (τ37.1 12)) hT (show (0 : Int) ≤ (σ.1 3) ∧ (σ.1 3) ≤ 999 from by omega)
                            refine ⟨(⟨by omega, by omega⟩ : rg (τ37.1 12 + 1)), ?_⟩
                            replace hT := mT_v (i := 12) hT (show 0 ≤ (τ37.1 12 + 1) ∧ (τ37.1 12 + 1) ≤ 1000 from by omega)
                            exact ⟨hT, (show oc (τ37.2.1 6) ≤ (τ37.1 3) from by omega), (show ((τ37.1 12 + 1)) ≤ ca ((st (τ37.2.1 9) (σ.1 3) n1)) (τ37.1 3) from by omega), (show j_lt (τ37.2.1 6) (τ37.1 3) from by (intro e; first | exact p6 e | (rw [g6_τ12, w3_τ12]; exact p6 e) | (rw [g6_τ40, w3_τ40]; exact p6 e) | (obtain ⟨ee, he⟩ := q31_2; rw [g6_τ37, he]; unfold st; split; omega; have := p6 e; rw [g6_τ30]; omega)))⟩
                      ·
                        refine h118 _ ?_
                        refine ⟨_, K_X13_failHere hT (show 0 ≤ 7 from by omega) (show 7 ≤ 19 from by omega), ?_⟩
                        intro τ40 hn_τ40 hf_τ40 hq
                        obtain ⟨hT, q38_1, q38_2⟩ := hq
                        replace q38_1 : ¬ (σ.1 20) = 0 → (τ40.1 20) = (σ.1 20) := q38_1
                        replace q38_2 : (σ.1 20) = 0 → (τ40.1 20) = 7 := q38_2
                        have w0_τ40 : τ40.1 0 = σ.1 0 := hf_τ40.1 0 (by decide)
                        have w2_τ40 : τ40.1 2 = σ.1 2 := hf_τ40.1 2 (by decide)
                        have w3_τ40 : τ40.1 3 = σ.1 3 := hf_τ40.1 3 (by decide)
                        have w12_τ40 : τ40.1 12 = σ.1 12 := hf_τ40.1 12 (by decide)
                        have w17_τ40 : τ40.1 17 = σ.1 17 := hf_τ40.1 17 (by decide)
                        have w18_τ40 : τ40.1 18 = σ.1 18 := hf_τ40.1 18 (by decide)
                        have g6_τ40 : τ40.2.1 6 = σ.2.1 6 := hf_τ40.2.1 6 (by decide)
                        have g7_τ40 : τ40.2.1 7 = σ.2.1 7 := hf_τ40.2.1 7 (by decide)
                        have g9_τ40 : τ40.2.1 9 = σ.2.1 9 := hf_τ40.2.1 9 (by decide)
                        first | (have ca_τ40 := congr (congrArg ca g9_τ40) w3_τ40) | skip
                        first | (have o6_τ40 := congrArg oc g6_τ40) | skip
                        first | (have o7_τ40 := congrArg oc g7_τ40) | skip
                        have W0 : τ40.1 0 = σ.1 0 := by omega
                        have W17 : τ40.1 17 = σ.1 17 := by omega
                        have W18 : τ40.1 18 = σ.1 18 := by omega
                        have G7 : τ40.2.1 7 = σ.2.1 7 := (g7_τ40).trans G7
                        have Y1 : j_lt (τ40.2.1 6) (τ40.1 3) := by rw [show (j_lt (τ40.2.1 6) (τ40.1 3)) = (j_lt (σ.2.1 6) (σ.1 3)) from by rw [w3_τ40, g6_τ40]]; exact Y1
                        have A6 : ∀ j, (-1) ≤ τ40.2.1 6 j ∧ τ40.2.1 6 j ≤ 999 := fun j => hT.2 6 j
                        have A7 : ∀ j, (-1) ≤ τ40.2.1 7 j ∧ τ40.2.1 7 j ≤ 1499 := fun j => hT.2 7 j
                        have A9 : ∀ j, 0 ≤ τ40.2.1 9 j ∧ τ40.2.1 9 j ≤ 1 := fun j => hT.2 9 j
                        have v0 : 0 ≤ τ40.1 0 ∧ τ40.1 0 ≤ 60000 := hT.1 0
                        have v2 : 0 ≤ τ40.1 2 ∧ τ40.1 2 ≤ 30000 := hT.1 2
                        have v3 : 0 ≤ τ40.1 3 ∧ τ40.1 3 ≤ 1000 := hT.1 3
                        have v12 : 0 ≤ τ40.1 12 ∧ τ40.1 12 ≤ 1000 := hT.1 12
                        have v17 : 0 ≤ τ40.1 17 ∧ τ40.1 17 ≤ 60000 := hT.1 17
                        have v18 : 0 ≤ τ40.1 18 ∧ τ40.1 18 ≤ 60000 := hT.1 18
                        have v20 : 0 ≤ τ40.1 20 ∧ τ40.1 20 ≤ 19 := hT.1 20
                        exact ⟨hT, (show oc (τ40.2.1 6) ≤ (τ40.1 3) from by omega), (show (τ40.1 12) ≤ ca (τ40.2.1 9) (τ40.1 3) from by omega), (show j_lt (τ40.2.1 6) (τ40.1 3) from Y1)⟩
                  ·
                    have ct := fun h1 : ¬ n1 = 0 => fun h2 : x18 = 0 => ca_t1 (σ.2.1 9) x2 ((σ.1 3)) n1 (by omega) ax (by rw [← e_x18]; exact h2) h1
                    have cb2 := ca_b (st (σ.2.1 9) x2 n1) (n := (σ.1 3)) (by omega)
                    refine h91 _ _ _ _ _ ?_
                    refine ⟨fun c20 => ?_, fun c20 => ?_⟩
                    ·
                      refine h118 _ ?_
                      refine ⟨_, K_X13_failHere hT (show 0 ≤ 7 from by omega) (show 7 ≤ 19 from by omega), ?_⟩
                      intro τ40 hn_τ40 hf_τ40 hq
                      obtain ⟨hT, q38_1, q38_2⟩ := hq
                      replace q38_1 : ¬ (σ.1 20) = 0 → (τ40.1 20) = (σ.1 20) := q38_1
                      replace q38_2 : (σ.1 20) = 0 → (τ40.1 20) = 7 := q38_2
                      have w0_τ40 : τ40.1 0 = σ.1 0 := hf_τ40.1 0 (by decide)
                      have w2_τ40 : τ40.1 2 = σ.1 2 := hf_τ40.1 2 (by decide)
                      have w3_τ40 : τ40.1 3 = σ.1 3 := hf_τ40.1 3 (by decide)
                      have w12_τ40 : τ40.1 12 = σ.1 12 := hf_τ40.1 12 (by decide)
                      have w17_τ40 : τ40.1 17 = σ.1 17 := hf_τ40.1 17 (by decide)
                      have w18_τ40 : τ40.1 18 = σ.1 18 := hf_τ40.1 18 (by decide)
                      have g6_τ40 : τ40.2.1 6 = σ.2.1 6 := hf_τ40.2.1 6 (by decide)
                      have g7_τ40 : τ40.2.1 7 = σ.2.1 7 := hf_τ40.2.1 7 (by decide)
                      have g9_τ40 : τ40.2.1 9 = σ.2.1 9 := hf_τ40.2.1 9 (by decide)
                      first | (have ca_τ40 := congr (congrArg ca g9_τ40) w3_τ40) | skip
                      first | (have o6_τ40 := congrArg oc g6_τ40) | skip
                      first | (have o7_τ40 := congrArg oc g7_τ40) | skip
                      have W0 : τ40.1 0 = σ.1 0 := by omega
                      have W17 : τ40.1 17 = σ.1 17 := by omega
                      have W18 : τ40.1 18 = σ.1 18 := by omega
                      have G7 : τ40.2.1 7 = σ.2.1 7 := (g7_τ40).trans G7
                      have Y1 : j_lt (τ40.2.1 6) (τ40.1 3) := by rw [show (j_lt (τ40.2.1 6) (τ40.1 3)) = (j_lt (σ.2.1 6) (σ.1 3)) from by rw [w3_τ40, g6_τ40]]; exact Y1
                      have A6 : ∀ j, (-1) ≤ τ40.2.1 6 j ∧ τ40.2.1 6 j ≤ 999 := fun j => hT.2 6 j
                      have A7 : ∀ j, (-1) ≤ τ40.2.1 7 j ∧ τ40.2.1 7 j ≤ 1499 := fun j => hT.2 7 j
                      have A9 : ∀ j, 0 ≤ τ40.2.1 9 j ∧ τ40.2.1 9 j ≤ 1 := fun j => hT.2 9 j
                      have v0 : 0 ≤ τ40.1 0 ∧ τ40.1 0 ≤ 60000 := hT.1 0
                      have v2 : 0 ≤ τ40.1 2 ∧ τ40.1 2 ≤ 30000 := hT.1 2
                      have v3 : 0 ≤ τ40.1 3 ∧ τ40.1 3 ≤ 1000 := hT.1 3
                      have v12 : 0 ≤ τ40.1 12 ∧ τ40.1 12 ≤ 1000 := hT.1 12
                      have v17 : 0 ≤ τ40.1 17 ∧ τ40.1 17 ≤ 60000 := hT.1 17
                      have v18 : 0 ≤ τ40.1 18 ∧ τ40.1 18 ≤ 60000 := hT.1 18
                      have v20 : 0 ≤ τ40.1 20 ∧ τ40.1 20 ≤ 19 := hT.1 20
                      exact ⟨hT, (show oc (τ40.2.1 6) ≤ (τ40.1 3) from by omega), (show (τ40.1 12) ≤ ca (τ40.2.1 9) (τ40.1 3) from by omega), (show j_lt (τ40.2.1 6) (τ40.1 3) from Y1)⟩
                    ·
                      refine ⟨_, K_X13_findLabel_q1 hT (show 0 ≤ (σ.1 17) from by omega) (show (σ.1 17) + (σ.1 18) ≤ 60000 from by omega) (show oc (σ.2.1 7) < 4096 from by omega), ?_⟩
                      intro x22 r_x22 hq
                      have q21_1 := hq
                      replace q21_1 : -1 ≤ x22 ∧ x22 ≤ 1499 := q21_1
                      refine ⟨fun c24 => ?_, fun c24 => ?_⟩
                      ·
                        refine ⟨fun c25 => ?_, fun c25 => ?_⟩
                        ·
                          refine h214 _ _ _ ?_
                          first | (have nn9 : τ37.2.1 9 = σ.2.1 9 := by rw [g9_τ37, g9_τ33, g9_τ30]) | skip
                          first | (have nn3 : τ37.1 3 = σ.1 3 + 1 := by omega) | skip
                          first | (have cn2 : ca (st (τ37.2.1 9) (σ.1 3) n1) (τ37.1 3) = ca (st (σ.2.1 9) (σ.1 3) n1) (σ.1 3 + 1) := by rw [nn9, nn3]) | skip
                          refine ⟨(show 0 ≤ x2 ∧ x2 < 1001 from by omega), ?_⟩
                          refine ⟨(show 0 ≤ n1 ∧ n1 ≤ 1 from by omega), ?_⟩
                          replace hT := mT_a (k := 9) (j := x2) hT (show (0 : Int) ≤ n1 ∧ n1 ≤ 1 from by omega)
                          refine ⟨fun c43 => ?_, fun c43 => ?_⟩
                          ·
                            exact ⟨hT, (show oc (σ.2.1 6) ≤ (σ.1 3) from by omega), (show (σ.1 12) ≤ ca ((st (σ.2.1 9) x2 n1)) (σ.1 3) from by omega), (show j_lt (σ.2.1 6) (σ.1 3) from Y1)⟩
                          ·
                            refine ⟨(show 0 ≤ σ.1 12 ∧ σ.1 12 < 1001 from by omega), ?_⟩
                            replace hT := mT_a (k := 30) (j := (σ.1 12)) hT (show (0 : Int) ≤ x2 ∧ x2 ≤ 999 from by omega)
                            refine ⟨(⟨by omega, by omega⟩ : rg (σ.1 12 + 1)), ?_⟩
                            replace hT := mT_v (i := 12) hT (show 0 ≤ (σ.1 12 + 1) ∧ (σ.1 12 + 1) ≤ 1000 from by omega)
                            exact ⟨hT, (show oc (σ.2.1 6) ≤ (σ.1 3) from by omega), (show ((σ.1 12 + 1)) ≤ ca ((st (σ.2.1 9) x2 n1)) (σ.1 3) from by omega), (show j_lt (σ.2.1 6) (σ.1 3) from Y1)⟩
                        ·
                          refine ⟨(⟨by omega, by omega⟩ : rg (σ.1 3 + 1)), ?_⟩
                          replace hT := mT_v (i := 3) hT (show 0 ≤ (σ.1 3 + 1) ∧ (σ.1 3 + 1) ≤ 1000 from by omega)
                          refine ⟨(show 0 ≤ σ.1 3 ∧ σ.1 3 < 1001 from by omega), ?_⟩
                          replace hT := mT_a (k := 2) (j := (σ.1 3)) hT (show (0 : Int) ≤ (σ.1 2) ∧ (σ.1 2) ≤ 30000 from by omega)
                          replace hT := mT_a (k := 3) (j := (σ.1 3)) hT (show (0 : Int) ≤ (σ.1 18) ∧ (σ.1 18) ≤ 60 from by omega)
                          refine ⟨_, K_X13_keepChars hT (show 0 ≤ (σ.1 17) from by omega) (show 0 ≤ (σ.1 18) from by omega) (show (σ.1 17) + (σ.1 18) ≤ 60000 from by omega) (show (σ.1 2) + (σ.1 18) ≤ 30000 from by omega), ?_⟩
                          intro τ30 hn_τ30 hf_τ30 hq
                          obtain ⟨hT, q28_1⟩ := hq
                          replace q28_1 : (τ30.1 2) = (σ.1 2) + (σ.1 18) := q28_1
                          have w0_τ30 : τ30.1 0 = σ.1 0 := hf_τ30.1 0 (by decide)
                          have w3_τ30 : τ30.1 3 = (σ.1 3 + 1) := hf_τ30.1 3 (by decide)
                          have w12_τ30 : τ30.1 12 = σ.1 12 := hf_τ30.1 12 (by decide)
                          have w17_τ30 : τ30.1 17 = σ.1 17 := hf_τ30.1 17 (by decide)
                          have w18_τ30 : τ30.1 18 = σ.1 18 := hf_τ30.1 18 (by decide)
                          have w20_τ30 : τ30.1 20 = σ.1 20 := hf_τ30.1 20 (by decide)
                          have g6_τ30 : τ30.2.1 6 = σ.2.1 6 := hf_τ30.2.1 6 (by decide)
                          have g7_τ30 : τ30.2.1 7 = σ.2.1 7 := hf_τ30.2.1 7 (by decide)
                          have g9_τ30 : τ30.2.1 9 = σ.2.1 9 := hf_τ30.2.1 9 (by decide)
                          first | (have ca_τ30 := congr (congrArg ca g9_τ30) w3_τ30) | skip
                          first | (have o6_τ30 := congrArg oc g6_τ30) | skip
                          first | (have o7_τ30 := congrArg oc g7_τ30) | skip
                          have W0 : τ30.1 0 = σ.1 0 := by omega
                          have W17 : τ30.1 17 = σ.1 17 := by omega
                          have W18 : τ30.1 18 = σ.1 18 := by omega
                          have G7 : τ30.2.1 7 = σ.2.1 7 := (g7_τ30).trans G7
                          have A6 : ∀ j, (-1) ≤ τ30.2.1 6 j ∧ τ30.2.1 6 j ≤ 999 := fun j => hT.2 6 j
                          have A7 : ∀ j, (-1) ≤ τ30.2.1 7 j ∧ τ30.2.1 7 j ≤ 1499 := fun j => hT.2 7 j
                          have A9 : ∀ j, 0 ≤ τ30.2.1 9 j ∧ τ30.2.1 9 j ≤ 1 := fun j => hT.2 9 j
                          have v0 : 0 ≤ τ30.1 0 ∧ τ30.1 0 ≤ 60000 := hT.1 0
                          have v2 : 0 ≤ τ30.1 2 ∧ τ30.1 2 ≤ 30000 := hT.1 2
                          have v3 : 0 ≤ τ30.1 3 ∧ τ30.1 3 ≤ 1000 := hT.1 3
                          have v12 : 0 ≤ τ30.1 12 ∧ τ30.1 12 ≤ 1000 := hT.1 12
                          have v17 : 0 ≤ τ30.1 17 ∧ τ30.1 17 ≤ 60000 := hT.1 17
                          have v18 : 0 ≤ τ30.1 18 ∧ τ30.1 18 ≤ 60000 := hT.1 18
                          have v20 : 0 ≤ τ30.1 20 ∧ τ30.1 20 ≤ 19 := hT.1 20
                          refine ⟨_, K_X13_keepSymbol hT (show 0 ≤ (σ.1 3) from by omega) (show (σ.1 3) < 1000 from by omega) (show oc (τ30.2.1 6) < 4096 from by omega), ?_⟩
                          intro τ33 hn_τ33 hf_τ33 hq
                          obtain ⟨hT, q31_1, q31_2⟩ := hq
                          replace q31_1 : oc (τ33.2.1 6) ≤ oc (τ30.2.1 6) + 1 := q31_1
                          replace q31_2 : ∃ e : Int, τ33.2.1 6 = st (τ30.2.1 6) e (σ.1 3) := q31_2
                          have w0_τ33 : τ33.1 0 = τ30.1 0 := hf_τ33.1 0 (by decide)
                          have w2_τ33 : τ33.1 2 = τ30.1 2 := hf_τ33.1 2 (by decide)
                          have w3_τ33 : τ33.1 3 = τ30.1 3 := hf_τ33.1 3 (by decide)
                          have w12_τ33 : τ33.1 12 = τ30.1 12 := hf_τ33.1 12 (by decide)
                          have w17_τ33 : τ33.1 17 = τ30.1 17 := hf_τ33.1 17 (by decide)
                          have w18_τ33 : τ33.1 18 = τ30.1 18 := hf_τ33.1 18 (by decide)
                          have w20_τ33 : τ33.1 20 = τ30.1 20 := hf_τ33.1 20 (by decide)
                          have g7_τ33 : τ33.2.1 7 = τ30.2.1 7 := hf_τ33.2.1 7 (by decide)
                          have g9_τ33 : τ33.2.1 9 = τ30.2.1 9 := hf_τ33.2.1 9 (by decide)
                          first | (have ca_τ33 := congr (congrArg ca g9_τ33) w3_τ33) | skip
                          first | (have o6_τ33 := congrArg oc g6_τ33) | skip
                          first | (have o7_τ33 := congrArg oc g7_τ33) | skip
                          have W0 : τ33.1 0 = σ.1 0 := by omega
                          have W17 : τ33.1 17 = σ.1 17 := by omega
                          have W18 : τ33.1 18 = σ.1 18 := by omega
                          have G7 : τ33.2.1 7 = σ.2.1 7 := (g7_τ33).trans G7
                          have A6 : ∀ j, (-1) ≤ τ33.2.1 6 j ∧ τ33.2.1 6 j ≤ 999 := fun j => hT.2 6 j
                          have A7 : ∀ j, (-1) ≤ τ33.2.1 7 j ∧ τ33.2.1 7 j ≤ 1499 := fun j => hT.2 7 j
                          have A9 : ∀ j, 0 ≤ τ33.2.1 9 j ∧ τ33.2.1 9 j ≤ 1 := fun j => hT.2 9 j
                          have v0 : 0 ≤ τ33.1 0 ∧ τ33.1 0 ≤ 60000 := hT.1 0
                          have v2 : 0 ≤ τ33.1 2 ∧ τ33.1 2 ≤ 30000 := hT.1 2
                          have v3 : 0 ≤ τ33.1 3 ∧ τ33.1 3 ≤ 1000 := hT.1 3
                          have v12 : 0 ≤ τ33.1 12 ∧ τ33.1 12 ≤ 1000 := hT.1 12
                          have v17 : 0 ≤ τ33.1 17 ∧ τ33.1 17 ≤ 60000 := hT.1 17
                          have v18 : 0 ≤ τ33.1 18 ∧ τ33.1 18 ≤ 60000 := hT.1 18
                          have v20 : 0 ≤ τ33.1 20 ∧ τ33.1 20 ≤ 19 := hT.1 20
                          refine ⟨(show 0 ≤ n1 ∧ n1 ≤ 1 from by omega), ?_⟩
                          replace hT := mT_a (k := 8) (j := (σ.1 3)) hT (show (0 : Int) ≤ n1 ∧ n1 ≤ 1 from by omega)
                          replace hT := mT_a (k := 10) (j := (σ.1 3)) hT (show (-1 : Int) ≤ (-1) ∧ (-1) ≤ 999 from by omega)
                          replace hT := mT_a (k := 11) (j := (σ.1 3)) hT (show (-1 : Int) ≤ (-1) ∧ (-1) ≤ 1499 from by omega)
                          replace hT := mT_a (k := 12) (j := (σ.1 3)) hT (show (0 : Int) ≤ 0 ∧ 0 ≤ 1 from by omega)
                          have cn := ca_n (σ.2.1 9) ((σ.1 3)) n1 (by omega)
                          have cb3 := ca_b (st (σ.2.1 9) ((σ.1 3)) n1) (n := (σ.1 3) + 1) (by omega)
                          refine ⟨_, K_X13_markNamed hT (show 0 ≤ (σ.1 3) from by omega) (show (σ.1 3) < 1000 from by omega), ?_⟩
                          intro τ37 hn_τ37 hf_τ37 hq
                          replace hT := hq
                          have w0_τ37 : τ37.1 0 = τ33.1 0 := hf_τ37.1 0 (by decide)
                          have w2_τ37 : τ37.1 2 = τ33.1 2 := hf_τ37.1 2 (by decide)
                          have w3_τ37 : τ37.1 3 = τ33.1 3 := hf_τ37.1 3 (by decide)
                          have w12_τ37 : τ37.1 12 = τ33.1 12 := hf_τ37.1 12 (by decide)
                          have w17_τ37 : τ37.1 17 = τ33.1 17 := hf_τ37.1 17 (by decide)
                          have w18_τ37 : τ37.1 18 = τ33.1 18 := hf_τ37.1 18 (by decide)
                          have w20_τ37 : τ37.1 20 = τ33.1 20 := hf_τ37.1 20 (by decide)
                          have g6_τ37 : τ37.2.1 6 = τ33.2.1 6 := hf_τ37.2.1 6 (by decide)
                          have g7_τ37 : τ37.2.1 7 = τ33.2.1 7 := hf_τ37.2.1 7 (by decide)
                          have g9_τ37 : τ37.2.1 9 = τ33.2.1 9 := hf_τ37.2.1 9 (by decide)
                          first | (have ca_τ37 := congr (congrArg ca g9_τ37) w3_τ37) | skip
                          first | (have o6_τ37 := congrArg oc g6_τ37) | skip
                          first | (have o7_τ37 := congrArg oc g7_τ37) | skip
                          have W0 : τ37.1 0 = σ.1 0 := by omega
                          have W17 : τ37.1 17 = σ.1 17 := by omega
                          have W18 : τ37.1 18 = σ.1 18 := by omega
                          have G7 : τ37.2.1 7 = σ.2.1 7 := (g7_τ37).trans G7
                          have A6 : ∀ j, (-1) ≤ τ37.2.1 6 j ∧ τ37.2.1 6 j ≤ 999 := fun j => hT.2 6 j
                          have A7 : ∀ j, (-1) ≤ τ37.2.1 7 j ∧ τ37.2.1 7 j ≤ 1499 := fun j => hT.2 7 j
                          have A9 : ∀ j, 0 ≤ τ37.2.1 9 j ∧ τ37.2.1 9 j ≤ 1 := fun j => hT.2 9 j
                          have v0 : 0 ≤ τ37.1 0 ∧ τ37.1 0 ≤ 60000 := hT.1 0
                          have v2 : 0 ≤ τ37.1 2 ∧ τ37.1 2 ≤ 30000 := hT.1 2
                          have v3 : 0 ≤ τ37.1 3 ∧ τ37.1 3 ≤ 1000 := hT.1 3
                          have v12 : 0 ≤ τ37.1 12 ∧ τ37.1 12 ≤ 1000 := hT.1 12
                          have v17 : 0 ≤ τ37.1 17 ∧ τ37.1 17 ≤ 60000 := hT.1 17
                          have v18 : 0 ≤ τ37.1 18 ∧ τ37.1 18 ≤ 60000 := hT.1 18
                          have v20 : 0 ≤ τ37.1 20 ∧ τ37.1 20 ≤ 19 := hT.1 20
                          refine h214 _ _ _ ?_
                          first | (have nn9 : τ37.2.1 9 = σ.2.1 9 := by rw [g9_τ37, g9_τ33, g9_τ30]) | skip
                          first | (have nn3 : τ37.1 3 = σ.1 3 + 1 := by omega) | skip
                          first | (have cn2 : ca (st (τ37.2.1 9) (σ.1 3) n1) (τ37.1 3) = ca (st (σ.2.1 9) (σ.1 3) n1) (σ.1 3 + 1) := by rw [nn9, nn3]) | skip
                          refine ⟨(show 0 ≤ (σ.1 3) ∧ (σ.1 3) < 1001 from by omega), ?_⟩
                          refine ⟨(show 0 ≤ n1 ∧ n1 ≤ 1 from by omega), ?_⟩
                          replace hT := mT_a (k := 9) (j := (σ.1 3)) hT (show (0 : Int) ≤ n1 ∧ n1 ≤ 1 from by omega)
                          refine ⟨fun c43 => ?_, fun c43 => ?_⟩
                          ·
                            exact ⟨hT, (show oc (τ37.2.1 6) ≤ (τ37.1 3) from by omega), (show (τ37.1 12) ≤ ca ((st (τ37.2.1 9) (σ.1 3) n1)) (τ37.1 3) from by omega), (show j_lt (τ37.2.1 6) (τ37.1 3) from by (intro e; first | exact p6 e | (rw [g6_τ12, w3_τ12]; exact p6 e) | (rw [g6_τ40, w3_τ40]; exact p6 e) | (obtain ⟨ee, he⟩ := q31_2; rw [g6_τ37, he]; unfold st; split; omega; have := p6 e; rw [g6_τ30]; omega)))⟩
                          ·
                            refine ⟨(show 0 ≤ τ37.1 12 ∧ τ37.1 12 < 1001 from by omega), ?_⟩
                            replace hT := mT_a (k := 30) (j := (τ37.1 12)) hT (show (0 : Int) ≤ (σ.1 3) ∧ (σ.1 3) ≤ 999 from by omega)
                            refine ⟨(⟨by omega, by omega⟩ : rg (τ37.1 12 + 1)), ?_⟩
                            replace hT := mT_v (i := 12) hT (show 0 ≤ (τ37.1 12 + 1) ∧ (τ37.1 12 + 1) ≤ 1000 from by omega)
                            exact ⟨hT, (show oc (τ37.2.1 6) ≤ (τ37.1 3) from by omega), (show ((τ37.1 12 + 1)) ≤ ca ((st (τ37.2.1 9) (σ.1 3) n1)) (τ37.1 3) from by omega), (show j_lt (τ37.2.1 6) (τ37.1 3) from by (intro e; first | exact p6 e | (rw [g6_τ12, w3_τ12]; exact p6 e) | (rw [g6_τ40, w3_τ40]; exact p6 e) | (obtain ⟨ee, he⟩ := q31_2; rw [g6_τ37, he]; unfold st; split; omega; have := p6 e; rw [g6_τ30]; omega)))⟩
                      ·
                        refine h118 _ ?_
                        refine ⟨_, K_X13_failHere hT (show 0 ≤ 7 from by omega) (show 7 ≤ 19 from by omega), ?_⟩
                        intro τ40 hn_τ40 hf_τ40 hq
                        obtain ⟨hT, q38_1, q38_2⟩ := hq
                        replace q38_1 : ¬ (σ.1 20) = 0 → (τ40.1 20) = (σ.1 20) := q38_1
                        replace q38_2 : (σ.1 20) = 0 → (τ40.1 20) = 7 := q38_2
                        have w0_τ40 : τ40.1 0 = σ.1 0 := hf_τ40.1 0 (by decide)
                        have w2_τ40 : τ40.1 2 = σ.1 2 := hf_τ40.1 2 (by decide)
                        have w3_τ40 : τ40.1 3 = σ.1 3 := hf_τ40.1 3 (by decide)
                        have w12_τ40 : τ40.1 12 = σ.1 12 := hf_τ40.1 12 (by decide)
                        have w17_τ40 : τ40.1 17 = σ.1 17 := hf_τ40.1 17 (by decide)
                        have w18_τ40 : τ40.1 18 = σ.1 18 := hf_τ40.1 18 (by decide)
                        have g6_τ40 : τ40.2.1 6 = σ.2.1 6 := hf_τ40.2.1 6 (by decide)
                        have g7_τ40 : τ40.2.1 7 = σ.2.1 7 := hf_τ40.2.1 7 (by decide)
                        have g9_τ40 : τ40.2.1 9 = σ.2.1 9 := hf_τ40.2.1 9 (by decide)
                        first | (have ca_τ40 := congr (congrArg ca g9_τ40) w3_τ40) | skip
                        first | (have o6_τ40 := congrArg oc g6_τ40) | skip
                        first | (have o7_τ40 := congrArg oc g7_τ40) | skip
                        have W0 : τ40.1 0 = σ.1 0 := by omega
                        have W17 : τ40.1 17 = σ.1 17 := by omega
                        have W18 : τ40.1 18 = σ.1 18 := by omega
                        have G7 : τ40.2.1 7 = σ.2.1 7 := (g7_τ40).trans G7
                        have Y1 : j_lt (τ40.2.1 6) (τ40.1 3) := by rw [show (j_lt (τ40.2.1 6) (τ40.1 3)) = (j_lt (σ.2.1 6) (σ.1 3)) from by rw [w3_τ40, g6_τ40]]; exact Y1
                        have A6 : ∀ j, (-1) ≤ τ40.2.1 6 j ∧ τ40.2.1 6 j ≤ 999 := fun j => hT.2 6 j
                        have A7 : ∀ j, (-1) ≤ τ40.2.1 7 j ∧ τ40.2.1 7 j ≤ 1499 := fun j => hT.2 7 j
                        have A9 : ∀ j, 0 ≤ τ40.2.1 9 j ∧ τ40.2.1 9 j ≤ 1 := fun j => hT.2 9 j
                        have v0 : 0 ≤ τ40.1 0 ∧ τ40.1 0 ≤ 60000 := hT.1 0
                        have v2 : 0 ≤ τ40.1 2 ∧ τ40.1 2 ≤ 30000 := hT.1 2
                        have v3 : 0 ≤ τ40.1 3 ∧ τ40.1 3 ≤ 1000 := hT.1 3
                        have v12 : 0 ≤ τ40.1 12 ∧ τ40.1 12 ≤ 1000 := hT.1 12
                        have v17 : 0 ≤ τ40.1 17 ∧ τ40.1 17 ≤ 60000 := hT.1 17
                        have v18 : 0 ≤ τ40.1 18 ∧ τ40.1 18 ≤ 60000 := hT.1 18
                        have v20 : 0 ≤ τ40.1 20 ∧ τ40.1 20 ≤ 19 := hT.1 20
                        exact ⟨hT, (show oc (τ40.2.1 6) ≤ (τ40.1 3) from by omega), (show (τ40.1 12) ≤ ca (τ40.2.1 9) (τ40.1 3) from by omega), (show j_lt (τ40.2.1 6) (τ40.1 3) from Y1)⟩
          ·
            refine h54 _ ?_
            refine ⟨_, K_X13_failHere hT (show 0 ≤ 5 from by omega) (show 5 ≤ 19 from by omega), ?_⟩
            intro τ12 hn_τ12 hf_τ12 hq
            obtain ⟨hT, q10_1, q10_2⟩ := hq
            replace q10_1 : ¬ (σ.1 20) = 0 → (τ12.1 20) = (σ.1 20) := q10_1
            replace q10_2 : (σ.1 20) = 0 → (τ12.1 20) = 5 := q10_2
            have w0_τ12 : τ12.1 0 = σ.1 0 := hf_τ12.1 0 (by decide)
            have w2_τ12 : τ12.1 2 = σ.1 2 := hf_τ12.1 2 (by decide)
            have w3_τ12 : τ12.1 3 = σ.1 3 := hf_τ12.1 3 (by decide)
            have w12_τ12 : τ12.1 12 = σ.1 12 := hf_τ12.1 12 (by decide)
            have w17_τ12 : τ12.1 17 = σ.1 17 := hf_τ12.1 17 (by decide)
            have w18_τ12 : τ12.1 18 = σ.1 18 := hf_τ12.1 18 (by decide)
            have g6_τ12 : τ12.2.1 6 = σ.2.1 6 := hf_τ12.2.1 6 (by decide)
            have g7_τ12 : τ12.2.1 7 = σ.2.1 7 := hf_τ12.2.1 7 (by decide)
            have g9_τ12 : τ12.2.1 9 = σ.2.1 9 := hf_τ12.2.1 9 (by decide)
            first | (have ca_τ12 := congr (congrArg ca g9_τ12) w3_τ12) | skip
            first | (have o6_τ12 := congrArg oc g6_τ12) | skip
            first | (have o7_τ12 := congrArg oc g7_τ12) | skip
            have W0 : τ12.1 0 = σ.1 0 := by omega
            have W17 : τ12.1 17 = σ.1 17 := by omega
            have W18 : τ12.1 18 = σ.1 18 := by omega
            have G7 : τ12.2.1 7 = σ.2.1 7 := (g7_τ12).trans G7
            have Y1 : j_lt (τ12.2.1 6) (τ12.1 3) := by rw [show (j_lt (τ12.2.1 6) (τ12.1 3)) = (j_lt (σ.2.1 6) (σ.1 3)) from by rw [w3_τ12, g6_τ12]]; exact Y1
            have A6 : ∀ j, (-1) ≤ τ12.2.1 6 j ∧ τ12.2.1 6 j ≤ 999 := fun j => hT.2 6 j
            have A7 : ∀ j, (-1) ≤ τ12.2.1 7 j ∧ τ12.2.1 7 j ≤ 1499 := fun j => hT.2 7 j
            have A9 : ∀ j, 0 ≤ τ12.2.1 9 j ∧ τ12.2.1 9 j ≤ 1 := fun j => hT.2 9 j
            have v0 : 0 ≤ τ12.1 0 ∧ τ12.1 0 ≤ 60000 := hT.1 0
            have v2 : 0 ≤ τ12.1 2 ∧ τ12.1 2 ≤ 30000 := hT.1 2
            have v3 : 0 ≤ τ12.1 3 ∧ τ12.1 3 ≤ 1000 := hT.1 3
            have v12 : 0 ≤ τ12.1 12 ∧ τ12.1 12 ≤ 1000 := hT.1 12
            have v17 : 0 ≤ τ12.1 17 ∧ τ12.1 17 ≤ 60000 := hT.1 17
            have v18 : 0 ≤ τ12.1 18 ∧ τ12.1 18 ≤ 60000 := hT.1 18
            have v20 : 0 ≤ τ12.1 20 ∧ τ12.1 20 ≤ 19 := hT.1 20
            exact ⟨hT, (show oc (τ12.2.1 6) ≤ (τ12.1 3) from by omega), (show (τ12.1 12) ≤ ca (τ12.2.1 9) (τ12.1 3) from by omega), (show j_lt (τ12.2.1 6) (τ12.1 3) from Y1)⟩
  ·
    refine h15 _ _ _ _ ?_
    refine ⟨fun c5 => ?_, fun c5 => ?_⟩
    ·
      refine h54 _ ?_
      refine ⟨_, K_X13_failHere hT (show 0 ≤ 5 from by omega) (show 5 ≤ 19 from by omega), ?_⟩
      intro τ12 hn_τ12 hf_τ12 hq
      obtain ⟨hT, q10_1, q10_2⟩ := hq
      replace q10_1 : ¬ (σ.1 20) = 0 → (τ12.1 20) = (σ.1 20) := q10_1
      replace q10_2 : (σ.1 20) = 0 → (τ12.1 20) = 5 := q10_2
      have w0_τ12 : τ12.1 0 = σ.1 0 := hf_τ12.1 0 (by decide)
      have w2_τ12 : τ12.1 2 = σ.1 2 := hf_τ12.1 2 (by decide)
      have w3_τ12 : τ12.1 3 = σ.1 3 := hf_τ12.1 3 (by decide)
      have w12_τ12 : τ12.1 12 = σ.1 12 := hf_τ12.1 12 (by decide)
      have w17_τ12 : τ12.1 17 = σ.1 17 := hf_τ12.1 17 (by decide)
      have w18_τ12 : τ12.1 18 = σ.1 18 := hf_τ12.1 18 (by decide)
      have g6_τ12 : τ12.2.1 6 = σ.2.1 6 := hf_τ12.2.1 6 (by decide)
      have g7_τ12 : τ12.2.1 7 = σ.2.1 7 := hf_τ12.2.1 7 (by decide)
      have g9_τ12 : τ12.2.1 9 = σ.2.1 9 := hf_τ12.2.1 9 (by decide)
      first | (have ca_τ12 := congr (congrArg ca g9_τ12) w3_τ12) | skip
      first | (have o6_τ12 := congrArg oc g6_τ12) | skip
      first | (have o7_τ12 := congrArg oc g7_τ12) | skip
      have W0 : τ12.1 0 = σ.1 0 := by omega
      have W17 : τ12.1 17 = σ.1 17 := by omega
      have W18 : τ12.1 18 = σ.1 18 := by omega
      have G7 : τ12.2.1 7 = σ.2.1 7 := (g7_τ12).trans G7
      have Y1 : j_lt (τ12.2.1 6) (τ12.1 3) := by rw [show (j_lt (τ12.2.1 6) (τ12.1 3)) = (j_lt (σ.2.1 6) (σ.1 3)) from by rw [w3_τ12, g6_τ12]]; exact Y1
      have A6 : ∀ j, (-1) ≤ τ12.2.1 6 j ∧ τ12.2.1 6 j ≤ 999 := fun j => hT.2 6 j
      have A7 : ∀ j, (-1) ≤ τ12.2.1 7 j ∧ τ12.2.1 7 j ≤ 1499 := fun j => hT.2 7 j
      have A9 : ∀ j, 0 ≤ τ12.2.1 9 j ∧ τ12.2.1 9 j ≤ 1 := fun j => hT.2 9 j
      have v0 : 0 ≤ τ12.1 0 ∧ τ12.1 0 ≤ 60000 := hT.1 0
      have v2 : 0 ≤ τ12.1 2 ∧ τ12.1 2 ≤ 30000 := hT.1 2
      have v3 : 0 ≤ τ12.1 3 ∧ τ12.1 3 ≤ 1000 := hT.1 3
      have v12 : 0 ≤ τ12.1 12 ∧ τ12.1 12 ≤ 1000 := hT.1 12
      have v17 : 0 ≤ τ12.1 17 ∧ τ12.1 17 ≤ 60000 := hT.1 17
      have v18 : 0 ≤ τ12.1 18 ∧ τ12.1 18 ≤ 60000 := hT.1 18
      have v20 : 0 ≤ τ12.1 20 ∧ τ12.1 20 ≤ 19 := hT.1 20
      exact ⟨hT, (show oc (τ12.2.1 6) ≤ (τ12.1 3) from by omega), (show (τ12.1 12) ≤ ca (τ12.2.1 9) (τ12.1 3) from by omega), (show j_lt (τ12.2.1 6) (τ12.1 3) from Y1)⟩
    ·
      refine ⟨fun c6 => ?_, fun c6 => ?_⟩
      ·
        refine h60 _ _ _ _ ?_
        refine ⟨fun c13 => ?_, fun c13 => ?_⟩
        ·
          refine h91 _ _ _ _ _ ?_
          refine ⟨fun c20 => ?_, fun c20 => ?_⟩
          ·
            refine h118 _ ?_
            refine ⟨_, K_X13_failHere hT (show 0 ≤ 7 from by omega) (show 7 ≤ 19 from by omega), ?_⟩
            intro τ40 hn_τ40 hf_τ40 hq
            obtain ⟨hT, q38_1, q38_2⟩ := hq
            replace q38_1 : ¬ (σ.1 20) = 0 → (τ40.1 20) = (σ.1 20) := q38_1
            replace q38_2 : (σ.1 20) = 0 → (τ40.1 20) = 7 := q38_2
            have w0_τ40 : τ40.1 0 = σ.1 0 := hf_τ40.1 0 (by decide)
            have w2_τ40 : τ40.1 2 = σ.1 2 := hf_τ40.1 2 (by decide)
            have w3_τ40 : τ40.1 3 = σ.1 3 := hf_τ40.1 3 (by decide)
            have w12_τ40 : τ40.1 12 = σ.1 12 := hf_τ40.1 12 (by decide)
            have w17_τ40 : τ40.1 17 = σ.1 17 := hf_τ40.1 17 (by decide)
            have w18_τ40 : τ40.1 18 = σ.1 18 := hf_τ40.1 18 (by decide)
            have g6_τ40 : τ40.2.1 6 = σ.2.1 6 := hf_τ40.2.1 6 (by decide)
            have g7_τ40 : τ40.2.1 7 = σ.2.1 7 := hf_τ40.2.1 7 (by decide)
            have g9_τ40 : τ40.2.1 9 = σ.2.1 9 := hf_τ40.2.1 9 (by decide)
            first | (have ca_τ40 := congr (congrArg ca g9_τ40) w3_τ40) | skip
            first | (have o6_τ40 := congrArg oc g6_τ40) | skip
            first | (have o7_τ40 := congrArg oc g7_τ40) | skip
            have W0 : τ40.1 0 = σ.1 0 := by omega
            have W17 : τ40.1 17 = σ.1 17 := by omega
            have W18 : τ40.1 18 = σ.1 18 := by omega
            have G7 : τ40.2.1 7 = σ.2.1 7 := (g7_τ40).trans G7
            have Y1 : j_lt (τ40.2.1 6) (τ40.1 3) := by rw [show (j_lt (τ40.2.1 6) (τ40.1 3)) = (j_lt (σ.2.1 6) (σ.1 3)) from by rw [w3_τ40, g6_τ40]]; exact Y1
            have A6 : ∀ j, (-1) ≤ τ40.2.1 6 j ∧ τ40.2.1 6 j ≤ 999 := fun j => hT.2 6 j
            have A7 : ∀ j, (-1) ≤ τ40.2.1 7 j ∧ τ40.2.1 7 j ≤ 1499 := fun j => hT.2 7 j
            have A9 : ∀ j, 0 ≤ τ40.2.1 9 j ∧ τ40.2.1 9 j ≤ 1 := fun j => hT.2 9 j
            have v0 : 0 ≤ τ40.1 0 ∧ τ40.1 0 ≤ 60000 := hT.1 0
            have v2 : 0 ≤ τ40.1 2 ∧ τ40.1 2 ≤ 30000 := hT.1 2
            have v3 : 0 ≤ τ40.1 3 ∧ τ40.1 3 ≤ 1000 := hT.1 3
            have v12 : 0 ≤ τ40.1 12 ∧ τ40.1 12 ≤ 1000 := hT.1 12
            have v17 : 0 ≤ τ40.1 17 ∧ τ40.1 17 ≤ 60000 := hT.1 17
            have v18 : 0 ≤ τ40.1 18 ∧ τ40.1 18 ≤ 60000 := hT.1 18
            have v20 : 0 ≤ τ40.1 20 ∧ τ40.1 20 ≤ 19 := hT.1 20
            exact ⟨hT, (show oc (τ40.2.1 6) ≤ (τ40.1 3) from by omega), (show (τ40.1 12) ≤ ca (τ40.2.1 9) (τ40.1 3) from by omega), (show j_lt (τ40.2.1 6) (τ40.1 3) from Y1)⟩
          ·
            refine ⟨_, K_X13_findLabel_q1 hT (show 0 ≤ (σ.1 17) from by omega) (show (σ.1 17) + (σ.1 18) ≤ 60000 from by omega) (show oc (σ.2.1 7) < 4096 from by omega), ?_⟩
            intro x22 r_x22 hq
            have q21_1 := hq
            replace q21_1 : -1 ≤ x22 ∧ x22 ≤ 1499 := q21_1
            refine ⟨fun c24 => ?_, fun c24 => ?_⟩
            ·
              refine ⟨fun c25 => ?_, fun c25 => ?_⟩
              ·
                refine h214 _ _ _ ?_
                first | (have nn9 : τ37.2.1 9 = σ.2.1 9 := by rw [g9_τ37, g9_τ33, g9_τ30]) | skip
                first | (have nn3 : τ37.1 3 = σ.1 3 + 1 := by omega) | skip
                first | (have cn2 : ca (st (τ37.2.1 9) (σ.1 3) n1) (τ37.1 3) = ca (st (σ.2.1 9) (σ.1 3) n1) (σ.1 3 + 1) := by rw [nn9, nn3]) | skip
                refine ⟨(show 0 ≤ x2 ∧ x2 < 1001 from by omega), ?_⟩
                refine ⟨(show 0 ≤ n1 ∧ n1 ≤ 1 from by omega), ?_⟩
                replace hT := mT_a (k := 9) (j := x2) hT (show (0 : Int) ≤ n1 ∧ n1 ≤ 1 from by omega)
                refine ⟨fun c43 => ?_, fun c43 => ?_⟩
                ·
                  exact ⟨hT, (show oc (σ.2.1 6) ≤ (σ.1 3) from by omega), (show (σ.1 12) ≤ ca ((st (σ.2.1 9) x2 n1)) (σ.1 3) from by omega), (show j_lt (σ.2.1 6) (σ.1 3) from Y1)⟩
                ·
                  refine ⟨(show 0 ≤ σ.1 12 ∧ σ.1 12 < 1001 from by omega), ?_⟩
                  replace hT := mT_a (k := 30) (j := (σ.1 12)) hT (show (0 : Int) ≤ x2 ∧ x2 ≤ 999 from by omega)
                  refine ⟨(⟨by omega, by omega⟩ : rg (σ.1 12 + 1)), ?_⟩
                  replace hT := mT_v (i := 12) hT (show 0 ≤ (σ.1 12 + 1) ∧ (σ.1 12 + 1) ≤ 1000 from by omega)
                  exact ⟨hT, (show oc (σ.2.1 6) ≤ (σ.1 3) from by omega), (show ((σ.1 12 + 1)) ≤ ca ((st (σ.2.1 9) x2 n1)) (σ.1 3) from by omega), (show j_lt (σ.2.1 6) (σ.1 3) from Y1)⟩
              ·
                refine ⟨(⟨by omega, by omega⟩ : rg (σ.1 3 + 1)), ?_⟩
                replace hT := mT_v (i := 3) hT (show 0 ≤ (σ.1 3 + 1) ∧ (σ.1 3 + 1) ≤ 1000 from by omega)
                refine ⟨(show 0 ≤ σ.1 3 ∧ σ.1 3 < 1001 from by omega), ?_⟩
                replace hT := mT_a (k := 2) (j := (σ.1 3)) hT (show (0 : Int) ≤ (σ.1 2) ∧ (σ.1 2) ≤ 30000 from by omega)
                replace hT := mT_a (k := 3) (j := (σ.1 3)) hT (show (0 : Int) ≤ (σ.1 18) ∧ (σ.1 18) ≤ 60 from by omega)
                refine ⟨_, K_X13_keepChars hT (show 0 ≤ (σ.1 17) from by omega) (show 0 ≤ (σ.1 18) from by omega) (show (σ.1 17) + (σ.1 18) ≤ 60000 from by omega) (show (σ.1 2) + (σ.1 18) ≤ 30000 from by omega), ?_⟩
                intro τ30 hn_τ30 hf_τ30 hq
                obtain ⟨hT, q28_1⟩ := hq
                replace q28_1 : (τ30.1 2) = (σ.1 2) + (σ.1 18) := q28_1
                have w0_τ30 : τ30.1 0 = σ.1 0 := hf_τ30.1 0 (by decide)
                have w3_τ30 : τ30.1 3 = (σ.1 3 + 1) := hf_τ30.1 3 (by decide)
                have w12_τ30 : τ30.1 12 = σ.1 12 := hf_τ30.1 12 (by decide)
                have w17_τ30 : τ30.1 17 = σ.1 17 := hf_τ30.1 17 (by decide)
                have w18_τ30 : τ30.1 18 = σ.1 18 := hf_τ30.1 18 (by decide)
                have w20_τ30 : τ30.1 20 = σ.1 20 := hf_τ30.1 20 (by decide)
                have g6_τ30 : τ30.2.1 6 = σ.2.1 6 := hf_τ30.2.1 6 (by decide)
                have g7_τ30 : τ30.2.1 7 = σ.2.1 7 := hf_τ30.2.1 7 (by decide)
                have g9_τ30 : τ30.2.1 9 = σ.2.1 9 := hf_τ30.2.1 9 (by decide)
                first | (have ca_τ30 := congr (congrArg ca g9_τ30) w3_τ30) | skip
                first | (have o6_τ30 := congrArg oc g6_τ30) | skip
                first | (have o7_τ30 := congrArg oc g7_τ30) | skip
                have W0 : τ30.1 0 = σ.1 0 := by omega
                have W17 : τ30.1 17 = σ.1 17 := by omega
                have W18 : τ30.1 18 = σ.1 18 := by omega
                have G7 : τ30.2.1 7 = σ.2.1 7 := (g7_τ30).trans G7
                have A6 : ∀ j, (-1) ≤ τ30.2.1 6 j ∧ τ30.2.1 6 j ≤ 999 := fun j => hT.2 6 j
                have A7 : ∀ j, (-1) ≤ τ30.2.1 7 j ∧ τ30.2.1 7 j ≤ 1499 := fun j => hT.2 7 j
                have A9 : ∀ j, 0 ≤ τ30.2.1 9 j ∧ τ30.2.1 9 j ≤ 1 := fun j => hT.2 9 j
                have v0 : 0 ≤ τ30.1 0 ∧ τ30.1 0 ≤ 60000 := hT.1 0
                have v2 : 0 ≤ τ30.1 2 ∧ τ30.1 2 ≤ 30000 := hT.1 2
                have v3 : 0 ≤ τ30.1 3 ∧ τ30.1 3 ≤ 1000 := hT.1 3
                have v12 : 0 ≤ τ30.1 12 ∧ τ30.1 12 ≤ 1000 := hT.1 12
                have v17 : 0 ≤ τ30.1 17 ∧ τ30.1 17 ≤ 60000 := hT.1 17
                have v18 : 0 ≤ τ30.1 18 ∧ τ30.1 18 ≤ 60000 := hT.1 18
                have v20 : 0 ≤ τ30.1 20 ∧ τ30.1 20 ≤ 19 := hT.1 20
                refine ⟨_, K_X13_keepSymbol hT (show 0 ≤ (σ.1 3) from by omega) (show (σ.1 3) < 1000 from by omega) (show oc (τ30.2.1 6) < 4096 from by omega), ?_⟩
                intro τ33 hn_τ33 hf_τ33 hq
                obtain ⟨hT, q31_1, q31_2⟩ := hq
                replace q31_1 : oc (τ33.2.1 6) ≤ oc (τ30.2.1 6) + 1 := q31_1
                replace q31_2 : ∃ e : Int, τ33.2.1 6 = st (τ30.2.1 6) e (σ.1 3) := q31_2
                have w0_τ33 : τ33.1 0 = τ30.1 0 := hf_τ33.1 0 (by decide)
                have w2_τ33 : τ33.1 2 = τ30.1 2 := hf_τ33.1 2 (by decide)
                have w3_τ33 : τ33.1 3 = τ30.1 3 := hf_τ33.1 3 (by decide)
                have w12_τ33 : τ33.1 12 = τ30.1 12 := hf_τ33.1 12 (by decide)
                have w17_τ33 : τ33.1 17 = τ30.1 17 := hf_τ33.1 17 (by decide)
                have w18_τ33 : τ33.1 18 = τ30.1 18 := hf_τ33.1 18 (by decide)
                have w20_τ33 : τ33.1 20 = τ30.1 20 := hf_τ33.1 20 (by decide)
                have g7_τ33 : τ33.2.1 7 = τ30.2.1 7 := hf_τ33.2.1 7 (by decide)
                have g9_τ33 : τ33.2.1 9 = τ30.2.1 9 := hf_τ33.2.1 9 (by decide)
                first | (have ca_τ33 := congr (congrArg ca g9_τ33) w3_τ33) | skip
                first | (have o6_τ33 := congrArg oc g6_τ33) | skip
                first | (have o7_τ33 := congrArg oc g7_τ33) | skip
                have W0 : τ33.1 0 = σ.1 0 := by omega
                have W17 : τ33.1 17 = σ.1 17 := by omega
                have W18 : τ33.1 18 = σ.1 18 := by omega
                have G7 : τ33.2.1 7 = σ.2.1 7 := (g7_τ33).trans G7
                have A6 : ∀ j, (-1) ≤ τ33.2.1 6 j ∧ τ33.2.1 6 j ≤ 999 := fun j => hT.2 6 j
                have A7 : ∀ j, (-1) ≤ τ33.2.1 7 j ∧ τ33.2.1 7 j ≤ 1499 := fun j => hT.2 7 j
                have A9 : ∀ j, 0 ≤ τ33.2.1 9 j ∧ τ33.2.1 9 j ≤ 1 := fun j => hT.2 9 j
                have v0 : 0 ≤ τ33.1 0 ∧ τ33.1 0 ≤ 60000 := hT.1 0
                have v2 : 0 ≤ τ33.1 2 ∧ τ33.1 2 ≤ 30000 := hT.1 2
                have v3 : 0 ≤ τ33.1 3 ∧ τ33.1 3 ≤ 1000 := hT.1 3
                have v12 : 0 ≤ τ33.1 12 ∧ τ33.1 12 ≤ 1000 := hT.1 12
                have v17 : 0 ≤ τ33.1 17 ∧ τ33.1 17 ≤ 60000 := hT.1 17
                have v18 : 0 ≤ τ33.1 18 ∧ τ33.1 18 ≤ 60000 := hT.1 18
                have v20 : 0 ≤ τ33.1 20 ∧ τ33.1 20 ≤ 19 := hT.1 20
                refine ⟨(show 0 ≤ n1 ∧ n1 ≤ 1 from by omega), ?_⟩
                replace hT := mT_a (k := 8) (j := (σ.1 3)) hT (show (0 : Int) ≤ n1 ∧ n1 ≤ 1 from by omega)
                replace hT := mT_a (k := 10) (j := (σ.1 3)) hT (show (-1 : Int) ≤ (-1) ∧ (-1) ≤ 999 from by omega)
                replace hT := mT_a (k := 11) (j := (σ.1 3)) hT (show (-1 : Int) ≤ (-1) ∧ (-1) ≤ 1499 from by omega)
                replace hT := mT_a (k := 12) (j := (σ.1 3)) hT (show (0 : Int) ≤ 0 ∧ 0 ≤ 1 from by omega)
                have cn := ca_n (σ.2.1 9) ((σ.1 3)) n1 (by omega)
                have cb3 := ca_b (st (σ.2.1 9) ((σ.1 3)) n1) (n := (σ.1 3) + 1) (by omega)
                refine ⟨_, K_X13_markNamed hT (show 0 ≤ (σ.1 3) from by omega) (show (σ.1 3) < 1000 from by omega), ?_⟩
                intro τ37 hn_τ37 hf_τ37 hq
                replace hT := hq
                have w0_τ37 : τ37.1 0 = τ33.1 0 := hf_τ37.1 0 (by decide)
                have w2_τ37 : τ37.1 2 = τ33.1 2 := hf_τ37.1 2 (by decide)
                have w3_τ37 : τ37.1 3 = τ33.1 3 := hf_τ37.1 3 (by decide)
                have w12_τ37 : τ37.1 12 = τ33.1 12 := hf_τ37.1 12 (by decide)
                have w17_τ37 : τ37.1 17 = τ33.1 17 := hf_τ37.1 17 (by decide)
                have w18_τ37 : τ37.1 18 = τ33.1 18 := hf_τ37.1 18 (by decide)
                have w20_τ37 : τ37.1 20 = τ33.1 20 := hf_τ37.1 20 (by decide)
                have g6_τ37 : τ37.2.1 6 = τ33.2.1 6 := hf_τ37.2.1 6 (by decide)
                have g7_τ37 : τ37.2.1 7 = τ33.2.1 7 := hf_τ37.2.1 7 (by decide)
                have g9_τ37 : τ37.2.1 9 = τ33.2.1 9 := hf_τ37.2.1 9 (by decide)
                first | (have ca_τ37 := congr (congrArg ca g9_τ37) w3_τ37) | skip
                first | (have o6_τ37 := congrArg oc g6_τ37) | skip
                first | (have o7_τ37 := congrArg oc g7_τ37) | skip
                have W0 : τ37.1 0 = σ.1 0 := by omega
                have W17 : τ37.1 17 = σ.1 17 := by omega
                have W18 : τ37.1 18 = σ.1 18 := by omega
                have G7 : τ37.2.1 7 = σ.2.1 7 := (g7_τ37).trans G7
                have A6 : ∀ j, (-1) ≤ τ37.2.1 6 j ∧ τ37.2.1 6 j ≤ 999 := fun j => hT.2 6 j
                have A7 : ∀ j, (-1) ≤ τ37.2.1 7 j ∧ τ37.2.1 7 j ≤ 1499 := fun j => hT.2 7 j
                have A9 : ∀ j, 0 ≤ τ37.2.1 9 j ∧ τ37.2.1 9 j ≤ 1 := fun j => hT.2 9 j
                have v0 : 0 ≤ τ37.1 0 ∧ τ37.1 0 ≤ 60000 := hT.1 0
                have v2 : 0 ≤ τ37.1 2 ∧ τ37.1 2 ≤ 30000 := hT.1 2
                have v3 : 0 ≤ τ37.1 3 ∧ τ37.1 3 ≤ 1000 := hT.1 3
                have v12 : 0 ≤ τ37.1 12 ∧ τ37.1 12 ≤ 1000 := hT.1 12
                have v17 : 0 ≤ τ37.1 17 ∧ τ37.1 17 ≤ 60000 := hT.1 17
                have v18 : 0 ≤ τ37.1 18 ∧ τ37.1 18 ≤ 60000 := hT.1 18
                have v20 : 0 ≤ τ37.1 20 ∧ τ37.1 20 ≤ 19 := hT.1 20
                refine h214 _ _ _ ?_
                first | (have nn9 : τ37.2.1 9 = σ.2.1 9 := by rw [g9_τ37, g9_τ33, g9_τ30]) | skip
                first | (have nn3 : τ37.1 3 = σ.1 3 + 1 := by omega) | skip
                first | (have cn2 : ca (st (τ37.2.1 9) (σ.1 3) n1) (τ37.1 3) = ca (st (σ.2.1 9) (σ.1 3) n1) (σ.1 3 + 1) := by rw [nn9, nn3]) | skip
                refine ⟨(show 0 ≤ (σ.1 3) ∧ (σ.1 3) < 1001 from by omega), ?_⟩
                refine ⟨(show 0 ≤ n1 ∧ n1 ≤ 1 from by omega), ?_⟩
                replace hT := mT_a (k := 9) (j := (σ.1 3)) hT (show (0 : Int) ≤ n1 ∧ n1 ≤ 1 from by omega)
                refine ⟨fun c43 => ?_, fun c43 => ?_⟩
                ·
                  exact ⟨hT, (show oc (τ37.2.1 6) ≤ (τ37.1 3) from by omega), (show (τ37.1 12) ≤ ca ((st (τ37.2.1 9) (σ.1 3) n1)) (τ37.1 3) from by omega), (show j_lt (τ37.2.1 6) (τ37.1 3) from by (intro e; first | exact p6 e | (rw [g6_τ12, w3_τ12]; exact p6 e) | (rw [g6_τ40, w3_τ40]; exact p6 e) | (obtain ⟨ee, he⟩ := q31_2; rw [g6_τ37, he]; unfold st; split; omega; have := p6 e; rw [g6_τ30]; omega)))⟩
                ·
                  refine ⟨(show 0 ≤ τ37.1 12 ∧ τ37.1 12 < 1001 from by omega), ?_⟩
                  replace hT := mT_a (k := 30) (j := (τ37.1 12)) hT (show (0 : Int) ≤ (σ.1 3) ∧ (σ.1 3) ≤ 999 from by omega)
                  refine ⟨(⟨by omega, by omega⟩ : rg (τ37.1 12 + 1)), ?_⟩
                  replace hT := mT_v (i := 12) hT (show 0 ≤ (τ37.1 12 + 1) ∧ (τ37.1 12 + 1) ≤ 1000 from by omega)
                  exact ⟨hT, (show oc (τ37.2.1 6) ≤ (τ37.1 3) from by omega), (show ((τ37.1 12 + 1)) ≤ ca ((st (τ37.2.1 9) (σ.1 3) n1)) (τ37.1 3) from by omega), (show j_lt (τ37.2.1 6) (τ37.1 3) from by (intro e; first | exact p6 e | (rw [g6_τ12, w3_τ12]; exact p6 e) | (rw [g6_τ40, w3_τ40]; exact p6 e) | (obtain ⟨ee, he⟩ := q31_2; rw [g6_τ37, he]; unfold st; split; omega; have := p6 e; rw [g6_τ30]; omega)))⟩
            ·
              refine h118 _ ?_
              refine ⟨_, K_X13_failHere hT (show 0 ≤ 7 from by omega) (show 7 ≤ 19 from by omega), ?_⟩
              intro τ40 hn_τ40 hf_τ40 hq
              obtain ⟨hT, q38_1, q38_2⟩ := hq
              replace q38_1 : ¬ (σ.1 20) = 0 → (τ40.1 20) = (σ.1 20) := q38_1
              replace q38_2 : (σ.1 20) = 0 → (τ40.1 20) = 7 := q38_2
              have w0_τ40 : τ40.1 0 = σ.1 0 := hf_τ40.1 0 (by decide)
              have w2_τ40 : τ40.1 2 = σ.1 2 := hf_τ40.1 2 (by decide)
              have w3_τ40 : τ40.1 3 = σ.1 3 := hf_τ40.1 3 (by decide)
              have w12_τ40 : τ40.1 12 = σ.1 12 := hf_τ40.1 12 (by decide)
              have w17_τ40 : τ40.1 17 = σ.1 17 := hf_τ40.1 17 (by decide)
              have w18_τ40 : τ40.1 18 = σ.1 18 := hf_τ40.1 18 (by decide)
              have g6_τ40 : τ40.2.1 6 = σ.2.1 6 := hf_τ40.2.1 6 (by decide)
              have g7_τ40 : τ40.2.1 7 = σ.2.1 7 := hf_τ40.2.1 7 (by decide)
              have g9_τ40 : τ40.2.1 9 = σ.2.1 9 := hf_τ40.2.1 9 (by decide)
              first | (have ca_τ40 := congr (congrArg ca g9_τ40) w3_τ40) | skip
              first | (have o6_τ40 := congrArg oc g6_τ40) | skip
              first | (have o7_τ40 := congrArg oc g7_τ40) | skip
              have W0 : τ40.1 0 = σ.1 0 := by omega
              have W17 : τ40.1 17 = σ.1 17 := by omega
              have W18 : τ40.1 18 = σ.1 18 := by omega
              have G7 : τ40.2.1 7 = σ.2.1 7 := (g7_τ40).trans G7
              have Y1 : j_lt (τ40.2.1 6) (τ40.1 3) := by rw [show (j_lt (τ40.2.1 6) (τ40.1 3)) = (j_lt (σ.2.1 6) (σ.1 3)) from by rw [w3_τ40, g6_τ40]]; exact Y1
              have A6 : ∀ j, (-1) ≤ τ40.2.1 6 j ∧ τ40.2.1 6 j ≤ 999 := fun j => hT.2 6 j
              have A7 : ∀ j, (-1) ≤ τ40.2.1 7 j ∧ τ40.2.1 7 j ≤ 1499 := fun j => hT.2 7 j
              have A9 : ∀ j, 0 ≤ τ40.2.1 9 j ∧ τ40.2.1 9 j ≤ 1 := fun j => hT.2 9 j
              have v0 : 0 ≤ τ40.1 0 ∧ τ40.1 0 ≤ 60000 := hT.1 0
              have v2 : 0 ≤ τ40.1 2 ∧ τ40.1 2 ≤ 30000 := hT.1 2
              have v3 : 0 ≤ τ40.1 3 ∧ τ40.1 3 ≤ 1000 := hT.1 3
              have v12 : 0 ≤ τ40.1 12 ∧ τ40.1 12 ≤ 1000 := hT.1 12
              have v17 : 0 ≤ τ40.1 17 ∧ τ40.1 17 ≤ 60000 := hT.1 17
              have v18 : 0 ≤ τ40.1 18 ∧ τ40.1 18 ≤ 60000 := hT.1 18
              have v20 : 0 ≤ τ40.1 20 ∧ τ40.1 20 ≤ 19 := hT.1 20
              exact ⟨hT, (show oc (τ40.2.1 6) ≤ (τ40.1 3) from by omega), (show (τ40.1 12) ≤ ca (τ40.2.1 9) (τ40.1 3) from by omega), (show j_lt (τ40.2.1 6) (τ40.1 3) from Y1)⟩
        ·
          refine ⟨fun c14 => ?_, fun c14 => ?_⟩
          ·
            refine h91 _ _ _ _ _ ?_
            refine ⟨fun c20 => ?_, fun c20 => ?_⟩
            ·
              refine h118 _ ?_
              refine ⟨_, K_X13_failHere hT (show 0 ≤ 7 from by omega) (show 7 ≤ 19 from by omega), ?_⟩
              intro τ40 hn_τ40 hf_τ40 hq
              obtain ⟨hT, q38_1, q38_2⟩ := hq
              replace q38_1 : ¬ (σ.1 20) = 0 → (τ40.1 20) = (σ.1 20) := q38_1
              replace q38_2 : (σ.1 20) = 0 → (τ40.1 20) = 7 := q38_2
              have w0_τ40 : τ40.1 0 = σ.1 0 := hf_τ40.1 0 (by decide)
              have w2_τ40 : τ40.1 2 = σ.1 2 := hf_τ40.1 2 (by decide)
              have w3_τ40 : τ40.1 3 = σ.1 3 := hf_τ40.1 3 (by decide)
              have w12_τ40 : τ40.1 12 = σ.1 12 := hf_τ40.1 12 (by decide)
              have w17_τ40 : τ40.1 17 = σ.1 17 := hf_τ40.1 17 (by decide)
              have w18_τ40 : τ40.1 18 = σ.1 18 := hf_τ40.1 18 (by decide)
              have g6_τ40 : τ40.2.1 6 = σ.2.1 6 := hf_τ40.2.1 6 (by decide)
              have g7_τ40 : τ40.2.1 7 = σ.2.1 7 := hf_τ40.2.1 7 (by decide)
              have g9_τ40 : τ40.2.1 9 = σ.2.1 9 := hf_τ40.2.1 9 (by decide)
              first | (have ca_τ40 := congr (congrArg ca g9_τ40) w3_τ40) | skip
              first | (have o6_τ40 := congrArg oc g6_τ40) | skip
              first | (have o7_τ40 := congrArg oc g7_τ40) | skip
              have W0 : τ40.1 0 = σ.1 0 := by omega
              have W17 : τ40.1 17 = σ.1 17 := by omega
              have W18 : τ40.1 18 = σ.1 18 := by omega
              have G7 : τ40.2.1 7 = σ.2.1 7 := (g7_τ40).trans G7
              have Y1 : j_lt (τ40.2.1 6) (τ40.1 3) := by rw [show (j_lt (τ40.2.1 6) (τ40.1 3)) = (j_lt (σ.2.1 6) (σ.1 3)) from by rw [w3_τ40, g6_τ40]]; exact Y1
              have A6 : ∀ j, (-1) ≤ τ40.2.1 6 j ∧ τ40.2.1 6 j ≤ 999 := fun j => hT.2 6 j
              have A7 : ∀ j, (-1) ≤ τ40.2.1 7 j ∧ τ40.2.1 7 j ≤ 1499 := fun j => hT.2 7 j
              have A9 : ∀ j, 0 ≤ τ40.2.1 9 j ∧ τ40.2.1 9 j ≤ 1 := fun j => hT.2 9 j
              have v0 : 0 ≤ τ40.1 0 ∧ τ40.1 0 ≤ 60000 := hT.1 0
              have v2 : 0 ≤ τ40.1 2 ∧ τ40.1 2 ≤ 30000 := hT.1 2
              have v3 : 0 ≤ τ40.1 3 ∧ τ40.1 3 ≤ 1000 := hT.1 3
              have v12 : 0 ≤ τ40.1 12 ∧ τ40.1 12 ≤ 1000 := hT.1 12
              have v17 : 0 ≤ τ40.1 17 ∧ τ40.1 17 ≤ 60000 := hT.1 17
              have v18 : 0 ≤ τ40.1 18 ∧ τ40.1 18 ≤ 60000 := hT.1 18
              have v20 : 0 ≤ τ40.1 20 ∧ τ40.1 20 ≤ 19 := hT.1 20
              exact ⟨hT, (show oc (τ40.2.1 6) ≤ (τ40.1 3) from by omega), (show (τ40.1 12) ≤ ca (τ40.2.1 9) (τ40.1 3) from by omega), (show j_lt (τ40.2.1 6) (τ40.1 3) from Y1)⟩
            ·
              refine ⟨_, K_X13_findLabel_q1 hT (show 0 ≤ (σ.1 17) from by omega) (show (σ.1 17) + (σ.1 18) ≤ 60000 from by omega) (show oc (σ.2.1 7) < 4096 from by omega), ?_⟩
              intro x22 r_x22 hq
              have q21_1 := hq
              replace q21_1 : -1 ≤ x22 ∧ x22 ≤ 1499 := q21_1
              refine ⟨fun c24 => ?_, fun c24 => ?_⟩
              ·
                refine ⟨fun c25 => ?_, fun c25 => ?_⟩
                ·
                  refine h214 _ _ _ ?_
                  first | (have nn9 : τ37.2.1 9 = σ.2.1 9 := by rw [g9_τ37, g9_τ33, g9_τ30]) | skip
                  first | (have nn3 : τ37.1 3 = σ.1 3 + 1 := by omega) | skip
                  first | (have cn2 : ca (st (τ37.2.1 9) (σ.1 3) n1) (τ37.1 3) = ca (st (σ.2.1 9) (σ.1 3) n1) (σ.1 3 + 1) := by rw [nn9, nn3]) | skip
                  refine ⟨(show 0 ≤ x2 ∧ x2 < 1001 from by omega), ?_⟩
                  refine ⟨(show 0 ≤ n1 ∧ n1 ≤ 1 from by omega), ?_⟩
                  replace hT := mT_a (k := 9) (j := x2) hT (show (0 : Int) ≤ n1 ∧ n1 ≤ 1 from by omega)
                  refine ⟨fun c43 => ?_, fun c43 => ?_⟩
                  ·
                    exact ⟨hT, (show oc (σ.2.1 6) ≤ (σ.1 3) from by omega), (show (σ.1 12) ≤ ca ((st (σ.2.1 9) x2 n1)) (σ.1 3) from by omega), (show j_lt (σ.2.1 6) (σ.1 3) from Y1)⟩
                  ·
                    refine ⟨(show 0 ≤ σ.1 12 ∧ σ.1 12 < 1001 from by omega), ?_⟩
                    replace hT := mT_a (k := 30) (j := (σ.1 12)) hT (show (0 : Int) ≤ x2 ∧ x2 ≤ 999 from by omega)
                    refine ⟨(⟨by omega, by omega⟩ : rg (σ.1 12 + 1)), ?_⟩
                    replace hT := mT_v (i := 12) hT (show 0 ≤ (σ.1 12 + 1) ∧ (σ.1 12 + 1) ≤ 1000 from by omega)
                    exact ⟨hT, (show oc (σ.2.1 6) ≤ (σ.1 3) from by omega), (show ((σ.1 12 + 1)) ≤ ca ((st (σ.2.1 9) x2 n1)) (σ.1 3) from by omega), (show j_lt (σ.2.1 6) (σ.1 3) from Y1)⟩
                ·
                  refine ⟨(⟨by omega, by omega⟩ : rg (σ.1 3 + 1)), ?_⟩
                  replace hT := mT_v (i := 3) hT (show 0 ≤ (σ.1 3 + 1) ∧ (σ.1 3 + 1) ≤ 1000 from by omega)
                  refine ⟨(show 0 ≤ σ.1 3 ∧ σ.1 3 < 1001 from by omega), ?_⟩
                  replace hT := mT_a (k := 2) (j := (σ.1 3)) hT (show (0 : Int) ≤ (σ.1 2) ∧ (σ.1 2) ≤ 30000 from by omega)
                  replace hT := mT_a (k := 3) (j := (σ.1 3)) hT (show (0 : Int) ≤ (σ.1 18) ∧ (σ.1 18) ≤ 60 from by omega)
                  refine ⟨_, K_X13_keepChars hT (show 0 ≤ (σ.1 17) from by omega) (show 0 ≤ (σ.1 18) from by omega) (show (σ.1 17) + (σ.1 18) ≤ 60000 from by omega) (show (σ.1 2) + (σ.1 18) ≤ 30000 from by omega), ?_⟩
                  intro τ30 hn_τ30 hf_τ30 hq
                  obtain ⟨hT, q28_1⟩ := hq
                  replace q28_1 : (τ30.1 2) = (σ.1 2) + (σ.1 18) := q28_1
                  have w0_τ30 : τ30.1 0 = σ.1 0 := hf_τ30.1 0 (by decide)
                  have w3_τ30 : τ30.1 3 = (σ.1 3 + 1) := hf_τ30.1 3 (by decide)
                  have w12_τ30 : τ30.1 12 = σ.1 12 := hf_τ30.1 12 (by decide)
                  have w17_τ30 : τ30.1 17 = σ.1 17 := hf_τ30.1 17 (by decide)
                  have w18_τ30 : τ30.1 18 = σ.1 18 := hf_τ30.1 18 (by decide)
                  have w20_τ30 : τ30.1 20 = σ.1 20 := hf_τ30.1 20 (by decide)
                  have g6_τ30 : τ30.2.1 6 = σ.2.1 6 := hf_τ30.2.1 6 (by decide)
                  have g7_τ30 : τ30.2.1 7 = σ.2.1 7 := hf_τ30.2.1 7 (by decide)
                  have g9_τ30 : τ30.2.1 9 = σ.2.1 9 := hf_τ30.2.1 9 (by decide)
                  first | (have ca_τ30 := congr (congrArg ca g9_τ30) w3_τ30) | skip
                  first | (have o6_τ30 := congrArg oc g6_τ30) | skip
                  first | (have o7_τ30 := congrArg oc g7_τ30) | skip
                  have W0 : τ30.1 0 = σ.1 0 := by omega
                  have W17 : τ30.1 17 = σ.1 17 := by omega
                  have W18 : τ30.1 18 = σ.1 18 := by omega
                  have G7 : τ30.2.1 7 = σ.2.1 7 := (g7_τ30).trans G7
                  have A6 : ∀ j, (-1) ≤ τ30.2.1 6 j ∧ τ30.2.1 6 j ≤ 999 := fun j => hT.2 6 j
                  have A7 : ∀ j, (-1) ≤ τ30.2.1 7 j ∧ τ30.2.1 7 j ≤ 1499 := fun j => hT.2 7 j
                  have A9 : ∀ j, 0 ≤ τ30.2.1 9 j ∧ τ30.2.1 9 j ≤ 1 := fun j => hT.2 9 j
                  have v0 : 0 ≤ τ30.1 0 ∧ τ30.1 0 ≤ 60000 := hT.1 0
                  have v2 : 0 ≤ τ30.1 2 ∧ τ30.1 2 ≤ 30000 := hT.1 2
                  have v3 : 0 ≤ τ30.1 3 ∧ τ30.1 3 ≤ 1000 := hT.1 3
                  have v12 : 0 ≤ τ30.1 12 ∧ τ30.1 12 ≤ 1000 := hT.1 12
                  have v17 : 0 ≤ τ30.1 17 ∧ τ30.1 17 ≤ 60000 := hT.1 17
                  have v18 : 0 ≤ τ30.1 18 ∧ τ30.1 18 ≤ 60000 := hT.1 18
                  have v20 : 0 ≤ τ30.1 20 ∧ τ30.1 20 ≤ 19 := hT.1 20
                  refine ⟨_, K_X13_keepSymbol hT (show 0 ≤ (σ.1 3) from by omega) (show (σ.1 3) < 1000 from by omega) (show oc (τ30.2.1 6) < 4096 from by omega), ?_⟩
                  intro τ33 hn_τ33 hf_τ33 hq
                  obtain ⟨hT, q31_1, q31_2⟩ := hq
                  replace q31_1 : oc (τ33.2.1 6) ≤ oc (τ30.2.1 6) + 1 := q31_1
                  replace q31_2 : ∃ e : Int, τ33.2.1 6 = st (τ30.2.1 6) e (σ.1 3) := q31_2
                  have w0_τ33 : τ33.1 0 = τ30.1 0 := hf_τ33.1 0 (by decide)
                  have w2_τ33 : τ33.1 2 = τ30.1 2 := hf_τ33.1 2 (by decide)
                  have w3_τ33 : τ33.1 3 = τ30.1 3 := hf_τ33.1 3 (by decide)
                  have w12_τ33 : τ33.1 12 = τ30.1 12 := hf_τ33.1 12 (by decide)
                  have w17_τ33 : τ33.1 17 = τ30.1 17 := hf_τ33.1 17 (by decide)
                  have w18_τ33 : τ33.1 18 = τ30.1 18 := hf_τ33.1 18 (by decide)
                  have w20_τ33 : τ33.1 20 = τ30.1 20 := hf_τ33.1 20 (by decide)
                  have g7_τ33 : τ33.2.1 7 = τ30.2.1 7 := hf_τ33.2.1 7 (by decide)
                  have g9_τ33 : τ33.2.1 9 = τ30.2.1 9 := hf_τ33.2.1 9 (by decide)
                  first | (have ca_τ33 := congr (congrArg ca g9_τ33) w3_τ33) | skip
                  first | (have o6_τ33 := congrArg oc g6_τ33) | skip
                  first | (have o7_τ33 := congrArg oc g7_τ33) | skip
                  have W0 : τ33.1 0 = σ.1 0 := by omega
                  have W17 : τ33.1 17 = σ.1 17 := by omega
                  have W18 : τ33.1 18 = σ.1 18 := by omega
                  have G7 : τ33.2.1 7 = σ.2.1 7 := (g7_τ33).trans G7
                  have A6 : ∀ j, (-1) ≤ τ33.2.1 6 j ∧ τ33.2.1 6 j ≤ 999 := fun j => hT.2 6 j
                  have A7 : ∀ j, (-1) ≤ τ33.2.1 7 j ∧ τ33.2.1 7 j ≤ 1499 := fun j => hT.2 7 j
                  have A9 : ∀ j, 0 ≤ τ33.2.1 9 j ∧ τ33.2.1 9 j ≤ 1 := fun j => hT.2 9 j
                  have v0 : 0 ≤ τ33.1 0 ∧ τ33.1 0 ≤ 60000 := hT.1 0
                  have v2 : 0 ≤ τ33.1 2 ∧ τ33.1 2 ≤ 30000 := hT.1 2
                  have v3 : 0 ≤ τ33.1 3 ∧ τ33.1 3 ≤ 1000 := hT.1 3
                  have v12 : 0 ≤ τ33.1 12 ∧ τ33.1 12 ≤ 1000 := hT.1 12
                  have v17 : 0 ≤ τ33.1 17 ∧ τ33.1 17 ≤ 60000 := hT.1 17
                  have v18 : 0 ≤ τ33.1 18 ∧ τ33.1 18 ≤ 60000 := hT.1 18
                  have v20 : 0 ≤ τ33.1 20 ∧ τ33.1 20 ≤ 19 := hT.1 20
                  refine ⟨(show 0 ≤ n1 ∧ n1 ≤ 1 from by omega), ?_⟩
                  replace hT := mT_a (k := 8) (j := (σ.1 3)) hT (show (0 : Int) ≤ n1 ∧ n1 ≤ 1 from by omega)
                  replace hT := mT_a (k := 10) (j := (σ.1 3)) hT (show (-1 : Int) ≤ (-1) ∧ (-1) ≤ 999 from by omega)
                  replace hT := mT_a (k := 11) (j := (σ.1 3)) hT (show (-1 : Int) ≤ (-1) ∧ (-1) ≤ 1499 from by omega)
                  replace hT := mT_a (k := 12) (j := (σ.1 3)) hT (show (0 : Int) ≤ 0 ∧ 0 ≤ 1 from by omega)
                  have cn := ca_n (σ.2.1 9) ((σ.1 3)) n1 (by omega)
                  have cb3 := ca_b (st (σ.2.1 9) ((σ.1 3)) n1) (n := (σ.1 3) + 1) (by omega)
                  refine ⟨_, K_X13_markNamed hT (show 0 ≤ (σ.1 3) from by omega) (show (σ.1 3) < 1000 from by omega), ?_⟩
                  intro τ37 hn_τ37 hf_τ37 hq
                  replace hT := hq
                  have w0_τ37 : τ37.1 0 = τ33.1 0 := hf_τ37.1 0 (by decide)
                  have w2_τ37 : τ37.1 2 = τ33.1 2 := hf_τ37.1 2 (by decide)
                  have w3_τ37 : τ37.1 3 = τ33.1 3 := hf_τ37.1 3 (by decide)
                  have w12_τ37 : τ37.1 12 = τ33.1 12 := hf_τ37.1 12 (by decide)
                  have w17_τ37 : τ37.1 17 = τ33.1 17 := hf_τ37.1 17 (by decide)
                  have w18_τ37 : τ37.1 18 = τ33.1 18 := hf_τ37.1 18 (by decide)
                  have w20_τ37 : τ37.1 20 = τ33.1 20 := hf_τ37.1 20 (by decide)
                  have g6_τ37 : τ37.2.1 6 = τ33.2.1 6 := hf_τ37.2.1 6 (by decide)
                  have g7_τ37 : τ37.2.1 7 = τ33.2.1 7 := hf_τ37.2.1 7 (by decide)
                  have g9_τ37 : τ37.2.1 9 = τ33.2.1 9 := hf_τ37.2.1 9 (by decide)
                  first | (have ca_τ37 := congr (congrArg ca g9_τ37) w3_τ37) | skip
                  first | (have o6_τ37 := congrArg oc g6_τ37) | skip
                  first | (have o7_τ37 := congrArg oc g7_τ37) | skip
                  have W0 : τ37.1 0 = σ.1 0 := by omega
                  have W17 : τ37.1 17 = σ.1 17 := by omega
                  have W18 : τ37.1 18 = σ.1 18 := by omega
                  have G7 : τ37.2.1 7 = σ.2.1 7 := (g7_τ37).trans G7
                  have A6 : ∀ j, (-1) ≤ τ37.2.1 6 j ∧ τ37.2.1 6 j ≤ 999 := fun j => hT.2 6 j
                  have A7 : ∀ j, (-1) ≤ τ37.2.1 7 j ∧ τ37.2.1 7 j ≤ 1499 := fun j => hT.2 7 j
                  have A9 : ∀ j, 0 ≤ τ37.2.1 9 j ∧ τ37.2.1 9 j ≤ 1 := fun j => hT.2 9 j
                  have v0 : 0 ≤ τ37.1 0 ∧ τ37.1 0 ≤ 60000 := hT.1 0
                  have v2 : 0 ≤ τ37.1 2 ∧ τ37.1 2 ≤ 30000 := hT.1 2
                  have v3 : 0 ≤ τ37.1 3 ∧ τ37.1 3 ≤ 1000 := hT.1 3
                  have v12 : 0 ≤ τ37.1 12 ∧ τ37.1 12 ≤ 1000 := hT.1 12
                  have v17 : 0 ≤ τ37.1 17 ∧ τ37.1 17 ≤ 60000 := hT.1 17
                  have v18 : 0 ≤ τ37.1 18 ∧ τ37.1 18 ≤ 60000 := hT.1 18
                  have v20 : 0 ≤ τ37.1 20 ∧ τ37.1 20 ≤ 19 := hT.1 20
                  refine h214 _ _ _ ?_
                  first | (have nn9 : τ37.2.1 9 = σ.2.1 9 := by rw [g9_τ37, g9_τ33, g9_τ30]) | skip
                  first | (have nn3 : τ37.1 3 = σ.1 3 + 1 := by omega) | skip
                  first | (have cn2 : ca (st (τ37.2.1 9) (σ.1 3) n1) (τ37.1 3) = ca (st (σ.2.1 9) (σ.1 3) n1) (σ.1 3 + 1) := by rw [nn9, nn3]) | skip
                  refine ⟨(show 0 ≤ (σ.1 3) ∧ (σ.1 3) < 1001 from by omega), ?_⟩
                  refine ⟨(show 0 ≤ n1 ∧ n1 ≤ 1 from by omega), ?_⟩
                  replace hT := mT_a (k := 9) (j := (σ.1 3)) hT (show (0 : Int) ≤ n1 ∧ n1 ≤ 1 from by omega)
                  refine ⟨fun c43 => ?_, fun c43 => ?_⟩
                  ·
                    exact ⟨hT, (show oc (τ37.2.1 6) ≤ (τ37.1 3) from by omega), (show (τ37.1 12) ≤ ca ((st (τ37.2.1 9) (σ.1 3) n1)) (τ37.1 3) from by omega), (show j_lt (τ37.2.1 6) (τ37.1 3) from by (intro e; first | exact p6 e | (rw [g6_τ12, w3_τ12]; exact p6 e) | (rw [g6_τ40, w3_τ40]; exact p6 e) | (obtain ⟨ee, he⟩ := q31_2; rw [g6_τ37, he]; unfold st; split; omega; have := p6 e; rw [g6_τ30]; omega)))⟩
                  ·
                    refine ⟨(show 0 ≤ τ37.1 12 ∧ τ37.1 12 < 1001 from by omega), ?_⟩
                    replace hT := mT_a (k := 30) (j := (τ37.1 12)) hT (show (0 : Int) ≤ (σ.1 3) ∧ (σ.1 3) ≤ 999 from by omega)
                    refine ⟨(⟨by omega, by omega⟩ : rg (τ37.1 12 + 1)), ?_⟩
                    replace hT := mT_v (i := 12) hT (show 0 ≤ (τ37.1 12 + 1) ∧ (τ37.1 12 + 1) ≤ 1000 from by omega)
                    exact ⟨hT, (show oc (τ37.2.1 6) ≤ (τ37.1 3) from by omega), (show ((τ37.1 12 + 1)) ≤ ca ((st (τ37.2.1 9) (σ.1 3) n1)) (τ37.1 3) from by omega), (show j_lt (τ37.2.1 6) (τ37.1 3) from by (intro e; first | exact p6 e | (rw [g6_τ12, w3_τ12]; exact p6 e) | (rw [g6_τ40, w3_τ40]; exact p6 e) | (obtain ⟨ee, he⟩ := q31_2; rw [g6_τ37, he]; unfold st; split; omega; have := p6 e; rw [g6_τ30]; omega)))⟩
              ·
                refine h118 _ ?_
                refine ⟨_, K_X13_failHere hT (show 0 ≤ 7 from by omega) (show 7 ≤ 19 from by omega), ?_⟩
                intro τ40 hn_τ40 hf_τ40 hq
                obtain ⟨hT, q38_1, q38_2⟩ := hq
                replace q38_1 : ¬ (σ.1 20) = 0 → (τ40.1 20) = (σ.1 20) := q38_1
                replace q38_2 : (σ.1 20) = 0 → (τ40.1 20) = 7 := q38_2
                have w0_τ40 : τ40.1 0 = σ.1 0 := hf_τ40.1 0 (by decide)
                have w2_τ40 : τ40.1 2 = σ.1 2 := hf_τ40.1 2 (by decide)
                have w3_τ40 : τ40.1 3 = σ.1 3 := hf_τ40.1 3 (by decide)
                have w12_τ40 : τ40.1 12 = σ.1 12 := hf_τ40.1 12 (by decide)
                have w17_τ40 : τ40.1 17 = σ.1 17 := hf_τ40.1 17 (by decide)
                have w18_τ40 : τ40.1 18 = σ.1 18 := hf_τ40.1 18 (by decide)
                have g6_τ40 : τ40.2.1 6 = σ.2.1 6 := hf_τ40.2.1 6 (by decide)
                have g7_τ40 : τ40.2.1 7 = σ.2.1 7 := hf_τ40.2.1 7 (by decide)
                have g9_τ40 : τ40.2.1 9 = σ.2.1 9 := hf_τ40.2.1 9 (by decide)
                first | (have ca_τ40 := congr (congrArg ca g9_τ40) w3_τ40) | skip
                first | (have o6_τ40 := congrArg oc g6_τ40) | skip
                first | (have o7_τ40 := congrArg oc g7_τ40) | skip
                have W0 : τ40.1 0 = σ.1 0 := by omega
                have W17 : τ40.1 17 = σ.1 17 := by omega
                have W18 : τ40.1 18 = σ.1 18 := by omega
                have G7 : τ40.2.1 7 = σ.2.1 7 := (g7_τ40).trans G7
                have Y1 : j_lt (τ40.2.1 6) (τ40.1 3) := by rw [show (j_lt (τ40.2.1 6) (τ40.1 3)) = (j_lt (σ.2.1 6) (σ.1 3)) from by rw [w3_τ40, g6_τ40]]; exact Y1
                have A6 : ∀ j, (-1) ≤ τ40.2.1 6 j ∧ τ40.2.1 6 j ≤ 999 := fun j => hT.2 6 j
                have A7 : ∀ j, (-1) ≤ τ40.2.1 7 j ∧ τ40.2.1 7 j ≤ 1499 := fun j => hT.2 7 j
                have A9 : ∀ j, 0 ≤ τ40.2.1 9 j ∧ τ40.2.1 9 j ≤ 1 := fun j => hT.2 9 j
                have v0 : 0 ≤ τ40.1 0 ∧ τ40.1 0 ≤ 60000 := hT.1 0
                have v2 : 0 ≤ τ40.1 2 ∧ τ40.1 2 ≤ 30000 := hT.1 2
                have v3 : 0 ≤ τ40.1 3 ∧ τ40.1 3 ≤ 1000 := hT.1 3
                have v12 : 0 ≤ τ40.1 12 ∧ τ40.1 12 ≤ 1000 := hT.1 12
                have v17 : 0 ≤ τ40.1 17 ∧ τ40.1 17 ≤ 60000 := hT.1 17
                have v18 : 0 ≤ τ40.1 18 ∧ τ40.1 18 ≤ 60000 := hT.1 18
                have v20 : 0 ≤ τ40.1 20 ∧ τ40.1 20 ≤ 19 := hT.1 20
                exact ⟨hT, (show oc (τ40.2.1 6) ≤ (τ40.1 3) from by omega), (show (τ40.1 12) ≤ ca (τ40.2.1 9) (τ40.1 3) from by omega), (show j_lt (τ40.2.1 6) (τ40.1 3) from Y1)⟩
          ·
            refine ⟨(show 0 ≤ x2 ∧ x2 < 1001 from by omega), ?_⟩
            intro x16 r_x16 e_x16
            have b_x16 : 0 ≤ x16 ∧ x16 ≤ 1 := by rw [e_x16]; exact hT.2 8 _
            refine ⟨fun c17 => ?_, fun c17 => ?_⟩
            ·
              have ax : x2 < (σ.1 3) := by rcases q1_2 with h | ⟨e, h⟩; omega; rw [h]; exact p6 e
              refine h91 _ _ _ _ _ ?_
              refine ⟨fun c20 => ?_, fun c20 => ?_⟩
              ·
                refine h118 _ ?_
                refine ⟨_, K_X13_failHere hT (show 0 ≤ 7 from by omega) (show 7 ≤ 19 from by omega), ?_⟩
                intro τ40 hn_τ40 hf_τ40 hq
                obtain ⟨hT, q38_1, q38_2⟩ := hq
                replace q38_1 : ¬ (σ.1 20) = 0 → (τ40.1 20) = (σ.1 20) := q38_1
                replace q38_2 : (σ.1 20) = 0 → (τ40.1 20) = 7 := q38_2
                have w0_τ40 : τ40.1 0 = σ.1 0 := hf_τ40.1 0 (by decide)
                have w2_τ40 : τ40.1 2 = σ.1 2 := hf_τ40.1 2 (by decide)
                have w3_τ40 : τ40.1 3 = σ.1 3 := hf_τ40.1 3 (by decide)
                have w12_τ40 : τ40.1 12 = σ.1 12 := hf_τ40.1 12 (by decide)
                have w17_τ40 : τ40.1 17 = σ.1 17 := hf_τ40.1 17 (by decide)
                have w18_τ40 : τ40.1 18 = σ.1 18 := hf_τ40.1 18 (by decide)
                have g6_τ40 : τ40.2.1 6 = σ.2.1 6 := hf_τ40.2.1 6 (by decide)
                have g7_τ40 : τ40.2.1 7 = σ.2.1 7 := hf_τ40.2.1 7 (by decide)
                have g9_τ40 : τ40.2.1 9 = σ.2.1 9 := hf_τ40.2.1 9 (by decide)
                first | (have ca_τ40 := congr (congrArg ca g9_τ40) w3_τ40) | skip
                first | (have o6_τ40 := congrArg oc g6_τ40) | skip
                first | (have o7_τ40 := congrArg oc g7_τ40) | skip
                have W0 : τ40.1 0 = σ.1 0 := by omega
                have W17 : τ40.1 17 = σ.1 17 := by omega
                have W18 : τ40.1 18 = σ.1 18 := by omega
                have G7 : τ40.2.1 7 = σ.2.1 7 := (g7_τ40).trans G7
                have Y1 : j_lt (τ40.2.1 6) (τ40.1 3) := by rw [show (j_lt (τ40.2.1 6) (τ40.1 3)) = (j_lt (σ.2.1 6) (σ.1 3)) from by rw [w3_τ40, g6_τ40]]; exact Y1
                have A6 : ∀ j, (-1) ≤ τ40.2.1 6 j ∧ τ40.2.1 6 j ≤ 999 := fun j => hT.2 6 j
                have A7 : ∀ j, (-1) ≤ τ40.2.1 7 j ∧ τ40.2.1 7 j ≤ 1499 := fun j => hT.2 7 j
                have A9 : ∀ j, 0 ≤ τ40.2.1 9 j ∧ τ40.2.1 9 j ≤ 1 := fun j => hT.2 9 j
                have v0 : 0 ≤ τ40.1 0 ∧ τ40.1 0 ≤ 60000 := hT.1 0
                have v2 : 0 ≤ τ40.1 2 ∧ τ40.1 2 ≤ 30000 := hT.1 2
                have v3 : 0 ≤ τ40.1 3 ∧ τ40.1 3 ≤ 1000 := hT.1 3
                have v12 : 0 ≤ τ40.1 12 ∧ τ40.1 12 ≤ 1000 := hT.1 12
                have v17 : 0 ≤ τ40.1 17 ∧ τ40.1 17 ≤ 60000 := hT.1 17
                have v18 : 0 ≤ τ40.1 18 ∧ τ40.1 18 ≤ 60000 := hT.1 18
                have v20 : 0 ≤ τ40.1 20 ∧ τ40.1 20 ≤ 19 := hT.1 20
                exact ⟨hT, (show oc (τ40.2.1 6) ≤ (τ40.1 3) from by omega), (show (τ40.1 12) ≤ ca (τ40.2.1 9) (τ40.1 3) from by omega), (show j_lt (τ40.2.1 6) (τ40.1 3) from Y1)⟩
              ·
                refine ⟨_, K_X13_findLabel_q1 hT (show 0 ≤ (σ.1 17) from by omega) (show (σ.1 17) + (σ.1 18) ≤ 60000 from by omega) (show oc (σ.2.1 7) < 4096 from by omega), ?_⟩
                intro x22 r_x22 hq
                have q21_1 := hq
                replace q21_1 : -1 ≤ x22 ∧ x22 ≤ 1499 := q21_1
                refine ⟨fun c24 => ?_, fun c24 => ?_⟩
                ·
                  refine ⟨fun c25 => ?_, fun c25 => ?_⟩
                  ·
                    refine h214 _ _ _ ?_
                    first | (have nn9 : τ37.2.1 9 = σ.2.1 9 := by rw [g9_τ37, g9_τ33, g9_τ30]) | skip
                    first | (have nn3 : τ37.1 3 = σ.1 3 + 1 := by omega) | skip
                    first | (have cn2 : ca (st (τ37.2.1 9) (σ.1 3) n1) (τ37.1 3) = ca (st (σ.2.1 9) (σ.1 3) n1) (σ.1 3 + 1) := by rw [nn9, nn3]) | skip
                    refine ⟨(show 0 ≤ x2 ∧ x2 < 1001 from by omega), ?_⟩
                    refine ⟨(show 0 ≤ n1 ∧ n1 ≤ 1 from by omega), ?_⟩
                    replace hT := mT_a (k := 9) (j := x2) hT (show (0 : Int) ≤ n1 ∧ n1 ≤ 1 from by omega)
                    refine ⟨fun c43 => ?_, fun c43 => ?_⟩
                    ·
                      exact ⟨hT, (show oc (σ.2.1 6) ≤ (σ.1 3) from by omega), (show (σ.1 12) ≤ ca ((st (σ.2.1 9) x2 n1)) (σ.1 3) from by omega), (show j_lt (σ.2.1 6) (σ.1 3) from Y1)⟩
                    ·
                      refine ⟨(show 0 ≤ σ.1 12 ∧ σ.1 12 < 1001 from by omega), ?_⟩
                      replace hT := mT_a (k := 30) (j := (σ.1 12)) hT (show (0 : Int) ≤ x2 ∧ x2 ≤ 999 from by omega)
                      refine ⟨(⟨by omega, by omega⟩ : rg (σ.1 12 + 1)), ?_⟩
                      replace hT := mT_v (i := 12) hT (show 0 ≤ (σ.1 12 + 1) ∧ (σ.1 12 + 1) ≤ 1000 from by omega)
                      exact ⟨hT, (show oc (σ.2.1 6) ≤ (σ.1 3) from by omega), (show ((σ.1 12 + 1)) ≤ ca ((st (σ.2.1 9) x2 n1)) (σ.1 3) from by omega), (show j_lt (σ.2.1 6) (σ.1 3) from Y1)⟩
                  ·
                    refine ⟨(⟨by omega, by omega⟩ : rg (σ.1 3 + 1)), ?_⟩
                    replace hT := mT_v (i := 3) hT (show 0 ≤ (σ.1 3 + 1) ∧ (σ.1 3 + 1) ≤ 1000 from by omega)
                    refine ⟨(show 0 ≤ σ.1 3 ∧ σ.1 3 < 1001 from by omega), ?_⟩
                    replace hT := mT_a (k := 2) (j := (σ.1 3)) hT (show (0 : Int) ≤ (σ.1 2) ∧ (σ.1 2) ≤ 30000 from by omega)
                    replace hT := mT_a (k := 3) (j := (σ.1 3)) hT (show (0 : Int) ≤ (σ.1 18) ∧ (σ.1 18) ≤ 60 from by omega)
                    refine ⟨_, K_X13_keepChars hT (show 0 ≤ (σ.1 17) from by omega) (show 0 ≤ (σ.1 18) from by omega) (show (σ.1 17) + (σ.1 18) ≤ 60000 from by omega) (show (σ.1 2) + (σ.1 18) ≤ 30000 from by omega), ?_⟩
                    intro τ30 hn_τ30 hf_τ30 hq
                    obtain ⟨hT, q28_1⟩ := hq
                    replace q28_1 : (τ30.1 2) = (σ.1 2) + (σ.1 18) := q28_1
                    have w0_τ30 : τ30.1 0 = σ.1 0 := hf_τ30.1 0 (by decide)
                    have w3_τ30 : τ30.1 3 = (σ.1 3 + 1) := hf_τ30.1 3 (by decide)
                    have w12_τ30 : τ30.1 12 = σ.1 12 := hf_τ30.1 12 (by decide)
                    have w17_τ30 : τ30.1 17 = σ.1 17 := hf_τ30.1 17 (by decide)
                    have w18_τ30 : τ30.1 18 = σ.1 18 := hf_τ30.1 18 (by decide)
                    have w20_τ30 : τ30.1 20 = σ.1 20 := hf_τ30.1 20 (by decide)
                    have g6_τ30 : τ30.2.1 6 = σ.2.1 6 := hf_τ30.2.1 6 (by decide)
                    have g7_τ30 : τ30.2.1 7 = σ.2.1 7 := hf_τ30.2.1 7 (by decide)
                    have g9_τ30 : τ30.2.1 9 = σ.2.1 9 := hf_τ30.2.1 9 (by decide)
                    first | (have ca_τ30 := congr (congrArg ca g9_τ30) w3_τ30) | skip
                    first | (have o6_τ30 := congrArg oc g6_τ30) | skip
                    first | (have o7_τ30 := congrArg oc g7_τ30) | skip
                    have W0 : τ30.1 0 = σ.1 0 := by omega
                    have W17 : τ30.1 17 = σ.1 17 := by omega
                    have W18 : τ30.1 18 = σ.1 18 := by omega
                    have G7 : τ30.2.1 7 = σ.2.1 7 := (g7_τ30).trans G7
                    have A6 : ∀ j, (-1) ≤ τ30.2.1 6 j ∧ τ30.2.1 6 j ≤ 999 := fun j => hT.2 6 j
                    have A7 : ∀ j, (-1) ≤ τ30.2.1 7 j ∧ τ30.2.1 7 j ≤ 1499 := fun j => hT.2 7 j
                    have A9 : ∀ j, 0 ≤ τ30.2.1 9 j ∧ τ30.2.1 9 j ≤ 1 := fun j => hT.2 9 j
                    have v0 : 0 ≤ τ30.1 0 ∧ τ30.1 0 ≤ 60000 := hT.1 0
                    have v2 : 0 ≤ τ30.1 2 ∧ τ30.1 2 ≤ 30000 := hT.1 2
                    have v3 : 0 ≤ τ30.1 3 ∧ τ30.1 3 ≤ 1000 := hT.1 3
                    have v12 : 0 ≤ τ30.1 12 ∧ τ30.1 12 ≤ 1000 := hT.1 12
                    have v17 : 0 ≤ τ30.1 17 ∧ τ30.1 17 ≤ 60000 := hT.1 17
                    have v18 : 0 ≤ τ30.1 18 ∧ τ30.1 18 ≤ 60000 := hT.1 18
                    have v20 : 0 ≤ τ30.1 20 ∧ τ30.1 20 ≤ 19 := hT.1 20
                    refine ⟨_, K_X13_keepSymbol hT (show 0 ≤ (σ.1 3) from by omega) (show (σ.1 3) < 1000 from by omega) (show oc (τ30.2.1 6) < 4096 from by omega), ?_⟩
                    intro τ33 hn_τ33 hf_τ33 hq
                    obtain ⟨hT, q31_1, q31_2⟩ := hq
                    replace q31_1 : oc (τ33.2.1 6) ≤ oc (τ30.2.1 6) + 1 := q31_1
                    replace q31_2 : ∃ e : Int, τ33.2.1 6 = st (τ30.2.1 6) e (σ.1 3) := q31_2
                    have w0_τ33 : τ33.1 0 = τ30.1 0 := hf_τ33.1 0 (by decide)
                    have w2_τ33 : τ33.1 2 = τ30.1 2 := hf_τ33.1 2 (by decide)
                    have w3_τ33 : τ33.1 3 = τ30.1 3 := hf_τ33.1 3 (by decide)
                    have w12_τ33 : τ33.1 12 = τ30.1 12 := hf_τ33.1 12 (by decide)
                    have w17_τ33 : τ33.1 17 = τ30.1 17 := hf_τ33.1 17 (by decide)
                    have w18_τ33 : τ33.1 18 = τ30.1 18 := hf_τ33.1 18 (by decide)
                    have w20_τ33 : τ33.1 20 = τ30.1 20 := hf_τ33.1 20 (by decide)
                    have g7_τ33 : τ33.2.1 7 = τ30.2.1 7 := hf_τ33.2.1 7 (by decide)
                    have g9_τ33 : τ33.2.1 9 = τ30.2.1 9 := hf_τ33.2.1 9 (by decide)
                    first | (have ca_τ33 := congr (congrArg ca g9_τ33) w3_τ33) | skip
                    first | (have o6_τ33 := congrArg oc g6_τ33) | skip
                    first | (have o7_τ33 := congrArg oc g7_τ33) | skip
                    have W0 : τ33.1 0 = σ.1 0 := by omega
                    have W17 : τ33.1 17 = σ.1 17 := by omega
                    have W18 : τ33.1 18 = σ.1 18 := by omega
                    have G7 : τ33.2.1 7 = σ.2.1 7 := (g7_τ33).trans G7
                    have A6 : ∀ j, (-1) ≤ τ33.2.1 6 j ∧ τ33.2.1 6 j ≤ 999 := fun j => hT.2 6 j
                    have A7 : ∀ j, (-1) ≤ τ33.2.1 7 j ∧ τ33.2.1 7 j ≤ 1499 := fun j => hT.2 7 j
                    have A9 : ∀ j, 0 ≤ τ33.2.1 9 j ∧ τ33.2.1 9 j ≤ 1 := fun j => hT.2 9 j
                    have v0 : 0 ≤ τ33.1 0 ∧ τ33.1 0 ≤ 60000 := hT.1 0
                    have v2 : 0 ≤ τ33.1 2 ∧ τ33.1 2 ≤ 30000 := hT.1 2
                    have v3 : 0 ≤ τ33.1 3 ∧ τ33.1 3 ≤ 1000 := hT.1 3
                    have v12 : 0 ≤ τ33.1 12 ∧ τ33.1 12 ≤ 1000 := hT.1 12
                    have v17 : 0 ≤ τ33.1 17 ∧ τ33.1 17 ≤ 60000 := hT.1 17
                    have v18 : 0 ≤ τ33.1 18 ∧ τ33.1 18 ≤ 60000 := hT.1 18
                    have v20 : 0 ≤ τ33.1 20 ∧ τ33.1 20 ≤ 19 := hT.1 20
                    refine ⟨(show 0 ≤ n1 ∧ n1 ≤ 1 from by omega), ?_⟩
                    replace hT := mT_a (k := 8) (j := (σ.1 3)) hT (show (0 : Int) ≤ n1 ∧ n1 ≤ 1 from by omega)
                    replace hT := mT_a (k := 10) (j := (σ.1 3)) hT (show (-1 : Int) ≤ (-1) ∧ (-1) ≤ 999 from by omega)
                    replace hT := mT_a (k := 11) (j := (σ.1 3)) hT (show (-1 : Int) ≤ (-1) ∧ (-1) ≤ 1499 from by omega)
                    replace hT := mT_a (k := 12) (j := (σ.1 3)) hT (show (0 : Int) ≤ 0 ∧ 0 ≤ 1 from by omega)
                    have cn := ca_n (σ.2.1 9) ((σ.1 3)) n1 (by omega)
                    have cb3 := ca_b (st (σ.2.1 9) ((σ.1 3)) n1) (n := (σ.1 3) + 1) (by omega)
                    refine ⟨_, K_X13_markNamed hT (show 0 ≤ (σ.1 3) from by omega) (show (σ.1 3) < 1000 from by omega), ?_⟩
                    intro τ37 hn_τ37 hf_τ37 hq
                    replace hT := hq
                    have w0_τ37 : τ37.1 0 = τ33.1 0 := hf_τ37.1 0 (by decide)
                    have w2_τ37 : τ37.1 2 = τ33.1 2 := hf_τ37.1 2 (by decide)
                    have w3_τ37 : τ37.1 3 = τ33.1 3 := hf_τ37.1 3 (by decide)
                    have w12_τ37 : τ37.1 12 = τ33.1 12 := hf_τ37.1 12 (by decide)
                    have w17_τ37 : τ37.1 17 = τ33.1 17 := hf_τ37.1 17 (by decide)
                    have w18_τ37 : τ37.1 18 = τ33.1 18 := hf_τ37.1 18 (by decide)
                    have w20_τ37 : τ37.1 20 = τ33.1 20 := hf_τ37.1 20 (by decide)
                    have g6_τ37 : τ37.2.1 6 = τ33.2.1 6 := hf_τ37.2.1 6 (by decide)
                    have g7_τ37 : τ37.2.1 7 = τ33.2.1 7 := hf_τ37.2.1 7 (by decide)
                    have g9_τ37 : τ37.2.1 9 = τ33.2.1 9 := hf_τ37.2.1 9 (by decide)
                    first | (have ca_τ37 := congr (congrArg ca g9_τ37) w3_τ37) | skip
                    first | (have o6_τ37 := congrArg oc g6_τ37) | skip
                    first | (have o7_τ37 := congrArg oc g7_τ37) | skip
                    have W0 : τ37.1 0 = σ.1 0 := by omega
                    have W17 : τ37.1 17 = σ.1 17 := by omega
                    have W18 : τ37.1 18 = σ.1 18 := by omega
                    have G7 : τ37.2.1 7 = σ.2.1 7 := (g7_τ37).trans G7
                    have A6 : ∀ j, (-1) ≤ τ37.2.1 6 j ∧ τ37.2.1 6 j ≤ 999 := fun j => hT.2 6 j
                    have A7 : ∀ j, (-1) ≤ τ37.2.1 7 j ∧ τ37.2.1 7 j ≤ 1499 := fun j => hT.2 7 j
                    have A9 : ∀ j, 0 ≤ τ37.2.1 9 j ∧ τ37.2.1 9 j ≤ 1 := fun j => hT.2 9 j
                    have v0 : 0 ≤ τ37.1 0 ∧ τ37.1 0 ≤ 60000 := hT.1 0
                    have v2 : 0 ≤ τ37.1 2 ∧ τ37.1 2 ≤ 30000 := hT.1 2
                    have v3 : 0 ≤ τ37.1 3 ∧ τ37.1 3 ≤ 1000 := hT.1 3
                    have v12 : 0 ≤ τ37.1 12 ∧ τ37.1 12 ≤ 1000 := hT.1 12
                    have v17 : 0 ≤ τ37.1 17 ∧ τ37.1 17 ≤ 60000 := hT.1 17
                    have v18 : 0 ≤ τ37.1 18 ∧ τ37.1 18 ≤ 60000 := hT.1 18
                    have v20 : 0 ≤ τ37.1 20 ∧ τ37.1 20 ≤ 19 := hT.1 20
                    refine h214 _ _ _ ?_
                    first | (have nn9 : τ37.2.1 9 = σ.2.1 9 := by rw [g9_τ37, g9_τ33, g9_τ30]) | skip
                    first | (have nn3 : τ37.1 3 = σ.1 3 + 1 := by omega) | skip
                    first | (have cn2 : ca (st (τ37.2.1 9) (σ.1 3) n1) (τ37.1 3) = ca (st (σ.2.1 9) (σ.1 3) n1) (σ.1 3 + 1) := by rw [nn9, nn3]) | skip
                    refine ⟨(show 0 ≤ (σ.1 3) ∧ (σ.1 3) < 1001 from by omega), ?_⟩
                    refine ⟨(show 0 ≤ n1 ∧ n1 ≤ 1 from by omega), ?_⟩
                    replace hT := mT_a (k := 9) (j := (σ.1 3)) hT (show (0 : Int) ≤ n1 ∧ n1 ≤ 1 from by omega)
                    refine ⟨fun c43 => ?_, fun c43 => ?_⟩
                    ·
                      exact ⟨hT, (show oc (τ37.2.1 6) ≤ (τ37.1 3) from by omega), (show (τ37.1 12) ≤ ca ((st (τ37.2.1 9) (σ.1 3) n1)) (τ37.1 3) from by omega), (show j_lt (τ37.2.1 6) (τ37.1 3) from by (intro e; first | exact p6 e | (rw [g6_τ12, w3_τ12]; exact p6 e) | (rw [g6_τ40, w3_τ40]; exact p6 e) | (obtain ⟨ee, he⟩ := q31_2; rw [g6_τ37, he]; unfold st; split; omega; have := p6 e; rw [g6_τ30]; omega)))⟩
                    ·
                      refine ⟨(show 0 ≤ τ37.1 12 ∧ τ37.1 12 < 1001 from by omega), ?_⟩
                      replace hT := mT_a (k := 30) (j := (τ37.1 12)) hT (show (0 : Int) ≤ (σ.1 3) ∧ (σ.1 3) ≤ 999 from by omega)
                      refine ⟨(⟨by omega, by omega⟩ : rg (τ37.1 12 + 1)), ?_⟩
                      replace hT := mT_v (i := 12) hT (show 0 ≤ (τ37.1 12 + 1) ∧ (τ37.1 12 + 1) ≤ 1000 from by omega)
                      exact ⟨hT, (show oc (τ37.2.1 6) ≤ (τ37.1 3) from by omega), (show ((τ37.1 12 + 1)) ≤ ca ((st (τ37.2.1 9) (σ.1 3) n1)) (τ37.1 3) from by omega), (show j_lt (τ37.2.1 6) (τ37.1 3) from by (intro e; first | exact p6 e | (rw [g6_τ12, w3_τ12]; exact p6 e) | (rw [g6_τ40, w3_τ40]; exact p6 e) | (obtain ⟨ee, he⟩ := q31_2; rw [g6_τ37, he]; unfold st; split; omega; have := p6 e; rw [g6_τ30]; omega)))⟩
                ·
                  refine h118 _ ?_
                  refine ⟨_, K_X13_failHere hT (show 0 ≤ 7 from by omega) (show 7 ≤ 19 from by omega), ?_⟩
                  intro τ40 hn_τ40 hf_τ40 hq
                  obtain ⟨hT, q38_1, q38_2⟩ := hq
                  replace q38_1 : ¬ (σ.1 20) = 0 → (τ40.1 20) = (σ.1 20) := q38_1
                  replace q38_2 : (σ.1 20) = 0 → (τ40.1 20) = 7 := q38_2
                  have w0_τ40 : τ40.1 0 = σ.1 0 := hf_τ40.1 0 (by decide)
                  have w2_τ40 : τ40.1 2 = σ.1 2 := hf_τ40.1 2 (by decide)
                  have w3_τ40 : τ40.1 3 = σ.1 3 := hf_τ40.1 3 (by decide)
                  have w12_τ40 : τ40.1 12 = σ.1 12 := hf_τ40.1 12 (by decide)
                  have w17_τ40 : τ40.1 17 = σ.1 17 := hf_τ40.1 17 (by decide)
                  have w18_τ40 : τ40.1 18 = σ.1 18 := hf_τ40.1 18 (by decide)
                  have g6_τ40 : τ40.2.1 6 = σ.2.1 6 := hf_τ40.2.1 6 (by decide)
                  have g7_τ40 : τ40.2.1 7 = σ.2.1 7 := hf_τ40.2.1 7 (by decide)
                  have g9_τ40 : τ40.2.1 9 = σ.2.1 9 := hf_τ40.2.1 9 (by decide)
                  first | (have ca_τ40 := congr (congrArg ca g9_τ40) w3_τ40) | skip
                  first | (have o6_τ40 := congrArg oc g6_τ40) | skip
                  first | (have o7_τ40 := congrArg oc g7_τ40) | skip
                  have W0 : τ40.1 0 = σ.1 0 := by omega
                  have W17 : τ40.1 17 = σ.1 17 := by omega
                  have W18 : τ40.1 18 = σ.1 18 := by omega
                  have G7 : τ40.2.1 7 = σ.2.1 7 := (g7_τ40).trans G7
                  have Y1 : j_lt (τ40.2.1 6) (τ40.1 3) := by rw [show (j_lt (τ40.2.1 6) (τ40.1 3)) = (j_lt (σ.2.1 6) (σ.1 3)) from by rw [w3_τ40, g6_τ40]]; exact Y1
                  have A6 : ∀ j, (-1) ≤ τ40.2.1 6 j ∧ τ40.2.1 6 j ≤ 999 := fun j => hT.2 6 j
                  have A7 : ∀ j, (-1) ≤ τ40.2.1 7 j ∧ τ40.2.1 7 j ≤ 1499 := fun j => hT.2 7 j
                  have A9 : ∀ j, 0 ≤ τ40.2.1 9 j ∧ τ40.2.1 9 j ≤ 1 := fun j => hT.2 9 j
                  have v0 : 0 ≤ τ40.1 0 ∧ τ40.1 0 ≤ 60000 := hT.1 0
                  have v2 : 0 ≤ τ40.1 2 ∧ τ40.1 2 ≤ 30000 := hT.1 2
                  have v3 : 0 ≤ τ40.1 3 ∧ τ40.1 3 ≤ 1000 := hT.1 3
                  have v12 : 0 ≤ τ40.1 12 ∧ τ40.1 12 ≤ 1000 := hT.1 12
                  have v17 : 0 ≤ τ40.1 17 ∧ τ40.1 17 ≤ 60000 := hT.1 17
                  have v18 : 0 ≤ τ40.1 18 ∧ τ40.1 18 ≤ 60000 := hT.1 18
                  have v20 : 0 ≤ τ40.1 20 ∧ τ40.1 20 ≤ 19 := hT.1 20
                  exact ⟨hT, (show oc (τ40.2.1 6) ≤ (τ40.1 3) from by omega), (show (τ40.1 12) ≤ ca (τ40.2.1 9) (τ40.1 3) from by omega), (show j_lt (τ40.2.1 6) (τ40.1 3) from Y1)⟩
            ·
              have ax : x2 < (σ.1 3) := by rcases q1_2 with h | ⟨e, h⟩; omega; rw [h]; exact p6 e
              intro x18 r_x18 e_x18
              have b_x18 : 0 ≤ x18 ∧ x18 ≤ 1 := by rw [e_x18]; exact hT.2 9 _
              refine ⟨fun c19 => ?_, fun c19 => ?_⟩
              ·
                have ct := fun h1 : ¬ n1 = 0 => fun h2 : x18 = 0 => ca_t1 (σ.2.1 9) x2 ((σ.1 3)) n1 (by omega) ax (by rw [← e_x18]; exact h2) h1
                have cb2 := ca_b (st (σ.2.1 9) x2 n1) (n := (σ.1 3)) (by omega)
                refine h91 _ _ _ _ _ ?_
                refine ⟨fun c20 => ?_, fun c20 => ?_⟩
                ·
                  refine h118 _ ?_
                  refine ⟨_, K_X13_failHere hT (show 0 ≤ 7 from by omega) (show 7 ≤ 19 from by omega), ?_⟩
                  intro τ40 hn_τ40 hf_τ40 hq
                  obtain ⟨hT, q38_1, q38_2⟩ := hq
                  replace q38_1 : ¬ (σ.1 20) = 0 → (τ40.1 20) = (σ.1 20) := q38_1
                  replace q38_2 : (σ.1 20) = 0 → (τ40.1 20) = 7 := q38_2
                  have w0_τ40 : τ40.1 0 = σ.1 0 := hf_τ40.1 0 (by decide)
                  have w2_τ40 : τ40.1 2 = σ.1 2 := hf_τ40.1 2 (by decide)
                  have w3_τ40 : τ40.1 3 = σ.1 3 := hf_τ40.1 3 (by decide)
                  have w12_τ40 : τ40.1 12 = σ.1 12 := hf_τ40.1 12 (by decide)
                  have w17_τ40 : τ40.1 17 = σ.1 17 := hf_τ40.1 17 (by decide)
                  have w18_τ40 : τ40.1 18 = σ.1 18 := hf_τ40.1 18 (by decide)
                  have g6_τ40 : τ40.2.1 6 = σ.2.1 6 := hf_τ40.2.1 6 (by decide)
                  have g7_τ40 : τ40.2.1 7 = σ.2.1 7 := hf_τ40.2.1 7 (by decide)
                  have g9_τ40 : τ40.2.1 9 = σ.2.1 9 := hf_τ40.2.1 9 (by decide)
                  first | (have ca_τ40 := congr (congrArg ca g9_τ40) w3_τ40) | skip
                  first | (have o6_τ40 := congrArg oc g6_τ40) | skip
                  first | (have o7_τ40 := congrArg oc g7_τ40) | skip
                  have W0 : τ40.1 0 = σ.1 0 := by omega
                  have W17 : τ40.1 17 = σ.1 17 := by omega
                  have W18 : τ40.1 18 = σ.1 18 := by omega
                  have G7 : τ40.2.1 7 = σ.2.1 7 := (g7_τ40).trans G7
                  have Y1 : j_lt (τ40.2.1 6) (τ40.1 3) := by rw [show (j_lt (τ40.2.1 6) (τ40.1 3)) = (j_lt (σ.2.1 6) (σ.1 3)) from by rw [w3_τ40, g6_τ40]]; exact Y1
                  have A6 : ∀ j, (-1) ≤ τ40.2.1 6 j ∧ τ40.2.1 6 j ≤ 999 := fun j => hT.2 6 j
                  have A7 : ∀ j, (-1) ≤ τ40.2.1 7 j ∧ τ40.2.1 7 j ≤ 1499 := fun j => hT.2 7 j
                  have A9 : ∀ j, 0 ≤ τ40.2.1 9 j ∧ τ40.2.1 9 j ≤ 1 := fun j => hT.2 9 j
                  have v0 : 0 ≤ τ40.1 0 ∧ τ40.1 0 ≤ 60000 := hT.1 0
                  have v2 : 0 ≤ τ40.1 2 ∧ τ40.1 2 ≤ 30000 := hT.1 2
                  have v3 : 0 ≤ τ40.1 3 ∧ τ40.1 3 ≤ 1000 := hT.1 3
                  have v12 : 0 ≤ τ40.1 12 ∧ τ40.1 12 ≤ 1000 := hT.1 12
                  have v17 : 0 ≤ τ40.1 17 ∧ τ40.1 17 ≤ 60000 := hT.1 17
                  have v18 : 0 ≤ τ40.1 18 ∧ τ40.1 18 ≤ 60000 := hT.1 18
                  have v20 : 0 ≤ τ40.1 20 ∧ τ40.1 20 ≤ 19 := hT.1 20
                  exact ⟨hT, (show oc (τ40.2.1 6) ≤ (τ40.1 3) from by omega), (show (τ40.1 12) ≤ ca (τ40.2.1 9) (τ40.1 3) from by omega), (show j_lt (τ40.2.1 6) (τ40.1 3) from Y1)⟩
                ·
                  refine ⟨_, K_X13_findLabel_q1 hT (show 0 ≤ (σ.1 17) from by omega) (show (σ.1 17) + (σ.1 18) ≤ 60000 from by omega) (show oc (σ.2.1 7) < 4096 from by omega), ?_⟩
                  intro x22 r_x22 hq
                  have q21_1 := hq
                  replace q21_1 : -1 ≤ x22 ∧ x22 ≤ 1499 := q21_1
                  refine ⟨fun c24 => ?_, fun c24 => ?_⟩
                  ·
                    refine ⟨fun c25 => ?_, fun c25 => ?_⟩
                    ·
                      refine h214 _ _ _ ?_
                      first | (have nn9 : τ37.2.1 9 = σ.2.1 9 := by rw [g9_τ37, g9_τ33, g9_τ30]) | skip
                      first | (have nn3 : τ37.1 3 = σ.1 3 + 1 := by omega) | skip
                      first | (have cn2 : ca (st (τ37.2.1 9) (σ.1 3) n1) (τ37.1 3) = ca (st (σ.2.1 9) (σ.1 3) n1) (σ.1 3 + 1) := by rw [nn9, nn3]) | skip
                      refine ⟨(show 0 ≤ x2 ∧ x2 < 1001 from by omega), ?_⟩
                      refine ⟨(show 0 ≤ n1 ∧ n1 ≤ 1 from by omega), ?_⟩
                      replace hT := mT_a (k := 9) (j := x2) hT (show (0 : Int) ≤ n1 ∧ n1 ≤ 1 from by omega)
                      refine ⟨fun c43 => ?_, fun c43 => ?_⟩
                      ·
                        exact ⟨hT, (show oc (σ.2.1 6) ≤ (σ.1 3) from by omega), (show (σ.1 12) ≤ ca ((st (σ.2.1 9) x2 n1)) (σ.1 3) from by omega), (show j_lt (σ.2.1 6) (σ.1 3) from Y1)⟩
                      ·
                        refine ⟨(show 0 ≤ σ.1 12 ∧ σ.1 12 < 1001 from by omega), ?_⟩
                        replace hT := mT_a (k := 30) (j := (σ.1 12)) hT (show (0 : Int) ≤ x2 ∧ x2 ≤ 999 from by omega)
                        refine ⟨(⟨by omega, by omega⟩ : rg (σ.1 12 + 1)), ?_⟩
                        replace hT := mT_v (i := 12) hT (show 0 ≤ (σ.1 12 + 1) ∧ (σ.1 12 + 1) ≤ 1000 from by omega)
                        exact ⟨hT, (show oc (σ.2.1 6) ≤ (σ.1 3) from by omega), (show ((σ.1 12 + 1)) ≤ ca ((st (σ.2.1 9) x2 n1)) (σ.1 3) from by omega), (show j_lt (σ.2.1 6) (σ.1 3) from Y1)⟩
                    ·
                      refine ⟨(⟨by omega, by omega⟩ : rg (σ.1 3 + 1)), ?_⟩
                      replace hT := mT_v (i := 3) hT (show 0 ≤ (σ.1 3 + 1) ∧ (σ.1 3 + 1) ≤ 1000 from by omega)
                      refine ⟨(show 0 ≤ σ.1 3 ∧ σ.1 3 < 1001 from by omega), ?_⟩
                      replace hT := mT_a (k := 2) (j := (σ.1 3)) hT (show (0 : Int) ≤ (σ.1 2) ∧ (σ.1 2) ≤ 30000 from by omega)
                      replace hT := mT_a (k := 3) (j := (σ.1 3)) hT (show (0 : Int) ≤ (σ.1 18) ∧ (σ.1 18) ≤ 60 from by omega)
                      refine ⟨_, K_X13_keepChars hT (show 0 ≤ (σ.1 17) from by omega) (show 0 ≤ (σ.1 18) from by omega) (show (σ.1 17) + (σ.1 18) ≤ 60000 from by omega) (show (σ.1 2) + (σ.1 18) ≤ 30000 from by omega), ?_⟩
                      intro τ30 hn_τ30 hf_τ30 hq
                      obtain ⟨hT, q28_1⟩ := hq
                      replace q28_1 : (τ30.1 2) = (σ.1 2) + (σ.1 18) := q28_1
                      have w0_τ30 : τ30.1 0 = σ.1 0 := hf_τ30.1 0 (by decide)
                      have w3_τ30 : τ30.1 3 = (σ.1 3 + 1) := hf_τ30.1 3 (by decide)
                      have w12_τ30 : τ30.1 12 = σ.1 12 := hf_τ30.1 12 (by decide)
                      have w17_τ30 : τ30.1 17 = σ.1 17 := hf_τ30.1 17 (by decide)
                      have w18_τ30 : τ30.1 18 = σ.1 18 := hf_τ30.1 18 (by decide)
                      have w20_τ30 : τ30.1 20 = σ.1 20 := hf_τ30.1 20 (by decide)
                      have g6_τ30 : τ30.2.1 6 = σ.2.1 6 := hf_τ30.2.1 6 (by decide)
                      have g7_τ30 : τ30.2.1 7 = σ.2.1 7 := hf_τ30.2.1 7 (by decide)
                      have g9_τ30 : τ30.2.1 9 = σ.2.1 9 := hf_τ30.2.1 9 (by decide)
                      first | (have ca_τ30 := congr (congrArg ca g9_τ30) w3_τ30) | skip
                      first | (have o6_τ30 := congrArg oc g6_τ30) | skip
                      first | (have o7_τ30 := congrArg oc g7_τ30) | skip
                      have W0 : τ30.1 0 = σ.1 0 := by omega
                      have W17 : τ30.1 17 = σ.1 17 := by omega
                      have W18 : τ30.1 18 = σ.1 18 := by omega
                      have G7 : τ30.2.1 7 = σ.2.1 7 := (g7_τ30).trans G7
                      have A6 : ∀ j, (-1) ≤ τ30.2.1 6 j ∧ τ30.2.1 6 j ≤ 999 := fun j => hT.2 6 j
                      have A7 : ∀ j, (-1) ≤ τ30.2.1 7 j ∧ τ30.2.1 7 j ≤ 1499 := fun j => hT.2 7 j
                      have A9 : ∀ j, 0 ≤ τ30.2.1 9 j ∧ τ30.2.1 9 j ≤ 1 := fun j => hT.2 9 j
                      have v0 : 0 ≤ τ30.1 0 ∧ τ30.1 0 ≤ 60000 := hT.1 0
                      have v2 : 0 ≤ τ30.1 2 ∧ τ30.1 2 ≤ 30000 := hT.1 2
                      have v3 : 0 ≤ τ30.1 3 ∧ τ30.1 3 ≤ 1000 := hT.1 3
                      have v12 : 0 ≤ τ30.1 12 ∧ τ30.1 12 ≤ 1000 := hT.1 12
                      have v17 : 0 ≤ τ30.1 17 ∧ τ30.1 17 ≤ 60000 := hT.1 17
                      have v18 : 0 ≤ τ30.1 18 ∧ τ30.1 18 ≤ 60000 := hT.1 18
                      have v20 : 0 ≤ τ30.1 20 ∧ τ30.1 20 ≤ 19 := hT.1 20
                      refine ⟨_, K_X13_keepSymbol hT (show 0 ≤ (σ.1 3) from by omega) (show (σ.1 3) < 1000 from by omega) (show oc (τ30.2.1 6) < 4096 from by omega), ?_⟩
                      intro τ33 hn_τ33 hf_τ33 hq
                      obtain ⟨hT, q31_1, q31_2⟩ := hq
                      replace q31_1 : oc (τ33.2.1 6) ≤ oc (τ30.2.1 6) + 1 := q31_1
                      replace q31_2 : ∃ e : Int, τ33.2.1 6 = st (τ30.2.1 6) e (σ.1 3) := q31_2
                      have w0_τ33 : τ33.1 0 = τ30.1 0 := hf_τ33.1 0 (by decide)
                      have w2_τ33 : τ33.1 2 = τ30.1 2 := hf_τ33.1 2 (by decide)
                      have w3_τ33 : τ33.1 3 = τ30.1 3 := hf_τ33.1 3 (by decide)
                      have w12_τ33 : τ33.1 12 = τ30.1 12 := hf_τ33.1 12 (by decide)
                      have w17_τ33 : τ33.1 17 = τ30.1 17 := hf_τ33.1 17 (by decide)
                      have w18_τ33 : τ33.1 18 = τ30.1 18 := hf_τ33.1 18 (by decide)
                      have w20_τ33 : τ33.1 20 = τ30.1 20 := hf_τ33.1 20 (by decide)
                      have g7_τ33 : τ33.2.1 7 = τ30.2.1 7 := hf_τ33.2.1 7 (by decide)
                      have g9_τ33 : τ33.2.1 9 = τ30.2.1 9 := hf_τ33.2.1 9 (by decide)
                      first | (have ca_τ33 := congr (congrArg ca g9_τ33) w3_τ33) | skip
                      first | (have o6_τ33 := congrArg oc g6_τ33) | skip
                      first | (have o7_τ33 := congrArg oc g7_τ33) | skip
                      have W0 : τ33.1 0 = σ.1 0 := by omega
                      have W17 : τ33.1 17 = σ.1 17 := by omega
                      have W18 : τ33.1 18 = σ.1 18 := by omega
                      have G7 : τ33.2.1 7 = σ.2.1 7 := (g7_τ33).trans G7
                      have A6 : ∀ j, (-1) ≤ τ33.2.1 6 j ∧ τ33.2.1 6 j ≤ 999 := fun j => hT.2 6 j
                      have A7 : ∀ j, (-1) ≤ τ33.2.1 7 j ∧ τ33.2.1 7 j ≤ 1499 := fun j => hT.2 7 j
                      have A9 : ∀ j, 0 ≤ τ33.2.1 9 j ∧ τ33.2.1 9 j ≤ 1 := fun j => hT.2 9 j
                      have v0 : 0 ≤ τ33.1 0 ∧ τ33.1 0 ≤ 60000 := hT.1 0
                      have v2 : 0 ≤ τ33.1 2 ∧ τ33.1 2 ≤ 30000 := hT.1 2
                      have v3 : 0 ≤ τ33.1 3 ∧ τ33.1 3 ≤ 1000 := hT.1 3
                      have v12 : 0 ≤ τ33.1 12 ∧ τ33.1 12 ≤ 1000 := hT.1 12
                      have v17 : 0 ≤ τ33.1 17 ∧ τ33.1 17 ≤ 60000 := hT.1 17
                      have v18 : 0 ≤ τ33.1 18 ∧ τ33.1 18 ≤ 60000 := hT.1 18
                      have v20 : 0 ≤ τ33.1 20 ∧ τ33.1 20 ≤ 19 := hT.1 20
                      refine ⟨(show 0 ≤ n1 ∧ n1 ≤ 1 from by omega), ?_⟩
                      replace hT := mT_a (k := 8) (j := (σ.1 3)) hT (show (0 : Int) ≤ n1 ∧ n1 ≤ 1 from by omega)
                      replace hT := mT_a (k := 10) (j := (σ.1 3)) hT (show (-1 : Int) ≤ (-1) ∧ (-1) ≤ 999 from by omega)
                      replace hT := mT_a (k := 11) (j := (σ.1 3)) hT (show (-1 : Int) ≤ (-1) ∧ (-1) ≤ 1499 from by omega)
                      replace hT := mT_a (k := 12) (j := (σ.1 3)) hT (show (0 : Int) ≤ 0 ∧ 0 ≤ 1 from by omega)
                      have cn := ca_n (σ.2.1 9) ((σ.1 3)) n1 (by omega)
                      have cb3 := ca_b (st (σ.2.1 9) ((σ.1 3)) n1) (n := (σ.1 3) + 1) (by omega)
                      refine ⟨_, K_X13_markNamed hT (show 0 ≤ (σ.1 3) from by omega) (show (σ.1 3) < 1000 from by omega), ?_⟩
                      intro τ37 hn_τ37 hf_τ37 hq
                      replace hT := hq
                      have w0_τ37 : τ37.1 0 = τ33.1 0 := hf_τ37.1 0 (by decide)
                      have w2_τ37 : τ37.1 2 = τ33.1 2 := hf_τ37.1 2 (by decide)
                      have w3_τ37 : τ37.1 3 = τ33.1 3 := hf_τ37.1 3 (by decide)
                      have w12_τ37 : τ37.1 12 = τ33.1 12 := hf_τ37.1 12 (by decide)
                      have w17_τ37 : τ37.1 17 = τ33.1 17 := hf_τ37.1 17 (by decide)
                      have w18_τ37 : τ37.1 18 = τ33.1 18 := hf_τ37.1 18 (by decide)
                      have w20_τ37 : τ37.1 20 = τ33.1 20 := hf_τ37.1 20 (by decide)
                      have g6_τ37 : τ37.2.1 6 = τ33.2.1 6 := hf_τ37.2.1 6 (by decide)
                      have g7_τ37 : τ37.2.1 7 = τ33.2.1 7 := hf_τ37.2.1 7 (by decide)
                      have g9_τ37 : τ37.2.1 9 = τ33.2.1 9 := hf_τ37.2.1 9 (by decide)
                      first | (have ca_τ37 := congr (congrArg ca g9_τ37) w3_τ37) | skip
                      first | (have o6_τ37 := congrArg oc g6_τ37) | skip
                      first | (have o7_τ37 := congrArg oc g7_τ37) | skip
                      have W0 : τ37.1 0 = σ.1 0 := by omega
                      have W17 : τ37.1 17 = σ.1 17 := by omega
                      have W18 : τ37.1 18 = σ.1 18 := by omega
                      have G7 : τ37.2.1 7 = σ.2.1 7 := (g7_τ37).trans G7
                      have A6 : ∀ j, (-1) ≤ τ37.2.1 6 j ∧ τ37.2.1 6 j ≤ 999 := fun j => hT.2 6 j
                      have A7 : ∀ j, (-1) ≤ τ37.2.1 7 j ∧ τ37.2.1 7 j ≤ 1499 := fun j => hT.2 7 j
                      have A9 : ∀ j, 0 ≤ τ37.2.1 9 j ∧ τ37.2.1 9 j ≤ 1 := fun j => hT.2 9 j
                      have v0 : 0 ≤ τ37.1 0 ∧ τ37.1 0 ≤ 60000 := hT.1 0
                      have v2 : 0 ≤ τ37.1 2 ∧ τ37.1 2 ≤ 30000 := hT.1 2
                      have v3 : 0 ≤ τ37.1 3 ∧ τ37.1 3 ≤ 1000 := hT.1 3
                      have v12 : 0 ≤ τ37.1 12 ∧ τ37.1 12 ≤ 1000 := hT.1 12
                      have v17 : 0 ≤ τ37.1 17 ∧ τ37.1 17 ≤ 60000 := hT.1 17
                      have v18 : 0 ≤ τ37.1 18 ∧ τ37.1 18 ≤ 60000 := hT.1 18
                      have v20 : 0 ≤ τ37.1 20 ∧ τ37.1 20 ≤ 19 := hT.1 20
                      refine h214 _ _ _ ?_
                      first | (have nn9 : τ37.2.1 9 = σ.2.1 9 := by rw [g9_τ37, g9_τ33, g9_τ30]) | skip
                      first | (have nn3 : τ37.1 3 = σ.1 3 + 1 := by omega) | skip
                      first | (have cn2 : ca (st (τ37.2.1 9) (σ.1 3) n1) (τ37.1 3) = ca (st (σ.2.1 9) (σ.1 3) n1) (σ.1 3 + 1) := by rw [nn9, nn3]) | skip
                      refine ⟨(show 0 ≤ (σ.1 3) ∧ (σ.1 3) < 1001 from by omega), ?_⟩
                      refine ⟨(show 0 ≤ n1 ∧ n1 ≤ 1 from by omega), ?_⟩
                      replace hT := mT_a (k := 9) (j := (σ.1 3)) hT (show (0 : Int) ≤ n1 ∧ n1 ≤ 1 from by omega)
                      refine ⟨fun c43 => ?_, fun c43 => ?_⟩
                      ·
                        exact ⟨hT, (show oc (τ37.2.1 6) ≤ (τ37.1 3) from by omega), (show (τ37.1 12) ≤ ca ((st (τ37.2.1 9) (σ.1 3) n1)) (τ37.1 3) from by omega), (show j_lt (τ37.2.1 6) (τ37.1 3) from by (intro e; first | exact p6 e | (rw [g6_τ12, w3_τ12]; exact p6 e) | (rw [g6_τ40, w3_τ40]; exact p6 e) | (obtain ⟨ee, he⟩ := q31_2; rw [g6_τ37, he]; unfold st; split; omega; have := p6 e; rw [g6_τ30]; omega)))⟩
                      ·
                        refine ⟨(show 0 ≤ τ37.1 12 ∧ τ37.1 12 < 1001 from by omega), ?_⟩
                        replace hT := mT_a (k := 30) (j := (τ37.1 12)) hT (show (0 : Int) ≤ (σ.1 3) ∧ (σ.1 3) ≤ 999 from by omega)
                        refine ⟨(⟨by omega, by omega⟩ : rg (τ37.1 12 + 1)), ?_⟩
                        replace hT := mT_v (i := 12) hT (show 0 ≤ (τ37.1 12 + 1) ∧ (τ37.1 12 + 1) ≤ 1000 from by omega)
                        exact ⟨hT, (show oc (τ37.2.1 6) ≤ (τ37.1 3) from by omega), (show ((τ37.1 12 + 1)) ≤ ca ((st (τ37.2.1 9) (σ.1 3) n1)) (τ37.1 3) from by omega), (show j_lt (τ37.2.1 6) (τ37.1 3) from by (intro e; first | exact p6 e | (rw [g6_τ12, w3_τ12]; exact p6 e) | (rw [g6_τ40, w3_τ40]; exact p6 e) | (obtain ⟨ee, he⟩ := q31_2; rw [g6_τ37, he]; unfold st; split; omega; have := p6 e; rw [g6_τ30]; omega)))⟩
                  ·
                    refine h118 _ ?_
                    refine ⟨_, K_X13_failHere hT (show 0 ≤ 7 from by omega) (show 7 ≤ 19 from by omega), ?_⟩
                    intro τ40 hn_τ40 hf_τ40 hq
                    obtain ⟨hT, q38_1, q38_2⟩ := hq
                    replace q38_1 : ¬ (σ.1 20) = 0 → (τ40.1 20) = (σ.1 20) := q38_1
                    replace q38_2 : (σ.1 20) = 0 → (τ40.1 20) = 7 := q38_2
                    have w0_τ40 : τ40.1 0 = σ.1 0 := hf_τ40.1 0 (by decide)
                    have w2_τ40 : τ40.1 2 = σ.1 2 := hf_τ40.1 2 (by decide)
                    have w3_τ40 : τ40.1 3 = σ.1 3 := hf_τ40.1 3 (by decide)
                    have w12_τ40 : τ40.1 12 = σ.1 12 := hf_τ40.1 12 (by decide)
                    have w17_τ40 : τ40.1 17 = σ.1 17 := hf_τ40.1 17 (by decide)
                    have w18_τ40 : τ40.1 18 = σ.1 18 := hf_τ40.1 18 (by decide)
                    have g6_τ40 : τ40.2.1 6 = σ.2.1 6 := hf_τ40.2.1 6 (by decide)
                    have g7_τ40 : τ40.2.1 7 = σ.2.1 7 := hf_τ40.2.1 7 (by decide)
                    have g9_τ40 : τ40.2.1 9 = σ.2.1 9 := hf_τ40.2.1 9 (by decide)
                    first | (have ca_τ40 := congr (congrArg ca g9_τ40) w3_τ40) | skip
                    first | (have o6_τ40 := congrArg oc g6_τ40) | skip
                    first | (have o7_τ40 := congrArg oc g7_τ40) | skip
                    have W0 : τ40.1 0 = σ.1 0 := by omega
                    have W17 : τ40.1 17 = σ.1 17 := by omega
                    have W18 : τ40.1 18 = σ.1 18 := by omega
                    have G7 : τ40.2.1 7 = σ.2.1 7 := (g7_τ40).trans G7
                    have Y1 : j_lt (τ40.2.1 6) (τ40.1 3) := by rw [show (j_lt (τ40.2.1 6) (τ40.1 3)) = (j_lt (σ.2.1 6) (σ.1 3)) from by rw [w3_τ40, g6_τ40]]; exact Y1
                    have A6 : ∀ j, (-1) ≤ τ40.2.1 6 j ∧ τ40.2.1 6 j ≤ 999 := fun j => hT.2 6 j
                    have A7 : ∀ j, (-1) ≤ τ40.2.1 7 j ∧ τ40.2.1 7 j ≤ 1499 := fun j => hT.2 7 j
                    have A9 : ∀ j, 0 ≤ τ40.2.1 9 j ∧ τ40.2.1 9 j ≤ 1 := fun j => hT.2 9 j
                    have v0 : 0 ≤ τ40.1 0 ∧ τ40.1 0 ≤ 60000 := hT.1 0
                    have v2 : 0 ≤ τ40.1 2 ∧ τ40.1 2 ≤ 30000 := hT.1 2
                    have v3 : 0 ≤ τ40.1 3 ∧ τ40.1 3 ≤ 1000 := hT.1 3
                    have v12 : 0 ≤ τ40.1 12 ∧ τ40.1 12 ≤ 1000 := hT.1 12
                    have v17 : 0 ≤ τ40.1 17 ∧ τ40.1 17 ≤ 60000 := hT.1 17
                    have v18 : 0 ≤ τ40.1 18 ∧ τ40.1 18 ≤ 60000 := hT.1 18
                    have v20 : 0 ≤ τ40.1 20 ∧ τ40.1 20 ≤ 19 := hT.1 20
                    exact ⟨hT, (show oc (τ40.2.1 6) ≤ (τ40.1 3) from by omega), (show (τ40.1 12) ≤ ca (τ40.2.1 9) (τ40.1 3) from by omega), (show j_lt (τ40.2.1 6) (τ40.1 3) from Y1)⟩
              ·
                have ct := fun h1 : ¬ n1 = 0 => fun h2 : x18 = 0 => ca_t1 (σ.2.1 9) x2 ((σ.1 3)) n1 (by omega) ax (by rw [← e_x18]; exact h2) h1
                have cb2 := ca_b (st (σ.2.1 9) x2 n1) (n := (σ.1 3)) (by omega)
                refine h91 _ _ _ _ _ ?_
                refine ⟨fun c20 => ?_, fun c20 => ?_⟩
                ·
                  refine h118 _ ?_
                  refine ⟨_, K_X13_failHere hT (show 0 ≤ 7 from by omega) (show 7 ≤ 19 from by omega), ?_⟩
                  intro τ40 hn_τ40 hf_τ40 hq
                  obtain ⟨hT, q38_1, q38_2⟩ := hq
                  replace q38_1 : ¬ (σ.1 20) = 0 → (τ40.1 20) = (σ.1 20) := q38_1
                  replace q38_2 : (σ.1 20) = 0 → (τ40.1 20) = 7 := q38_2
                  have w0_τ40 : τ40.1 0 = σ.1 0 := hf_τ40.1 0 (by decide)
                  have w2_τ40 : τ40.1 2 = σ.1 2 := hf_τ40.1 2 (by decide)
                  have w3_τ40 : τ40.1 3 = σ.1 3 := hf_τ40.1 3 (by decide)
                  have w12_τ40 : τ40.1 12 = σ.1 12 := hf_τ40.1 12 (by decide)
                  have w17_τ40 : τ40.1 17 = σ.1 17 := hf_τ40.1 17 (by decide)
                  have w18_τ40 : τ40.1 18 = σ.1 18 := hf_τ40.1 18 (by decide)
                  have g6_τ40 : τ40.2.1 6 = σ.2.1 6 := hf_τ40.2.1 6 (by decide)
                  have g7_τ40 : τ40.2.1 7 = σ.2.1 7 := hf_τ40.2.1 7 (by decide)
                  have g9_τ40 : τ40.2.1 9 = σ.2.1 9 := hf_τ40.2.1 9 (by decide)
                  first | (have ca_τ40 := congr (congrArg ca g9_τ40) w3_τ40) | skip
                  first | (have o6_τ40 := congrArg oc g6_τ40) | skip
                  first | (have o7_τ40 := congrArg oc g7_τ40) | skip
                  have W0 : τ40.1 0 = σ.1 0 := by omega
                  have W17 : τ40.1 17 = σ.1 17 := by omega
                  have W18 : τ40.1 18 = σ.1 18 := by omega
                  have G7 : τ40.2.1 7 = σ.2.1 7 := (g7_τ40).trans G7
                  have Y1 : j_lt (τ40.2.1 6) (τ40.1 3) := by rw [show (j_lt (τ40.2.1 6) (τ40.1 3)) = (j_lt (σ.2.1 6) (σ.1 3)) from by rw [w3_τ40, g6_τ40]]; exact Y1
                  have A6 : ∀ j, (-1) ≤ τ40.2.1 6 j ∧ τ40.2.1 6 j ≤ 999 := fun j => hT.2 6 j
                  have A7 : ∀ j, (-1) ≤ τ40.2.1 7 j ∧ τ40.2.1 7 j ≤ 1499 := fun j => hT.2 7 j
                  have A9 : ∀ j, 0 ≤ τ40.2.1 9 j ∧ τ40.2.1 9 j ≤ 1 := fun j => hT.2 9 j
                  have v0 : 0 ≤ τ40.1 0 ∧ τ40.1 0 ≤ 60000 := hT.1 0
                  have v2 : 0 ≤ τ40.1 2 ∧ τ40.1 2 ≤ 30000 := hT.1 2
                  have v3 : 0 ≤ τ40.1 3 ∧ τ40.1 3 ≤ 1000 := hT.1 3
                  have v12 : 0 ≤ τ40.1 12 ∧ τ40.1 12 ≤ 1000 := hT.1 12
                  have v17 : 0 ≤ τ40.1 17 ∧ τ40.1 17 ≤ 60000 := hT.1 17
                  have v18 : 0 ≤ τ40.1 18 ∧ τ40.1 18 ≤ 60000 := hT.1 18
                  have v20 : 0 ≤ τ40.1 20 ∧ τ40.1 20 ≤ 19 := hT.1 20
                  exact ⟨hT, (show oc (τ40.2.1 6) ≤ (τ40.1 3) from by omega), (show (τ40.1 12) ≤ ca (τ40.2.1 9) (τ40.1 3) from by omega), (show j_lt (τ40.2.1 6) (τ40.1 3) from Y1)⟩
                ·
                  refine ⟨_, K_X13_findLabel_q1 hT (show 0 ≤ (σ.1 17) from by omega) (show (σ.1 17) + (σ.1 18) ≤ 60000 from by omega) (show oc (σ.2.1 7) < 4096 from by omega), ?_⟩
                  intro x22 r_x22 hq
                  have q21_1 := hq
                  replace q21_1 : -1 ≤ x22 ∧ x22 ≤ 1499 := q21_1
                  refine ⟨fun c24 => ?_, fun c24 => ?_⟩
                  ·
                    refine ⟨fun c25 => ?_, fun c25 => ?_⟩
                    ·
                      refine h214 _ _ _ ?_
                      first | (have nn9 : τ37.2.1 9 = σ.2.1 9 := by rw [g9_τ37, g9_τ33, g9_τ30]) | skip
                      first | (have nn3 : τ37.1 3 = σ.1 3 + 1 := by omega) | skip
                      first | (have cn2 : ca (st (τ37.2.1 9) (σ.1 3) n1) (τ37.1 3) = ca (st (σ.2.1 9) (σ.1 3) n1) (σ.1 3 + 1) := by rw [nn9, nn3]) | skip
                      refine ⟨(show 0 ≤ x2 ∧ x2 < 1001 from by omega), ?_⟩
                      refine ⟨(show 0 ≤ n1 ∧ n1 ≤ 1 from by omega), ?_⟩
                      replace hT := mT_a (k := 9) (j := x2) hT (show (0 : Int) ≤ n1 ∧ n1 ≤ 1 from by omega)
                      refine ⟨fun c43 => ?_, fun c43 => ?_⟩
                      ·
                        exact ⟨hT, (show oc (σ.2.1 6) ≤ (σ.1 3) from by omega), (show (σ.1 12) ≤ ca ((st (σ.2.1 9) x2 n1)) (σ.1 3) from by omega), (show j_lt (σ.2.1 6) (σ.1 3) from Y1)⟩
                      ·
                        refine ⟨(show 0 ≤ σ.1 12 ∧ σ.1 12 < 1001 from by omega), ?_⟩
                        replace hT := mT_a (k := 30) (j := (σ.1 12)) hT (show (0 : Int) ≤ x2 ∧ x2 ≤ 999 from by omega)
                        refine ⟨(⟨by omega, by omega⟩ : rg (σ.1 12 + 1)), ?_⟩
                        replace hT := mT_v (i := 12) hT (show 0 ≤ (σ.1 12 + 1) ∧ (σ.1 12 + 1) ≤ 1000 from by omega)
                        exact ⟨hT, (show oc (σ.2.1 6) ≤ (σ.1 3) from by omega), (show ((σ.1 12 + 1)) ≤ ca ((st (σ.2.1 9) x2 n1)) (σ.1 3) from by omega), (show j_lt (σ.2.1 6) (σ.1 3) from Y1)⟩
                    ·
                      refine ⟨(⟨by omega, by omega⟩ : rg (σ.1 3 + 1)), ?_⟩
                      replace hT := mT_v (i := 3) hT (show 0 ≤ (σ.1 3 + 1) ∧ (σ.1 3 + 1) ≤ 1000 from by omega)
                      refine ⟨(show 0 ≤ σ.1 3 ∧ σ.1 3 < 1001 from by omega), ?_⟩
                      replace hT := mT_a (k := 2) (j := (σ.1 3)) hT (show (0 : Int) ≤ (σ.1 2) ∧ (σ.1 2) ≤ 30000 from by omega)
                      replace hT := mT_a (k := 3) (j := (σ.1 3)) hT (show (0 : Int) ≤ (σ.1 18) ∧ (σ.1 18) ≤ 60 from by omega)
                      refine ⟨_, K_X13_keepChars hT (show 0 ≤ (σ.1 17) from by omega) (show 0 ≤ (σ.1 18) from by omega) (show (σ.1 17) + (σ.1 18) ≤ 60000 from by omega) (show (σ.1 2) + (σ.1 18) ≤ 30000 from by omega), ?_⟩
                      intro τ30 hn_τ30 hf_τ30 hq
                      obtain ⟨hT, q28_1⟩ := hq
                      replace q28_1 : (τ30.1 2) = (σ.1 2) + (σ.1 18) := q28_1
                      have w0_τ30 : τ30.1 0 = σ.1 0 := hf_τ30.1 0 (by decide)
                      have w3_τ30 : τ30.1 3 = (σ.1 3 + 1) := hf_τ30.1 3 (by decide)
                      have w12_τ30 : τ30.1 12 = σ.1 12 := hf_τ30.1 12 (by decide)
                      have w17_τ30 : τ30.1 17 = σ.1 17 := hf_τ30.1 17 (by decide)
                      have w18_τ30 : τ30.1 18 = σ.1 18 := hf_τ30.1 18 (by decide)
                      have w20_τ30 : τ30.1 20 = σ.1 20 := hf_τ30.1 20 (by decide)
                      have g6_τ30 : τ30.2.1 6 = σ.2.1 6 := hf_τ30.2.1 6 (by decide)
                      have g7_τ30 : τ30.2.1 7 = σ.2.1 7 := hf_τ30.2.1 7 (by decide)
                      have g9_τ30 : τ30.2.1 9 = σ.2.1 9 := hf_τ30.2.1 9 (by decide)
                      first | (have ca_τ30 := congr (congrArg ca g9_τ30) w3_τ30) | skip
                      first | (have o6_τ30 := congrArg oc g6_τ30) | skip
                      first | (have o7_τ30 := congrArg oc g7_τ30) | skip
                      have W0 : τ30.1 0 = σ.1 0 := by omega
                      have W17 : τ30.1 17 = σ.1 17 := by omega
                      have W18 : τ30.1 18 = σ.1 18 := by omega
                      have G7 : τ30.2.1 7 = σ.2.1 7 := (g7_τ30).trans G7
                      have A6 : ∀ j, (-1) ≤ τ30.2.1 6 j ∧ τ30.2.1 6 j ≤ 999 := fun j => hT.2 6 j
                      have A7 : ∀ j, (-1) ≤ τ30.2.1 7 j ∧ τ30.2.1 7 j ≤ 1499 := fun j => hT.2 7 j
                      have A9 : ∀ j, 0 ≤ τ30.2.1 9 j ∧ τ30.2.1 9 j ≤ 1 := fun j => hT.2 9 j
                      have v0 : 0 ≤ τ30.1 0 ∧ τ30.1 0 ≤ 60000 := hT.1 0
                      have v2 : 0 ≤ τ30.1 2 ∧ τ30.1 2 ≤ 30000 := hT.1 2
                      have v3 : 0 ≤ τ30.1 3 ∧ τ30.1 3 ≤ 1000 := hT.1 3
                      have v12 : 0 ≤ τ30.1 12 ∧ τ30.1 12 ≤ 1000 := hT.1 12
                      have v17 : 0 ≤ τ30.1 17 ∧ τ30.1 17 ≤ 60000 := hT.1 17
                      have v18 : 0 ≤ τ30.1 18 ∧ τ30.1 18 ≤ 60000 := hT.1 18
                      have v20 : 0 ≤ τ30.1 20 ∧ τ30.1 20 ≤ 19 := hT.1 20
                      refine ⟨_, K_X13_keepSymbol hT (show 0 ≤ (σ.1 3) from by omega) (show (σ.1 3) < 1000 from by omega) (show oc (τ30.2.1 6) < 4096 from by omega), ?_⟩
                      intro τ33 hn_τ33 hf_τ33 hq
                      obtain ⟨hT, q31_1, q31_2⟩ := hq
                      replace q31_1 : oc (τ33.2.1 6) ≤ oc (τ30.2.1 6) + 1 := q31_1
                      replace q31_2 : ∃ e : Int, τ33.2.1 6 = st (τ30.2.1 6) e (σ.1 3) := q31_2
                      have w0_τ33 : τ33.1 0 = τ30.1 0 := hf_τ33.1 0 (by decide)
                      have w2_τ33 : τ33.1 2 = τ30.1 2 := hf_τ33.1 2 (by decide)
                      have w3_τ33 : τ33.1 3 = τ30.1 3 := hf_τ33.1 3 (by decide)
                      have w12_τ33 : τ33.1 12 = τ30.1 12 := hf_τ33.1 12 (by decide)
                      have w17_τ33 : τ33.1 17 = τ30.1 17 := hf_τ33.1 17 (by decide)
                      have w18_τ33 : τ33.1 18 = τ30.1 18 := hf_τ33.1 18 (by decide)
                      have w20_τ33 : τ33.1 20 = τ30.1 20 := hf_τ33.1 20 (by decide)
                      have g7_τ33 : τ33.2.1 7 = τ30.2.1 7 := hf_τ33.2.1 7 (by decide)
                      have g9_τ33 : τ33.2.1 9 = τ30.2.1 9 := hf_τ33.2.1 9 (by decide)
                      first | (have ca_τ33 := congr (congrArg ca g9_τ33) w3_τ33) | skip
                      first | (have o6_τ33 := congrArg oc g6_τ33) | skip
                      first | (have o7_τ33 := congrArg oc g7_τ33) | skip
                      have W0 : τ33.1 0 = σ.1 0 := by omega
                      have W17 : τ33.1 17 = σ.1 17 := by omega
                      have W18 : τ33.1 18 = σ.1 18 := by omega
                      have G7 : τ33.2.1 7 = σ.2.1 7 := (g7_τ33).trans G7
                      have A6 : ∀ j, (-1) ≤ τ33.2.1 6 j ∧ τ33.2.1 6 j ≤ 999 := fun j => hT.2 6 j
                      have A7 : ∀ j, (-1) ≤ τ33.2.1 7 j ∧ τ33.2.1 7 j ≤ 1499 := fun j => hT.2 7 j
                      have A9 : ∀ j, 0 ≤ τ33.2.1 9 j ∧ τ33.2.1 9 j ≤ 1 := fun j => hT.2 9 j
                      have v0 : 0 ≤ τ33.1 0 ∧ τ33.1 0 ≤ 60000 := hT.1 0
                      have v2 : 0 ≤ τ33.1 2 ∧ τ33.1 2 ≤ 30000 := hT.1 2
                      have v3 : 0 ≤ τ33.1 3 ∧ τ33.1 3 ≤ 1000 := hT.1 3
                      have v12 : 0 ≤ τ33.1 12 ∧ τ33.1 12 ≤ 1000 := hT.1 12
                      have v17 : 0 ≤ τ33.1 17 ∧ τ33.1 17 ≤ 60000 := hT.1 17
                      have v18 : 0 ≤ τ33.1 18 ∧ τ33.1 18 ≤ 60000 := hT.1 18
                      have v20 : 0 ≤ τ33.1 20 ∧ τ33.1 20 ≤ 19 := hT.1 20
                      refine ⟨(show 0 ≤ n1 ∧ n1 ≤ 1 from by omega), ?_⟩
                      replace hT := mT_a (k := 8) (j := (σ.1 3)) hT (show (0 : Int) ≤ n1 ∧ n1 ≤ 1 from by omega)
                      replace hT := mT_a (k := 10) (j := (σ.1 3)) hT (show (-1 : Int) ≤ (-1) ∧ (-1) ≤ 999 from by omega)
                      replace hT := mT_a (k := 11) (j := (σ.1 3)) hT (show (-1 : Int) ≤ (-1) ∧ (-1) ≤ 1499 from by omega)
                      replace hT := mT_a (k := 12) (j := (σ.1 3)) hT (show (0 : Int) ≤ 0 ∧ 0 ≤ 1 from by omega)
                      have cn := ca_n (σ.2.1 9) ((σ.1 3)) n1 (by omega)
                      have cb3 := ca_b (st (σ.2.1 9) ((σ.1 3)) n1) (n := (σ.1 3) + 1) (by omega)
                      refine ⟨_, K_X13_markNamed hT (show 0 ≤ (σ.1 3) from by omega) (show (σ.1 3) < 1000 from by omega), ?_⟩
                      intro τ37 hn_τ37 hf_τ37 hq
                      replace hT := hq
                      have w0_τ37 : τ37.1 0 = τ33.1 0 := hf_τ37.1 0 (by decide)
                      have w2_τ37 : τ37.1 2 = τ33.1 2 := hf_τ37.1 2 (by decide)
                      have w3_τ37 : τ37.1 3 = τ33.1 3 := hf_τ37.1 3 (by decide)
                      have w12_τ37 : τ37.1 12 = τ33.1 12 := hf_τ37.1 12 (by decide)
                      have w17_τ37 : τ37.1 17 = τ33.1 17 := hf_τ37.1 17 (by decide)
                      have w18_τ37 : τ37.1 18 = τ33.1 18 := hf_τ37.1 18 (by decide)
                      have w20_τ37 : τ37.1 20 = τ33.1 20 := hf_τ37.1 20 (by decide)
                      have g6_τ37 : τ37.2.1 6 = τ33.2.1 6 := hf_τ37.2.1 6 (by decide)
                      have g7_τ37 : τ37.2.1 7 = τ33.2.1 7 := hf_τ37.2.1 7 (by decide)
                      have g9_τ37 : τ37.2.1 9 = τ33.2.1 9 := hf_τ37.2.1 9 (by decide)
                      first | (have ca_τ37 := congr (congrArg ca g9_τ37) w3_τ37) | skip
                      first | (have o6_τ37 := congrArg oc g6_τ37) | skip
                      first | (have o7_τ37 := congrArg oc g7_τ37) | skip
                      have W0 : τ37.1 0 = σ.1 0 := by omega
                      have W17 : τ37.1 17 = σ.1 17 := by omega
                      have W18 : τ37.1 18 = σ.1 18 := by omega
                      have G7 : τ37.2.1 7 = σ.2.1 7 := (g7_τ37).trans G7
                      have A6 : ∀ j, (-1) ≤ τ37.2.1 6 j ∧ τ37.2.1 6 j ≤ 999 := fun j => hT.2 6 j
                      have A7 : ∀ j, (-1) ≤ τ37.2.1 7 j ∧ τ37.2.1 7 j ≤ 1499 := fun j => hT.2 7 j
                      have A9 : ∀ j, 0 ≤ τ37.2.1 9 j ∧ τ37.2.1 9 j ≤ 1 := fun j => hT.2 9 j
                      have v0 : 0 ≤ τ37.1 0 ∧ τ37.1 0 ≤ 60000 := hT.1 0
                      have v2 : 0 ≤ τ37.1 2 ∧ τ37.1 2 ≤ 30000 := hT.1 2
                      have v3 : 0 ≤ τ37.1 3 ∧ τ37.1 3 ≤ 1000 := hT.1 3
                      have v12 : 0 ≤ τ37.1 12 ∧ τ37.1 12 ≤ 1000 := hT.1 12
                      have v17 : 0 ≤ τ37.1 17 ∧ τ37.1 17 ≤ 60000 := hT.1 17
                      have v18 : 0 ≤ τ37.1 18 ∧ τ37.1 18 ≤ 60000 := hT.1 18
                      have v20 : 0 ≤ τ37.1 20 ∧ τ37.1 20 ≤ 19 := hT.1 20
                      refine h214 _ _ _ ?_
                      first | (have nn9 : τ37.2.1 9 = σ.2.1 9 := by rw [g9_τ37, g9_τ33, g9_τ30]) | skip
                      first | (have nn3 : τ37.1 3 = σ.1 3 + 1 := by omega) | skip
                      first | (have cn2 : ca (st (τ37.2.1 9) (σ.1 3) n1) (τ37.1 3) = ca (st (σ.2.1 9) (σ.1 3) n1) (σ.1 3 + 1) := by rw [nn9, nn3]) | skip
                      refine ⟨(show 0 ≤ (σ.1 3) ∧ (σ.1 3) < 1001 from by omega), ?_⟩
                      refine ⟨(show 0 ≤ n1 ∧ n1 ≤ 1 from by omega), ?_⟩
                      replace hT := mT_a (k := 9) (j := (σ.1 3)) hT (show (0 : Int) ≤ n1 ∧ n1 ≤ 1 from by omega)
                      refine ⟨fun c43 => ?_, fun c43 => ?_⟩
                      ·
                        exact ⟨hT, (show oc (τ37.2.1 6) ≤ (τ37.1 3) from by omega), (show (τ37.1 12) ≤ ca ((st (τ37.2.1 9) (σ.1 3) n1)) (τ37.1 3) from by omega), (show j_lt (τ37.2.1 6) (τ37.1 3) from by (intro e; first | exact p6 e | (rw [g6_τ12, w3_τ12]; exact p6 e) | (rw [g6_τ40, w3_τ40]; exact p6 e) | (obtain ⟨ee, he⟩ := q31_2; rw [g6_τ37, he]; unfold st; split; omega; have := p6 e; rw [g6_τ30]; omega)))⟩
                      ·
                        refine ⟨(show 0 ≤ τ37.1 12 ∧ τ37.1 12 < 1001 from by omega), ?_⟩
                        replace hT := mT_a (k := 30) (j := (τ37.1 12)) hT (show (0 : Int) ≤ (σ.1 3) ∧ (σ.1 3) ≤ 999 from by omega)
                        refine ⟨(⟨by omega, by omega⟩ : rg (τ37.1 12 + 1)), ?_⟩
                        replace hT := mT_v (i := 12) hT (show 0 ≤ (τ37.1 12 + 1) ∧ (τ37.1 12 + 1) ≤ 1000 from by omega)
                        exact ⟨hT, (show oc (τ37.2.1 6) ≤ (τ37.1 3) from by omega), (show ((τ37.1 12 + 1)) ≤ ca ((st (τ37.2.1 9) (σ.1 3) n1)) (τ37.1 3) from by omega), (show j_lt (τ37.2.1 6) (τ37.1 3) from by (intro e; first | exact p6 e | (rw [g6_τ12, w3_τ12]; exact p6 e) | (rw [g6_τ40, w3_τ40]; exact p6 e) | (obtain ⟨ee, he⟩ := q31_2; rw [g6_τ37, he]; unfold st; split; omega; have := p6 e; rw [g6_τ30]; omega)))⟩
                  ·
                    refine h118 _ ?_
                    refine ⟨_, K_X13_failHere hT (show 0 ≤ 7 from by omega) (show 7 ≤ 19 from by omega), ?_⟩
                    intro τ40 hn_τ40 hf_τ40 hq
                    obtain ⟨hT, q38_1, q38_2⟩ := hq
                    replace q38_1 : ¬ (σ.1 20) = 0 → (τ40.1 20) = (σ.1 20) := q38_1
                    replace q38_2 : (σ.1 20) = 0 → (τ40.1 20) = 7 := q38_2
                    have w0_τ40 : τ40.1 0 = σ.1 0 := hf_τ40.1 0 (by decide)
                    have w2_τ40 : τ40.1 2 = σ.1 2 := hf_τ40.1 2 (by decide)
                    have w3_τ40 : τ40.1 3 = σ.1 3 := hf_τ40.1 3 (by decide)
                    have w12_τ40 : τ40.1 12 = σ.1 12 := hf_τ40.1 12 (by decide)
                    have w17_τ40 : τ40.1 17 = σ.1 17 := hf_τ40.1 17 (by decide)
                    have w18_τ40 : τ40.1 18 = σ.1 18 := hf_τ40.1 18 (by decide)
                    have g6_τ40 : τ40.2.1 6 = σ.2.1 6 := hf_τ40.2.1 6 (by decide)
                    have g7_τ40 : τ40.2.1 7 = σ.2.1 7 := hf_τ40.2.1 7 (by decide)
                    have g9_τ40 : τ40.2.1 9 = σ.2.1 9 := hf_τ40.2.1 9 (by decide)
                    first | (have ca_τ40 := congr (congrArg ca g9_τ40) w3_τ40) | skip
                    first | (have o6_τ40 := congrArg oc g6_τ40) | skip
                    first | (have o7_τ40 := congrArg oc g7_τ40) | skip
                    have W0 : τ40.1 0 = σ.1 0 := by omega
                    have W17 : τ40.1 17 = σ.1 17 := by omega
                    have W18 : τ40.1 18 = σ.1 18 := by omega
                    have G7 : τ40.2.1 7 = σ.2.1 7 := (g7_τ40).trans G7
                    have Y1 : j_lt (τ40.2.1 6) (τ40.1 3) := by rw [show (j_lt (τ40.2.1 6) (τ40.1 3)) = (j_lt (σ.2.1 6) (σ.1 3)) from by rw [w3_τ40, g6_τ40]]; exact Y1
                    have A6 : ∀ j, (-1) ≤ τ40.2.1 6 j ∧ τ40.2.1 6 j ≤ 999 := fun j => hT.2 6 j
                    have A7 : ∀ j, (-1) ≤ τ40.2.1 7 j ∧ τ40.2.1 7 j ≤ 1499 := fun j => hT.2 7 j
                    have A9 : ∀ j, 0 ≤ τ40.2.1 9 j ∧ τ40.2.1 9 j ≤ 1 := fun j => hT.2 9 j
                    have v0 : 0 ≤ τ40.1 0 ∧ τ40.1 0 ≤ 60000 := hT.1 0
                    have v2 : 0 ≤ τ40.1 2 ∧ τ40.1 2 ≤ 30000 := hT.1 2
                    have v3 : 0 ≤ τ40.1 3 ∧ τ40.1 3 ≤ 1000 := hT.1 3
                    have v12 : 0 ≤ τ40.1 12 ∧ τ40.1 12 ≤ 1000 := hT.1 12
                    have v17 : 0 ≤ τ40.1 17 ∧ τ40.1 17 ≤ 60000 := hT.1 17
                    have v18 : 0 ≤ τ40.1 18 ∧ τ40.1 18 ≤ 60000 := hT.1 18
                    have v20 : 0 ≤ τ40.1 20 ∧ τ40.1 20 ≤ 19 := hT.1 20
                    exact ⟨hT, (show oc (τ40.2.1 6) ≤ (τ40.1 3) from by omega), (show (τ40.1 12) ≤ ca (τ40.2.1 9) (τ40.1 3) from by omega), (show j_lt (τ40.2.1 6) (τ40.1 3) from Y1)⟩
      ·
        refine ⟨(⟨by omega, by omega⟩ : rg (σ.1 2 + σ.1 18)), ?_⟩
        refine ⟨fun c8 => ?_, fun c8 => ?_⟩
        ·
          refine h54 _ ?_
          refine ⟨_, K_X13_failHere hT (show 0 ≤ 5 from by omega) (show 5 ≤ 19 from by omega), ?_⟩
          intro τ12 hn_τ12 hf_τ12 hq
          obtain ⟨hT, q10_1, q10_2⟩ := hq
          replace q10_1 : ¬ (σ.1 20) = 0 → (τ12.1 20) = (σ.1 20) := q10_1
          replace q10_2 : (σ.1 20) = 0 → (τ12.1 20) = 5 := q10_2
          have w0_τ12 : τ12.1 0 = σ.1 0 := hf_τ12.1 0 (by decide)
          have w2_τ12 : τ12.1 2 = σ.1 2 := hf_τ12.1 2 (by decide)
          have w3_τ12 : τ12.1 3 = σ.1 3 := hf_τ12.1 3 (by decide)
          have w12_τ12 : τ12.1 12 = σ.1 12 := hf_τ12.1 12 (by decide)
          have w17_τ12 : τ12.1 17 = σ.1 17 := hf_τ12.1 17 (by decide)
          have w18_τ12 : τ12.1 18 = σ.1 18 := hf_τ12.1 18 (by decide)
          have g6_τ12 : τ12.2.1 6 = σ.2.1 6 := hf_τ12.2.1 6 (by decide)
          have g7_τ12 : τ12.2.1 7 = σ.2.1 7 := hf_τ12.2.1 7 (by decide)
          have g9_τ12 : τ12.2.1 9 = σ.2.1 9 := hf_τ12.2.1 9 (by decide)
          first | (have ca_τ12 := congr (congrArg ca g9_τ12) w3_τ12) | skip
          first | (have o6_τ12 := congrArg oc g6_τ12) | skip
          first | (have o7_τ12 := congrArg oc g7_τ12) | skip
          have W0 : τ12.1 0 = σ.1 0 := by omega
          have W17 : τ12.1 17 = σ.1 17 := by omega
          have W18 : τ12.1 18 = σ.1 18 := by omega
          have G7 : τ12.2.1 7 = σ.2.1 7 := (g7_τ12).trans G7
          have Y1 : j_lt (τ12.2.1 6) (τ12.1 3) := by rw [show (j_lt (τ12.2.1 6) (τ12.1 3)) = (j_lt (σ.2.1 6) (σ.1 3)) from by rw [w3_τ12, g6_τ12]]; exact Y1
          have A6 : ∀ j, (-1) ≤ τ12.2.1 6 j ∧ τ12.2.1 6 j ≤ 999 := fun j => hT.2 6 j
          have A7 : ∀ j, (-1) ≤ τ12.2.1 7 j ∧ τ12.2.1 7 j ≤ 1499 := fun j => hT.2 7 j
          have A9 : ∀ j, 0 ≤ τ12.2.1 9 j ∧ τ12.2.1 9 j ≤ 1 := fun j => hT.2 9 j
          have v0 : 0 ≤ τ12.1 0 ∧ τ12.1 0 ≤ 60000 := hT.1 0
          have v2 : 0 ≤ τ12.1 2 ∧ τ12.1 2 ≤ 30000 := hT.1 2
          have v3 : 0 ≤ τ12.1 3 ∧ τ12.1 3 ≤ 1000 := hT.1 3
          have v12 : 0 ≤ τ12.1 12 ∧ τ12.1 12 ≤ 1000 := hT.1 12
          have v17 : 0 ≤ τ12.1 17 ∧ τ12.1 17 ≤ 60000 := hT.1 17
          have v18 : 0 ≤ τ12.1 18 ∧ τ12.1 18 ≤ 60000 := hT.1 18
          have v20 : 0 ≤ τ12.1 20 ∧ τ12.1 20 ≤ 19 := hT.1 20
          exact ⟨hT, (show oc (τ12.2.1 6) ≤ (τ12.1 3) from by omega), (show (τ12.1 12) ≤ ca (τ12.2.1 9) (τ12.1 3) from by omega), (show j_lt (τ12.2.1 6) (τ12.1 3) from Y1)⟩
        ·
          refine ⟨fun c9 => ?_, fun c9 => ?_⟩
          ·
            refine h60 _ _ _ _ ?_
            refine ⟨fun c13 => ?_, fun c13 => ?_⟩
            ·
              refine h91 _ _ _ _ _ ?_
              refine ⟨fun c20 => ?_, fun c20 => ?_⟩
              ·
                refine h118 _ ?_
                refine ⟨_, K_X13_failHere hT (show 0 ≤ 7 from by omega) (show 7 ≤ 19 from by omega), ?_⟩
                intro τ40 hn_τ40 hf_τ40 hq
                obtain ⟨hT, q38_1, q38_2⟩ := hq
                replace q38_1 : ¬ (σ.1 20) = 0 → (τ40.1 20) = (σ.1 20) := q38_1
                replace q38_2 : (σ.1 20) = 0 → (τ40.1 20) = 7 := q38_2
                have w0_τ40 : τ40.1 0 = σ.1 0 := hf_τ40.1 0 (by decide)
                have w2_τ40 : τ40.1 2 = σ.1 2 := hf_τ40.1 2 (by decide)
                have w3_τ40 : τ40.1 3 = σ.1 3 := hf_τ40.1 3 (by decide)
                have w12_τ40 : τ40.1 12 = σ.1 12 := hf_τ40.1 12 (by decide)
                have w17_τ40 : τ40.1 17 = σ.1 17 := hf_τ40.1 17 (by decide)
                have w18_τ40 : τ40.1 18 = σ.1 18 := hf_τ40.1 18 (by decide)
                have g6_τ40 : τ40.2.1 6 = σ.2.1 6 := hf_τ40.2.1 6 (by decide)
                have g7_τ40 : τ40.2.1 7 = σ.2.1 7 := hf_τ40.2.1 7 (by decide)
                have g9_τ40 : τ40.2.1 9 = σ.2.1 9 := hf_τ40.2.1 9 (by decide)
                first | (have ca_τ40 := congr (congrArg ca g9_τ40) w3_τ40) | skip
                first | (have o6_τ40 := congrArg oc g6_τ40) | skip
                first | (have o7_τ40 := congrArg oc g7_τ40) | skip
                have W0 : τ40.1 0 = σ.1 0 := by omega
                have W17 : τ40.1 17 = σ.1 17 := by omega
                have W18 : τ40.1 18 = σ.1 18 := by omega
                have G7 : τ40.2.1 7 = σ.2.1 7 := (g7_τ40).trans G7
                have Y1 : j_lt (τ40.2.1 6) (τ40.1 3) := by rw [show (j_lt (τ40.2.1 6) (τ40.1 3)) = (j_lt (σ.2.1 6) (σ.1 3)) from by rw [w3_τ40, g6_τ40]]; exact Y1
                have A6 : ∀ j, (-1) ≤ τ40.2.1 6 j ∧ τ40.2.1 6 j ≤ 999 := fun j => hT.2 6 j
                have A7 : ∀ j, (-1) ≤ τ40.2.1 7 j ∧ τ40.2.1 7 j ≤ 1499 := fun j => hT.2 7 j
                have A9 : ∀ j, 0 ≤ τ40.2.1 9 j ∧ τ40.2.1 9 j ≤ 1 := fun j => hT.2 9 j
                have v0 : 0 ≤ τ40.1 0 ∧ τ40.1 0 ≤ 60000 := hT.1 0
                have v2 : 0 ≤ τ40.1 2 ∧ τ40.1 2 ≤ 30000 := hT.1 2
                have v3 : 0 ≤ τ40.1 3 ∧ τ40.1 3 ≤ 1000 := hT.1 3
                have v12 : 0 ≤ τ40.1 12 ∧ τ40.1 12 ≤ 1000 := hT.1 12
                have v17 : 0 ≤ τ40.1 17 ∧ τ40.1 17 ≤ 60000 := hT.1 17
                have v18 : 0 ≤ τ40.1 18 ∧ τ40.1 18 ≤ 60000 := hT.1 18
                have v20 : 0 ≤ τ40.1 20 ∧ τ40.1 20 ≤ 19 := hT.1 20
                exact ⟨hT, (show oc (τ40.2.1 6) ≤ (τ40.1 3) from by omega), (show (τ40.1 12) ≤ ca (τ40.2.1 9) (τ40.1 3) from by omega), (show j_lt (τ40.2.1 6) (τ40.1 3) from Y1)⟩
              ·
                refine ⟨_, K_X13_findLabel_q1 hT (show 0 ≤ (σ.1 17) from by omega) (show (σ.1 17) + (σ.1 18) ≤ 60000 from by omega) (show oc (σ.2.1 7) < 4096 from by omega), ?_⟩
                intro x22 r_x22 hq
                have q21_1 := hq
                replace q21_1 : -1 ≤ x22 ∧ x22 ≤ 1499 := q21_1
                refine ⟨fun c24 => ?_, fun c24 => ?_⟩
                ·
                  refine ⟨fun c25 => ?_, fun c25 => ?_⟩
                  ·
                    refine h214 _ _ _ ?_
                    first | (have nn9 : τ37.2.1 9 = σ.2.1 9 := by rw [g9_τ37, g9_τ33, g9_τ30]) | skip
                    first | (have nn3 : τ37.1 3 = σ.1 3 + 1 := by omega) | skip
                    first | (have cn2 : ca (st (τ37.2.1 9) (σ.1 3) n1) (τ37.1 3) = ca (st (σ.2.1 9) (σ.1 3) n1) (σ.1 3 + 1) := by rw [nn9, nn3]) | skip
                    refine ⟨(show 0 ≤ x2 ∧ x2 < 1001 from by omega), ?_⟩
                    refine ⟨(show 0 ≤ n1 ∧ n1 ≤ 1 from by omega), ?_⟩
                    replace hT := mT_a (k := 9) (j := x2) hT (show (0 : Int) ≤ n1 ∧ n1 ≤ 1 from by omega)
                    refine ⟨fun c43 => ?_, fun c43 => ?_⟩
                    ·
                      exact ⟨hT, (show oc (σ.2.1 6) ≤ (σ.1 3) from by omega), (show (σ.1 12) ≤ ca ((st (σ.2.1 9) x2 n1)) (σ.1 3) from by omega), (show j_lt (σ.2.1 6) (σ.1 3) from Y1)⟩
                    ·
                      refine ⟨(show 0 ≤ σ.1 12 ∧ σ.1 12 < 1001 from by omega), ?_⟩
                      replace hT := mT_a (k := 30) (j := (σ.1 12)) hT (show (0 : Int) ≤ x2 ∧ x2 ≤ 999 from by omega)
                      refine ⟨(⟨by omega, by omega⟩ : rg (σ.1 12 + 1)), ?_⟩
                      replace hT := mT_v (i := 12) hT (show 0 ≤ (σ.1 12 + 1) ∧ (σ.1 12 + 1) ≤ 1000 from by omega)
                      exact ⟨hT, (show oc (σ.2.1 6) ≤ (σ.1 3) from by omega), (show ((σ.1 12 + 1)) ≤ ca ((st (σ.2.1 9) x2 n1)) (σ.1 3) from by omega), (show j_lt (σ.2.1 6) (σ.1 3) from Y1)⟩
                  ·
                    refine ⟨(⟨by omega, by omega⟩ : rg (σ.1 3 + 1)), ?_⟩
                    replace hT := mT_v (i := 3) hT (show 0 ≤ (σ.1 3 + 1) ∧ (σ.1 3 + 1) ≤ 1000 from by omega)
                    refine ⟨(show 0 ≤ σ.1 3 ∧ σ.1 3 < 1001 from by omega), ?_⟩
                    replace hT := mT_a (k := 2) (j := (σ.1 3)) hT (show (0 : Int) ≤ (σ.1 2) ∧ (σ.1 2) ≤ 30000 from by omega)
                    replace hT := mT_a (k := 3) (j := (σ.1 3)) hT (show (0 : Int) ≤ (σ.1 18) ∧ (σ.1 18) ≤ 60 from by omega)
                    refine ⟨_, K_X13_keepChars hT (show 0 ≤ (σ.1 17) from by omega) (show 0 ≤ (σ.1 18) from by omega) (show (σ.1 17) + (σ.1 18) ≤ 60000 from by omega) (show (σ.1 2) + (σ.1 18) ≤ 30000 from by omega), ?_⟩
                    intro τ30 hn_τ30 hf_τ30 hq
                    obtain ⟨hT, q28_1⟩ := hq
                    replace q28_1 : (τ30.1 2) = (σ.1 2) + (σ.1 18) := q28_1
                    have w0_τ30 : τ30.1 0 = σ.1 0 := hf_τ30.1 0 (by decide)
                    have w3_τ30 : τ30.1 3 = (σ.1 3 + 1) := hf_τ30.1 3 (by decide)
                    have w12_τ30 : τ30.1 12 = σ.1 12 := hf_τ30.1 12 (by decide)
                    have w17_τ30 : τ30.1 17 = σ.1 17 := hf_τ30.1 17 (by decide)
                    have w18_τ30 : τ30.1 18 = σ.1 18 := hf_τ30.1 18 (by decide)
                    have w20_τ30 : τ30.1 20 = σ.1 20 := hf_τ30.1 20 (by decide)
                    have g6_τ30 : τ30.2.1 6 = σ.2.1 6 := hf_τ30.2.1 6 (by decide)
                    have g7_τ30 : τ30.2.1 7 = σ.2.1 7 := hf_τ30.2.1 7 (by decide)
                    have g9_τ30 : τ30.2.1 9 = σ.2.1 9 := hf_τ30.2.1 9 (by decide)
                    first | (have ca_τ30 := congr (congrArg ca g9_τ30) w3_τ30) | skip
                    first | (have o6_τ30 := congrArg oc g6_τ30) | skip
                    first | (have o7_τ30 := congrArg oc g7_τ30) | skip
                    have W0 : τ30.1 0 = σ.1 0 := by omega
                    have W17 : τ30.1 17 = σ.1 17 := by omega
                    have W18 : τ30.1 18 = σ.1 18 := by omega
                    have G7 : τ30.2.1 7 = σ.2.1 7 := (g7_τ30).trans G7
                    have A6 : ∀ j, (-1) ≤ τ30.2.1 6 j ∧ τ30.2.1 6 j ≤ 999 := fun j => hT.2 6 j
                    have A7 : ∀ j, (-1) ≤ τ30.2.1 7 j ∧ τ30.2.1 7 j ≤ 1499 := fun j => hT.2 7 j
                    have A9 : ∀ j, 0 ≤ τ30.2.1 9 j ∧ τ30.2.1 9 j ≤ 1 := fun j => hT.2 9 j
                    have v0 : 0 ≤ τ30.1 0 ∧ τ30.1 0 ≤ 60000 := hT.1 0
                    have v2 : 0 ≤ τ30.1 2 ∧ τ30.1 2 ≤ 30000 := hT.1 2
                    have v3 : 0 ≤ τ30.1 3 ∧ τ30.1 3 ≤ 1000 := hT.1 3
                    have v12 : 0 ≤ τ30.1 12 ∧ τ30.1 12 ≤ 1000 := hT.1 12
                    have v17 : 0 ≤ τ30.1 17 ∧ τ30.1 17 ≤ 60000 := hT.1 17
                    have v18 : 0 ≤ τ30.1 18 ∧ τ30.1 18 ≤ 60000 := hT.1 18
                    have v20 : 0 ≤ τ30.1 20 ∧ τ30.1 20 ≤ 19 := hT.1 20
                    refine ⟨_, K_X13_keepSymbol hT (show 0 ≤ (σ.1 3) from by omega) (show (σ.1 3) < 1000 from by omega) (show oc (τ30.2.1 6) < 4096 from by omega), ?_⟩
                    intro τ33 hn_τ33 hf_τ33 hq
                    obtain ⟨hT, q31_1, q31_2⟩ := hq
                    replace q31_1 : oc (τ33.2.1 6) ≤ oc (τ30.2.1 6) + 1 := q31_1
                    replace q31_2 : ∃ e : Int, τ33.2.1 6 = st (τ30.2.1 6) e (σ.1 3) := q31_2
                    have w0_τ33 : τ33.1 0 = τ30.1 0 := hf_τ33.1 0 (by decide)
                    have w2_τ33 : τ33.1 2 = τ30.1 2 := hf_τ33.1 2 (by decide)
                    have w3_τ33 : τ33.1 3 = τ30.1 3 := hf_τ33.1 3 (by decide)
                    have w12_τ33 : τ33.1 12 = τ30.1 12 := hf_τ33.1 12 (by decide)
                    have w17_τ33 : τ33.1 17 = τ30.1 17 := hf_τ33.1 17 (by decide)
                    have w18_τ33 : τ33.1 18 = τ30.1 18 := hf_τ33.1 18 (by decide)
                    have w20_τ33 : τ33.1 20 = τ30.1 20 := hf_τ33.1 20 (by decide)
                    have g7_τ33 : τ33.2.1 7 = τ30.2.1 7 := hf_τ33.2.1 7 (by decide)
                    have g9_τ33 : τ33.2.1 9 = τ30.2.1 9 := hf_τ33.2.1 9 (by decide)
                    first | (have ca_τ33 := congr (congrArg ca g9_τ33) w3_τ33) | skip
                    first | (have o6_τ33 := congrArg oc g6_τ33) | skip
                    first | (have o7_τ33 := congrArg oc g7_τ33) | skip
                    have W0 : τ33.1 0 = σ.1 0 := by omega
                    have W17 : τ33.1 17 = σ.1 17 := by omega
                    have W18 : τ33.1 18 = σ.1 18 := by omega
                    have G7 : τ33.2.1 7 = σ.2.1 7 := (g7_τ33).trans G7
                    have A6 : ∀ j, (-1) ≤ τ33.2.1 6 j ∧ τ33.2.1 6 j ≤ 999 := fun j => hT.2 6 j
                    have A7 : ∀ j, (-1) ≤ τ33.2.1 7 j ∧ τ33.2.1 7 j ≤ 1499 := fun j => hT.2 7 j
                    have A9 : ∀ j, 0 ≤ τ33.2.1 9 j ∧ τ33.2.1 9 j ≤ 1 := fun j => hT.2 9 j
                    have v0 : 0 ≤ τ33.1 0 ∧ τ33.1 0 ≤ 60000 := hT.1 0
                    have v2 : 0 ≤ τ33.1 2 ∧ τ33.1 2 ≤ 30000 := hT.1 2
                    have v3 : 0 ≤ τ33.1 3 ∧ τ33.1 3 ≤ 1000 := hT.1 3
                    have v12 : 0 ≤ τ33.1 12 ∧ τ33.1 12 ≤ 1000 := hT.1 12
                    have v17 : 0 ≤ τ33.1 17 ∧ τ33.1 17 ≤ 60000 := hT.1 17
                    have v18 : 0 ≤ τ33.1 18 ∧ τ33.1 18 ≤ 60000 := hT.1 18
                    have v20 : 0 ≤ τ33.1 20 ∧ τ33.1 20 ≤ 19 := hT.1 20
                    refine ⟨(show 0 ≤ n1 ∧ n1 ≤ 1 from by omega), ?_⟩
                    replace hT := mT_a (k := 8) (j := (σ.1 3)) hT (show (0 : Int) ≤ n1 ∧ n1 ≤ 1 from by omega)
                    replace hT := mT_a (k := 10) (j := (σ.1 3)) hT (show (-1 : Int) ≤ (-1) ∧ (-1) ≤ 999 from by omega)
                    replace hT := mT_a (k := 11) (j := (σ.1 3)) hT (show (-1 : Int) ≤ (-1) ∧ (-1) ≤ 1499 from by omega)
                    replace hT := mT_a (k := 12) (j := (σ.1 3)) hT (show (0 : Int) ≤ 0 ∧ 0 ≤ 1 from by omega)
                    have cn := ca_n (σ.2.1 9) ((σ.1 3)) n1 (by omega)
                    have cb3 := ca_b (st (σ.2.1 9) ((σ.1 3)) n1) (n := (σ.1 3) + 1) (by omega)
                    refine ⟨_, K_X13_markNamed hT (show 0 ≤ (σ.1 3) from by omega) (show (σ.1 3) < 1000 from by omega), ?_⟩
                    intro τ37 hn_τ37 hf_τ37 hq
                    replace hT := hq
                    have w0_τ37 : τ37.1 0 = τ33.1 0 := hf_τ37.1 0 (by decide)
                    have w2_τ37 : τ37.1 2 = τ33.1 2 := hf_τ37.1 2 (by decide)
                    have w3_τ37 : τ37.1 3 = τ33.1 3 := hf_τ37.1 3 (by decide)
                    have w12_τ37 : τ37.1 12 = τ33.1 12 := hf_τ37.1 12 (by decide)
                    have w17_τ37 : τ37.1 17 = τ33.1 17 := hf_τ37.1 17 (by decide)
                    have w18_τ37 : τ37.1 18 = τ33.1 18 := hf_τ37.1 18 (by decide)
                    have w20_τ37 : τ37.1 20 = τ33.1 20 := hf_τ37.1 20 (by decide)
                    have g6_τ37 : τ37.2.1 6 = τ33.2.1 6 := hf_τ37.2.1 6 (by decide)
                    have g7_τ37 : τ37.2.1 7 = τ33.2.1 7 := hf_τ37.2.1 7 (by decide)
                    have g9_τ37 : τ37.2.1 9 = τ33.2.1 9 := hf_τ37.2.1 9 (by decide)
                    first | (have ca_τ37 := congr (congrArg ca g9_τ37) w3_τ37) | skip
                    first | (have o6_τ37 := congrArg oc g6_τ37) | skip
                    first | (have o7_τ37 := congrArg oc g7_τ37) | skip
                    have W0 : τ37.1 0 = σ.1 0 := by omega
                    have W17 : τ37.1 17 = σ.1 17 := by omega
                    have W18 : τ37.1 18 = σ.1 18 := by omega
                    have G7 : τ37.2.1 7 = σ.2.1 7 := (g7_τ37).trans G7
                    have A6 : ∀ j, (-1) ≤ τ37.2.1 6 j ∧ τ37.2.1 6 j ≤ 999 := fun j => hT.2 6 j
                    have A7 : ∀ j, (-1) ≤ τ37.2.1 7 j ∧ τ37.2.1 7 j ≤ 1499 := fun j => hT.2 7 j
                    have A9 : ∀ j, 0 ≤ τ37.2.1 9 j ∧ τ37.2.1 9 j ≤ 1 := fun j => hT.2 9 j
                    have v0 : 0 ≤ τ37.1 0 ∧ τ37.1 0 ≤ 60000 := hT.1 0
                    have v2 : 0 ≤ τ37.1 2 ∧ τ37.1 2 ≤ 30000 := hT.1 2
                    have v3 : 0 ≤ τ37.1 3 ∧ τ37.1 3 ≤ 1000 := hT.1 3
                    have v12 : 0 ≤ τ37.1 12 ∧ τ37.1 12 ≤ 1000 := hT.1 12
                    have v17 : 0 ≤ τ37.1 17 ∧ τ37.1 17 ≤ 60000 := hT.1 17
                    have v18 : 0 ≤ τ37.1 18 ∧ τ37.1 18 ≤ 60000 := hT.1 18
                    have v20 : 0 ≤ τ37.1 20 ∧ τ37.1 20 ≤ 19 := hT.1 20
                    refine h214 _ _ _ ?_
                    first | (have nn9 : τ37.2.1 9 = σ.2.1 9 := by rw [g9_τ37, g9_τ33, g9_τ30]) | skip
                    first | (have nn3 : τ37.1 3 = σ.1 3 + 1 := by omega) | skip
                    first | (have cn2 : ca (st (τ37.2.1 9) (σ.1 3) n1) (τ37.1 3) = ca (st (σ.2.1 9) (σ.1 3) n1) (σ.1 3 + 1) := by rw [nn9, nn3]) | skip
                    refine ⟨(show 0 ≤ (σ.1 3) ∧ (σ.1 3) < 1001 from by omega), ?_⟩
                    refine ⟨(show 0 ≤ n1 ∧ n1 ≤ 1 from by omega), ?_⟩
                    replace hT := mT_a (k := 9) (j := (σ.1 3)) hT (show (0 : Int) ≤ n1 ∧ n1 ≤ 1 from by omega)
                    refine ⟨fun c43 => ?_, fun c43 => ?_⟩
                    ·
                      exact ⟨hT, (show oc (τ37.2.1 6) ≤ (τ37.1 3) from by omega), (show (τ37.1 12) ≤ ca ((st (τ37.2.1 9) (σ.1 3) n1)) (τ37.1 3) from by omega), (show j_lt (τ37.2.1 6) (τ37.1 3) from by (intro e; first | exact p6 e | (rw [g6_τ12, w3_τ12]; exact p6 e) | (rw [g6_τ40, w3_τ40]; exact p6 e) | (obtain ⟨ee, he⟩ := q31_2; rw [g6_τ37, he]; unfold st; split; omega; have := p6 e; rw [g6_τ30]; omega)))⟩
                    ·
                      refine ⟨(show 0 ≤ τ37.1 12 ∧ τ37.1 12 < 1001 from by omega), ?_⟩
                      replace hT := mT_a (k := 30) (j := (τ37.1 12)) hT (show (0 : Int) ≤ (σ.1 3) ∧ (σ.1 3) ≤ 999 from by omega)
                      refine ⟨(⟨by omega, by omega⟩ : rg (τ37.1 12 + 1)), ?_⟩
                      replace hT := mT_v (i := 12) hT (show 0 ≤ (τ37.1 12 + 1) ∧ (τ37.1 12 + 1) ≤ 1000 from by omega)
                      exact ⟨hT, (show oc (τ37.2.1 6) ≤ (τ37.1 3) from by omega), (show ((τ37.1 12 + 1)) ≤ ca ((st (τ37.2.1 9) (σ.1 3) n1)) (τ37.1 3) from by omega), (show j_lt (τ37.2.1 6) (τ37.1 3) from by (intro e; first | exact p6 e | (rw [g6_τ12, w3_τ12]; exact p6 e) | (rw [g6_τ40, w3_τ40]; exact p6 e) | (obtain ⟨ee, he⟩ := q31_2; rw [g6_τ37, he]; unfold st; split; omega; have := p6 e; rw [g6_τ30]; omega)))⟩
                ·
                  refine h118 _ ?_
                  refine ⟨_, K_X13_failHere hT (show 0 ≤ 7 from by omega) (show 7 ≤ 19 from by omega), ?_⟩
                  intro τ40 hn_τ40 hf_τ40 hq
                  obtain ⟨hT, q38_1, q38_2⟩ := hq
                  replace q38_1 : ¬ (σ.1 20) = 0 → (τ40.1 20) = (σ.1 20) := q38_1
                  replace q38_2 : (σ.1 20) = 0 → (τ40.1 20) = 7 := q38_2
                  have w0_τ40 : τ40.1 0 = σ.1 0 := hf_τ40.1 0 (by decide)
                  have w2_τ40 : τ40.1 2 = σ.1 2 := hf_τ40.1 2 (by decide)
                  have w3_τ40 : τ40.1 3 = σ.1 3 := hf_τ40.1 3 (by decide)
                  have w12_τ40 : τ40.1 12 = σ.1 12 := hf_τ40.1 12 (by decide)
                  have w17_τ40 : τ40.1 17 = σ.1 17 := hf_τ40.1 17 (by decide)
                  have w18_τ40 : τ40.1 18 = σ.1 18 := hf_τ40.1 18 (by decide)
                  have g6_τ40 : τ40.2.1 6 = σ.2.1 6 := hf_τ40.2.1 6 (by decide)
                  have g7_τ40 : τ40.2.1 7 = σ.2.1 7 := hf_τ40.2.1 7 (by decide)
                  have g9_τ40 : τ40.2.1 9 = σ.2.1 9 := hf_τ40.2.1 9 (by decide)
                  first | (have ca_τ40 := congr (congrArg ca g9_τ40) w3_τ40) | skip
                  first | (have o6_τ40 := congrArg oc g6_τ40) | skip
                  first | (have o7_τ40 := congrArg oc g7_τ40) | skip
                  have W0 : τ40.1 0 = σ.1 0 := by omega
                  have W17 : τ40.1 17 = σ.1 17 := by omega
                  have W18 : τ40.1 18 = σ.1 18 := by omega
                  have G7 : τ40.2.1 7 = σ.2.1 7 := (g7_τ40).trans G7
                  have Y1 : j_lt (τ40.2.1 6) (τ40.1 3) := by rw [show (j_lt (τ40.2.1 6) (τ40.1 3)) = (j_lt (σ.2.1 6) (σ.1 3)) from by rw [w3_τ40, g6_τ40]]; exact Y1
                  have A6 : ∀ j, (-1) ≤ τ40.2.1 6 j ∧ τ40.2.1 6 j ≤ 999 := fun j => hT.2 6 j
                  have A7 : ∀ j, (-1) ≤ τ40.2.1 7 j ∧ τ40.2.1 7 j ≤ 1499 := fun j => hT.2 7 j
                  have A9 : ∀ j, 0 ≤ τ40.2.1 9 j ∧ τ40.2.1 9 j ≤ 1 := fun j => hT.2 9 j
                  have v0 : 0 ≤ τ40.1 0 ∧ τ40.1 0 ≤ 60000 := hT.1 0
                  have v2 : 0 ≤ τ40.1 2 ∧ τ40.1 2 ≤ 30000 := hT.1 2
                  have v3 : 0 ≤ τ40.1 3 ∧ τ40.1 3 ≤ 1000 := hT.1 3
                  have v12 : 0 ≤ τ40.1 12 ∧ τ40.1 12 ≤ 1000 := hT.1 12
                  have v17 : 0 ≤ τ40.1 17 ∧ τ40.1 17 ≤ 60000 := hT.1 17
                  have v18 : 0 ≤ τ40.1 18 ∧ τ40.1 18 ≤ 60000 := hT.1 18
                  have v20 : 0 ≤ τ40.1 20 ∧ τ40.1 20 ≤ 19 := hT.1 20
                  exact ⟨hT, (show oc (τ40.2.1 6) ≤ (τ40.1 3) from by omega), (show (τ40.1 12) ≤ ca (τ40.2.1 9) (τ40.1 3) from by omega), (show j_lt (τ40.2.1 6) (τ40.1 3) from Y1)⟩
            ·
              refine ⟨fun c14 => ?_, fun c14 => ?_⟩
              ·
                refine h91 _ _ _ _ _ ?_
                refine ⟨fun c20 => ?_, fun c20 => ?_⟩
                ·
                  refine h118 _ ?_
                  refine ⟨_, K_X13_failHere hT (show 0 ≤ 7 from by omega) (show 7 ≤ 19 from by omega), ?_⟩
                  intro τ40 hn_τ40 hf_τ40 hq
                  obtain ⟨hT, q38_1, q38_2⟩ := hq
                  replace q38_1 : ¬ (σ.1 20) = 0 → (τ40.1 20) = (σ.1 20) := q38_1
                  replace q38_2 : (σ.1 20) = 0 → (τ40.1 20) = 7 := q38_2
                  have w0_τ40 : τ40.1 0 = σ.1 0 := hf_τ40.1 0 (by decide)
                  have w2_τ40 : τ40.1 2 = σ.1 2 := hf_τ40.1 2 (by decide)
                  have w3_τ40 : τ40.1 3 = σ.1 3 := hf_τ40.1 3 (by decide)
                  have w12_τ40 : τ40.1 12 = σ.1 12 := hf_τ40.1 12 (by decide)
                  have w17_τ40 : τ40.1 17 = σ.1 17 := hf_τ40.1 17 (by decide)
                  have w18_τ40 : τ40.1 18 = σ.1 18 := hf_τ40.1 18 (by decide)
                  have g6_τ40 : τ40.2.1 6 = σ.2.1 6 := hf_τ40.2.1 6 (by decide)
                  have g7_τ40 : τ40.2.1 7 = σ.2.1 7 := hf_τ40.2.1 7 (by decide)
                  have g9_τ40 : τ40.2.1 9 = σ.2.1 9 := hf_τ40.2.1 9 (by decide)
                  first | (have ca_τ40 := congr (congrArg ca g9_τ40) w3_τ40) | skip
                  first | (have o6_τ40 := congrArg oc g6_τ40) | skip
                  first | (have o7_τ40 := congrArg oc g7_τ40) | skip
                  have W0 : τ40.1 0 = σ.1 0 := by omega
                  have W17 : τ40.1 17 = σ.1 17 := by omega
                  have W18 : τ40.1 18 = σ.1 18 := by omega
                  have G7 : τ40.2.1 7 = σ.2.1 7 := (g7_τ40).trans G7
                  have Y1 : j_lt (τ40.2.1 6) (τ40.1 3) := by rw [show (j_lt (τ40.2.1 6) (τ40.1 3)) = (j_lt (σ.2.1 6) (σ.1 3)) from by rw [w3_τ40, g6_τ40]]; exact Y1
                  have A6 : ∀ j, (-1) ≤ τ40.2.1 6 j ∧ τ40.2.1 6 j ≤ 999 := fun j => hT.2 6 j
                  have A7 : ∀ j, (-1) ≤ τ40.2.1 7 j ∧ τ40.2.1 7 j ≤ 1499 := fun j => hT.2 7 j
                  have A9 : ∀ j, 0 ≤ τ40.2.1 9 j ∧ τ40.2.1 9 j ≤ 1 := fun j => hT.2 9 j
                  have v0 : 0 ≤ τ40.1 0 ∧ τ40.1 0 ≤ 60000 := hT.1 0
                  have v2 : 0 ≤ τ40.1 2 ∧ τ40.1 2 ≤ 30000 := hT.1 2
                  have v3 : 0 ≤ τ40.1 3 ∧ τ40.1 3 ≤ 1000 := hT.1 3
                  have v12 : 0 ≤ τ40.1 12 ∧ τ40.1 12 ≤ 1000 := hT.1 12
                  have v17 : 0 ≤ τ40.1 17 ∧ τ40.1 17 ≤ 60000 := hT.1 17
                  have v18 : 0 ≤ τ40.1 18 ∧ τ40.1 18 ≤ 60000 := hT.1 18
                  have v20 : 0 ≤ τ40.1 20 ∧ τ40.1 20 ≤ 19 := hT.1 20
                  exact ⟨hT, (show oc (τ40.2.1 6) ≤ (τ40.1 3) from by omega), (show (τ40.1 12) ≤ ca (τ40.2.1 9) (τ40.1 3) from by omega), (show j_lt (τ40.2.1 6) (τ40.1 3) from Y1)⟩
                ·
                  refine ⟨_, K_X13_findLabel_q1 hT (show 0 ≤ (σ.1 17) from by omega) (show (σ.1 17) + (σ.1 18) ≤ 60000 from by omega) (show oc (σ.2.1 7) < 4096 from by omega), ?_⟩
                  intro x22 r_x22 hq
                  have q21_1 := hq
                  replace q21_1 : -1 ≤ x22 ∧ x22 ≤ 1499 := q21_1
                  refine ⟨fun c24 => ?_, fun c24 => ?_⟩
                  ·
                    refine ⟨fun c25 => ?_, fun c25 => ?_⟩
                    ·
                      refine h214 _ _ _ ?_
                      first | (have nn9 : τ37.2.1 9 = σ.2.1 9 := by rw [g9_τ37, g9_τ33, g9_τ30]) | skip
                      first | (have nn3 : τ37.1 3 = σ.1 3 + 1 := by omega) | skip
                      first | (have cn2 : ca (st (τ37.2.1 9) (σ.1 3) n1) (τ37.1 3) = ca (st (σ.2.1 9) (σ.1 3) n1) (σ.1 3 + 1) := by rw [nn9, nn3]) | skip
                      refine ⟨(show 0 ≤ x2 ∧ x2 < 1001 from by omega), ?_⟩
                      refine ⟨(show 0 ≤ n1 ∧ n1 ≤ 1 from by omega), ?_⟩
                      replace hT := mT_a (k := 9) (j := x2) hT (show (0 : Int) ≤ n1 ∧ n1 ≤ 1 from by omega)
                      refine ⟨fun c43 => ?_, fun c43 => ?_⟩
                      ·
                        exact ⟨hT, (show oc (σ.2.1 6) ≤ (σ.1 3) from by omega), (show (σ.1 12) ≤ ca ((st (σ.2.1 9) x2 n1)) (σ.1 3) from by omega), (show j_lt (σ.2.1 6) (σ.1 3) from Y1)⟩
                      ·
                        refine ⟨(show 0 ≤ σ.1 12 ∧ σ.1 12 < 1001 from by omega), ?_⟩
                        replace hT := mT_a (k := 30) (j := (σ.1 12)) hT (show (0 : Int) ≤ x2 ∧ x2 ≤ 999 from by omega)
                        refine ⟨(⟨by omega, by omega⟩ : rg (σ.1 12 + 1)), ?_⟩
                        replace hT := mT_v (i := 12) hT (show 0 ≤ (σ.1 12 + 1) ∧ (σ.1 12 + 1) ≤ 1000 from by omega)
                        exact ⟨hT, (show oc (σ.2.1 6) ≤ (σ.1 3) from by omega), (show ((σ.1 12 + 1)) ≤ ca ((st (σ.2.1 9) x2 n1)) (σ.1 3) from by omega), (show j_lt (σ.2.1 6) (σ.1 3) from Y1)⟩
                    ·
                      refine ⟨(⟨by omega, by omega⟩ : rg (σ.1 3 + 1)), ?_⟩
                      replace hT := mT_v (i := 3) hT (show 0 ≤ (σ.1 3 + 1) ∧ (σ.1 3 + 1) ≤ 1000 from by omega)
                      refine ⟨(show 0 ≤ σ.1 3 ∧ σ.1 3 < 1001 from by omega), ?_⟩
                      replace hT := mT_a (k := 2) (j := (σ.1 3)) hT (show (0 : Int) ≤ (σ.1 2) ∧ (σ.1 2) ≤ 30000 from by omega)
                      replace hT := mT_a (k := 3) (j := (σ.1 3)) hT (show (0 : Int) ≤ (σ.1 18) ∧ (σ.1 18) ≤ 60 from by omega)
                      refine ⟨_, K_X13_keepChars hT (show 0 ≤ (σ.1 17) from by omega) (show 0 ≤ (σ.1 18) from by omega) (show (σ.1 17) + (σ.1 18) ≤ 60000 from by omega) (show (σ.1 2) + (σ.1 18) ≤ 30000 from by omega), ?_⟩
                      intro τ30 hn_τ30 hf_τ30 hq
                      obtain ⟨hT, q28_1⟩ := hq
                      replace q28_1 : (τ30.1 2) = (σ.1 2) + (σ.1 18) := q28_1
                      have w0_τ30 : τ30.1 0 = σ.1 0 := hf_τ30.1 0 (by decide)
                      have w3_τ30 : τ30.1 3 = (σ.1 3 + 1) := hf_τ30.1 3 (by decide)
                      have w12_τ30 : τ30.1 12 = σ.1 12 := hf_τ30.1 12 (by decide)
                      have w17_τ30 : τ30.1 17 = σ.1 17 := hf_τ30.1 17 (by decide)
                      have w18_τ30 : τ30.1 18 = σ.1 18 := hf_τ30.1 18 (by decide)
                      have w20_τ30 : τ30.1 20 = σ.1 20 := hf_τ30.1 20 (by decide)
                      have g6_τ30 : τ30.2.1 6 = σ.2.1 6 := hf_τ30.2.1 6 (by decide)
                      have g7_τ30 : τ30.2.1 7 = σ.2.1 7 := hf_τ30.2.1 7 (by decide)
                      have g9_τ30 : τ30.2.1 9 = σ.2.1 9 := hf_τ30.2.1 9 (by decide)
                      first | (have ca_τ30 := congr (congrArg ca g9_τ30) w3_τ30) | skip
                      first | (have o6_τ30 := congrArg oc g6_τ30) | skip
                      first | (have o7_τ30 := congrArg oc g7_τ30) | skip
                      have W0 : τ30.1 0 = σ.1 0 := by omega
                      have W17 : τ30.1 17 = σ.1 17 := by omega
                      have W18 : τ30.1 18 = σ.1 18 := by omega
                      have G7 : τ30.2.1 7 = σ.2.1 7 := (g7_τ30).trans G7
                      have A6 : ∀ j, (-1) ≤ τ30.2.1 6 j ∧ τ30.2.1 6 j ≤ 999 := fun j => hT.2 6 j
                      have A7 : ∀ j, (-1) ≤ τ30.2.1 7 j ∧ τ30.2.1 7 j ≤ 1499 := fun j => hT.2 7 j
                      have A9 : ∀ j, 0 ≤ τ30.2.1 9 j ∧ τ30.2.1 9 j ≤ 1 := fun j => hT.2 9 j
                      have v0 : 0 ≤ τ30.1 0 ∧ τ30.1 0 ≤ 60000 := hT.1 0
                      have v2 : 0 ≤ τ30.1 2 ∧ τ30.1 2 ≤ 30000 := hT.1 2
                      have v3 : 0 ≤ τ30.1 3 ∧ τ30.1 3 ≤ 1000 := hT.1 3
                      have v12 : 0 ≤ τ30.1 12 ∧ τ30.1 12 ≤ 1000 := hT.1 12
                      have v17 : 0 ≤ τ30.1 17 ∧ τ30.1 17 ≤ 60000 := hT.1 17
                      have v18 : 0 ≤ τ30.1 18 ∧ τ30.1 18 ≤ 60000 := hT.1 18
                      have v20 : 0 ≤ τ30.1 20 ∧ τ30.1 20 ≤ 19 := hT.1 20
                      refine ⟨_, K_X13_keepSymbol hT (show 0 ≤ (σ.1 3) from by omega) (show (σ.1 3) < 1000 from by omega) (show oc (τ30.2.1 6) < 4096 from by omega), ?_⟩
                      intro τ33 hn_τ33 hf_τ33 hq
                      obtain ⟨hT, q31_1, q31_2⟩ := hq
                      replace q31_1 : oc (τ33.2.1 6) ≤ oc (τ30.2.1 6) + 1 := q31_1
                      replace q31_2 : ∃ e : Int, τ33.2.1 6 = st (τ30.2.1 6) e (σ.1 3) := q31_2
                      have w0_τ33 : τ33.1 0 = τ30.1 0 := hf_τ33.1 0 (by decide)
                      have w2_τ33 : τ33.1 2 = τ30.1 2 := hf_τ33.1 2 (by decide)
                      have w3_τ33 : τ33.1 3 = τ30.1 3 := hf_τ33.1 3 (by decide)
                      have w12_τ33 : τ33.1 12 = τ30.1 12 := hf_τ33.1 12 (by decide)
                      have w17_τ33 : τ33.1 17 = τ30.1 17 := hf_τ33.1 17 (by decide)
                      have w18_τ33 : τ33.1 18 = τ30.1 18 := hf_τ33.1 18 (by decide)
                      have w20_τ33 : τ33.1 20 = τ30.1 20 := hf_τ33.1 20 (by decide)
                      have g7_τ33 : τ33.2.1 7 = τ30.2.1 7 := hf_τ33.2.1 7 (by decide)
                      have g9_τ33 : τ33.2.1 9 = τ30.2.1 9 := hf_τ33.2.1 9 (by decide)
                      first | (have ca_τ33 := congr (congrArg ca g9_τ33) w3_τ33) | skip
                      first | (have o6_τ33 := congrArg oc g6_τ33) | skip
                      first | (have o7_τ33 := congrArg oc g7_τ33) | skip
                      have W0 : τ33.1 0 = σ.1 0 := by omega
                      have W17 : τ33.1 17 = σ.1 17 := by omega
                      have W18 : τ33.1 18 = σ.1 18 := by omega
                      have G7 : τ33.2.1 7 = σ.2.1 7 := (g7_τ33).trans G7
                      have A6 : ∀ j, (-1) ≤ τ33.2.1 6 j ∧ τ33.2.1 6 j ≤ 999 := fun j => hT.2 6 j
                      have A7 : ∀ j, (-1) ≤ τ33.2.1 7 j ∧ τ33.2.1 7 j ≤ 1499 := fun j => hT.2 7 j
                      have A9 : ∀ j, 0 ≤ τ33.2.1 9 j ∧ τ33.2.1 9 j ≤ 1 := fun j => hT.2 9 j
                      have v0 : 0 ≤ τ33.1 0 ∧ τ33.1 0 ≤ 60000 := hT.1 0
                      have v2 : 0 ≤ τ33.1 2 ∧ τ33.1 2 ≤ 30000 := hT.1 2
                      have v3 : 0 ≤ τ33.1 3 ∧ τ33.1 3 ≤ 1000 := hT.1 3
                      have v12 : 0 ≤ τ33.1 12 ∧ τ33.1 12 ≤ 1000 := hT.1 12
                      have v17 : 0 ≤ τ33.1 17 ∧ τ33.1 17 ≤ 60000 := hT.1 17
                      have v18 : 0 ≤ τ33.1 18 ∧ τ33.1 18 ≤ 60000 := hT.1 18
                      have v20 : 0 ≤ τ33.1 20 ∧ τ33.1 20 ≤ 19 := hT.1 20
                      refine ⟨(show 0 ≤ n1 ∧ n1 ≤ 1 from by omega), ?_⟩
                      replace hT := mT_a (k := 8) (j := (σ.1 3)) hT (show (0 : Int) ≤ n1 ∧ n1 ≤ 1 from by omega)
                      replace hT := mT_a (k := 10) (j := (σ.1 3)) hT (show (-1 : Int) ≤ (-1) ∧ (-1) ≤ 999 from by omega)
                      replace hT := mT_a (k := 11) (j := (σ.1 3)) hT (show (-1 : Int) ≤ (-1) ∧ (-1) ≤ 1499 from by omega)
                      replace hT := mT_a (k := 12) (j := (σ.1 3)) hT (show (0 : Int) ≤ 0 ∧ 0 ≤ 1 from by omega)
                      have cn := ca_n (σ.2.1 9) ((σ.1 3)) n1 (by omega)
                      have cb3 := ca_b (st (σ.2.1 9) ((σ.1 3)) n1) (n := (σ.1 3) + 1) (by omega)
                      refine ⟨_, K_X13_markNamed hT (show 0 ≤ (σ.1 3) from by omega) (show (σ.1 3) < 1000 from by omega), ?_⟩
                      intro τ37 hn_τ37 hf_τ37 hq
                      replace hT := hq
                      have w0_τ37 : τ37.1 0 = τ33.1 0 := hf_τ37.1 0 (by decide)
                      have w2_τ37 : τ37.1 2 = τ33.1 2 := hf_τ37.1 2 (by decide)
                      have w3_τ37 : τ37.1 3 = τ33.1 3 := hf_τ37.1 3 (by decide)
                      have w12_τ37 : τ37.1 12 = τ33.1 12 := hf_τ37.1 12 (by decide)
                      have w17_τ37 : τ37.1 17 = τ33.1 17 := hf_τ37.1 17 (by decide)
                      have w18_τ37 : τ37.1 18 = τ33.1 18 := hf_τ37.1 18 (by decide)
                      have w20_τ37 : τ37.1 20 = τ33.1 20 := hf_τ37.1 20 (by decide)
                      have g6_τ37 : τ37.2.1 6 = τ33.2.1 6 := hf_τ37.2.1 6 (by decide)
                      have g7_τ37 : τ37.2.1 7 = τ33.2.1 7 := hf_τ37.2.1 7 (by decide)
                      have g9_τ37 : τ37.2.1 9 = τ33.2.1 9 := hf_τ37.2.1 9 (by decide)
                      first | (have ca_τ37 := congr (congrArg ca g9_τ37) w3_τ37) | skip
                      first | (have o6_τ37 := congrArg oc g6_τ37) | skip
                      first | (have o7_τ37 := congrArg oc g7_τ37) | skip
                      have W0 : τ37.1 0 = σ.1 0 := by omega
                      have W17 : τ37.1 17 = σ.1 17 := by omega
                      have W18 : τ37.1 18 = σ.1 18 := by omega
                      have G7 : τ37.2.1 7 = σ.2.1 7 := (g7_τ37).trans G7
                      have A6 : ∀ j, (-1) ≤ τ37.2.1 6 j ∧ τ37.2.1 6 j ≤ 999 := fun j => hT.2 6 j
                      have A7 : ∀ j, (-1) ≤ τ37.2.1 7 j ∧ τ37.2.1 7 j ≤ 1499 := fun j => hT.2 7 j
                      have A9 : ∀ j, 0 ≤ τ37.2.1 9 j ∧ τ37.2.1 9 j ≤ 1 := fun j => hT.2 9 j
                      have v0 : 0 ≤ τ37.1 0 ∧ τ37.1 0 ≤ 60000 := hT.1 0
                      have v2 : 0 ≤ τ37.1 2 ∧ τ37.1 2 ≤ 30000 := hT.1 2
                      have v3 : 0 ≤ τ37.1 3 ∧ τ37.1 3 ≤ 1000 := hT.1 3
                      have v12 : 0 ≤ τ37.1 12 ∧ τ37.1 12 ≤ 1000 := hT.1 12
                      have v17 : 0 ≤ τ37.1 17 ∧ τ37.1 17 ≤ 60000 := hT.1 17
                      have v18 : 0 ≤ τ37.1 18 ∧ τ37.1 18 ≤ 60000 := hT.1 18
                      have v20 : 0 ≤ τ37.1 20 ∧ τ37.1 20 ≤ 19 := hT.1 20
                      refine h214 _ _ _ ?_
                      first | (have nn9 : τ37.2.1 9 = σ.2.1 9 := by rw [g9_τ37, g9_τ33, g9_τ30]) | skip
                      first | (have nn3 : τ37.1 3 = σ.1 3 + 1 := by omega) | skip
                      first | (have cn2 : ca (st (τ37.2.1 9) (σ.1 3) n1) (τ37.1 3) = ca (st (σ.2.1 9) (σ.1 3) n1) (σ.1 3 + 1) := by rw [nn9, nn3]) | skip
                      refine ⟨(show 0 ≤ (σ.1 3) ∧ (σ.1 3) < 1001 from by omega), ?_⟩
                      refine ⟨(show 0 ≤ n1 ∧ n1 ≤ 1 from by omega), ?_⟩
                      replace hT := mT_a (k := 9) (j := (σ.1 3)) hT (show (0 : Int) ≤ n1 ∧ n1 ≤ 1 from by omega)
                      refine ⟨fun c43 => ?_, fun c43 => ?_⟩
                      ·
                        exact ⟨hT, (show oc (τ37.2.1 6) ≤ (τ37.1 3) from by omega), (show (τ37.1 12) ≤ ca ((st (τ37.2.1 9) (σ.1 3) n1)) (τ37.1 3) from by omega), (show j_lt (τ37.2.1 6) (τ37.1 3) from by (intro e; first | exact p6 e | (rw [g6_τ12, w3_τ12]; exact p6 e) | (rw [g6_τ40, w3_τ40]; exact p6 e) | (obtain ⟨ee, he⟩ := q31_2; rw [g6_τ37, he]; unfold st; split; omega; have := p6 e; rw [g6_τ30]; omega)))⟩
                      ·
                        refine ⟨(show 0 ≤ τ37.1 12 ∧ τ37.1 12 < 1001 from by omega), ?_⟩
                        replace hT := mT_a (k := 30) (j := (τ37.1 12)) hT (show (0 : Int) ≤ (σ.1 3) ∧ (σ.1 3) ≤ 999 from by omega)
                        refine ⟨(⟨by omega, by omega⟩ : rg (τ37.1 12 + 1)), ?_⟩
                        replace hT := mT_v (i := 12) hT (show 0 ≤ (τ37.1 12 + 1) ∧ (τ37.1 12 + 1) ≤ 1000 from by omega)
                        exact ⟨hT, (show oc (τ37.2.1 6) ≤ (τ37.1 3) from by omega), (show ((τ37.1 12 + 1)) ≤ ca ((st (τ37.2.1 9) (σ.1 3) n1)) (τ37.1 3) from by omega), (show j_lt (τ37.2.1 6) (τ37.1 3) from by (intro e; first | exact p6 e | (rw [g6_τ12, w3_τ12]; exact p6 e) | (rw [g6_τ40, w3_τ40]; exact p6 e) | (obtain ⟨ee, he⟩ := q31_2; rw [g6_τ37, he]; unfold st; split; omega; have := p6 e; rw [g6_τ30]; omega)))⟩
                  ·
                    refine h118 _ ?_
                    refine ⟨_, K_X13_failHere hT (show 0 ≤ 7 from by omega) (show 7 ≤ 19 from by omega), ?_⟩
                    intro τ40 hn_τ40 hf_τ40 hq
                    obtain ⟨hT, q38_1, q38_2⟩ := hq
                    replace q38_1 : ¬ (σ.1 20) = 0 → (τ40.1 20) = (σ.1 20) := q38_1
                    replace q38_2 : (σ.1 20) = 0 → (τ40.1 20) = 7 := q38_2
                    have w0_τ40 : τ40.1 0 = σ.1 0 := hf_τ40.1 0 (by decide)
                    have w2_τ40 : τ40.1 2 = σ.1 2 := hf_τ40.1 2 (by decide)
                    have w3_τ40 : τ40.1 3 = σ.1 3 := hf_τ40.1 3 (by decide)
                    have w12_τ40 : τ40.1 12 = σ.1 12 := hf_τ40.1 12 (by decide)
                    have w17_τ40 : τ40.1 17 = σ.1 17 := hf_τ40.1 17 (by decide)
                    have w18_τ40 : τ40.1 18 = σ.1 18 := hf_τ40.1 18 (by decide)
                    have g6_τ40 : τ40.2.1 6 = σ.2.1 6 := hf_τ40.2.1 6 (by decide)
                    have g7_τ40 : τ40.2.1 7 = σ.2.1 7 := hf_τ40.2.1 7 (by decide)
                    have g9_τ40 : τ40.2.1 9 = σ.2.1 9 := hf_τ40.2.1 9 (by decide)
                    first | (have ca_τ40 := congr (congrArg ca g9_τ40) w3_τ40) | skip
                    first | (have o6_τ40 := congrArg oc g6_τ40) | skip
                    first | (have o7_τ40 := congrArg oc g7_τ40) | skip
                    have W0 : τ40.1 0 = σ.1 0 := by omega
                    have W17 : τ40.1 17 = σ.1 17 := by omega
                    have W18 : τ40.1 18 = σ.1 18 := by omega
                    have G7 : τ40.2.1 7 = σ.2.1 7 := (g7_τ40).trans G7
                    have Y1 : j_lt (τ40.2.1 6) (τ40.1 3) := by rw [show (j_lt (τ40.2.1 6) (τ40.1 3)) = (j_lt (σ.2.1 6) (σ.1 3)) from by rw [w3_τ40, g6_τ40]]; exact Y1
                    have A6 : ∀ j, (-1) ≤ τ40.2.1 6 j ∧ τ40.2.1 6 j ≤ 999 := fun j => hT.2 6 j
                    have A7 : ∀ j, (-1) ≤ τ40.2.1 7 j ∧ τ40.2.1 7 j ≤ 1499 := fun j => hT.2 7 j
                    have A9 : ∀ j, 0 ≤ τ40.2.1 9 j ∧ τ40.2.1 9 j ≤ 1 := fun j => hT.2 9 j
                    have v0 : 0 ≤ τ40.1 0 ∧ τ40.1 0 ≤ 60000 := hT.1 0
                    have v2 : 0 ≤ τ40.1 2 ∧ τ40.1 2 ≤ 30000 := hT.1 2
                    have v3 : 0 ≤ τ40.1 3 ∧ τ40.1 3 ≤ 1000 := hT.1 3
                    have v12 : 0 ≤ τ40.1 12 ∧ τ40.1 12 ≤ 1000 := hT.1 12
                    have v17 : 0 ≤ τ40.1 17 ∧ τ40.1 17 ≤ 60000 := hT.1 17
                    have v18 : 0 ≤ τ40.1 18 ∧ τ40.1 18 ≤ 60000 := hT.1 18
                    have v20 : 0 ≤ τ40.1 20 ∧ τ40.1 20 ≤ 19 := hT.1 20
                    exact ⟨hT, (show oc (τ40.2.1 6) ≤ (τ40.1 3) from by omega), (show (τ40.1 12) ≤ ca (τ40.2.1 9) (τ40.1 3) from by omega), (show j_lt (τ40.2.1 6) (τ40.1 3) from Y1)⟩
              ·
                refine ⟨(show 0 ≤ x2 ∧ x2 < 1001 from by omega), ?_⟩
                intro x16 r_x16 e_x16
                have b_x16 : 0 ≤ x16 ∧ x16 ≤ 1 := by rw [e_x16]; exact hT.2 8 _
                refine ⟨fun c17 => ?_, fun c17 => ?_⟩
                ·
                  have ax : x2 < (σ.1 3) := by rcases q1_2 with h | ⟨e, h⟩; omega; rw [h]; exact p6 e
                  refine h91 _ _ _ _ _ ?_
                  refine ⟨fun c20 => ?_, fun c20 => ?_⟩
                  ·
                    refine h118 _ ?_
                    refine ⟨_, K_X13_failHere hT (show 0 ≤ 7 from by omega) (show 7 ≤ 19 from by omega), ?_⟩
                    intro τ40 hn_τ40 hf_τ40 hq
                    obtain ⟨hT, q38_1, q38_2⟩ := hq
                    replace q38_1 : ¬ (σ.1 20) = 0 → (τ40.1 20) = (σ.1 20) := q38_1
                    replace q38_2 : (σ.1 20) = 0 → (τ40.1 20) = 7 := q38_2
                    have w0_τ40 : τ40.1 0 = σ.1 0 := hf_τ40.1 0 (by decide)
                    have w2_τ40 : τ40.1 2 = σ.1 2 := hf_τ40.1 2 (by decide)
                    have w3_τ40 : τ40.1 3 = σ.1 3 := hf_τ40.1 3 (by decide)
                    have w12_τ40 : τ40.1 12 = σ.1 12 := hf_τ40.1 12 (by decide)
                    have w17_τ40 : τ40.1 17 = σ.1 17 := hf_τ40.1 17 (by decide)
                    have w18_τ40 : τ40.1 18 = σ.1 18 := hf_τ40.1 18 (by decide)
                    have g6_τ40 : τ40.2.1 6 = σ.2.1 6 := hf_τ40.2.1 6 (by decide)
                    have g7_τ40 : τ40.2.1 7 = σ.2.1 7 := hf_τ40.2.1 7 (by decide)
                    have g9_τ40 : τ40.2.1 9 = σ.2.1 9 := hf_τ40.2.1 9 (by decide)
                    first | (have ca_τ40 := congr (congrArg ca g9_τ40) w3_τ40) | skip
                    first | (have o6_τ40 := congrArg oc g6_τ40) | skip
                    first | (have o7_τ40 := congrArg oc g7_τ40) | skip
                    have W0 : τ40.1 0 = σ.1 0 := by omega
                    have W17 : τ40.1 17 = σ.1 17 := by omega
                    have W18 : τ40.1 18 = σ.1 18 := by omega
                    have G7 : τ40.2.1 7 = σ.2.1 7 := (g7_τ40).trans G7
                    have Y1 : j_lt (τ40.2.1 6) (τ40.1 3) := by rw [show (j_lt (τ40.2.1 6) (τ40.1 3)) = (j_lt (σ.2.1 6) (σ.1 3)) from by rw [w3_τ40, g6_τ40]]; exact Y1
                    have A6 : ∀ j, (-1) ≤ τ40.2.1 6 j ∧ τ40.2.1 6 j ≤ 999 := fun j => hT.2 6 j
                    have A7 : ∀ j, (-1) ≤ τ40.2.1 7 j ∧ τ40.2.1 7 j ≤ 1499 := fun j => hT.2 7 j
                    have A9 : ∀ j, 0 ≤ τ40.2.1 9 j ∧ τ40.2.1 9 j ≤ 1 := fun j => hT.2 9 j
                    have v0 : 0 ≤ τ40.1 0 ∧ τ40.1 0 ≤ 60000 := hT.1 0
                    have v2 : 0 ≤ τ40.1 2 ∧ τ40.1 2 ≤ 30000 := hT.1 2
                    have v3 : 0 ≤ τ40.1 3 ∧ τ40.1 3 ≤ 1000 := hT.1 3
                    have v12 : 0 ≤ τ40.1 12 ∧ τ40.1 12 ≤ 1000 := hT.1 12
                    have v17 : 0 ≤ τ40.1 17 ∧ τ40.1 17 ≤ 60000 := hT.1 17
                    have v18 : 0 ≤ τ40.1 18 ∧ τ40.1 18 ≤ 60000 := hT.1 18
                    have v20 : 0 ≤ τ40.1 20 ∧ τ40.1 20 ≤ 19 := hT.1 20
                    exact ⟨hT, (show oc (τ40.2.1 6) ≤ (τ40.1 3) from by omega), (show (τ40.1 12) ≤ ca (τ40.2.1 9) (τ40.1 3) from by omega), (show j_lt (τ40.2.1 6) (τ40.1 3) from Y1)⟩
                  ·
                    refine ⟨_, K_X13_findLabel_q1 hT (show 0 ≤ (σ.1 17) from by omega) (show (σ.1 17) + (σ.1 18) ≤ 60000 from by omega) (show oc (σ.2.1 7) < 4096 from by omega), ?_⟩
                    intro x22 r_x22 hq
                    have q21_1 := hq
                    replace q21_1 : -1 ≤ x22 ∧ x22 ≤ 1499 := q21_1
                    refine ⟨fun c24 => ?_, fun c24 => ?_⟩
                    ·
                      refine ⟨fun c25 => ?_, fun c25 => ?_⟩
                      ·
                        refine h214 _ _ _ ?_
                        first | (have nn9 : τ37.2.1 9 = σ.2.1 9 := by rw [g9_τ37, g9_τ33, g9_τ30]) | skip
                        first | (have nn3 : τ37.1 3 = σ.1 3 + 1 := by omega) | skip
                        first | (have cn2 : ca (st (τ37.2.1 9) (σ.1 3) n1) (τ37.1 3) = ca (st (σ.2.1 9) (σ.1 3) n1) (σ.1 3 + 1) := by rw [nn9, nn3]) | skip
                        refine ⟨(show 0 ≤ x2 ∧ x2 < 1001 from by omega), ?_⟩
                        refine ⟨(show 0 ≤ n1 ∧ n1 ≤ 1 from by omega), ?_⟩
                        replace hT := mT_a (k := 9) (j := x2) hT (show (0 : Int) ≤ n1 ∧ n1 ≤ 1 from by omega)
                        refine ⟨fun c43 => ?_, fun c43 => ?_⟩
                        ·
                          exact ⟨hT, (show oc (σ.2.1 6) ≤ (σ.1 3) from by omega), (show (σ.1 12) ≤ ca ((st (σ.2.1 9) x2 n1)) (σ.1 3) from by omega), (show j_lt (σ.2.1 6) (σ.1 3) from Y1)⟩
                        ·
                          refine ⟨(show 0 ≤ σ.1 12 ∧ σ.1 12 < 1001 from by omega), ?_⟩
                          replace hT := mT_a (k := 30) (j := (σ.1 12)) hT (show (0 : Int) ≤ x2 ∧ x2 ≤ 999 from by omega)
                          refine ⟨(⟨by omega, by omega⟩ : rg (σ.1 12 + 1)), ?_⟩
                          replace hT := mT_v (i := 12) hT (show 0 ≤ (σ.1 12 + 1) ∧ (σ.1 12 + 1) ≤ 1000 from by omega)
                          exact ⟨hT, (show oc (σ.2.1 6) ≤ (σ.1 3) from by omega), (show ((σ.1 12 + 1)) ≤ ca ((st (σ.2.1 9) x2 n1)) (σ.1 3) from by omega), (show j_lt (σ.2.1 6) (σ.1 3) from Y1)⟩
                      ·
                        refine ⟨(⟨by omega, by omega⟩ : rg (σ.1 3 + 1)), ?_⟩
                        replace hT := mT_v (i := 3) hT (show 0 ≤ (σ.1 3 + 1) ∧ (σ.1 3 + 1) ≤ 1000 from by omega)
                        refine ⟨(show 0 ≤ σ.1 3 ∧ σ.1 3 < 1001 from by omega), ?_⟩
                        replace hT := mT_a (k := 2) (j := (σ.1 3)) hT (show (0 : Int) ≤ (σ.1 2) ∧ (σ.1 2) ≤ 30000 from by omega)
                        replace hT := mT_a (k := 3) (j := (σ.1 3)) hT (show (0 : Int) ≤ (σ.1 18) ∧ (σ.1 18) ≤ 60 from by omega)
                        refine ⟨_, K_X13_keepChars hT (show 0 ≤ (σ.1 17) from by omega) (show 0 ≤ (σ.1 18) from by omega) (show (σ.1 17) + (σ.1 18) ≤ 60000 from by omega) (show (σ.1 2) + (σ.1 18) ≤ 30000 from by omega), ?_⟩
                        intro τ30 hn_τ30 hf_τ30 hq
                        obtain ⟨hT, q28_1⟩ := hq
                        replace q28_1 : (τ30.1 2) = (σ.1 2) + (σ.1 18) := q28_1
                        have w0_τ30 : τ30.1 0 = σ.1 0 := hf_τ30.1 0 (by decide)
                        have w3_τ30 : τ30.1 3 = (σ.1 3 + 1) := hf_τ30.1 3 (by decide)
                        have w12_τ30 : τ30.1 12 = σ.1 12 := hf_τ30.1 12 (by decide)
                        have w17_τ30 : τ30.1 17 = σ.1 17 := hf_τ30.1 17 (by decide)
                        have w18_τ30 : τ30.1 18 = σ.1 18 := hf_τ30.1 18 (by decide)
                        have w20_τ30 : τ30.1 20 = σ.1 20 := hf_τ30.1 20 (by decide)
                        have g6_τ30 : τ30.2.1 6 = σ.2.1 6 := hf_τ30.2.1 6 (by decide)
                        have g7_τ30 : τ30.2.1 7 = σ.2.1 7 := hf_τ30.2.1 7 (by decide)
                        have g9_τ30 : τ30.2.1 9 = σ.2.1 9 := hf_τ30.2.1 9 (by decide)
                        first | (have ca_τ30 := congr (congrArg ca g9_τ30) w3_τ30) | skip
                        first | (have o6_τ30 := congrArg oc g6_τ30) | skip
                        first | (have o7_τ30 := congrArg oc g7_τ30) | skip
                        have W0 : τ30.1 0 = σ.1 0 := by omega
                        have W17 : τ30.1 17 = σ.1 17 := by omega
                        have W18 : τ30.1 18 = σ.1 18 := by omega
                        have G7 : τ30.2.1 7 = σ.2.1 7 := (g7_τ30).trans G7
                        have A6 : ∀ j, (-1) ≤ τ30.2.1 6 j ∧ τ30.2.1 6 j ≤ 999 := fun j => hT.2 6 j
                        have A7 : ∀ j, (-1) ≤ τ30.2.1 7 j ∧ τ30.2.1 7 j ≤ 1499 := fun j => hT.2 7 j
                        have A9 : ∀ j, 0 ≤ τ30.2.1 9 j ∧ τ30.2.1 9 j ≤ 1 := fun j => hT.2 9 j
                        have v0 : 0 ≤ τ30.1 0 ∧ τ30.1 0 ≤ 60000 := hT.1 0
                        have v2 : 0 ≤ τ30.1 2 ∧ τ30.1 2 ≤ 30000 := hT.1 2
                        have v3 : 0 ≤ τ30.1 3 ∧ τ30.1 3 ≤ 1000 := hT.1 3
                        have v12 : 0 ≤ τ30.1 12 ∧ τ30.1 12 ≤ 1000 := hT.1 12
                        have v17 : 0 ≤ τ30.1 17 ∧ τ30.1 17 ≤ 60000 := hT.1 17
                        have v18 : 0 ≤ τ30.1 18 ∧ τ30.1 18 ≤ 60000 := hT.1 18
                        have v20 : 0 ≤ τ30.1 20 ∧ τ30.1 20 ≤ 19 := hT.1 20
                        refine ⟨_, K_X13_keepSymbol hT (show 0 ≤ (σ.1 3) from by omega) (show (σ.1 3) < 1000 from by omega) (show oc (τ30.2.1 6) < 4096 from by omega), ?_⟩
                        intro τ33 hn_τ33 hf_τ33 hq
                        obtain ⟨hT, q31_1, q31_2⟩ := hq
                        replace q31_1 : oc (τ33.2.1 6) ≤ oc (τ30.2.1 6) + 1 := q31_1
                        replace q31_2 : ∃ e : Int, τ33.2.1 6 = st (τ30.2.1 6) e (σ.1 3) := q31_2
                        have w0_τ33 : τ33.1 0 = τ30.1 0 := hf_τ33.1 0 (by decide)
                        have w2_τ33 : τ33.1 2 = τ30.1 2 := hf_τ33.1 2 (by decide)
                        have w3_τ33 : τ33.1 3 = τ30.1 3 := hf_τ33.1 3 (by decide)
                        have w12_τ33 : τ33.1 12 = τ30.1 12 := hf_τ33.1 12 (by decide)
                        have w17_τ33 : τ33.1 17 = τ30.1 17 := hf_τ33.1 17 (by decide)
                        have w18_τ33 : τ33.1 18 = τ30.1 18 := hf_τ33.1 18 (by decide)
                        have w20_τ33 : τ33.1 20 = τ30.1 20 := hf_τ33.1 20 (by decide)
                        have g7_τ33 : τ33.2.1 7 = τ30.2.1 7 := hf_τ33.2.1 7 (by decide)
                        have g9_τ33 : τ33.2.1 9 = τ30.2.1 9 := hf_τ33.2.1 9 (by decide)
                        first | (have ca_τ33 := congr (congrArg ca g9_τ33) w3_τ33) | skip
                        first | (have o6_τ33 := congrArg oc g6_τ33) | skip
                        first | (have o7_τ33 := congrArg oc g7_τ33) | skip
                        have W0 : τ33.1 0 = σ.1 0 := by omega
                        have W17 : τ33.1 17 = σ.1 17 := by omega
                        have W18 : τ33.1 18 = σ.1 18 := by omega
                        have G7 : τ33.2.1 7 = σ.2.1 7 := (g7_τ33).trans G7
                        have A6 : ∀ j, (-1) ≤ τ33.2.1 6 j ∧ τ33.2.1 6 j ≤ 999 := fun j => hT.2 6 j
                        have A7 : ∀ j, (-1) ≤ τ33.2.1 7 j ∧ τ33.2.1 7 j ≤ 1499 := fun j => hT.2 7 j
                        have A9 : ∀ j, 0 ≤ τ33.2.1 9 j ∧ τ33.2.1 9 j ≤ 1 := fun j => hT.2 9 j
                        have v0 : 0 ≤ τ33.1 0 ∧ τ33.1 0 ≤ 60000 := hT.1 0
                        have v2 : 0 ≤ τ33.1 2 ∧ τ33.1 2 ≤ 30000 := hT.1 2
                        have v3 : 0 ≤ τ33.1 3 ∧ τ33.1 3 ≤ 1000 := hT.1 3
                        have v12 : 0 ≤ τ33.1 12 ∧ τ33.1 12 ≤ 1000 := hT.1 12
                        have v17 : 0 ≤ τ33.1 17 ∧ τ33.1 17 ≤ 60000 := hT.1 17
                        have v18 : 0 ≤ τ33.1 18 ∧ τ33.1 18 ≤ 60000 := hT.1 18
                        have v20 : 0 ≤ τ33.1 20 ∧ τ33.1 20 ≤ 19 := hT.1 20
                        refine ⟨(show 0 ≤ n1 ∧ n1 ≤ 1 from by omega), ?_⟩
                        replace hT := mT_a (k := 8) (j := (σ.1 3)) hT (show (0 : Int) ≤ n1 ∧ n1 ≤ 1 from by omega)
                        replace hT := mT_a (k := 10) (j := (σ.1 3)) hT (show (-1 : Int) ≤ (-1) ∧ (-1) ≤ 999 from by omega)
                        replace hT := mT_a (k := 11) (j := (σ.1 3)) hT (show (-1 : Int) ≤ (-1) ∧ (-1) ≤ 1499 from by omega)
                        replace hT := mT_a (k := 12) (j := (σ.1 3)) hT (show (0 : Int) ≤ 0 ∧ 0 ≤ 1 from by omega)
                        have cn := ca_n (σ.2.1 9) ((σ.1 3)) n1 (by omega)
                        have cb3 := ca_b (st (σ.2.1 9) ((σ.1 3)) n1) (n := (σ.1 3) + 1) (by omega)
                        refine ⟨_, K_X13_markNamed hT (show 0 ≤ (σ.1 3) from by omega) (show (σ.1 3) < 1000 from by omega), ?_⟩
                        intro τ37 hn_τ37 hf_τ37 hq
                        replace hT := hq
                        have w0_τ37 : τ37.1 0 = τ33.1 0 := hf_τ37.1 0 (by decide)
                        have w2_τ37 : τ37.1 2 = τ33.1 2 := hf_τ37.1 2 (by decide)
                        have w3_τ37 : τ37.1 3 = τ33.1 3 := hf_τ37.1 3 (by decide)
                        have w12_τ37 : τ37.1 12 = τ33.1 12 := hf_τ37.1 12 (by decide)
                        have w17_τ37 : τ37.1 17 = τ33.1 17 := hf_τ37.1 17 (by decide)
                        have w18_τ37 : τ37.1 18 = τ33.1 18 := hf_τ37.1 18 (by decide)
                        have w20_τ37 : τ37.1 20 = τ33.1 20 := hf_τ37.1 20 (by decide)
                        have g6_τ37 : τ37.2.1 6 = τ33.2.1 6 := hf_τ37.2.1 6 (by decide)
                        have g7_τ37 : τ37.2.1 7 = τ33.2.1 7 := hf_τ37.2.1 7 (by decide)
                        have g9_τ37 : τ37.2.1 9 = τ33.2.1 9 := hf_τ37.2.1 9 (by decide)
                        first | (have ca_τ37 := congr (congrArg ca g9_τ37) w3_τ37) | skip
                        first | (have o6_τ37 := congrArg oc g6_τ37) | skip
                        first | (have o7_τ37 := congrArg oc g7_τ37) | skip
                        have W0 : τ37.1 0 = σ.1 0 := by omega
                        have W17 : τ37.1 17 = σ.1 17 := by omega
                        have W18 : τ37.1 18 = σ.1 18 := by omega
                        have G7 : τ37.2.1 7 = σ.2.1 7 := (g7_τ37).trans G7
                        have A6 : ∀ j, (-1) ≤ τ37.2.1 6 j ∧ τ37.2.1 6 j ≤ 999 := fun j => hT.2 6 j
                        have A7 : ∀ j, (-1) ≤ τ37.2.1 7 j ∧ τ37.2.1 7 j ≤ 1499 := fun j => hT.2 7 j
                        have A9 : ∀ j, 0 ≤ τ37.2.1 9 j ∧ τ37.2.1 9 j ≤ 1 := fun j => hT.2 9 j
                        have v0 : 0 ≤ τ37.1 0 ∧ τ37.1 0 ≤ 60000 := hT.1 0
                        have v2 : 0 ≤ τ37.1 2 ∧ τ37.1 2 ≤ 30000 := hT.1 2
                        have v3 : 0 ≤ τ37.1 3 ∧ τ37.1 3 ≤ 1000 := hT.1 3
                        have v12 : 0 ≤ τ37.1 12 ∧ τ37.1 12 ≤ 1000 := hT.1 12
                        have v17 : 0 ≤ τ37.1 17 ∧ τ37.1 17 ≤ 60000 := hT.1 17
                        have v18 : 0 ≤ τ37.1 18 ∧ τ37.1 18 ≤ 60000 := hT.1 18
                        have v20 : 0 ≤ τ37.1 20 ∧ τ37.1 20 ≤ 19 := hT.1 20
                        refine h214 _ _ _ ?_
                        first | (have nn9 : τ37.2.1 9 = σ.2.1 9 := by rw [g9_τ37, g9_τ33, g9_τ30]) | skip
                        first | (have nn3 : τ37.1 3 = σ.1 3 + 1 := by omega) | skip
                        first | (have cn2 : ca (st (τ37.2.1 9) (σ.1 3) n1) (τ37.1 3) = ca (st (σ.2.1 9) (σ.1 3) n1) (σ.1 3 + 1) := by rw [nn9, nn3]) | skip
                        refine ⟨(show 0 ≤ (σ.1 3) ∧ (σ.1 3) < 1001 from by omega), ?_⟩
                        refine ⟨(show 0 ≤ n1 ∧ n1 ≤ 1 from by omega), ?_⟩
                        replace hT := mT_a (k := 9) (j := (σ.1 3)) hT (show (0 : Int) ≤ n1 ∧ n1 ≤ 1 from by omega)
                        refine ⟨fun c43 => ?_, fun c43 => ?_⟩
                        ·
                          exact ⟨hT, (show oc (τ37.2.1 6) ≤ (τ37.1 3) from by omega), (show (τ37.1 12) ≤ ca ((st (τ37.2.1 9) (σ.1 3) n1)) (τ37.1 3) from by omega), (show j_lt (τ37.2.1 6) (τ37.1 3) from by (intro e; first | exact p6 e | (rw [g6_τ12, w3_τ12]; exact p6 e) | (rw [g6_τ40, w3_τ40]; exact p6 e) | (obtain ⟨ee, he⟩ := q31_2; rw [g6_τ37, he]; unfold st; split; omega; have := p6 e; rw [g6_τ30]; omega)))⟩
                        ·
                          refine ⟨(show 0 ≤ τ37.1 12 ∧ τ37.1 12 < 1001 from by omega), ?_⟩
                          replace hT := mT_a (k := 30) (j := (τ37.1 12)) hT (show (0 : Int) ≤ (σ.1 3) ∧ (σ.1 3) ≤ 999 from by omega)
                          refine ⟨(⟨by omega, by omega⟩ : rg (τ37.1 12 + 1)), ?_⟩
                          replace hT := mT_v (i := 12) hT (show 0 ≤ (τ37.1 12 + 1) ∧ (τ37.1 12 + 1) ≤ 1000 from by omega)
                          exact ⟨hT, (show oc (τ37.2.1 6) ≤ (τ37.1 3) from by omega), (show ((τ37.1 12 + 1)) ≤ ca ((st (τ37.2.1 9) (σ.1 3) n1)) (τ37.1 3) from by omega), (show j_lt (τ37.2.1 6) (τ37.1 3) from by (intro e; first | exact p6 e | (rw [g6_τ12, w3_τ12]; exact p6 e) | (rw [g6_τ40, w3_τ40]; exact p6 e) | (obtain ⟨ee, he⟩ := q31_2; rw [g6_τ37, he]; unfold st; split; omega; have := p6 e; rw [g6_τ30]; omega)))⟩
                    ·
                      refine h118 _ ?_
                      refine ⟨_, K_X13_failHere hT (show 0 ≤ 7 from by omega) (show 7 ≤ 19 from by omega), ?_⟩
                      intro τ40 hn_τ40 hf_τ40 hq
                      obtain ⟨hT, q38_1, q38_2⟩ := hq
                      replace q38_1 : ¬ (σ.1 20) = 0 → (τ40.1 20) = (σ.1 20) := q38_1
                      replace q38_2 : (σ.1 20) = 0 → (τ40.1 20) = 7 := q38_2
                      have w0_τ40 : τ40.1 0 = σ.1 0 := hf_τ40.1 0 (by decide)
                      have w2_τ40 : τ40.1 2 = σ.1 2 := hf_τ40.1 2 (by decide)
                      have w3_τ40 : τ40.1 3 = σ.1 3 := hf_τ40.1 3 (by decide)
                      have w12_τ40 : τ40.1 12 = σ.1 12 := hf_τ40.1 12 (by decide)
                      have w17_τ40 : τ40.1 17 = σ.1 17 := hf_τ40.1 17 (by decide)
                      have w18_τ40 : τ40.1 18 = σ.1 18 := hf_τ40.1 18 (by decide)
                      have g6_τ40 : τ40.2.1 6 = σ.2.1 6 := hf_τ40.2.1 6 (by decide)
                      have g7_τ40 : τ40.2.1 7 = σ.2.1 7 := hf_τ40.2.1 7 (by decide)
                      have g9_τ40 : τ40.2.1 9 = σ.2.1 9 := hf_τ40.2.1 9 (by decide)
                      first | (have ca_τ40 := congr (congrArg ca g9_τ40) w3_τ40) | skip
                      first | (have o6_τ40 := congrArg oc g6_τ40) | skip
                      first | (have o7_τ40 := congrArg oc g7_τ40) | skip
                      have W0 : τ40.1 0 = σ.1 0 := by omega
                      have W17 : τ40.1 17 = σ.1 17 := by omega
                      have W18 : τ40.1 18 = σ.1 18 := by omega
                      have G7 : τ40.2.1 7 = σ.2.1 7 := (g7_τ40).trans G7
                      have Y1 : j_lt (τ40.2.1 6) (τ40.1 3) := by rw [show (j_lt (τ40.2.1 6) (τ40.1 3)) = (j_lt (σ.2.1 6) (σ.1 3)) from by rw [w3_τ40, g6_τ40]]; exact Y1
                      have A6 : ∀ j, (-1) ≤ τ40.2.1 6 j ∧ τ40.2.1 6 j ≤ 999 := fun j => hT.2 6 j
                      have A7 : ∀ j, (-1) ≤ τ40.2.1 7 j ∧ τ40.2.1 7 j ≤ 1499 := fun j => hT.2 7 j
                      have A9 : ∀ j, 0 ≤ τ40.2.1 9 j ∧ τ40.2.1 9 j ≤ 1 := fun j => hT.2 9 j
                      have v0 : 0 ≤ τ40.1 0 ∧ τ40.1 0 ≤ 60000 := hT.1 0
                      have v2 : 0 ≤ τ40.1 2 ∧ τ40.1 2 ≤ 30000 := hT.1 2
                      have v3 : 0 ≤ τ40.1 3 ∧ τ40.1 3 ≤ 1000 := hT.1 3
                      have v12 : 0 ≤ τ40.1 12 ∧ τ40.1 12 ≤ 1000 := hT.1 12
                      have v17 : 0 ≤ τ40.1 17 ∧ τ40.1 17 ≤ 60000 := hT.1 17
                      have v18 : 0 ≤ τ40.1 18 ∧ τ40.1 18 ≤ 60000 := hT.1 18
                      have v20 : 0 ≤ τ40.1 20 ∧ τ40.1 20 ≤ 19 := hT.1 20
                      exact ⟨hT, (show oc (τ40.2.1 6) ≤ (τ40.1 3) from by omega), (show (τ40.1 12) ≤ ca (τ40.2.1 9) (τ40.1 3) from by omega), (show j_lt (τ40.2.1 6) (τ40.1 3) from Y1)⟩
                ·
                  have ax : x2 < (σ.1 3) := by rcases q1_2 with h | ⟨e, h⟩; omega; rw [h]; exact p6 e
                  intro x18 r_x18 e_x18
                  have b_x18 : 0 ≤ x18 ∧ x18 ≤ 1 := by rw [e_x18]; exact hT.2 9 _
                  refine ⟨fun c19 => ?_, fun c19 => ?_⟩
                  ·
                    have ct := fun h1 : ¬ n1 = 0 => fun h2 : x18 = 0 => ca_t1 (σ.2.1 9) x2 ((σ.1 3)) n1 (by omega) ax (by rw [← e_x18]; exact h2) h1
                    have cb2 := ca_b (st (σ.2.1 9) x2 n1) (n := (σ.1 3)) (by omega)
                    refine h91 _ _ _ _ _ ?_
                    refine ⟨fun c20 => ?_, fun c20 => ?_⟩
                    ·
                      refine h118 _ ?_
                      refine ⟨_, K_X13_failHere hT (show 0 ≤ 7 from by omega) (show 7 ≤ 19 from by omega), ?_⟩
                      intro τ40 hn_τ40 hf_τ40 hq
                      obtain ⟨hT, q38_1, q38_2⟩ := hq
                      replace q38_1 : ¬ (σ.1 20) = 0 → (τ40.1 20) = (σ.1 20) := q38_1
                      replace q38_2 : (σ.1 20) = 0 → (τ40.1 20) = 7 := q38_2
                      have w0_τ40 : τ40.1 0 = σ.1 0 := hf_τ40.1 0 (by decide)
                      have w2_τ40 : τ40.1 2 = σ.1 2 := hf_τ40.1 2 (by decide)
                      have w3_τ40 : τ40.1 3 = σ.1 3 := hf_τ40.1 3 (by decide)
                      have w12_τ40 : τ40.1 12 = σ.1 12 := hf_τ40.1 12 (by decide)
                      have w17_τ40 : τ40.1 17 = σ.1 17 := hf_τ40.1 17 (by decide)
                      have w18_τ40 : τ40.1 18 = σ.1 18 := hf_τ40.1 18 (by decide)
                      have g6_τ40 : τ40.2.1 6 = σ.2.1 6 := hf_τ40.2.1 6 (by decide)
                      have g7_τ40 : τ40.2.1 7 = σ.2.1 7 := hf_τ40.2.1 7 (by decide)
                      have g9_τ40 : τ40.2.1 9 = σ.2.1 9 := hf_τ40.2.1 9 (by decide)
                      first | (have ca_τ40 := congr (congrArg ca g9_τ40) w3_τ40) | skip
                      first | (have o6_τ40 := congrArg oc g6_τ40) | skip
                      first | (have o7_τ40 := congrArg oc g7_τ40) | skip
                      have W0 : τ40.1 0 = σ.1 0 := by omega
                      have W17 : τ40.1 17 = σ.1 17 := by omega
                      have W18 : τ40.1 18 = σ.1 18 := by omega
                      have G7 : τ40.2.1 7 = σ.2.1 7 := (g7_τ40).trans G7
                      have Y1 : j_lt (τ40.2.1 6) (τ40.1 3) := by rw [show (j_lt (τ40.2.1 6) (τ40.1 3)) = (j_lt (σ.2.1 6) (σ.1 3)) from by rw [w3_τ40, g6_τ40]]; exact Y1
                      have A6 : ∀ j, (-1) ≤ τ40.2.1 6 j ∧ τ40.2.1 6 j ≤ 999 := fun j => hT.2 6 j
                      have A7 : ∀ j, (-1) ≤ τ40.2.1 7 j ∧ τ40.2.1 7 j ≤ 1499 := fun j => hT.2 7 j
                      have A9 : ∀ j, 0 ≤ τ40.2.1 9 j ∧ τ40.2.1 9 j ≤ 1 := fun j => hT.2 9 j
                      have v0 : 0 ≤ τ40.1 0 ∧ τ40.1 0 ≤ 60000 := hT.1 0
                      have v2 : 0 ≤ τ40.1 2 ∧ τ40.1 2 ≤ 30000 := hT.1 2
                      have v3 : 0 ≤ τ40.1 3 ∧ τ40.1 3 ≤ 1000 := hT.1 3
                      have v12 : 0 ≤ τ40.1 12 ∧ τ40.1 12 ≤ 1000 := hT.1 12
                      have v17 : 0 ≤ τ40.1 17 ∧ τ40.1 17 ≤ 60000 := hT.1 17
                      have v18 : 0 ≤ τ40.1 18 ∧ τ40.1 18 ≤ 60000 := hT.1 18
                      have v20 : 0 ≤ τ40.1 20 ∧ τ40.1 20 ≤ 19 := hT.1 20
                      exact ⟨hT, (show oc (τ40.2.1 6) ≤ (τ40.1 3) from by omega), (show (τ40.1 12) ≤ ca (τ40.2.1 9) (τ40.1 3) from by omega), (show j_lt (τ40.2.1 6) (τ40.1 3) from Y1)⟩
                    ·
                      refine ⟨_, K_X13_findLabel_q1 hT (show 0 ≤ (σ.1 17) from by omega) (show (σ.1 17) + (σ.1 18) ≤ 60000 from by omega) (show oc (σ.2.1 7) < 4096 from by omega), ?_⟩
                      intro x22 r_x22 hq
                      have q21_1 := hq
                      replace q21_1 : -1 ≤ x22 ∧ x22 ≤ 1499 := q21_1
                      refine ⟨fun c24 => ?_, fun c24 => ?_⟩
                      ·
                        refine ⟨fun c25 => ?_, fun c25 => ?_⟩
                        ·
                          refine h214 _ _ _ ?_
                          first | (have nn9 : τ37.2.1 9 = σ.2.1 9 := by rw [g9_τ37, g9_τ33, g9_τ30]) | skip
                          first | (have nn3 : τ37.1 3 = σ.1 3 + 1 := by omega) | skip
                          first | (have cn2 : ca (st (τ37.2.1 9) (σ.1 3) n1) (τ37.1 3) = ca (st (σ.2.1 9) (σ.1 3) n1) (σ.1 3 + 1) := by rw [nn9, nn3]) | skip
                          refine ⟨(show 0 ≤ x2 ∧ x2 < 1001 from by omega), ?_⟩
                          refine ⟨(show 0 ≤ n1 ∧ n1 ≤ 1 from by omega), ?_⟩
                          replace hT := mT_a (k := 9) (j := x2) hT (show (0 : Int) ≤ n1 ∧ n1 ≤ 1 from by omega)
                          refine ⟨fun c43 => ?_, fun c43 => ?_⟩
                          ·
                            exact ⟨hT, (show oc (σ.2.1 6) ≤ (σ.1 3) from by omega), (show (σ.1 12) ≤ ca ((st (σ.2.1 9) x2 n1)) (σ.1 3) from by omega), (show j_lt (σ.2.1 6) (σ.1 3) from Y1)⟩
                          ·
                            refine ⟨(show 0 ≤ σ.1 12 ∧ σ.1 12 < 1001 from by omega), ?_⟩
                            replace hT := mT_a (k := 30) (j := (σ.1 12)) hT (show (0 : Int) ≤ x2 ∧ x2 ≤ 999 from by omega)
                            refine ⟨(⟨by omega, by omega⟩ : rg (σ.1 12 + 1)), ?_⟩
                            replace hT := mT_v (i := 12) hT (show 0 ≤ (σ.1 12 + 1) ∧ (σ.1 12 + 1) ≤ 1000 from by omega)
                            exact ⟨hT, (show oc (σ.2.1 6) ≤ (σ.1 3) from by omega), (show ((σ.1 12 + 1)) ≤ ca ((st (σ.2.1 9) x2 n1)) (σ.1 3) from by omega), (show j_lt (σ.2.1 6) (σ.1 3) from Y1)⟩
                        ·
                          refine ⟨(⟨by omega, by omega⟩ : rg (σ.1 3 + 1)), ?_⟩
                          replace hT := mT_v (i := 3) hT (show 0 ≤ (σ.1 3 + 1) ∧ (σ.1 3 + 1) ≤ 1000 from by omega)
                          refine ⟨(show 0 ≤ σ.1 3 ∧ σ.1 3 < 1001 from by omega), ?_⟩
                          replace hT := mT_a (k := 2) (j := (σ.1 3)) hT (show (0 : Int) ≤ (σ.1 2) ∧ (σ.1 2) ≤ 30000 from by omega)
                          replace hT := mT_a (k := 3) (j := (σ.1 3)) hT (show (0 : Int) ≤ (σ.1 18) ∧ (σ.1 18) ≤ 60 from by omega)
                          refine ⟨_, K_X13_keepChars hT (show 0 ≤ (σ.1 17) from by omega) (show 0 ≤ (σ.1 18) from by omega) (show (σ.1 17) + (σ.1 18) ≤ 60000 from by omega) (show (σ.1 2) + (σ.1 18) ≤ 30000 from by omega), ?_⟩
                          intro τ30 hn_τ30 hf_τ30 hq
                          obtain ⟨hT, q28_1⟩ := hq
                          replace q28_1 : (τ30.1 2) = (σ.1 2) + (σ.1 18) := q28_1
                          have w0_τ30 : τ30.1 0 = σ.1 0 := hf_τ30.1 0 (by decide)
                          have w3_τ30 : τ30.1 3 = (σ.1 3 + 1) := hf_τ30.1 3 (by decide)
                          have w12_τ30 : τ30.1 12 = σ.1 12 := hf_τ30.1 12 (by decide)
                          have w17_τ30 : τ30.1 17 = σ.1 17 := hf_τ30.1 17 (by decide)
                          have w18_τ30 : τ30.1 18 = σ.1 18 := hf_τ30.1 18 (by decide)
                          have w20_τ30 : τ30.1 20 = σ.1 20 := hf_τ30.1 20 (by decide)
                          have g6_τ30 : τ30.2.1 6 = σ.2.1 6 := hf_τ30.2.1 6 (by decide)
                          have g7_τ30 : τ30.2.1 7 = σ.2.1 7 := hf_τ30.2.1 7 (by decide)
                          have g9_τ30 : τ30.2.1 9 = σ.2.1 9 := hf_τ30.2.1 9 (by decide)
                          first | (have ca_τ30 := congr (congrArg ca g9_τ30) w3_τ30) | skip
                          first | (have o6_τ30 := congrArg oc g6_τ30) | skip
                          first | (have o7_τ30 := congrArg oc g7_τ30) | skip
                          have W0 : τ30.1 0 = σ.1 0 := by omega
                          have W17 : τ30.1 17 = σ.1 17 := by omega
                          have W18 : τ30.1 18 = σ.1 18 := by omega
                          have G7 : τ30.2.1 7 = σ.2.1 7 := (g7_τ30).trans G7
                          have A6 : ∀ j, (-1) ≤ τ30.2.1 6 j ∧ τ30.2.1 6 j ≤ 999 := fun j => hT.2 6 j
                          have A7 : ∀ j, (-1) ≤ τ30.2.1 7 j ∧ τ30.2.1 7 j ≤ 1499 := fun j => hT.2 7 j
                          have A9 : ∀ j, 0 ≤ τ30.2.1 9 j ∧ τ30.2.1 9 j ≤ 1 := fun j => hT.2 9 j
                          have v0 : 0 ≤ τ30.1 0 ∧ τ30.1 0 ≤ 60000 := hT.1 0
                          have v2 : 0 ≤ τ30.1 2 ∧ τ30.1 2 ≤ 30000 := hT.1 2
                          have v3 : 0 ≤ τ30.1 3 ∧ τ30.1 3 ≤ 1000 := hT.1 3
                          have v12 : 0 ≤ τ30.1 12 ∧ τ30.1 12 ≤ 1000 := hT.1 12
                          have v17 : 0 ≤ τ30.1 17 ∧ τ30.1 17 ≤ 60000 := hT.1 17
                          have v18 : 0 ≤ τ30.1 18 ∧ τ30.1 18 ≤ 60000 := hT.1 18
                          have v20 : 0 ≤ τ30.1 20 ∧ τ30.1 20 ≤ 19 := hT.1 20
                          refine ⟨_, K_X13_keepSymbol hT (show 0 ≤ (σ.1 3) from by omega) (show (σ.1 3) < 1000 from by omega) (show oc (τ30.2.1 6) < 4096 from by omega), ?_⟩
                          intro τ33 hn_τ33 hf_τ33 hq
                          obtain ⟨hT, q31_1, q31_2⟩ := hq
                          replace q31_1 : oc (τ33.2.1 6) ≤ oc (τ30.2.1 6) + 1 := q31_1
                          replace q31_2 : ∃ e : Int, τ33.2.1 6 = st (τ30.2.1 6) e (σ.1 3) := q31_2
                          have w0_τ33 : τ33.1 0 = τ30.1 0 := hf_τ33.1 0 (by decide)
                          have w2_τ33 : τ33.1 2 = τ30.1 2 := hf_τ33.1 2 (by decide)
                          have w3_τ33 : τ33.1 3 = τ30.1 3 := hf_τ33.1 3 (by decide)
                          have w12_τ33 : τ33.1 12 = τ30.1 12 := hf_τ33.1 12 (by decide)
                          have w17_τ33 : τ33.1 17 = τ30.1 17 := hf_τ33.1 17 (by decide)
                          have w18_τ33 : τ33.1 18 = τ30.1 18 := hf_τ33.1 18 (by decide)
                          have w20_τ33 : τ33.1 20 = τ30.1 20 := hf_τ33.1 20 (by decide)
                          have g7_τ33 : τ33.2.1 7 = τ30.2.1 7 := hf_τ33.2.1 7 (by decide)
                          have g9_τ33 : τ33.2.1 9 = τ30.2.1 9 := hf_τ33.2.1 9 (by decide)
                          first | (have ca_τ33 := congr (congrArg ca g9_τ33) w3_τ33) | skip
                          first | (have o6_τ33 := congrArg oc g6_τ33) | skip
                          first | (have o7_τ33 := congrArg oc g7_τ33) | skip
                          have W0 : τ33.1 0 = σ.1 0 := by omega
                          have W17 : τ33.1 17 = σ.1 17 := by omega
                          have W18 : τ33.1 18 = σ.1 18 := by omega
                          have G7 : τ33.2.1 7 = σ.2.1 7 := (g7_τ33).trans G7
                          have A6 : ∀ j, (-1) ≤ τ33.2.1 6 j ∧ τ33.2.1 6 j ≤ 999 := fun j => hT.2 6 j
                          have A7 : ∀ j, (-1) ≤ τ33.2.1 7 j ∧ τ33.2.1 7 j ≤ 1499 := fun j => hT.2 7 j
                          have A9 : ∀ j, 0 ≤ τ33.2.1 9 j ∧ τ33.2.1 9 j ≤ 1 := fun j => hT.2 9 j
                          have v0 : 0 ≤ τ33.1 0 ∧ τ33.1 0 ≤ 60000 := hT.1 0
                          have v2 : 0 ≤ τ33.1 2 ∧ τ33.1 2 ≤ 30000 := hT.1 2
                          have v3 : 0 ≤ τ33.1 3 ∧ τ33.1 3 ≤ 1000 := hT.1 3
                          have v12 : 0 ≤ τ33.1 12 ∧ τ33.1 12 ≤ 1000 := hT.1 12
                          have v17 : 0 ≤ τ33.1 17 ∧ τ33.1 17 ≤ 60000 := hT.1 17
                          have v18 : 0 ≤ τ33.1 18 ∧ τ33.1 18 ≤ 60000 := hT.1 18
                          have v20 : 0 ≤ τ33.1 20 ∧ τ33.1 20 ≤ 19 := hT.1 20
                          refine ⟨(show 0 ≤ n1 ∧ n1 ≤ 1 from by omega), ?_⟩
                          replace hT := mT_a (k := 8) (j := (σ.1 3)) hT (show (0 : Int) ≤ n1 ∧ n1 ≤ 1 from by omega)
                          replace hT := mT_a (k := 10) (j := (σ.1 3)) hT (show (-1 : Int) ≤ (-1) ∧ (-1) ≤ 999 from by omega)
                          replace hT := mT_a (k := 11) (j := (σ.1 3)) hT (show (-1 : Int) ≤ (-1) ∧ (-1) ≤ 1499 from by omega)
                          replace hT := mT_a (k := 12) (j := (σ.1 3)) hT (show (0 : Int) ≤ 0 ∧ 0 ≤ 1 from by omega)
                          have cn := ca_n (σ.2.1 9) ((σ.1 3)) n1 (by omega)
                          have cb3 := ca_b (st (σ.2.1 9) ((σ.1 3)) n1) (n := (σ.1 3) + 1) (by omega)
                          refine ⟨_, K_X13_markNamed hT (show 0 ≤ (σ.1 3) from by omega) (show (σ.1 3) < 1000 from by omega), ?_⟩
                          intro τ37 hn_τ37 hf_τ37 hq
                          replace hT := hq
                          have w0_τ37 : τ37.1 0 = τ33.1 0 := hf_τ37.1 0 (by decide)
                          have w2_τ37 : τ37.1 2 = τ33.1 2 := hf_τ37.1 2 (by decide)
                          have w3_τ37 : τ37.1 3 = τ33.1 3 := hf_τ37.1 3 (by decide)
                          have w12_τ37 : τ37.1 12 = τ33.1 12 := hf_τ37.1 12 (by decide)
                          have w17_τ37 : τ37.1 17 = τ33.1 17 := hf_τ37.1 17 (by decide)
                          have w18_τ37 : τ37.1 18 = τ33.1 18 := hf_τ37.1 18 (by decide)
                          have w20_τ37 : τ37.1 20 = τ33.1 20 := hf_τ37.1 20 (by decide)
                          have g6_τ37 : τ37.2.1 6 = τ33.2.1 6 := hf_τ37.2.1 6 (by decide)
                          have g7_τ37 : τ37.2.1 7 = τ33.2.1 7 := hf_τ37.2.1 7 (by decide)
                          have g9_τ37 : τ37.2.1 9 = τ33.2.1 9 := hf_τ37.2.1 9 (by decide)
                          first | (have ca_τ37 := congr (congrArg ca g9_τ37) w3_τ37) | skip
                          first | (have o6_τ37 := congrArg oc g6_τ37) | skip
                          first | (have o7_τ37 := congrArg oc g7_τ37) | skip
                          have W0 : τ37.1 0 = σ.1 0 := by omega
                          have W17 : τ37.1 17 = σ.1 17 := by omega
                          have W18 : τ37.1 18 = σ.1 18 := by omega
                          have G7 : τ37.2.1 7 = σ.2.1 7 := (g7_τ37).trans G7
                          have A6 : ∀ j, (-1) ≤ τ37.2.1 6 j ∧ τ37.2.1 6 j ≤ 999 := fun j => hT.2 6 j
                          have A7 : ∀ j, (-1) ≤ τ37.2.1 7 j ∧ τ37.2.1 7 j ≤ 1499 := fun j => hT.2 7 j
                          have A9 : ∀ j, 0 ≤ τ37.2.1 9 j ∧ τ37.2.1 9 j ≤ 1 := fun j => hT.2 9 j
                          have v0 : 0 ≤ τ37.1 0 ∧ τ37.1 0 ≤ 60000 := hT.1 0
                          have v2 : 0 ≤ τ37.1 2 ∧ τ37.1 2 ≤ 30000 := hT.1 2
                          have v3 : 0 ≤ τ37.1 3 ∧ τ37.1 3 ≤ 1000 := hT.1 3
                          have v12 : 0 ≤ τ37.1 12 ∧ τ37.1 12 ≤ 1000 := hT.1 12
                          have v17 : 0 ≤ τ37.1 17 ∧ τ37.1 17 ≤ 60000 := hT.1 17
                          have v18 : 0 ≤ τ37.1 18 ∧ τ37.1 18 ≤ 60000 := hT.1 18
                          have v20 : 0 ≤ τ37.1 20 ∧ τ37.1 20 ≤ 19 := hT.1 20
                          refine h214 _ _ _ ?_
                          first | (have nn9 : τ37.2.1 9 = σ.2.1 9 := by rw [g9_τ37, g9_τ33, g9_τ30]) | skip
                          first | (have nn3 : τ37.1 3 = σ.1 3 + 1 := by omega) | skip
                          first | (have cn2 : ca (st (τ37.2.1 9) (σ.1 3) n1) (τ37.1 3) = ca (st (σ.2.1 9) (σ.1 3) n1) (σ.1 3 + 1) := by rw [nn9, nn3]) | skip
                          refine ⟨(show 0 ≤ (σ.1 3) ∧ (σ.1 3) < 1001 from by omega), ?_⟩
                          refine ⟨(show 0 ≤ n1 ∧ n1 ≤ 1 from by omega), ?_⟩
                          replace hT := mT_a (k := 9) (j := (σ.1 3)) hT (show (0 : Int) ≤ n1 ∧ n1 ≤ 1 from by omega)
                          refine ⟨fun c43 => ?_, fun c43 => ?_⟩
                          ·
                            exact ⟨hT, (show oc (τ37.2.1 6) ≤ (τ37.1 3) from by omega), (show (τ37.1 12) ≤ ca ((st (τ37.2.1 9) (σ.1 3) n1)) (τ37.1 3) from by omega), (show j_lt (τ37.2.1 6) (τ37.1 3) from by (intro e; first | exact p6 e | (rw [g6_τ12, w3_τ12]; exact p6 e) | (rw [g6_τ40, w3_τ40]; exact p6 e) | (obtain ⟨ee, he⟩ := q31_2; rw [g6_τ37, he]; unfold st; split; omega; have := p6 e; rw [g6_τ30]; omega)))⟩
                          ·
                            refine ⟨(show 0 ≤ τ37.1 12 ∧ τ37.1 12 < 1001 from by omega), ?_⟩
                            replace hT := mT_a (k := 30) (j := (τ37.1 12)) hT (show (0 : Int) ≤ (σ.1 3) ∧ (σ.1 3) ≤ 999 from by omega)
                            refine ⟨(⟨by omega, by omega⟩ : rg (τ37.1 12 + 1)), ?_⟩
                            replace hT := mT_v (i := 12) hT (show 0 ≤ (τ37.1 12 + 1) ∧ (τ37.1 12 + 1) ≤ 1000 from by omega)
                            exact ⟨hT, (show oc (τ37.2.1 6) ≤ (τ37.1 3) from by omega), (show ((τ37.1 12 + 1)) ≤ ca ((st (τ37.2.1 9) (σ.1 3) n1)) (τ37.1 3) from by omega), (show j_lt (τ37.2.1 6) (τ37.1 3) from by (intro e; first | exact p6 e | (rw [g6_τ12, w3_τ12]; exact p6 e) | (rw [g6_τ40, w3_τ40]; exact p6 e) | (obtain ⟨ee, he⟩ := q31_2; rw [g6_τ37, he]; unfold st; split; omega; have := p6 e; rw [g6_τ30]; omega)))⟩
                      ·
                        refine h118 _ ?_
                        refine ⟨_, K_X13_failHere hT (show 0 ≤ 7 from by omega) (show 7 ≤ 19 from by omega), ?_⟩
                        intro τ40 hn_τ40 hf_τ40 hq
                        obtain ⟨hT, q38_1, q38_2⟩ := hq
                        replace q38_1 : ¬ (σ.1 20) = 0 → (τ40.1 20) = (σ.1 20) := q38_1
                        replace q38_2 : (σ.1 20) = 0 → (τ40.1 20) = 7 := q38_2
                        have w0_τ40 : τ40.1 0 = σ.1 0 := hf_τ40.1 0 (by decide)
                        have w2_τ40 : τ40.1 2 = σ.1 2 := hf_τ40.1 2 (by decide)
                        have w3_τ40 : τ40.1 3 = σ.1 3 := hf_τ40.1 3 (by decide)
                        have w12_τ40 : τ40.1 12 = σ.1 12 := hf_τ40.1 12 (by decide)
                        have w17_τ40 : τ40.1 17 = σ.1 17 := hf_τ40.1 17 (by decide)
                        have w18_τ40 : τ40.1 18 = σ.1 18 := hf_τ40.1 18 (by decide)
                        have g6_τ40 : τ40.2.1 6 = σ.2.1 6 := hf_τ40.2.1 6 (by decide)
                        have g7_τ40 : τ40.2.1 7 = σ.2.1 7 := hf_τ40.2.1 7 (by decide)
                        have g9_τ40 : τ40.2.1 9 = σ.2.1 9 := hf_τ40.2.1 9 (by decide)
                        first | (have ca_τ40 := congr (congrArg ca g9_τ40) w3_τ40) | skip
                        first | (have o6_τ40 := congrArg oc g6_τ40) | skip
                        first | (have o7_τ40 := congrArg oc g7_τ40) | skip
                        have W0 : τ40.1 0 = σ.1 0 := by omega
                        have W17 : τ40.1 17 = σ.1 17 := by omega
                        have W18 : τ40.1 18 = σ.1 18 := by omega
                        have G7 : τ40.2.1 7 = σ.2.1 7 := (g7_τ40).trans G7
                        have Y1 : j_lt (τ40.2.1 6) (τ40.1 3) := by rw [show (j_lt (τ40.2.1 6) (τ40.1 3)) = (j_lt (σ.2.1 6) (σ.1 3)) from by rw [w3_τ40, g6_τ40]]; exact Y1
                        have A6 : ∀ j, (-1) ≤ τ40.2.1 6 j ∧ τ40.2.1 6 j ≤ 999 := fun j => hT.2 6 j
                        have A7 : ∀ j, (-1) ≤ τ40.2.1 7 j ∧ τ40.2.1 7 j ≤ 1499 := fun j => hT.2 7 j
                        have A9 : ∀ j, 0 ≤ τ40.2.1 9 j ∧ τ40.2.1 9 j ≤ 1 := fun j => hT.2 9 j
                        have v0 : 0 ≤ τ40.1 0 ∧ τ40.1 0 ≤ 60000 := hT.1 0
                        have v2 : 0 ≤ τ40.1 2 ∧ τ40.1 2 ≤ 30000 := hT.1 2
                        have v3 : 0 ≤ τ40.1 3 ∧ τ40.1 3 ≤ 1000 := hT.1 3
                        have v12 : 0 ≤ τ40.1 12 ∧ τ40.1 12 ≤ 1000 := hT.1 12
                        have v17 : 0 ≤ τ40.1 17 ∧ τ40.1 17 ≤ 60000 := hT.1 17
                        have v18 : 0 ≤ τ40.1 18 ∧ τ40.1 18 ≤ 60000 := hT.1 18
                        have v20 : 0 ≤ τ40.1 20 ∧ τ40.1 20 ≤ 19 := hT.1 20
                        exact ⟨hT, (show oc (τ40.2.1 6) ≤ (τ40.1 3) from by omega), (show (τ40.1 12) ≤ ca (τ40.2.1 9) (τ40.1 3) from by omega), (show j_lt (τ40.2.1 6) (τ40.1 3) from Y1)⟩
                  ·
                    have ct := fun h1 : ¬ n1 = 0 => fun h2 : x18 = 0 => ca_t1 (σ.2.1 9) x2 ((σ.1 3)) n1 (by omega) ax (by rw [← e_x18]; exact h2) h1
                    have cb2 := ca_b (st (σ.2.1 9) x2 n1) (n := (σ.1 3)) (by omega)
                    refine h91 _ _ _ _ _ ?_
                    refine ⟨fun c20 => ?_, fun c20 => ?_⟩
                    ·
                      refine h118 _ ?_
                      refine ⟨_, K_X13_failHere hT (show 0 ≤ 7 from by omega) (show 7 ≤ 19 from by omega), ?_⟩
                      intro τ40 hn_τ40 hf_τ40 hq
                      obtain ⟨hT, q38_1, q38_2⟩ := hq
                      replace q38_1 : ¬ (σ.1 20) = 0 → (τ40.1 20) = (σ.1 20) := q38_1
                      replace q38_2 : (σ.1 20) = 0 → (τ40.1 20) = 7 := q38_2
                      have w0_τ40 : τ40.1 0 = σ.1 0 := hf_τ40.1 0 (by decide)
                      have w2_τ40 : τ40.1 2 = σ.1 2 := hf_τ40.1 2 (by decide)
                      have w3_τ40 : τ40.1 3 = σ.1 3 := hf_τ40.1 3 (by decide)
                      have w12_τ40 : τ40.1 12 = σ.1 12 := hf_τ40.1 12 (by decide)
                      have w17_τ40 : τ40.1 17 = σ.1 17 := hf_τ40.1 17 (by decide)
                      have w18_τ40 : τ40.1 18 = σ.1 18 := hf_τ40.1 18 (by decide)
                      have g6_τ40 : τ40.2.1 6 = σ.2.1 6 := hf_τ40.2.1 6 (by decide)
                      have g7_τ40 : τ40.2.1 7 = σ.2.1 7 := hf_τ40.2.1 7 (by decide)
                      have g9_τ40 : τ40.2.1 9 = σ.2.1 9 := hf_τ40.2.1 9 (by decide)
                      first | (have ca_τ40 := congr (congrArg ca g9_τ40) w3_τ40) | skip
                      first | (have o6_τ40 := congrArg oc g6_τ40) | skip
                      first | (have o7_τ40 := congrArg oc g7_τ40) | skip
                      have W0 : τ40.1 0 = σ.1 0 := by omega
                      have W17 : τ40.1 17 = σ.1 17 := by omega
                      have W18 : τ40.1 18 = σ.1 18 := by omega
                      have G7 : τ40.2.1 7 = σ.2.1 7 := (g7_τ40).trans G7
                      have Y1 : j_lt (τ40.2.1 6) (τ40.1 3) := by rw [show (j_lt (τ40.2.1 6) (τ40.1 3)) = (j_lt (σ.2.1 6) (σ.1 3)) from by rw [w3_τ40, g6_τ40]]; exact Y1
                      have A6 : ∀ j, (-1) ≤ τ40.2.1 6 j ∧ τ40.2.1 6 j ≤ 999 := fun j => hT.2 6 j
                      have A7 : ∀ j, (-1) ≤ τ40.2.1 7 j ∧ τ40.2.1 7 j ≤ 1499 := fun j => hT.2 7 j
                      have A9 : ∀ j, 0 ≤ τ40.2.1 9 j ∧ τ40.2.1 9 j ≤ 1 := fun j => hT.2 9 j
                      have v0 : 0 ≤ τ40.1 0 ∧ τ40.1 0 ≤ 60000 := hT.1 0
                      have v2 : 0 ≤ τ40.1 2 ∧ τ40.1 2 ≤ 30000 := hT.1 2
                      have v3 : 0 ≤ τ40.1 3 ∧ τ40.1 3 ≤ 1000 := hT.1 3
                      have v12 : 0 ≤ τ40.1 12 ∧ τ40.1 12 ≤ 1000 := hT.1 12
                      have v17 : 0 ≤ τ40.1 17 ∧ τ40.1 17 ≤ 60000 := hT.1 17
                      have v18 : 0 ≤ τ40.1 18 ∧ τ40.1 18 ≤ 60000 := hT.1 18
                      have v20 : 0 ≤ τ40.1 20 ∧ τ40.1 20 ≤ 19 := hT.1 20
                      exact ⟨hT, (show oc (τ40.2.1 6) ≤ (τ40.1 3) from by omega), (show (τ40.1 12) ≤ ca (τ40.2.1 9) (τ40.1 3) from by omega), (show j_lt (τ40.2.1 6) (τ40.1 3) from Y1)⟩
                    ·
                      refine ⟨_, K_X13_findLabel_q1 hT (show 0 ≤ (σ.1 17) from by omega) (show (σ.1 17) + (σ.1 18) ≤ 60000 from by omega) (show oc (σ.2.1 7) < 4096 from by omega), ?_⟩
                      intro x22 r_x22 hq
                      have q21_1 := hq
                      replace q21_1 : -1 ≤ x22 ∧ x22 ≤ 1499 := q21_1
                      refine ⟨fun c24 => ?_, fun c24 => ?_⟩
                      ·
                        refine ⟨fun c25 => ?_, fun c25 => ?_⟩
                        ·
                          refine h214 _ _ _ ?_
                          first | (have nn9 : τ37.2.1 9 = σ.2.1 9 := by rw [g9_τ37, g9_τ33, g9_τ30]) | skip
                          first | (have nn3 : τ37.1 3 = σ.1 3 + 1 := by omega) | skip
                          first | (have cn2 : ca (st (τ37.2.1 9) (σ.1 3) n1) (τ37.1 3) = ca (st (σ.2.1 9) (σ.1 3) n1) (σ.1 3 + 1) := by rw [nn9, nn3]) | skip
                          refine ⟨(show 0 ≤ x2 ∧ x2 < 1001 from by omega), ?_⟩
                          refine ⟨(show 0 ≤ n1 ∧ n1 ≤ 1 from by omega), ?_⟩
                          replace hT := mT_a (k := 9) (j := x2) hT (show (0 : Int) ≤ n1 ∧ n1 ≤ 1 from by omega)
                          refine ⟨fun c43 => ?_, fun c43 => ?_⟩
                          ·
                            exact ⟨hT, (show oc (σ.2.1 6) ≤ (σ.1 3) from by omega), (show (σ.1 12) ≤ ca ((st (σ.2.1 9) x2 n1)) (σ.1 3) from by omega), (show j_lt (σ.2.1 6) (σ.1 3) from Y1)⟩
                          ·
                            refine ⟨(show 0 ≤ σ.1 12 ∧ σ.1 12 < 1001 from by omega), ?_⟩
                            replace hT := mT_a (k := 30) (j := (σ.1 12)) hT (show (0 : Int) ≤ x2 ∧ x2 ≤ 999 from by omega)
                            refine ⟨(⟨by omega, by omega⟩ : rg (σ.1 12 + 1)), ?_⟩
                            replace hT := mT_v (i := 12) hT (show 0 ≤ (σ.1 12 + 1) ∧ (σ.1 12 + 1) ≤ 1000 from by omega)
                            exact ⟨hT, (show oc (σ.2.1 6) ≤ (σ.1 3) from by omega), (show ((σ.1 12 + 1)) ≤ ca ((st (σ.2.1 9) x2 n1)) (σ.1 3) from by omega), (show j_lt (σ.2.1 6) (σ.1 3) from Y1)⟩
                        ·
                          refine ⟨(⟨by omega, by omega⟩ : rg (σ.1 3 + 1)), ?_⟩
                          replace hT := mT_v (i := 3) hT (show 0 ≤ (σ.1 3 + 1) ∧ (σ.1 3 + 1) ≤ 1000 from by omega)
                          refine ⟨(show 0 ≤ σ.1 3 ∧ σ.1 3 < 1001 from by omega), ?_⟩
                          replace hT := mT_a (k := 2) (j := (σ.1 3)) hT (show (0 : Int) ≤ (σ.1 2) ∧ (σ.1 2) ≤ 30000 from by omega)
                          replace hT := mT_a (k := 3) (j := (σ.1 3)) hT (show (0 : Int) ≤ (σ.1 18) ∧ (σ.1 18) ≤ 60 from by omega)
                          refine ⟨_, K_X13_keepChars hT (show 0 ≤ (σ.1 17) from by omega) (show 0 ≤ (σ.1 18) from by omega) (show (σ.1 17) + (σ.1 18) ≤ 60000 from by omega) (show (σ.1 2) + (σ.1 18) ≤ 30000 from by omega), ?_⟩
                          intro τ30 hn_τ30 hf_τ30 hq
                          obtain ⟨hT, q28_1⟩ := hq
                          replace q28_1 : (τ30.1 2) = (σ.1 2) + (σ.1 18) := q28_1
                          have w0_τ30 : τ30.1 0 = σ.1 0 := hf_τ30.1 0 (by decide)
                          have w3_τ30 : τ30.1 3 = (σ.1 3 + 1) := hf_τ30.1 3 (by decide)
                          have w12_τ30 : τ30.1 12 = σ.1 12 := hf_τ30.1 12 (by decide)
                          have w17_τ30 : τ30.1 17 = σ.1 17 := hf_τ30.1 17 (by decide)
                          have w18_τ30 : τ30.1 18 = σ.1 18 := hf_τ30.1 18 (by decide)
                          have w20_τ30 : τ30.1 20 = σ.1 20 := hf_τ30.1 20 (by decide)
                          have g6_τ30 : τ30.2.1 6 = σ.2.1 6 := hf_τ30.2.1 6 (by decide)
                          have g7_τ30 : τ30.2.1 7 = σ.2.1 7 := hf_τ30.2.1 7 (by decide)
                          have g9_τ30 : τ30.2.1 9 = σ.2.1 9 := hf_τ30.2.1 9 (by decide)
                          first | (have ca_τ30 := congr (congrArg ca g9_τ30) w3_τ30) | skip
                          first | (have o6_τ30 := congrArg oc g6_τ30) | skip
                          first | (have o7_τ30 := congrArg oc g7_τ30) | skip
                          have W0 : τ30.1 0 = σ.1 0 := by omega
                          have W17 : τ30.1 17 = σ.1 17 := by omega
                          have W18 : τ30.1 18 = σ.1 18 := by omega
                          have G7 : τ30.2.1 7 = σ.2.1 7 := (g7_τ30).trans G7
                          have A6 : ∀ j, (-1) ≤ τ30.2.1 6 j ∧ τ30.2.1 6 j ≤ 999 := fun j => hT.2 6 j
                          have A7 : ∀ j, (-1) ≤ τ30.2.1 7 j ∧ τ30.2.1 7 j ≤ 1499 := fun j => hT.2 7 j
                          have A9 : ∀ j, 0 ≤ τ30.2.1 9 j ∧ τ30.2.1 9 j ≤ 1 := fun j => hT.2 9 j
                          have v0 : 0 ≤ τ30.1 0 ∧ τ30.1 0 ≤ 60000 := hT.1 0
                          have v2 : 0 ≤ τ30.1 2 ∧ τ30.1 2 ≤ 30000 := hT.1 2
                          have v3 : 0 ≤ τ30.1 3 ∧ τ30.1 3 ≤ 1000 := hT.1 3
                          have v12 : 0 ≤ τ30.1 12 ∧ τ30.1 12 ≤ 1000 := hT.1 12
                          have v17 : 0 ≤ τ30.1 17 ∧ τ30.1 17 ≤ 60000 := hT.1 17
                          have v18 : 0 ≤ τ30.1 18 ∧ τ30.1 18 ≤ 60000 := hT.1 18
                          have v20 : 0 ≤ τ30.1 20 ∧ τ30.1 20 ≤ 19 := hT.1 20
                          refine ⟨_, K_X13_keepSymbol hT (show 0 ≤ (σ.1 3) from by omega) (show (σ.1 3) < 1000 from by omega) (show oc (τ30.2.1 6) < 4096 from by omega), ?_⟩
                          intro τ33 hn_τ33 hf_τ33 hq
                          obtain ⟨hT, q31_1, q31_2⟩ := hq
                          replace q31_1 : oc (τ33.2.1 6) ≤ oc (τ30.2.1 6) + 1 := q31_1
                          replace q31_2 : ∃ e : Int, τ33.2.1 6 = st (τ30.2.1 6) e (σ.1 3) := q31_2
                          have w0_τ33 : τ33.1 0 = τ30.1 0 := hf_τ33.1 0 (by decide)
                          have w2_τ33 : τ33.1 2 = τ30.1 2 := hf_τ33.1 2 (by decide)
                          have w3_τ33 : τ33.1 3 = τ30.1 3 := hf_τ33.1 3 (by decide)
                          have w12_τ33 : τ33.1 12 = τ30.1 12 := hf_τ33.1 12 (by decide)
                          have w17_τ33 : τ33.1 17 = τ30.1 17 := hf_τ33.1 17 (by decide)
                          have w18_τ33 : τ33.1 18 = τ30.1 18 := hf_τ33.1 18 (by decide)
                          have w20_τ33 : τ33.1 20 = τ30.1 20 := hf_τ33.1 20 (by decide)
                          have g7_τ33 : τ33.2.1 7 = τ30.2.1 7 := hf_τ33.2.1 7 (by decide)
                          have g9_τ33 : τ33.2.1 9 = τ30.2.1 9 := hf_τ33.2.1 9 (by decide)
                          first | (have ca_τ33 := congr (congrArg ca g9_τ33) w3_τ33) | skip
                          first | (have o6_τ33 := congrArg oc g6_τ33) | skip
                          first | (have o7_τ33 := congrArg oc g7_τ33) | skip
                          have W0 : τ33.1 0 = σ.1 0 := by omega
                          have W17 : τ33.1 17 = σ.1 17 := by omega
                          have W18 : τ33.1 18 = σ.1 18 := by omega
                          have G7 : τ33.2.1 7 = σ.2.1 7 := (g7_τ33).trans G7
                          have A6 : ∀ j, (-1) ≤ τ33.2.1 6 j ∧ τ33.2.1 6 j ≤ 999 := fun j => hT.2 6 j
                          have A7 : ∀ j, (-1) ≤ τ33.2.1 7 j ∧ τ33.2.1 7 j ≤ 1499 := fun j => hT.2 7 j
                          have A9 : ∀ j, 0 ≤ τ33.2.1 9 j ∧ τ33.2.1 9 j ≤ 1 := fun j => hT.2 9 j
                          have v0 : 0 ≤ τ33.1 0 ∧ τ33.1 0 ≤ 60000 := hT.1 0
                          have v2 : 0 ≤ τ33.1 2 ∧ τ33.1 2 ≤ 30000 := hT.1 2
                          have v3 : 0 ≤ τ33.1 3 ∧ τ33.1 3 ≤ 1000 := hT.1 3
                          have v12 : 0 ≤ τ33.1 12 ∧ τ33.1 12 ≤ 1000 := hT.1 12
                          have v17 : 0 ≤ τ33.1 17 ∧ τ33.1 17 ≤ 60000 := hT.1 17
                          have v18 : 0 ≤ τ33.1 18 ∧ τ33.1 18 ≤ 60000 := hT.1 18
                          have v20 : 0 ≤ τ33.1 20 ∧ τ33.1 20 ≤ 19 := hT.1 20
                          refine ⟨(show 0 ≤ n1 ∧ n1 ≤ 1 from by omega), ?_⟩
                          replace hT := mT_a (k := 8) (j := (σ.1 3)) hT (show (0 : Int) ≤ n1 ∧ n1 ≤ 1 from by omega)
                          replace hT := mT_a (k := 10) (j := (σ.1 3)) hT (show (-1 : Int) ≤ (-1) ∧ (-1) ≤ 999 from by omega)
                          replace hT := mT_a (k := 11) (j := (σ.1 3)) hT (show (-1 : Int) ≤ (-1) ∧ (-1) ≤ 1499 from by omega)
                          replace hT := mT_a (k := 12) (j := (σ.1 3)) hT (show (0 : Int) ≤ 0 ∧ 0 ≤ 1 from by omega)
                          have cn := ca_n (σ.2.1 9) ((σ.1 3)) n1 (by omega)
                          have cb3 := ca_b (st (σ.2.1 9) ((σ.1 3)) n1) (n := (σ.1 3) + 1) (by omega)
                          refine ⟨_, K_X13_markNamed hT (show 0 ≤ (σ.1 3) from by omega) (show (σ.1 3) < 1000 from by omega), ?_⟩
                          intro τ37 hn_τ37 hf_τ37 hq
                          replace hT := hq
                          have w0_τ37 : τ37.1 0 = τ33.1 0 := hf_τ37.1 0 (by decide)
                          have w2_τ37 : τ37.1 2 = τ33.1 2 := hf_τ37.1 2 (by decide)
                          have w3_τ37 : τ37.1 3 = τ33.1 3 := hf_τ37.1 3 (by decide)
                          have w12_τ37 : τ37.1 12 = τ33.1 12 := hf_τ37.1 12 (by decide)
                          have w17_τ37 : τ37.1 17 = τ33.1 17 := hf_τ37.1 17 (by decide)
                          have w18_τ37 : τ37.1 18 = τ33.1 18 := hf_τ37.1 18 (by decide)
                          have w20_τ37 : τ37.1 20 = τ33.1 20 := hf_τ37.1 20 (by decide)
                          have g6_τ37 : τ37.2.1 6 = τ33.2.1 6 := hf_τ37.2.1 6 (by decide)
                          have g7_τ37 : τ37.2.1 7 = τ33.2.1 7 := hf_τ37.2.1 7 (by decide)
                          have g9_τ37 : τ37.2.1 9 = τ33.2.1 9 := hf_τ37.2.1 9 (by decide)
                          first | (have ca_τ37 := congr (congrArg ca g9_τ37) w3_τ37) | skip
                          first | (have o6_τ37 := congrArg oc g6_τ37) | skip
                          first | (have o7_τ37 := congrArg oc g7_τ37) | skip
                          have W0 : τ37.1 0 = σ.1 0 := by omega
                          have W17 : τ37.1 17 = σ.1 17 := by omega
                          have W18 : τ37.1 18 = σ.1 18 := by omega
                          have G7 : τ37.2.1 7 = σ.2.1 7 := (g7_τ37).trans G7
                          have A6 : ∀ j, (-1) ≤ τ37.2.1 6 j ∧ τ37.2.1 6 j ≤ 999 := fun j => hT.2 6 j
                          have A7 : ∀ j, (-1) ≤ τ37.2.1 7 j ∧ τ37.2.1 7 j ≤ 1499 := fun j => hT.2 7 j
                          have A9 : ∀ j, 0 ≤ τ37.2.1 9 j ∧ τ37.2.1 9 j ≤ 1 := fun j => hT.2 9 j
                          have v0 : 0 ≤ τ37.1 0 ∧ τ37.1 0 ≤ 60000 := hT.1 0
                          have v2 : 0 ≤ τ37.1 2 ∧ τ37.1 2 ≤ 30000 := hT.1 2
                          have v3 : 0 ≤ τ37.1 3 ∧ τ37.1 3 ≤ 1000 := hT.1 3
                          have v12 : 0 ≤ τ37.1 12 ∧ τ37.1 12 ≤ 1000 := hT.1 12
                          have v17 : 0 ≤ τ37.1 17 ∧ τ37.1 17 ≤ 60000 := hT.1 17
                          have v18 : 0 ≤ τ37.1 18 ∧ τ37.1 18 ≤ 60000 := hT.1 18
                          have v20 : 0 ≤ τ37.1 20 ∧ τ37.1 20 ≤ 19 := hT.1 20
                          refine h214 _ _ _ ?_
                          first | (have nn9 : τ37.2.1 9 = σ.2.1 9 := by rw [g9_τ37, g9_τ33, g9_τ30]) | skip
                          first | (have nn3 : τ37.1 3 = σ.1 3 + 1 := by omega) | skip
                          first | (have cn2 : ca (st (τ37.2.1 9) (σ.1 3) n1) (τ37.1 3) = ca (st (σ.2.1 9) (σ.1 3) n1) (σ.1 3 + 1) := by rw [nn9, nn3]) | skip
                          refine ⟨(show 0 ≤ (σ.1 3) ∧ (σ.1 3) < 1001 from by omega), ?_⟩
                          refine ⟨(show 0 ≤ n1 ∧ n1 ≤ 1 from by omega), ?_⟩
                          replace hT := mT_a (k := 9) (j := (σ.1 3)) hT (show (0 : Int) ≤ n1 ∧ n1 ≤ 1 from by omega)
                          refine ⟨fun c43 => ?_, fun c43 => ?_⟩
                          ·
                            exact ⟨hT, (show oc (τ37.2.1 6) ≤ (τ37.1 3) from by omega), (show (τ37.1 12) ≤ ca ((st (τ37.2.1 9) (σ.1 3) n1)) (τ37.1 3) from by omega), (show j_lt (τ37.2.1 6) (τ37.1 3) from by (intro e; first | exact p6 e | (rw [g6_τ12, w3_τ12]; exact p6 e) | (rw [g6_τ40, w3_τ40]; exact p6 e) | (obtain ⟨ee, he⟩ := q31_2; rw [g6_τ37, he]; unfold st; split; omega; have := p6 e; rw [g6_τ30]; omega)))⟩
                          ·
                            refine ⟨(show 0 ≤ τ37.1 12 ∧ τ37.1 12 < 1001 from by omega), ?_⟩
                            replace hT := mT_a (k := 30) (j := (τ37.1 12)) hT (show (0 : Int) ≤ (σ.1 3) ∧ (σ.1 3) ≤ 999 from by omega)
                            refine ⟨(⟨by omega, by omega⟩ : rg (τ37.1 12 + 1)), ?_⟩
                            replace hT := mT_v (i := 12) hT (show 0 ≤ (τ37.1 12 + 1) ∧ (τ37.1 12 + 1) ≤ 1000 from by omega)
                            exact ⟨hT, (show oc (τ37.2.1 6) ≤ (τ37.1 3) from by omega), (show ((τ37.1 12 + 1)) ≤ ca ((st (τ37.2.1 9) (σ.1 3) n1)) (τ37.1 3) from by omega), (show j_lt (τ37.2.1 6) (τ37.1 3) from by (intro e; first | exact p6 e | (rw [g6_τ12, w3_τ12]; exact p6 e) | (rw [g6_τ40, w3_τ40]; exact p6 e) | (obtain ⟨ee, he⟩ := q31_2; rw [g6_τ37, he]; unfold st; split; omega; have := p6 e; rw [g6_τ30]; omega)))⟩
                      ·
                        refine h118 _ ?_
                        refine ⟨_, K_X13_failHere hT (show 0 ≤ 7 from by omega) (show 7 ≤ 19 from by omega), ?_⟩
                        intro τ40 hn_τ40 hf_τ40 hq
                        obtain ⟨hT, q38_1, q38_2⟩ := hq
                        replace q38_1 : ¬ (σ.1 20) = 0 → (τ40.1 20) = (σ.1 20) := q38_1
                        replace q38_2 : (σ.1 20) = 0 → (τ40.1 20) = 7 := q38_2
                        have w0_τ40 : τ40.1 0 = σ.1 0 := hf_τ40.1 0 (by decide)
                        have w2_τ40 : τ40.1 2 = σ.1 2 := hf_τ40.1 2 (by decide)
                        have w3_τ40 : τ40.1 3 = σ.1 3 := hf_τ40.1 3 (by decide)
                        have w12_τ40 : τ40.1 12 = σ.1 12 := hf_τ40.1 12 (by decide)
                        have w17_τ40 : τ40.1 17 = σ.1 17 := hf_τ40.1 17 (by decide)
                        have w18_τ40 : τ40.1 18 = σ.1 18 := hf_τ40.1 18 (by decide)
                        have g6_τ40 : τ40.2.1 6 = σ.2.1 6 := hf_τ40.2.1 6 (by decide)
                        have g7_τ40 : τ40.2.1 7 = σ.2.1 7 := hf_τ40.2.1 7 (by decide)
                        have g9_τ40 : τ40.2.1 9 = σ.2.1 9 := hf_τ40.2.1 9 (by decide)
                        first | (have ca_τ40 := congr (congrArg ca g9_τ40) w3_τ40) | skip
                        first | (have o6_τ40 := congrArg oc g6_τ40) | skip
                        first | (have o7_τ40 := congrArg oc g7_τ40) | skip
                        have W0 : τ40.1 0 = σ.1 0 := by omega
                        have W17 : τ40.1 17 = σ.1 17 := by omega
                        have W18 : τ40.1 18 = σ.1 18 := by omega
                        have G7 : τ40.2.1 7 = σ.2.1 7 := (g7_τ40).trans G7
                        have Y1 : j_lt (τ40.2.1 6) (τ40.1 3) := by rw [show (j_lt (τ40.2.1 6) (τ40.1 3)) = (j_lt (σ.2.1 6) (σ.1 3)) from by rw [w3_τ40, g6_τ40]]; exact Y1
                        have A6 : ∀ j, (-1) ≤ τ40.2.1 6 j ∧ τ40.2.1 6 j ≤ 999 := fun j => hT.2 6 j
                        have A7 : ∀ j, (-1) ≤ τ40.2.1 7 j ∧ τ40.2.1 7 j ≤ 1499 := fun j => hT.2 7 j
                        have A9 : ∀ j, 0 ≤ τ40.2.1 9 j ∧ τ40.2.1 9 j ≤ 1 := fun j => hT.2 9 j
                        have v0 : 0 ≤ τ40.1 0 ∧ τ40.1 0 ≤ 60000 := hT.1 0
                        have v2 : 0 ≤ τ40.1 2 ∧ τ40.1 2 ≤ 30000 := hT.1 2
                        have v3 : 0 ≤ τ40.1 3 ∧ τ40.1 3 ≤ 1000 := hT.1 3
                        have v12 : 0 ≤ τ40.1 12 ∧ τ40.1 12 ≤ 1000 := hT.1 12
                        have v17 : 0 ≤ τ40.1 17 ∧ τ40.1 17 ≤ 60000 := hT.1 17
                        have v18 : 0 ≤ τ40.1 18 ∧ τ40.1 18 ≤ 60000 := hT.1 18
                        have v20 : 0 ≤ τ40.1 20 ∧ τ40.1 20 ≤ 19 := hT.1 20
                        exact ⟨hT, (show oc (τ40.2.1 6) ≤ (τ40.1 3) from by omega), (show (τ40.1 12) ≤ ca (τ40.2.1 9) (τ40.1 3) from by omega), (show j_lt (τ40.2.1 6) (τ40.1 3) from Y1)⟩
          ·
            refine h54 _ ?_
            refine ⟨_, K_X13_failHere hT (show 0 ≤ 5 from by omega) (show 5 ≤ 19 from by omega), ?_⟩
            intro τ12 hn_τ12 hf_τ12 hq
            obtain ⟨hT, q10_1, q10_2⟩ := hq
            replace q10_1 : ¬ (σ.1 20) = 0 → (τ12.1 20) = (σ.1 20) := q10_1
            replace q10_2 : (σ.1 20) = 0 → (τ12.1 20) = 5 := q10_2
            have w0_τ12 : τ12.1 0 = σ.1 0 := hf_τ12.1 0 (by decide)
            have w2_τ12 : τ12.1 2 = σ.1 2 := hf_τ12.1 2 (by decide)
            have w3_τ12 : τ12.1 3 = σ.1 3 := hf_τ12.1 3 (by decide)
            have w12_τ12 : τ12.1 12 = σ.1 12 := hf_τ12.1 12 (by decide)
            have w17_τ12 : τ12.1 17 = σ.1 17 := hf_τ12.1 17 (by decide)
            have w18_τ12 : τ12.1 18 = σ.1 18 := hf_τ12.1 18 (by decide)
            have g6_τ12 : τ12.2.1 6 = σ.2.1 6 := hf_τ12.2.1 6 (by decide)
            have g7_τ12 : τ12.2.1 7 = σ.2.1 7 := hf_τ12.2.1 7 (by decide)
            have g9_τ12 : τ12.2.1 9 = σ.2.1 9 := hf_τ12.2.1 9 (by decide)
            first | (have ca_τ12 := congr (congrArg ca g9_τ12) w3_τ12) | skip
            first | (have o6_τ12 := congrArg oc g6_τ12) | skip
            first | (have o7_τ12 := congrArg oc g7_τ12) | skip
            have W0 : τ12.1 0 = σ.1 0 := by omega
            have W17 : τ12.1 17 = σ.1 17 := by omega
            have W18 : τ12.1 18 = σ.1 18 := by omega
            have G7 : τ12.2.1 7 = σ.2.1 7 := (g7_τ12).trans G7
            have Y1 : j_lt (τ12.2.1 6) (τ12.1 3) := by rw [show (j_lt (τ12.2.1 6) (τ12.1 3)) = (j_lt (σ.2.1 6) (σ.1 3)) from by rw [w3_τ12, g6_τ12]]; exact Y1
            have A6 : ∀ j, (-1) ≤ τ12.2.1 6 j ∧ τ12.2.1 6 j ≤ 999 := fun j => hT.2 6 j
            have A7 : ∀ j, (-1) ≤ τ12.2.1 7 j ∧ τ12.2.1 7 j ≤ 1499 := fun j => hT.2 7 j
            have A9 : ∀ j, 0 ≤ τ12.2.1 9 j ∧ τ12.2.1 9 j ≤ 1 := fun j => hT.2 9 j
            have v0 : 0 ≤ τ12.1 0 ∧ τ12.1 0 ≤ 60000 := hT.1 0
            have v2 : 0 ≤ τ12.1 2 ∧ τ12.1 2 ≤ 30000 := hT.1 2
            have v3 : 0 ≤ τ12.1 3 ∧ τ12.1 3 ≤ 1000 := hT.1 3
            have v12 : 0 ≤ τ12.1 12 ∧ τ12.1 12 ≤ 1000 := hT.1 12
            have v17 : 0 ≤ τ12.1 17 ∧ τ12.1 17 ≤ 60000 := hT.1 17
            have v18 : 0 ≤ τ12.1 18 ∧ τ12.1 18 ≤ 60000 := hT.1 18
            have v20 : 0 ≤ τ12.1 20 ∧ τ12.1 20 ≤ 19 := hT.1 20
            exact ⟨hT, (show oc (τ12.2.1 6) ≤ (τ12.1 3) from by omega), (show (τ12.1 12) ≤ ca (τ12.2.1 9) (τ12.1 3) from by omega), (show j_lt (τ12.2.1 6) (τ12.1 3) from Y1)⟩
set_option maxHeartbeats 1000000 in
theorem K_X13_readDeclared {n1 : Int} {σ : S0} (hT : m_T σ) (p1 : 0 ≤ n1 ∧ n1 ≤ 1) (p2 : (σ.1 16) ≤ (σ.1 0)) (p3 : oc (σ.2.1 6) ≤ (σ.1 3)) (p4 : oc (σ.2.1 7) < 4096) (p5 : (σ.1 12) ≤ ca (σ.2.1 9) (σ.1 3)) (p6 : j_lt (σ.2.1 6) (σ.1 3)) : W_X13_readDeclared n1 σ (fun (τ : S0) => (m_T τ) ∧ (oc (τ.2.1 6) ≤ (τ.1 3)) ∧ ((τ.1 12) ≤ ca (τ.2.1 9) (τ.1 3)) ∧ ((τ.1 16) ≤ (τ.1 0)) ∧ (¬ (σ.1 20) = 0 → (τ.1 20) = (σ.1 20)) ∧ (j_lt (τ.2.1 6) (τ.1 3))) := by
  have A6 : ∀ j, (-1) ≤ σ.2.1 6 j ∧ σ.2.1 6 j ≤ 999 := fun j => hT.2 6 j
  have A7 : ∀ j, (-1) ≤ σ.2.1 7 j ∧ σ.2.1 7 j ≤ 1499 := fun j => hT.2 7 j
  have A9 : ∀ j, 0 ≤ σ.2.1 9 j ∧ σ.2.1 9 j ≤ 1 := fun j => hT.2 9 j
  have v0 : 0 ≤ σ.1 0 ∧ σ.1 0 ≤ 60000 := hT.1 0
  have v3 : 0 ≤ σ.1 3 ∧ σ.1 3 ≤ 1000 := hT.1 3
  have v12 : 0 ≤ σ.1 12 ∧ σ.1 12 ≤ 1000 := hT.1 12
  have v16 : 0 ≤ σ.1 16 ∧ σ.1 16 ≤ 60000 := hT.1 16
  have v17 : 0 ≤ σ.1 17 ∧ σ.1 17 ≤ 60000 := hT.1 17
  have v18 : 0 ≤ σ.1 18 ∧ σ.1 18 ≤ 60000 := hT.1 18
  have v19 : (-1) ≤ σ.1 19 ∧ σ.1 19 ≤ 125 := hT.1 19
  have v20 : 0 ≤ σ.1 20 ∧ σ.1 20 ≤ 19 := hT.1 20
  have W0 : σ.1 0 = σ.1 0 := rfl
  have G7 : σ.2.1 7 = σ.2.1 7 := rfl
  intro P6 P58 h6 h58
  have Y1 : j_lt (σ.2.1 6) (σ.1 3) := p6
  have l_6 : ∀ (m_6 : Nat) (u2_6 : Int) (τ_6 : S0), 3 * ((τ_6.1 0) - (τ_6.1 16)) + z_0 ((τ_6.1 20)) + 1 - z_0 ((τ_6.1 19)) < (m_6 : Int) → (m_T τ_6) → (τ_6.1 0 = σ.1 0) → (τ_6.2.1 7 = σ.2.1 7) → ((τ_6.1 16) ≤ (τ_6.1 0)) → ((τ_6.1 17) + (τ_6.1 18) ≤ (τ_6.1 0)) → (j_lt (τ_6.2.1 6) (τ_6.1 3)) → (oc (τ_6.2.1 6) ≤ (τ_6.1 3)) → ((τ_6.1 12) ≤ ca (τ_6.2.1 9) (τ_6.1 3)) → (oc (τ_6.2.1 7) < 4096) → (0 ≤ u2_6) → ((τ_6.1 20) = 0 → (τ_6.1 19) = 1 → u2_6 ≤ (τ_6.1 16)) → (u2_6 ≤ (τ_6.1 16) + 1) → (¬ (σ.1 20) = 0 → (τ_6.1 20) = (σ.1 20)) → P6 n1 u2_6 τ_6 := by
    intro m_6
    induction m_6 with
    | zero =>
      intro u2_6 τ_6 hm hT W0 G7 i6_1 i6_2 i6_3 i6_4 i6_5 i6_6 i6_7 i6_8 i6_9 i6_10
      have A6 : ∀ j, (-1) ≤ τ_6.2.1 6 j ∧ τ_6.2.1 6 j ≤ 999 := fun j => hT.2 6 j
      have A7 : ∀ j, (-1) ≤ τ_6.2.1 7 j ∧ τ_6.2.1 7 j ≤ 1499 := fun j => hT.2 7 j
      have A9 : ∀ j, 0 ≤ τ_6.2.1 9 j ∧ τ_6.2.1 9 j ≤ 1 := fun j => hT.2 9 j
      have v0 : 0 ≤ τ_6.1 0 ∧ τ_6.1 0 ≤ 60000 := hT.1 0
      have v3 : 0 ≤ τ_6.1 3 ∧ τ_6.1 3 ≤ 1000 := hT.1 3
      have v12 : 0 ≤ τ_6.1 12 ∧ τ_6.1 12 ≤ 1000 := hT.1 12
      have v16 : 0 ≤ τ_6.1 16 ∧ τ_6.1 16 ≤ 60000 := hT.1 16
      have v17 : 0 ≤ τ_6.1 17 ∧ τ_6.1 17 ≤ 60000 := hT.1 17
      have v18 : 0 ≤ τ_6.1 18 ∧ τ_6.1 18 ≤ 60000 := hT.1 18
      have v19 : (-1) ≤ τ_6.1 19 ∧ τ_6.1 19 ≤ 125 := hT.1 19
      have v20 : 0 ≤ τ_6.1 20 ∧ τ_6.1 20 ≤ 19 := hT.1 20
      have zz0 := z_e ((τ_6.1 20))
      have zz1 := z_e ((τ_6.1 19))
      exfalso; omega
    | succ m_6 ih_6 =>
      intro u2_6 τ_6 hm_6 hT W0 G7 i6_1 i6_2 i6_3 i6_4 i6_5 i6_6 i6_7 i6_8 i6_9 i6_10
      have A6 : ∀ j, (-1) ≤ τ_6.2.1 6 j ∧ τ_6.2.1 6 j ≤ 999 := fun j => hT.2 6 j
      have A7 : ∀ j, (-1) ≤ τ_6.2.1 7 j ∧ τ_6.2.1 7 j ≤ 1499 := fun j => hT.2 7 j
      have A9 : ∀ j, 0 ≤ τ_6.2.1 9 j ∧ τ_6.2.1 9 j ≤ 1 := fun j => hT.2 9 j
      have v0 : 0 ≤ τ_6.1 0 ∧ τ_6.1 0 ≤ 60000 := hT.1 0
      have v3 : 0 ≤ τ_6.1 3 ∧ τ_6.1 3 ≤ 1000 := hT.1 3
      have v12 : 0 ≤ τ_6.1 12 ∧ τ_6.1 12 ≤ 1000 := hT.1 12
      have v16 : 0 ≤ τ_6.1 16 ∧ τ_6.1 16 ≤ 60000 := hT.1 16
      have v17 : 0 ≤ τ_6.1 17 ∧ τ_6.1 17 ≤ 60000 := hT.1 17
      have v18 : 0 ≤ τ_6.1 18 ∧ τ_6.1 18 ≤ 60000 := hT.1 18
      have v19 : (-1) ≤ τ_6.1 19 ∧ τ_6.1 19 ≤ 125 := hT.1 19
      have v20 : 0 ≤ τ_6.1 20 ∧ τ_6.1 20 ≤ 19 := hT.1 20
      have zy6_0 := z_e ((τ_6.1 20))
      have zy6_1 := z_e ((τ_6.1 19))
      have o7_τ_6 := congrArg oc G7
      have Y1 : j_lt (τ_6.2.1 6) (τ_6.1 3) := i6_3
      refine h6 _ _ _ ?_
      refine ⟨fun c4 => ?_, fun c4 => ?_⟩
      ·
        refine h58 _ _ ?_
        refine ⟨fun c19 => ?_, fun c19 => ?_⟩
        ·
          exact ⟨hT, (show oc (τ_6.2.1 6) ≤ (τ_6.1 3) from by omega), (show (τ_6.1 12) ≤ ca (τ_6.2.1 9) (τ_6.1 3) from by omega), (show (τ_6.1 16) ≤ (τ_6.1 0) from by omega), (show ¬ (σ.1 20) = 0 → (τ_6.1 20) = (σ.1 20) from by omega), (show j_lt (τ_6.2.1 6) (τ_6.1 3) from Y1)⟩
        ·
          refine ⟨fun c20 => ?_, fun c20 => ?_⟩
          ·
            exact ⟨hT, (show oc (τ_6.2.1 6) ≤ (τ_6.1 3) from by omega), (show (τ_6.1 12) ≤ ca (τ_6.2.1 9) (τ_6.1 3) from by omega), (show (τ_6.1 16) ≤ (τ_6.1 0) from by omega), (show ¬ (σ.1 20) = 0 → (τ_6.1 20) = (σ.1 20) from by omega), (show j_lt (τ_6.2.1 6) (τ_6.1 3) from Y1)⟩
          ·
            refine ⟨_, K_X13_failHere hT (show 0 ≤ 4 from by omega) (show 4 ≤ 19 from by omega), ?_⟩
            intro τ23 hn_τ23 hf_τ23 hq
            obtain ⟨hT, q21_1, q21_2⟩ := hq
            replace q21_1 : ¬ (τ_6.1 20) = 0 → (τ23.1 20) = (τ_6.1 20) := q21_1
            replace q21_2 : (τ_6.1 20) = 0 → (τ23.1 20) = 4 := q21_2
            have w0_τ23 : τ23.1 0 = τ_6.1 0 := hf_τ23.1 0 (by decide)
            have w3_τ23 : τ23.1 3 = τ_6.1 3 := hf_τ23.1 3 (by decide)
            have w12_τ23 : τ23.1 12 = τ_6.1 12 := hf_τ23.1 12 (by decide)
            have w16_τ23 : τ23.1 16 = τ_6.1 16 := hf_τ23.1 16 (by decide)
            have w17_τ23 : τ23.1 17 = τ_6.1 17 := hf_τ23.1 17 (by decide)
            have w18_τ23 : τ23.1 18 = τ_6.1 18 := hf_τ23.1 18 (by decide)
            have w19_τ23 : τ23.1 19 = τ_6.1 19 := hf_τ23.1 19 (by decide)
            have g6_τ23 : τ23.2.1 6 = τ_6.2.1 6 := hf_τ23.2.1 6 (by decide)
            have g7_τ23 : τ23.2.1 7 = τ_6.2.1 7 := hf_τ23.2.1 7 (by decide)
            have g9_τ23 : τ23.2.1 9 = τ_6.2.1 9 := hf_τ23.2.1 9 (by decide)
            first | (have ca_τ23 := congr (congrArg ca g9_τ23) w3_τ23) | skip
            first | (have o6_τ23 := congrArg oc g6_τ23) | skip
            first | (have o7_τ23 := congrArg oc g7_τ23) | skip
            have W0 : τ23.1 0 = σ.1 0 := by omega
            have G7 : τ23.2.1 7 = σ.2.1 7 := (g7_τ23).trans G7
            have Y1 : j_lt (τ23.2.1 6) (τ23.1 3) := by rw [show (j_lt (τ23.2.1 6) (τ23.1 3)) = (j_lt (τ_6.2.1 6) (τ_6.1 3)) from by rw [w3_τ23, g6_τ23]]; exact Y1
            have A6 : ∀ j, (-1) ≤ τ23.2.1 6 j ∧ τ23.2.1 6 j ≤ 999 := fun j => hT.2 6 j
            have A7 : ∀ j, (-1) ≤ τ23.2.1 7 j ∧ τ23.2.1 7 j ≤ 1499 := fun j => hT.2 7 j
            have A9 : ∀ j, 0 ≤ τ23.2.1 9 j ∧ τ23.2.1 9 j ≤ 1 := fun j => hT.2 9 j
            have v0 : 0 ≤ τ23.1 0 ∧ τ23.1 0 ≤ 60000 := hT.1 0
            have v3 : 0 ≤ τ23.1 3 ∧ τ23.1 3 ≤ 1000 := hT.1 3
            have v12 : 0 ≤ τ23.1 12 ∧ τ23.1 12 ≤ 1000 := hT.1 12
            have v16 : 0 ≤ τ23.1 16 ∧ τ23.1 16 ≤ 60000 := hT.1 16
            have v17 : 0 ≤ τ23.1 17 ∧ τ23.1 17 ≤ 60000 := hT.1 17
            have v18 : 0 ≤ τ23.1 18 ∧ τ23.1 18 ≤ 60000 := hT.1 18
            have v19 : (-1) ≤ τ23.1 19 ∧ τ23.1 19 ≤ 125 := hT.1 19
            have v20 : 0 ≤ τ23.1 20 ∧ τ23.1 20 ≤ 19 := hT.1 20
            exact ⟨hT, (show oc (τ23.2.1 6) ≤ (τ23.1 3) from by omega), (show (τ23.1 12) ≤ ca (τ23.2.1 9) (τ23.1 3) from by omega), (show (τ23.1 16) ≤ (τ23.1 0) from by omega), (show ¬ (σ.1 20) = 0 → (τ23.1 20) = (σ.1 20) from by omega), (show j_lt (τ23.2.1 6) (τ23.1 3) from Y1)⟩
      ·
        refine ⟨fun c5 => ?_, fun c5 => ?_⟩
        ·
          refine h58 _ _ ?_
          refine ⟨fun c19 => ?_, fun c19 => ?_⟩
          ·
            exact ⟨hT, (show oc (τ_6.2.1 6) ≤ (τ_6.1 3) from by omega), (show (τ_6.1 12) ≤ ca (τ_6.2.1 9) (τ_6.1 3) from by omega), (show (τ_6.1 16) ≤ (τ_6.1 0) from by omega), (show ¬ (σ.1 20) = 0 → (τ_6.1 20) = (σ.1 20) from by omega), (show j_lt (τ_6.2.1 6) (τ_6.1 3) from Y1)⟩
          ·
            refine ⟨fun c20 => ?_, fun c20 => ?_⟩
            ·
              exact ⟨hT, (show oc (τ_6.2.1 6) ≤ (τ_6.1 3) from by omega), (show (τ_6.1 12) ≤ ca (τ_6.2.1 9) (τ_6.1 3) from by omega), (show (τ_6.1 16) ≤ (τ_6.1 0) from by omega), (show ¬ (σ.1 20) = 0 → (τ_6.1 20) = (σ.1 20) from by omega), (show j_lt (τ_6.2.1 6) (τ_6.1 3) from Y1)⟩
            ·
              refine ⟨_, K_X13_failHere hT (show 0 ≤ 4 from by omega) (show 4 ≤ 19 from by omega), ?_⟩
              intro τ23 hn_τ23 hf_τ23 hq
              obtain ⟨hT, q21_1, q21_2⟩ := hq
              replace q21_1 : ¬ (τ_6.1 20) = 0 → (τ23.1 20) = (τ_6.1 20) := q21_1
              replace q21_2 : (τ_6.1 20) = 0 → (τ23.1 20) = 4 := q21_2
              have w0_τ23 : τ23.1 0 = τ_6.1 0 := hf_τ23.1 0 (by decide)
              have w3_τ23 : τ23.1 3 = τ_6.1 3 := hf_τ23.1 3 (by decide)
              have w12_τ23 : τ23.1 12 = τ_6.1 12 := hf_τ23.1 12 (by decide)
              have w16_τ23 : τ23.1 16 = τ_6.1 16 := hf_τ23.1 16 (by decide)
              have w17_τ23 : τ23.1 17 = τ_6.1 17 := hf_τ23.1 17 (by decide)
              have w18_τ23 : τ23.1 18 = τ_6.1 18 := hf_τ23.1 18 (by decide)
              have w19_τ23 : τ23.1 19 = τ_6.1 19 := hf_τ23.1 19 (by decide)
              have g6_τ23 : τ23.2.1 6 = τ_6.2.1 6 := hf_τ23.2.1 6 (by decide)
              have g7_τ23 : τ23.2.1 7 = τ_6.2.1 7 := hf_τ23.2.1 7 (by decide)
              have g9_τ23 : τ23.2.1 9 = τ_6.2.1 9 := hf_τ23.2.1 9 (by decide)
              first | (have ca_τ23 := congr (congrArg ca g9_τ23) w3_τ23) | skip
              first | (have o6_τ23 := congrArg oc g6_τ23) | skip
              first | (have o7_τ23 := congrArg oc g7_τ23) | skip
              have W0 : τ23.1 0 = σ.1 0 := by omega
              have G7 : τ23.2.1 7 = σ.2.1 7 := (g7_τ23).trans G7
              have Y1 : j_lt (τ23.2.1 6) (τ23.1 3) := by rw [show (j_lt (τ23.2.1 6) (τ23.1 3)) = (j_lt (τ_6.2.1 6) (τ_6.1 3)) from by rw [w3_τ23, g6_τ23]]; exact Y1
              have A6 : ∀ j, (-1) ≤ τ23.2.1 6 j ∧ τ23.2.1 6 j ≤ 999 := fun j => hT.2 6 j
              have A7 : ∀ j, (-1) ≤ τ23.2.1 7 j ∧ τ23.2.1 7 j ≤ 1499 := fun j => hT.2 7 j
              have A9 : ∀ j, 0 ≤ τ23.2.1 9 j ∧ τ23.2.1 9 j ≤ 1 := fun j => hT.2 9 j
              have v0 : 0 ≤ τ23.1 0 ∧ τ23.1 0 ≤ 60000 := hT.1 0
              have v3 : 0 ≤ τ23.1 3 ∧ τ23.1 3 ≤ 1000 := hT.1 3
              have v12 : 0 ≤ τ23.1 12 ∧ τ23.1 12 ≤ 1000 := hT.1 12
              have v16 : 0 ≤ τ23.1 16 ∧ τ23.1 16 ≤ 60000 := hT.1 16
              have v17 : 0 ≤ τ23.1 17 ∧ τ23.1 17 ≤ 60000 := hT.1 17
              have v18 : 0 ≤ τ23.1 18 ∧ τ23.1 18 ≤ 60000 := hT.1 18
              have v19 : (-1) ≤ τ23.1 19 ∧ τ23.1 19 ≤ 125 := hT.1 19
              have v20 : 0 ≤ τ23.1 20 ∧ τ23.1 20 ≤ 19 := hT.1 20
              exact ⟨hT, (show oc (τ23.2.1 6) ≤ (τ23.1 3) from by omega), (show (τ23.1 12) ≤ ca (τ23.2.1 9) (τ23.1 3) from by omega), (show (τ23.1 16) ≤ (τ23.1 0) from by omega), (show ¬ (σ.1 20) = 0 → (τ23.1 20) = (σ.1 20) from by omega), (show j_lt (τ23.2.1 6) (τ23.1 3) from Y1)⟩
        ·
          refine ⟨fun c6 => ?_, fun c6 => ?_⟩
          ·
            refine ⟨_, K_X13_declare hT (show 0 ≤ n1 ∧ n1 ≤ 1 from by omega) (show (τ_6.1 17) + (τ_6.1 18) ≤ (τ_6.1 0) from by omega) (show oc (τ_6.2.1 6) ≤ (τ_6.1 3) from by omega) (show oc (τ_6.2.1 7) < 4096 from by omega) (show (τ_6.1 12) ≤ ca (τ_6.2.1 9) (τ_6.1 3) from by omega) (show j_lt (τ_6.2.1 6) (τ_6.1 3) from Y1), ?_⟩
            intro τ9 hn_τ9 hf_τ9 hq
            obtain ⟨hT, q7_1, q7_2, q7_3⟩ := hq
            replace q7_1 : oc (τ9.2.1 6) ≤ (τ9.1 3) := q7_1
            replace q7_2 : (τ9.1 12) ≤ ca (τ9.2.1 9) (τ9.1 3) := q7_2
            replace q7_3 : j_lt (τ9.2.1 6) (τ9.1 3) := q7_3
            have w0_τ9 : τ9.1 0 = τ_6.1 0 := hf_τ9.1 0 (by decide)
            have w16_τ9 : τ9.1 16 = τ_6.1 16 := hf_τ9.1 16 (by decide)
            have w17_τ9 : τ9.1 17 = τ_6.1 17 := hf_τ9.1 17 (by decide)
            have w18_τ9 : τ9.1 18 = τ_6.1 18 := hf_τ9.1 18 (by decide)
            have w19_τ9 : τ9.1 19 = τ_6.1 19 := hf_τ9.1 19 (by decide)
            have g7_τ9 : τ9.2.1 7 = τ_6.2.1 7 := hf_τ9.2.1 7 (by decide)
            first | (have ca_τ9 := congr (congrArg ca g9_τ9) w3_τ9) | skip
            first | (have o6_τ9 := congrArg oc g6_τ9) | skip
            first | (have o7_τ9 := congrArg oc g7_τ9) | skip
            have W0 : τ9.1 0 = σ.1 0 := by omega
            have G7 : τ9.2.1 7 = σ.2.1 7 := (g7_τ9).trans G7
            have Y1 : j_lt (τ9.2.1 6) (τ9.1 3) := q7_3
            have A6 : ∀ j, (-1) ≤ τ9.2.1 6 j ∧ τ9.2.1 6 j ≤ 999 := fun j => hT.2 6 j
            have A7 : ∀ j, (-1) ≤ τ9.2.1 7 j ∧ τ9.2.1 7 j ≤ 1499 := fun j => hT.2 7 j
            have A9 : ∀ j, 0 ≤ τ9.2.1 9 j ∧ τ9.2.1 9 j ≤ 1 := fun j => hT.2 9 j
            have v0 : 0 ≤ τ9.1 0 ∧ τ9.1 0 ≤ 60000 := hT.1 0
            have v3 : 0 ≤ τ9.1 3 ∧ τ9.1 3 ≤ 1000 := hT.1 3
            have v12 : 0 ≤ τ9.1 12 ∧ τ9.1 12 ≤ 1000 := hT.1 12
            have v16 : 0 ≤ τ9.1 16 ∧ τ9.1 16 ≤ 60000 := hT.1 16
            have v17 : 0 ≤ τ9.1 17 ∧ τ9.1 17 ≤ 60000 := hT.1 17
            have v18 : 0 ≤ τ9.1 18 ∧ τ9.1 18 ≤ 60000 := hT.1 18
            have v19 : (-1) ≤ τ9.1 19 ∧ τ9.1 19 ≤ 125 := hT.1 19
            have v20 : 0 ≤ τ9.1 20 ∧ τ9.1 20 ≤ 19 := hT.1 20
            refine ⟨fun c10 => ?_, fun c10 => ?_⟩
            ·
              refine ⟨(⟨by omega, by omega⟩ : rg (u2_6 + 1)), ?_⟩
              exact ih_6 _ _ (show (3 * ((τ9.1 0) - (τ9.1 16)) + z_0 ((τ9.1 20)) + 1 - z_0 ((τ9.1 19)) : Int) < ((m_6 : Nat) : Int) from by (have zz0 := z_e ((τ9.1 20)); have zz1 := z_e ((τ9.1 19)); omega)) hT (show τ9.1 0 = σ.1 0 from by omega) G7 (show (τ9.1 16) ≤ (τ9.1 0) from by omega) (show (τ9.1 17) + (τ9.1 18) ≤ (τ9.1 0) from by omega) (show j_lt (τ9.2.1 6) (τ9.1 3) from Y1) (show oc (τ9.2.1 6) ≤ (τ9.1 3) from by omega) (show (τ9.1 12) ≤ ca (τ9.2.1 9) (τ9.1 3) from by omega) (show oc (τ9.2.1 7) < 4096 from by omega) (show 0 ≤ (u2_6 + 1) from by omega) (show (τ9.1 20) = 0 → (τ9.1 19) = 1 → (u2_6 + 1) ≤ (τ9.1 16) from by omega) (show (u2_6 + 1) ≤ (τ9.1 16) + 1 from by omega) (show ¬ (σ.1 20) = 0 → (τ9.1 20) = (σ.1 20) from by omega)
            ·
              refine ⟨_, K_X13_next hT (show (τ9.1 16) ≤ (τ9.1 0) from by omega), ?_⟩
              intro τ14 hn_τ14 hf_τ14 hq
              obtain ⟨hT, q12_1, q12_2, q12_3, q12_4, q12_5⟩ := hq
              replace q12_1 : (τ14.1 16) ≤ (τ14.1 0) := q12_1
              replace q12_2 : (τ14.1 17) + (τ14.1 18) ≤ (τ14.1 0) := q12_2
              replace q12_3 : (τ9.1 16) ≤ (τ14.1 16) := q12_3
              replace q12_4 : ¬ (τ9.1 20) = 0 → (τ14.1 20) = (τ9.1 20) := q12_4
              replace q12_5 : (τ14.1 20) = 0 → ¬ (τ14.1 19) = 0 → (τ9.1 16) < (τ14.1 16) ∧ 0 < (τ14.1 18) := q12_5
              have w0_τ14 : τ14.1 0 = τ9.1 0 := hf_τ14.1 0 (by decide)
              have w3_τ14 : τ14.1 3 = τ9.1 3 := hf_τ14.1 3 (by decide)
              have w12_τ14 : τ14.1 12 = τ9.1 12 := hf_τ14.1 12 (by decide)
              have g6_τ14 : τ14.2.1 6 = τ9.2.1 6 := hf_τ14.2.1 6 (by decide)
              have g7_τ14 : τ14.2.1 7 = τ9.2.1 7 := hf_τ14.2.1 7 (by decide)
              have g9_τ14 : τ14.2.1 9 = τ9.2.1 9 := hf_τ14.2.1 9 (by decide)
              first | (have ca_τ14 := congr (congrArg ca g9_τ14) w3_τ14) | skip
              first | (have o6_τ14 := congrArg oc g6_τ14) | skip
              first | (have o7_τ14 := congrArg oc g7_τ14) | skip
              have W0 : τ14.1 0 = σ.1 0 := by omega
              have G7 : τ14.2.1 7 = σ.2.1 7 := (g7_τ14).trans G7
              have Y1 : j_lt (τ14.2.1 6) (τ14.1 3) := by rw [show (j_lt (τ14.2.1 6) (τ14.1 3)) = (j_lt (τ9.2.1 6) (τ9.1 3)) from by rw [w3_τ14, g6_τ14]]; exact Y1
              have A6 : ∀ j, (-1) ≤ τ14.2.1 6 j ∧ τ14.2.1 6 j ≤ 999 := fun j => hT.2 6 j
              have A7 : ∀ j, (-1) ≤ τ14.2.1 7 j ∧ τ14.2.1 7 j ≤ 1499 := fun j => hT.2 7 j
              have A9 : ∀ j, 0 ≤ τ14.2.1 9 j ∧ τ14.2.1 9 j ≤ 1 := fun j => hT.2 9 j
              have v0 : 0 ≤ τ14.1 0 ∧ τ14.1 0 ≤ 60000 := hT.1 0
              have v3 : 0 ≤ τ14.1 3 ∧ τ14.1 3 ≤ 1000 := hT.1 3
              have v12 : 0 ≤ τ14.1 12 ∧ τ14.1 12 ≤ 1000 := hT.1 12
              have v16 : 0 ≤ τ14.1 16 ∧ τ14.1 16 ≤ 60000 := hT.1 16
              have v17 : 0 ≤ τ14.1 17 ∧ τ14.1 17 ≤ 60000 := hT.1 17
              have v18 : 0 ≤ τ14.1 18 ∧ τ14.1 18 ≤ 60000 := hT.1 18
              have v19 : (-1) ≤ τ14.1 19 ∧ τ14.1 19 ≤ 125 := hT.1 19
              have v20 : 0 ≤ τ14.1 20 ∧ τ14.1 20 ≤ 19 := hT.1 20
              refine ⟨(⟨by omega, by omega⟩ : rg (u2_6 + 1)), ?_⟩
              exact ih_6 _ _ (show (3 * ((τ14.1 0) - (τ14.1 16)) + z_0 ((τ14.1 20)) + 1 - z_0 ((τ14.1 19)) : Int) < ((m_6 : Nat) : Int) from by (have zz0 := z_e ((τ14.1 20)); have zz1 := z_e ((τ14.1 19)); omega)) hT (show τ14.1 0 = σ.1 0 from by omega) G7 (show (τ14.1 16) ≤ (τ14.1 0) from by omega) (show (τ14.1 17) + (τ14.1 18) ≤ (τ14.1 0) from by omega) (show j_lt (τ14.2.1 6) (τ14.1 3) from Y1) (show oc (τ14.2.1 6) ≤ (τ14.1 3) from by omega) (show (τ14.1 12) ≤ ca (τ14.2.1 9) (τ14.1 3) from by omega) (show oc (τ14.2.1 7) < 4096 from by omega) (show 0 ≤ (u2_6 + 1) from by omega) (show (τ14.1 20) = 0 → (τ14.1 19) = 1 → (u2_6 + 1) ≤ (τ14.1 16) from by omega) (show (u2_6 + 1) ≤ (τ14.1 16) + 1 from by omega) (show ¬ (σ.1 20) = 0 → (τ14.1 20) = (σ.1 20) from by omega)
          ·
            refine ⟨_, K_X13_failHere hT (show 0 ≤ 4 from by omega) (show 4 ≤ 19 from by omega), ?_⟩
            intro τ18 hn_τ18 hf_τ18 hq
            obtain ⟨hT, q16_1, q16_2⟩ := hq
            replace q16_1 : ¬ (τ_6.1 20) = 0 → (τ18.1 20) = (τ_6.1 20) := q16_1
            replace q16_2 : (τ_6.1 20) = 0 → (τ18.1 20) = 4 := q16_2
            have w0_τ18 : τ18.1 0 = τ_6.1 0 := hf_τ18.1 0 (by decide)
            have w3_τ18 : τ18.1 3 = τ_6.1 3 := hf_τ18.1 3 (by decide)
            have w12_τ18 : τ18.1 12 = τ_6.1 12 := hf_τ18.1 12 (by decide)
            have w16_τ18 : τ18.1 16 = τ_6.1 16 := hf_τ18.1 16 (by decide)
            have w17_τ18 : τ18.1 17 = τ_6.1 17 := hf_τ18.1 17 (by decide)
            have w18_τ18 : τ18.1 18 = τ_6.1 18 := hf_τ18.1 18 (by decide)
            have w19_τ18 : τ18.1 19 = τ_6.1 19 := hf_τ18.1 19 (by decide)
            have g6_τ18 : τ18.2.1 6 = τ_6.2.1 6 := hf_τ18.2.1 6 (by decide)
            have g7_τ18 : τ18.2.1 7 = τ_6.2.1 7 := hf_τ18.2.1 7 (by decide)
            have g9_τ18 : τ18.2.1 9 = τ_6.2.1 9 := hf_τ18.2.1 9 (by decide)
            first | (have ca_τ18 := congr (congrArg ca g9_τ18) w3_τ18) | skip
            first | (have o6_τ18 := congrArg oc g6_τ18) | skip
            first | (have o7_τ18 := congrArg oc g7_τ18) | skip
            have W0 : τ18.1 0 = σ.1 0 := by omega
            have G7 : τ18.2.1 7 = σ.2.1 7 := (g7_τ18).trans G7
            have Y1 : j_lt (τ18.2.1 6) (τ18.1 3) := by rw [show (j_lt (τ18.2.1 6) (τ18.1 3)) = (j_lt (τ_6.2.1 6) (τ_6.1 3)) from by rw [w3_τ18, g6_τ18]]; exact Y1
            have A6 : ∀ j, (-1) ≤ τ18.2.1 6 j ∧ τ18.2.1 6 j ≤ 999 := fun j => hT.2 6 j
            have A7 : ∀ j, (-1) ≤ τ18.2.1 7 j ∧ τ18.2.1 7 j ≤ 1499 := fun j => hT.2 7 j
            have A9 : ∀ j, 0 ≤ τ18.2.1 9 j ∧ τ18.2.1 9 j ≤ 1 := fun j => hT.2 9 j
            have v0 : 0 ≤ τ18.1 0 ∧ τ18.1 0 ≤ 60000 := hT.1 0
            have v3 : 0 ≤ τ18.1 3 ∧ τ18.1 3 ≤ 1000 := hT.1 3
            have v12 : 0 ≤ τ18.1 12 ∧ τ18.1 12 ≤ 1000 := hT.1 12
            have v16 : 0 ≤ τ18.1 16 ∧ τ18.1 16 ≤ 60000 := hT.1 16
            have v17 : 0 ≤ τ18.1 17 ∧ τ18.1 17 ≤ 60000 := hT.1 17
            have v18 : 0 ≤ τ18.1 18 ∧ τ18.1 18 ≤ 60000 := hT.1 18
            have v19 : (-1) ≤ τ18.1 19 ∧ τ18.1 19 ≤ 125 := hT.1 19
            have v20 : 0 ≤ τ18.1 20 ∧ τ18.1 20 ≤ 19 := hT.1 20
            exact ⟨hT, (show oc (τ18.2.1 6) ≤ (τ18.1 3) from by omega), (show (τ18.1 12) ≤ ca (τ18.2.1 9) (τ18.1 3) from by omega), (show (τ18.1 16) ≤ (τ18.1 0) from by omega), (show ¬ (σ.1 20) = 0 → (τ18.1 20) = (σ.1 20) from by omega), (show j_lt (τ18.2.1 6) (τ18.1 3) from Y1)⟩
  refine ⟨_, K_X13_next hT (show (σ.1 16) ≤ (σ.1 0) from by omega), ?_⟩
  intro τ3 hn_τ3 hf_τ3 hq
  obtain ⟨hT, q1_1, q1_2, q1_3, q1_4, q1_5⟩ := hq
  replace q1_1 : (τ3.1 16) ≤ (τ3.1 0) := q1_1
  replace q1_2 : (τ3.1 17) + (τ3.1 18) ≤ (τ3.1 0) := q1_2
  replace q1_3 : (σ.1 16) ≤ (τ3.1 16) := q1_3
  replace q1_4 : ¬ (σ.1 20) = 0 → (τ3.1 20) = (σ.1 20) := q1_4
  replace q1_5 : (τ3.1 20) = 0 → ¬ (τ3.1 19) = 0 → (σ.1 16) < (τ3.1 16) ∧ 0 < (τ3.1 18) := q1_5
  have w0_τ3 : τ3.1 0 = σ.1 0 := hf_τ3.1 0 (by decide)
  have w3_τ3 : τ3.1 3 = σ.1 3 := hf_τ3.1 3 (by decide)
  have w12_τ3 : τ3.1 12 = σ.1 12 := hf_τ3.1 12 (by decide)
  have g6_τ3 : τ3.2.1 6 = σ.2.1 6 := hf_τ3.2.1 6 (by decide)
  have g7_τ3 : τ3.2.1 7 = σ.2.1 7 := hf_τ3.2.1 7 (by decide)
  have g9_τ3 : τ3.2.1 9 = σ.2.1 9 := hf_τ3.2.1 9 (by decide)
  first | (have ca_τ3 := congr (congrArg ca g9_τ3) w3_τ3) | skip
  first | (have o6_τ3 := congrArg oc g6_τ3) | skip
  first | (have o7_τ3 := congrArg oc g7_τ3) | skip
  have W0 : τ3.1 0 = σ.1 0 := by omega
  have G7 : τ3.2.1 7 = σ.2.1 7 := (g7_τ3).trans G7
  have Y1 : j_lt (τ3.2.1 6) (τ3.1 3) := by rw [show (j_lt (τ3.2.1 6) (τ3.1 3)) = (j_lt (σ.2.1 6) (σ.1 3)) from by rw [w3_τ3, g6_τ3]]; exact Y1
  have A6 : ∀ j, (-1) ≤ τ3.2.1 6 j ∧ τ3.2.1 6 j ≤ 999 := fun j => hT.2 6 j
  have A7 : ∀ j, (-1) ≤ τ3.2.1 7 j ∧ τ3.2.1 7 j ≤ 1499 := fun j => hT.2 7 j
  have A9 : ∀ j, 0 ≤ τ3.2.1 9 j ∧ τ3.2.1 9 j ≤ 1 := fun j => hT.2 9 j
  have v0 : 0 ≤ τ3.1 0 ∧ τ3.1 0 ≤ 60000 := hT.1 0
  have v3 : 0 ≤ τ3.1 3 ∧ τ3.1 3 ≤ 1000 := hT.1 3
  have v12 : 0 ≤ τ3.1 12 ∧ τ3.1 12 ≤ 1000 := hT.1 12
  have v16 : 0 ≤ τ3.1 16 ∧ τ3.1 16 ≤ 60000 := hT.1 16
  have v17 : 0 ≤ τ3.1 17 ∧ τ3.1 17 ≤ 60000 := hT.1 17
  have v18 : 0 ≤ τ3.1 18 ∧ τ3.1 18 ≤ 60000 := hT.1 18
  have v19 : (-1) ≤ τ3.1 19 ∧ τ3.1 19 ≤ 125 := hT.1 19
  have v20 : 0 ≤ τ3.1 20 ∧ τ3.1 20 ≤ 19 := hT.1 20
  exact l_6 ((3 * ((τ3.1 0) - (τ3.1 16)) + z_0 ((τ3.1 20)) + 1 - z_0 ((τ3.1 19)) : Int).toNat + 1) _ _ (show (3 * ((τ3.1 0) - (τ3.1 16)) + z_0 ((τ3.1 20)) + 1 - z_0 ((τ3.1 19)) : Int) < (((3 * ((τ3.1 0) - (τ3.1 16)) + z_0 ((τ3.1 20)) + 1 - z_0 ((τ3.1 19)) : Int).toNat + 1 : Nat) : Int) from by (have zz0 := z_e ((τ3.1 20)); have zz1 := z_e ((τ3.1 19)); omega)) hT (show τ3.1 0 = σ.1 0 from by omega) G7 (show (τ3.1 16) ≤ (τ3.1 0) from by omega) (show (τ3.1 17) + (τ3.1 18) ≤ (τ3.1 0) from by omega) (show j_lt (τ3.2.1 6) (τ3.1 3) from Y1) (show oc (τ3.2.1 6) ≤ (τ3.1 3) from by omega) (show (τ3.1 12) ≤ ca (τ3.2.1 9) (τ3.1 3) from by omega) (show oc (τ3.2.1 7) < 4096 from by omega) (show 0 ≤ 0 from by omega) (show (τ3.1 20) = 0 → (τ3.1 19) = 1 → 0 ≤ (τ3.1 16) from by omega) (show 0 ≤ (τ3.1 16) + 1 from by omega) (show ¬ (σ.1 20) = 0 → (τ3.1 20) = (σ.1 20) from by omega)
set_option maxHeartbeats 1000000 in
theorem K_X13_isLabelSign {n0 : Int} {σ : S0} (hT : m_T σ) : W_X13_isLabelSign n0 σ (fun (x : Int) => (0 ≤ x ∧ x ≤ 1)) := by
  unfold W_X13_isLabelSign
  refine ⟨_, K_X13_isIn hT, ?_⟩
  intro x2 r_x2 hq
  obtain ⟨q1_1, q1_2⟩ := hq
  replace q1_1 : 0 ≤ x2 ∧ x2 ≤ 1 := q1_1
  replace q1_2 : x2 = 1 ↔ (48 ≤ (j_of n0) ∧ (j_of n0) ≤ 57) := q1_2
  refine ⟨fun c4 => ?_, fun c4 => ?_⟩
  ·
    exact (show 0 ≤ 1 ∧ 1 ≤ 1 from by omega)
  ·
    refine ⟨_, K_X13_isIn hT, ?_⟩
    intro x6 r_x6 hq
    obtain ⟨q5_1, q5_2⟩ := hq
    replace q5_1 : 0 ≤ x6 ∧ x6 ≤ 1 := q5_1
    replace q5_2 : x6 = 1 ↔ (65 ≤ (j_of n0) ∧ (j_of n0) ≤ 90) := q5_2
    refine ⟨fun c8 => ?_, fun c8 => ?_⟩
    ·
      exact (show 0 ≤ 1 ∧ 1 ≤ 1 from by omega)
    ·
      refine ⟨_, K_X13_isIn hT, ?_⟩
      intro x10 r_x10 hq
      obtain ⟨q9_1, q9_2⟩ := hq
      replace q9_1 : 0 ≤ x10 ∧ x10 ≤ 1 := q9_1
      replace q9_2 : x10 = 1 ↔ (97 ≤ (j_of n0) ∧ (j_of n0) ≤ 122) := q9_2
      refine ⟨fun c12 => ?_, fun c12 => ?_⟩
      ·
        exact (show 0 ≤ 1 ∧ 1 ≤ 1 from by omega)
      ·
        refine ⟨fun c13 => ?_, fun c13 => ?_⟩
        ·
          exact (show 0 ≤ 1 ∧ 1 ≤ 1 from by omega)
        ·
          refine ⟨fun c14 => ?_, fun c14 => ?_⟩
          ·
            exact (show 0 ≤ 1 ∧ 1 ≤ 1 from by omega)
          ·
            refine ⟨fun c15 => ?_, fun c15 => ?_⟩
            ·
              exact (show 0 ≤ 0 ∧ 0 ≤ 1 from by omega)
            ·
              exact (show 0 ≤ 1 ∧ 1 ≤ 1 from by omega)
set_option maxHeartbeats 1000000 in
theorem K_X13_addSymbol {n1 : Int} {n2 : Int} {σ : S0} (hT : m_T σ) (p1 : 0 ≤ n1) (p2 : n1 < 1000) (p3 : -1 ≤ n2) (p4 : n2 ≤ 1499) (p5 : (σ.1 6) < 30000) (p6 : σ.2.1 15 (σ.1 22) < 300) : W_X13_addSymbol n1 n2 σ (fun (τ : S0) => (m_T τ) ∧ ((τ.1 6) = (σ.1 6) + 1) ∧ (τ.2.1 15 = st (σ.2.1 15) (σ.1 22) (σ.2.1 15 (σ.1 22) + 1))) := by
  have v6 : 0 ≤ σ.1 6 ∧ σ.1 6 ≤ 30000 := hT.1 6
  have v22 : 0 ≤ σ.1 22 ∧ σ.1 22 ≤ 1499 := hT.1 22
  have W22 : σ.1 22 = σ.1 22 := rfl
  unfold W_X13_addSymbol
  refine ⟨(show 0 ≤ σ.1 6 ∧ σ.1 6 < 30400 from by omega), ?_⟩
  replace hT := mT_a (k := 16) (j := (σ.1 6)) hT (show (0 : Int) ≤ n1 ∧ n1 ≤ 999 from by omega)
  replace hT := mT_a (k := 17) (j := (σ.1 6)) hT (show (-1 : Int) ≤ n2 ∧ n2 ≤ 1499 from by omega)
  refine ⟨(⟨by omega, by omega⟩ : rg (σ.1 6 + 1)), ?_⟩
  replace hT := mT_v (i := 6) hT (show 0 ≤ (σ.1 6 + 1) ∧ (σ.1 6 + 1) ≤ 30000 from by omega)
  refine ⟨(show 0 ≤ σ.1 22 ∧ σ.1 22 < 1501 from by omega), ?_⟩
  intro x4 r_x4 e_x4
  have b_x4 : 0 ≤ x4 ∧ x4 ≤ 300 := by rw [e_x4]; exact hT.2 15 _
  refine ⟨(⟨by omega, by omega⟩ : rg (x4 + 1)), ?_⟩
  replace hT := mT_a (k := 15) (j := (σ.1 22)) hT (show (0 : Int) ≤ (x4 + 1) ∧ (x4 + 1) ≤ 300 from by omega)
  exact ⟨hT, (show ((σ.1 6 + 1)) = (σ.1 6) + 1 from by omega), (show (st (σ.2.1 15) (σ.1 22) (x4 + 1)) = st (σ.2.1 15) (σ.1 22) (σ.2.1 15 (σ.1 22) + 1) from by (rw [← e_x4]))⟩
set_option maxHeartbeats 1000000 in
theorem K_X13_readFirst {σ : S0} (hT : m_T σ) (p1 : (σ.1 17) + (σ.1 18) ≤ (σ.1 0)) (p2 : oc (σ.2.1 6) < 4096) (p3 : σ.2.1 15 (σ.1 22) = 0) : W_X13_readFirst σ (fun (τ : S0) => (m_T τ) ∧ ((τ.1 20) = 0 → τ.2.1 15 (τ.1 22) = 1) ∧ (¬ (σ.1 20) = 0 → (τ.1 20) = (σ.1 20))) := by
  have A15 : ∀ j, 0 ≤ σ.2.1 15 j ∧ σ.2.1 15 j ≤ 300 := fun j => hT.2 15 j
  have v0 : 0 ≤ σ.1 0 ∧ σ.1 0 ≤ 60000 := hT.1 0
  have v4 : 0 ≤ σ.1 4 ∧ σ.1 4 ≤ 100 := hT.1 4
  have v6 : 0 ≤ σ.1 6 ∧ σ.1 6 ≤ 30000 := hT.1 6
  have v17 : 0 ≤ σ.1 17 ∧ σ.1 17 ≤ 60000 := hT.1 17
  have v18 : 0 ≤ σ.1 18 ∧ σ.1 18 ≤ 60000 := hT.1 18
  have v19 : (-1) ≤ σ.1 19 ∧ σ.1 19 ≤ 125 := hT.1 19
  have v20 : 0 ≤ σ.1 20 ∧ σ.1 20 ≤ 19 := hT.1 20
  have v22 : 0 ≤ σ.1 22 ∧ σ.1 22 ≤ 1499 := hT.1 22
  have W0 : σ.1 0 = σ.1 0 := rfl
  have W17 : σ.1 17 = σ.1 17 := rfl
  have W18 : σ.1 18 = σ.1 18 := rfl
  have W19 : σ.1 19 = σ.1 19 := rfl
  have W22 : σ.1 22 = σ.1 22 := rfl
  intro P38 P71 P79 P102 P111 P143 h38 h71 h79 h102 h111 h143
  refine ⟨fun c1 => ?_, fun c1 => ?_⟩
  ·
    refine ⟨_, K_X13_symbolHere hT (show (σ.1 17) + (σ.1 18) ≤ 60000 from by omega) (show oc (σ.2.1 6) < 4096 from by omega), ?_⟩
    intro x3 r_x3 hq
    obtain ⟨q2_1, q2_2⟩ := hq
    replace q2_1 : -1 ≤ x3 ∧ x3 ≤ 999 := q2_1
    replace q2_2 : x3 = -1 ∨ ∃ e : Int, x3 = σ.2.1 6 e := q2_2
    refine ⟨fun c5 => ?_, fun c5 => ?_⟩
    ·
      refine h38 _ _ _ ?_
      refine ⟨fun c12 => ?_, fun c12 => ?_⟩
      ·
        refine h71 _ ?_
        refine ⟨_, K_X13_failHere hT (show 0 ≤ 5 from by omega) (show 5 ≤ 19 from by omega), ?_⟩
        intro τ20 hn_τ20 hf_τ20 hq
        obtain ⟨hT, q18_1, q18_2⟩ := hq
        replace q18_1 : ¬ (σ.1 20) = 0 → (τ20.1 20) = (σ.1 20) := q18_1
        replace q18_2 : (σ.1 20) = 0 → (τ20.1 20) = 5 := q18_2
        have w0_τ20 : τ20.1 0 = σ.1 0 := hf_τ20.1 0 (by decide)
        have w4_τ20 : τ20.1 4 = σ.1 4 := hf_τ20.1 4 (by decide)
        have w6_τ20 : τ20.1 6 = σ.1 6 := hf_τ20.1 6 (by decide)
        have w17_τ20 : τ20.1 17 = σ.1 17 := hf_τ20.1 17 (by decide)
        have w18_τ20 : τ20.1 18 = σ.1 18 := hf_τ20.1 18 (by decide)
        have w19_τ20 : τ20.1 19 = σ.1 19 := hf_τ20.1 19 (by decide)
        have w22_τ20 : τ20.1 22 = σ.1 22 := hf_τ20.1 22 (by decide)
        have g15_τ20 : τ20.2.1 15 = σ.2.1 15 := hf_τ20.2.1 15 (by decide)
        have W0 : τ20.1 0 = σ.1 0 := by omega
        have W17 : τ20.1 17 = σ.1 17 := by omega
        have W18 : τ20.1 18 = σ.1 18 := by omega
        have W19 : τ20.1 19 = σ.1 19 := by omega
        have W22 : τ20.1 22 = σ.1 22 := by omega
        have A15 : ∀ j, 0 ≤ τ20.2.1 15 j ∧ τ20.2.1 15 j ≤ 300 := fun j => hT.2 15 j
        have v0 : 0 ≤ τ20.1 0 ∧ τ20.1 0 ≤ 60000 := hT.1 0
        have v4 : 0 ≤ τ20.1 4 ∧ τ20.1 4 ≤ 100 := hT.1 4
        have v6 : 0 ≤ τ20.1 6 ∧ τ20.1 6 ≤ 30000 := hT.1 6
        have v17 : 0 ≤ τ20.1 17 ∧ τ20.1 17 ≤ 60000 := hT.1 17
        have v18 : 0 ≤ τ20.1 18 ∧ τ20.1 18 ≤ 60000 := hT.1 18
        have v19 : (-1) ≤ τ20.1 19 ∧ τ20.1 19 ≤ 125 := hT.1 19
        have v20 : 0 ≤ τ20.1 20 ∧ τ20.1 20 ≤ 19 := hT.1 20
        have v22 : 0 ≤ τ20.1 22 ∧ τ20.1 22 ≤ 1499 := hT.1 22
        exact ⟨hT, (show (τ20.1 20) = 0 → τ20.2.1 15 (τ20.1 22) = 1 from by (intro _; first | omega | (rw [q39_2, w22_τ41]; (first | rw [st_s] | skip); omega))), (show ¬ (σ.1 20) = 0 → (τ20.1 20) = (σ.1 20) from by omega)⟩
      ·
        refine ⟨fun c13 => ?_, fun c13 => ?_⟩
        ·
          refine h79 _ _ _ ?_
          refine ⟨fun c21 => ?_, fun c21 => ?_⟩
          ·
            refine h102 _ ?_
            refine ⟨_, K_X13_failHere hT (show 0 ≤ 9 from by omega) (show 9 ≤ 19 from by omega), ?_⟩
            intro τ29 hn_τ29 hf_τ29 hq
            obtain ⟨hT, q27_1, q27_2⟩ := hq
            replace q27_1 : ¬ (σ.1 20) = 0 → (τ29.1 20) = (σ.1 20) := q27_1
            replace q27_2 : (σ.1 20) = 0 → (τ29.1 20) = 9 := q27_2
            have w0_τ29 : τ29.1 0 = σ.1 0 := hf_τ29.1 0 (by decide)
            have w4_τ29 : τ29.1 4 = σ.1 4 := hf_τ29.1 4 (by decide)
            have w6_τ29 : τ29.1 6 = σ.1 6 := hf_τ29.1 6 (by decide)
            have w17_τ29 : τ29.1 17 = σ.1 17 := hf_τ29.1 17 (by decide)
            have w18_τ29 : τ29.1 18 = σ.1 18 := hf_τ29.1 18 (by decide)
            have w19_τ29 : τ29.1 19 = σ.1 19 := hf_τ29.1 19 (by decide)
            have w22_τ29 : τ29.1 22 = σ.1 22 := hf_τ29.1 22 (by decide)
            have g15_τ29 : τ29.2.1 15 = σ.2.1 15 := hf_τ29.2.1 15 (by decide)
            have W0 : τ29.1 0 = σ.1 0 := by omega
            have W17 : τ29.1 17 = σ.1 17 := by omega
            have W18 : τ29.1 18 = σ.1 18 := by omega
            have W19 : τ29.1 19 = σ.1 19 := by omega
            have W22 : τ29.1 22 = σ.1 22 := by omega
            have A15 : ∀ j, 0 ≤ τ29.2.1 15 j ∧ τ29.2.1 15 j ≤ 300 := fun j => hT.2 15 j
            have v0 : 0 ≤ τ29.1 0 ∧ τ29.1 0 ≤ 60000 := hT.1 0
            have v4 : 0 ≤ τ29.1 4 ∧ τ29.1 4 ≤ 100 := hT.1 4
            have v6 : 0 ≤ τ29.1 6 ∧ τ29.1 6 ≤ 30000 := hT.1 6
            have v17 : 0 ≤ τ29.1 17 ∧ τ29.1 17 ≤ 60000 := hT.1 17
            have v18 : 0 ≤ τ29.1 18 ∧ τ29.1 18 ≤ 60000 := hT.1 18
            have v19 : (-1) ≤ τ29.1 19 ∧ τ29.1 19 ≤ 125 := hT.1 19
            have v20 : 0 ≤ τ29.1 20 ∧ τ29.1 20 ≤ 19 := hT.1 20
            have v22 : 0 ≤ τ29.1 22 ∧ τ29.1 22 ≤ 1499 := hT.1 22
            exact ⟨hT, (show (τ29.1 20) = 0 → τ29.2.1 15 (τ29.1 22) = 1 from by (intro _; first | omega | (rw [q39_2, w22_τ41]; (first | rw [st_s] | skip); omega))), (show ¬ (σ.1 20) = 0 → (τ29.1 20) = (σ.1 20) from by omega)⟩
          ·
            refine ⟨(show 0 ≤ x3 ∧ x3 < 1001 from by omega), ?_⟩
            intro x23 r_x23 e_x23
            have b_x23 : 0 ≤ x23 ∧ x23 ≤ 1 := by rw [e_x23]; exact hT.2 8 _
            refine ⟨fun c24 => ?_, fun c24 => ?_⟩
            ·
              refine h111 _ _ _ ?_
              refine ⟨fun c30 => ?_, fun c30 => ?_⟩
              ·
                refine ⟨(show 0 ≤ x3 ∧ x3 < 1001 from by omega), ?_⟩
                intro x32 r_x32 e_x32
                have b_x32 : 0 ≤ x32 ∧ x32 ≤ 1 := by rw [e_x32]; exact hT.2 12 _
                refine ⟨fun c33 => ?_, fun c33 => ?_⟩
                ·
                  refine h143 _ _ _ _ ?_
                  refine ⟨(⟨by omega, by omega⟩ : rg ((σ.1 4) + 1)), ?_⟩
                  replace hT := mT_v (i := 4) hT (show 0 ≤ ((σ.1 4) + 1) ∧ ((σ.1 4) + 1) ≤ 100 from by omega)
                  refine ⟨(show 0 ≤ x3 ∧ x3 < 1001 from by omega), ?_⟩
                  replace hT := mT_a (k := 12) (j := x3) hT (show (0 : Int) ≤ 1 ∧ 1 ≤ 1 from by omega)
                  refine ⟨_, K_X13_addSymbol hT (show 0 ≤ x3 from by omega) (show x3 < 1000 from by omega) (show -1 ≤ (-1) from by omega) (show (-1) ≤ 1499 from by omega) (show (σ.1 6) < 30000 from by omega) (show σ.2.1 15 (σ.1 22) < 300 from by omega), ?_⟩
                  intro τ41 hn_τ41 hf_τ41 hq
                  obtain ⟨hT, q39_1, q39_2⟩ := hq
                  replace q39_1 : (τ41.1 6) = (σ.1 6) + 1 := q39_1
                  replace q39_2 : τ41.2.1 15 = st (σ.2.1 15) (σ.1 22) (σ.2.1 15 (σ.1 22) + 1) := q39_2
                  have w0_τ41 : τ41.1 0 = σ.1 0 := hf_τ41.1 0 (by decide)
                  have w4_τ41 : τ41.1 4 = ((σ.1 4) + 1) := hf_τ41.1 4 (by decide)
                  have w17_τ41 : τ41.1 17 = σ.1 17 := hf_τ41.1 17 (by decide)
                  have w18_τ41 : τ41.1 18 = σ.1 18 := hf_τ41.1 18 (by decide)
                  have w19_τ41 : τ41.1 19 = σ.1 19 := hf_τ41.1 19 (by decide)
                  have w20_τ41 : τ41.1 20 = σ.1 20 := hf_τ41.1 20 (by decide)
                  have w22_τ41 : τ41.1 22 = σ.1 22 := hf_τ41.1 22 (by decide)
                  have W0 : τ41.1 0 = σ.1 0 := by omega
                  have W17 : τ41.1 17 = σ.1 17 := by omega
                  have W18 : τ41.1 18 = σ.1 18 := by omega
                  have W19 : τ41.1 19 = σ.1 19 := by omega
                  have W22 : τ41.1 22 = σ.1 22 := by omega
                  have A15 : ∀ j, 0 ≤ τ41.2.1 15 j ∧ τ41.2.1 15 j ≤ 300 := fun j => hT.2 15 j
                  have v0 : 0 ≤ τ41.1 0 ∧ τ41.1 0 ≤ 60000 := hT.1 0
                  have v4 : 0 ≤ τ41.1 4 ∧ τ41.1 4 ≤ 100 := hT.1 4
                  have v6 : 0 ≤ τ41.1 6 ∧ τ41.1 6 ≤ 30000 := hT.1 6
                  have v17 : 0 ≤ τ41.1 17 ∧ τ41.1 17 ≤ 60000 := hT.1 17
                  have v18 : 0 ≤ τ41.1 18 ∧ τ41.1 18 ≤ 60000 := hT.1 18
                  have v19 : (-1) ≤ τ41.1 19 ∧ τ41.1 19 ≤ 125 := hT.1 19
                  have v20 : 0 ≤ τ41.1 20 ∧ τ41.1 20 ≤ 19 := hT.1 20
                  have v22 : 0 ≤ τ41.1 22 ∧ τ41.1 22 ≤ 1499 := hT.1 22
                  exact ⟨hT, (show (τ41.1 20) = 0 → τ41.2.1 15 (τ41.1 22) = 1 from by (intro _; first | omega | (rw [q39_2, w22_τ41]; (first | rw [st_s] | skip); omega))), (show ¬ (σ.1 20) = 0 → (τ41.1 20) = (σ.1 20) from by omega)⟩
                ·
                  refine h143 _ _ _ _ ?_
                  refine ⟨(⟨by omega, by omega⟩ : rg ((σ.1 4) + 0)), ?_⟩
                  replace hT := mT_v (i := 4) hT (show 0 ≤ ((σ.1 4) + 0) ∧ ((σ.1 4) + 0) ≤ 100 from by omega)
                  refine ⟨(show 0 ≤ x3 ∧ x3 < 1001 from by omega), ?_⟩
                  replace hT := mT_a (k := 12) (j := x3) hT (show (0 : Int) ≤ 1 ∧ 1 ≤ 1 from by omega)
                  refine ⟨_, K_X13_addSymbol hT (show 0 ≤ x3 from by omega) (show x3 < 1000 from by omega) (show -1 ≤ (-1) from by omega) (show (-1) ≤ 1499 from by omega) (show (σ.1 6) < 30000 from by omega) (show σ.2.1 15 (σ.1 22) < 300 from by omega), ?_⟩
                  intro τ41 hn_τ41 hf_τ41 hq
                  obtain ⟨hT, q39_1, q39_2⟩ := hq
                  replace q39_1 : (τ41.1 6) = (σ.1 6) + 1 := q39_1
                  replace q39_2 : τ41.2.1 15 = st (σ.2.1 15) (σ.1 22) (σ.2.1 15 (σ.1 22) + 1) := q39_2
                  have w0_τ41 : τ41.1 0 = σ.1 0 := hf_τ41.1 0 (by decide)
                  have w4_τ41 : τ41.1 4 = ((σ.1 4) + 0) := hf_τ41.1 4 (by decide)
                  have w17_τ41 : τ41.1 17 = σ.1 17 := hf_τ41.1 17 (by decide)
                  have w18_τ41 : τ41.1 18 = σ.1 18 := hf_τ41.1 18 (by decide)
                  have w19_τ41 : τ41.1 19 = σ.1 19 := hf_τ41.1 19 (by decide)
                  have w20_τ41 : τ41.1 20 = σ.1 20 := hf_τ41.1 20 (by decide)
                  have w22_τ41 : τ41.1 22 = σ.1 22 := hf_τ41.1 22 (by decide)
                  have W0 : τ41.1 0 = σ.1 0 := by omega
                  have W17 : τ41.1 17 = σ.1 17 := by omega
                  have W18 : τ41.1 18 = σ.1 18 := by omega
                  have W19 : τ41.1 19 = σ.1 19 := by omega
                  have W22 : τ41.1 22 = σ.1 22 := by omega
                  have A15 : ∀ j, 0 ≤ τ41.2.1 15 j ∧ τ41.2.1 15 j ≤ 300 := fun j => hT.2 15 j
                  have v0 : 0 ≤ τ41.1 0 ∧ τ41.1 0 ≤ 60000 := hT.1 0
                  have v4 : 0 ≤ τ41.1 4 ∧ τ41.1 4 ≤ 100 := hT.1 4
                  have v6 : 0 ≤ τ41.1 6 ∧ τ41.1 6 ≤ 30000 := hT.1 6
                  have v17 : 0 ≤ τ41.1 17 ∧ τ41.1 17 ≤ 60000 := hT.1 17
                  have v18 : 0 ≤ τ41.1 18 ∧ τ41.1 18 ≤ 60000 := hT.1 18
                  have v19 : (-1) ≤ τ41.1 19 ∧ τ41.1 19 ≤ 125 := hT.1 19
                  have v20 : 0 ≤ τ41.1 20 ∧ τ41.1 20 ≤ 19 := hT.1 20
                  have v22 : 0 ≤ τ41.1 22 ∧ τ41.1 22 ≤ 1499 := hT.1 22
                  exact ⟨hT, (show (τ41.1 20) = 0 → τ41.2.1 15 (τ41.1 22) = 1 from by (intro _; first | omega | (rw [q39_2, w22_τ41]; (first | rw [st_s] | skip); omega))), (show ¬ (σ.1 20) = 0 → (τ41.1 20) = (σ.1 20) from by omega)⟩
              ·
                refine ⟨_, K_X13_failHere hT (show 0 ≤ 10 from by omega) (show 10 ≤ 19 from by omega), ?_⟩
                intro τ36 hn_τ36 hf_τ36 hq
                obtain ⟨hT, q34_1, q34_2⟩ := hq
                replace q34_1 : ¬ (σ.1 20) = 0 → (τ36.1 20) = (σ.1 20) := q34_1
                replace q34_2 : (σ.1 20) = 0 → (τ36.1 20) = 10 := q34_2
                have w0_τ36 : τ36.1 0 = σ.1 0 := hf_τ36.1 0 (by decide)
                have w4_τ36 : τ36.1 4 = σ.1 4 := hf_τ36.1 4 (by decide)
                have w6_τ36 : τ36.1 6 = σ.1 6 := hf_τ36.1 6 (by decide)
                have w17_τ36 : τ36.1 17 = σ.1 17 := hf_τ36.1 17 (by decide)
                have w18_τ36 : τ36.1 18 = σ.1 18 := hf_τ36.1 18 (by decide)
                have w19_τ36 : τ36.1 19 = σ.1 19 := hf_τ36.1 19 (by decide)
                have w22_τ36 : τ36.1 22 = σ.1 22 := hf_τ36.1 22 (by decide)
                have g15_τ36 : τ36.2.1 15 = σ.2.1 15 := hf_τ36.2.1 15 (by decide)
                have W0 : τ36.1 0 = σ.1 0 := by omega
                have W17 : τ36.1 17 = σ.1 17 := by omega
                have W18 : τ36.1 18 = σ.1 18 := by omega
                have W19 : τ36.1 19 = σ.1 19 := by omega
                have W22 : τ36.1 22 = σ.1 22 := by omega
                have A15 : ∀ j, 0 ≤ τ36.2.1 15 j ∧ τ36.2.1 15 j ≤ 300 := fun j => hT.2 15 j
                have v0 : 0 ≤ τ36.1 0 ∧ τ36.1 0 ≤ 60000 := hT.1 0
                have v4 : 0 ≤ τ36.1 4 ∧ τ36.1 4 ≤ 100 := hT.1 4
                have v6 : 0 ≤ τ36.1 6 ∧ τ36.1 6 ≤ 30000 := hT.1 6
                have v17 : 0 ≤ τ36.1 17 ∧ τ36.1 17 ≤ 60000 := hT.1 17
                have v18 : 0 ≤ τ36.1 18 ∧ τ36.1 18 ≤ 60000 := hT.1 18
                have v19 : (-1) ≤ τ36.1 19 ∧ τ36.1 19 ≤ 125 := hT.1 19
                have v20 : 0 ≤ τ36.1 20 ∧ τ36.1 20 ≤ 19 := hT.1 20
                have v22 : 0 ≤ τ36.1 22 ∧ τ36.1 22 ≤ 1499 := hT.1 22
                exact ⟨hT, (show (τ36.1 20) = 0 → τ36.2.1 15 (τ36.1 22) = 1 from by (intro _; first | omega | (rw [q39_2, w22_τ41]; (first | rw [st_s] | skip); omega))), (show ¬ (σ.1 20) = 0 → (τ36.1 20) = (σ.1 20) from by omega)⟩
            ·
              intro x25 r_x25 e_x25
              have b_x25 : 0 ≤ x25 ∧ x25 ≤ 1 := by rw [e_x25]; exact hT.2 9 _
              refine ⟨fun c26 => ?_, fun c26 => ?_⟩
              ·
                refine h111 _ _ _ ?_
                refine ⟨fun c30 => ?_, fun c30 => ?_⟩
                ·
                  refine ⟨(show 0 ≤ x3 ∧ x3 < 1001 from by omega), ?_⟩
                  intro x32 r_x32 e_x32
                  have b_x32 : 0 ≤ x32 ∧ x32 ≤ 1 := by rw [e_x32]; exact hT.2 12 _
                  refine ⟨fun c33 => ?_, fun c33 => ?_⟩
                  ·
                    refine h143 _ _ _ _ ?_
                    refine ⟨(⟨by omega, by omega⟩ : rg ((σ.1 4) + 1)), ?_⟩
                    replace hT := mT_v (i := 4) hT (show 0 ≤ ((σ.1 4) + 1) ∧ ((σ.1 4) + 1) ≤ 100 from by omega)
                    refine ⟨(show 0 ≤ x3 ∧ x3 < 1001 from by omega), ?_⟩
                    replace hT := mT_a (k := 12) (j := x3) hT (show (0 : Int) ≤ 1 ∧ 1 ≤ 1 from by omega)
                    refine ⟨_, K_X13_addSymbol hT (show 0 ≤ x3 from by omega) (show x3 < 1000 from by omega) (show -1 ≤ (-1) from by omega) (show (-1) ≤ 1499 from by omega) (show (σ.1 6) < 30000 from by omega) (show σ.2.1 15 (σ.1 22) < 300 from by omega), ?_⟩
                    intro τ41 hn_τ41 hf_τ41 hq
                    obtain ⟨hT, q39_1, q39_2⟩ := hq
                    replace q39_1 : (τ41.1 6) = (σ.1 6) + 1 := q39_1
                    replace q39_2 : τ41.2.1 15 = st (σ.2.1 15) (σ.1 22) (σ.2.1 15 (σ.1 22) + 1) := q39_2
                    have w0_τ41 : τ41.1 0 = σ.1 0 := hf_τ41.1 0 (by decide)
                    have w4_τ41 : τ41.1 4 = ((σ.1 4) + 1) := hf_τ41.1 4 (by decide)
                    have w17_τ41 : τ41.1 17 = σ.1 17 := hf_τ41.1 17 (by decide)
                    have w18_τ41 : τ41.1 18 = σ.1 18 := hf_τ41.1 18 (by decide)
                    have w19_τ41 : τ41.1 19 = σ.1 19 := hf_τ41.1 19 (by decide)
                    have w20_τ41 : τ41.1 20 = σ.1 20 := hf_τ41.1 20 (by decide)
                    have w22_τ41 : τ41.1 22 = σ.1 22 := hf_τ41.1 22 (by decide)
                    have W0 : τ41.1 0 = σ.1 0 := by omega
                    have W17 : τ41.1 17 = σ.1 17 := by omega
                    have W18 : τ41.1 18 = σ.1 18 := by omega
                    have W19 : τ41.1 19 = σ.1 19 := by omega
                    have W22 : τ41.1 22 = σ.1 22 := by omega
                    have A15 : ∀ j, 0 ≤ τ41.2.1 15 j ∧ τ41.2.1 15 j ≤ 300 := fun j => hT.2 15 j
                    have v0 : 0 ≤ τ41.1 0 ∧ τ41.1 0 ≤ 60000 := hT.1 0
                    have v4 : 0 ≤ τ41.1 4 ∧ τ41.1 4 ≤ 100 := hT.1 4
                    have v6 : 0 ≤ τ41.1 6 ∧ τ41.1 6 ≤ 30000 := hT.1 6
                    have v17 : 0 ≤ τ41.1 17 ∧ τ41.1 17 ≤ 60000 := hT.1 17
                    have v18 : 0 ≤ τ41.1 18 ∧ τ41.1 18 ≤ 60000 := hT.1 18
                    have v19 : (-1) ≤ τ41.1 19 ∧ τ41.1 19 ≤ 125 := hT.1 19
                    have v20 : 0 ≤ τ41.1 20 ∧ τ41.1 20 ≤ 19 := hT.1 20
                    have v22 : 0 ≤ τ41.1 22 ∧ τ41.1 22 ≤ 1499 := hT.1 22
                    exact ⟨hT, (show (τ41.1 20) = 0 → τ41.2.1 15 (τ41.1 22) = 1 from by (intro _; first | omega | (rw [q39_2, w22_τ41]; (first | rw [st_s] | skip); omega))), (show ¬ (σ.1 20) = 0 → (τ41.1 20) = (σ.1 20) from by omega)⟩
                  ·
                    refine h143 _ _ _ _ ?_
                    refine ⟨(⟨by omega, by omega⟩ : rg ((σ.1 4) + 0)), ?_⟩
                    replace hT := mT_v (i := 4) hT (show 0 ≤ ((σ.1 4) + 0) ∧ ((σ.1 4) + 0) ≤ 100 from by omega)
                    refine ⟨(show 0 ≤ x3 ∧ x3 < 1001 from by omega), ?_⟩
                    replace hT := mT_a (k := 12) (j := x3) hT (show (0 : Int) ≤ 1 ∧ 1 ≤ 1 from by omega)
                    refine ⟨_, K_X13_addSymbol hT (show 0 ≤ x3 from by omega) (show x3 < 1000 from by omega) (show -1 ≤ (-1) from by omega) (show (-1) ≤ 1499 from by omega) (show (σ.1 6) < 30000 from by omega) (show σ.2.1 15 (σ.1 22) < 300 from by omega), ?_⟩
                    intro τ41 hn_τ41 hf_τ41 hq
                    obtain ⟨hT, q39_1, q39_2⟩ := hq
                    replace q39_1 : (τ41.1 6) = (σ.1 6) + 1 := q39_1
                    replace q39_2 : τ41.2.1 15 = st (σ.2.1 15) (σ.1 22) (σ.2.1 15 (σ.1 22) + 1) := q39_2
                    have w0_τ41 : τ41.1 0 = σ.1 0 := hf_τ41.1 0 (by decide)
                    have w4_τ41 : τ41.1 4 = ((σ.1 4) + 0) := hf_τ41.1 4 (by decide)
                    have w17_τ41 : τ41.1 17 = σ.1 17 := hf_τ41.1 17 (by decide)
                    have w18_τ41 : τ41.1 18 = σ.1 18 := hf_τ41.1 18 (by decide)
                    have w19_τ41 : τ41.1 19 = σ.1 19 := hf_τ41.1 19 (by decide)
                    have w20_τ41 : τ41.1 20 = σ.1 20 := hf_τ41.1 20 (by decide)
                    have w22_τ41 : τ41.1 22 = σ.1 22 := hf_τ41.1 22 (by decide)
                    have W0 : τ41.1 0 = σ.1 0 := by omega
                    have W17 : τ41.1 17 = σ.1 17 := by omega
                    have W18 : τ41.1 18 = σ.1 18 := by omega
                    have W19 : τ41.1 19 = σ.1 19 := by omega
                    have W22 : τ41.1 22 = σ.1 22 := by omega
                    have A15 : ∀ j, 0 ≤ τ41.2.1 15 j ∧ τ41.2.1 15 j ≤ 300 := fun j => hT.2 15 j
                    have v0 : 0 ≤ τ41.1 0 ∧ τ41.1 0 ≤ 60000 := hT.1 0
                    have v4 : 0 ≤ τ41.1 4 ∧ τ41.1 4 ≤ 100 := hT.1 4
                    have v6 : 0 ≤ τ41.1 6 ∧ τ41.1 6 ≤ 30000 := hT.1 6
                    have v17 : 0 ≤ τ41.1 17 ∧ τ41.1 17 ≤ 60000 := hT.1 17
                    have v18 : 0 ≤ τ41.1 18 ∧ τ41.1 18 ≤ 60000 := hT.1 18
                    have v19 : (-1) ≤ τ41.1 19 ∧ τ41.1 19 ≤ 125 := hT.1 19
                    have v20 : 0 ≤ τ41.1 20 ∧ τ41.1 20 ≤ 19 := hT.1 20
                    have v22 : 0 ≤ τ41.1 22 ∧ τ41.1 22 ≤ 1499 := hT.1 22
                    exact ⟨hT, (show (τ41.1 20) = 0 → τ41.2.1 15 (τ41.1 22) = 1 from by (intro _; first | omega | (rw [q39_2, w22_τ41]; (first | rw [st_s] | skip); omega))), (show ¬ (σ.1 20) = 0 → (τ41.1 20) = (σ.1 20) from by omega)⟩
                ·
                  refine ⟨_, K_X13_failHere hT (show 0 ≤ 10 from by omega) (show 10 ≤ 19 from by omega), ?_⟩
                  intro τ36 hn_τ36 hf_τ36 hq
                  obtain ⟨hT, q34_1, q34_2⟩ := hq
                  replace q34_1 : ¬ (σ.1 20) = 0 → (τ36.1 20) = (σ.1 20) := q34_1
                  replace q34_2 : (σ.1 20) = 0 → (τ36.1 20) = 10 := q34_2
                  have w0_τ36 : τ36.1 0 = σ.1 0 := hf_τ36.1 0 (by decide)
                  have w4_τ36 : τ36.1 4 = σ.1 4 := hf_τ36.1 4 (by decide)
                  have w6_τ36 : τ36.1 6 = σ.1 6 := hf_τ36.1 6 (by decide)
                  have w17_τ36 : τ36.1 17 = σ.1 17 := hf_τ36.1 17 (by decide)
                  have w18_τ36 : τ36.1 18 = σ.1 18 := hf_τ36.1 18 (by decide)
                  have w19_τ36 : τ36.1 19 = σ.1 19 := hf_τ36.1 19 (by decide)
                  have w22_τ36 : τ36.1 22 = σ.1 22 := hf_τ36.1 22 (by decide)
                  have g15_τ36 : τ36.2.1 15 = σ.2.1 15 := hf_τ36.2.1 15 (by decide)
                  have W0 : τ36.1 0 = σ.1 0 := by omega
                  have W17 : τ36.1 17 = σ.1 17 := by omega
                  have W18 : τ36.1 18 = σ.1 18 := by omega
                  have W19 : τ36.1 19 = σ.1 19 := by omega
                  have W22 : τ36.1 22 = σ.1 22 := by omega
                  have A15 : ∀ j, 0 ≤ τ36.2.1 15 j ∧ τ36.2.1 15 j ≤ 300 := fun j => hT.2 15 j
                  have v0 : 0 ≤ τ36.1 0 ∧ τ36.1 0 ≤ 60000 := hT.1 0
                  have v4 : 0 ≤ τ36.1 4 ∧ τ36.1 4 ≤ 100 := hT.1 4
                  have v6 : 0 ≤ τ36.1 6 ∧ τ36.1 6 ≤ 30000 := hT.1 6
                  have v17 : 0 ≤ τ36.1 17 ∧ τ36.1 17 ≤ 60000 := hT.1 17
                  have v18 : 0 ≤ τ36.1 18 ∧ τ36.1 18 ≤ 60000 := hT.1 18
                  have v19 : (-1) ≤ τ36.1 19 ∧ τ36.1 19 ≤ 125 := hT.1 19
                  have v20 : 0 ≤ τ36.1 20 ∧ τ36.1 20 ≤ 19 := hT.1 20
                  have v22 : 0 ≤ τ36.1 22 ∧ τ36.1 22 ≤ 1499 := hT.1 22
                  exact ⟨hT, (show (τ36.1 20) = 0 → τ36.2.1 15 (τ36.1 22) = 1 from by (intro _; first | omega | (rw [q39_2, w22_τ41]; (first | rw [st_s] | skip); omega))), (show ¬ (σ.1 20) = 0 → (τ36.1 20) = (σ.1 20) from by omega)⟩
              ·
                refine h102 _ ?_
                refine ⟨_, K_X13_failHere hT (show 0 ≤ 9 from by omega) (show 9 ≤ 19 from by omega), ?_⟩
                intro τ29 hn_τ29 hf_τ29 hq
                obtain ⟨hT, q27_1, q27_2⟩ := hq
                replace q27_1 : ¬ (σ.1 20) = 0 → (τ29.1 20) = (σ.1 20) := q27_1
                replace q27_2 : (σ.1 20) = 0 → (τ29.1 20) = 9 := q27_2
                have w0_τ29 : τ29.1 0 = σ.1 0 := hf_τ29.1 0 (by decide)
                have w4_τ29 : τ29.1 4 = σ.1 4 := hf_τ29.1 4 (by decide)
                have w6_τ29 : τ29.1 6 = σ.1 6 := hf_τ29.1 6 (by decide)
                have w17_τ29 : τ29.1 17 = σ.1 17 := hf_τ29.1 17 (by decide)
                have w18_τ29 : τ29.1 18 = σ.1 18 := hf_τ29.1 18 (by decide)
                have w19_τ29 : τ29.1 19 = σ.1 19 := hf_τ29.1 19 (by decide)
                have w22_τ29 : τ29.1 22 = σ.1 22 := hf_τ29.1 22 (by decide)
                have g15_τ29 : τ29.2.1 15 = σ.2.1 15 := hf_τ29.2.1 15 (by decide)
                have W0 : τ29.1 0 = σ.1 0 := by omega
                have W17 : τ29.1 17 = σ.1 17 := by omega
                have W18 : τ29.1 18 = σ.1 18 := by omega
                have W19 : τ29.1 19 = σ.1 19 := by omega
                have W22 : τ29.1 22 = σ.1 22 := by omega
                have A15 : ∀ j, 0 ≤ τ29.2.1 15 j ∧ τ29.2.1 15 j ≤ 300 := fun j => hT.2 15 j
                have v0 : 0 ≤ τ29.1 0 ∧ τ29.1 0 ≤ 60000 := hT.1 0
                have v4 : 0 ≤ τ29.1 4 ∧ τ29.1 4 ≤ 100 := hT.1 4
                have v6 : 0 ≤ τ29.1 6 ∧ τ29.1 6 ≤ 30000 := hT.1 6
                have v17 : 0 ≤ τ29.1 17 ∧ τ29.1 17 ≤ 60000 := hT.1 17
                have v18 : 0 ≤ τ29.1 18 ∧ τ29.1 18 ≤ 60000 := hT.1 18
                have v19 : (-1) ≤ τ29.1 19 ∧ τ29.1 19 ≤ 125 := hT.1 19
                have v20 : 0 ≤ τ29.1 20 ∧ τ29.1 20 ≤ 19 := hT.1 20
                have v22 : 0 ≤ τ29.1 22 ∧ τ29.1 22 ≤ 1499 := hT.1 22
                exact ⟨hT, (show (τ29.1 20) = 0 → τ29.2.1 15 (τ29.1 22) = 1 from by (intro _; first | omega | (rw [q39_2, w22_τ41]; (first | rw [st_s] | skip); omega))), (show ¬ (σ.1 20) = 0 → (τ29.1 20) = (σ.1 20) from by omega)⟩
        ·
          refine ⟨(show 0 ≤ x3 ∧ x3 < 1001 from by omega), ?_⟩
          intro x15 r_x15 e_x15
          have b_x15 : 0 ≤ x15 ∧ x15 ≤ 1 := by rw [e_x15]; exact hT.2 12 _
          refine ⟨fun c16 => ?_, fun c16 => ?_⟩
          ·
            refine h79 _ _ _ ?_
            refine ⟨fun c21 => ?_, fun c21 => ?_⟩
            ·
              refine h102 _ ?_
              refine ⟨_, K_X13_failHere hT (show 0 ≤ 9 from by omega) (show 9 ≤ 19 from by omega), ?_⟩
              intro τ29 hn_τ29 hf_τ29 hq
              obtain ⟨hT, q27_1, q27_2⟩ := hq
              replace q27_1 : ¬ (σ.1 20) = 0 → (τ29.1 20) = (σ.1 20) := q27_1
              replace q27_2 : (σ.1 20) = 0 → (τ29.1 20) = 9 := q27_2
              have w0_τ29 : τ29.1 0 = σ.1 0 := hf_τ29.1 0 (by decide)
              have w4_τ29 : τ29.1 4 = σ.1 4 := hf_τ29.1 4 (by decide)
              have w6_τ29 : τ29.1 6 = σ.1 6 := hf_τ29.1 6 (by decide)
              have w17_τ29 : τ29.1 17 = σ.1 17 := hf_τ29.1 17 (by decide)
              have w18_τ29 : τ29.1 18 = σ.1 18 := hf_τ29.1 18 (by decide)
              have w19_τ29 : τ29.1 19 = σ.1 19 := hf_τ29.1 19 (by decide)
              have w22_τ29 : τ29.1 22 = σ.1 22 := hf_τ29.1 22 (by decide)
              have g15_τ29 : τ29.2.1 15 = σ.2.1 15 := hf_τ29.2.1 15 (by decide)
              have W0 : τ29.1 0 = σ.1 0 := by omega
              have W17 : τ29.1 17 = σ.1 17 := by omega
              have W18 : τ29.1 18 = σ.1 18 := by omega
              have W19 : τ29.1 19 = σ.1 19 := by omega
              have W22 : τ29.1 22 = σ.1 22 := by omega
              have A15 : ∀ j, 0 ≤ τ29.2.1 15 j ∧ τ29.2.1 15 j ≤ 300 := fun j => hT.2 15 j
              have v0 : 0 ≤ τ29.1 0 ∧ τ29.1 0 ≤ 60000 := hT.1 0
              have v4 : 0 ≤ τ29.1 4 ∧ τ29.1 4 ≤ 100 := hT.1 4
              have v6 : 0 ≤ τ29.1 6 ∧ τ29.1 6 ≤ 30000 := hT.1 6
              have v17 : 0 ≤ τ29.1 17 ∧ τ29.1 17 ≤ 60000 := hT.1 17
              have v18 : 0 ≤ τ29.1 18 ∧ τ29.1 18 ≤ 60000 := hT.1 18
              have v19 : (-1) ≤ τ29.1 19 ∧ τ29.1 19 ≤ 125 := hT.1 19
              have v20 : 0 ≤ τ29.1 20 ∧ τ29.1 20 ≤ 19 := hT.1 20
              have v22 : 0 ≤ τ29.1 22 ∧ τ29.1 22 ≤ 1499 := hT.1 22
              exact ⟨hT, (show (τ29.1 20) = 0 → τ29.2.1 15 (τ29.1 22) = 1 from by (intro _; first | omega | (rw [q39_2, w22_τ41]; (first | rw [st_s] | skip); omega))), (show ¬ (σ.1 20) = 0 → (τ29.1 20) = (σ.1 20) from by omega)⟩
            ·
              refine ⟨(show 0 ≤ x3 ∧ x3 < 1001 from by omega), ?_⟩
              intro x23 r_x23 e_x23
              have b_x23 : 0 ≤ x23 ∧ x23 ≤ 1 := by rw [e_x23]; exact hT.2 8 _
              refine ⟨fun c24 => ?_, fun c24 => ?_⟩
              ·
                refine h111 _ _ _ ?_
                refine ⟨fun c30 => ?_, fun c30 => ?_⟩
                ·
                  refine ⟨(show 0 ≤ x3 ∧ x3 < 1001 from by omega), ?_⟩
                  intro x32 r_x32 e_x32
                  have b_x32 : 0 ≤ x32 ∧ x32 ≤ 1 := by rw [e_x32]; exact hT.2 12 _
                  refine ⟨fun c33 => ?_, fun c33 => ?_⟩
                  ·
                    refine h143 _ _ _ _ ?_
                    refine ⟨(⟨by omega, by omega⟩ : rg ((σ.1 4) + 1)), ?_⟩
                    replace hT := mT_v (i := 4) hT (show 0 ≤ ((σ.1 4) + 1) ∧ ((σ.1 4) + 1) ≤ 100 from by omega)
                    refine ⟨(show 0 ≤ x3 ∧ x3 < 1001 from by omega), ?_⟩
                    replace hT := mT_a (k := 12) (j := x3) hT (show (0 : Int) ≤ 1 ∧ 1 ≤ 1 from by omega)
                    refine ⟨_, K_X13_addSymbol hT (show 0 ≤ x3 from by omega) (show x3 < 1000 from by omega) (show -1 ≤ (-1) from by omega) (show (-1) ≤ 1499 from by omega) (show (σ.1 6) < 30000 from by omega) (show σ.2.1 15 (σ.1 22) < 300 from by omega), ?_⟩
                    intro τ41 hn_τ41 hf_τ41 hq
                    obtain ⟨hT, q39_1, q39_2⟩ := hq
                    replace q39_1 : (τ41.1 6) = (σ.1 6) + 1 := q39_1
                    replace q39_2 : τ41.2.1 15 = st (σ.2.1 15) (σ.1 22) (σ.2.1 15 (σ.1 22) + 1) := q39_2
                    have w0_τ41 : τ41.1 0 = σ.1 0 := hf_τ41.1 0 (by decide)
                    have w4_τ41 : τ41.1 4 = ((σ.1 4) + 1) := hf_τ41.1 4 (by decide)
                    have w17_τ41 : τ41.1 17 = σ.1 17 := hf_τ41.1 17 (by decide)
                    have w18_τ41 : τ41.1 18 = σ.1 18 := hf_τ41.1 18 (by decide)
                    have w19_τ41 : τ41.1 19 = σ.1 19 := hf_τ41.1 19 (by decide)
                    have w20_τ41 : τ41.1 20 = σ.1 20 := hf_τ41.1 20 (by decide)
                    have w22_τ41 : τ41.1 22 = σ.1 22 := hf_τ41.1 22 (by decide)
                    have W0 : τ41.1 0 = σ.1 0 := by omega
                    have W17 : τ41.1 17 = σ.1 17 := by omega
                    have W18 : τ41.1 18 = σ.1 18 := by omega
                    have W19 : τ41.1 19 = σ.1 19 := by omega
                    have W22 : τ41.1 22 = σ.1 22 := by omega
                    have A15 : ∀ j, 0 ≤ τ41.2.1 15 j ∧ τ41.2.1 15 j ≤ 300 := fun j => hT.2 15 j
                    have v0 : 0 ≤ τ41.1 0 ∧ τ41.1 0 ≤ 60000 := hT.1 0
                    have v4 : 0 ≤ τ41.1 4 ∧ τ41.1 4 ≤ 100 := hT.1 4
                    have v6 : 0 ≤ τ41.1 6 ∧ τ41.1 6 ≤ 30000 := hT.1 6
                    have v17 : 0 ≤ τ41.1 17 ∧ τ41.1 17 ≤ 60000 := hT.1 17
                    have v18 : 0 ≤ τ41.1 18 ∧ τ41.1 18 ≤ 60000 := hT.1 18
                    have v19 : (-1) ≤ τ41.1 19 ∧ τ41.1 19 ≤ 125 := hT.1 19
                    have v20 : 0 ≤ τ41.1 20 ∧ τ41.1 20 ≤ 19 := hT.1 20
                    have v22 : 0 ≤ τ41.1 22 ∧ τ41.1 22 ≤ 1499 := hT.1 22
                    exact ⟨hT, (show (τ41.1 20) = 0 → τ41.2.1 15 (τ41.1 22) = 1 from by (intro _; first | omega | (rw [q39_2, w22_τ41]; (first | rw [st_s] | skip); omega))), (show ¬ (σ.1 20) = 0 → (τ41.1 20) = (σ.1 20) from by omega)⟩
                  ·
                    refine h143 _ _ _ _ ?_
                    refine ⟨(⟨by omega, by omega⟩ : rg ((σ.1 4) + 0)), ?_⟩
                    replace hT := mT_v (i := 4) hT (show 0 ≤ ((σ.1 4) + 0) ∧ ((σ.1 4) + 0) ≤ 100 from by omega)
                    refine ⟨(show 0 ≤ x3 ∧ x3 < 1001 from by omega), ?_⟩
                    replace hT := mT_a (k := 12) (j := x3) hT (show (0 : Int) ≤ 1 ∧ 1 ≤ 1 from by omega)
                    refine ⟨_, K_X13_addSymbol hT (show 0 ≤ x3 from by omega) (show x3 < 1000 from by omega) (show -1 ≤ (-1) from by omega) (show (-1) ≤ 1499 from by omega) (show (σ.1 6) < 30000 from by omega) (show σ.2.1 15 (σ.1 22) < 300 from by omega), ?_⟩
                    intro τ41 hn_τ41 hf_τ41 hq
                    obtain ⟨hT, q39_1, q39_2⟩ := hq
                    replace q39_1 : (τ41.1 6) = (σ.1 6) + 1 := q39_1
                    replace q39_2 : τ41.2.1 15 = st (σ.2.1 15) (σ.1 22) (σ.2.1 15 (σ.1 22) + 1) := q39_2
                    have w0_τ41 : τ41.1 0 = σ.1 0 := hf_τ41.1 0 (by decide)
                    have w4_τ41 : τ41.1 4 = ((σ.1 4) + 0) := hf_τ41.1 4 (by decide)
                    have w17_τ41 : τ41.1 17 = σ.1 17 := hf_τ41.1 17 (by decide)
                    have w18_τ41 : τ41.1 18 = σ.1 18 := hf_τ41.1 18 (by decide)
                    have w19_τ41 : τ41.1 19 = σ.1 19 := hf_τ41.1 19 (by decide)
                    have w20_τ41 : τ41.1 20 = σ.1 20 := hf_τ41.1 20 (by decide)
                    have w22_τ41 : τ41.1 22 = σ.1 22 := hf_τ41.1 22 (by decide)
                    have W0 : τ41.1 0 = σ.1 0 := by omega
                    have W17 : τ41.1 17 = σ.1 17 := by omega
                    have W18 : τ41.1 18 = σ.1 18 := by omega
                    have W19 : τ41.1 19 = σ.1 19 := by omega
                    have W22 : τ41.1 22 = σ.1 22 := by omega
                    have A15 : ∀ j, 0 ≤ τ41.2.1 15 j ∧ τ41.2.1 15 j ≤ 300 := fun j => hT.2 15 j
                    have v0 : 0 ≤ τ41.1 0 ∧ τ41.1 0 ≤ 60000 := hT.1 0
                    have v4 : 0 ≤ τ41.1 4 ∧ τ41.1 4 ≤ 100 := hT.1 4
                    have v6 : 0 ≤ τ41.1 6 ∧ τ41.1 6 ≤ 30000 := hT.1 6
                    have v17 : 0 ≤ τ41.1 17 ∧ τ41.1 17 ≤ 60000 := hT.1 17
                    have v18 : 0 ≤ τ41.1 18 ∧ τ41.1 18 ≤ 60000 := hT.1 18
                    have v19 : (-1) ≤ τ41.1 19 ∧ τ41.1 19 ≤ 125 := hT.1 19
                    have v20 : 0 ≤ τ41.1 20 ∧ τ41.1 20 ≤ 19 := hT.1 20
                    have v22 : 0 ≤ τ41.1 22 ∧ τ41.1 22 ≤ 1499 := hT.1 22
                    exact ⟨hT, (show (τ41.1 20) = 0 → τ41.2.1 15 (τ41.1 22) = 1 from by (intro _; first | omega | (rw [q39_2, w22_τ41]; (first | rw [st_s] | skip); omega))), (show ¬ (σ.1 20) = 0 → (τ41.1 20) = (σ.1 20) from by omega)⟩
                ·
                  refine ⟨_, K_X13_failHere hT (show 0 ≤ 10 from by omega) (show 10 ≤ 19 from by omega), ?_⟩
                  intro τ36 hn_τ36 hf_τ36 hq
                  obtain ⟨hT, q34_1, q34_2⟩ := hq
                  replace q34_1 : ¬ (σ.1 20) = 0 → (τ36.1 20) = (σ.1 20) := q34_1
                  replace q34_2 : (σ.1 20) = 0 → (τ36.1 20) = 10 := q34_2
                  have w0_τ36 : τ36.1 0 = σ.1 0 := hf_τ36.1 0 (by decide)
                  have w4_τ36 : τ36.1 4 = σ.1 4 := hf_τ36.1 4 (by decide)
                  have w6_τ36 : τ36.1 6 = σ.1 6 := hf_τ36.1 6 (by decide)
                  have w17_τ36 : τ36.1 17 = σ.1 17 := hf_τ36.1 17 (by decide)
                  have w18_τ36 : τ36.1 18 = σ.1 18 := hf_τ36.1 18 (by decide)
                  have w19_τ36 : τ36.1 19 = σ.1 19 := hf_τ36.1 19 (by decide)
                  have w22_τ36 : τ36.1 22 = σ.1 22 := hf_τ36.1 22 (by decide)
                  have g15_τ36 : τ36.2.1 15 = σ.2.1 15 := hf_τ36.2.1 15 (by decide)
                  have W0 : τ36.1 0 = σ.1 0 := by omega
                  have W17 : τ36.1 17 = σ.1 17 := by omega
                  have W18 : τ36.1 18 = σ.1 18 := by omega
                  have W19 : τ36.1 19 = σ.1 19 := by omega
                  have W22 : τ36.1 22 = σ.1 22 := by omega
                  have A15 : ∀ j, 0 ≤ τ36.2.1 15 j ∧ τ36.2.1 15 j ≤ 300 := fun j => hT.2 15 j
                  have v0 : 0 ≤ τ36.1 0 ∧ τ36.1 0 ≤ 60000 := hT.1 0
                  have v4 : 0 ≤ τ36.1 4 ∧ τ36.1 4 ≤ 100 := hT.1 4
                  have v6 : 0 ≤ τ36.1 6 ∧ τ36.1 6 ≤ 30000 := hT.1 6
                  have v17 : 0 ≤ τ36.1 17 ∧ τ36.1 17 ≤ 60000 := hT.1 17
                  have v18 : 0 ≤ τ36.1 18 ∧ τ36.1 18 ≤ 60000 := hT.1 18
                  have v19 : (-1) ≤ τ36.1 19 ∧ τ36.1 19 ≤ 125 := hT.1 19
                  have v20 : 0 ≤ τ36.1 20 ∧ τ36.1 20 ≤ 19 := hT.1 20
                  have v22 : 0 ≤ τ36.1 22 ∧ τ36.1 22 ≤ 1499 := hT.1 22
                  exact ⟨hT, (show (τ36.1 20) = 0 → τ36.2.1 15 (τ36.1 22) = 1 from by (intro _; first | omega | (rw [q39_2, w22_τ41]; (first | rw [st_s] | skip); omega))), (show ¬ (σ.1 20) = 0 → (τ36.1 20) = (σ.1 20) from by omega)⟩
              ·
                intro x25 r_x25 e_x25
                have b_x25 : 0 ≤ x25 ∧ x25 ≤ 1 := by rw [e_x25]; exact hT.2 9 _
                refine ⟨fun c26 => ?_, fun c26 => ?_⟩
                ·
                  refine h111 _ _ _ ?_
                  refine ⟨fun c30 => ?_, fun c30 => ?_⟩
                  ·
                    refine ⟨(show 0 ≤ x3 ∧ x3 < 1001 from by omega), ?_⟩
                    intro x32 r_x32 e_x32
                    have b_x32 : 0 ≤ x32 ∧ x32 ≤ 1 := by rw [e_x32]; exact hT.2 12 _
                    refine ⟨fun c33 => ?_, fun c33 => ?_⟩
                    ·
                      refine h143 _ _ _ _ ?_
                      refine ⟨(⟨by omega, by omega⟩ : rg ((σ.1 4) + 1)), ?_⟩
                      replace hT := mT_v (i := 4) hT (show 0 ≤ ((σ.1 4) + 1) ∧ ((σ.1 4) + 1) ≤ 100 from by omega)
                      refine ⟨(show 0 ≤ x3 ∧ x3 < 1001 from by omega), ?_⟩
                      replace hT := mT_a (k := 12) (j := x3) hT (show (0 : Int) ≤ 1 ∧ 1 ≤ 1 from by omega)
                      refine ⟨_, K_X13_addSymbol hT (show 0 ≤ x3 from by omega) (show x3 < 1000 from by omega) (show -1 ≤ (-1) from by omega) (show (-1) ≤ 1499 from by omega) (show (σ.1 6) < 30000 from by omega) (show σ.2.1 15 (σ.1 22) < 300 from by omega), ?_⟩
                      intro τ41 hn_τ41 hf_τ41 hq
                      obtain ⟨hT, q39_1, q39_2⟩ := hq
                      replace q39_1 : (τ41.1 6) = (σ.1 6) + 1 := q39_1
                      replace q39_2 : τ41.2.1 15 = st (σ.2.1 15) (σ.1 22) (σ.2.1 15 (σ.1 22) + 1) := q39_2
                      have w0_τ41 : τ41.1 0 = σ.1 0 := hf_τ41.1 0 (by decide)
                      have w4_τ41 : τ41.1 4 = ((σ.1 4) + 1) := hf_τ41.1 4 (by decide)
                      have w17_τ41 : τ41.1 17 = σ.1 17 := hf_τ41.1 17 (by decide)
                      have w18_τ41 : τ41.1 18 = σ.1 18 := hf_τ41.1 18 (by decide)
                      have w19_τ41 : τ41.1 19 = σ.1 19 := hf_τ41.1 19 (by decide)
                      have w20_τ41 : τ41.1 20 = σ.1 20 := hf_τ41.1 20 (by decide)
                      have w22_τ41 : τ41.1 22 = σ.1 22 := hf_τ41.1 22 (by decide)
                      have W0 : τ41.1 0 = σ.1 0 := by omega
                      have W17 : τ41.1 17 = σ.1 17 := by omega
                      have W18 : τ41.1 18 = σ.1 18 := by omega
                      have W19 : τ41.1 19 = σ.1 19 := by omega
                      have W22 : τ41.1 22 = σ.1 22 := by omega
                      have A15 : ∀ j, 0 ≤ τ41.2.1 15 j ∧ τ41.2.1 15 j ≤ 300 := fun j => hT.2 15 j
                      have v0 : 0 ≤ τ41.1 0 ∧ τ41.1 0 ≤ 60000 := hT.1 0
                      have v4 : 0 ≤ τ41.1 4 ∧ τ41.1 4 ≤ 100 := hT.1 4
                      have v6 : 0 ≤ τ41.1 6 ∧ τ41.1 6 ≤ 30000 := hT.1 6
                      have v17 : 0 ≤ τ41.1 17 ∧ τ41.1 17 ≤ 60000 := hT.1 17
                      have v18 : 0 ≤ τ41.1 18 ∧ τ41.1 18 ≤ 60000 := hT.1 18
                      have v19 : (-1) ≤ τ41.1 19 ∧ τ41.1 19 ≤ 125 := hT.1 19
                      have v20 : 0 ≤ τ41.1 20 ∧ τ41.1 20 ≤ 19 := hT.1 20
                      have v22 : 0 ≤ τ41.1 22 ∧ τ41.1 22 ≤ 1499 := hT.1 22
                      exact ⟨hT, (show (τ41.1 20) = 0 → τ41.2.1 15 (τ41.1 22) = 1 from by (intro _; first | omega | (rw [q39_2, w22_τ41]; (first | rw [st_s] | skip); omega))), (show ¬ (σ.1 20) = 0 → (τ41.1 20) = (σ.1 20) from by omega)⟩
                    ·
                      refine h143 _ _ _ _ ?_
                      refine ⟨(⟨by omega, by omega⟩ : rg ((σ.1 4) + 0)), ?_⟩
                      replace hT := mT_v (i := 4) hT (show 0 ≤ ((σ.1 4) + 0) ∧ ((σ.1 4) + 0) ≤ 100 from by omega)
                      refine ⟨(show 0 ≤ x3 ∧ x3 < 1001 from by omega), ?_⟩
                      replace hT := mT_a (k := 12) (j := x3) hT (show (0 : Int) ≤ 1 ∧ 1 ≤ 1 from by omega)
                      refine ⟨_, K_X13_addSymbol hT (show 0 ≤ x3 from by omega) (show x3 < 1000 from by omega) (show -1 ≤ (-1) from by omega) (show (-1) ≤ 1499 from by omega) (show (σ.1 6) < 30000 from by omega) (show σ.2.1 15 (σ.1 22) < 300 from by omega), ?_⟩
                      intro τ41 hn_τ41 hf_τ41 hq
                      obtain ⟨hT, q39_1, q39_2⟩ := hq
                      replace q39_1 : (τ41.1 6) = (σ.1 6) + 1 := q39_1
                      replace q39_2 : τ41.2.1 15 = st (σ.2.1 15) (σ.1 22) (σ.2.1 15 (σ.1 22) + 1) := q39_2
                      have w0_τ41 : τ41.1 0 = σ.1 0 := hf_τ41.1 0 (by decide)
                      have w4_τ41 : τ41.1 4 = ((σ.1 4) + 0) := hf_τ41.1 4 (by decide)
                      have w17_τ41 : τ41.1 17 = σ.1 17 := hf_τ41.1 17 (by decide)
                      have w18_τ41 : τ41.1 18 = σ.1 18 := hf_τ41.1 18 (by decide)
                      have w19_τ41 : τ41.1 19 = σ.1 19 := hf_τ41.1 19 (by decide)
                      have w20_τ41 : τ41.1 20 = σ.1 20 := hf_τ41.1 20 (by decide)
                      have w22_τ41 : τ41.1 22 = σ.1 22 := hf_τ41.1 22 (by decide)
                      have W0 : τ41.1 0 = σ.1 0 := by omega
                      have W17 : τ41.1 17 = σ.1 17 := by omega
                      have W18 : τ41.1 18 = σ.1 18 := by omega
                      have W19 : τ41.1 19 = σ.1 19 := by omega
                      have W22 : τ41.1 22 = σ.1 22 := by omega
                      have A15 : ∀ j, 0 ≤ τ41.2.1 15 j ∧ τ41.2.1 15 j ≤ 300 := fun j => hT.2 15 j
                      have v0 : 0 ≤ τ41.1 0 ∧ τ41.1 0 ≤ 60000 := hT.1 0
                      have v4 : 0 ≤ τ41.1 4 ∧ τ41.1 4 ≤ 100 := hT.1 4
                      have v6 : 0 ≤ τ41.1 6 ∧ τ41.1 6 ≤ 30000 := hT.1 6
                      have v17 : 0 ≤ τ41.1 17 ∧ τ41.1 17 ≤ 60000 := hT.1 17
                      have v18 : 0 ≤ τ41.1 18 ∧ τ41.1 18 ≤ 60000 := hT.1 18
                      have v19 : (-1) ≤ τ41.1 19 ∧ τ41.1 19 ≤ 125 := hT.1 19
                      have v20 : 0 ≤ τ41.1 20 ∧ τ41.1 20 ≤ 19 := hT.1 20
                      have v22 : 0 ≤ τ41.1 22 ∧ τ41.1 22 ≤ 1499 := hT.1 22
                      exact ⟨hT, (show (τ41.1 20) = 0 → τ41.2.1 15 (τ41.1 22) = 1 from by (intro _; first | omega | (rw [q39_2, w22_τ41]; (first | rw [st_s] | skip); omega))), (show ¬ (σ.1 20) = 0 → (τ41.1 20) = (σ.1 20) from by omega)⟩
                  ·
                    refine ⟨_, K_X13_failHere hT (show 0 ≤ 10 from by omega) (show 10 ≤ 19 from by omega), ?_⟩
                    intro τ36 hn_τ36 hf_τ36 hq
                    obtain ⟨hT, q34_1, q34_2⟩ := hq
                    replace q34_1 : ¬ (σ.1 20) = 0 → (τ36.1 20) = (σ.1 20) := q34_1
                    replace q34_2 : (σ.1 20) = 0 → (τ36.1 20) = 10 := q34_2
                    have w0_τ36 : τ36.1 0 = σ.1 0 := hf_τ36.1 0 (by decide)
                    have w4_τ36 : τ36.1 4 = σ.1 4 := hf_τ36.1 4 (by decide)
                    have w6_τ36 : τ36.1 6 = σ.1 6 := hf_τ36.1 6 (by decide)
                    have w17_τ36 : τ36.1 17 = σ.1 17 := hf_τ36.1 17 (by decide)
                    have w18_τ36 : τ36.1 18 = σ.1 18 := hf_τ36.1 18 (by decide)
                    have w19_τ36 : τ36.1 19 = σ.1 19 := hf_τ36.1 19 (by decide)
                    have w22_τ36 : τ36.1 22 = σ.1 22 := hf_τ36.1 22 (by decide)
                    have g15_τ36 : τ36.2.1 15 = σ.2.1 15 := hf_τ36.2.1 15 (by decide)
                    have W0 : τ36.1 0 = σ.1 0 := by omega
                    have W17 : τ36.1 17 = σ.1 17 := by omega
                    have W18 : τ36.1 18 = σ.1 18 := by omega
                    have W19 : τ36.1 19 = σ.1 19 := by omega
                    have W22 : τ36.1 22 = σ.1 22 := by omega
                    have A15 : ∀ j, 0 ≤ τ36.2.1 15 j ∧ τ36.2.1 15 j ≤ 300 := fun j => hT.2 15 j
                    have v0 : 0 ≤ τ36.1 0 ∧ τ36.1 0 ≤ 60000 := hT.1 0
                    have v4 : 0 ≤ τ36.1 4 ∧ τ36.1 4 ≤ 100 := hT.1 4
                    have v6 : 0 ≤ τ36.1 6 ∧ τ36.1 6 ≤ 30000 := hT.1 6
                    have v17 : 0 ≤ τ36.1 17 ∧ τ36.1 17 ≤ 60000 := hT.1 17
                    have v18 : 0 ≤ τ36.1 18 ∧ τ36.1 18 ≤ 60000 := hT.1 18
                    have v19 : (-1) ≤ τ36.1 19 ∧ τ36.1 19 ≤ 125 := hT.1 19
                    have v20 : 0 ≤ τ36.1 20 ∧ τ36.1 20 ≤ 19 := hT.1 20
                    have v22 : 0 ≤ τ36.1 22 ∧ τ36.1 22 ≤ 1499 := hT.1 22
                    exact ⟨hT, (show (τ36.1 20) = 0 → τ36.2.1 15 (τ36.1 22) = 1 from by (intro _; first | omega | (rw [q39_2, w22_τ41]; (first | rw [st_s] | skip); omega))), (show ¬ (σ.1 20) = 0 → (τ36.1 20) = (σ.1 20) from by omega)⟩
                ·
                  refine h102 _ ?_
                  refine ⟨_, K_X13_failHere hT (show 0 ≤ 9 from by omega) (show 9 ≤ 19 from by omega), ?_⟩
                  intro τ29 hn_τ29 hf_τ29 hq
                  obtain ⟨hT, q27_1, q27_2⟩ := hq
                  replace q27_1 : ¬ (σ.1 20) = 0 → (τ29.1 20) = (σ.1 20) := q27_1
                  replace q27_2 : (σ.1 20) = 0 → (τ29.1 20) = 9 := q27_2
                  have w0_τ29 : τ29.1 0 = σ.1 0 := hf_τ29.1 0 (by decide)
                  have w4_τ29 : τ29.1 4 = σ.1 4 := hf_τ29.1 4 (by decide)
                  have w6_τ29 : τ29.1 6 = σ.1 6 := hf_τ29.1 6 (by decide)
                  have w17_τ29 : τ29.1 17 = σ.1 17 := hf_τ29.1 17 (by decide)
                  have w18_τ29 : τ29.1 18 = σ.1 18 := hf_τ29.1 18 (by decide)
                  have w19_τ29 : τ29.1 19 = σ.1 19 := hf_τ29.1 19 (by decide)
                  have w22_τ29 : τ29.1 22 = σ.1 22 := hf_τ29.1 22 (by decide)
                  have g15_τ29 : τ29.2.1 15 = σ.2.1 15 := hf_τ29.2.1 15 (by decide)
                  have W0 : τ29.1 0 = σ.1 0 := by omega
                  have W17 : τ29.1 17 = σ.1 17 := by omega
                  have W18 : τ29.1 18 = σ.1 18 := by omega
                  have W19 : τ29.1 19 = σ.1 19 := by omega
                  have W22 : τ29.1 22 = σ.1 22 := by omega
                  have A15 : ∀ j, 0 ≤ τ29.2.1 15 j ∧ τ29.2.1 15 j ≤ 300 := fun j => hT.2 15 j
                  have v0 : 0 ≤ τ29.1 0 ∧ τ29.1 0 ≤ 60000 := hT.1 0
                  have v4 : 0 ≤ τ29.1 4 ∧ τ29.1 4 ≤ 100 := hT.1 4
                  have v6 : 0 ≤ τ29.1 6 ∧ τ29.1 6 ≤ 30000 := hT.1 6
                  have v17 : 0 ≤ τ29.1 17 ∧ τ29.1 17 ≤ 60000 := hT.1 17
                  have v18 : 0 ≤ τ29.1 18 ∧ τ29.1 18 ≤ 60000 := hT.1 18
                  have v19 : (-1) ≤ τ29.1 19 ∧ τ29.1 19 ≤ 125 := hT.1 19
                  have v20 : 0 ≤ τ29.1 20 ∧ τ29.1 20 ≤ 19 := hT.1 20
                  have v22 : 0 ≤ τ29.1 22 ∧ τ29.1 22 ≤ 1499 := hT.1 22
                  exact ⟨hT, (show (τ29.1 20) = 0 → τ29.2.1 15 (τ29.1 22) = 1 from by (intro _; first | omega | (rw [q39_2, w22_τ41]; (first | rw [st_s] | skip); omega))), (show ¬ (σ.1 20) = 0 → (τ29.1 20) = (σ.1 20) from by omega)⟩
          ·
            refine ⟨fun c17 => ?_, fun c17 => ?_⟩
            ·
              refine h79 _ _ _ ?_
              refine ⟨fun c21 => ?_, fun c21 => ?_⟩
              ·
                refine h102 _ ?_
                refine ⟨_, K_X13_failHere hT (show 0 ≤ 9 from by omega) (show 9 ≤ 19 from by omega), ?_⟩
                intro τ29 hn_τ29 hf_τ29 hq
                obtain ⟨hT, q27_1, q27_2⟩ := hq
                replace q27_1 : ¬ (σ.1 20) = 0 → (τ29.1 20) = (σ.1 20) := q27_1
                replace q27_2 : (σ.1 20) = 0 → (τ29.1 20) = 9 := q27_2
                have w0_τ29 : τ29.1 0 = σ.1 0 := hf_τ29.1 0 (by decide)
                have w4_τ29 : τ29.1 4 = σ.1 4 := hf_τ29.1 4 (by decide)
                have w6_τ29 : τ29.1 6 = σ.1 6 := hf_τ29.1 6 (by decide)
                have w17_τ29 : τ29.1 17 = σ.1 17 := hf_τ29.1 17 (by decide)
                have w18_τ29 : τ29.1 18 = σ.1 18 := hf_τ29.1 18 (by decide)
                have w19_τ29 : τ29.1 19 = σ.1 19 := hf_τ29.1 19 (by decide)
                have w22_τ29 : τ29.1 22 = σ.1 22 := hf_τ29.1 22 (by decide)
                have g15_τ29 : τ29.2.1 15 = σ.2.1 15 := hf_τ29.2.1 15 (by decide)
                have W0 : τ29.1 0 = σ.1 0 := by omega
                have W17 : τ29.1 17 = σ.1 17 := by omega
                have W18 : τ29.1 18 = σ.1 18 := by omega
                have W19 : τ29.1 19 = σ.1 19 := by omega
                have W22 : τ29.1 22 = σ.1 22 := by omega
                have A15 : ∀ j, 0 ≤ τ29.2.1 15 j ∧ τ29.2.1 15 j ≤ 300 := fun j => hT.2 15 j
                have v0 : 0 ≤ τ29.1 0 ∧ τ29.1 0 ≤ 60000 := hT.1 0
                have v4 : 0 ≤ τ29.1 4 ∧ τ29.1 4 ≤ 100 := hT.1 4
                have v6 : 0 ≤ τ29.1 6 ∧ τ29.1 6 ≤ 30000 := hT.1 6
                have v17 : 0 ≤ τ29.1 17 ∧ τ29.1 17 ≤ 60000 := hT.1 17
                have v18 : 0 ≤ τ29.1 18 ∧ τ29.1 18 ≤ 60000 := hT.1 18
                have v19 : (-1) ≤ τ29.1 19 ∧ τ29.1 19 ≤ 125 := hT.1 19
                have v20 : 0 ≤ τ29.1 20 ∧ τ29.1 20 ≤ 19 := hT.1 20
                have v22 : 0 ≤ τ29.1 22 ∧ τ29.1 22 ≤ 1499 := hT.1 22
                exact ⟨hT, (show (τ29.1 20) = 0 → τ29.2.1 15 (τ29.1 22) = 1 from by (intro _; first | omega | (rw [q39_2, w22_τ41]; (first | rw [st_s] | skip); omega))), (show ¬ (σ.1 20) = 0 → (τ29.1 20) = (σ.1 20) from by omega)⟩
              ·
                refine ⟨(show 0 ≤ x3 ∧ x3 < 1001 from by omega), ?_⟩
                intro x23 r_x23 e_x23
                have b_x23 : 0 ≤ x23 ∧ x23 ≤ 1 := by rw [e_x23]; exact hT.2 8 _
                refine ⟨fun c24 => ?_, fun c24 => ?_⟩
                ·
                  refine h111 _ _ _ ?_
                  refine ⟨fun c30 => ?_, fun c30 => ?_⟩
                  ·
                    refine ⟨(show 0 ≤ x3 ∧ x3 < 1001 from by omega), ?_⟩
                    intro x32 r_x32 e_x32
                    have b_x32 : 0 ≤ x32 ∧ x32 ≤ 1 := by rw [e_x32]; exact hT.2 12 _
                    refine ⟨fun c33 => ?_, fun c33 => ?_⟩
                    ·
                      refine h143 _ _ _ _ ?_
                      refine ⟨(⟨by omega, by omega⟩ : rg ((σ.1 4) + 1)), ?_⟩
                      replace hT := mT_v (i := 4) hT (show 0 ≤ ((σ.1 4) + 1) ∧ ((σ.1 4) + 1) ≤ 100 from by omega)
                      refine ⟨(show 0 ≤ x3 ∧ x3 < 1001 from by omega), ?_⟩
                      replace hT := mT_a (k := 12) (j := x3) hT (show (0 : Int) ≤ 1 ∧ 1 ≤ 1 from by omega)
                      refine ⟨_, K_X13_addSymbol hT (show 0 ≤ x3 from by omega) (show x3 < 1000 from by omega) (show -1 ≤ (-1) from by omega) (show (-1) ≤ 1499 from by omega) (show (σ.1 6) < 30000 from by omega) (show σ.2.1 15 (σ.1 22) < 300 from by omega), ?_⟩
                      intro τ41 hn_τ41 hf_τ41 hq
                      obtain ⟨hT, q39_1, q39_2⟩ := hq
                      replace q39_1 : (τ41.1 6) = (σ.1 6) + 1 := q39_1
                      replace q39_2 : τ41.2.1 15 = st (σ.2.1 15) (σ.1 22) (σ.2.1 15 (σ.1 22) + 1) := q39_2
                      have w0_τ41 : τ41.1 0 = σ.1 0 := hf_τ41.1 0 (by decide)
                      have w4_τ41 : τ41.1 4 = ((σ.1 4) + 1) := hf_τ41.1 4 (by decide)
                      have w17_τ41 : τ41.1 17 = σ.1 17 := hf_τ41.1 17 (by decide)
                      have w18_τ41 : τ41.1 18 = σ.1 18 := hf_τ41.1 18 (by decide)
                      have w19_τ41 : τ41.1 19 = σ.1 19 := hf_τ41.1 19 (by decide)
                      have w20_τ41 : τ41.1 20 = σ.1 20 := hf_τ41.1 20 (by decide)
                      have w22_τ41 : τ41.1 22 = σ.1 22 := hf_τ41.1 22 (by decide)
                      have W0 : τ41.1 0 = σ.1 0 := by omega
                      have W17 : τ41.1 17 = σ.1 17 := by omega
                      have W18 : τ41.1 18 = σ.1 18 := by omega
                      have W19 : τ41.1 19 = σ.1 19 := by omega
                      have W22 : τ41.1 22 = σ.1 22 := by omega
                      have A15 : ∀ j, 0 ≤ τ41.2.1 15 j ∧ τ41.2.1 15 j ≤ 300 := fun j => hT.2 15 j
                      have v0 : 0 ≤ τ41.1 0 ∧ τ41.1 0 ≤ 60000 := hT.1 0
                      have v4 : 0 ≤ τ41.1 4 ∧ τ41.1 4 ≤ 100 := hT.1 4
                      have v6 : 0 ≤ τ41.1 6 ∧ τ41.1 6 ≤ 30000 := hT.1 6
                      have v17 : 0 ≤ τ41.1 17 ∧ τ41.1 17 ≤ 60000 := hT.1 17
                      have v18 : 0 ≤ τ41.1 18 ∧ τ41.1 18 ≤ 60000 := hT.1 18
                      have v19 : (-1) ≤ τ41.1 19 ∧ τ41.1 19 ≤ 125 := hT.1 19
                      have v20 : 0 ≤ τ41.1 20 ∧ τ41.1 20 ≤ 19 := hT.1 20
                      have v22 : 0 ≤ τ41.1 22 ∧ τ41.1 22 ≤ 1499 := hT.1 22
                      exact ⟨hT, (show (τ41.1 20) = 0 → τ41.2.1 15 (τ41.1 22) = 1 from by (intro _; first | omega | (rw [q39_2, w22_τ41]; (first | rw [st_s] | skip); omega))), (show ¬ (σ.1 20) = 0 → (τ41.1 20) = (σ.1 20) from by omega)⟩
                    ·
                      refine h143 _ _ _ _ ?_
                      refine ⟨(⟨by omega, by omega⟩ : rg ((σ.1 4) + 0)), ?_⟩
                      replace hT := mT_v (i := 4) hT (show 0 ≤ ((σ.1 4) + 0) ∧ ((σ.1 4) + 0) ≤ 100 from by omega)
                      refine ⟨(show 0 ≤ x3 ∧ x3 < 1001 from by omega), ?_⟩
                      replace hT := mT_a (k := 12) (j := x3) hT (show (0 : Int) ≤ 1 ∧ 1 ≤ 1 from by omega)
                      refine ⟨_, K_X13_addSymbol hT (show 0 ≤ x3 from by omega) (show x3 < 1000 from by omega) (show -1 ≤ (-1) from by omega) (show (-1) ≤ 1499 from by omega) (show (σ.1 6) < 30000 from by omega) (show σ.2.1 15 (σ.1 22) < 300 from by omega), ?_⟩
                      intro τ41 hn_τ41 hf_τ41 hq
                      obtain ⟨hT, q39_1, q39_2⟩ := hq
                      replace q39_1 : (τ41.1 6) = (σ.1 6) + 1 := q39_1
                      replace q39_2 : τ41.2.1 15 = st (σ.2.1 15) (σ.1 22) (σ.2.1 15 (σ.1 22) + 1) := q39_2
                      have w0_τ41 : τ41.1 0 = σ.1 0 := hf_τ41.1 0 (by decide)
                      have w4_τ41 : τ41.1 4 = ((σ.1 4) + 0) := hf_τ41.1 4 (by decide)
                      have w17_τ41 : τ41.1 17 = σ.1 17 := hf_τ41.1 17 (by decide)
                      have w18_τ41 : τ41.1 18 = σ.1 18 := hf_τ41.1 18 (by decide)
                      have w19_τ41 : τ41.1 19 = σ.1 19 := hf_τ41.1 19 (by decide)
                      have w20_τ41 : τ41.1 20 = σ.1 20 := hf_τ41.1 20 (by decide)
                      have w22_τ41 : τ41.1 22 = σ.1 22 := hf_τ41.1 22 (by decide)
                      have W0 : τ41.1 0 = σ.1 0 := by omega
                      have W17 : τ41.1 17 = σ.1 17 := by omega
                      have W18 : τ41.1 18 = σ.1 18 := by omega
                      have W19 : τ41.1 19 = σ.1 19 := by omega
                      have W22 : τ41.1 22 = σ.1 22 := by omega
                      have A15 : ∀ j, 0 ≤ τ41.2.1 15 j ∧ τ41.2.1 15 j ≤ 300 := fun j => hT.2 15 j
                      have v0 : 0 ≤ τ41.1 0 ∧ τ41.1 0 ≤ 60000 := hT.1 0
                      have v4 : 0 ≤ τ41.1 4 ∧ τ41.1 4 ≤ 100 := hT.1 4
                      have v6 : 0 ≤ τ41.1 6 ∧ τ41.1 6 ≤ 30000 := hT.1 6
                      have v17 : 0 ≤ τ41.1 17 ∧ τ41.1 17 ≤ 60000 := hT.1 17
                      have v18 : 0 ≤ τ41.1 18 ∧ τ41.1 18 ≤ 60000 := hT.1 18
                      have v19 : (-1) ≤ τ41.1 19 ∧ τ41.1 19 ≤ 125 := hT.1 19
                      have v20 : 0 ≤ τ41.1 20 ∧ τ41.1 20 ≤ 19 := hT.1 20
                      have v22 : 0 ≤ τ41.1 22 ∧ τ41.1 22 ≤ 1499 := hT.1 22
                      exact ⟨hT, (show (τ41.1 20) = 0 → τ41.2.1 15 (τ41.1 22) = 1 from by (intro _; first | omega | (rw [q39_2, w22_τ41]; (first | rw [st_s] | skip); omega))), (show ¬ (σ.1 20) = 0 → (τ41.1 20) = (σ.1 20) from by omega)⟩
                  ·
                    refine ⟨_, K_X13_failHere hT (show 0 ≤ 10 from by omega) (show 10 ≤ 19 from by omega), ?_⟩
                    intro τ36 hn_τ36 hf_τ36 hq
                    obtain ⟨hT, q34_1, q34_2⟩ := hq
                    replace q34_1 : ¬ (σ.1 20) = 0 → (τ36.1 20) = (σ.1 20) := q34_1
                    replace q34_2 : (σ.1 20) = 0 → (τ36.1 20) = 10 := q34_2
                    have w0_τ36 : τ36.1 0 = σ.1 0 := hf_τ36.1 0 (by decide)
                    have w4_τ36 : τ36.1 4 = σ.1 4 := hf_τ36.1 4 (by decide)
                    have w6_τ36 : τ36.1 6 = σ.1 6 := hf_τ36.1 6 (by decide)
                    have w17_τ36 : τ36.1 17 = σ.1 17 := hf_τ36.1 17 (by decide)
                    have w18_τ36 : τ36.1 18 = σ.1 18 := hf_τ36.1 18 (by decide)
                    have w19_τ36 : τ36.1 19 = σ.1 19 := hf_τ36.1 19 (by decide)
                    have w22_τ36 : τ36.1 22 = σ.1 22 := hf_τ36.1 22 (by decide)
                    have g15_τ36 : τ36.2.1 15 = σ.2.1 15 := hf_τ36.2.1 15 (by decide)
                    have W0 : τ36.1 0 = σ.1 0 := by omega
                    have W17 : τ36.1 17 = σ.1 17 := by omega
                    have W18 : τ36.1 18 = σ.1 18 := by omega
                    have W19 : τ36.1 19 = σ.1 19 := by omega
                    have W22 : τ36.1 22 = σ.1 22 := by omega
                    have A15 : ∀ j, 0 ≤ τ36.2.1 15 j ∧ τ36.2.1 15 j ≤ 300 := fun j => hT.2 15 j
                    have v0 : 0 ≤ τ36.1 0 ∧ τ36.1 0 ≤ 60000 := hT.1 0
                    have v4 : 0 ≤ τ36.1 4 ∧ τ36.1 4 ≤ 100 := hT.1 4
                    have v6 : 0 ≤ τ36.1 6 ∧ τ36.1 6 ≤ 30000 := hT.1 6
                    have v17 : 0 ≤ τ36.1 17 ∧ τ36.1 17 ≤ 60000 := hT.1 17
                    have v18 : 0 ≤ τ36.1 18 ∧ τ36.1 18 ≤ 60000 := hT.1 18
                    have v19 : (-1) ≤ τ36.1 19 ∧ τ36.1 19 ≤ 125 := hT.1 19
                    have v20 : 0 ≤ τ36.1 20 ∧ τ36.1 20 ≤ 19 := hT.1 20
                    have v22 : 0 ≤ τ36.1 22 ∧ τ36.1 22 ≤ 1499 := hT.1 22
                    exact ⟨hT, (show (τ36.1 20) = 0 → τ36.2.1 15 (τ36.1 22) = 1 from by (intro _; first | omega | (rw [q39_2, w22_τ41]; (first | rw [st_s] | skip); omega))), (show ¬ (σ.1 20) = 0 → (τ36.1 20) = (σ.1 20) from by omega)⟩
                ·
                  intro x25 r_x25 e_x25
                  have b_x25 : 0 ≤ x25 ∧ x25 ≤ 1 := by rw [e_x25]; exact hT.2 9 _
                  refine ⟨fun c26 => ?_, fun c26 => ?_⟩
                  ·
                    refine h111 _ _ _ ?_
                    refine ⟨fun c30 => ?_, fun c30 => ?_⟩
                    ·
                      refine ⟨(show 0 ≤ x3 ∧ x3 < 1001 from by omega), ?_⟩
                      intro x32 r_x32 e_x32
                      have b_x32 : 0 ≤ x32 ∧ x32 ≤ 1 := by rw [e_x32]; exact hT.2 12 _
                      refine ⟨fun c33 => ?_, fun c33 => ?_⟩
                      ·
                        refine h143 _ _ _ _ ?_
                        refine ⟨(⟨by omega, by omega⟩ : rg ((σ.1 4) + 1)), ?_⟩
                        replace hT := mT_v (i := 4) hT (show 0 ≤ ((σ.1 4) + 1) ∧ ((σ.1 4) + 1) ≤ 100 from by omega)
                        refine ⟨(show 0 ≤ x3 ∧ x3 < 1001 from by omega), ?_⟩
                        replace hT := mT_a (k := 12) (j := x3) hT (show (0 : Int) ≤ 1 ∧ 1 ≤ 1 from by omega)
                        refine ⟨_, K_X13_addSymbol hT (show 0 ≤ x3 from by omega) (show x3 < 1000 from by omega) (show -1 ≤ (-1) from by omega) (show (-1) ≤ 1499 from by omega) (show (σ.1 6) < 30000 from by omega) (show σ.2.1 15 (σ.1 22) < 300 from by omega), ?_⟩
                        intro τ41 hn_τ41 hf_τ41 hq
                        obtain ⟨hT, q39_1, q39_2⟩ := hq
                        replace q39_1 : (τ41.1 6) = (σ.1 6) + 1 := q39_1
                        replace q39_2 : τ41.2.1 15 = st (σ.2.1 15) (σ.1 22) (σ.2.1 15 (σ.1 22) + 1) := q39_2
                        have w0_τ41 : τ41.1 0 = σ.1 0 := hf_τ41.1 0 (by decide)
                        have w4_τ41 : τ41.1 4 = ((σ.1 4) + 1) := hf_τ41.1 4 (by decide)
                        have w17_τ41 : τ41.1 17 = σ.1 17 := hf_τ41.1 17 (by decide)
                        have w18_τ41 : τ41.1 18 = σ.1 18 := hf_τ41.1 18 (by decide)
                        have w19_τ41 : τ41.1 19 = σ.1 19 := hf_τ41.1 19 (by decide)
                        have w20_τ41 : τ41.1 20 = σ.1 20 := hf_τ41.1 20 (by decide)
                        have w22_τ41 : τ41.1 22 = σ.1 22 := hf_τ41.1 22 (by decide)
                        have W0 : τ41.1 0 = σ.1 0 := by omega
                        have W17 : τ41.1 17 = σ.1 17 := by omega
                        have W18 : τ41.1 18 = σ.1 18 := by omega
                        have W19 : τ41.1 19 = σ.1 19 := by omega
                        have W22 : τ41.1 22 = σ.1 22 := by omega
                        have A15 : ∀ j, 0 ≤ τ41.2.1 15 j ∧ τ41.2.1 15 j ≤ 300 := fun j => hT.2 15 j
                        have v0 : 0 ≤ τ41.1 0 ∧ τ41.1 0 ≤ 60000 := hT.1 0
                        have v4 : 0 ≤ τ41.1 4 ∧ τ41.1 4 ≤ 100 := hT.1 4
                        have v6 : 0 ≤ τ41.1 6 ∧ τ41.1 6 ≤ 30000 := hT.1 6
                        have v17 : 0 ≤ τ41.1 17 ∧ τ41.1 17 ≤ 60000 := hT.1 17
                        have v18 : 0 ≤ τ41.1 18 ∧ τ41.1 18 ≤ 60000 := hT.1 18
                        have v19 : (-1) ≤ τ41.1 19 ∧ τ41.1 19 ≤ 125 := hT.1 19
                        have v20 : 0 ≤ τ41.1 20 ∧ τ41.1 20 ≤ 19 := hT.1 20
                        have v22 : 0 ≤ τ41.1 22 ∧ τ41.1 22 ≤ 1499 := hT.1 22
                        exact ⟨hT, (show (τ41.1 20) = 0 → τ41.2.1 15 (τ41.1 22) = 1 from by (intro _; first | omega | (rw [q39_2, w22_τ41]; (first | rw [st_s] | skip); omega))), (show ¬ (σ.1 20) = 0 → (τ41.1 20) = (σ.1 20) from by omega)⟩
                      ·
                        refine h143 _ _ _ _ ?_
                        refine ⟨(⟨by omega, by omega⟩ : rg ((σ.1 4) + 0)), ?_⟩
                        replace hT := mT_v (i := 4) hT (show 0 ≤ ((σ.1 4) + 0) ∧ ((σ.1 4) + 0) ≤ 100 from by omega)
                        refine ⟨(show 0 ≤ x3 ∧ x3 < 1001 from by omega), ?_⟩
                        replace hT := mT_a (k := 12) (j := x3) hT (show (0 : Int) ≤ 1 ∧ 1 ≤ 1 from by omega)
                        refine ⟨_, K_X13_addSymbol hT (show 0 ≤ x3 from by omega) (show x3 < 1000 from by omega) (show -1 ≤ (-1) from by omega) (show (-1) ≤ 1499 from by omega) (show (σ.1 6) < 30000 from by omega) (show σ.2.1 15 (σ.1 22) < 300 from by omega), ?_⟩
                        intro τ41 hn_τ41 hf_τ41 hq
                        obtain ⟨hT, q39_1, q39_2⟩ := hq
                        replace q39_1 : (τ41.1 6) = (σ.1 6) + 1 := q39_1
                        replace q39_2 : τ41.2.1 15 = st (σ.2.1 15) (σ.1 22) (σ.2.1 15 (σ.1 22) + 1) := q39_2
                        have w0_τ41 : τ41.1 0 = σ.1 0 := hf_τ41.1 0 (by decide)
                        have w4_τ41 : τ41.1 4 = ((σ.1 4) + 0) := hf_τ41.1 4 (by decide)
                        have w17_τ41 : τ41.1 17 = σ.1 17 := hf_τ41.1 17 (by decide)
                        have w18_τ41 : τ41.1 18 = σ.1 18 := hf_τ41.1 18 (by decide)
                        have w19_τ41 : τ41.1 19 = σ.1 19 := hf_τ41.1 19 (by decide)
                        have w20_τ41 : τ41.1 20 = σ.1 20 := hf_τ41.1 20 (by decide)
                        have w22_τ41 : τ41.1 22 = σ.1 22 := hf_τ41.1 22 (by decide)
                        have W0 : τ41.1 0 = σ.1 0 := by omega
                        have W17 : τ41.1 17 = σ.1 17 := by omega
                        have W18 : τ41.1 18 = σ.1 18 := by omega
                        have W19 : τ41.1 19 = σ.1 19 := by omega
                        have W22 : τ41.1 22 = σ.1 22 := by omega
                        have A15 : ∀ j, 0 ≤ τ41.2.1 15 j ∧ τ41.2.1 15 j ≤ 300 := fun j => hT.2 15 j
                        have v0 : 0 ≤ τ41.1 0 ∧ τ41.1 0 ≤ 60000 := hT.1 0
                        have v4 : 0 ≤ τ41.1 4 ∧ τ41.1 4 ≤ 100 := hT.1 4
                        have v6 : 0 ≤ τ41.1 6 ∧ τ41.1 6 ≤ 30000 := hT.1 6
                        have v17 : 0 ≤ τ41.1 17 ∧ τ41.1 17 ≤ 60000 := hT.1 17
                        have v18 : 0 ≤ τ41.1 18 ∧ τ41.1 18 ≤ 60000 := hT.1 18
                        have v19 : (-1) ≤ τ41.1 19 ∧ τ41.1 19 ≤ 125 := hT.1 19
                        have v20 : 0 ≤ τ41.1 20 ∧ τ41.1 20 ≤ 19 := hT.1 20
                        have v22 : 0 ≤ τ41.1 22 ∧ τ41.1 22 ≤ 1499 := hT.1 22
                        exact ⟨hT, (show (τ41.1 20) = 0 → τ41.2.1 15 (τ41.1 22) = 1 from by (intro _; first | omega | (rw [q39_2, w22_τ41]; (first | rw [st_s] | skip); omega))), (show ¬ (σ.1 20) = 0 → (τ41.1 20) = (σ.1 20) from by omega)⟩
                    ·
                      refine ⟨_, K_X13_failHere hT (show 0 ≤ 10 from by omega) (show 10 ≤ 19 from by omega), ?_⟩
                      intro τ36 hn_τ36 hf_τ36 hq
                      obtain ⟨hT, q34_1, q34_2⟩ := hq
                      replace q34_1 : ¬ (σ.1 20) = 0 → (τ36.1 20) = (σ.1 20) := q34_1
                      replace q34_2 : (σ.1 20) = 0 → (τ36.1 20) = 10 := q34_2
                      have w0_τ36 : τ36.1 0 = σ.1 0 := hf_τ36.1 0 (by decide)
                      have w4_τ36 : τ36.1 4 = σ.1 4 := hf_τ36.1 4 (by decide)
                      have w6_τ36 : τ36.1 6 = σ.1 6 := hf_τ36.1 6 (by decide)
                      have w17_τ36 : τ36.1 17 = σ.1 17 := hf_τ36.1 17 (by decide)
                      have w18_τ36 : τ36.1 18 = σ.1 18 := hf_τ36.1 18 (by decide)
                      have w19_τ36 : τ36.1 19 = σ.1 19 := hf_τ36.1 19 (by decide)
                      have w22_τ36 : τ36.1 22 = σ.1 22 := hf_τ36.1 22 (by decide)
                      have g15_τ36 : τ36.2.1 15 = σ.2.1 15 := hf_τ36.2.1 15 (by decide)
                      have W0 : τ36.1 0 = σ.1 0 := by omega
                      have W17 : τ36.1 17 = σ.1 17 := by omega
                      have W18 : τ36.1 18 = σ.1 18 := by omega
                      have W19 : τ36.1 19 = σ.1 19 := by omega
                      have W22 : τ36.1 22 = σ.1 22 := by omega
                      have A15 : ∀ j, 0 ≤ τ36.2.1 15 j ∧ τ36.2.1 15 j ≤ 300 := fun j => hT.2 15 j
                      have v0 : 0 ≤ τ36.1 0 ∧ τ36.1 0 ≤ 60000 := hT.1 0
                      have v4 : 0 ≤ τ36.1 4 ∧ τ36.1 4 ≤ 100 := hT.1 4
                      have v6 : 0 ≤ τ36.1 6 ∧ τ36.1 6 ≤ 30000 := hT.1 6
                      have v17 : 0 ≤ τ36.1 17 ∧ τ36.1 17 ≤ 60000 := hT.1 17
                      have v18 : 0 ≤ τ36.1 18 ∧ τ36.1 18 ≤ 60000 := hT.1 18
                      have v19 : (-1) ≤ τ36.1 19 ∧ τ36.1 19 ≤ 125 := hT.1 19
                      have v20 : 0 ≤ τ36.1 20 ∧ τ36.1 20 ≤ 19 := hT.1 20
                      have v22 : 0 ≤ τ36.1 22 ∧ τ36.1 22 ≤ 1499 := hT.1 22
                      exact ⟨hT, (show (τ36.1 20) = 0 → τ36.2.1 15 (τ36.1 22) = 1 from by (intro _; first | omega | (rw [q39_2, w22_τ41]; (first | rw [st_s] | skip); omega))), (show ¬ (σ.1 20) = 0 → (τ36.1 20) = (σ.1 20) from by omega)⟩
                  ·
                    refine h102 _ ?_
                    refine ⟨_, K_X13_failHere hT (show 0 ≤ 9 from by omega) (show 9 ≤ 19 from by omega), ?_⟩
                    intro τ29 hn_τ29 hf_τ29 hq
                    obtain ⟨hT, q27_1, q27_2⟩ := hq
                    replace q27_1 : ¬ (σ.1 20) = 0 → (τ29.1 20) = (σ.1 20) := q27_1
                    replace q27_2 : (σ.1 20) = 0 → (τ29.1 20) = 9 := q27_2
                    have w0_τ29 : τ29.1 0 = σ.1 0 := hf_τ29.1 0 (by decide)
                    have w4_τ29 : τ29.1 4 = σ.1 4 := hf_τ29.1 4 (by decide)
                    have w6_τ29 : τ29.1 6 = σ.1 6 := hf_τ29.1 6 (by decide)
                    have w17_τ29 : τ29.1 17 = σ.1 17 := hf_τ29.1 17 (by decide)
                    have w18_τ29 : τ29.1 18 = σ.1 18 := hf_τ29.1 18 (by decide)
                    have w19_τ29 : τ29.1 19 = σ.1 19 := hf_τ29.1 19 (by decide)
                    have w22_τ29 : τ29.1 22 = σ.1 22 := hf_τ29.1 22 (by decide)
                    have g15_τ29 : τ29.2.1 15 = σ.2.1 15 := hf_τ29.2.1 15 (by decide)
                    have W0 : τ29.1 0 = σ.1 0 := by omega
                    have W17 : τ29.1 17 = σ.1 17 := by omega
                    have W18 : τ29.1 18 = σ.1 18 := by omega
                    have W19 : τ29.1 19 = σ.1 19 := by omega
                    have W22 : τ29.1 22 = σ.1 22 := by omega
                    have A15 : ∀ j, 0 ≤ τ29.2.1 15 j ∧ τ29.2.1 15 j ≤ 300 := fun j => hT.2 15 j
                    have v0 : 0 ≤ τ29.1 0 ∧ τ29.1 0 ≤ 60000 := hT.1 0
                    have v4 : 0 ≤ τ29.1 4 ∧ τ29.1 4 ≤ 100 := hT.1 4
                    have v6 : 0 ≤ τ29.1 6 ∧ τ29.1 6 ≤ 30000 := hT.1 6
                    have v17 : 0 ≤ τ29.1 17 ∧ τ29.1 17 ≤ 60000 := hT.1 17
                    have v18 : 0 ≤ τ29.1 18 ∧ τ29.1 18 ≤ 60000 := hT.1 18
                    have v19 : (-1) ≤ τ29.1 19 ∧ τ29.1 19 ≤ 125 := hT.1 19
                    have v20 : 0 ≤ τ29.1 20 ∧ τ29.1 20 ≤ 19 := hT.1 20
                    have v22 : 0 ≤ τ29.1 22 ∧ τ29.1 22 ≤ 1499 := hT.1 22
                    exact ⟨hT, (show (τ29.1 20) = 0 → τ29.2.1 15 (τ29.1 22) = 1 from by (intro _; first | omega | (rw [q39_2, w22_τ41]; (first | rw [st_s] | skip); omega))), (show ¬ (σ.1 20) = 0 → (τ29.1 20) = (σ.1 20) from by omega)⟩
            ·
              refine h71 _ ?_
              refine ⟨_, K_X13_failHere hT (show 0 ≤ 5 from by omega) (show 5 ≤ 19 from by omega), ?_⟩
              intro τ20 hn_τ20 hf_τ20 hq
              obtain ⟨hT, q18_1, q18_2⟩ := hq
              replace q18_1 : ¬ (σ.1 20) = 0 → (τ20.1 20) = (σ.1 20) := q18_1
              replace q18_2 : (σ.1 20) = 0 → (τ20.1 20) = 5 := q18_2
              have w0_τ20 : τ20.1 0 = σ.1 0 := hf_τ20.1 0 (by decide)
              have w4_τ20 : τ20.1 4 = σ.1 4 := hf_τ20.1 4 (by decide)
              have w6_τ20 : τ20.1 6 = σ.1 6 := hf_τ20.1 6 (by decide)
              have w17_τ20 : τ20.1 17 = σ.1 17 := hf_τ20.1 17 (by decide)
              have w18_τ20 : τ20.1 18 = σ.1 18 := hf_τ20.1 18 (by decide)
              have w19_τ20 : τ20.1 19 = σ.1 19 := hf_τ20.1 19 (by decide)
              have w22_τ20 : τ20.1 22 = σ.1 22 := hf_τ20.1 22 (by decide)
              have g15_τ20 : τ20.2.1 15 = σ.2.1 15 := hf_τ20.2.1 15 (by decide)
              have W0 : τ20.1 0 = σ.1 0 := by omega
              have W17 : τ20.1 17 = σ.1 17 := by omega
              have W18 : τ20.1 18 = σ.1 18 := by omega
              have W19 : τ20.1 19 = σ.1 19 := by omega
              have W22 : τ20.1 22 = σ.1 22 := by omega
              have A15 : ∀ j, 0 ≤ τ20.2.1 15 j ∧ τ20.2.1 15 j ≤ 300 := fun j => hT.2 15 j
              have v0 : 0 ≤ τ20.1 0 ∧ τ20.1 0 ≤ 60000 := hT.1 0
              have v4 : 0 ≤ τ20.1 4 ∧ τ20.1 4 ≤ 100 := hT.1 4
              have v6 : 0 ≤ τ20.1 6 ∧ τ20.1 6 ≤ 30000 := hT.1 6
              have v17 : 0 ≤ τ20.1 17 ∧ τ20.1 17 ≤ 60000 := hT.1 17
              have v18 : 0 ≤ τ20.1 18 ∧ τ20.1 18 ≤ 60000 := hT.1 18
              have v19 : (-1) ≤ τ20.1 19 ∧ τ20.1 19 ≤ 125 := hT.1 19
              have v20 : 0 ≤ τ20.1 20 ∧ τ20.1 20 ≤ 19 := hT.1 20
              have v22 : 0 ≤ τ20.1 22 ∧ τ20.1 22 ≤ 1499 := hT.1 22
              exact ⟨hT, (show (τ20.1 20) = 0 → τ20.2.1 15 (τ20.1 22) = 1 from by (intro _; first | omega | (rw [q39_2, w22_τ41]; (first | rw [st_s] | skip); omega))), (show ¬ (σ.1 20) = 0 → (τ20.1 20) = (σ.1 20) from by omega)⟩
    ·
      refine ⟨(show 0 ≤ x3 ∧ x3 < 1001 from by omega), ?_⟩
      intro x7 r_x7 e_x7
      have b_x7 : 0 ≤ x7 ∧ x7 ≤ 1 := by rw [e_x7]; exact hT.2 8 _
      refine ⟨fun c8 => ?_, fun c8 => ?_⟩
      ·
        refine h38 _ _ _ ?_
        refine ⟨fun c12 => ?_, fun c12 => ?_⟩
        ·
          refine h71 _ ?_
          refine ⟨_, K_X13_failHere hT (show 0 ≤ 5 from by omega) (show 5 ≤ 19 from by omega), ?_⟩
          intro τ20 hn_τ20 hf_τ20 hq
          obtain ⟨hT, q18_1, q18_2⟩ := hq
          replace q18_1 : ¬ (σ.1 20) = 0 → (τ20.1 20) = (σ.1 20) := q18_1
          replace q18_2 : (σ.1 20) = 0 → (τ20.1 20) = 5 := q18_2
          have w0_τ20 : τ20.1 0 = σ.1 0 := hf_τ20.1 0 (by decide)
          have w4_τ20 : τ20.1 4 = σ.1 4 := hf_τ20.1 4 (by decide)
          have w6_τ20 : τ20.1 6 = σ.1 6 := hf_τ20.1 6 (by decide)
          have w17_τ20 : τ20.1 17 = σ.1 17 := hf_τ20.1 17 (by decide)
          have w18_τ20 : τ20.1 18 = σ.1 18 := hf_τ20.1 18 (by decide)
          have w19_τ20 : τ20.1 19 = σ.1 19 := hf_τ20.1 19 (by decide)
          have w22_τ20 : τ20.1 22 = σ.1 22 := hf_τ20.1 22 (by decide)
          have g15_τ20 : τ20.2.1 15 = σ.2.1 15 := hf_τ20.2.1 15 (by decide)
          have W0 : τ20.1 0 = σ.1 0 := by omega
          have W17 : τ20.1 17 = σ.1 17 := by omega
          have W18 : τ20.1 18 = σ.1 18 := by omega
          have W19 : τ20.1 19 = σ.1 19 := by omega
          have W22 : τ20.1 22 = σ.1 22 := by omega
          have A15 : ∀ j, 0 ≤ τ20.2.1 15 j ∧ τ20.2.1 15 j ≤ 300 := fun j => hT.2 15 j
          have v0 : 0 ≤ τ20.1 0 ∧ τ20.1 0 ≤ 60000 := hT.1 0
          have v4 : 0 ≤ τ20.1 4 ∧ τ20.1 4 ≤ 100 := hT.1 4
          have v6 : 0 ≤ τ20.1 6 ∧ τ20.1 6 ≤ 30000 := hT.1 6
          have v17 : 0 ≤ τ20.1 17 ∧ τ20.1 17 ≤ 60000 := hT.1 17
          have v18 : 0 ≤ τ20.1 18 ∧ τ20.1 18 ≤ 60000 := hT.1 18
          have v19 : (-1) ≤ τ20.1 19 ∧ τ20.1 19 ≤ 125 := hT.1 19
          have v20 : 0 ≤ τ20.1 20 ∧ τ20.1 20 ≤ 19 := hT.1 20
          have v22 : 0 ≤ τ20.1 22 ∧ τ20.1 22 ≤ 1499 := hT.1 22
          exact ⟨hT, (show (τ20.1 20) = 0 → τ20.2.1 15 (τ20.1 22) = 1 from by (intro _; first | omega | (rw [q39_2, w22_τ41]; (first | rw [st_s] | skip); omega))), (show ¬ (σ.1 20) = 0 → (τ20.1 20) = (σ.1 20) from by omega)⟩
        ·
          refine ⟨fun c13 => ?_, fun c13 => ?_⟩
          ·
            refine h79 _ _ _ ?_
            refine ⟨fun c21 => ?_, fun c21 => ?_⟩
            ·
              refine h102 _ ?_
              refine ⟨_, K_X13_failHere hT (show 0 ≤ 9 from by omega) (show 9 ≤ 19 from by omega), ?_⟩
              intro τ29 hn_τ29 hf_τ29 hq
              obtain ⟨hT, q27_1, q27_2⟩ := hq
              replace q27_1 : ¬ (σ.1 20) = 0 → (τ29.1 20) = (σ.1 20) := q27_1
              replace q27_2 : (σ.1 20) = 0 → (τ29.1 20) = 9 := q27_2
              have w0_τ29 : τ29.1 0 = σ.1 0 := hf_τ29.1 0 (by decide)
              have w4_τ29 : τ29.1 4 = σ.1 4 := hf_τ29.1 4 (by decide)
              have w6_τ29 : τ29.1 6 = σ.1 6 := hf_τ29.1 6 (by decide)
              have w17_τ29 : τ29.1 17 = σ.1 17 := hf_τ29.1 17 (by decide)
              have w18_τ29 : τ29.1 18 = σ.1 18 := hf_τ29.1 18 (by decide)
              have w19_τ29 : τ29.1 19 = σ.1 19 := hf_τ29.1 19 (by decide)
              have w22_τ29 : τ29.1 22 = σ.1 22 := hf_τ29.1 22 (by decide)
              have g15_τ29 : τ29.2.1 15 = σ.2.1 15 := hf_τ29.2.1 15 (by decide)
              have W0 : τ29.1 0 = σ.1 0 := by omega
              have W17 : τ29.1 17 = σ.1 17 := by omega
              have W18 : τ29.1 18 = σ.1 18 := by omega
              have W19 : τ29.1 19 = σ.1 19 := by omega
              have W22 : τ29.1 22 = σ.1 22 := by omega
              have A15 : ∀ j, 0 ≤ τ29.2.1 15 j ∧ τ29.2.1 15 j ≤ 300 := fun j => hT.2 15 j
              have v0 : 0 ≤ τ29.1 0 ∧ τ29.1 0 ≤ 60000 := hT.1 0
              have v4 : 0 ≤ τ29.1 4 ∧ τ29.1 4 ≤ 100 := hT.1 4
              have v6 : 0 ≤ τ29.1 6 ∧ τ29.1 6 ≤ 30000 := hT.1 6
              have v17 : 0 ≤ τ29.1 17 ∧ τ29.1 17 ≤ 60000 := hT.1 17
              have v18 : 0 ≤ τ29.1 18 ∧ τ29.1 18 ≤ 60000 := hT.1 18
              have v19 : (-1) ≤ τ29.1 19 ∧ τ29.1 19 ≤ 125 := hT.1 19
              have v20 : 0 ≤ τ29.1 20 ∧ τ29.1 20 ≤ 19 := hT.1 20
              have v22 : 0 ≤ τ29.1 22 ∧ τ29.1 22 ≤ 1499 := hT.1 22
              exact ⟨hT, (show (τ29.1 20) = 0 → τ29.2.1 15 (τ29.1 22) = 1 from by (intro _; first | omega | (rw [q39_2, w22_τ41]; (first | rw [st_s] | skip); omega))), (show ¬ (σ.1 20) = 0 → (τ29.1 20) = (σ.1 20) from by omega)⟩
            ·
              refine ⟨(show 0 ≤ x3 ∧ x3 < 1001 from by omega), ?_⟩
              intro x23 r_x23 e_x23
              have b_x23 : 0 ≤ x23 ∧ x23 ≤ 1 := by rw [e_x23]; exact hT.2 8 _
              refine ⟨fun c24 => ?_, fun c24 => ?_⟩
              ·
                refine h111 _ _ _ ?_
                refine ⟨fun c30 => ?_, fun c30 => ?_⟩
                ·
                  refine ⟨(show 0 ≤ x3 ∧ x3 < 1001 from by omega), ?_⟩
                  intro x32 r_x32 e_x32
                  have b_x32 : 0 ≤ x32 ∧ x32 ≤ 1 := by rw [e_x32]; exact hT.2 12 _
                  refine ⟨fun c33 => ?_, fun c33 => ?_⟩
                  ·
                    refine h143 _ _ _ _ ?_
                    refine ⟨(⟨by omega, by omega⟩ : rg ((σ.1 4) + 1)), ?_⟩
                    replace hT := mT_v (i := 4) hT (show 0 ≤ ((σ.1 4) + 1) ∧ ((σ.1 4) + 1) ≤ 100 from by omega)
                    refine ⟨(show 0 ≤ x3 ∧ x3 < 1001 from by omega), ?_⟩
                    replace hT := mT_a (k := 12) (j := x3) hT (show (0 : Int) ≤ 1 ∧ 1 ≤ 1 from by omega)
                    refine ⟨_, K_X13_addSymbol hT (show 0 ≤ x3 from by omega) (show x3 < 1000 from by omega) (show -1 ≤ (-1) from by omega) (show (-1) ≤ 1499 from by omega) (show (σ.1 6) < 30000 from by omega) (show σ.2.1 15 (σ.1 22) < 300 from by omega), ?_⟩
                    intro τ41 hn_τ41 hf_τ41 hq
                    obtain ⟨hT, q39_1, q39_2⟩ := hq
                    replace q39_1 : (τ41.1 6) = (σ.1 6) + 1 := q39_1
                    replace q39_2 : τ41.2.1 15 = st (σ.2.1 15) (σ.1 22) (σ.2.1 15 (σ.1 22) + 1) := q39_2
                    have w0_τ41 : τ41.1 0 = σ.1 0 := hf_τ41.1 0 (by decide)
                    have w4_τ41 : τ41.1 4 = ((σ.1 4) + 1) := hf_τ41.1 4 (by decide)
                    have w17_τ41 : τ41.1 17 = σ.1 17 := hf_τ41.1 17 (by decide)
                    have w18_τ41 : τ41.1 18 = σ.1 18 := hf_τ41.1 18 (by decide)
                    have w19_τ41 : τ41.1 19 = σ.1 19 := hf_τ41.1 19 (by decide)
                    have w20_τ41 : τ41.1 20 = σ.1 20 := hf_τ41.1 20 (by decide)
                    have w22_τ41 : τ41.1 22 = σ.1 22 := hf_τ41.1 22 (by decide)
                    have W0 : τ41.1 0 = σ.1 0 := by omega
                    have W17 : τ41.1 17 = σ.1 17 := by omega
                    have W18 : τ41.1 18 = σ.1 18 := by omega
                    have W19 : τ41.1 19 = σ.1 19 := by omega
                    have W22 : τ41.1 22 = σ.1 22 := by omega
                    have A15 : ∀ j, 0 ≤ τ41.2.1 15 j ∧ τ41.2.1 15 j ≤ 300 := fun j => hT.2 15 j
                    have v0 : 0 ≤ τ41.1 0 ∧ τ41.1 0 ≤ 60000 := hT.1 0
                    have v4 : 0 ≤ τ41.1 4 ∧ τ41.1 4 ≤ 100 := hT.1 4
                    have v6 : 0 ≤ τ41.1 6 ∧ τ41.1 6 ≤ 30000 := hT.1 6
                    have v17 : 0 ≤ τ41.1 17 ∧ τ41.1 17 ≤ 60000 := hT.1 17
                    have v18 : 0 ≤ τ41.1 18 ∧ τ41.1 18 ≤ 60000 := hT.1 18
                    have v19 : (-1) ≤ τ41.1 19 ∧ τ41.1 19 ≤ 125 := hT.1 19
                    have v20 : 0 ≤ τ41.1 20 ∧ τ41.1 20 ≤ 19 := hT.1 20
                    have v22 : 0 ≤ τ41.1 22 ∧ τ41.1 22 ≤ 1499 := hT.1 22
                    exact ⟨hT, (show (τ41.1 20) = 0 → τ41.2.1 15 (τ41.1 22) = 1 from by (intro _; first | omega | (rw [q39_2, w22_τ41]; (first | rw [st_s] | skip); omega))), (show ¬ (σ.1 20) = 0 → (τ41.1 20) = (σ.1 20) from by omega)⟩
                  ·
                    refine h143 _ _ _ _ ?_
                    refine ⟨(⟨by omega, by omega⟩ : rg ((σ.1 4) + 0)), ?_⟩
                    replace hT := mT_v (i := 4) hT (show 0 ≤ ((σ.1 4) + 0) ∧ ((σ.1 4) + 0) ≤ 100 from by omega)
                    refine ⟨(show 0 ≤ x3 ∧ x3 < 1001 from by omega), ?_⟩
                    replace hT := mT_a (k := 12) (j := x3) hT (show (0 : Int) ≤ 1 ∧ 1 ≤ 1 from by omega)
                    refine ⟨_, K_X13_addSymbol hT (show 0 ≤ x3 from by omega) (show x3 < 1000 from by omega) (show -1 ≤ (-1) from by omega) (show (-1) ≤ 1499 from by omega) (show (σ.1 6) < 30000 from by omega) (show σ.2.1 15 (σ.1 22) < 300 from by omega), ?_⟩
                    intro τ41 hn_τ41 hf_τ41 hq
                    obtain ⟨hT, q39_1, q39_2⟩ := hq
                    replace q39_1 : (τ41.1 6) = (σ.1 6) + 1 := q39_1
                    replace q39_2 : τ41.2.1 15 = st (σ.2.1 15) (σ.1 22) (σ.2.1 15 (σ.1 22) + 1) := q39_2
                    have w0_τ41 : τ41.1 0 = σ.1 0 := hf_τ41.1 0 (by decide)
                    have w4_τ41 : τ41.1 4 = ((σ.1 4) + 0) := hf_τ41.1 4 (by decide)
                    have w17_τ41 : τ41.1 17 = σ.1 17 := hf_τ41.1 17 (by decide)
                    have w18_τ41 : τ41.1 18 = σ.1 18 := hf_τ41.1 18 (by decide)
                    have w19_τ41 : τ41.1 19 = σ.1 19 := hf_τ41.1 19 (by decide)
                    have w20_τ41 : τ41.1 20 = σ.1 20 := hf_τ41.1 20 (by decide)
                    have w22_τ41 : τ41.1 22 = σ.1 22 := hf_τ41.1 22 (by decide)
                    have W0 : τ41.1 0 = σ.1 0 := by omega
                    have W17 : τ41.1 17 = σ.1 17 := by omega
                    have W18 : τ41.1 18 = σ.1 18 := by omega
                    have W19 : τ41.1 19 = σ.1 19 := by omega
                    have W22 : τ41.1 22 = σ.1 22 := by omega
                    have A15 : ∀ j, 0 ≤ τ41.2.1 15 j ∧ τ41.2.1 15 j ≤ 300 := fun j => hT.2 15 j
                    have v0 : 0 ≤ τ41.1 0 ∧ τ41.1 0 ≤ 60000 := hT.1 0
                    have v4 : 0 ≤ τ41.1 4 ∧ τ41.1 4 ≤ 100 := hT.1 4
                    have v6 : 0 ≤ τ41.1 6 ∧ τ41.1 6 ≤ 30000 := hT.1 6
                    have v17 : 0 ≤ τ41.1 17 ∧ τ41.1 17 ≤ 60000 := hT.1 17
                    have v18 : 0 ≤ τ41.1 18 ∧ τ41.1 18 ≤ 60000 := hT.1 18
                    have v19 : (-1) ≤ τ41.1 19 ∧ τ41.1 19 ≤ 125 := hT.1 19
                    have v20 : 0 ≤ τ41.1 20 ∧ τ41.1 20 ≤ 19 := hT.1 20
                    have v22 : 0 ≤ τ41.1 22 ∧ τ41.1 22 ≤ 1499 := hT.1 22
                    exact ⟨hT, (show (τ41.1 20) = 0 → τ41.2.1 15 (τ41.1 22) = 1 from by (intro _; first | omega | (rw [q39_2, w22_τ41]; (first | rw [st_s] | skip); omega))), (show ¬ (σ.1 20) = 0 → (τ41.1 20) = (σ.1 20) from by omega)⟩
                ·
                  refine ⟨_, K_X13_failHere hT (show 0 ≤ 10 from by omega) (show 10 ≤ 19 from by omega), ?_⟩
                  intro τ36 hn_τ36 hf_τ36 hq
                  obtain ⟨hT, q34_1, q34_2⟩ := hq
                  replace q34_1 : ¬ (σ.1 20) = 0 → (τ36.1 20) = (σ.1 20) := q34_1
                  replace q34_2 : (σ.1 20) = 0 → (τ36.1 20) = 10 := q34_2
                  have w0_τ36 : τ36.1 0 = σ.1 0 := hf_τ36.1 0 (by decide)
                  have w4_τ36 : τ36.1 4 = σ.1 4 := hf_τ36.1 4 (by decide)
                  have w6_τ36 : τ36.1 6 = σ.1 6 := hf_τ36.1 6 (by decide)
                  have w17_τ36 : τ36.1 17 = σ.1 17 := hf_τ36.1 17 (by decide)
                  have w18_τ36 : τ36.1 18 = σ.1 18 := hf_τ36.1 18 (by decide)
                  have w19_τ36 : τ36.1 19 = σ.1 19 := hf_τ36.1 19 (by decide)
                  have w22_τ36 : τ36.1 22 = σ.1 22 := hf_τ36.1 22 (by decide)
                  have g15_τ36 : τ36.2.1 15 = σ.2.1 15 := hf_τ36.2.1 15 (by decide)
                  have W0 : τ36.1 0 = σ.1 0 := by omega
                  have W17 : τ36.1 17 = σ.1 17 := by omega
                  have W18 : τ36.1 18 = σ.1 18 := by omega
                  have W19 : τ36.1 19 = σ.1 19 := by omega
                  have W22 : τ36.1 22 = σ.1 22 := by omega
                  have A15 : ∀ j, 0 ≤ τ36.2.1 15 j ∧ τ36.2.1 15 j ≤ 300 := fun j => hT.2 15 j
                  have v0 : 0 ≤ τ36.1 0 ∧ τ36.1 0 ≤ 60000 := hT.1 0
                  have v4 : 0 ≤ τ36.1 4 ∧ τ36.1 4 ≤ 100 := hT.1 4
                  have v6 : 0 ≤ τ36.1 6 ∧ τ36.1 6 ≤ 30000 := hT.1 6
                  have v17 : 0 ≤ τ36.1 17 ∧ τ36.1 17 ≤ 60000 := hT.1 17
                  have v18 : 0 ≤ τ36.1 18 ∧ τ36.1 18 ≤ 60000 := hT.1 18
                  have v19 : (-1) ≤ τ36.1 19 ∧ τ36.1 19 ≤ 125 := hT.1 19
                  have v20 : 0 ≤ τ36.1 20 ∧ τ36.1 20 ≤ 19 := hT.1 20
                  have v22 : 0 ≤ τ36.1 22 ∧ τ36.1 22 ≤ 1499 := hT.1 22
                  exact ⟨hT, (show (τ36.1 20) = 0 → τ36.2.1 15 (τ36.1 22) = 1 from by (intro _; first | omega | (rw [q39_2, w22_τ41]; (first | rw [st_s] | skip); omega))), (show ¬ (σ.1 20) = 0 → (τ36.1 20) = (σ.1 20) from by omega)⟩
              ·
                intro x25 r_x25 e_x25
                have b_x25 : 0 ≤ x25 ∧ x25 ≤ 1 := by rw [e_x25]; exact hT.2 9 _
                refine ⟨fun c26 => ?_, fun c26 => ?_⟩
                ·
                  refine h111 _ _ _ ?_
                  refine ⟨fun c30 => ?_, fun c30 => ?_⟩
                  ·
                    refine ⟨(show 0 ≤ x3 ∧ x3 < 1001 from by omega), ?_⟩
                    intro x32 r_x32 e_x32
                    have b_x32 : 0 ≤ x32 ∧ x32 ≤ 1 := by rw [e_x32]; exact hT.2 12 _
                    refine ⟨fun c33 => ?_, fun c33 => ?_⟩
                    ·
                      refine h143 _ _ _ _ ?_
                      refine ⟨(⟨by omega, by omega⟩ : rg ((σ.1 4) + 1)), ?_⟩
                      replace hT := mT_v (i := 4) hT (show 0 ≤ ((σ.1 4) + 1) ∧ ((σ.1 4) + 1) ≤ 100 from by omega)
                      refine ⟨(show 0 ≤ x3 ∧ x3 < 1001 from by omega), ?_⟩
                      replace hT := mT_a (k := 12) (j := x3) hT (show (0 : Int) ≤ 1 ∧ 1 ≤ 1 from by omega)
                      refine ⟨_, K_X13_addSymbol hT (show 0 ≤ x3 from by omega) (show x3 < 1000 from by omega) (show -1 ≤ (-1) from by omega) (show (-1) ≤ 1499 from by omega) (show (σ.1 6) < 30000 from by omega) (show σ.2.1 15 (σ.1 22) < 300 from by omega), ?_⟩
                      intro τ41 hn_τ41 hf_τ41 hq
                      obtain ⟨hT, q39_1, q39_2⟩ := hq
                      replace q39_1 : (τ41.1 6) = (σ.1 6) + 1 := q39_1
                      replace q39_2 : τ41.2.1 15 = st (σ.2.1 15) (σ.1 22) (σ.2.1 15 (σ.1 22) + 1) := q39_2
                      have w0_τ41 : τ41.1 0 = σ.1 0 := hf_τ41.1 0 (by decide)
                      have w4_τ41 : τ41.1 4 = ((σ.1 4) + 1) := hf_τ41.1 4 (by decide)
                      have w17_τ41 : τ41.1 17 = σ.1 17 := hf_τ41.1 17 (by decide)
                      have w18_τ41 : τ41.1 18 = σ.1 18 := hf_τ41.1 18 (by decide)
                      have w19_τ41 : τ41.1 19 = σ.1 19 := hf_τ41.1 19 (by decide)
                      have w20_τ41 : τ41.1 20 = σ.1 20 := hf_τ41.1 20 (by decide)
                      have w22_τ41 : τ41.1 22 = σ.1 22 := hf_τ41.1 22 (by decide)
                      have W0 : τ41.1 0 = σ.1 0 := by omega
                      have W17 : τ41.1 17 = σ.1 17 := by omega
                      have W18 : τ41.1 18 = σ.1 18 := by omega
                      have W19 : τ41.1 19 = σ.1 19 := by omega
                      have W22 : τ41.1 22 = σ.1 22 := by omega
                      have A15 : ∀ j, 0 ≤ τ41.2.1 15 j ∧ τ41.2.1 15 j ≤ 300 := fun j => hT.2 15 j
                      have v0 : 0 ≤ τ41.1 0 ∧ τ41.1 0 ≤ 60000 := hT.1 0
                      have v4 : 0 ≤ τ41.1 4 ∧ τ41.1 4 ≤ 100 := hT.1 4
                      have v6 : 0 ≤ τ41.1 6 ∧ τ41.1 6 ≤ 30000 := hT.1 6
                      have v17 : 0 ≤ τ41.1 17 ∧ τ41.1 17 ≤ 60000 := hT.1 17
                      have v18 : 0 ≤ τ41.1 18 ∧ τ41.1 18 ≤ 60000 := hT.1 18
                      have v19 : (-1) ≤ τ41.1 19 ∧ τ41.1 19 ≤ 125 := hT.1 19
                      have v20 : 0 ≤ τ41.1 20 ∧ τ41.1 20 ≤ 19 := hT.1 20
                      have v22 : 0 ≤ τ41.1 22 ∧ τ41.1 22 ≤ 1499 := hT.1 22
                      exact ⟨hT, (show (τ41.1 20) = 0 → τ41.2.1 15 (τ41.1 22) = 1 from by (intro _; first | omega | (rw [q39_2, w22_τ41]; (first | rw [st_s] | skip); omega))), (show ¬ (σ.1 20) = 0 → (τ41.1 20) = (σ.1 20) from by omega)⟩
                    ·
                      refine h143 _ _ _ _ ?_
                      refine ⟨(⟨by omega, by omega⟩ : rg ((σ.1 4) + 0)), ?_⟩
                      replace hT := mT_v (i := 4) hT (show 0 ≤ ((σ.1 4) + 0) ∧ ((σ.1 4) + 0) ≤ 100 from by omega)
                      refine ⟨(show 0 ≤ x3 ∧ x3 < 1001 from by omega), ?_⟩
                      replace hT := mT_a (k := 12) (j := x3) hT (show (0 : Int) ≤ 1 ∧ 1 ≤ 1 from by omega)
                      refine ⟨_, K_X13_addSymbol hT (show 0 ≤ x3 from by omega) (show x3 < 1000 from by omega) (show -1 ≤ (-1) from by omega) (show (-1) ≤ 1499 from by omega) (show (σ.1 6) < 30000 from by omega) (show σ.2.1 15 (σ.1 22) < 300 from by omega), ?_⟩
                      intro τ41 hn_τ41 hf_τ41 hq
                      obtain ⟨hT, q39_1, q39_2⟩ := hq
                      replace q39_1 : (τ41.1 6) = (σ.1 6) + 1 := q39_1
                      replace q39_2 : τ41.2.1 15 = st (σ.2.1 15) (σ.1 22) (σ.2.1 15 (σ.1 22) + 1) := q39_2
                      have w0_τ41 : τ41.1 0 = σ.1 0 := hf_τ41.1 0 (by decide)
                      have w4_τ41 : τ41.1 4 = ((σ.1 4) + 0) := hf_τ41.1 4 (by decide)
                      have w17_τ41 : τ41.1 17 = σ.1 17 := hf_τ41.1 17 (by decide)
                      have w18_τ41 : τ41.1 18 = σ.1 18 := hf_τ41.1 18 (by decide)
                      have w19_τ41 : τ41.1 19 = σ.1 19 := hf_τ41.1 19 (by decide)
                      have w20_τ41 : τ41.1 20 = σ.1 20 := hf_τ41.1 20 (by decide)
                      have w22_τ41 : τ41.1 22 = σ.1 22 := hf_τ41.1 22 (by decide)
                      have W0 : τ41.1 0 = σ.1 0 := by omega
                      have W17 : τ41.1 17 = σ.1 17 := by omega
                      have W18 : τ41.1 18 = σ.1 18 := by omega
                      have W19 : τ41.1 19 = σ.1 19 := by omega
                      have W22 : τ41.1 22 = σ.1 22 := by omega
                      have A15 : ∀ j, 0 ≤ τ41.2.1 15 j ∧ τ41.2.1 15 j ≤ 300 := fun j => hT.2 15 j
                      have v0 : 0 ≤ τ41.1 0 ∧ τ41.1 0 ≤ 60000 := hT.1 0
                      have v4 : 0 ≤ τ41.1 4 ∧ τ41.1 4 ≤ 100 := hT.1 4
                      have v6 : 0 ≤ τ41.1 6 ∧ τ41.1 6 ≤ 30000 := hT.1 6
                      have v17 : 0 ≤ τ41.1 17 ∧ τ41.1 17 ≤ 60000 := hT.1 17
                      have v18 : 0 ≤ τ41.1 18 ∧ τ41.1 18 ≤ 60000 := hT.1 18
                      have v19 : (-1) ≤ τ41.1 19 ∧ τ41.1 19 ≤ 125 := hT.1 19
                      have v20 : 0 ≤ τ41.1 20 ∧ τ41.1 20 ≤ 19 := hT.1 20
                      have v22 : 0 ≤ τ41.1 22 ∧ τ41.1 22 ≤ 1499 := hT.1 22
                      exact ⟨hT, (show (τ41.1 20) = 0 → τ41.2.1 15 (τ41.1 22) = 1 from by (intro _; first | omega | (rw [q39_2, w22_τ41]; (first | rw [st_s] | skip); omega))), (show ¬ (σ.1 20) = 0 → (τ41.1 20) = (σ.1 20) from by omega)⟩
                  ·
                    refine ⟨_, K_X13_failHere hT (show 0 ≤ 10 from by omega) (show 10 ≤ 19 from by omega), ?_⟩
                    intro τ36 hn_τ36 hf_τ36 hq
                    obtain ⟨hT, q34_1, q34_2⟩ := hq
                    replace q34_1 : ¬ (σ.1 20) = 0 → (τ36.1 20) = (σ.1 20) := q34_1
                    replace q34_2 : (σ.1 20) = 0 → (τ36.1 20) = 10 := q34_2
                    have w0_τ36 : τ36.1 0 = σ.1 0 := hf_τ36.1 0 (by decide)
                    have w4_τ36 : τ36.1 4 = σ.1 4 := hf_τ36.1 4 (by decide)
                    have w6_τ36 : τ36.1 6 = σ.1 6 := hf_τ36.1 6 (by decide)
                    have w17_τ36 : τ36.1 17 = σ.1 17 := hf_τ36.1 17 (by decide)
                    have w18_τ36 : τ36.1 18 = σ.1 18 := hf_τ36.1 18 (by decide)
                    have w19_τ36 : τ36.1 19 = σ.1 19 := hf_τ36.1 19 (by decide)
                    have w22_τ36 : τ36.1 22 = σ.1 22 := hf_τ36.1 22 (by decide)
                    have g15_τ36 : τ36.2.1 15 = σ.2.1 15 := hf_τ36.2.1 15 (by decide)
                    have W0 : τ36.1 0 = σ.1 0 := by omega
                    have W17 : τ36.1 17 = σ.1 17 := by omega
                    have W18 : τ36.1 18 = σ.1 18 := by omega
                    have W19 : τ36.1 19 = σ.1 19 := by omega
                    have W22 : τ36.1 22 = σ.1 22 := by omega
                    have A15 : ∀ j, 0 ≤ τ36.2.1 15 j ∧ τ36.2.1 15 j ≤ 300 := fun j => hT.2 15 j
                    have v0 : 0 ≤ τ36.1 0 ∧ τ36.1 0 ≤ 60000 := hT.1 0
                    have v4 : 0 ≤ τ36.1 4 ∧ τ36.1 4 ≤ 100 := hT.1 4
                    have v6 : 0 ≤ τ36.1 6 ∧ τ36.1 6 ≤ 30000 := hT.1 6
                    have v17 : 0 ≤ τ36.1 17 ∧ τ36.1 17 ≤ 60000 := hT.1 17
                    have v18 : 0 ≤ τ36.1 18 ∧ τ36.1 18 ≤ 60000 := hT.1 18
                    have v19 : (-1) ≤ τ36.1 19 ∧ τ36.1 19 ≤ 125 := hT.1 19
                    have v20 : 0 ≤ τ36.1 20 ∧ τ36.1 20 ≤ 19 := hT.1 20
                    have v22 : 0 ≤ τ36.1 22 ∧ τ36.1 22 ≤ 1499 := hT.1 22
                    exact ⟨hT, (show (τ36.1 20) = 0 → τ36.2.1 15 (τ36.1 22) = 1 from by (intro _; first | omega | (rw [q39_2, w22_τ41]; (first | rw [st_s] | skip); omega))), (show ¬ (σ.1 20) = 0 → (τ36.1 20) = (σ.1 20) from by omega)⟩
                ·
                  refine h102 _ ?_
                  refine ⟨_, K_X13_failHere hT (show 0 ≤ 9 from by omega) (show 9 ≤ 19 from by omega), ?_⟩
                  intro τ29 hn_τ29 hf_τ29 hq
                  obtain ⟨hT, q27_1, q27_2⟩ := hq
                  replace q27_1 : ¬ (σ.1 20) = 0 → (τ29.1 20) = (σ.1 20) := q27_1
                  replace q27_2 : (σ.1 20) = 0 → (τ29.1 20) = 9 := q27_2
                  have w0_τ29 : τ29.1 0 = σ.1 0 := hf_τ29.1 0 (by decide)
                  have w4_τ29 : τ29.1 4 = σ.1 4 := hf_τ29.1 4 (by decide)
                  have w6_τ29 : τ29.1 6 = σ.1 6 := hf_τ29.1 6 (by decide)
                  have w17_τ29 : τ29.1 17 = σ.1 17 := hf_τ29.1 17 (by decide)
                  have w18_τ29 : τ29.1 18 = σ.1 18 := hf_τ29.1 18 (by decide)
                  have w19_τ29 : τ29.1 19 = σ.1 19 := hf_τ29.1 19 (by decide)
                  have w22_τ29 : τ29.1 22 = σ.1 22 := hf_τ29.1 22 (by decide)
                  have g15_τ29 : τ29.2.1 15 = σ.2.1 15 := hf_τ29.2.1 15 (by decide)
                  have W0 : τ29.1 0 = σ.1 0 := by omega
                  have W17 : τ29.1 17 = σ.1 17 := by omega
                  have W18 : τ29.1 18 = σ.1 18 := by omega
                  have W19 : τ29.1 19 = σ.1 19 := by omega
                  have W22 : τ29.1 22 = σ.1 22 := by omega
                  have A15 : ∀ j, 0 ≤ τ29.2.1 15 j ∧ τ29.2.1 15 j ≤ 300 := fun j => hT.2 15 j
                  have v0 : 0 ≤ τ29.1 0 ∧ τ29.1 0 ≤ 60000 := hT.1 0
                  have v4 : 0 ≤ τ29.1 4 ∧ τ29.1 4 ≤ 100 := hT.1 4
                  have v6 : 0 ≤ τ29.1 6 ∧ τ29.1 6 ≤ 30000 := hT.1 6
                  have v17 : 0 ≤ τ29.1 17 ∧ τ29.1 17 ≤ 60000 := hT.1 17
                  have v18 : 0 ≤ τ29.1 18 ∧ τ29.1 18 ≤ 60000 := hT.1 18
                  have v19 : (-1) ≤ τ29.1 19 ∧ τ29.1 19 ≤ 125 := hT.1 19
                  have v20 : 0 ≤ τ29.1 20 ∧ τ29.1 20 ≤ 19 := hT.1 20
                  have v22 : 0 ≤ τ29.1 22 ∧ τ29.1 22 ≤ 1499 := hT.1 22
                  exact ⟨hT, (show (τ29.1 20) = 0 → τ29.2.1 15 (τ29.1 22) = 1 from by (intro _; first | omega | (rw [q39_2, w22_τ41]; (first | rw [st_s] | skip); omega))), (show ¬ (σ.1 20) = 0 → (τ29.1 20) = (σ.1 20) from by omega)⟩
          ·
            refine ⟨(show 0 ≤ x3 ∧ x3 < 1001 from by omega), ?_⟩
            intro x15 r_x15 e_x15
            have b_x15 : 0 ≤ x15 ∧ x15 ≤ 1 := by rw [e_x15]; exact hT.2 12 _
            refine ⟨fun c16 => ?_, fun c16 => ?_⟩
            ·
              refine h79 _ _ _ ?_
              refine ⟨fun c21 => ?_, fun c21 => ?_⟩
              ·
                refine h102 _ ?_
                refine ⟨_, K_X13_failHere hT (show 0 ≤ 9 from by omega) (show 9 ≤ 19 from by omega), ?_⟩
                intro τ29 hn_τ29 hf_τ29 hq
                obtain ⟨hT, q27_1, q27_2⟩ := hq
                replace q27_1 : ¬ (σ.1 20) = 0 → (τ29.1 20) = (σ.1 20) := q27_1
                replace q27_2 : (σ.1 20) = 0 → (τ29.1 20) = 9 := q27_2
                have w0_τ29 : τ29.1 0 = σ.1 0 := hf_τ29.1 0 (by decide)
                have w4_τ29 : τ29.1 4 = σ.1 4 := hf_τ29.1 4 (by decide)
                have w6_τ29 : τ29.1 6 = σ.1 6 := hf_τ29.1 6 (by decide)
                have w17_τ29 : τ29.1 17 = σ.1 17 := hf_τ29.1 17 (by decide)
                have w18_τ29 : τ29.1 18 = σ.1 18 := hf_τ29.1 18 (by decide)
                have w19_τ29 : τ29.1 19 = σ.1 19 := hf_τ29.1 19 (by decide)
                have w22_τ29 : τ29.1 22 = σ.1 22 := hf_τ29.1 22 (by decide)
                have g15_τ29 : τ29.2.1 15 = σ.2.1 15 := hf_τ29.2.1 15 (by decide)
                have W0 : τ29.1 0 = σ.1 0 := by omega
                have W17 : τ29.1 17 = σ.1 17 := by omega
                have W18 : τ29.1 18 = σ.1 18 := by omega
                have W19 : τ29.1 19 = σ.1 19 := by omega
                have W22 : τ29.1 22 = σ.1 22 := by omega
                have A15 : ∀ j, 0 ≤ τ29.2.1 15 j ∧ τ29.2.1 15 j ≤ 300 := fun j => hT.2 15 j
                have v0 : 0 ≤ τ29.1 0 ∧ τ29.1 0 ≤ 60000 := hT.1 0
                have v4 : 0 ≤ τ29.1 4 ∧ τ29.1 4 ≤ 100 := hT.1 4
                have v6 : 0 ≤ τ29.1 6 ∧ τ29.1 6 ≤ 30000 := hT.1 6
                have v17 : 0 ≤ τ29.1 17 ∧ τ29.1 17 ≤ 60000 := hT.1 17
                have v18 : 0 ≤ τ29.1 18 ∧ τ29.1 18 ≤ 60000 := hT.1 18
                have v19 : (-1) ≤ τ29.1 19 ∧ τ29.1 19 ≤ 125 := hT.1 19
                have v20 : 0 ≤ τ29.1 20 ∧ τ29.1 20 ≤ 19 := hT.1 20
                have v22 : 0 ≤ τ29.1 22 ∧ τ29.1 22 ≤ 1499 := hT.1 22
                exact ⟨hT, (show (τ29.1 20) = 0 → τ29.2.1 15 (τ29.1 22) = 1 from by (intro _; first | omega | (rw [q39_2, w22_τ41]; (first | rw [st_s] | skip); omega))), (show ¬ (σ.1 20) = 0 → (τ29.1 20) = (σ.1 20) from by omega)⟩
              ·
                refine ⟨(show 0 ≤ x3 ∧ x3 < 1001 from by omega), ?_⟩
                intro x23 r_x23 e_x23
                have b_x23 : 0 ≤ x23 ∧ x23 ≤ 1 := by rw [e_x23]; exact hT.2 8 _
                refine ⟨fun c24 => ?_, fun c24 => ?_⟩
                ·
                  refine h111 _ _ _ ?_
                  refine ⟨fun c30 => ?_, fun c30 => ?_⟩
                  ·
                    refine ⟨(show 0 ≤ x3 ∧ x3 < 1001 from by omega), ?_⟩
                    intro x32 r_x32 e_x32
                    have b_x32 : 0 ≤ x32 ∧ x32 ≤ 1 := by rw [e_x32]; exact hT.2 12 _
                    refine ⟨fun c33 => ?_, fun c33 => ?_⟩
                    ·
                      refine h143 _ _ _ _ ?_
                      refine ⟨(⟨by omega, by omega⟩ : rg ((σ.1 4) + 1)), ?_⟩
                      replace hT := mT_v (i := 4) hT (show 0 ≤ ((σ.1 4) + 1) ∧ ((σ.1 4) + 1) ≤ 100 from by omega)
                      refine ⟨(show 0 ≤ x3 ∧ x3 < 1001 from by omega), ?_⟩
                      replace hT := mT_a (k := 12) (j := x3) hT (show (0 : Int) ≤ 1 ∧ 1 ≤ 1 from by omega)
                      refine ⟨_, K_X13_addSymbol hT (show 0 ≤ x3 from by omega) (show x3 < 1000 from by omega) (show -1 ≤ (-1) from by omega) (show (-1) ≤ 1499 from by omega) (show (σ.1 6) < 30000 from by omega) (show σ.2.1 15 (σ.1 22) < 300 from by omega), ?_⟩
                      intro τ41 hn_τ41 hf_τ41 hq
                      obtain ⟨hT, q39_1, q39_2⟩ := hq
                      replace q39_1 : (τ41.1 6) = (σ.1 6) + 1 := q39_1
                      replace q39_2 : τ41.2.1 15 = st (σ.2.1 15) (σ.1 22) (σ.2.1 15 (σ.1 22) + 1) := q39_2
                      have w0_τ41 : τ41.1 0 = σ.1 0 := hf_τ41.1 0 (by decide)
                      have w4_τ41 : τ41.1 4 = ((σ.1 4) + 1) := hf_τ41.1 4 (by decide)
                      have w17_τ41 : τ41.1 17 = σ.1 17 := hf_τ41.1 17 (by decide)
                      have w18_τ41 : τ41.1 18 = σ.1 18 := hf_τ41.1 18 (by decide)
                      have w19_τ41 : τ41.1 19 = σ.1 19 := hf_τ41.1 19 (by decide)
                      have w20_τ41 : τ41.1 20 = σ.1 20 := hf_τ41.1 20 (by decide)
                      have w22_τ41 : τ41.1 22 = σ.1 22 := hf_τ41.1 22 (by decide)
                      have W0 : τ41.1 0 = σ.1 0 := by omega
                      have W17 : τ41.1 17 = σ.1 17 := by omega
                      have W18 : τ41.1 18 = σ.1 18 := by omega
                      have W19 : τ41.1 19 = σ.1 19 := by omega
                      have W22 : τ41.1 22 = σ.1 22 := by omega
                      have A15 : ∀ j, 0 ≤ τ41.2.1 15 j ∧ τ41.2.1 15 j ≤ 300 := fun j => hT.2 15 j
                      have v0 : 0 ≤ τ41.1 0 ∧ τ41.1 0 ≤ 60000 := hT.1 0
                      have v4 : 0 ≤ τ41.1 4 ∧ τ41.1 4 ≤ 100 := hT.1 4
                      have v6 : 0 ≤ τ41.1 6 ∧ τ41.1 6 ≤ 30000 := hT.1 6
                      have v17 : 0 ≤ τ41.1 17 ∧ τ41.1 17 ≤ 60000 := hT.1 17
                      have v18 : 0 ≤ τ41.1 18 ∧ τ41.1 18 ≤ 60000 := hT.1 18
                      have v19 : (-1) ≤ τ41.1 19 ∧ τ41.1 19 ≤ 125 := hT.1 19
                      have v20 : 0 ≤ τ41.1 20 ∧ τ41.1 20 ≤ 19 := hT.1 20
                      have v22 : 0 ≤ τ41.1 22 ∧ τ41.1 22 ≤ 1499 := hT.1 22
                      exact ⟨hT, (show (τ41.1 20) = 0 → τ41.2.1 15 (τ41.1 22) = 1 from by (intro _; first | omega | (rw [q39_2, w22_τ41]; (first | rw [st_s] | skip); omega))), (show ¬ (σ.1 20) = 0 → (τ41.1 20) = (σ.1 20) from by omega)⟩
                    ·
                      refine h143 _ _ _ _ ?_
                      refine ⟨(⟨by omega, by omega⟩ : rg ((σ.1 4) + 0)), ?_⟩
                      replace hT := mT_v (i := 4) hT (show 0 ≤ ((σ.1 4) + 0) ∧ ((σ.1 4) + 0) ≤ 100 from by omega)
                      refine ⟨(show 0 ≤ x3 ∧ x3 < 1001 from by omega), ?_⟩
                      replace hT := mT_a (k := 12) (j := x3) hT (show (0 : Int) ≤ 1 ∧ 1 ≤ 1 from by omega)
                      refine ⟨_, K_X13_addSymbol hT (show 0 ≤ x3 from by omega) (show x3 < 1000 from by omega) (show -1 ≤ (-1) from by omega) (show (-1) ≤ 1499 from by omega) (show (σ.1 6) < 30000 from by omega) (show σ.2.1 15 (σ.1 22) < 300 from by omega), ?_⟩
                      intro τ41 hn_τ41 hf_τ41 hq
                      obtain ⟨hT, q39_1, q39_2⟩ := hq
                      replace q39_1 : (τ41.1 6) = (σ.1 6) + 1 := q39_1
                      replace q39_2 : τ41.2.1 15 = st (σ.2.1 15) (σ.1 22) (σ.2.1 15 (σ.1 22) + 1) := q39_2
                      have w0_τ41 : τ41.1 0 = σ.1 0 := hf_τ41.1 0 (by decide)
                      have w4_τ41 : τ41.1 4 = ((σ.1 4) + 0) := hf_τ41.1 4 (by decide)
                      have w17_τ41 : τ41.1 17 = σ.1 17 := hf_τ41.1 17 (by decide)
                      have w18_τ41 : τ41.1 18 = σ.1 18 := hf_τ41.1 18 (by decide)
                      have w19_τ41 : τ41.1 19 = σ.1 19 := hf_τ41.1 19 (by decide)
                      have w20_τ41 : τ41.1 20 = σ.1 20 := hf_τ41.1 20 (by decide)
                      have w22_τ41 : τ41.1 22 = σ.1 22 := hf_τ41.1 22 (by decide)
                      have W0 : τ41.1 0 = σ.1 0 := by omega
                      have W17 : τ41.1 17 = σ.1 17 := by omega
                      have W18 : τ41.1 18 = σ.1 18 := by omega
                      have W19 : τ41.1 19 = σ.1 19 := by omega
                      have W22 : τ41.1 22 = σ.1 22 := by omega
                      have A15 : ∀ j, 0 ≤ τ41.2.1 15 j ∧ τ41.2.1 15 j ≤ 300 := fun j => hT.2 15 j
                      have v0 : 0 ≤ τ41.1 0 ∧ τ41.1 0 ≤ 60000 := hT.1 0
                      have v4 : 0 ≤ τ41.1 4 ∧ τ41.1 4 ≤ 100 := hT.1 4
                      have v6 : 0 ≤ τ41.1 6 ∧ τ41.1 6 ≤ 30000 := hT.1 6
                      have v17 : 0 ≤ τ41.1 17 ∧ τ41.1 17 ≤ 60000 := hT.1 17
                      have v18 : 0 ≤ τ41.1 18 ∧ τ41.1 18 ≤ 60000 := hT.1 18
                      have v19 : (-1) ≤ τ41.1 19 ∧ τ41.1 19 ≤ 125 := hT.1 19
                      have v20 : 0 ≤ τ41.1 20 ∧ τ41.1 20 ≤ 19 := hT.1 20
                      have v22 : 0 ≤ τ41.1 22 ∧ τ41.1 22 ≤ 1499 := hT.1 22
                      exact ⟨hT, (show (τ41.1 20) = 0 → τ41.2.1 15 (τ41.1 22) = 1 from by (intro _; first | omega | (rw [q39_2, w22_τ41]; (first | rw [st_s] | skip); omega))), (show ¬ (σ.1 20) = 0 → (τ41.1 20) = (σ.1 20) from by omega)⟩
                  ·
                    refine ⟨_, K_X13_failHere hT (show 0 ≤ 10 from by omega) (show 10 ≤ 19 from by omega), ?_⟩
                    intro τ36 hn_τ36 hf_τ36 hq
                    obtain ⟨hT, q34_1, q34_2⟩ := hq
                    replace q34_1 : ¬ (σ.1 20) = 0 → (τ36.1 20) = (σ.1 20) := q34_1
                    replace q34_2 : (σ.1 20) = 0 → (τ36.1 20) = 10 := q34_2
                    have w0_τ36 : τ36.1 0 = σ.1 0 := hf_τ36.1 0 (by decide)
                    have w4_τ36 : τ36.1 4 = σ.1 4 := hf_τ36.1 4 (by decide)
                    have w6_τ36 : τ36.1 6 = σ.1 6 := hf_τ36.1 6 (by decide)
                    have w17_τ36 : τ36.1 17 = σ.1 17 := hf_τ36.1 17 (by decide)
                    have w18_τ36 : τ36.1 18 = σ.1 18 := hf_τ36.1 18 (by decide)
                    have w19_τ36 : τ36.1 19 = σ.1 19 := hf_τ36.1 19 (by decide)
                    have w22_τ36 : τ36.1 22 = σ.1 22 := hf_τ36.1 22 (by decide)
                    have g15_τ36 : τ36.2.1 15 = σ.2.1 15 := hf_τ36.2.1 15 (by decide)
                    have W0 : τ36.1 0 = σ.1 0 := by omega
                    have W17 : τ36.1 17 = σ.1 17 := by omega
                    have W18 : τ36.1 18 = σ.1 18 := by omega
                    have W19 : τ36.1 19 = σ.1 19 := by omega
                    have W22 : τ36.1 22 = σ.1 22 := by omega
                    have A15 : ∀ j, 0 ≤ τ36.2.1 15 j ∧ τ36.2.1 15 j ≤ 300 := fun j => hT.2 15 j
                    have v0 : 0 ≤ τ36.1 0 ∧ τ36.1 0 ≤ 60000 := hT.1 0
                    have v4 : 0 ≤ τ36.1 4 ∧ τ36.1 4 ≤ 100 := hT.1 4
                    have v6 : 0 ≤ τ36.1 6 ∧ τ36.1 6 ≤ 30000 := hT.1 6
                    have v17 : 0 ≤ τ36.1 17 ∧ τ36.1 17 ≤ 60000 := hT.1 17
                    have v18 : 0 ≤ τ36.1 18 ∧ τ36.1 18 ≤ 60000 := hT.1 18
                    have v19 : (-1) ≤ τ36.1 19 ∧ τ36.1 19 ≤ 125 := hT.1 19
                    have v20 : 0 ≤ τ36.1 20 ∧ τ36.1 20 ≤ 19 := hT.1 20
                    have v22 : 0 ≤ τ36.1 22 ∧ τ36.1 22 ≤ 1499 := hT.1 22
                    exact ⟨hT, (show (τ36.1 20) = 0 → τ36.2.1 15 (τ36.1 22) = 1 from by (intro _; first | omega | (rw [q39_2, w22_τ41]; (first | rw [st_s] | skip); omega))), (show ¬ (σ.1 20) = 0 → (τ36.1 20) = (σ.1 20) from by omega)⟩
                ·
                  intro x25 r_x25 e_x25
                  have b_x25 : 0 ≤ x25 ∧ x25 ≤ 1 := by rw [e_x25]; exact hT.2 9 _
                  refine ⟨fun c26 => ?_, fun c26 => ?_⟩
                  ·
                    refine h111 _ _ _ ?_
                    refine ⟨fun c30 => ?_, fun c30 => ?_⟩
                    ·
                      refine ⟨(show 0 ≤ x3 ∧ x3 < 1001 from by omega), ?_⟩
                      intro x32 r_x32 e_x32
                      have b_x32 : 0 ≤ x32 ∧ x32 ≤ 1 := by rw [e_x32]; exact hT.2 12 _
                      refine ⟨fun c33 => ?_, fun c33 => ?_⟩
                      ·
                        refine h143 _ _ _ _ ?_
                        refine ⟨(⟨by omega, by omega⟩ : rg ((σ.1 4) + 1)), ?_⟩
                        replace hT := mT_v (i := 4) hT (show 0 ≤ ((σ.1 4) + 1) ∧ ((σ.1 4) + 1) ≤ 100 from by omega)
                        refine ⟨(show 0 ≤ x3 ∧ x3 < 1001 from by omega), ?_⟩
                        replace hT := mT_a (k := 12) (j := x3) hT (show (0 : Int) ≤ 1 ∧ 1 ≤ 1 from by omega)
                        refine ⟨_, K_X13_addSymbol hT (show 0 ≤ x3 from by omega) (show x3 < 1000 from by omega) (show -1 ≤ (-1) from by omega) (show (-1) ≤ 1499 from by omega) (show (σ.1 6) < 30000 from by omega) (show σ.2.1 15 (σ.1 22) < 300 from by omega), ?_⟩
                        intro τ41 hn_τ41 hf_τ41 hq
                        obtain ⟨hT, q39_1, q39_2⟩ := hq
                        replace q39_1 : (τ41.1 6) = (σ.1 6) + 1 := q39_1
                        replace q39_2 : τ41.2.1 15 = st (σ.2.1 15) (σ.1 22) (σ.2.1 15 (σ.1 22) + 1) := q39_2
                        have w0_τ41 : τ41.1 0 = σ.1 0 := hf_τ41.1 0 (by decide)
                        have w4_τ41 : τ41.1 4 = ((σ.1 4) + 1) := hf_τ41.1 4 (by decide)
                        have w17_τ41 : τ41.1 17 = σ.1 17 := hf_τ41.1 17 (by decide)
                        have w18_τ41 : τ41.1 18 = σ.1 18 := hf_τ41.1 18 (by decide)
                        have w19_τ41 : τ41.1 19 = σ.1 19 := hf_τ41.1 19 (by decide)
                        have w20_τ41 : τ41.1 20 = σ.1 20 := hf_τ41.1 20 (by decide)
                        have w22_τ41 : τ41.1 22 = σ.1 22 := hf_τ41.1 22 (by decide)
                        have W0 : τ41.1 0 = σ.1 0 := by omega
                        have W17 : τ41.1 17 = σ.1 17 := by omega
                        have W18 : τ41.1 18 = σ.1 18 := by omega
                        have W19 : τ41.1 19 = σ.1 19 := by omega
                        have W22 : τ41.1 22 = σ.1 22 := by omega
                        have A15 : ∀ j, 0 ≤ τ41.2.1 15 j ∧ τ41.2.1 15 j ≤ 300 := fun j => hT.2 15 j
                        have v0 : 0 ≤ τ41.1 0 ∧ τ41.1 0 ≤ 60000 := hT.1 0
                        have v4 : 0 ≤ τ41.1 4 ∧ τ41.1 4 ≤ 100 := hT.1 4
                        have v6 : 0 ≤ τ41.1 6 ∧ τ41.1 6 ≤ 30000 := hT.1 6
                        have v17 : 0 ≤ τ41.1 17 ∧ τ41.1 17 ≤ 60000 := hT.1 17
                        have v18 : 0 ≤ τ41.1 18 ∧ τ41.1 18 ≤ 60000 := hT.1 18
                        have v19 : (-1) ≤ τ41.1 19 ∧ τ41.1 19 ≤ 125 := hT.1 19
                        have v20 : 0 ≤ τ41.1 20 ∧ τ41.1 20 ≤ 19 := hT.1 20
                        have v22 : 0 ≤ τ41.1 22 ∧ τ41.1 22 ≤ 1499 := hT.1 22
                        exact ⟨hT, (show (τ41.1 20) = 0 → τ41.2.1 15 (τ41.1 22) = 1 from by (intro _; first | omega | (rw [q39_2, w22_τ41]; (first | rw [st_s] | skip); omega))), (show ¬ (σ.1 20) = 0 → (τ41.1 20) = (σ.1 20) from by omega)⟩
                      ·
                        refine h143 _ _ _ _ ?_
                        refine ⟨(⟨by omega, by omega⟩ : rg ((σ.1 4) + 0)), ?_⟩
                        replace hT := mT_v (i := 4) hT (show 0 ≤ ((σ.1 4) + 0) ∧ ((σ.1 4) + 0) ≤ 100 from by omega)
                        refine ⟨(show 0 ≤ x3 ∧ x3 < 1001 from by omega), ?_⟩
                        replace hT := mT_a (k := 12) (j := x3) hT (show (0 : Int) ≤ 1 ∧ 1 ≤ 1 from by omega)
                        refine ⟨_, K_X13_addSymbol hT (show 0 ≤ x3 from by omega) (show x3 < 1000 from by omega) (show -1 ≤ (-1) from by omega) (show (-1) ≤ 1499 from by omega) (show (σ.1 6) < 30000 from by omega) (show σ.2.1 15 (σ.1 22) < 300 from by omega), ?_⟩
                        intro τ41 hn_τ41 hf_τ41 hq
                        obtain ⟨hT, q39_1, q39_2⟩ := hq
                        replace q39_1 : (τ41.1 6) = (σ.1 6) + 1 := q39_1
                        replace q39_2 : τ41.2.1 15 = st (σ.2.1 15) (σ.1 22) (σ.2.1 15 (σ.1 22) + 1) := q39_2
                        have w0_τ41 : τ41.1 0 = σ.1 0 := hf_τ41.1 0 (by decide)
                        have w4_τ41 : τ41.1 4 = ((σ.1 4) + 0) := hf_τ41.1 4 (by decide)
                        have w17_τ41 : τ41.1 17 = σ.1 17 := hf_τ41.1 17 (by decide)
                        have w18_τ41 : τ41.1 18 = σ.1 18 := hf_τ41.1 18 (by decide)
                        have w19_τ41 : τ41.1 19 = σ.1 19 := hf_τ41.1 19 (by decide)
                        have w20_τ41 : τ41.1 20 = σ.1 20 := hf_τ41.1 20 (by decide)
                        have w22_τ41 : τ41.1 22 = σ.1 22 := hf_τ41.1 22 (by decide)
                        have W0 : τ41.1 0 = σ.1 0 := by omega
                        have W17 : τ41.1 17 = σ.1 17 := by omega
                        have W18 : τ41.1 18 = σ.1 18 := by omega
                        have W19 : τ41.1 19 = σ.1 19 := by omega
                        have W22 : τ41.1 22 = σ.1 22 := by omega
                        have A15 : ∀ j, 0 ≤ τ41.2.1 15 j ∧ τ41.2.1 15 j ≤ 300 := fun j => hT.2 15 j
                        have v0 : 0 ≤ τ41.1 0 ∧ τ41.1 0 ≤ 60000 := hT.1 0
                        have v4 : 0 ≤ τ41.1 4 ∧ τ41.1 4 ≤ 100 := hT.1 4
                        have v6 : 0 ≤ τ41.1 6 ∧ τ41.1 6 ≤ 30000 := hT.1 6
                        have v17 : 0 ≤ τ41.1 17 ∧ τ41.1 17 ≤ 60000 := hT.1 17
                        have v18 : 0 ≤ τ41.1 18 ∧ τ41.1 18 ≤ 60000 := hT.1 18
                        have v19 : (-1) ≤ τ41.1 19 ∧ τ41.1 19 ≤ 125 := hT.1 19
                        have v20 : 0 ≤ τ41.1 20 ∧ τ41.1 20 ≤ 19 := hT.1 20
                        have v22 : 0 ≤ τ41.1 22 ∧ τ41.1 22 ≤ 1499 := hT.1 22
                        exact ⟨hT, (show (τ41.1 20) = 0 → τ41.2.1 15 (τ41.1 22) = 1 from by (intro _; first | omega | (rw [q39_2, w22_τ41]; (first | rw [st_s] | skip); omega))), (show ¬ (σ.1 20) = 0 → (τ41.1 20) = (σ.1 20) from by omega)⟩
                    ·
                      refine ⟨_, K_X13_failHere hT (show 0 ≤ 10 from by omega) (show 10 ≤ 19 from by omega), ?_⟩
                      intro τ36 hn_τ36 hf_τ36 hq
                      obtain ⟨hT, q34_1, q34_2⟩ := hq
                      replace q34_1 : ¬ (σ.1 20) = 0 → (τ36.1 20) = (σ.1 20) := q34_1
                      replace q34_2 : (σ.1 20) = 0 → (τ36.1 20) = 10 := q34_2
                      have w0_τ36 : τ36.1 0 = σ.1 0 := hf_τ36.1 0 (by decide)
                      have w4_τ36 : τ36.1 4 = σ.1 4 := hf_τ36.1 4 (by decide)
                      have w6_τ36 : τ36.1 6 = σ.1 6 := hf_τ36.1 6 (by decide)
                      have w17_τ36 : τ36.1 17 = σ.1 17 := hf_τ36.1 17 (by decide)
                      have w18_τ36 : τ36.1 18 = σ.1 18 := hf_τ36.1 18 (by decide)
                      have w19_τ36 : τ36.1 19 = σ.1 19 := hf_τ36.1 19 (by decide)
                      have w22_τ36 : τ36.1 22 = σ.1 22 := hf_τ36.1 22 (by decide)
                      have g15_τ36 : τ36.2.1 15 = σ.2.1 15 := hf_τ36.2.1 15 (by decide)
                      have W0 : τ36.1 0 = σ.1 0 := by omega
                      have W17 : τ36.1 17 = σ.1 17 := by omega
                      have W18 : τ36.1 18 = σ.1 18 := by omega
                      have W19 : τ36.1 19 = σ.1 19 := by omega
                      have W22 : τ36.1 22 = σ.1 22 := by omega
                      have A15 : ∀ j, 0 ≤ τ36.2.1 15 j ∧ τ36.2.1 15 j ≤ 300 := fun j => hT.2 15 j
                      have v0 : 0 ≤ τ36.1 0 ∧ τ36.1 0 ≤ 60000 := hT.1 0
                      have v4 : 0 ≤ τ36.1 4 ∧ τ36.1 4 ≤ 100 := hT.1 4
                      have v6 : 0 ≤ τ36.1 6 ∧ τ36.1 6 ≤ 30000 := hT.1 6
                      have v17 : 0 ≤ τ36.1 17 ∧ τ36.1 17 ≤ 60000 := hT.1 17
                      have v18 : 0 ≤ τ36.1 18 ∧ τ36.1 18 ≤ 60000 := hT.1 18
                      have v19 : (-1) ≤ τ36.1 19 ∧ τ36.1 19 ≤ 125 := hT.1 19
                      have v20 : 0 ≤ τ36.1 20 ∧ τ36.1 20 ≤ 19 := hT.1 20
                      have v22 : 0 ≤ τ36.1 22 ∧ τ36.1 22 ≤ 1499 := hT.1 22
                      exact ⟨hT, (show (τ36.1 20) = 0 → τ36.2.1 15 (τ36.1 22) = 1 from by (intro _; first | omega | (rw [q39_2, w22_τ41]; (first | rw [st_s] | skip); omega))), (show ¬ (σ.1 20) = 0 → (τ36.1 20) = (σ.1 20) from by omega)⟩
                  ·
                    refine h102 _ ?_
                    refine ⟨_, K_X13_failHere hT (show 0 ≤ 9 from by omega) (show 9 ≤ 19 from by omega), ?_⟩
                    intro τ29 hn_τ29 hf_τ29 hq
                    obtain ⟨hT, q27_1, q27_2⟩ := hq
                    replace q27_1 : ¬ (σ.1 20) = 0 → (τ29.1 20) = (σ.1 20) := q27_1
                    replace q27_2 : (σ.1 20) = 0 → (τ29.1 20) = 9 := q27_2
                    have w0_τ29 : τ29.1 0 = σ.1 0 := hf_τ29.1 0 (by decide)
                    have w4_τ29 : τ29.1 4 = σ.1 4 := hf_τ29.1 4 (by decide)
                    have w6_τ29 : τ29.1 6 = σ.1 6 := hf_τ29.1 6 (by decide)
                    have w17_τ29 : τ29.1 17 = σ.1 17 := hf_τ29.1 17 (by decide)
                    have w18_τ29 : τ29.1 18 = σ.1 18 := hf_τ29.1 18 (by decide)
                    have w19_τ29 : τ29.1 19 = σ.1 19 := hf_τ29.1 19 (by decide)
                    have w22_τ29 : τ29.1 22 = σ.1 22 := hf_τ29.1 22 (by decide)
                    have g15_τ29 : τ29.2.1 15 = σ.2.1 15 := hf_τ29.2.1 15 (by decide)
                    have W0 : τ29.1 0 = σ.1 0 := by omega
                    have W17 : τ29.1 17 = σ.1 17 := by omega
                    have W18 : τ29.1 18 = σ.1 18 := by omega
                    have W19 : τ29.1 19 = σ.1 19 := by omega
                    have W22 : τ29.1 22 = σ.1 22 := by omega
                    have A15 : ∀ j, 0 ≤ τ29.2.1 15 j ∧ τ29.2.1 15 j ≤ 300 := fun j => hT.2 15 j
                    have v0 : 0 ≤ τ29.1 0 ∧ τ29.1 0 ≤ 60000 := hT.1 0
                    have v4 : 0 ≤ τ29.1 4 ∧ τ29.1 4 ≤ 100 := hT.1 4
                    have v6 : 0 ≤ τ29.1 6 ∧ τ29.1 6 ≤ 30000 := hT.1 6
                    have v17 : 0 ≤ τ29.1 17 ∧ τ29.1 17 ≤ 60000 := hT.1 17
                    have v18 : 0 ≤ τ29.1 18 ∧ τ29.1 18 ≤ 60000 := hT.1 18
                    have v19 : (-1) ≤ τ29.1 19 ∧ τ29.1 19 ≤ 125 := hT.1 19
                    have v20 : 0 ≤ τ29.1 20 ∧ τ29.1 20 ≤ 19 := hT.1 20
                    have v22 : 0 ≤ τ29.1 22 ∧ τ29.1 22 ≤ 1499 := hT.1 22
                    exact ⟨hT, (show (τ29.1 20) = 0 → τ29.2.1 15 (τ29.1 22) = 1 from by (intro _; first | omega | (rw [q39_2, w22_τ41]; (first | rw [st_s] | skip); omega))), (show ¬ (σ.1 20) = 0 → (τ29.1 20) = (σ.1 20) from by omega)⟩
            ·
              refine ⟨fun c17 => ?_, fun c17 => ?_⟩
              ·
                refine h79 _ _ _ ?_
                refine ⟨fun c21 => ?_, fun c21 => ?_⟩
                ·
                  refine h102 _ ?_
                  refine ⟨_, K_X13_failHere hT (show 0 ≤ 9 from by omega) (show 9 ≤ 19 from by omega), ?_⟩
                  intro τ29 hn_τ29 hf_τ29 hq
                  obtain ⟨hT, q27_1, q27_2⟩ := hq
                  replace q27_1 : ¬ (σ.1 20) = 0 → (τ29.1 20) = (σ.1 20) := q27_1
                  replace q27_2 : (σ.1 20) = 0 → (τ29.1 20) = 9 := q27_2
                  have w0_τ29 : τ29.1 0 = σ.1 0 := hf_τ29.1 0 (by decide)
                  have w4_τ29 : τ29.1 4 = σ.1 4 := hf_τ29.1 4 (by decide)
                  have w6_τ29 : τ29.1 6 = σ.1 6 := hf_τ29.1 6 (by decide)
                  have w17_τ29 : τ29.1 17 = σ.1 17 := hf_τ29.1 17 (by decide)
                  have w18_τ29 : τ29.1 18 = σ.1 18 := hf_τ29.1 18 (by decide)
                  have w19_τ29 : τ29.1 19 = σ.1 19 := hf_τ29.1 19 (by decide)
                  have w22_τ29 : τ29.1 22 = σ.1 22 := hf_τ29.1 22 (by decide)
                  have g15_τ29 : τ29.2.1 15 = σ.2.1 15 := hf_τ29.2.1 15 (by decide)
                  have W0 : τ29.1 0 = σ.1 0 := by omega
                  have W17 : τ29.1 17 = σ.1 17 := by omega
                  have W18 : τ29.1 18 = σ.1 18 := by omega
                  have W19 : τ29.1 19 = σ.1 19 := by omega
                  have W22 : τ29.1 22 = σ.1 22 := by omega
                  have A15 : ∀ j, 0 ≤ τ29.2.1 15 j ∧ τ29.2.1 15 j ≤ 300 := fun j => hT.2 15 j
                  have v0 : 0 ≤ τ29.1 0 ∧ τ29.1 0 ≤ 60000 := hT.1 0
                  have v4 : 0 ≤ τ29.1 4 ∧ τ29.1 4 ≤ 100 := hT.1 4
                  have v6 : 0 ≤ τ29.1 6 ∧ τ29.1 6 ≤ 30000 := hT.1 6
                  have v17 : 0 ≤ τ29.1 17 ∧ τ29.1 17 ≤ 60000 := hT.1 17
                  have v18 : 0 ≤ τ29.1 18 ∧ τ29.1 18 ≤ 60000 := hT.1 18
                  have v19 : (-1) ≤ τ29.1 19 ∧ τ29.1 19 ≤ 125 := hT.1 19
                  have v20 : 0 ≤ τ29.1 20 ∧ τ29.1 20 ≤ 19 := hT.1 20
                  have v22 : 0 ≤ τ29.1 22 ∧ τ29.1 22 ≤ 1499 := hT.1 22
                  exact ⟨hT, (show (τ29.1 20) = 0 → τ29.2.1 15 (τ29.1 22) = 1 from by (intro _; first | omega | (rw [q39_2, w22_τ41]; (first | rw [st_s] | skip); omega))), (show ¬ (σ.1 20) = 0 → (τ29.1 20) = (σ.1 20) from by omega)⟩
                ·
                  refine ⟨(show 0 ≤ x3 ∧ x3 < 1001 from by omega), ?_⟩
                  intro x23 r_x23 e_x23
                  have b_x23 : 0 ≤ x23 ∧ x23 ≤ 1 := by rw [e_x23]; exact hT.2 8 _
                  refine ⟨fun c24 => ?_, fun c24 => ?_⟩
                  ·
                    refine h111 _ _ _ ?_
                    refine ⟨fun c30 => ?_, fun c30 => ?_⟩
                    ·
                      refine ⟨(show 0 ≤ x3 ∧ x3 < 1001 from by omega), ?_⟩
                      intro x32 r_x32 e_x32
                      have b_x32 : 0 ≤ x32 ∧ x32 ≤ 1 := by rw [e_x32]; exact hT.2 12 _
                      refine ⟨fun c33 => ?_, fun c33 => ?_⟩
                      ·
                        refine h143 _ _ _ _ ?_
                        refine ⟨(⟨by omega, by omega⟩ : rg ((σ.1 4) + 1)), ?_⟩
                        replace hT := mT_v (i := 4) hT (show 0 ≤ ((σ.1 4) + 1) ∧ ((σ.1 4) + 1) ≤ 100 from by omega)
                        refine ⟨(show 0 ≤ x3 ∧ x3 < 1001 from by omega), ?_⟩
                        replace hT := mT_a (k := 12) (j := x3) hT (show (0 : Int) ≤ 1 ∧ 1 ≤ 1 from by omega)
                        refine ⟨_, K_X13_addSymbol hT (show 0 ≤ x3 from by omega) (show x3 < 1000 from by omega) (show -1 ≤ (-1) from by omega) (show (-1) ≤ 1499 from by omega) (show (σ.1 6) < 30000 from by omega) (show σ.2.1 15 (σ.1 22) < 300 from by omega), ?_⟩
                        intro τ41 hn_τ41 hf_τ41 hq
                        obtain ⟨hT, q39_1, q39_2⟩ := hq
                        replace q39_1 : (τ41.1 6) = (σ.1 6) + 1 := q39_1
                        replace q39_2 : τ41.2.1 15 = st (σ.2.1 15) (σ.1 22) (σ.2.1 15 (σ.1 22) + 1) := q39_2
                        have w0_τ41 : τ41.1 0 = σ.1 0 := hf_τ41.1 0 (by decide)
                        have w4_τ41 : τ41.1 4 = ((σ.1 4) + 1) := hf_τ41.1 4 (by decide)
                        have w17_τ41 : τ41.1 17 = σ.1 17 := hf_τ41.1 17 (by decide)
                        have w18_τ41 : τ41.1 18 = σ.1 18 := hf_τ41.1 18 (by decide)
                        have w19_τ41 : τ41.1 19 = σ.1 19 := hf_τ41.1 19 (by decide)
                        have w20_τ41 : τ41.1 20 = σ.1 20 := hf_τ41.1 20 (by decide)
                        have w22_τ41 : τ41.1 22 = σ.1 22 := hf_τ41.1 22 (by decide)
                        have W0 : τ41.1 0 = σ.1 0 := by omega
                        have W17 : τ41.1 17 = σ.1 17 := by omega
                        have W18 : τ41.1 18 = σ.1 18 := by omega
                        have W19 : τ41.1 19 = σ.1 19 := by omega
                        have W22 : τ41.1 22 = σ.1 22 := by omega
                        have A15 : ∀ j, 0 ≤ τ41.2.1 15 j ∧ τ41.2.1 15 j ≤ 300 := fun j => hT.2 15 j
                        have v0 : 0 ≤ τ41.1 0 ∧ τ41.1 0 ≤ 60000 := hT.1 0
                        have v4 : 0 ≤ τ41.1 4 ∧ τ41.1 4 ≤ 100 := hT.1 4
                        have v6 : 0 ≤ τ41.1 6 ∧ τ41.1 6 ≤ 30000 := hT.1 6
                        have v17 : 0 ≤ τ41.1 17 ∧ τ41.1 17 ≤ 60000 := hT.1 17
                        have v18 : 0 ≤ τ41.1 18 ∧ τ41.1 18 ≤ 60000 := hT.1 18
                        have v19 : (-1) ≤ τ41.1 19 ∧ τ41.1 19 ≤ 125 := hT.1 19
                        have v20 : 0 ≤ τ41.1 20 ∧ τ41.1 20 ≤ 19 := hT.1 20
                        have v22 : 0 ≤ τ41.1 22 ∧ τ41.1 22 ≤ 1499 := hT.1 22
                        exact ⟨hT, (show (τ41.1 20) = 0 → τ41.2.1 15 (τ41.1 22) = 1 from by (intro _; first | omega | (rw [q39_2, w22_τ41]; (first | rw [st_s] | skip); omega))), (show ¬ (σ.1 20) = 0 → (τ41.1 20) = (σ.1 20) from by omega)⟩
                      ·
                        refine h143 _ _ _ _ ?_
                        refine ⟨(⟨by omega, by omega⟩ : rg ((σ.1 4) + 0)), ?_⟩
                        replace hT := mT_v (i := 4) hT (show 0 ≤ ((σ.1 4) + 0) ∧ ((σ.1 4) + 0) ≤ 100 from by omega)
                        refine ⟨(show 0 ≤ x3 ∧ x3 < 1001 from by omega), ?_⟩
                        replace hT := mT_a (k := 12) (j := x3) hT (show (0 : Int) ≤ 1 ∧ 1 ≤ 1 from by omega)
                        refine ⟨_, K_X13_addSymbol hT (show 0 ≤ x3 from by omega) (show x3 < 1000 from by omega) (show -1 ≤ (-1) from by omega) (show (-1) ≤ 1499 from by omega) (show (σ.1 6) < 30000 from by omega) (show σ.2.1 15 (σ.1 22) < 300 from by omega), ?_⟩
                        intro τ41 hn_τ41 hf_τ41 hq
                        obtain ⟨hT, q39_1, q39_2⟩ := hq
                        replace q39_1 : (τ41.1 6) = (σ.1 6) + 1 := q39_1
                        replace q39_2 : τ41.2.1 15 = st (σ.2.1 15) (σ.1 22) (σ.2.1 15 (σ.1 22) + 1) := q39_2
                        have w0_τ41 : τ41.1 0 = σ.1 0 := hf_τ41.1 0 (by decide)
                        have w4_τ41 : τ41.1 4 = ((σ.1 4) + 0) := hf_τ41.1 4 (by decide)
                        have w17_τ41 : τ41.1 17 = σ.1 17 := hf_τ41.1 17 (by decide)
                        have w18_τ41 : τ41.1 18 = σ.1 18 := hf_τ41.1 18 (by decide)
                        have w19_τ41 : τ41.1 19 = σ.1 19 := hf_τ41.1 19 (by decide)
                        have w20_τ41 : τ41.1 20 = σ.1 20 := hf_τ41.1 20 (by decide)
                        have w22_τ41 : τ41.1 22 = σ.1 22 := hf_τ41.1 22 (by decide)
                        have W0 : τ41.1 0 = σ.1 0 := by omega
                        have W17 : τ41.1 17 = σ.1 17 := by omega
                        have W18 : τ41.1 18 = σ.1 18 := by omega
                        have W19 : τ41.1 19 = σ.1 19 := by omega
                        have W22 : τ41.1 22 = σ.1 22 := by omega
                        have A15 : ∀ j, 0 ≤ τ41.2.1 15 j ∧ τ41.2.1 15 j ≤ 300 := fun j => hT.2 15 j
                        have v0 : 0 ≤ τ41.1 0 ∧ τ41.1 0 ≤ 60000 := hT.1 0
                        have v4 : 0 ≤ τ41.1 4 ∧ τ41.1 4 ≤ 100 := hT.1 4
                        have v6 : 0 ≤ τ41.1 6 ∧ τ41.1 6 ≤ 30000 := hT.1 6
                        have v17 : 0 ≤ τ41.1 17 ∧ τ41.1 17 ≤ 60000 := hT.1 17
                        have v18 : 0 ≤ τ41.1 18 ∧ τ41.1 18 ≤ 60000 := hT.1 18
                        have v19 : (-1) ≤ τ41.1 19 ∧ τ41.1 19 ≤ 125 := hT.1 19
                        have v20 : 0 ≤ τ41.1 20 ∧ τ41.1 20 ≤ 19 := hT.1 20
                        have v22 : 0 ≤ τ41.1 22 ∧ τ41.1 22 ≤ 1499 := hT.1 22
                        exact ⟨hT, (show (τ41.1 20) = 0 → τ41.2.1 15 (τ41.1 22) = 1 from by (intro _; first | omega | (rw [q39_2, w22_τ41]; (first | rw [st_s] | skip); omega))), (show ¬ (σ.1 20) = 0 → (τ41.1 20) = (σ.1 20) from by omega)⟩
                    ·
                      refine ⟨_, K_X13_failHere hT (show 0 ≤ 10 from by omega) (show 10 ≤ 19 from by omega), ?_⟩
                      intro τ36 hn_τ36 hf_τ36 hq
                      obtain ⟨hT, q34_1, q34_2⟩ := hq
                      replace q34_1 : ¬ (σ.1 20) = 0 → (τ36.1 20) = (σ.1 20) := q34_1
                      replace q34_2 : (σ.1 20) = 0 → (τ36.1 20) = 10 := q34_2
                      have w0_τ36 : τ36.1 0 = σ.1 0 := hf_τ36.1 0 (by decide)
                      have w4_τ36 : τ36.1 4 = σ.1 4 := hf_τ36.1 4 (by decide)
                      have w6_τ36 : τ36.1 6 = σ.1 6 := hf_τ36.1 6 (by decide)
                      have w17_τ36 : τ36.1 17 = σ.1 17 := hf_τ36.1 17 (by decide)
                      have w18_τ36 : τ36.1 18 = σ.1 18 := hf_τ36.1 18 (by decide)
                      have w19_τ36 : τ36.1 19 = σ.1 19 := hf_τ36.1 19 (by decide)
                      have w22_τ36 : τ36.1 22 = σ.1 22 := hf_τ36.1 22 (by decide)
                      have g15_τ36 : τ36.2.1 15 = σ.2.1 15 := hf_τ36.2.1 15 (by decide)
                      have W0 : τ36.1 0 = σ.1 0 := by omega
                      have W17 : τ36.1 17 = σ.1 17 := by omega
                      have W18 : τ36.1 18 = σ.1 18 := by omega
                      have W19 : τ36.1 19 = σ.1 19 := by omega
                      have W22 : τ36.1 22 = σ.1 22 := by omega
                      have A15 : ∀ j, 0 ≤ τ36.2.1 15 j ∧ τ36.2.1 15 j ≤ 300 := fun j => hT.2 15 j
                      have v0 : 0 ≤ τ36.1 0 ∧ τ36.1 0 ≤ 60000 := hT.1 0
                      have v4 : 0 ≤ τ36.1 4 ∧ τ36.1 4 ≤ 100 := hT.1 4
                      have v6 : 0 ≤ τ36.1 6 ∧ τ36.1 6 ≤ 30000 := hT.1 6
                      have v17 : 0 ≤ τ36.1 17 ∧ τ36.1 17 ≤ 60000 := hT.1 17
                      have v18 : 0 ≤ τ36.1 18 ∧ τ36.1 18 ≤ 60000 := hT.1 18
                      have v19 : (-1) ≤ τ36.1 19 ∧ τ36.1 19 ≤ 125 := hT.1 19
                      have v20 : 0 ≤ τ36.1 20 ∧ τ36.1 20 ≤ 19 := hT.1 20
                      have v22 : 0 ≤ τ36.1 22 ∧ τ36.1 22 ≤ 1499 := hT.1 22
                      exact ⟨hT, (show (τ36.1 20) = 0 → τ36.2.1 15 (τ36.1 22) = 1 from by (intro _; first | omega | (rw [q39_2, w22_τ41]; (first | rw [st_s] | skip); omega))), (show ¬ (σ.1 20) = 0 → (τ36.1 20) = (σ.1 20) from by omega)⟩
                  ·
                    intro x25 r_x25 e_x25
                    have b_x25 : 0 ≤ x25 ∧ x25 ≤ 1 := by rw [e_x25]; exact hT.2 9 _
                    refine ⟨fun c26 => ?_, fun c26 => ?_⟩
                    ·
                      refine h111 _ _ _ ?_
                      refine ⟨fun c30 => ?_, fun c30 => ?_⟩
                      ·
                        refine ⟨(show 0 ≤ x3 ∧ x3 < 1001 from by omega), ?_⟩
                        intro x32 r_x32 e_x32
                        have b_x32 : 0 ≤ x32 ∧ x32 ≤ 1 := by rw [e_x32]; exact hT.2 12 _
                        refine ⟨fun c33 => ?_, fun c33 => ?_⟩
                        ·
                          refine h143 _ _ _ _ ?_
                          refine ⟨(⟨by omega, by omega⟩ : rg ((σ.1 4) + 1)), ?_⟩
                          replace hT := mT_v (i := 4) hT (show 0 ≤ ((σ.1 4) + 1) ∧ ((σ.1 4) + 1) ≤ 100 from by omega)
                          refine ⟨(show 0 ≤ x3 ∧ x3 < 1001 from by omega), ?_⟩
                          replace hT := mT_a (k := 12) (j := x3) hT (show (0 : Int) ≤ 1 ∧ 1 ≤ 1 from by omega)
                          refine ⟨_, K_X13_addSymbol hT (show 0 ≤ x3 from by omega) (show x3 < 1000 from by omega) (show -1 ≤ (-1) from by omega) (show (-1) ≤ 1499 from by omega) (show (σ.1 6) < 30000 from by omega) (show σ.2.1 15 (σ.1 22) < 300 from by omega), ?_⟩
                          intro τ41 hn_τ41 hf_τ41 hq
                          obtain ⟨hT, q39_1, q39_2⟩ := hq
                          replace q39_1 : (τ41.1 6) = (σ.1 6) + 1 := q39_1
                          replace q39_2 : τ41.2.1 15 = st (σ.2.1 15) (σ.1 22) (σ.2.1 15 (σ.1 22) + 1) := q39_2
                          have w0_τ41 : τ41.1 0 = σ.1 0 := hf_τ41.1 0 (by decide)
                          have w4_τ41 : τ41.1 4 = ((σ.1 4) + 1) := hf_τ41.1 4 (by decide)
                          have w17_τ41 : τ41.1 17 = σ.1 17 := hf_τ41.1 17 (by decide)
                          have w18_τ41 : τ41.1 18 = σ.1 18 := hf_τ41.1 18 (by decide)
                          have w19_τ41 : τ41.1 19 = σ.1 19 := hf_τ41.1 19 (by decide)
                          have w20_τ41 : τ41.1 20 = σ.1 20 := hf_τ41.1 20 (by decide)
                          have w22_τ41 : τ41.1 22 = σ.1 22 := hf_τ41.1 22 (by decide)
                          have W0 : τ41.1 0 = σ.1 0 := by omega
                          have W17 : τ41.1 17 = σ.1 17 := by omega
                          have W18 : τ41.1 18 = σ.1 18 := by omega
                          have W19 : τ41.1 19 = σ.1 19 := by omega
                          have W22 : τ41.1 22 = σ.1 22 := by omega
                          have A15 : ∀ j, 0 ≤ τ41.2.1 15 j ∧ τ41.2.1 15 j ≤ 300 := fun j => hT.2 15 j
                          have v0 : 0 ≤ τ41.1 0 ∧ τ41.1 0 ≤ 60000 := hT.1 0
                          have v4 : 0 ≤ τ41.1 4 ∧ τ41.1 4 ≤ 100 := hT.1 4
                          have v6 : 0 ≤ τ41.1 6 ∧ τ41.1 6 ≤ 30000 := hT.1 6
                          have v17 : 0 ≤ τ41.1 17 ∧ τ41.1 17 ≤ 60000 := hT.1 17
                          have v18 : 0 ≤ τ41.1 18 ∧ τ41.1 18 ≤ 60000 := hT.1 18
                          have v19 : (-1) ≤ τ41.1 19 ∧ τ41.1 19 ≤ 125 := hT.1 19
                          have v20 : 0 ≤ τ41.1 20 ∧ τ41.1 20 ≤ 19 := hT.1 20
                          have v22 : 0 ≤ τ41.1 22 ∧ τ41.1 22 ≤ 1499 := hT.1 22
                          exact ⟨hT, (show (τ41.1 20) = 0 → τ41.2.1 15 (τ41.1 22) = 1 from by (intro _; first | omega | (rw [q39_2, w22_τ41]; (first | rw [st_s] | skip); omega))), (show ¬ (σ.1 20) = 0 → (τ41.1 20) = (σ.1 20) from by omega)⟩
                        ·
                          refine h143 _ _ _ _ ?_
                          refine ⟨(⟨by omega, by omega⟩ : rg ((σ.1 4) + 0)), ?_⟩
                          replace hT := mT_v (i := 4) hT (show 0 ≤ ((σ.1 4) + 0) ∧ ((σ.1 4) + 0) ≤ 100 from by omega)
                          refine ⟨(show 0 ≤ x3 ∧ x3 < 1001 from by omega), ?_⟩
                          replace hT := mT_a (k := 12) (j := x3) hT (show (0 : Int) ≤ 1 ∧ 1 ≤ 1 from by omega)
                          refine ⟨_, K_X13_addSymbol hT (show 0 ≤ x3 from by omega) (show x3 < 1000 from by omega) (show -1 ≤ (-1) from by omega) (show (-1) ≤ 1499 from by omega) (show (σ.1 6) < 30000 from by omega) (show σ.2.1 15 (σ.1 22) < 300 from by omega), ?_⟩
                          intro τ41 hn_τ41 hf_τ41 hq
                          obtain ⟨hT, q39_1, q39_2⟩ := hq
                          replace q39_1 : (τ41.1 6) = (σ.1 6) + 1 := q39_1
                          replace q39_2 : τ41.2.1 15 = st (σ.2.1 15) (σ.1 22) (σ.2.1 15 (σ.1 22) + 1) := q39_2
                          have w0_τ41 : τ41.1 0 = σ.1 0 := hf_τ41.1 0 (by decide)
                          have w4_τ41 : τ41.1 4 = ((σ.1 4) + 0) := hf_τ41.1 4 (by decide)
                          have w17_τ41 : τ41.1 17 = σ.1 17 := hf_τ41.1 17 (by decide)
                          have w18_τ41 : τ41.1 18 = σ.1 18 := hf_τ41.1 18 (by decide)
                          have w19_τ41 : τ41.1 19 = σ.1 19 := hf_τ41.1 19 (by decide)
                          have w20_τ41 : τ41.1 20 = σ.1 20 := hf_τ41.1 20 (by decide)
                          have w22_τ41 : τ41.1 22 = σ.1 22 := hf_τ41.1 22 (by decide)
                          have W0 : τ41.1 0 = σ.1 0 := by omega
                          have W17 : τ41.1 17 = σ.1 17 := by omega
                          have W18 : τ41.1 18 = σ.1 18 := by omega
                          have W19 : τ41.1 19 = σ.1 19 := by omega
                          have W22 : τ41.1 22 = σ.1 22 := by omega
                          have A15 : ∀ j, 0 ≤ τ41.2.1 15 j ∧ τ41.2.1 15 j ≤ 300 := fun j => hT.2 15 j
                          have v0 : 0 ≤ τ41.1 0 ∧ τ41.1 0 ≤ 60000 := hT.1 0
                          have v4 : 0 ≤ τ41.1 4 ∧ τ41.1 4 ≤ 100 := hT.1 4
                          have v6 : 0 ≤ τ41.1 6 ∧ τ41.1 6 ≤ 30000 := hT.1 6
                          have v17 : 0 ≤ τ41.1 17 ∧ τ41.1 17 ≤ 60000 := hT.1 17
                          have v18 : 0 ≤ τ41.1 18 ∧ τ41.1 18 ≤ 60000 := hT.1 18
                          have v19 : (-1) ≤ τ41.1 19 ∧ τ41.1 19 ≤ 125 := hT.1 19
                          have v20 : 0 ≤ τ41.1 20 ∧ τ41.1 20 ≤ 19 := hT.1 20
                          have v22 : 0 ≤ τ41.1 22 ∧ τ41.1 22 ≤ 1499 := hT.1 22
                          exact ⟨hT, (show (τ41.1 20) = 0 → τ41.2.1 15 (τ41.1 22) = 1 from by (intro _; first | omega | (rw [q39_2, w22_τ41]; (first | rw [st_s] | skip); omega))), (show ¬ (σ.1 20) = 0 → (τ41.1 20) = (σ.1 20) from by omega)⟩
                      ·
                        refine ⟨_, K_X13_failHere hT (show 0 ≤ 10 from by omega) (show 10 ≤ 19 from by omega), ?_⟩
                        intro τ36 hn_τ36 hf_τ36 hq
                        obtain ⟨hT, q34_1, q34_2⟩ := hq
                        replace q34_1 : ¬ (σ.1 20) = 0 → (τ36.1 20) = (σ.1 20) := q34_1
                        replace q34_2 : (σ.1 20) = 0 → (τ36.1 20) = 10 := q34_2
                        have w0_τ36 : τ36.1 0 = σ.1 0 := hf_τ36.1 0 (by decide)
                        have w4_τ36 : τ36.1 4 = σ.1 4 := hf_τ36.1 4 (by decide)
                        have w6_τ36 : τ36.1 6 = σ.1 6 := hf_τ36.1 6 (by decide)
                        have w17_τ36 : τ36.1 17 = σ.1 17 := hf_τ36.1 17 (by decide)
                        have w18_τ36 : τ36.1 18 = σ.1 18 := hf_τ36.1 18 (by decide)
                        have w19_τ36 : τ36.1 19 = σ.1 19 := hf_τ36.1 19 (by decide)
                        have w22_τ36 : τ36.1 22 = σ.1 22 := hf_τ36.1 22 (by decide)
                        have g15_τ36 : τ36.2.1 15 = σ.2.1 15 := hf_τ36.2.1 15 (by decide)
                        have W0 : τ36.1 0 = σ.1 0 := by omega
                        have W17 : τ36.1 17 = σ.1 17 := by omega
                        have W18 : τ36.1 18 = σ.1 18 := by omega
                        have W19 : τ36.1 19 = σ.1 19 := by omega
                        have W22 : τ36.1 22 = σ.1 22 := by omega
                        have A15 : ∀ j, 0 ≤ τ36.2.1 15 j ∧ τ36.2.1 15 j ≤ 300 := fun j => hT.2 15 j
                        have v0 : 0 ≤ τ36.1 0 ∧ τ36.1 0 ≤ 60000 := hT.1 0
                        have v4 : 0 ≤ τ36.1 4 ∧ τ36.1 4 ≤ 100 := hT.1 4
                        have v6 : 0 ≤ τ36.1 6 ∧ τ36.1 6 ≤ 30000 := hT.1 6
                        have v17 : 0 ≤ τ36.1 17 ∧ τ36.1 17 ≤ 60000 := hT.1 17
                        have v18 : 0 ≤ τ36.1 18 ∧ τ36.1 18 ≤ 60000 := hT.1 18
                        have v19 : (-1) ≤ τ36.1 19 ∧ τ36.1 19 ≤ 125 := hT.1 19
                        have v20 : 0 ≤ τ36.1 20 ∧ τ36.1 20 ≤ 19 := hT.1 20
                        have v22 : 0 ≤ τ36.1 22 ∧ τ36.1 22 ≤ 1499 := hT.1 22
                        exact ⟨hT, (show (τ36.1 20) = 0 → τ36.2.1 15 (τ36.1 22) = 1 from by (intro _; first | omega | (rw [q39_2, w22_τ41]; (first | rw [st_s] | skip); omega))), (show ¬ (σ.1 20) = 0 → (τ36.1 20) = (σ.1 20) from by omega)⟩
                    ·
                      refine h102 _ ?_
                      refine ⟨_, K_X13_failHere hT (show 0 ≤ 9 from by omega) (show 9 ≤ 19 from by omega), ?_⟩
                      intro τ29 hn_τ29 hf_τ29 hq
                      obtain ⟨hT, q27_1, q27_2⟩ := hq
                      replace q27_1 : ¬ (σ.1 20) = 0 → (τ29.1 20) = (σ.1 20) := q27_1
                      replace q27_2 : (σ.1 20) = 0 → (τ29.1 20) = 9 := q27_2
                      have w0_τ29 : τ29.1 0 = σ.1 0 := hf_τ29.1 0 (by decide)
                      have w4_τ29 : τ29.1 4 = σ.1 4 := hf_τ29.1 4 (by decide)
                      have w6_τ29 : τ29.1 6 = σ.1 6 := hf_τ29.1 6 (by decide)
                      have w17_τ29 : τ29.1 17 = σ.1 17 := hf_τ29.1 17 (by decide)
                      have w18_τ29 : τ29.1 18 = σ.1 18 := hf_τ29.1 18 (by decide)
                      have w19_τ29 : τ29.1 19 = σ.1 19 := hf_τ29.1 19 (by decide)
                      have w22_τ29 : τ29.1 22 = σ.1 22 := hf_τ29.1 22 (by decide)
                      have g15_τ29 : τ29.2.1 15 = σ.2.1 15 := hf_τ29.2.1 15 (by decide)
                      have W0 : τ29.1 0 = σ.1 0 := by omega
                      have W17 : τ29.1 17 = σ.1 17 := by omega
                      have W18 : τ29.1 18 = σ.1 18 := by omega
                      have W19 : τ29.1 19 = σ.1 19 := by omega
                      have W22 : τ29.1 22 = σ.1 22 := by omega
                      have A15 : ∀ j, 0 ≤ τ29.2.1 15 j ∧ τ29.2.1 15 j ≤ 300 := fun j => hT.2 15 j
                      have v0 : 0 ≤ τ29.1 0 ∧ τ29.1 0 ≤ 60000 := hT.1 0
                      have v4 : 0 ≤ τ29.1 4 ∧ τ29.1 4 ≤ 100 := hT.1 4
                      have v6 : 0 ≤ τ29.1 6 ∧ τ29.1 6 ≤ 30000 := hT.1 6
                      have v17 : 0 ≤ τ29.1 17 ∧ τ29.1 17 ≤ 60000 := hT.1 17
                      have v18 : 0 ≤ τ29.1 18 ∧ τ29.1 18 ≤ 60000 := hT.1 18
                      have v19 : (-1) ≤ τ29.1 19 ∧ τ29.1 19 ≤ 125 := hT.1 19
                      have v20 : 0 ≤ τ29.1 20 ∧ τ29.1 20 ≤ 19 := hT.1 20
                      have v22 : 0 ≤ τ29.1 22 ∧ τ29.1 22 ≤ 1499 := hT.1 22
                      exact ⟨hT, (show (τ29.1 20) = 0 → τ29.2.1 15 (τ29.1 22) = 1 from by (intro _; first | omega | (rw [q39_2, w22_τ41]; (first | rw [st_s] | skip); omega))), (show ¬ (σ.1 20) = 0 → (τ29.1 20) = (σ.1 20) from by omega)⟩
              ·
                refine h71 _ ?_
                refine ⟨_, K_X13_failHere hT (show 0 ≤ 5 from by omega) (show 5 ≤ 19 from by omega), ?_⟩
                intro τ20 hn_τ20 hf_τ20 hq
                obtain ⟨hT, q18_1, q18_2⟩ := hq
                replace q18_1 : ¬ (σ.1 20) = 0 → (τ20.1 20) = (σ.1 20) := q18_1
                replace q18_2 : (σ.1 20) = 0 → (τ20.1 20) = 5 := q18_2
                have w0_τ20 : τ20.1 0 = σ.1 0 := hf_τ20.1 0 (by decide)
                have w4_τ20 : τ20.1 4 = σ.1 4 := hf_τ20.1 4 (by decide)
                have w6_τ20 : τ20.1 6 = σ.1 6 := hf_τ20.1 6 (by decide)
                have w17_τ20 : τ20.1 17 = σ.1 17 := hf_τ20.1 17 (by decide)
                have w18_τ20 : τ20.1 18 = σ.1 18 := hf_τ20.1 18 (by decide)
                have w19_τ20 : τ20.1 19 = σ.1 19 := hf_τ20.1 19 (by decide)
                have w22_τ20 : τ20.1 22 = σ.1 22 := hf_τ20.1 22 (by decide)
                have g15_τ20 : τ20.2.1 15 = σ.2.1 15 := hf_τ20.2.1 15 (by decide)
                have W0 : τ20.1 0 = σ.1 0 := by omega
                have W17 : τ20.1 17 = σ.1 17 := by omega
                have W18 : τ20.1 18 = σ.1 18 := by omega
                have W19 : τ20.1 19 = σ.1 19 := by omega
                have W22 : τ20.1 22 = σ.1 22 := by omega
                have A15 : ∀ j, 0 ≤ τ20.2.1 15 j ∧ τ20.2.1 15 j ≤ 300 := fun j => hT.2 15 j
                have v0 : 0 ≤ τ20.1 0 ∧ τ20.1 0 ≤ 60000 := hT.1 0
                have v4 : 0 ≤ τ20.1 4 ∧ τ20.1 4 ≤ 100 := hT.1 4
                have v6 : 0 ≤ τ20.1 6 ∧ τ20.1 6 ≤ 30000 := hT.1 6
                have v17 : 0 ≤ τ20.1 17 ∧ τ20.1 17 ≤ 60000 := hT.1 17
                have v18 : 0 ≤ τ20.1 18 ∧ τ20.1 18 ≤ 60000 := hT.1 18
                have v19 : (-1) ≤ τ20.1 19 ∧ τ20.1 19 ≤ 125 := hT.1 19
                have v20 : 0 ≤ τ20.1 20 ∧ τ20.1 20 ≤ 19 := hT.1 20
                have v22 : 0 ≤ τ20.1 22 ∧ τ20.1 22 ≤ 1499 := hT.1 22
                exact ⟨hT, (show (τ20.1 20) = 0 → τ20.2.1 15 (τ20.1 22) = 1 from by (intro _; first | omega | (rw [q39_2, w22_τ41]; (first | rw [st_s] | skip); omega))), (show ¬ (σ.1 20) = 0 → (τ20.1 20) = (σ.1 20) from by omega)⟩
      ·
        refine h38 _ _ _ ?_
        refine ⟨fun c12 => ?_, fun c12 => ?_⟩
        ·
          refine h71 _ ?_
          refine ⟨_, K_X13_failHere hT (show 0 ≤ 5 from by omega) (show 5 ≤ 19 from by omega), ?_⟩
          intro τ20 hn_τ20 hf_τ20 hq
          obtain ⟨hT, q18_1, q18_2⟩ := hq
          replace q18_1 : ¬ (σ.1 20) = 0 → (τ20.1 20) = (σ.1 20) := q18_1
          replace q18_2 : (σ.1 20) = 0 → (τ20.1 20) = 5 := q18_2
          have w0_τ20 : τ20.1 0 = σ.1 0 := hf_τ20.1 0 (by decide)
          have w4_τ20 : τ20.1 4 = σ.1 4 := hf_τ20.1 4 (by decide)
          have w6_τ20 : τ20.1 6 = σ.1 6 := hf_τ20.1 6 (by decide)
          have w17_τ20 : τ20.1 17 = σ.1 17 := hf_τ20.1 17 (by decide)
          have w18_τ20 : τ20.1 18 = σ.1 18 := hf_τ20.1 18 (by decide)
          have w19_τ20 : τ20.1 19 = σ.1 19 := hf_τ20.1 19 (by decide)
          have w22_τ20 : τ20.1 22 = σ.1 22 := hf_τ20.1 22 (by decide)
          have g15_τ20 : τ20.2.1 15 = σ.2.1 15 := hf_τ20.2.1 15 (by decide)
          have W0 : τ20.1 0 = σ.1 0 := by omega
          have W17 : τ20.1 17 = σ.1 17 := by omega
          have W18 : τ20.1 18 = σ.1 18 := by omega
          have W19 : τ20.1 19 = σ.1 19 := by omega
          have W22 : τ20.1 22 = σ.1 22 := by omega
          have A15 : ∀ j, 0 ≤ τ20.2.1 15 j ∧ τ20.2.1 15 j ≤ 300 := fun j => hT.2 15 j
          have v0 : 0 ≤ τ20.1 0 ∧ τ20.1 0 ≤ 60000 := hT.1 0
          have v4 : 0 ≤ τ20.1 4 ∧ τ20.1 4 ≤ 100 := hT.1 4
          have v6 : 0 ≤ τ20.1 6 ∧ τ20.1 6 ≤ 30000 := hT.1 6
          have v17 : 0 ≤ τ20.1 17 ∧ τ20.1 17 ≤ 60000 := hT.1 17
          have v18 : 0 ≤ τ20.1 18 ∧ τ20.1 18 ≤ 60000 := hT.1 18
          have v19 : (-1) ≤ τ20.1 19 ∧ τ20.1 19 ≤ 125 := hT.1 19
          have v20 : 0 ≤ τ20.1 20 ∧ τ20.1 20 ≤ 19 := hT.1 20
          have v22 : 0 ≤ τ20.1 22 ∧ τ20.1 22 ≤ 1499 := hT.1 22
          exact ⟨hT, (show (τ20.1 20) = 0 → τ20.2.1 15 (τ20.1 22) = 1 from by (intro _; first | omega | (rw [q39_2, w22_τ41]; (first | rw [st_s] | skip); omega))), (show ¬ (σ.1 20) = 0 → (τ20.1 20) = (σ.1 20) from by omega)⟩
        ·
          refine ⟨fun c13 => ?_, fun c13 => ?_⟩
          ·
            refine h79 _ _ _ ?_
            refine ⟨fun c21 => ?_, fun c21 => ?_⟩
            ·
              refine h102 _ ?_
              refine ⟨_, K_X13_failHere hT (show 0 ≤ 9 from by omega) (show 9 ≤ 19 from by omega), ?_⟩
              intro τ29 hn_τ29 hf_τ29 hq
              obtain ⟨hT, q27_1, q27_2⟩ := hq
              replace q27_1 : ¬ (σ.1 20) = 0 → (τ29.1 20) = (σ.1 20) := q27_1
              replace q27_2 : (σ.1 20) = 0 → (τ29.1 20) = 9 := q27_2
              have w0_τ29 : τ29.1 0 = σ.1 0 := hf_τ29.1 0 (by decide)
              have w4_τ29 : τ29.1 4 = σ.1 4 := hf_τ29.1 4 (by decide)
              have w6_τ29 : τ29.1 6 = σ.1 6 := hf_τ29.1 6 (by decide)
              have w17_τ29 : τ29.1 17 = σ.1 17 := hf_τ29.1 17 (by decide)
              have w18_τ29 : τ29.1 18 = σ.1 18 := hf_τ29.1 18 (by decide)
              have w19_τ29 : τ29.1 19 = σ.1 19 := hf_τ29.1 19 (by decide)
              have w22_τ29 : τ29.1 22 = σ.1 22 := hf_τ29.1 22 (by decide)
              have g15_τ29 : τ29.2.1 15 = σ.2.1 15 := hf_τ29.2.1 15 (by decide)
              have W0 : τ29.1 0 = σ.1 0 := by omega
              have W17 : τ29.1 17 = σ.1 17 := by omega
              have W18 : τ29.1 18 = σ.1 18 := by omega
              have W19 : τ29.1 19 = σ.1 19 := by omega
              have W22 : τ29.1 22 = σ.1 22 := by omega
              have A15 : ∀ j, 0 ≤ τ29.2.1 15 j ∧ τ29.2.1 15 j ≤ 300 := fun j => hT.2 15 j
              have v0 : 0 ≤ τ29.1 0 ∧ τ29.1 0 ≤ 60000 := hT.1 0
              have v4 : 0 ≤ τ29.1 4 ∧ τ29.1 4 ≤ 100 := hT.1 4
              have v6 : 0 ≤ τ29.1 6 ∧ τ29.1 6 ≤ 30000 := hT.1 6
              have v17 : 0 ≤ τ29.1 17 ∧ τ29.1 17 ≤ 60000 := hT.1 17
              have v18 : 0 ≤ τ29.1 18 ∧ τ29.1 18 ≤ 60000 := hT.1 18
              have v19 : (-1) ≤ τ29.1 19 ∧ τ29.1 19 ≤ 125 := hT.1 19
              have v20 : 0 ≤ τ29.1 20 ∧ τ29.1 20 ≤ 19 := hT.1 20
              have v22 : 0 ≤ τ29.1 22 ∧ τ29.1 22 ≤ 1499 := hT.1 22
              exact ⟨hT, (show (τ29.1 20) = 0 → τ29.2.1 15 (τ29.1 22) = 1 from by (intro _; first | omega | (rw [q39_2, w22_τ41]; (first | rw [st_s] | skip); omega))), (show ¬ (σ.1 20) = 0 → (τ29.1 20) = (σ.1 20) from by omega)⟩
            ·
              refine ⟨(show 0 ≤ x3 ∧ x3 < 1001 from by omega), ?_⟩
              intro x23 r_x23 e_x23
              have b_x23 : 0 ≤ x23 ∧ x23 ≤ 1 := by rw [e_x23]; exact hT.2 8 _
              refine ⟨fun c24 => ?_, fun c24 => ?_⟩
              ·
                refine h111 _ _ _ ?_
                refine ⟨fun c30 => ?_, fun c30 => ?_⟩
                ·
                  refine ⟨(show 0 ≤ x3 ∧ x3 < 1001 from by omega), ?_⟩
                  intro x32 r_x32 e_x32
                  have b_x32 : 0 ≤ x32 ∧ x32 ≤ 1 := by rw [e_x32]; exact hT.2 12 _
                  refine ⟨fun c33 => ?_, fun c33 => ?_⟩
                  ·
                    refine h143 _ _ _ _ ?_
                    refine ⟨(⟨by omega, by omega⟩ : rg ((σ.1 4) + 1)), ?_⟩
                    replace hT := mT_v (i := 4) hT (show 0 ≤ ((σ.1 4) + 1) ∧ ((σ.1 4) + 1) ≤ 100 from by omega)
                    refine ⟨(show 0 ≤ x3 ∧ x3 < 1001 from by omega), ?_⟩
                    replace hT := mT_a (k := 12) (j := x3) hT (show (0 : Int) ≤ 1 ∧ 1 ≤ 1 from by omega)
                    refine ⟨_, K_X13_addSymbol hT (show 0 ≤ x3 from by omega) (show x3 < 1000 from by omega) (show -1 ≤ (-1) from by omega) (show (-1) ≤ 1499 from by omega) (show (σ.1 6) < 30000 from by omega) (show σ.2.1 15 (σ.1 22) < 300 from by omega), ?_⟩
                    intro τ41 hn_τ41 hf_τ41 hq
                    obtain ⟨hT, q39_1, q39_2⟩ := hq
                    replace q39_1 : (τ41.1 6) = (σ.1 6) + 1 := q39_1
                    replace q39_2 : τ41.2.1 15 = st (σ.2.1 15) (σ.1 22) (σ.2.1 15 (σ.1 22) + 1) := q39_2
                    have w0_τ41 : τ41.1 0 = σ.1 0 := hf_τ41.1 0 (by decide)
                    have w4_τ41 : τ41.1 4 = ((σ.1 4) + 1) := hf_τ41.1 4 (by decide)
                    have w17_τ41 : τ41.1 17 = σ.1 17 := hf_τ41.1 17 (by decide)
                    have w18_τ41 : τ41.1 18 = σ.1 18 := hf_τ41.1 18 (by decide)
                    have w19_τ41 : τ41.1 19 = σ.1 19 := hf_τ41.1 19 (by decide)
                    have w20_τ41 : τ41.1 20 = σ.1 20 := hf_τ41.1 20 (by decide)
                    have w22_τ41 : τ41.1 22 = σ.1 22 := hf_τ41.1 22 (by decide)
                    have W0 : τ41.1 0 = σ.1 0 := by omega
                    have W17 : τ41.1 17 = σ.1 17 := by omega
                    have W18 : τ41.1 18 = σ.1 18 := by omega
                    have W19 : τ41.1 19 = σ.1 19 := by omega
                    have W22 : τ41.1 22 = σ.1 22 := by omega
                    have A15 : ∀ j, 0 ≤ τ41.2.1 15 j ∧ τ41.2.1 15 j ≤ 300 := fun j => hT.2 15 j
                    have v0 : 0 ≤ τ41.1 0 ∧ τ41.1 0 ≤ 60000 := hT.1 0
                    have v4 : 0 ≤ τ41.1 4 ∧ τ41.1 4 ≤ 100 := hT.1 4
                    have v6 : 0 ≤ τ41.1 6 ∧ τ41.1 6 ≤ 30000 := hT.1 6
                    have v17 : 0 ≤ τ41.1 17 ∧ τ41.1 17 ≤ 60000 := hT.1 17
                    have v18 : 0 ≤ τ41.1 18 ∧ τ41.1 18 ≤ 60000 := hT.1 18
                    have v19 : (-1) ≤ τ41.1 19 ∧ τ41.1 19 ≤ 125 := hT.1 19
                    have v20 : 0 ≤ τ41.1 20 ∧ τ41.1 20 ≤ 19 := hT.1 20
                    have v22 : 0 ≤ τ41.1 22 ∧ τ41.1 22 ≤ 1499 := hT.1 22
                    exact ⟨hT, (show (τ41.1 20) = 0 → τ41.2.1 15 (τ41.1 22) = 1 from by (intro _; first | omega | (rw [q39_2, w22_τ41]; (first | rw [st_s] | skip); omega))), (show ¬ (σ.1 20) = 0 → (τ41.1 20) = (σ.1 20) from by omega)⟩
                  ·
                    refine h143 _ _ _ _ ?_
                    refine ⟨(⟨by omega, by omega⟩ : rg ((σ.1 4) + 0)), ?_⟩
                    replace hT := mT_v (i := 4) hT (show 0 ≤ ((σ.1 4) + 0) ∧ ((σ.1 4) + 0) ≤ 100 from by omega)
                    refine ⟨(show 0 ≤ x3 ∧ x3 < 1001 from by omega), ?_⟩
                    replace hT := mT_a (k := 12) (j := x3) hT (show (0 : Int) ≤ 1 ∧ 1 ≤ 1 from by omega)
                    refine ⟨_, K_X13_addSymbol hT (show 0 ≤ x3 from by omega) (show x3 < 1000 from by omega) (show -1 ≤ (-1) from by omega) (show (-1) ≤ 1499 from by omega) (show (σ.1 6) < 30000 from by omega) (show σ.2.1 15 (σ.1 22) < 300 from by omega), ?_⟩
                    intro τ41 hn_τ41 hf_τ41 hq
                    obtain ⟨hT, q39_1, q39_2⟩ := hq
                    replace q39_1 : (τ41.1 6) = (σ.1 6) + 1 := q39_1
                    replace q39_2 : τ41.2.1 15 = st (σ.2.1 15) (σ.1 22) (σ.2.1 15 (σ.1 22) + 1) := q39_2
                    have w0_τ41 : τ41.1 0 = σ.1 0 := hf_τ41.1 0 (by decide)
                    have w4_τ41 : τ41.1 4 = ((σ.1 4) + 0) := hf_τ41.1 4 (by decide)
                    have w17_τ41 : τ41.1 17 = σ.1 17 := hf_τ41.1 17 (by decide)
                    have w18_τ41 : τ41.1 18 = σ.1 18 := hf_τ41.1 18 (by decide)
                    have w19_τ41 : τ41.1 19 = σ.1 19 := hf_τ41.1 19 (by decide)
                    have w20_τ41 : τ41.1 20 = σ.1 20 := hf_τ41.1 20 (by decide)
                    have w22_τ41 : τ41.1 22 = σ.1 22 := hf_τ41.1 22 (by decide)
                    have W0 : τ41.1 0 = σ.1 0 := by omega
                    have W17 : τ41.1 17 = σ.1 17 := by omega
                    have W18 : τ41.1 18 = σ.1 18 := by omega
                    have W19 : τ41.1 19 = σ.1 19 := by omega
                    have W22 : τ41.1 22 = σ.1 22 := by omega
                    have A15 : ∀ j, 0 ≤ τ41.2.1 15 j ∧ τ41.2.1 15 j ≤ 300 := fun j => hT.2 15 j
                    have v0 : 0 ≤ τ41.1 0 ∧ τ41.1 0 ≤ 60000 := hT.1 0
                    have v4 : 0 ≤ τ41.1 4 ∧ τ41.1 4 ≤ 100 := hT.1 4
                    have v6 : 0 ≤ τ41.1 6 ∧ τ41.1 6 ≤ 30000 := hT.1 6
                    have v17 : 0 ≤ τ41.1 17 ∧ τ41.1 17 ≤ 60000 := hT.1 17
                    have v18 : 0 ≤ τ41.1 18 ∧ τ41.1 18 ≤ 60000 := hT.1 18
                    have v19 : (-1) ≤ τ41.1 19 ∧ τ41.1 19 ≤ 125 := hT.1 19
                    have v20 : 0 ≤ τ41.1 20 ∧ τ41.1 20 ≤ 19 := hT.1 20
                    have v22 : 0 ≤ τ41.1 22 ∧ τ41.1 22 ≤ 1499 := hT.1 22
                    exact ⟨hT, (show (τ41.1 20) = 0 → τ41.2.1 15 (τ41.1 22) = 1 from by (intro _; first | omega | (rw [q39_2, w22_τ41]; (first | rw [st_s] | skip); omega))), (show ¬ (σ.1 20) = 0 → (τ41.1 20) = (σ.1 20) from by omega)⟩
                ·
                  refine ⟨_, K_X13_failHere hT (show 0 ≤ 10 from by omega) (show 10 ≤ 19 from by omega), ?_⟩
                  intro τ36 hn_τ36 hf_τ36 hq
                  obtain ⟨hT, q34_1, q34_2⟩ := hq
                  replace q34_1 : ¬ (σ.1 20) = 0 → (τ36.1 20) = (σ.1 20) := q34_1
                  replace q34_2 : (σ.1 20) = 0 → (τ36.1 20) = 10 := q34_2
                  have w0_τ36 : τ36.1 0 = σ.1 0 := hf_τ36.1 0 (by decide)
                  have w4_τ36 : τ36.1 4 = σ.1 4 := hf_τ36.1 4 (by decide)
                  have w6_τ36 : τ36.1 6 = σ.1 6 := hf_τ36.1 6 (by decide)
                  have w17_τ36 : τ36.1 17 = σ.1 17 := hf_τ36.1 17 (by decide)
                  have w18_τ36 : τ36.1 18 = σ.1 18 := hf_τ36.1 18 (by decide)
                  have w19_τ36 : τ36.1 19 = σ.1 19 := hf_τ36.1 19 (by decide)
                  have w22_τ36 : τ36.1 22 = σ.1 22 := hf_τ36.1 22 (by decide)
                  have g15_τ36 : τ36.2.1 15 = σ.2.1 15 := hf_τ36.2.1 15 (by decide)
                  have W0 : τ36.1 0 = σ.1 0 := by omega
                  have W17 : τ36.1 17 = σ.1 17 := by omega
                  have W18 : τ36.1 18 = σ.1 18 := by omega
                  have W19 : τ36.1 19 = σ.1 19 := by omega
                  have W22 : τ36.1 22 = σ.1 22 := by omega
                  have A15 : ∀ j, 0 ≤ τ36.2.1 15 j ∧ τ36.2.1 15 j ≤ 300 := fun j => hT.2 15 j
                  have v0 : 0 ≤ τ36.1 0 ∧ τ36.1 0 ≤ 60000 := hT.1 0
                  have v4 : 0 ≤ τ36.1 4 ∧ τ36.1 4 ≤ 100 := hT.1 4
                  have v6 : 0 ≤ τ36.1 6 ∧ τ36.1 6 ≤ 30000 := hT.1 6
                  have v17 : 0 ≤ τ36.1 17 ∧ τ36.1 17 ≤ 60000 := hT.1 17
                  have v18 : 0 ≤ τ36.1 18 ∧ τ36.1 18 ≤ 60000 := hT.1 18
                  have v19 : (-1) ≤ τ36.1 19 ∧ τ36.1 19 ≤ 125 := hT.1 19
                  have v20 : 0 ≤ τ36.1 20 ∧ τ36.1 20 ≤ 19 := hT.1 20
                  have v22 : 0 ≤ τ36.1 22 ∧ τ36.1 22 ≤ 1499 := hT.1 22
                  exact ⟨hT, (show (τ36.1 20) = 0 → τ36.2.1 15 (τ36.1 22) = 1 from by (intro _; first | omega | (rw [q39_2, w22_τ41]; (first | rw [st_s] | skip); omega))), (show ¬ (σ.1 20) = 0 → (τ36.1 20) = (σ.1 20) from by omega)⟩
              ·
                intro x25 r_x25 e_x25
                have b_x25 : 0 ≤ x25 ∧ x25 ≤ 1 := by rw [e_x25]; exact hT.2 9 _
                refine ⟨fun c26 => ?_, fun c26 => ?_⟩
                ·
                  refine h111 _ _ _ ?_
                  refine ⟨fun c30 => ?_, fun c30 => ?_⟩
                  ·
                    refine ⟨(show 0 ≤ x3 ∧ x3 < 1001 from by omega), ?_⟩
                    intro x32 r_x32 e_x32
                    have b_x32 : 0 ≤ x32 ∧ x32 ≤ 1 := by rw [e_x32]; exact hT.2 12 _
                    refine ⟨fun c33 => ?_, fun c33 => ?_⟩
                    ·
                      refine h143 _ _ _ _ ?_
                      refine ⟨(⟨by omega, by omega⟩ : rg ((σ.1 4) + 1)), ?_⟩
                      replace hT := mT_v (i := 4) hT (show 0 ≤ ((σ.1 4) + 1) ∧ ((σ.1 4) + 1) ≤ 100 from by omega)
                      refine ⟨(show 0 ≤ x3 ∧ x3 < 1001 from by omega), ?_⟩
                      replace hT := mT_a (k := 12) (j := x3) hT (show (0 : Int) ≤ 1 ∧ 1 ≤ 1 from by omega)
                      refine ⟨_, K_X13_addSymbol hT (show 0 ≤ x3 from by omega) (show x3 < 1000 from by omega) (show -1 ≤ (-1) from by omega) (show (-1) ≤ 1499 from by omega) (show (σ.1 6) < 30000 from by omega) (show σ.2.1 15 (σ.1 22) < 300 from by omega), ?_⟩
                      intro τ41 hn_τ41 hf_τ41 hq
                      obtain ⟨hT, q39_1, q39_2⟩ := hq
                      replace q39_1 : (τ41.1 6) = (σ.1 6) + 1 := q39_1
                      replace q39_2 : τ41.2.1 15 = st (σ.2.1 15) (σ.1 22) (σ.2.1 15 (σ.1 22) + 1) := q39_2
                      have w0_τ41 : τ41.1 0 = σ.1 0 := hf_τ41.1 0 (by decide)
                      have w4_τ41 : τ41.1 4 = ((σ.1 4) + 1) := hf_τ41.1 4 (by decide)
                      have w17_τ41 : τ41.1 17 = σ.1 17 := hf_τ41.1 17 (by decide)
                      have w18_τ41 : τ41.1 18 = σ.1 18 := hf_τ41.1 18 (by decide)
                      have w19_τ41 : τ41.1 19 = σ.1 19 := hf_τ41.1 19 (by decide)
                      have w20_τ41 : τ41.1 20 = σ.1 20 := hf_τ41.1 20 (by decide)
                      have w22_τ41 : τ41.1 22 = σ.1 22 := hf_τ41.1 22 (by decide)
                      have W0 : τ41.1 0 = σ.1 0 := by omega
                      have W17 : τ41.1 17 = σ.1 17 := by omega
                      have W18 : τ41.1 18 = σ.1 18 := by omega
                      have W19 : τ41.1 19 = σ.1 19 := by omega
                      have W22 : τ41.1 22 = σ.1 22 := by omega
                      have A15 : ∀ j, 0 ≤ τ41.2.1 15 j ∧ τ41.2.1 15 j ≤ 300 := fun j => hT.2 15 j
                      have v0 : 0 ≤ τ41.1 0 ∧ τ41.1 0 ≤ 60000 := hT.1 0
                      have v4 : 0 ≤ τ41.1 4 ∧ τ41.1 4 ≤ 100 := hT.1 4
                      have v6 : 0 ≤ τ41.1 6 ∧ τ41.1 6 ≤ 30000 := hT.1 6
                      have v17 : 0 ≤ τ41.1 17 ∧ τ41.1 17 ≤ 60000 := hT.1 17
                      have v18 : 0 ≤ τ41.1 18 ∧ τ41.1 18 ≤ 60000 := hT.1 18
                      have v19 : (-1) ≤ τ41.1 19 ∧ τ41.1 19 ≤ 125 := hT.1 19
                      have v20 : 0 ≤ τ41.1 20 ∧ τ41.1 20 ≤ 19 := hT.1 20
                      have v22 : 0 ≤ τ41.1 22 ∧ τ41.1 22 ≤ 1499 := hT.1 22
                      exact ⟨hT, (show (τ41.1 20) = 0 → τ41.2.1 15 (τ41.1 22) = 1 from by (intro _; first | omega | (rw [q39_2, w22_τ41]; (first | rw [st_s] | skip); omega))), (show ¬ (σ.1 20) = 0 → (τ41.1 20) = (σ.1 20) from by omega)⟩
                    ·
                      refine h143 _ _ _ _ ?_
                      refine ⟨(⟨by omega, by omega⟩ : rg ((σ.1 4) + 0)), ?_⟩
                      replace hT := mT_v (i := 4) hT (show 0 ≤ ((σ.1 4) + 0) ∧ ((σ.1 4) + 0) ≤ 100 from by omega)
                      refine ⟨(show 0 ≤ x3 ∧ x3 < 1001 from by omega), ?_⟩
                      replace hT := mT_a (k := 12) (j := x3) hT (show (0 : Int) ≤ 1 ∧ 1 ≤ 1 from by omega)
                      refine ⟨_, K_X13_addSymbol hT (show 0 ≤ x3 from by omega) (show x3 < 1000 from by omega) (show -1 ≤ (-1) from by omega) (show (-1) ≤ 1499 from by omega) (show (σ.1 6) < 30000 from by omega) (show σ.2.1 15 (σ.1 22) < 300 from by omega), ?_⟩
                      intro τ41 hn_τ41 hf_τ41 hq
                      obtain ⟨hT, q39_1, q39_2⟩ := hq
                      replace q39_1 : (τ41.1 6) = (σ.1 6) + 1 := q39_1
                      replace q39_2 : τ41.2.1 15 = st (σ.2.1 15) (σ.1 22) (σ.2.1 15 (σ.1 22) + 1) := q39_2
                      have w0_τ41 : τ41.1 0 = σ.1 0 := hf_τ41.1 0 (by decide)
                      have w4_τ41 : τ41.1 4 = ((σ.1 4) + 0) := hf_τ41.1 4 (by decide)
                      have w17_τ41 : τ41.1 17 = σ.1 17 := hf_τ41.1 17 (by decide)
                      have w18_τ41 : τ41.1 18 = σ.1 18 := hf_τ41.1 18 (by decide)
                      have w19_τ41 : τ41.1 19 = σ.1 19 := hf_τ41.1 19 (by decide)
                      have w20_τ41 : τ41.1 20 = σ.1 20 := hf_τ41.1 20 (by decide)
                      have w22_τ41 : τ41.1 22 = σ.1 22 := hf_τ41.1 22 (by decide)
                      have W0 : τ41.1 0 = σ.1 0 := by omega
                      have W17 : τ41.1 17 = σ.1 17 := by omega
                      have W18 : τ41.1 18 = σ.1 18 := by omega
                      have W19 : τ41.1 19 = σ.1 19 := by omega
                      have W22 : τ41.1 22 = σ.1 22 := by omega
                      have A15 : ∀ j, 0 ≤ τ41.2.1 15 j ∧ τ41.2.1 15 j ≤ 300 := fun j => hT.2 15 j
                      have v0 : 0 ≤ τ41.1 0 ∧ τ41.1 0 ≤ 60000 := hT.1 0
                      have v4 : 0 ≤ τ41.1 4 ∧ τ41.1 4 ≤ 100 := hT.1 4
                      have v6 : 0 ≤ τ41.1 6 ∧ τ41.1 6 ≤ 30000 := hT.1 6
                      have v17 : 0 ≤ τ41.1 17 ∧ τ41.1 17 ≤ 60000 := hT.1 17
                      have v18 : 0 ≤ τ41.1 18 ∧ τ41.1 18 ≤ 60000 := hT.1 18
                      have v19 : (-1) ≤ τ41.1 19 ∧ τ41.1 19 ≤ 125 := hT.1 19
                      have v20 : 0 ≤ τ41.1 20 ∧ τ41.1 20 ≤ 19 := hT.1 20
                      have v22 : 0 ≤ τ41.1 22 ∧ τ41.1 22 ≤ 1499 := hT.1 22
                      exact ⟨hT, (show (τ41.1 20) = 0 → τ41.2.1 15 (τ41.1 22) = 1 from by (intro _; first | omega | (rw [q39_2, w22_τ41]; (first | rw [st_s] | skip); omega))), (show ¬ (σ.1 20) = 0 → (τ41.1 20) = (σ.1 20) from by omega)⟩
                  ·
                    refine ⟨_, K_X13_failHere hT (show 0 ≤ 10 from by omega) (show 10 ≤ 19 from by omega), ?_⟩
                    intro τ36 hn_τ36 hf_τ36 hq
                    obtain ⟨hT, q34_1, q34_2⟩ := hq
                    replace q34_1 : ¬ (σ.1 20) = 0 → (τ36.1 20) = (σ.1 20) := q34_1
                    replace q34_2 : (σ.1 20) = 0 → (τ36.1 20) = 10 := q34_2
                    have w0_τ36 : τ36.1 0 = σ.1 0 := hf_τ36.1 0 (by decide)
                    have w4_τ36 : τ36.1 4 = σ.1 4 := hf_τ36.1 4 (by decide)
                    have w6_τ36 : τ36.1 6 = σ.1 6 := hf_τ36.1 6 (by decide)
                    have w17_τ36 : τ36.1 17 = σ.1 17 := hf_τ36.1 17 (by decide)
                    have w18_τ36 : τ36.1 18 = σ.1 18 := hf_τ36.1 18 (by decide)
                    have w19_τ36 : τ36.1 19 = σ.1 19 := hf_τ36.1 19 (by decide)
                    have w22_τ36 : τ36.1 22 = σ.1 22 := hf_τ36.1 22 (by decide)
                    have g15_τ36 : τ36.2.1 15 = σ.2.1 15 := hf_τ36.2.1 15 (by decide)
                    have W0 : τ36.1 0 = σ.1 0 := by omega
                    have W17 : τ36.1 17 = σ.1 17 := by omega
                    have W18 : τ36.1 18 = σ.1 18 := by omega
                    have W19 : τ36.1 19 = σ.1 19 := by omega
                    have W22 : τ36.1 22 = σ.1 22 := by omega
                    have A15 : ∀ j, 0 ≤ τ36.2.1 15 j ∧ τ36.2.1 15 j ≤ 300 := fun j => hT.2 15 j
                    have v0 : 0 ≤ τ36.1 0 ∧ τ36.1 0 ≤ 60000 := hT.1 0
                    have v4 : 0 ≤ τ36.1 4 ∧ τ36.1 4 ≤ 100 := hT.1 4
                    have v6 : 0 ≤ τ36.1 6 ∧ τ36.1 6 ≤ 30000 := hT.1 6
                    have v17 : 0 ≤ τ36.1 17 ∧ τ36.1 17 ≤ 60000 := hT.1 17
                    have v18 : 0 ≤ τ36.1 18 ∧ τ36.1 18 ≤ 60000 := hT.1 18
                    have v19 : (-1) ≤ τ36.1 19 ∧ τ36.1 19 ≤ 125 := hT.1 19
                    have v20 : 0 ≤ τ36.1 20 ∧ τ36.1 20 ≤ 19 := hT.1 20
                    have v22 : 0 ≤ τ36.1 22 ∧ τ36.1 22 ≤ 1499 := hT.1 22
                    exact ⟨hT, (show (τ36.1 20) = 0 → τ36.2.1 15 (τ36.1 22) = 1 from by (intro _; first | omega | (rw [q39_2, w22_τ41]; (first | rw [st_s] | skip); omega))), (show ¬ (σ.1 20) = 0 → (τ36.1 20) = (σ.1 20) from by omega)⟩
                ·
                  refine h102 _ ?_
                  refine ⟨_, K_X13_failHere hT (show 0 ≤ 9 from by omega) (show 9 ≤ 19 from by omega), ?_⟩
                  intro τ29 hn_τ29 hf_τ29 hq
                  obtain ⟨hT, q27_1, q27_2⟩ := hq
                  replace q27_1 : ¬ (σ.1 20) = 0 → (τ29.1 20) = (σ.1 20) := q27_1
                  replace q27_2 : (σ.1 20) = 0 → (τ29.1 20) = 9 := q27_2
                  have w0_τ29 : τ29.1 0 = σ.1 0 := hf_τ29.1 0 (by decide)
                  have w4_τ29 : τ29.1 4 = σ.1 4 := hf_τ29.1 4 (by decide)
                  have w6_τ29 : τ29.1 6 = σ.1 6 := hf_τ29.1 6 (by decide)
                  have w17_τ29 : τ29.1 17 = σ.1 17 := hf_τ29.1 17 (by decide)
                  have w18_τ29 : τ29.1 18 = σ.1 18 := hf_τ29.1 18 (by decide)
                  have w19_τ29 : τ29.1 19 = σ.1 19 := hf_τ29.1 19 (by decide)
                  have w22_τ29 : τ29.1 22 = σ.1 22 := hf_τ29.1 22 (by decide)
                  have g15_τ29 : τ29.2.1 15 = σ.2.1 15 := hf_τ29.2.1 15 (by decide)
                  have W0 : τ29.1 0 = σ.1 0 := by omega
                  have W17 : τ29.1 17 = σ.1 17 := by omega
                  have W18 : τ29.1 18 = σ.1 18 := by omega
                  have W19 : τ29.1 19 = σ.1 19 := by omega
                  have W22 : τ29.1 22 = σ.1 22 := by omega
                  have A15 : ∀ j, 0 ≤ τ29.2.1 15 j ∧ τ29.2.1 15 j ≤ 300 := fun j => hT.2 15 j
                  have v0 : 0 ≤ τ29.1 0 ∧ τ29.1 0 ≤ 60000 := hT.1 0
                  have v4 : 0 ≤ τ29.1 4 ∧ τ29.1 4 ≤ 100 := hT.1 4
                  have v6 : 0 ≤ τ29.1 6 ∧ τ29.1 6 ≤ 30000 := hT.1 6
                  have v17 : 0 ≤ τ29.1 17 ∧ τ29.1 17 ≤ 60000 := hT.1 17
                  have v18 : 0 ≤ τ29.1 18 ∧ τ29.1 18 ≤ 60000 := hT.1 18
                  have v19 : (-1) ≤ τ29.1 19 ∧ τ29.1 19 ≤ 125 := hT.1 19
                  have v20 : 0 ≤ τ29.1 20 ∧ τ29.1 20 ≤ 19 := hT.1 20
                  have v22 : 0 ≤ τ29.1 22 ∧ τ29.1 22 ≤ 1499 := hT.1 22
                  exact ⟨hT, (show (τ29.1 20) = 0 → τ29.2.1 15 (τ29.1 22) = 1 from by (intro _; first | omega | (rw [q39_2, w22_τ41]; (first | rw [st_s] | skip); omega))), (show ¬ (σ.1 20) = 0 → (τ29.1 20) = (σ.1 20) from by omega)⟩
          ·
            refine ⟨(show 0 ≤ x3 ∧ x3 < 1001 from by omega), ?_⟩
            intro x15 r_x15 e_x15
            have b_x15 : 0 ≤ x15 ∧ x15 ≤ 1 := by rw [e_x15]; exact hT.2 12 _
            refine ⟨fun c16 => ?_, fun c16 => ?_⟩
            ·
              refine h79 _ _ _ ?_
              refine ⟨fun c21 => ?_, fun c21 => ?_⟩
              ·
                refine h102 _ ?_
                refine ⟨_, K_X13_failHere hT (show 0 ≤ 9 from by omega) (show 9 ≤ 19 from by omega), ?_⟩
                intro τ29 hn_τ29 hf_τ29 hq
                obtain ⟨hT, q27_1, q27_2⟩ := hq
                replace q27_1 : ¬ (σ.1 20) = 0 → (τ29.1 20) = (σ.1 20) := q27_1
                replace q27_2 : (σ.1 20) = 0 → (τ29.1 20) = 9 := q27_2
                have w0_τ29 : τ29.1 0 = σ.1 0 := hf_τ29.1 0 (by decide)
                have w4_τ29 : τ29.1 4 = σ.1 4 := hf_τ29.1 4 (by decide)
                have w6_τ29 : τ29.1 6 = σ.1 6 := hf_τ29.1 6 (by decide)
                have w17_τ29 : τ29.1 17 = σ.1 17 := hf_τ29.1 17 (by decide)
                have w18_τ29 : τ29.1 18 = σ.1 18 := hf_τ29.1 18 (by decide)
                have w19_τ29 : τ29.1 19 = σ.1 19 := hf_τ29.1 19 (by decide)
                have w22_τ29 : τ29.1 22 = σ.1 22 := hf_τ29.1 22 (by decide)
                have g15_τ29 : τ29.2.1 15 = σ.2.1 15 := hf_τ29.2.1 15 (by decide)
                have W0 : τ29.1 0 = σ.1 0 := by omega
                have W17 : τ29.1 17 = σ.1 17 := by omega
                have W18 : τ29.1 18 = σ.1 18 := by omega
                have W19 : τ29.1 19 = σ.1 19 := by omega
                have W22 : τ29.1 22 = σ.1 22 := by omega
                have A15 : ∀ j, 0 ≤ τ29.2.1 15 j ∧ τ29.2.1 15 j ≤ 300 := fun j => hT.2 15 j
                have v0 : 0 ≤ τ29.1 0 ∧ τ29.1 0 ≤ 60000 := hT.1 0
                have v4 : 0 ≤ τ29.1 4 ∧ τ29.1 4 ≤ 100 := hT.1 4
                have v6 : 0 ≤ τ29.1 6 ∧ τ29.1 6 ≤ 30000 := hT.1 6
                have v17 : 0 ≤ τ29.1 17 ∧ τ29.1 17 ≤ 60000 := hT.1 17
                have v18 : 0 ≤ τ29.1 18 ∧ τ29.1 18 ≤ 60000 := hT.1 18
                have v19 : (-1) ≤ τ29.1 19 ∧ τ29.1 19 ≤ 125 := hT.1 19
                have v20 : 0 ≤ τ29.1 20 ∧ τ29.1 20 ≤ 19 := hT.1 20
                have v22 : 0 ≤ τ29.1 22 ∧ τ29.1 22 ≤ 1499 := hT.1 22
                exact ⟨hT, (show (τ29.1 20) = 0 → τ29.2.1 15 (τ29.1 22) = 1 from by (intro _; first | omega | (rw [q39_2, w22_τ41]; (first | rw [st_s] | skip); omega))), (show ¬ (σ.1 20) = 0 → (τ29.1 20) = (σ.1 20) from by omega)⟩
              ·
                refine ⟨(show 0 ≤ x3 ∧ x3 < 1001 from by omega), ?_⟩
                intro x23 r_x23 e_x23
                have b_x23 : 0 ≤ x23 ∧ x23 ≤ 1 := by rw [e_x23]; exact hT.2 8 _
                refine ⟨fun c24 => ?_, fun c24 => ?_⟩
                ·
                  refine h111 _ _ _ ?_
                  refine ⟨fun c30 => ?_, fun c30 => ?_⟩
                  ·
                    refine ⟨(show 0 ≤ x3 ∧ x3 < 1001 from by omega), ?_⟩
                    intro x32 r_x32 e_x32
                    have b_x32 : 0 ≤ x32 ∧ x32 ≤ 1 := by rw [e_x32]; exact hT.2 12 _
                    refine ⟨fun c33 => ?_, fun c33 => ?_⟩
                    ·
                      refine h143 _ _ _ _ ?_
                      refine ⟨(⟨by omega, by omega⟩ : rg ((σ.1 4) + 1)), ?_⟩
                      replace hT := mT_v (i := 4) hT (show 0 ≤ ((σ.1 4) + 1) ∧ ((σ.1 4) + 1) ≤ 100 from by omega)
                      refine ⟨(show 0 ≤ x3 ∧ x3 < 1001 from by omega), ?_⟩
                      replace hT := mT_a (k := 12) (j := x3) hT (show (0 : Int) ≤ 1 ∧ 1 ≤ 1 from by omega)
                      refine ⟨_, K_X13_addSymbol hT (show 0 ≤ x3 from by omega) (show x3 < 1000 from by omega) (show -1 ≤ (-1) from by omega) (show (-1) ≤ 1499 from by omega) (show (σ.1 6) < 30000 from by omega) (show σ.2.1 15 (σ.1 22) < 300 from by omega), ?_⟩
                      intro τ41 hn_τ41 hf_τ41 hq
                      obtain ⟨hT, q39_1, q39_2⟩ := hq
                      replace q39_1 : (τ41.1 6) = (σ.1 6) + 1 := q39_1
                      replace q39_2 : τ41.2.1 15 = st (σ.2.1 15) (σ.1 22) (σ.2.1 15 (σ.1 22) + 1) := q39_2
                      have w0_τ41 : τ41.1 0 = σ.1 0 := hf_τ41.1 0 (by decide)
                      have w4_τ41 : τ41.1 4 = ((σ.1 4) + 1) := hf_τ41.1 4 (by decide)
                      have w17_τ41 : τ41.1 17 = σ.1 17 := hf_τ41.1 17 (by decide)
                      have w18_τ41 : τ41.1 18 = σ.1 18 := hf_τ41.1 18 (by decide)
                      have w19_τ41 : τ41.1 19 = σ.1 19 := hf_τ41.1 19 (by decide)
                      have w20_τ41 : τ41.1 20 = σ.1 20 := hf_τ41.1 20 (by decide)
                      have w22_τ41 : τ41.1 22 = σ.1 22 := hf_τ41.1 22 (by decide)
                      have W0 : τ41.1 0 = σ.1 0 := by omega
                      have W17 : τ41.1 17 = σ.1 17 := by omega
                      have W18 : τ41.1 18 = σ.1 18 := by omega
                      have W19 : τ41.1 19 = σ.1 19 := by omega
                      have W22 : τ41.1 22 = σ.1 22 := by omega
                      have A15 : ∀ j, 0 ≤ τ41.2.1 15 j ∧ τ41.2.1 15 j ≤ 300 := fun j => hT.2 15 j
                      have v0 : 0 ≤ τ41.1 0 ∧ τ41.1 0 ≤ 60000 := hT.1 0
                      have v4 : 0 ≤ τ41.1 4 ∧ τ41.1 4 ≤ 100 := hT.1 4
                      have v6 : 0 ≤ τ41.1 6 ∧ τ41.1 6 ≤ 30000 := hT.1 6
                      have v17 : 0 ≤ τ41.1 17 ∧ τ41.1 17 ≤ 60000 := hT.1 17
                      have v18 : 0 ≤ τ41.1 18 ∧ τ41.1 18 ≤ 60000 := hT.1 18
                      have v19 : (-1) ≤ τ41.1 19 ∧ τ41.1 19 ≤ 125 := hT.1 19
                      have v20 : 0 ≤ τ41.1 20 ∧ τ41.1 20 ≤ 19 := hT.1 20
                      have v22 : 0 ≤ τ41.1 22 ∧ τ41.1 22 ≤ 1499 := hT.1 22
                      exact ⟨hT, (show (τ41.1 20) = 0 → τ41.2.1 15 (τ41.1 22) = 1 from by (intro _; first | omega | (rw [q39_2, w22_τ41]; (first | rw [st_s] | skip); omega))), (show ¬ (σ.1 20) = 0 → (τ41.1 20) = (σ.1 20) from by omega)⟩
                    ·
                      refine h143 _ _ _ _ ?_
                      refine ⟨(⟨by omega, by omega⟩ : rg ((σ.1 4) + 0)), ?_⟩
                      replace hT := mT_v (i := 4) hT (show 0 ≤ ((σ.1 4) + 0) ∧ ((σ.1 4) + 0) ≤ 100 from by omega)
                      refine ⟨(show 0 ≤ x3 ∧ x3 < 1001 from by omega), ?_⟩
                      replace hT := mT_a (k := 12) (j := x3) hT (show (0 : Int) ≤ 1 ∧ 1 ≤ 1 from by omega)
                      refine ⟨_, K_X13_addSymbol hT (show 0 ≤ x3 from by omega) (show x3 < 1000 from by omega) (show -1 ≤ (-1) from by omega) (show (-1) ≤ 1499 from by omega) (show (σ.1 6) < 30000 from by omega) (show σ.2.1 15 (σ.1 22) < 300 from by omega), ?_⟩
                      intro τ41 hn_τ41 hf_τ41 hq
                      obtain ⟨hT, q39_1, q39_2⟩ := hq
                      replace q39_1 : (τ41.1 6) = (σ.1 6) + 1 := q39_1
                      replace q39_2 : τ41.2.1 15 = st (σ.2.1 15) (σ.1 22) (σ.2.1 15 (σ.1 22) + 1) := q39_2
                      have w0_τ41 : τ41.1 0 = σ.1 0 := hf_τ41.1 0 (by decide)
                      have w4_τ41 : τ41.1 4 = ((σ.1 4) + 0) := hf_τ41.1 4 (by decide)
                      have w17_τ41 : τ41.1 17 = σ.1 17 := hf_τ41.1 17 (by decide)
                      have w18_τ41 : τ41.1 18 = σ.1 18 := hf_τ41.1 18 (by decide)
                      have w19_τ41 : τ41.1 19 = σ.1 19 := hf_τ41.1 19 (by decide)
                      have w20_τ41 : τ41.1 20 = σ.1 20 := hf_τ41.1 20 (by decide)
                      have w22_τ41 : τ41.1 22 = σ.1 22 := hf_τ41.1 22 (by decide)
                      have W0 : τ41.1 0 = σ.1 0 := by omega
                      have W17 : τ41.1 17 = σ.1 17 := by omega
                      have W18 : τ41.1 18 = σ.1 18 := by omega
                      have W19 : τ41.1 19 = σ.1 19 := by omega
                      have W22 : τ41.1 22 = σ.1 22 := by omega
                      have A15 : ∀ j, 0 ≤ τ41.2.1 15 j ∧ τ41.2.1 15 j ≤ 300 := fun j => hT.2 15 j
                      have v0 : 0 ≤ τ41.1 0 ∧ τ41.1 0 ≤ 60000 := hT.1 0
                      have v4 : 0 ≤ τ41.1 4 ∧ τ41.1 4 ≤ 100 := hT.1 4
                      have v6 : 0 ≤ τ41.1 6 ∧ τ41.1 6 ≤ 30000 := hT.1 6
                      have v17 : 0 ≤ τ41.1 17 ∧ τ41.1 17 ≤ 60000 := hT.1 17
                      have v18 : 0 ≤ τ41.1 18 ∧ τ41.1 18 ≤ 60000 := hT.1 18
                      have v19 : (-1) ≤ τ41.1 19 ∧ τ41.1 19 ≤ 125 := hT.1 19
                      have v20 : 0 ≤ τ41.1 20 ∧ τ41.1 20 ≤ 19 := hT.1 20
                      have v22 : 0 ≤ τ41.1 22 ∧ τ41.1 22 ≤ 1499 := hT.1 22
                      exact ⟨hT, (show (τ41.1 20) = 0 → τ41.2.1 15 (τ41.1 22) = 1 from by (intro _; first | omega | (rw [q39_2, w22_τ41]; (first | rw [st_s] | skip); omega))), (show ¬ (σ.1 20) = 0 → (τ41.1 20) = (σ.1 20) from by omega)⟩
                  ·
                    refine ⟨_, K_X13_failHere hT (show 0 ≤ 10 from by omega) (show 10 ≤ 19 from by omega), ?_⟩
                    intro τ36 hn_τ36 hf_τ36 hq
                    obtain ⟨hT, q34_1, q34_2⟩ := hq
                    replace q34_1 : ¬ (σ.1 20) = 0 → (τ36.1 20) = (σ.1 20) := q34_1
                    replace q34_2 : (σ.1 20) = 0 → (τ36.1 20) = 10 := q34_2
                    have w0_τ36 : τ36.1 0 = σ.1 0 := hf_τ36.1 0 (by decide)
                    have w4_τ36 : τ36.1 4 = σ.1 4 := hf_τ36.1 4 (by decide)
                    have w6_τ36 : τ36.1 6 = σ.1 6 := hf_τ36.1 6 (by decide)
                    have w17_τ36 : τ36.1 17 = σ.1 17 := hf_τ36.1 17 (by decide)
                    have w18_τ36 : τ36.1 18 = σ.1 18 := hf_τ36.1 18 (by decide)
                    have w19_τ36 : τ36.1 19 = σ.1 19 := hf_τ36.1 19 (by decide)
                    have w22_τ36 : τ36.1 22 = σ.1 22 := hf_τ36.1 22 (by decide)
                    have g15_τ36 : τ36.2.1 15 = σ.2.1 15 := hf_τ36.2.1 15 (by decide)
                    have W0 : τ36.1 0 = σ.1 0 := by omega
                    have W17 : τ36.1 17 = σ.1 17 := by omega
                    have W18 : τ36.1 18 = σ.1 18 := by omega
                    have W19 : τ36.1 19 = σ.1 19 := by omega
                    have W22 : τ36.1 22 = σ.1 22 := by omega
                    have A15 : ∀ j, 0 ≤ τ36.2.1 15 j ∧ τ36.2.1 15 j ≤ 300 := fun j => hT.2 15 j
                    have v0 : 0 ≤ τ36.1 0 ∧ τ36.1 0 ≤ 60000 := hT.1 0
                    have v4 : 0 ≤ τ36.1 4 ∧ τ36.1 4 ≤ 100 := hT.1 4
                    have v6 : 0 ≤ τ36.1 6 ∧ τ36.1 6 ≤ 30000 := hT.1 6
                    have v17 : 0 ≤ τ36.1 17 ∧ τ36.1 17 ≤ 60000 := hT.1 17
                    have v18 : 0 ≤ τ36.1 18 ∧ τ36.1 18 ≤ 60000 := hT.1 18
                    have v19 : (-1) ≤ τ36.1 19 ∧ τ36.1 19 ≤ 125 := hT.1 19
                    have v20 : 0 ≤ τ36.1 20 ∧ τ36.1 20 ≤ 19 := hT.1 20
                    have v22 : 0 ≤ τ36.1 22 ∧ τ36.1 22 ≤ 1499 := hT.1 22
                    exact ⟨hT, (show (τ36.1 20) = 0 → τ36.2.1 15 (τ36.1 22) = 1 from by (intro _; first | omega | (rw [q39_2, w22_τ41]; (first | rw [st_s] | skip); omega))), (show ¬ (σ.1 20) = 0 → (τ36.1 20) = (σ.1 20) from by omega)⟩
                ·
                  intro x25 r_x25 e_x25
                  have b_x25 : 0 ≤ x25 ∧ x25 ≤ 1 := by rw [e_x25]; exact hT.2 9 _
                  refine ⟨fun c26 => ?_, fun c26 => ?_⟩
                  ·
                    refine h111 _ _ _ ?_
                    refine ⟨fun c30 => ?_, fun c30 => ?_⟩
                    ·
                      refine ⟨(show 0 ≤ x3 ∧ x3 < 1001 from by omega), ?_⟩
                      intro x32 r_x32 e_x32
                      have b_x32 : 0 ≤ x32 ∧ x32 ≤ 1 := by rw [e_x32]; exact hT.2 12 _
                      refine ⟨fun c33 => ?_, fun c33 => ?_⟩
                      ·
                        refine h143 _ _ _ _ ?_
                        refine ⟨(⟨by omega, by omega⟩ : rg ((σ.1 4) + 1)), ?_⟩
                        replace hT := mT_v (i := 4) hT (show 0 ≤ ((σ.1 4) + 1) ∧ ((σ.1 4) + 1) ≤ 100 from by omega)
                        refine ⟨(show 0 ≤ x3 ∧ x3 < 1001 from by omega), ?_⟩
                        replace hT := mT_a (k := 12) (j := x3) hT (show (0 : Int) ≤ 1 ∧ 1 ≤ 1 from by omega)
                        refine ⟨_, K_X13_addSymbol hT (show 0 ≤ x3 from by omega) (show x3 < 1000 from by omega) (show -1 ≤ (-1) from by omega) (show (-1) ≤ 1499 from by omega) (show (σ.1 6) < 30000 from by omega) (show σ.2.1 15 (σ.1 22) < 300 from by omega), ?_⟩
                        intro τ41 hn_τ41 hf_τ41 hq
                        obtain ⟨hT, q39_1, q39_2⟩ := hq
                        replace q39_1 : (τ41.1 6) = (σ.1 6) + 1 := q39_1
                        replace q39_2 : τ41.2.1 15 = st (σ.2.1 15) (σ.1 22) (σ.2.1 15 (σ.1 22) + 1) := q39_2
                        have w0_τ41 : τ41.1 0 = σ.1 0 := hf_τ41.1 0 (by decide)
                        have w4_τ41 : τ41.1 4 = ((σ.1 4) + 1) := hf_τ41.1 4 (by decide)
                        have w17_τ41 : τ41.1 17 = σ.1 17 := hf_τ41.1 17 (by decide)
                        have w18_τ41 : τ41.1 18 = σ.1 18 := hf_τ41.1 18 (by decide)
                        have w19_τ41 : τ41.1 19 = σ.1 19 := hf_τ41.1 19 (by decide)
                        have w20_τ41 : τ41.1 20 = σ.1 20 := hf_τ41.1 20 (by decide)
                        have w22_τ41 : τ41.1 22 = σ.1 22 := hf_τ41.1 22 (by decide)
                        have W0 : τ41.1 0 = σ.1 0 := by omega
                        have W17 : τ41.1 17 = σ.1 17 := by omega
                        have W18 : τ41.1 18 = σ.1 18 := by omega
                        have W19 : τ41.1 19 = σ.1 19 := by omega
                        have W22 : τ41.1 22 = σ.1 22 := by omega
                        have A15 : ∀ j, 0 ≤ τ41.2.1 15 j ∧ τ41.2.1 15 j ≤ 300 := fun j => hT.2 15 j
                        have v0 : 0 ≤ τ41.1 0 ∧ τ41.1 0 ≤ 60000 := hT.1 0
                        have v4 : 0 ≤ τ41.1 4 ∧ τ41.1 4 ≤ 100 := hT.1 4
                        have v6 : 0 ≤ τ41.1 6 ∧ τ41.1 6 ≤ 30000 := hT.1 6
                        have v17 : 0 ≤ τ41.1 17 ∧ τ41.1 17 ≤ 60000 := hT.1 17
                        have v18 : 0 ≤ τ41.1 18 ∧ τ41.1 18 ≤ 60000 := hT.1 18
                        have v19 : (-1) ≤ τ41.1 19 ∧ τ41.1 19 ≤ 125 := hT.1 19
                        have v20 : 0 ≤ τ41.1 20 ∧ τ41.1 20 ≤ 19 := hT.1 20
                        have v22 : 0 ≤ τ41.1 22 ∧ τ41.1 22 ≤ 1499 := hT.1 22
                        exact ⟨hT, (show (τ41.1 20) = 0 → τ41.2.1 15 (τ41.1 22) = 1 from by (intro _; first | omega | (rw [q39_2, w22_τ41]; (first | rw [st_s] | skip); omega))), (show ¬ (σ.1 20) = 0 → (τ41.1 20) = (σ.1 20) from by omega)⟩
                      ·
                        refine h143 _ _ _ _ ?_
                        refine ⟨(⟨by omega, by omega⟩ : rg ((σ.1 4) + 0)), ?_⟩
                        replace hT := mT_v (i := 4) hT (show 0 ≤ ((σ.1 4) + 0) ∧ ((σ.1 4) + 0) ≤ 100 from by omega)
                        refine ⟨(show 0 ≤ x3 ∧ x3 < 1001 from by omega), ?_⟩
                        replace hT := mT_a (k := 12) (j := x3) hT (show (0 : Int) ≤ 1 ∧ 1 ≤ 1 from by omega)
                        refine ⟨_, K_X13_addSymbol hT (show 0 ≤ x3 from by omega) (show x3 < 1000 from by omega) (show -1 ≤ (-1) from by omega) (show (-1) ≤ 1499 from by omega) (show (σ.1 6) < 30000 from by omega) (show σ.2.1 15 (σ.1 22) < 300 from by omega), ?_⟩
                        intro τ41 hn_τ41 hf_τ41 hq
                        obtain ⟨hT, q39_1, q39_2⟩ := hq
                        replace q39_1 : (τ41.1 6) = (σ.1 6) + 1 := q39_1
                        replace q39_2 : τ41.2.1 15 = st (σ.2.1 15) (σ.1 22) (σ.2.1 15 (σ.1 22) + 1) := q39_2
                        have w0_τ41 : τ41.1 0 = σ.1 0 := hf_τ41.1 0 (by decide)
                        have w4_τ41 : τ41.1 4 = ((σ.1 4) + 0) := hf_τ41.1 4 (by decide)
                        have w17_τ41 : τ41.1 17 = σ.1 17 := hf_τ41.1 17 (by decide)
                        have w18_τ41 : τ41.1 18 = σ.1 18 := hf_τ41.1 18 (by decide)
                        have w19_τ41 : τ41.1 19 = σ.1 19 := hf_τ41.1 19 (by decide)
                        have w20_τ41 : τ41.1 20 = σ.1 20 := hf_τ41.1 20 (by decide)
                        have w22_τ41 : τ41.1 22 = σ.1 22 := hf_τ41.1 22 (by decide)
                        have W0 : τ41.1 0 = σ.1 0 := by omega
                        have W17 : τ41.1 17 = σ.1 17 := by omega
                        have W18 : τ41.1 18 = σ.1 18 := by omega
                        have W19 : τ41.1 19 = σ.1 19 := by omega
                        have W22 : τ41.1 22 = σ.1 22 := by omega
                        have A15 : ∀ j, 0 ≤ τ41.2.1 15 j ∧ τ41.2.1 15 j ≤ 300 := fun j => hT.2 15 j
                        have v0 : 0 ≤ τ41.1 0 ∧ τ41.1 0 ≤ 60000 := hT.1 0
                        have v4 : 0 ≤ τ41.1 4 ∧ τ41.1 4 ≤ 100 := hT.1 4
                        have v6 : 0 ≤ τ41.1 6 ∧ τ41.1 6 ≤ 30000 := hT.1 6
                        have v17 : 0 ≤ τ41.1 17 ∧ τ41.1 17 ≤ 60000 := hT.1 17
                        have v18 : 0 ≤ τ41.1 18 ∧ τ41.1 18 ≤ 60000 := hT.1 18
                        have v19 : (-1) ≤ τ41.1 19 ∧ τ41.1 19 ≤ 125 := hT.1 19
                        have v20 : 0 ≤ τ41.1 20 ∧ τ41.1 20 ≤ 19 := hT.1 20
                        have v22 : 0 ≤ τ41.1 22 ∧ τ41.1 22 ≤ 1499 := hT.1 22
                        exact ⟨hT, (show (τ41.1 20) = 0 → τ41.2.1 15 (τ41.1 22) = 1 from by (intro _; first | omega | (rw [q39_2, w22_τ41]; (first | rw [st_s] | skip); omega))), (show ¬ (σ.1 20) = 0 → (τ41.1 20) = (σ.1 20) from by omega)⟩
                    ·
                      refine ⟨_, K_X13_failHere hT (show 0 ≤ 10 from by omega) (show 10 ≤ 19 from by omega), ?_⟩
                      intro τ36 hn_τ36 hf_τ36 hq
                      obtain ⟨hT, q34_1, q34_2⟩ := hq
                      replace q34_1 : ¬ (σ.1 20) = 0 → (τ36.1 20) = (σ.1 20) := q34_1
                      replace q34_2 : (σ.1 20) = 0 → (τ36.1 20) = 10 := q34_2
                      have w0_τ36 : τ36.1 0 = σ.1 0 := hf_τ36.1 0 (by decide)
                      have w4_τ36 : τ36.1 4 = σ.1 4 := hf_τ36.1 4 (by decide)
                      have w6_τ36 : τ36.1 6 = σ.1 6 := hf_τ36.1 6 (by decide)
                      have w17_τ36 : τ36.1 17 = σ.1 17 := hf_τ36.1 17 (by decide)
                      have w18_τ36 : τ36.1 18 = σ.1 18 := hf_τ36.1 18 (by decide)
                      have w19_τ36 : τ36.1 19 = σ.1 19 := hf_τ36.1 19 (by decide)
                      have w22_τ36 : τ36.1 22 = σ.1 22 := hf_τ36.1 22 (by decide)
                      have g15_τ36 : τ36.2.1 15 = σ.2.1 15 := hf_τ36.2.1 15 (by decide)
                      have W0 : τ36.1 0 = σ.1 0 := by omega
                      have W17 : τ36.1 17 = σ.1 17 := by omega
                      have W18 : τ36.1 18 = σ.1 18 := by omega
                      have W19 : τ36.1 19 = σ.1 19 := by omega
                      have W22 : τ36.1 22 = σ.1 22 := by omega
                      have A15 : ∀ j, 0 ≤ τ36.2.1 15 j ∧ τ36.2.1 15 j ≤ 300 := fun j => hT.2 15 j
                      have v0 : 0 ≤ τ36.1 0 ∧ τ36.1 0 ≤ 60000 := hT.1 0
                      have v4 : 0 ≤ τ36.1 4 ∧ τ36.1 4 ≤ 100 := hT.1 4
                      have v6 : 0 ≤ τ36.1 6 ∧ τ36.1 6 ≤ 30000 := hT.1 6
                      have v17 : 0 ≤ τ36.1 17 ∧ τ36.1 17 ≤ 60000 := hT.1 17
                      have v18 : 0 ≤ τ36.1 18 ∧ τ36.1 18 ≤ 60000 := hT.1 18
                      have v19 : (-1) ≤ τ36.1 19 ∧ τ36.1 19 ≤ 125 := hT.1 19
                      have v20 : 0 ≤ τ36.1 20 ∧ τ36.1 20 ≤ 19 := hT.1 20
                      have v22 : 0 ≤ τ36.1 22 ∧ τ36.1 22 ≤ 1499 := hT.1 22
                      exact ⟨hT, (show (τ36.1 20) = 0 → τ36.2.1 15 (τ36.1 22) = 1 from by (intro _; first | omega | (rw [q39_2, w22_τ41]; (first | rw [st_s] | skip); omega))), (show ¬ (σ.1 20) = 0 → (τ36.1 20) = (σ.1 20) from by omega)⟩
                  ·
                    refine h102 _ ?_
                    refine ⟨_, K_X13_failHere hT (show 0 ≤ 9 from by omega) (show 9 ≤ 19 from by omega), ?_⟩
                    intro τ29 hn_τ29 hf_τ29 hq
                    obtain ⟨hT, q27_1, q27_2⟩ := hq
                    replace q27_1 : ¬ (σ.1 20) = 0 → (τ29.1 20) = (σ.1 20) := q27_1
                    replace q27_2 : (σ.1 20) = 0 → (τ29.1 20) = 9 := q27_2
                    have w0_τ29 : τ29.1 0 = σ.1 0 := hf_τ29.1 0 (by decide)
                    have w4_τ29 : τ29.1 4 = σ.1 4 := hf_τ29.1 4 (by decide)
                    have w6_τ29 : τ29.1 6 = σ.1 6 := hf_τ29.1 6 (by decide)
                    have w17_τ29 : τ29.1 17 = σ.1 17 := hf_τ29.1 17 (by decide)
                    have w18_τ29 : τ29.1 18 = σ.1 18 := hf_τ29.1 18 (by decide)
                    have w19_τ29 : τ29.1 19 = σ.1 19 := hf_τ29.1 19 (by decide)
                    have w22_τ29 : τ29.1 22 = σ.1 22 := hf_τ29.1 22 (by decide)
                    have g15_τ29 : τ29.2.1 15 = σ.2.1 15 := hf_τ29.2.1 15 (by decide)
                    have W0 : τ29.1 0 = σ.1 0 := by omega
                    have W17 : τ29.1 17 = σ.1 17 := by omega
                    have W18 : τ29.1 18 = σ.1 18 := by omega
                    have W19 : τ29.1 19 = σ.1 19 := by omega
                    have W22 : τ29.1 22 = σ.1 22 := by omega
                    have A15 : ∀ j, 0 ≤ τ29.2.1 15 j ∧ τ29.2.1 15 j ≤ 300 := fun j => hT.2 15 j
                    have v0 : 0 ≤ τ29.1 0 ∧ τ29.1 0 ≤ 60000 := hT.1 0
                    have v4 : 0 ≤ τ29.1 4 ∧ τ29.1 4 ≤ 100 := hT.1 4
                    have v6 : 0 ≤ τ29.1 6 ∧ τ29.1 6 ≤ 30000 := hT.1 6
                    have v17 : 0 ≤ τ29.1 17 ∧ τ29.1 17 ≤ 60000 := hT.1 17
                    have v18 : 0 ≤ τ29.1 18 ∧ τ29.1 18 ≤ 60000 := hT.1 18
                    have v19 : (-1) ≤ τ29.1 19 ∧ τ29.1 19 ≤ 125 := hT.1 19
                    have v20 : 0 ≤ τ29.1 20 ∧ τ29.1 20 ≤ 19 := hT.1 20
                    have v22 : 0 ≤ τ29.1 22 ∧ τ29.1 22 ≤ 1499 := hT.1 22
                    exact ⟨hT, (show (τ29.1 20) = 0 → τ29.2.1 15 (τ29.1 22) = 1 from by (intro _; first | omega | (rw [q39_2, w22_τ41]; (first | rw [st_s] | skip); omega))), (show ¬ (σ.1 20) = 0 → (τ29.1 20) = (σ.1 20) from by omega)⟩
            ·
              refine ⟨fun c17 => ?_, fun c17 => ?_⟩
              ·
                refine h79 _ _ _ ?_
                refine ⟨fun c21 => ?_, fun c21 => ?_⟩
                ·
                  refine h102 _ ?_
                  refine ⟨_, K_X13_failHere hT (show 0 ≤ 9 from by omega) (show 9 ≤ 19 from by omega), ?_⟩
                  intro τ29 hn_τ29 hf_τ29 hq
                  obtain ⟨hT, q27_1, q27_2⟩ := hq
                  replace q27_1 : ¬ (σ.1 20) = 0 → (τ29.1 20) = (σ.1 20) := q27_1
                  replace q27_2 : (σ.1 20) = 0 → (τ29.1 20) = 9 := q27_2
                  have w0_τ29 : τ29.1 0 = σ.1 0 := hf_τ29.1 0 (by decide)
                  have w4_τ29 : τ29.1 4 = σ.1 4 := hf_τ29.1 4 (by decide)
                  have w6_τ29 : τ29.1 6 = σ.1 6 := hf_τ29.1 6 (by decide)
                  have w17_τ29 : τ29.1 17 = σ.1 17 := hf_τ29.1 17 (by decide)
                  have w18_τ29 : τ29.1 18 = σ.1 18 := hf_τ29.1 18 (by decide)
                  have w19_τ29 : τ29.1 19 = σ.1 19 := hf_τ29.1 19 (by decide)
                  have w22_τ29 : τ29.1 22 = σ.1 22 := hf_τ29.1 22 (by decide)
                  have g15_τ29 : τ29.2.1 15 = σ.2.1 15 := hf_τ29.2.1 15 (by decide)
                  have W0 : τ29.1 0 = σ.1 0 := by omega
                  have W17 : τ29.1 17 = σ.1 17 := by omega
                  have W18 : τ29.1 18 = σ.1 18 := by omega
                  have W19 : τ29.1 19 = σ.1 19 := by omega
                  have W22 : τ29.1 22 = σ.1 22 := by omega
                  have A15 : ∀ j, 0 ≤ τ29.2.1 15 j ∧ τ29.2.1 15 j ≤ 300 := fun j => hT.2 15 j
                  have v0 : 0 ≤ τ29.1 0 ∧ τ29.1 0 ≤ 60000 := hT.1 0
                  have v4 : 0 ≤ τ29.1 4 ∧ τ29.1 4 ≤ 100 := hT.1 4
                  have v6 : 0 ≤ τ29.1 6 ∧ τ29.1 6 ≤ 30000 := hT.1 6
                  have v17 : 0 ≤ τ29.1 17 ∧ τ29.1 17 ≤ 60000 := hT.1 17
                  have v18 : 0 ≤ τ29.1 18 ∧ τ29.1 18 ≤ 60000 := hT.1 18
                  have v19 : (-1) ≤ τ29.1 19 ∧ τ29.1 19 ≤ 125 := hT.1 19
                  have v20 : 0 ≤ τ29.1 20 ∧ τ29.1 20 ≤ 19 := hT.1 20
                  have v22 : 0 ≤ τ29.1 22 ∧ τ29.1 22 ≤ 1499 := hT.1 22
                  exact ⟨hT, (show (τ29.1 20) = 0 → τ29.2.1 15 (τ29.1 22) = 1 from by (intro _; first | omega | (rw [q39_2, w22_τ41]; (first | rw [st_s] | skip); omega))), (show ¬ (σ.1 20) = 0 → (τ29.1 20) = (σ.1 20) from by omega)⟩
                ·
                  refine ⟨(show 0 ≤ x3 ∧ x3 < 1001 from by omega), ?_⟩
                  intro x23 r_x23 e_x23
                  have b_x23 : 0 ≤ x23 ∧ x23 ≤ 1 := by rw [e_x23]; exact hT.2 8 _
                  refine ⟨fun c24 => ?_, fun c24 => ?_⟩
                  ·
                    refine h111 _ _ _ ?_
                    refine ⟨fun c30 => ?_, fun c30 => ?_⟩
                    ·
                      refine ⟨(show 0 ≤ x3 ∧ x3 < 1001 from by omega), ?_⟩
                      intro x32 r_x32 e_x32
                      have b_x32 : 0 ≤ x32 ∧ x32 ≤ 1 := by rw [e_x32]; exact hT.2 12 _
                      refine ⟨fun c33 => ?_, fun c33 => ?_⟩
                      ·
                        refine h143 _ _ _ _ ?_
                        refine ⟨(⟨by omega, by omega⟩ : rg ((σ.1 4) + 1)), ?_⟩
                        replace hT := mT_v (i := 4) hT (show 0 ≤ ((σ.1 4) + 1) ∧ ((σ.1 4) + 1) ≤ 100 from by omega)
                        refine ⟨(show 0 ≤ x3 ∧ x3 < 1001 from by omega), ?_⟩
                        replace hT := mT_a (k := 12) (j := x3) hT (show (0 : Int) ≤ 1 ∧ 1 ≤ 1 from by omega)
                        refine ⟨_, K_X13_addSymbol hT (show 0 ≤ x3 from by omega) (show x3 < 1000 from by omega) (show -1 ≤ (-1) from by omega) (show (-1) ≤ 1499 from by omega) (show (σ.1 6) < 30000 from by omega) (show σ.2.1 15 (σ.1 22) < 300 from by omega), ?_⟩
                        intro τ41 hn_τ41 hf_τ41 hq
                        obtain ⟨hT, q39_1, q39_2⟩ := hq
                        replace q39_1 : (τ41.1 6) = (σ.1 6) + 1 := q39_1
                        replace q39_2 : τ41.2.1 15 = st (σ.2.1 15) (σ.1 22) (σ.2.1 15 (σ.1 22) + 1) := q39_2
                        have w0_τ41 : τ41.1 0 = σ.1 0 := hf_τ41.1 0 (by decide)
                        have w4_τ41 : τ41.1 4 = ((σ.1 4) + 1) := hf_τ41.1 4 (by decide)
                        have w17_τ41 : τ41.1 17 = σ.1 17 := hf_τ41.1 17 (by decide)
                        have w18_τ41 : τ41.1 18 = σ.1 18 := hf_τ41.1 18 (by decide)
                        have w19_τ41 : τ41.1 19 = σ.1 19 := hf_τ41.1 19 (by decide)
                        have w20_τ41 : τ41.1 20 = σ.1 20 := hf_τ41.1 20 (by decide)
                        have w22_τ41 : τ41.1 22 = σ.1 22 := hf_τ41.1 22 (by decide)
                        have W0 : τ41.1 0 = σ.1 0 := by omega
                        have W17 : τ41.1 17 = σ.1 17 := by omega
                        have W18 : τ41.1 18 = σ.1 18 := by omega
                        have W19 : τ41.1 19 = σ.1 19 := by omega
                        have W22 : τ41.1 22 = σ.1 22 := by omega
                        have A15 : ∀ j, 0 ≤ τ41.2.1 15 j ∧ τ41.2.1 15 j ≤ 300 := fun j => hT.2 15 j
                        have v0 : 0 ≤ τ41.1 0 ∧ τ41.1 0 ≤ 60000 := hT.1 0
                        have v4 : 0 ≤ τ41.1 4 ∧ τ41.1 4 ≤ 100 := hT.1 4
                        have v6 : 0 ≤ τ41.1 6 ∧ τ41.1 6 ≤ 30000 := hT.1 6
                        have v17 : 0 ≤ τ41.1 17 ∧ τ41.1 17 ≤ 60000 := hT.1 17
                        have v18 : 0 ≤ τ41.1 18 ∧ τ41.1 18 ≤ 60000 := hT.1 18
                        have v19 : (-1) ≤ τ41.1 19 ∧ τ41.1 19 ≤ 125 := hT.1 19
                        have v20 : 0 ≤ τ41.1 20 ∧ τ41.1 20 ≤ 19 := hT.1 20
                        have v22 : 0 ≤ τ41.1 22 ∧ τ41.1 22 ≤ 1499 := hT.1 22
                        exact ⟨hT, (show (τ41.1 20) = 0 → τ41.2.1 15 (τ41.1 22) = 1 from by (intro _; first | omega | (rw [q39_2, w22_τ41]; (first | rw [st_s] | skip); omega))), (show ¬ (σ.1 20) = 0 → (τ41.1 20) = (σ.1 20) from by omega)⟩
                      ·
                        refine h143 _ _ _ _ ?_
                        refine ⟨(⟨by omega, by omega⟩ : rg ((σ.1 4) + 0)), ?_⟩
                        replace hT := mT_v (i := 4) hT (show 0 ≤ ((σ.1 4) + 0) ∧ ((σ.1 4) + 0) ≤ 100 from by omega)
                        refine ⟨(show 0 ≤ x3 ∧ x3 < 1001 from by omega), ?_⟩
                        replace hT := mT_a (k := 12) (j := x3) hT (show (0 : Int) ≤ 1 ∧ 1 ≤ 1 from by omega)
                        refine ⟨_, K_X13_addSymbol hT (show 0 ≤ x3 from by omega) (show x3 < 1000 from by omega) (show -1 ≤ (-1) from by omega) (show (-1) ≤ 1499 from by omega) (show (σ.1 6) < 30000 from by omega) (show σ.2.1 15 (σ.1 22) < 300 from by omega), ?_⟩
                        intro τ41 hn_τ41 hf_τ41 hq
                        obtain ⟨hT, q39_1, q39_2⟩ := hq
                        replace q39_1 : (τ41.1 6) = (σ.1 6) + 1 := q39_1
                        replace q39_2 : τ41.2.1 15 = st (σ.2.1 15) (σ.1 22) (σ.2.1 15 (σ.1 22) + 1) := q39_2
                        have w0_τ41 : τ41.1 0 = σ.1 0 := hf_τ41.1 0 (by decide)
                        have w4_τ41 : τ41.1 4 = ((σ.1 4) + 0) := hf_τ41.1 4 (by decide)
                        have w17_τ41 : τ41.1 17 = σ.1 17 := hf_τ41.1 17 (by decide)
                        have w18_τ41 : τ41.1 18 = σ.1 18 := hf_τ41.1 18 (by decide)
                        have w19_τ41 : τ41.1 19 = σ.1 19 := hf_τ41.1 19 (by decide)
                        have w20_τ41 : τ41.1 20 = σ.1 20 := hf_τ41.1 20 (by decide)
                        have w22_τ41 : τ41.1 22 = σ.1 22 := hf_τ41.1 22 (by decide)
                        have W0 : τ41.1 0 = σ.1 0 := by omega
                        have W17 : τ41.1 17 = σ.1 17 := by omega
                        have W18 : τ41.1 18 = σ.1 18 := by omega
                        have W19 : τ41.1 19 = σ.1 19 := by omega
                        have W22 : τ41.1 22 = σ.1 22 := by omega
                        have A15 : ∀ j, 0 ≤ τ41.2.1 15 j ∧ τ41.2.1 15 j ≤ 300 := fun j => hT.2 15 j
                        have v0 : 0 ≤ τ41.1 0 ∧ τ41.1 0 ≤ 60000 := hT.1 0
                        have v4 : 0 ≤ τ41.1 4 ∧ τ41.1 4 ≤ 100 := hT.1 4
                        have v6 : 0 ≤ τ41.1 6 ∧ τ41.1 6 ≤ 30000 := hT.1 6
                        have v17 : 0 ≤ τ41.1 17 ∧ τ41.1 17 ≤ 60000 := hT.1 17
                        have v18 : 0 ≤ τ41.1 18 ∧ τ41.1 18 ≤ 60000 := hT.1 18
                        have v19 : (-1) ≤ τ41.1 19 ∧ τ41.1 19 ≤ 125 := hT.1 19
                        have v20 : 0 ≤ τ41.1 20 ∧ τ41.1 20 ≤ 19 := hT.1 20
                        have v22 : 0 ≤ τ41.1 22 ∧ τ41.1 22 ≤ 1499 := hT.1 22
                        exact ⟨hT, (show (τ41.1 20) = 0 → τ41.2.1 15 (τ41.1 22) = 1 from by (intro _; first | omega | (rw [q39_2, w22_τ41]; (first | rw [st_s] | skip); omega))), (show ¬ (σ.1 20) = 0 → (τ41.1 20) = (σ.1 20) from by omega)⟩
                    ·
                      refine ⟨_, K_X13_failHere hT (show 0 ≤ 10 from by omega) (show 10 ≤ 19 from by omega), ?_⟩
                      intro τ36 hn_τ36 hf_τ36 hq
                      obtain ⟨hT, q34_1, q34_2⟩ := hq
                      replace q34_1 : ¬ (σ.1 20) = 0 → (τ36.1 20) = (σ.1 20) := q34_1
                      replace q34_2 : (σ.1 20) = 0 → (τ36.1 20) = 10 := q34_2
                      have w0_τ36 : τ36.1 0 = σ.1 0 := hf_τ36.1 0 (by decide)
                      have w4_τ36 : τ36.1 4 = σ.1 4 := hf_τ36.1 4 (by decide)
                      have w6_τ36 : τ36.1 6 = σ.1 6 := hf_τ36.1 6 (by decide)
                      have w17_τ36 : τ36.1 17 = σ.1 17 := hf_τ36.1 17 (by decide)
                      have w18_τ36 : τ36.1 18 = σ.1 18 := hf_τ36.1 18 (by decide)
                      have w19_τ36 : τ36.1 19 = σ.1 19 := hf_τ36.1 19 (by decide)
                      have w22_τ36 : τ36.1 22 = σ.1 22 := hf_τ36.1 22 (by decide)
                      have g15_τ36 : τ36.2.1 15 = σ.2.1 15 := hf_τ36.2.1 15 (by decide)
                      have W0 : τ36.1 0 = σ.1 0 := by omega
                      have W17 : τ36.1 17 = σ.1 17 := by omega
                      have W18 : τ36.1 18 = σ.1 18 := by omega
                      have W19 : τ36.1 19 = σ.1 19 := by omega
                      have W22 : τ36.1 22 = σ.1 22 := by omega
                      have A15 : ∀ j, 0 ≤ τ36.2.1 15 j ∧ τ36.2.1 15 j ≤ 300 := fun j => hT.2 15 j
                      have v0 : 0 ≤ τ36.1 0 ∧ τ36.1 0 ≤ 60000 := hT.1 0
                      have v4 : 0 ≤ τ36.1 4 ∧ τ36.1 4 ≤ 100 := hT.1 4
                      have v6 : 0 ≤ τ36.1 6 ∧ τ36.1 6 ≤ 30000 := hT.1 6
                      have v17 : 0 ≤ τ36.1 17 ∧ τ36.1 17 ≤ 60000 := hT.1 17
                      have v18 : 0 ≤ τ36.1 18 ∧ τ36.1 18 ≤ 60000 := hT.1 18
                      have v19 : (-1) ≤ τ36.1 19 ∧ τ36.1 19 ≤ 125 := hT.1 19
                      have v20 : 0 ≤ τ36.1 20 ∧ τ36.1 20 ≤ 19 := hT.1 20
                      have v22 : 0 ≤ τ36.1 22 ∧ τ36.1 22 ≤ 1499 := hT.1 22
                      exact ⟨hT, (show (τ36.1 20) = 0 → τ36.2.1 15 (τ36.1 22) = 1 from by (intro _; first | omega | (rw [q39_2, w22_τ41]; (first | rw [st_s] | skip); omega))), (show ¬ (σ.1 20) = 0 → (τ36.1 20) = (σ.1 20) from by omega)⟩
                  ·
                    intro x25 r_x25 e_x25
                    have b_x25 : 0 ≤ x25 ∧ x25 ≤ 1 := by rw [e_x25]; exact hT.2 9 _
                    refine ⟨fun c26 => ?_, fun c26 => ?_⟩
                    ·
                      refine h111 _ _ _ ?_
                      refine ⟨fun c30 => ?_, fun c30 => ?_⟩
                      ·
                        refine ⟨(show 0 ≤ x3 ∧ x3 < 1001 from by omega), ?_⟩
                        intro x32 r_x32 e_x32
                        have b_x32 : 0 ≤ x32 ∧ x32 ≤ 1 := by rw [e_x32]; exact hT.2 12 _
                        refine ⟨fun c33 => ?_, fun c33 => ?_⟩
                        ·
                          refine h143 _ _ _ _ ?_
                          refine ⟨(⟨by omega, by omega⟩ : rg ((σ.1 4) + 1)), ?_⟩
                          replace hT := mT_v (i := 4) hT (show 0 ≤ ((σ.1 4) + 1) ∧ ((σ.1 4) + 1) ≤ 100 from by omega)
                          refine ⟨(show 0 ≤ x3 ∧ x3 < 1001 from by omega), ?_⟩
                          replace hT := mT_a (k := 12) (j := x3) hT (show (0 : Int) ≤ 1 ∧ 1 ≤ 1 from by omega)
                          refine ⟨_, K_X13_addSymbol hT (show 0 ≤ x3 from by omega) (show x3 < 1000 from by omega) (show -1 ≤ (-1) from by omega) (show (-1) ≤ 1499 from by omega) (show (σ.1 6) < 30000 from by omega) (show σ.2.1 15 (σ.1 22) < 300 from by omega), ?_⟩
                          intro τ41 hn_τ41 hf_τ41 hq
                          obtain ⟨hT, q39_1, q39_2⟩ := hq
                          replace q39_1 : (τ41.1 6) = (σ.1 6) + 1 := q39_1
                          replace q39_2 : τ41.2.1 15 = st (σ.2.1 15) (σ.1 22) (σ.2.1 15 (σ.1 22) + 1) := q39_2
                          have w0_τ41 : τ41.1 0 = σ.1 0 := hf_τ41.1 0 (by decide)
                          have w4_τ41 : τ41.1 4 = ((σ.1 4) + 1) := hf_τ41.1 4 (by decide)
                          have w17_τ41 : τ41.1 17 = σ.1 17 := hf_τ41.1 17 (by decide)
                          have w18_τ41 : τ41.1 18 = σ.1 18 := hf_τ41.1 18 (by decide)
                          have w19_τ41 : τ41.1 19 = σ.1 19 := hf_τ41.1 19 (by decide)
                          have w20_τ41 : τ41.1 20 = σ.1 20 := hf_τ41.1 20 (by decide)
                          have w22_τ41 : τ41.1 22 = σ.1 22 := hf_τ41.1 22 (by decide)
                          have W0 : τ41.1 0 = σ.1 0 := by omega
                          have W17 : τ41.1 17 = σ.1 17 := by omega
                          have W18 : τ41.1 18 = σ.1 18 := by omega
                          have W19 : τ41.1 19 = σ.1 19 := by omega
                          have W22 : τ41.1 22 = σ.1 22 := by omega
                          have A15 : ∀ j, 0 ≤ τ41.2.1 15 j ∧ τ41.2.1 15 j ≤ 300 := fun j => hT.2 15 j
                          have v0 : 0 ≤ τ41.1 0 ∧ τ41.1 0 ≤ 60000 := hT.1 0
                          have v4 : 0 ≤ τ41.1 4 ∧ τ41.1 4 ≤ 100 := hT.1 4
                          have v6 : 0 ≤ τ41.1 6 ∧ τ41.1 6 ≤ 30000 := hT.1 6
                          have v17 : 0 ≤ τ41.1 17 ∧ τ41.1 17 ≤ 60000 := hT.1 17
                          have v18 : 0 ≤ τ41.1 18 ∧ τ41.1 18 ≤ 60000 := hT.1 18
                          have v19 : (-1) ≤ τ41.1 19 ∧ τ41.1 19 ≤ 125 := hT.1 19
                          have v20 : 0 ≤ τ41.1 20 ∧ τ41.1 20 ≤ 19 := hT.1 20
                          have v22 : 0 ≤ τ41.1 22 ∧ τ41.1 22 ≤ 1499 := hT.1 22
                          exact ⟨hT, (show (τ41.1 20) = 0 → τ41.2.1 15 (τ41.1 22) = 1 from by (intro _; first | omega | (rw [q39_2, w22_τ41]; (first | rw [st_s] | skip); omega))), (show ¬ (σ.1 20) = 0 → (τ41.1 20) = (σ.1 20) from by omega)⟩
                        ·
                          refine h143 _ _ _ _ ?_
                          refine ⟨(⟨by omega, by omega⟩ : rg ((σ.1 4) + 0)), ?_⟩
                          replace hT := mT_v (i := 4) hT (show 0 ≤ ((σ.1 4) + 0) ∧ ((σ.1 4) + 0) ≤ 100 from by omega)
                          refine ⟨(show 0 ≤ x3 ∧ x3 < 1001 from by omega), ?_⟩
                          replace hT := mT_a (k := 12) (j := x3) hT (show (0 : Int) ≤ 1 ∧ 1 ≤ 1 from by omega)
                          refine ⟨_, K_X13_addSymbol hT (show 0 ≤ x3 from by omega) (show x3 < 1000 from by omega) (show -1 ≤ (-1) from by omega) (show (-1) ≤ 1499 from by omega) (show (σ.1 6) < 30000 from by omega) (show σ.2.1 15 (σ.1 22) < 300 from by omega), ?_⟩
                          intro τ41 hn_τ41 hf_τ41 hq
                          obtain ⟨hT, q39_1, q39_2⟩ := hq
                          replace q39_1 : (τ41.1 6) = (σ.1 6) + 1 := q39_1
                          replace q39_2 : τ41.2.1 15 = st (σ.2.1 15) (σ.1 22) (σ.2.1 15 (σ.1 22) + 1) := q39_2
                          have w0_τ41 : τ41.1 0 = σ.1 0 := hf_τ41.1 0 (by decide)
                          have w4_τ41 : τ41.1 4 = ((σ.1 4) + 0) := hf_τ41.1 4 (by decide)
                          have w17_τ41 : τ41.1 17 = σ.1 17 := hf_τ41.1 17 (by decide)
                          have w18_τ41 : τ41.1 18 = σ.1 18 := hf_τ41.1 18 (by decide)
                          have w19_τ41 : τ41.1 19 = σ.1 19 := hf_τ41.1 19 (by decide)
                          have w20_τ41 : τ41.1 20 = σ.1 20 := hf_τ41.1 20 (by decide)
                          have w22_τ41 : τ41.1 22 = σ.1 22 := hf_τ41.1 22 (by decide)
                          have W0 : τ41.1 0 = σ.1 0 := by omega
                          have W17 : τ41.1 17 = σ.1 17 := by omega
                          have W18 : τ41.1 18 = σ.1 18 := by omega
                          have W19 : τ41.1 19 = σ.1 19 := by omega
                          have W22 : τ41.1 22 = σ.1 22 := by omega
                          have A15 : ∀ j, 0 ≤ τ41.2.1 15 j ∧ τ41.2.1 15 j ≤ 300 := fun j => hT.2 15 j
                          have v0 : 0 ≤ τ41.1 0 ∧ τ41.1 0 ≤ 60000 := hT.1 0
                          have v4 : 0 ≤ τ41.1 4 ∧ τ41.1 4 ≤ 100 := hT.1 4
                          have v6 : 0 ≤ τ41.1 6 ∧ τ41.1 6 ≤ 30000 := hT.1 6
                          have v17 : 0 ≤ τ41.1 17 ∧ τ41.1 17 ≤ 60000 := hT.1 17
                          have v18 : 0 ≤ τ41.1 18 ∧ τ41.1 18 ≤ 60000 := hT.1 18
                          have v19 : (-1) ≤ τ41.1 19 ∧ τ41.1 19 ≤ 125 := hT.1 19
                          have v20 : 0 ≤ τ41.1 20 ∧ τ41.1 20 ≤ 19 := hT.1 20
                          have v22 : 0 ≤ τ41.1 22 ∧ τ41.1 22 ≤ 1499 := hT.1 22
                          exact ⟨hT, (show (τ41.1 20) = 0 → τ41.2.1 15 (τ41.1 22) = 1 from by (intro _; first | omega | (rw [q39_2, w22_τ41]; (first | rw [st_s] | skip); omega))), (show ¬ (σ.1 20) = 0 → (τ41.1 20) = (σ.1 20) from by omega)⟩
                      ·
                        refine ⟨_, K_X13_failHere hT (show 0 ≤ 10 from by omega) (show 10 ≤ 19 from by omega), ?_⟩
                        intro τ36 hn_τ36 hf_τ36 hq
                        obtain ⟨hT, q34_1, q34_2⟩ := hq
                        replace q34_1 : ¬ (σ.1 20) = 0 → (τ36.1 20) = (σ.1 20) := q34_1
                        replace q34_2 : (σ.1 20) = 0 → (τ36.1 20) = 10 := q34_2
                        have w0_τ36 : τ36.1 0 = σ.1 0 := hf_τ36.1 0 (by decide)
                        have w4_τ36 : τ36.1 4 = σ.1 4 := hf_τ36.1 4 (by decide)
                        have w6_τ36 : τ36.1 6 = σ.1 6 := hf_τ36.1 6 (by decide)
                        have w17_τ36 : τ36.1 17 = σ.1 17 := hf_τ36.1 17 (by decide)
                        have w18_τ36 : τ36.1 18 = σ.1 18 := hf_τ36.1 18 (by decide)
                        have w19_τ36 : τ36.1 19 = σ.1 19 := hf_τ36.1 19 (by decide)
                        have w22_τ36 : τ36.1 22 = σ.1 22 := hf_τ36.1 22 (by decide)
                        have g15_τ36 : τ36.2.1 15 = σ.2.1 15 := hf_τ36.2.1 15 (by decide)
                        have W0 : τ36.1 0 = σ.1 0 := by omega
                        have W17 : τ36.1 17 = σ.1 17 := by omega
                        have W18 : τ36.1 18 = σ.1 18 := by omega
                        have W19 : τ36.1 19 = σ.1 19 := by omega
                        have W22 : τ36.1 22 = σ.1 22 := by omega
                        have A15 : ∀ j, 0 ≤ τ36.2.1 15 j ∧ τ36.2.1 15 j ≤ 300 := fun j => hT.2 15 j
                        have v0 : 0 ≤ τ36.1 0 ∧ τ36.1 0 ≤ 60000 := hT.1 0
                        have v4 : 0 ≤ τ36.1 4 ∧ τ36.1 4 ≤ 100 := hT.1 4
                        have v6 : 0 ≤ τ36.1 6 ∧ τ36.1 6 ≤ 30000 := hT.1 6
                        have v17 : 0 ≤ τ36.1 17 ∧ τ36.1 17 ≤ 60000 := hT.1 17
                        have v18 : 0 ≤ τ36.1 18 ∧ τ36.1 18 ≤ 60000 := hT.1 18
                        have v19 : (-1) ≤ τ36.1 19 ∧ τ36.1 19 ≤ 125 := hT.1 19
                        have v20 : 0 ≤ τ36.1 20 ∧ τ36.1 20 ≤ 19 := hT.1 20
                        have v22 : 0 ≤ τ36.1 22 ∧ τ36.1 22 ≤ 1499 := hT.1 22
                        exact ⟨hT, (show (τ36.1 20) = 0 → τ36.2.1 15 (τ36.1 22) = 1 from by (intro _; first | omega | (rw [q39_2, w22_τ41]; (first | rw [st_s] | skip); omega))), (show ¬ (σ.1 20) = 0 → (τ36.1 20) = (σ.1 20) from by omega)⟩
                    ·
                      refine h102 _ ?_
                      refine ⟨_, K_X13_failHere hT (show 0 ≤ 9 from by omega) (show 9 ≤ 19 from by omega), ?_⟩
                      intro τ29 hn_τ29 hf_τ29 hq
                      obtain ⟨hT, q27_1, q27_2⟩ := hq
                      replace q27_1 : ¬ (σ.1 20) = 0 → (τ29.1 20) = (σ.1 20) := q27_1
                      replace q27_2 : (σ.1 20) = 0 → (τ29.1 20) = 9 := q27_2
                      have w0_τ29 : τ29.1 0 = σ.1 0 := hf_τ29.1 0 (by decide)
                      have w4_τ29 : τ29.1 4 = σ.1 4 := hf_τ29.1 4 (by decide)
                      have w6_τ29 : τ29.1 6 = σ.1 6 := hf_τ29.1 6 (by decide)
                      have w17_τ29 : τ29.1 17 = σ.1 17 := hf_τ29.1 17 (by decide)
                      have w18_τ29 : τ29.1 18 = σ.1 18 := hf_τ29.1 18 (by decide)
                      have w19_τ29 : τ29.1 19 = σ.1 19 := hf_τ29.1 19 (by decide)
                      have w22_τ29 : τ29.1 22 = σ.1 22 := hf_τ29.1 22 (by decide)
                      have g15_τ29 : τ29.2.1 15 = σ.2.1 15 := hf_τ29.2.1 15 (by decide)
                      have W0 : τ29.1 0 = σ.1 0 := by omega
                      have W17 : τ29.1 17 = σ.1 17 := by omega
                      have W18 : τ29.1 18 = σ.1 18 := by omega
                      have W19 : τ29.1 19 = σ.1 19 := by omega
                      have W22 : τ29.1 22 = σ.1 22 := by omega
                      have A15 : ∀ j, 0 ≤ τ29.2.1 15 j ∧ τ29.2.1 15 j ≤ 300 := fun j => hT.2 15 j
                      have v0 : 0 ≤ τ29.1 0 ∧ τ29.1 0 ≤ 60000 := hT.1 0
                      have v4 : 0 ≤ τ29.1 4 ∧ τ29.1 4 ≤ 100 := hT.1 4
                      have v6 : 0 ≤ τ29.1 6 ∧ τ29.1 6 ≤ 30000 := hT.1 6
                      have v17 : 0 ≤ τ29.1 17 ∧ τ29.1 17 ≤ 60000 := hT.1 17
                      have v18 : 0 ≤ τ29.1 18 ∧ τ29.1 18 ≤ 60000 := hT.1 18
                      have v19 : (-1) ≤ τ29.1 19 ∧ τ29.1 19 ≤ 125 := hT.1 19
                      have v20 : 0 ≤ τ29.1 20 ∧ τ29.1 20 ≤ 19 := hT.1 20
                      have v22 : 0 ≤ τ29.1 22 ∧ τ29.1 22 ≤ 1499 := hT.1 22
                      exact ⟨hT, (show (τ29.1 20) = 0 → τ29.2.1 15 (τ29.1 22) = 1 from by (intro _; first | omega | (rw [q39_2, w22_τ41]; (first | rw [st_s] | skip); omega))), (show ¬ (σ.1 20) = 0 → (τ29.1 20) = (σ.1 20) from by omega)⟩
              ·
                refine h71 _ ?_
                refine ⟨_, K_X13_failHere hT (show 0 ≤ 5 from by omega) (show 5 ≤ 19 from by omega), ?_⟩
                intro τ20 hn_τ20 hf_τ20 hq
                obtain ⟨hT, q18_1, q18_2⟩ := hq
                replace q18_1 : ¬ (σ.1 20) = 0 → (τ20.1 20) = (σ.1 20) := q18_1
                replace q18_2 : (σ.1 20) = 0 → (τ20.1 20) = 5 := q18_2
                have w0_τ20 : τ20.1 0 = σ.1 0 := hf_τ20.1 0 (by decide)
                have w4_τ20 : τ20.1 4 = σ.1 4 := hf_τ20.1 4 (by decide)
                have w6_τ20 : τ20.1 6 = σ.1 6 := hf_τ20.1 6 (by decide)
                have w17_τ20 : τ20.1 17 = σ.1 17 := hf_τ20.1 17 (by decide)
                have w18_τ20 : τ20.1 18 = σ.1 18 := hf_τ20.1 18 (by decide)
                have w19_τ20 : τ20.1 19 = σ.1 19 := hf_τ20.1 19 (by decide)
                have w22_τ20 : τ20.1 22 = σ.1 22 := hf_τ20.1 22 (by decide)
                have g15_τ20 : τ20.2.1 15 = σ.2.1 15 := hf_τ20.2.1 15 (by decide)
                have W0 : τ20.1 0 = σ.1 0 := by omega
                have W17 : τ20.1 17 = σ.1 17 := by omega
                have W18 : τ20.1 18 = σ.1 18 := by omega
                have W19 : τ20.1 19 = σ.1 19 := by omega
                have W22 : τ20.1 22 = σ.1 22 := by omega
                have A15 : ∀ j, 0 ≤ τ20.2.1 15 j ∧ τ20.2.1 15 j ≤ 300 := fun j => hT.2 15 j
                have v0 : 0 ≤ τ20.1 0 ∧ τ20.1 0 ≤ 60000 := hT.1 0
                have v4 : 0 ≤ τ20.1 4 ∧ τ20.1 4 ≤ 100 := hT.1 4
                have v6 : 0 ≤ τ20.1 6 ∧ τ20.1 6 ≤ 30000 := hT.1 6
                have v17 : 0 ≤ τ20.1 17 ∧ τ20.1 17 ≤ 60000 := hT.1 17
                have v18 : 0 ≤ τ20.1 18 ∧ τ20.1 18 ≤ 60000 := hT.1 18
                have v19 : (-1) ≤ τ20.1 19 ∧ τ20.1 19 ≤ 125 := hT.1 19
                have v20 : 0 ≤ τ20.1 20 ∧ τ20.1 20 ≤ 19 := hT.1 20
                have v22 : 0 ≤ τ20.1 22 ∧ τ20.1 22 ≤ 1499 := hT.1 22
                exact ⟨hT, (show (τ20.1 20) = 0 → τ20.2.1 15 (τ20.1 22) = 1 from by (intro _; first | omega | (rw [q39_2, w22_τ41]; (first | rw [st_s] | skip); omega))), (show ¬ (σ.1 20) = 0 → (τ20.1 20) = (σ.1 20) from by omega)⟩
  ·
    refine ⟨_, K_X13_failHere hT (show 0 ≤ 4 from by omega) (show 4 ≤ 19 from by omega), ?_⟩
    intro τ11 hn_τ11 hf_τ11 hq
    obtain ⟨hT, q9_1, q9_2⟩ := hq
    replace q9_1 : ¬ (σ.1 20) = 0 → (τ11.1 20) = (σ.1 20) := q9_1
    replace q9_2 : (σ.1 20) = 0 → (τ11.1 20) = 4 := q9_2
    have w0_τ11 : τ11.1 0 = σ.1 0 := hf_τ11.1 0 (by decide)
    have w4_τ11 : τ11.1 4 = σ.1 4 := hf_τ11.1 4 (by decide)
    have w6_τ11 : τ11.1 6 = σ.1 6 := hf_τ11.1 6 (by decide)
    have w17_τ11 : τ11.1 17 = σ.1 17 := hf_τ11.1 17 (by decide)
    have w18_τ11 : τ11.1 18 = σ.1 18 := hf_τ11.1 18 (by decide)
    have w19_τ11 : τ11.1 19 = σ.1 19 := hf_τ11.1 19 (by decide)
    have w22_τ11 : τ11.1 22 = σ.1 22 := hf_τ11.1 22 (by decide)
    have g15_τ11 : τ11.2.1 15 = σ.2.1 15 := hf_τ11.2.1 15 (by decide)
    have W0 : τ11.1 0 = σ.1 0 := by omega
    have W17 : τ11.1 17 = σ.1 17 := by omega
    have W18 : τ11.1 18 = σ.1 18 := by omega
    have W19 : τ11.1 19 = σ.1 19 := by omega
    have W22 : τ11.1 22 = σ.1 22 := by omega
    have A15 : ∀ j, 0 ≤ τ11.2.1 15 j ∧ τ11.2.1 15 j ≤ 300 := fun j => hT.2 15 j
    have v0 : 0 ≤ τ11.1 0 ∧ τ11.1 0 ≤ 60000 := hT.1 0
    have v4 : 0 ≤ τ11.1 4 ∧ τ11.1 4 ≤ 100 := hT.1 4
    have v6 : 0 ≤ τ11.1 6 ∧ τ11.1 6 ≤ 30000 := hT.1 6
    have v17 : 0 ≤ τ11.1 17 ∧ τ11.1 17 ≤ 60000 := hT.1 17
    have v18 : 0 ≤ τ11.1 18 ∧ τ11.1 18 ≤ 60000 := hT.1 18
    have v19 : (-1) ≤ τ11.1 19 ∧ τ11.1 19 ≤ 125 := hT.1 19
    have v20 : 0 ≤ τ11.1 20 ∧ τ11.1 20 ≤ 19 := hT.1 20
    have v22 : 0 ≤ τ11.1 22 ∧ τ11.1 22 ≤ 1499 := hT.1 22
    exact ⟨hT, (show (τ11.1 20) = 0 → τ11.2.1 15 (τ11.1 22) = 1 from by (intro _; first | omega | (rw [q39_2, w22_τ41]; (first | rw [st_s] | skip); omega))), (show ¬ (σ.1 20) = 0 → (τ11.1 20) = (σ.1 20) from by omega)⟩
set_option maxHeartbeats 1000000 in
theorem K_X13_finish {n1 : Int} {σ : S0} (hT : m_T σ) (p1 : 0 ≤ n1) (p2 : n1 ≤ 4) (p3 : (σ.1 5) < 1500) : W_X13_finish n1 σ (fun (τ : S0) => (m_T τ) ∧ ((τ.1 5) = (σ.1 5) + 1)) := by
  have v5 : 0 ≤ σ.1 5 ∧ σ.1 5 ≤ 1500 := hT.1 5
  have v22 : 0 ≤ σ.1 22 ∧ σ.1 22 ≤ 1499 := hT.1 22
  have W22 : σ.1 22 = σ.1 22 := rfl
  unfold W_X13_finish
  refine ⟨(show 0 ≤ σ.1 22 ∧ σ.1 22 < 1501 from by omega), ?_⟩
  replace hT := mT_a (k := 13) (j := (σ.1 22)) hT (show (0 : Int) ≤ n1 ∧ n1 ≤ 4 from by omega)
  refine ⟨(⟨by omega, by omega⟩ : rg (σ.1 5 + 1)), ?_⟩
  replace hT := mT_v (i := 5) hT (show 0 ≤ (σ.1 5 + 1) ∧ (σ.1 5 + 1) ≤ 1500 from by omega)
  exact ⟨hT, (show ((σ.1 5 + 1)) = (σ.1 5) + 1 from by omega)⟩
set_option maxHeartbeats 1000000 in
theorem K_X13_activate {σ : S0} (hT : m_T σ) (p1 : (σ.1 13) < 1500) : W_X13_activate σ (fun (τ : S0) => (m_T τ) ∧ ((τ.1 13) = (σ.1 13) + 1)) := by
  have v13 : 0 ≤ σ.1 13 ∧ σ.1 13 ≤ 1500 := hT.1 13
  have v22 : 0 ≤ σ.1 22 ∧ σ.1 22 ≤ 1499 := hT.1 22
  have W22 : σ.1 22 = σ.1 22 := rfl
  unfold W_X13_activate
  refine ⟨(show 0 ≤ σ.1 13 ∧ σ.1 13 < 1501 from by omega), ?_⟩
  replace hT := mT_a (k := 31) (j := (σ.1 13)) hT (show (0 : Int) ≤ (σ.1 22) ∧ (σ.1 22) ≤ 1499 from by omega)
  refine ⟨(⟨by omega, by omega⟩ : rg (σ.1 13 + 1)), ?_⟩
  replace hT := mT_v (i := 13) hT (show 0 ≤ (σ.1 13 + 1) ∧ (σ.1 13 + 1) ≤ 1500 from by omega)
  exact ⟨hT, (show ((σ.1 13 + 1)) = (σ.1 13) + 1 from by omega)⟩
set_option maxHeartbeats 1000000 in
theorem K_X13_markOf {n1 : Int} {σ : S0} (hT : m_T σ) (p1 : 0 ≤ n1) (p2 : n1 < 1500) : W_X13_markOf n1 σ (fun (τ : S0) => (m_T τ)) := by
  intro P7 h7
  have l_7 : ∀ (m_7 : Nat) (u2_7 : Int) (τ_7 : S0), 30301 - u2_7 < (m_7 : Int) → (m_T τ_7) → (0 ≤ u2_7) → (u2_7 ≤ 30300) → P7 n1 u2_7 τ_7 := by
    intro m_7
    induction m_7 with
    | zero =>
      intro u2_7 τ_7 hm hT i7_1 i7_2
      exfalso; omega
    | succ m_7 ih_7 =>
      intro u2_7 τ_7 hm_7 hT i7_1 i7_2
      refine h7 _ _ _ ?_
      refine ⟨(show 0 ≤ n1 ∧ n1 < 1501 from by omega), ?_⟩
      intro x4 r_x4 e_x4
      have b_x4 : 0 ≤ x4 ∧ x4 ≤ 30000 := by rw [e_x4]; exact hT.2 14 _
      intro x5 r_x5 e_x5
      have b_x5 : 0 ≤ x5 ∧ x5 ≤ 300 := by rw [e_x5]; exact hT.2 15 _
      refine ⟨(⟨by omega, by omega⟩ : rg (x4 + x5)), ?_⟩
      refine ⟨fun c7 => ?_, fun c7 => ?_⟩
      ·
        exact hT
      ·
        refine ⟨(show 0 ≤ u2_7 ∧ u2_7 < 30400 from by omega), ?_⟩
        intro x9 r_x9 e_x9
        have b_x9 : 0 ≤ x9 ∧ x9 ≤ 999 := by rw [e_x9]; exact hT.2 16 _
        refine ⟨(show 0 ≤ x9 ∧ x9 < 1001 from by omega), ?_⟩
        replace hT := mT_a (k := 38) (j := x9) hT (show (0 : Int) ≤ 1 ∧ 1 ≤ 1 from by omega)
        refine ⟨(⟨by omega, by omega⟩ : rg (u2_7 + 1)), ?_⟩
        exact ih_7 _ _ (show (30301 - (u2_7 + 1) : Int) < ((m_7 : Nat) : Int) from by (omega)) hT (show 0 ≤ (u2_7 + 1) from by omega) (show (u2_7 + 1) ≤ 30300 from by omega)
  refine ⟨(show 0 ≤ n1 ∧ n1 < 1501 from by omega), ?_⟩
  intro x2 r_x2 e_x2
  have b_x2 : 0 ≤ x2 ∧ x2 ≤ 30000 := by rw [e_x2]; exact hT.2 14 _
  exact l_7 ((30301 - x2 : Int).toNat + 1) _ _ (show (30301 - x2 : Int) < (((30301 - x2 : Int).toNat + 1 : Nat) : Int) from by (omega)) hT (show 0 ≤ x2 from by omega) (show x2 ≤ 30300 from by omega)
set_option maxHeartbeats 1000000 in
theorem K_X13_isMandatory {n1 : Int} {n2 : Int} {σ : S0} (hT : m_T σ) (p1 : 0 ≤ n1) (p2 : n1 < 1500) (p3 : σ.2.1 18 n1 + σ.2.1 19 n1 ≤ 90100) : W_X13_isMandatory n1 n2 σ (fun (x : Int) => (0 ≤ x ∧ x ≤ 1)) := by
  intro P10 h10
  have l_10 : ∀ (m_10 : Nat) (u3_10 : Int) (u4_10 : Int), 90101 - u4_10 < (m_10 : Int) → (0 ≤ u3_10 ∧ u3_10 ≤ 1) → (0 ≤ u4_10) → (u4_10 ≤ 90100) → P10 n1 n2 u3_10 u4_10 := by
    intro m_10
    induction m_10 with
    | zero =>
      intro u3_10 u4_10 hm i10_1 i10_2 i10_3
      exfalso; omega
    | succ m_10 ih_10 =>
      intro u3_10 u4_10 hm_10 i10_1 i10_2 i10_3
      refine h10 _ _ _ _ ?_
      refine ⟨(show 0 ≤ n1 ∧ n1 < 1501 from by omega), ?_⟩
      intro x4 r_x4 e_x4
      have b_x4 : 0 ≤ x4 ∧ x4 ≤ 90000 := by rw [e_x4]; exact hT.2 18 _
      intro x5 r_x5 e_x5
      have b_x5 : 0 ≤ x5 ∧ x5 ≤ 60 := by rw [e_x5]; exact hT.2 19 _
      refine ⟨(⟨by omega, by omega⟩ : rg (x4 + x5)), ?_⟩
      refine ⟨fun c7 => ?_, fun c7 => ?_⟩
      ·
        refine ⟨(show 0 ≤ u3_10 ∧ u3_10 ≤ 1 from by omega), ?_⟩
        exact (show 0 ≤ u3_10 ∧ u3_10 ≤ 1 from by omega)
      ·
        refine ⟨fun c9 => ?_, fun c9 => ?_⟩
        ·
          refine ⟨(⟨by omega, by omega⟩ : rg (u4_10 + 1)), ?_⟩
          exact ih_10 _ _ (show (90101 - (u4_10 + 1) : Int) < ((m_10 : Nat) : Int) from by (omega)) (show 0 ≤ 1 ∧ 1 ≤ 1 from by omega) (show 0 ≤ (u4_10 + 1) from by omega) (show (u4_10 + 1) ≤ 90100 from by omega)
        ·
          refine ⟨(show 0 ≤ u4_10 ∧ u4_10 < 90100 from by omega), ?_⟩
          intro x12 r_x12 e_x12
          have b_x12 : 0 ≤ x12 ∧ x12 ≤ 1499 := by rw [e_x12]; exact hT.2 20 _
          refine ⟨fun c13 => ?_, fun c13 => ?_⟩
          ·
            refine ⟨(⟨by omega, by omega⟩ : rg (u4_10 + 1)), ?_⟩
            exact ih_10 _ _ (show (90101 - (u4_10 + 1) : Int) < ((m_10 : Nat) : Int) from by (omega)) (show 0 ≤ 0 ∧ 0 ≤ 1 from by omega) (show 0 ≤ (u4_10 + 1) from by omega) (show (u4_10 + 1) ≤ 90100 from by omega)
          ·
            refine ⟨(⟨by omega, by omega⟩ : rg (u4_10 + 1)), ?_⟩
            exact ih_10 _ _ (show (90101 - (u4_10 + 1) : Int) < ((m_10 : Nat) : Int) from by (omega)) (show 0 ≤ 1 ∧ 1 ≤ 1 from by omega) (show 0 ≤ (u4_10 + 1) from by omega) (show (u4_10 + 1) ≤ 90100 from by omega)
  refine ⟨(show 0 ≤ n1 ∧ n1 < 1501 from by omega), ?_⟩
  intro x2 r_x2 e_x2
  have b_x2 : 0 ≤ x2 ∧ x2 ≤ 90000 := by rw [e_x2]; exact hT.2 18 _
  exact l_10 ((90101 - x2 : Int).toNat + 1) _ _ (show (90101 - x2 : Int) < (((90101 - x2 : Int).toNat + 1 : Nat) : Int) from by (omega)) (show 0 ≤ 0 ∧ 0 ≤ 1 from by omega) (show 0 ≤ x2 from by omega) (show x2 ≤ 90100 from by omega)
