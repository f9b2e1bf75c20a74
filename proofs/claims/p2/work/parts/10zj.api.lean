-- pure: the grammar, the chart and the definitions between calls
def c_LR (In0 : Int → Prop) (σ : S0) : Prop := ((σ.1 47) ≤ (σ.1 7)) ∧ ((σ.1 45) ≤ σ.2.1 14 (σ.1 47) + 1) ∧ ((σ.1 46) ≤ (σ.1 47)) ∧ (c_Uk (σ.1 47) In0 σ)
def c_WZ (σ : S0) : Prop := ∀ s : Int, 0 ≤ s → s < 1000 → (∀ i : Int, 0 ≤ i → i < (σ.1 50) → σ.2.1 77 i ≠ s) → σ.2.2 3 s = 0
def c_GM (In0 : Int → Prop) (σ : S0) : Prop := c_LR In0 σ ∧ c_WZ σ
theorem c_LR_h {In0 : Int → Prop} {σ τ : S0} {wv wa wb : List Nat} (h : c_LR In0 σ) (hf : f_r wv wa wb σ τ) (d1 : [3, 4, 7, 45, 46, 47].all (fun i => !wv.contains i) = true) (d2 : [2, 3, 4, 8, 10, 13, 14, 15, 16, 27, 28, 29, 67, 68, 69, 70, 71, 72, 73, 74, 75, 76].all (fun i => !wa.contains i) = true) : c_LR In0 τ := by
  have w := fun i hi => hf.1 i (c_fl d1 i hi)
  have g := fun i hi => hf.2.1 i (c_fl d2 i hi)
  obtain ⟨h1, h2, h3, par, nof, In, h4, h5⟩ := h
  unfold c_LR
  rw [w 7 (by decide), w 45 (by decide), w 46 (by decide), w 47 (by decide), g 14 (by decide)]
  exact ⟨h1, h2, h3, par, nof, In, c_Ug_e h4 (fun i hi => w i (by simp only [List.mem_cons, List.mem_nil_iff, or_false] at hi ⊢; omega)) g, h5⟩
theorem c_WZ_h {σ τ : S0} {wv wa wb : List Nat} (h : c_WZ σ) (hf : f_r wv wa wb σ τ) (d1 : [50].all (fun i => !wv.contains i) = true) (d2 : [77].all (fun i => !wa.contains i) = true) (d3 : [3].all (fun i => !wb.contains i) = true) : c_WZ τ := by
  unfold c_WZ
  rw [hf.1 50 (c_fl d1 50 (by decide)), hf.2.1 77 (c_fl d2 77 (by decide)), hf.2.2 3 (c_fl d3 3 (by decide))]
  exact h
theorem c_GM_h {In0 : Int → Prop} {σ τ : S0} {wv wa wb : List Nat} (h : c_GM In0 σ) (hf : f_r wv wa wb σ τ) (d1 : [3, 4, 7, 45, 46, 47, 50].all (fun i => !wv.contains i) = true) (d2 : [2, 3, 4, 8, 10, 13, 14, 15, 16, 27, 28, 29, 67, 68, 69, 70, 71, 72, 73, 74, 75, 76, 77].all (fun i => !wa.contains i) = true) (d3 : [3].all (fun i => !wb.contains i) = true) : c_GM In0 τ := by
  have sb : ∀ {wl L K : List Nat}, L.all (fun i => !wl.contains i) = true → K.all (fun i => L.contains i) = true → K.all (fun i => !wl.contains i) = true := fun {wl L K} a b => by
    rw [List.all_eq_true] at a b ⊢
    intro i hi
    exact a i (List.elem_iff.mp (b i hi))
  exact ⟨c_LR_h h.1 hf (sb d1 (by decide)) (sb d2 (by decide)), c_WZ_h h.2 hf (sb d1 (by decide)) (sb d2 (by decide)) d3⟩
theorem c_LR_s {σ : S0} {par nof : Int → Int} {In In0 : Int → Prop} (h : c_Rs σ par nof In) (h0 : ∀ r : Int, In0 r → In r) (a : σ.1 45 ≤ σ.2.1 14 (σ.1 47) + 1) (b : σ.1 46 ≤ σ.1 47) : c_LR In0 σ := ⟨h.2.2, a, b, par, nof, In, h.1, h0⟩
set_option maxHeartbeats 4000000 in
theorem K_X12_treesOf {n1 : Int} {In0 : Int → Prop} {σ : S0} (hT : c_T σ) (p1 : 0 ≤ n1) (p2 : n1 < (σ.1 7)) (p3 : J_all (σ.1 7) (σ.1 6) (σ.1 13) (σ.1 14) (σ.1 15) (σ.2.1 13) (σ.2.1 14) (σ.2.1 15) (σ.2.1 16) (σ.2.1 10) (σ.2.1 27) (σ.2.1 28) (σ.2.1 29) (σ.2.1 30) (σ.2.1 31) (σ.2.1 32) (σ.2.1 33) (σ.2.1 34) (σ.2.1 35) (σ.2.1 36) (σ.2.1 37)) (p4 : J_ht (σ.1 3) (σ.2.1 2) (σ.2.1 3) (σ.2.1 5) (σ.2.1 6)) (p5 : J_mn (σ.1 3) (σ.1 5) ((σ.1 7) + 1) (σ.2.1 4)) (p6 : J_rks (σ.1 5) (σ.1 4) (σ.2.1 10) (σ.2.1 11)) (p7 : J_vs (σ.1 6) (σ.1 5) (σ.2.1 15)) (p8 : c_GM In0 σ) : W_X12_treesOf n1 σ (fun (x : Int) (τ : S0) => (c_T τ) ∧ (-2 ≤ x ∧ x ≤ 2) ∧ (c_GM In0 τ) ∧ (x = 1 → ∃ par nof : Int → Int, ∃ In : Int → Prop, (c_Rs τ par nof In ∧ ∀ r : Int, In0 r → In r) ∧ c_GR τ par nof In) ∧ (x = 1 → σ.2.1 14 (n1 + 1) ≤ σ.2.1 14 n1 + 60) ∧ (x = 1 → (τ.1 49) < (σ.1 5))) := by
  have A2 : ∀ j, 0 ≤ σ.2.1 2 j ∧ σ.2.1 2 j ≤ 65535 := fun j => hT.2 2 j
  have A3 : ∀ j, 0 ≤ σ.2.1 3 j ∧ σ.2.1 3 j ≤ 30000 := fun j => hT.2 3 j
  have A4 : ∀ j, (-1000) ≤ σ.2.1 4 j ∧ σ.2.1 4 j ≤ 1499 := fun j => hT.2 4 j
  have A5 : ∀ j, 0 ≤ σ.2.1 5 j ∧ σ.2.1 5 j ≤ 2500 := fun j => hT.2 5 j
  have A6 : ∀ j, 0 ≤ σ.2.1 6 j ∧ σ.2.1 6 j ≤ 2500 := fun j => hT.2 6 j
  have A8 : ∀ j, 0 ≤ σ.2.1 8 j ∧ σ.2.1 8 j ≤ 1 := fun j => hT.2 8 j
  have A10 : ∀ j, (-1) ≤ σ.2.1 10 j ∧ σ.2.1 10 j ≤ 99 := fun j => hT.2 10 j
  have A11 : ∀ j, 0 ≤ σ.2.1 11 j ∧ σ.2.1 11 j ≤ 999 := fun j => hT.2 11 j
  have A13 : ∀ j, 0 ≤ σ.2.1 13 j ∧ σ.2.1 13 j ≤ 4 := fun j => hT.2 13 j
  have A14 : ∀ j, 0 ≤ σ.2.1 14 j ∧ σ.2.1 14 j ≤ 30000 := fun j => hT.2 14 j
  have A15 : ∀ j, 0 ≤ σ.2.1 15 j ∧ σ.2.1 15 j ≤ 999 := fun j => hT.2 15 j
  have A16 : ∀ j, (-1) ≤ σ.2.1 16 j ∧ σ.2.1 16 j ≤ 1499 := fun j => hT.2 16 j
  have A27 : ∀ j, 0 ≤ σ.2.1 27 j ∧ σ.2.1 27 j ≤ 90000 := fun j => hT.2 27 j
  have A28 : ∀ j, 0 ≤ σ.2.1 28 j ∧ σ.2.1 28 j ≤ 60 := fun j => hT.2 28 j
  have A29 : ∀ j, 0 ≤ σ.2.1 29 j ∧ σ.2.1 29 j ≤ 1499 := fun j => hT.2 29 j
  have A30 : ∀ j, 0 ≤ σ.2.1 30 j ∧ σ.2.1 30 j ≤ 20000 := fun j => hT.2 30 j
  have A31 : ∀ j, 0 ≤ σ.2.1 31 j ∧ σ.2.1 31 j ≤ 20000 := fun j => hT.2 31 j
  have A32 : ∀ j, 0 ≤ σ.2.1 32 j ∧ σ.2.1 32 j ≤ 999999 := fun j => hT.2 32 j
  have A33 : ∀ j, 0 ≤ σ.2.1 33 j ∧ σ.2.1 33 j ≤ 20000 := fun j => hT.2 33 j
  have A34 : ∀ j, 0 ≤ σ.2.1 34 j ∧ σ.2.1 34 j ≤ 20000 := fun j => hT.2 34 j
  have A35 : ∀ j, 0 ≤ σ.2.1 35 j ∧ σ.2.1 35 j ≤ 1499 := fun j => hT.2 35 j
  have A36 : ∀ j, 0 ≤ σ.2.1 36 j ∧ σ.2.1 36 j ≤ 20000 := fun j => hT.2 36 j
  have A37 : ∀ j, 0 ≤ σ.2.1 37 j ∧ σ.2.1 37 j ≤ 19999 := fun j => hT.2 37 j
  have A67 : ∀ j, 0 ≤ σ.2.1 67 j ∧ σ.2.1 67 j ≤ 30000 := fun j => hT.2 67 j
  have A68 : ∀ j, 0 ≤ σ.2.1 68 j ∧ σ.2.1 68 j ≤ 30000 := fun j => hT.2 68 j
  have A69 : ∀ j, (-100) ≤ σ.2.1 69 j ∧ σ.2.1 69 j ≤ 999 := fun j => hT.2 69 j
  have A70 : ∀ j, 0 ≤ σ.2.1 70 j ∧ σ.2.1 70 j ≤ 1499 := fun j => hT.2 70 j
  have A71 : ∀ j, 0 ≤ σ.2.1 71 j ∧ σ.2.1 71 j ≤ 1500 := fun j => hT.2 71 j
  have A72 : ∀ j, 0 ≤ σ.2.1 72 j ∧ σ.2.1 72 j ≤ 1500 := fun j => hT.2 72 j
  have A73 : ∀ j, 0 ≤ σ.2.1 73 j ∧ σ.2.1 73 j ≤ 30000 := fun j => hT.2 73 j
  have A74 : ∀ j, 0 ≤ σ.2.1 74 j ∧ σ.2.1 74 j ≤ 30000 := fun j => hT.2 74 j
  have A75 : ∀ j, 0 ≤ σ.2.1 75 j ∧ σ.2.1 75 j ≤ 1499 := fun j => hT.2 75 j
  have A76 : ∀ j, 0 ≤ σ.2.1 76 j ∧ σ.2.1 76 j ≤ 99 := fun j => hT.2 76 j
  have A77 : ∀ j, 0 ≤ σ.2.1 77 j ∧ σ.2.1 77 j ≤ 999 := fun j => hT.2 77 j
  have A78 : ∀ j, (-1) ≤ σ.2.1 78 j ∧ σ.2.1 78 j ≤ 1499 := fun j => hT.2 78 j
  have v3 : 0 ≤ σ.1 3 ∧ σ.1 3 ≤ 2500 := hT.1 3
  have v4 : 0 ≤ σ.1 4 ∧ σ.1 4 ≤ 100 := hT.1 4
  have v5 : 0 ≤ σ.1 5 ∧ σ.1 5 ≤ 1000 := hT.1 5
  have v6 : 0 ≤ σ.1 6 ∧ σ.1 6 ≤ 30000 := hT.1 6
  have v7 : 0 ≤ σ.1 7 ∧ σ.1 7 ≤ 1500 := hT.1 7
  have v13 : 0 ≤ σ.1 13 ∧ σ.1 13 ≤ 90000 := hT.1 13
  have v14 : 0 ≤ σ.1 14 ∧ σ.1 14 ≤ 20000 := hT.1 14
  have v15 : 0 ≤ σ.1 15 ∧ σ.1 15 ≤ 20000 := hT.1 15
  have v45 : 1 ≤ σ.1 45 ∧ σ.1 45 ≤ 30001 := hT.1 45
  have v46 : 0 ≤ σ.1 46 ∧ σ.1 46 ≤ 1500 := hT.1 46
  have v47 : 0 ≤ σ.1 47 ∧ σ.1 47 ≤ 1500 := hT.1 47
  have v48 : (-1) ≤ σ.1 48 ∧ σ.1 48 ≤ 999 := hT.1 48
  have v49 : (-1) ≤ σ.1 49 ∧ σ.1 49 ≤ 999 := hT.1 49
  have v50 : 0 ≤ σ.1 50 ∧ σ.1 50 ≤ 59 := hT.1 50
  have v51 : 0 ≤ σ.1 51 ∧ σ.1 51 ≤ 1500 := hT.1 51
  have v52 : (-1) ≤ σ.1 52 ∧ σ.1 52 ≤ 99 := hT.1 52
  have a14_47 : 0 ≤ σ.2.1 14 (σ.1 47) ∧ σ.2.1 14 (σ.1 47) ≤ 30000 := hT.2 14 _
  have W3 : σ.1 3 = σ.1 3 := rfl
  have W4 : σ.1 4 = σ.1 4 := rfl
  have W5 : σ.1 5 = σ.1 5 := rfl
  have W6 : σ.1 6 = σ.1 6 := rfl
  have W7 : σ.1 7 = σ.1 7 := rfl
  have W13 : σ.1 13 = σ.1 13 := rfl
  have W14 : σ.1 14 = σ.1 14 := rfl
  have W15 : σ.1 15 = σ.1 15 := rfl
  have G2 : σ.2.1 2 = σ.2.1 2 := rfl
  have G3 : σ.2.1 3 = σ.2.1 3 := rfl
  have G4 : σ.2.1 4 = σ.2.1 4 := rfl
  have G5 : σ.2.1 5 = σ.2.1 5 := rfl
  have G6 : σ.2.1 6 = σ.2.1 6 := rfl
  have G8 : σ.2.1 8 = σ.2.1 8 := rfl
  have G10 : σ.2.1 10 = σ.2.1 10 := rfl
  have G11 : σ.2.1 11 = σ.2.1 11 := rfl
  have G13 : σ.2.1 13 = σ.2.1 13 := rfl
  have G14 : σ.2.1 14 = σ.2.1 14 := rfl
  have G15 : σ.2.1 15 = σ.2.1 15 := rfl
  have G16 : σ.2.1 16 = σ.2.1 16 := rfl
  have G27 : σ.2.1 27 = σ.2.1 27 := rfl
  have G28 : σ.2.1 28 = σ.2.1 28 := rfl
  have G29 : σ.2.1 29 = σ.2.1 29 := rfl
  have G30 : σ.2.1 30 = σ.2.1 30 := rfl
  have G31 : σ.2.1 31 = σ.2.1 31 := rfl
  have G32 : σ.2.1 32 = σ.2.1 32 := rfl
  have G33 : σ.2.1 33 = σ.2.1 33 := rfl
  have G34 : σ.2.1 34 = σ.2.1 34 := rfl
  have G35 : σ.2.1 35 = σ.2.1 35 := rfl
  have G36 : σ.2.1 36 = σ.2.1 36 := rfl
  have G37 : σ.2.1 37 = σ.2.1 37 := rfl
  have lr := p8.1
  have HT : J_ht (σ.1 3) (σ.2.1 2) (σ.2.1 3) (σ.2.1 5) (σ.2.1 6) := p4
  have MN : J_mn (σ.1 3) (σ.1 5) ((σ.1 7) + 1) (σ.2.1 4) := p5
  have TX : J_vs (σ.1 6) (σ.1 5) (σ.2.1 15) := p7
  have RKS : J_rks (σ.1 5) (σ.1 4) (σ.2.1 10) (σ.2.1 11) := p6
  have CJ : J_all (σ.1 7) (σ.1 6) (σ.1 13) (σ.1 14) (σ.1 15) (σ.2.1 13) (σ.2.1 14) (σ.2.1 15) (σ.2.1 16) (σ.2.1 10) (σ.2.1 27) (σ.2.1 28) (σ.2.1 29) (σ.2.1 30) (σ.2.1 31) (σ.2.1 32) (σ.2.1 33) (σ.2.1 34) (σ.2.1 35) (σ.2.1 36) (σ.2.1 37) := p3
  have CJ_0 := CJ
  have HT_0 := HT
  have MN_0 := MN
  have RKS_0 := RKS
  have TX_0 := TX
  unfold W_X12_treesOf
  refine ⟨_, K_X3_lengthOf hT (show 0 ≤ n1 from by (first | omega | (simp only [st_s] <;> omega) | assumption | omega | fail)) (show n1 < 1500 from by (first | omega | (simp only [st_s] <;> omega) | assumption | omega | fail)), ?_⟩
  intro x2 r_x2 hq
  have q1_1 := hq
  replace q1_1 : x2 = σ.2.1 14 (n1 + 1) - σ.2.1 14 n1 := q1_1
  refine ⟨fun c4 => ?_, fun c4 => ?_⟩
  ·
    refine ⟨_, K_X8_learn hT (show J_all (σ.1 7) (σ.1 6) (σ.1 13) (σ.1 14) (σ.1 15) (σ.2.1 13) (σ.2.1 14) (σ.2.1 15) (σ.2.1 16) (σ.2.1 10) (σ.2.1 27) (σ.2.1 28) (σ.2.1 29) (σ.2.1 30) (σ.2.1 31) (σ.2.1 32) (σ.2.1 33) (σ.2.1 34) (σ.2.1 35) (σ.2.1 36) (σ.2.1 37) from CJ) (show J_ht (σ.1 3) (σ.2.1 2) (σ.2.1 3) (σ.2.1 5) (σ.2.1 6) from HT) (show J_mn (σ.1 3) (σ.1 5) ((σ.1 7) + 1) (σ.2.1 4) from MN) (show J_rks (σ.1 5) (σ.1 4) (σ.2.1 10) (σ.2.1 11) from RKS) (show J_vs (σ.1 6) (σ.1 5) (σ.2.1 15) from TX) (show (σ.1 47) ≤ (σ.1 7) from by exact lr.1) (show (σ.1 45) ≤ σ.2.1 14 (σ.1 47) + 1 from by exact lr.2.1) (show (σ.1 46) ≤ (σ.1 47) from by exact lr.2.2.1) (show c_Uk (σ.1 47) In0 σ from by exact lr.2.2.2), ?_⟩
    intro τ7 hn_τ7 hf_τ7 hq
    obtain ⟨hT, q5_1, q5_2, q5_3, q5_4, q5_5, q5_6, q5_7, q5_8, q5_9, q5_10⟩ := hq
    replace q5_1 : (τ7.1 47) = (σ.1 7) := q5_1
    replace q5_2 : (τ7.1 47) ≤ (τ7.1 7) := q5_2
    replace q5_3 : (τ7.1 45) ≤ τ7.2.1 14 (τ7.1 47) + 1 := q5_3
    replace q5_4 : (τ7.1 46) ≤ (τ7.1 47) := q5_4
    replace q5_5 : c_Uk (τ7.1 47) In0 τ7 := q5_5
    replace q5_6 : (τ7.1 48) = -1 ∨ g_pe τ7 (τ7.1 48) := q5_6
    replace q5_7 : (τ7.1 48) < (σ.1 5) := q5_7
    replace q5_8 : (τ7.1 49) < (σ.1 5) := q5_8
    replace q5_9 : g_wf τ7 (τ7.1 49) := q5_9
    replace q5_10 : (τ7.1 49) = -1 ∨ g_we τ7 (τ7.1 49) := q5_10
    have w3_τ7 : τ7.1 3 = σ.1 3 := hf_τ7.1 3 (by decide)
    have w4_τ7 : τ7.1 4 = σ.1 4 := hf_τ7.1 4 (by decide)
    have w5_τ7 : τ7.1 5 = σ.1 5 := hf_τ7.1 5 (by decide)
    have w6_τ7 : τ7.1 6 = σ.1 6 := hf_τ7.1 6 (by decide)
    have w7_τ7 : τ7.1 7 = σ.1 7 := hf_τ7.1 7 (by decide)
    have w13_τ7 : τ7.1 13 = σ.1 13 := hf_τ7.1 13 (by decide)
    have w14_τ7 : τ7.1 14 = σ.1 14 := hf_τ7.1 14 (by decide)
    have w15_τ7 : τ7.1 15 = σ.1 15 := hf_τ7.1 15 (by decide)
    have w50_τ7 : τ7.1 50 = σ.1 50 := hf_τ7.1 50 (by decide)
    have w51_τ7 : τ7.1 51 = σ.1 51 := hf_τ7.1 51 (by decide)
    have w52_τ7 : τ7.1 52 = σ.1 52 := hf_τ7.1 52 (by decide)
    have g2_τ7 : τ7.2.1 2 = σ.2.1 2 := hf_τ7.2.1 2 (by decide)
    have g3_τ7 : τ7.2.1 3 = σ.2.1 3 := hf_τ7.2.1 3 (by decide)
    have g4_τ7 : τ7.2.1 4 = σ.2.1 4 := hf_τ7.2.1 4 (by decide)
    have g5_τ7 : τ7.2.1 5 = σ.2.1 5 := hf_τ7.2.1 5 (by decide)
    have g6_τ7 : τ7.2.1 6 = σ.2.1 6 := hf_τ7.2.1 6 (by decide)
    have g8_τ7 : τ7.2.1 8 = σ.2.1 8 := hf_τ7.2.1 8 (by decide)
    have g10_τ7 : τ7.2.1 10 = σ.2.1 10 := hf_τ7.2.1 10 (by decide)
    have g11_τ7 : τ7.2.1 11 = σ.2.1 11 := hf_τ7.2.1 11 (by decide)
    have g13_τ7 : τ7.2.1 13 = σ.2.1 13 := hf_τ7.2.1 13 (by decide)
    have g14_τ7 : τ7.2.1 14 = σ.2.1 14 := hf_τ7.2.1 14 (by decide)
    have g15_τ7 : τ7.2.1 15 = σ.2.1 15 := hf_τ7.2.1 15 (by decide)
    have g16_τ7 : τ7.2.1 16 = σ.2.1 16 := hf_τ7.2.1 16 (by decide)
    have g27_τ7 : τ7.2.1 27 = σ.2.1 27 := hf_τ7.2.1 27 (by decide)
    have g28_τ7 : τ7.2.1 28 = σ.2.1 28 := hf_τ7.2.1 28 (by decide)
    have g29_τ7 : τ7.2.1 29 = σ.2.1 29 := hf_τ7.2.1 29 (by decide)
    have g30_τ7 : τ7.2.1 30 = σ.2.1 30 := hf_τ7.2.1 30 (by decide)
    have g31_τ7 : τ7.2.1 31 = σ.2.1 31 := hf_τ7.2.1 31 (by decide)
    have g32_τ7 : τ7.2.1 32 = σ.2.1 32 := hf_τ7.2.1 32 (by decide)
    have g33_τ7 : τ7.2.1 33 = σ.2.1 33 := hf_τ7.2.1 33 (by decide)
    have g34_τ7 : τ7.2.1 34 = σ.2.1 34 := hf_τ7.2.1 34 (by decide)
    have g35_τ7 : τ7.2.1 35 = σ.2.1 35 := hf_τ7.2.1 35 (by decide)
    have g36_τ7 : τ7.2.1 36 = σ.2.1 36 := hf_τ7.2.1 36 (by decide)
    have g37_τ7 : τ7.2.1 37 = σ.2.1 37 := hf_τ7.2.1 37 (by decide)
    have g77_τ7 : τ7.2.1 77 = σ.2.1 77 := hf_τ7.2.1 77 (by decide)
    have g78_τ7 : τ7.2.1 78 = σ.2.1 78 := hf_τ7.2.1 78 (by decide)
    have W3 : τ7.1 3 = σ.1 3 := by first | exact w3_τ7.trans W3 | omega
    have W4 : τ7.1 4 = σ.1 4 := by first | exact w4_τ7.trans W4 | omega
    have W5 : τ7.1 5 = σ.1 5 := by first | exact w5_τ7.trans W5 | omega
    have W6 : τ7.1 6 = σ.1 6 := by first | exact w6_τ7.trans W6 | omega
    have W7 : τ7.1 7 = σ.1 7 := by first | exact w7_τ7.trans W7 | omega
    have W13 : τ7.1 13 = σ.1 13 := by first | exact w13_τ7.trans W13 | omega
    have W14 : τ7.1 14 = σ.1 14 := by first | exact w14_τ7.trans W14 | omega
    have W15 : τ7.1 15 = σ.1 15 := by first | exact w15_τ7.trans W15 | omega
    have G2 : τ7.2.1 2 = σ.2.1 2 := (g2_τ7).trans G2
    have G3 : τ7.2.1 3 = σ.2.1 3 := (g3_τ7).trans G3
    have G4 : τ7.2.1 4 = σ.2.1 4 := (g4_τ7).trans G4
    have G5 : τ7.2.1 5 = σ.2.1 5 := (g5_τ7).trans G5
    have G6 : τ7.2.1 6 = σ.2.1 6 := (g6_τ7).trans G6
    have G8 : τ7.2.1 8 = σ.2.1 8 := (g8_τ7).trans G8
    have G10 : τ7.2.1 10 = σ.2.1 10 := (g10_τ7).trans G10
    have G11 : τ7.2.1 11 = σ.2.1 11 := (g11_τ7).trans G11
    have G13 : τ7.2.1 13 = σ.2.1 13 := (g13_τ7).trans G13
    have G14 : τ7.2.1 14 = σ.2.1 14 := (g14_τ7).trans G14
    have G15 : τ7.2.1 15 = σ.2.1 15 := (g15_τ7).trans G15
    have G16 : τ7.2.1 16 = σ.2.1 16 := (g16_τ7).trans G16
    have G27 : τ7.2.1 27 = σ.2.1 27 := (g27_τ7).trans G27
    have G28 : τ7.2.1 28 = σ.2.1 28 := (g28_τ7).trans G28
    have G29 : τ7.2.1 29 = σ.2.1 29 := (g29_τ7).trans G29
    have G30 : τ7.2.1 30 = σ.2.1 30 := (g30_τ7).trans G30
    have G31 : τ7.2.1 31 = σ.2.1 31 := (g31_τ7).trans G31
    have G32 : τ7.2.1 32 = σ.2.1 32 := (g32_τ7).trans G32
    have G33 : τ7.2.1 33 = σ.2.1 33 := (g33_τ7).trans G33
    have G34 : τ7.2.1 34 = σ.2.1 34 := (g34_τ7).trans G34
    have G35 : τ7.2.1 35 = σ.2.1 35 := (g35_τ7).trans G35
    have G36 : τ7.2.1 36 = σ.2.1 36 := (g36_τ7).trans G36
    have G37 : τ7.2.1 37 = σ.2.1 37 := (g37_τ7).trans G37
    have HT : J_ht (τ7.1 3) (τ7.2.1 2) (τ7.2.1 3) (τ7.2.1 5) (τ7.2.1 6) := by rw [show (J_ht (τ7.1 3) (τ7.2.1 2) (τ7.2.1 3) (τ7.2.1 5) (τ7.2.1 6)) = (J_ht (σ.1 3) (σ.2.1 2) (σ.2.1 3) (σ.2.1 5) (σ.2.1 6)) from by rw [w3_τ7, g2_τ7, g3_τ7, g5_τ7, g6_τ7]]; exact HT
    have MN : J_mn (τ7.1 3) (τ7.1 5) ((τ7.1 7) + 1) (τ7.2.1 4) := by rw [show (J_mn (τ7.1 3) (τ7.1 5) ((τ7.1 7) + 1) (τ7.2.1 4)) = (J_mn (σ.1 3) (σ.1 5) ((σ.1 7) + 1) (σ.2.1 4)) from by rw [w3_τ7, w5_τ7, w7_τ7, g4_τ7]]; exact MN
    have TX : J_vs (τ7.1 6) (τ7.1 5) (τ7.2.1 15) := by rw [show (J_vs (τ7.1 6) (τ7.1 5) (τ7.2.1 15)) = (J_vs (σ.1 6) (σ.1 5) (σ.2.1 15)) from by rw [w5_τ7, w6_τ7, g15_τ7]]; exact TX
    have RKS : J_rks (τ7.1 5) (τ7.1 4) (τ7.2.1 10) (τ7.2.1 11) := by rw [show (J_rks (τ7.1 5) (τ7.1 4) (τ7.2.1 10) (τ7.2.1 11)) = (J_rks (σ.1 5) (σ.1 4) (σ.2.1 10) (σ.2.1 11)) from by rw [w4_τ7, w5_τ7, g10_τ7, g11_τ7]]; exact RKS
    have CJ : J_all (τ7.1 7) (τ7.1 6) (τ7.1 13) (τ7.1 14) (τ7.1 15) (τ7.2.1 13) (τ7.2.1 14) (τ7.2.1 15) (τ7.2.1 16) (τ7.2.1 10) (τ7.2.1 27) (τ7.2.1 28) (τ7.2.1 29) (τ7.2.1 30) (τ7.2.1 31) (τ7.2.1 32) (τ7.2.1 33) (τ7.2.1 34) (τ7.2.1 35) (τ7.2.1 36) (τ7.2.1 37) := by rw [show (J_all (τ7.1 7) (τ7.1 6) (τ7.1 13) (τ7.1 14) (τ7.1 15) (τ7.2.1 13) (τ7.2.1 14) (τ7.2.1 15) (τ7.2.1 16) (τ7.2.1 10) (τ7.2.1 27) (τ7.2.1 28) (τ7.2.1 29) (τ7.2.1 30) (τ7.2.1 31) (τ7.2.1 32) (τ7.2.1 33) (τ7.2.1 34) (τ7.2.1 35) (τ7.2.1 36) (τ7.2.1 37)) = (J_all (σ.1 7) (σ.1 6) (σ.1 13) (σ.1 14) (σ.1 15) (σ.2.1 13) (σ.2.1 14) (σ.2.1 15) (σ.2.1 16) (σ.2.1 10) (σ.2.1 27) (σ.2.1 28) (σ.2.1 29) (σ.2.1 30) (σ.2.1 31) (σ.2.1 32) (σ.2.1 33) (σ.2.1 34) (σ.2.1 35) (σ.2.1 36) (σ.2.1 37)) from by rw [w6_τ7, w7_τ7, w13_τ7, w14_τ7, w15_τ7, g10_τ7, g13_τ7, g14_τ7, g15_τ7, g16_τ7, g27_τ7, g28_τ7, g29_τ7, g30_τ7, g31_τ7, g32_τ7, g33_τ7, g34_τ7, g35_τ7, g36_τ7, g37_τ7]]; exact CJ
    have A2 : ∀ j, 0 ≤ τ7.2.1 2 j ∧ τ7.2.1 2 j ≤ 65535 := fun j => hT.2 2 j
    have A3 : ∀ j, 0 ≤ τ7.2.1 3 j ∧ τ7.2.1 3 j ≤ 30000 := fun j => hT.2 3 j
    have A4 : ∀ j, (-1000) ≤ τ7.2.1 4 j ∧ τ7.2.1 4 j ≤ 1499 := fun j => hT.2 4 j
    have A5 : ∀ j, 0 ≤ τ7.2.1 5 j ∧ τ7.2.1 5 j ≤ 2500 := fun j => hT.2 5 j
    have A6 : ∀ j, 0 ≤ τ7.2.1 6 j ∧ τ7.2.1 6 j ≤ 2500 := fun j => hT.2 6 j
    have A8 : ∀ j, 0 ≤ τ7.2.1 8 j ∧ τ7.2.1 8 j ≤ 1 := fun j => hT.2 8 j
    have A10 : ∀ j, (-1) ≤ τ7.2.1 10 j ∧ τ7.2.1 10 j ≤ 99 := fun j => hT.2 10 j
    have A11 : ∀ j, 0 ≤ τ7.2.1 11 j ∧ τ7.2.1 11 j ≤ 999 := fun j => hT.2 11 j
    have A13 : ∀ j, 0 ≤ τ7.2.1 13 j ∧ τ7.2.1 13 j ≤ 4 := fun j => hT.2 13 j
    have A14 : ∀ j, 0 ≤ τ7.2.1 14 j ∧ τ7.2.1 14 j ≤ 30000 := fun j => hT.2 14 j
    have A15 : ∀ j, 0 ≤ τ7.2.1 15 j ∧ τ7.2.1 15 j ≤ 999 := fun j => hT.2 15 j
    have A16 : ∀ j, (-1) ≤ τ7.2.1 16 j ∧ τ7.2.1 16 j ≤ 1499 := fun j => hT.2 16 j
    have A27 : ∀ j, 0 ≤ τ7.2.1 27 j ∧ τ7.2.1 27 j ≤ 90000 := fun j => hT.2 27 j
    have A28 : ∀ j, 0 ≤ τ7.2.1 28 j ∧ τ7.2.1 28 j ≤ 60 := fun j => hT.2 28 j
    have A29 : ∀ j, 0 ≤ τ7.2.1 29 j ∧ τ7.2.1 29 j ≤ 1499 := fun j => hT.2 29 j
    have A30 : ∀ j, 0 ≤ τ7.2.1 30 j ∧ τ7.2.1 30 j ≤ 20000 := fun j => hT.2 30 j
    have A31 : ∀ j, 0 ≤ τ7.2.1 31 j ∧ τ7.2.1 31 j ≤ 20000 := fun j => hT.2 31 j
    have A32 : ∀ j, 0 ≤ τ7.2.1 32 j ∧ τ7.2.1 32 j ≤ 999999 := fun j => hT.2 32 j
    have A33 : ∀ j, 0 ≤ τ7.2.1 33 j ∧ τ7.2.1 33 j ≤ 20000 := fun j => hT.2 33 j
    have A34 : ∀ j, 0 ≤ τ7.2.1 34 j ∧ τ7.2.1 34 j ≤ 20000 := fun j => hT.2 34 j
    have A35 : ∀ j, 0 ≤ τ7.2.1 35 j ∧ τ7.2.1 35 j ≤ 1499 := fun j => hT.2 35 j
    have A36 : ∀ j, 0 ≤ τ7.2.1 36 j ∧ τ7.2.1 36 j ≤ 20000 := fun j => hT.2 36 j
    have A37 : ∀ j, 0 ≤ τ7.2.1 37 j ∧ τ7.2.1 37 j ≤ 19999 := fun j => hT.2 37 j
    have A67 : ∀ j, 0 ≤ τ7.2.1 67 j ∧ τ7.2.1 67 j ≤ 30000 := fun j => hT.2 67 j
    have A68 : ∀ j, 0 ≤ τ7.2.1 68 j ∧ τ7.2.1 68 j ≤ 30000 := fun j => hT.2 68 j
    have A69 : ∀ j, (-100) ≤ τ7.2.1 69 j ∧ τ7.2.1 69 j ≤ 999 := fun j => hT.2 69 j
    have A70 : ∀ j, 0 ≤ τ7.2.1 70 j ∧ τ7.2.1 70 j ≤ 1499 := fun j => hT.2 70 j
    have A71 : ∀ j, 0 ≤ τ7.2.1 71 j ∧ τ7.2.1 71 j ≤ 1500 := fun j => hT.2 71 j
    have A72 : ∀ j, 0 ≤ τ7.2.1 72 j ∧ τ7.2.1 72 j ≤ 1500 := fun j => hT.2 72 j
    have A73 : ∀ j, 0 ≤ τ7.2.1 73 j ∧ τ7.2.1 73 j ≤ 30000 := fun j => hT.2 73 j
    have A74 : ∀ j, 0 ≤ τ7.2.1 74 j ∧ τ7.2.1 74 j ≤ 30000 := fun j => hT.2 74 j
    have A75 : ∀ j, 0 ≤ τ7.2.1 75 j ∧ τ7.2.1 75 j ≤ 1499 := fun j => hT.2 75 j
    have A76 : ∀ j, 0 ≤ τ7.2.1 76 j ∧ τ7.2.1 76 j ≤ 99 := fun j => hT.2 76 j
    have A77 : ∀ j, 0 ≤ τ7.2.1 77 j ∧ τ7.2.1 77 j ≤ 999 := fun j => hT.2 77 j
    have A78 : ∀ j, (-1) ≤ τ7.2.1 78 j ∧ τ7.2.1 78 j ≤ 1499 := fun j => hT.2 78 j
    have v3 : 0 ≤ τ7.1 3 ∧ τ7.1 3 ≤ 2500 := hT.1 3
    have v4 : 0 ≤ τ7.1 4 ∧ τ7.1 4 ≤ 100 := hT.1 4
    have v5 : 0 ≤ τ7.1 5 ∧ τ7.1 5 ≤ 1000 := hT.1 5
    have v6 : 0 ≤ τ7.1 6 ∧ τ7.1 6 ≤ 30000 := hT.1 6
    have v7 : 0 ≤ τ7.1 7 ∧ τ7.1 7 ≤ 1500 := hT.1 7
    have v13 : 0 ≤ τ7.1 13 ∧ τ7.1 13 ≤ 90000 := hT.1 13
    have v14 : 0 ≤ τ7.1 14 ∧ τ7.1 14 ≤ 20000 := hT.1 14
    have v15 : 0 ≤ τ7.1 15 ∧ τ7.1 15 ≤ 20000 := hT.1 15
    have v45 : 1 ≤ τ7.1 45 ∧ τ7.1 45 ≤ 30001 := hT.1 45
    have v46 : 0 ≤ τ7.1 46 ∧ τ7.1 46 ≤ 1500 := hT.1 46
    have v47 : 0 ≤ τ7.1 47 ∧ τ7.1 47 ≤ 1500 := hT.1 47
    have v48 : (-1) ≤ τ7.1 48 ∧ τ7.1 48 ≤ 999 := hT.1 48
    have v49 : (-1) ≤ τ7.1 49 ∧ τ7.1 49 ≤ 999 := hT.1 49
    have v50 : 0 ≤ τ7.1 50 ∧ τ7.1 50 ≤ 59 := hT.1 50
    have v51 : 0 ≤ τ7.1 51 ∧ τ7.1 51 ≤ 1500 := hT.1 51
    have v52 : (-1) ≤ τ7.1 52 ∧ τ7.1 52 ≤ 99 := hT.1 52
    have a14_47 : 0 ≤ τ7.2.1 14 (τ7.1 47) ∧ τ7.2.1 14 (τ7.1 47) ≤ 30000 := hT.2 14 _
    have q5x := q5_5
    obtain ⟨par, nof, In, hU, hI⟩ := q5x
    have rs7 : c_Rs τ7 par nof In := ⟨hU, q5_6, by omega⟩
    have o14 := G14
    refine ⟨_, K_X1_takeStatement hT (show 0 ≤ n1 from by (first | omega | (simp only [st_s] <;> omega) | assumption | omega | fail)) (show n1 < (τ7.1 7) from by (first | omega | (simp only [st_s] <;> omega) | assumption | omega | fail)) (show J_all (τ7.1 7) (τ7.1 6) (τ7.1 13) (τ7.1 14) (τ7.1 15) (τ7.2.1 13) (τ7.2.1 14) (τ7.2.1 15) (τ7.2.1 16) (τ7.2.1 10) (τ7.2.1 27) (τ7.2.1 28) (τ7.2.1 29) (τ7.2.1 30) (τ7.2.1 31) (τ7.2.1 32) (τ7.2.1 33) (τ7.2.1 34) (τ7.2.1 35) (τ7.2.1 36) (τ7.2.1 37) from CJ) (show J_rks (τ7.1 5) (τ7.1 4) (τ7.2.1 10) (τ7.2.1 11) from RKS) (show J_vs (τ7.1 6) (τ7.1 5) (τ7.2.1 15) from TX) (show ∀ s : Int, 0 ≤ s → s < 1000 → (∀ i : Int, 0 ≤ i → i < (τ7.1 50) → τ7.2.1 77 i ≠ s) → τ7.2.2 3 s = 0 from by (rw [w50_τ7, g77_τ7, hf_τ7.2.2 3 (by decide)]; exact p8.2)) (show τ7.2.1 14 (n1 + 1) ≤ τ7.2.1 14 n1 + 60 from by (rw [o14]; omega)) (show (τ7.1 49) < (τ7.1 5) from by (first | omega | (simp only [st_s] <;> omega) | assumption | omega | fail)), ?_⟩
    intro τ10 hn_τ10 hf_τ10 hq
    obtain ⟨hT, q8_1, q8_2, q8_3, q8_4, q8_5⟩ := hq
    replace q8_1 : ∀ s : Int, 0 ≤ s → s < 1000 → τ10.2.2 3 s = 0 := q8_1
    replace q8_2 : (τ10.1 52) < (τ7.1 4) := q8_2
    replace q8_3 : (τ10.1 50) = τ7.2.1 14 (n1 + 1) - τ7.2.1 14 n1 - 1 := q8_3
    replace q8_4 : (τ10.1 51) = n1 := q8_4
    replace q8_5 : ∀ i : Int, 0 ≤ i → i < (τ10.1 50) → 0 ≤ τ10.2.1 78 i → τ10.2.1 78 i < (τ7.1 7) ∧ τ7.2.1 13 (τ10.2.1 78 i) = 0 := q8_5
    have w3_τ10 : τ10.1 3 = τ7.1 3 := hf_τ10.1 3 (by decide)
    have w4_τ10 : τ10.1 4 = τ7.1 4 := hf_τ10.1 4 (by decide)
    have w5_τ10 : τ10.1 5 = τ7.1 5 := hf_τ10.1 5 (by decide)
    have w6_τ10 : τ10.1 6 = τ7.1 6 := hf_τ10.1 6 (by decide)
    have w7_τ10 : τ10.1 7 = τ7.1 7 := hf_τ10.1 7 (by decide)
    have w13_τ10 : τ10.1 13 = τ7.1 13 := hf_τ10.1 13 (by decide)
    have w14_τ10 : τ10.1 14 = τ7.1 14 := hf_τ10.1 14 (by decide)
    have w15_τ10 : τ10.1 15 = τ7.1 15 := hf_τ10.1 15 (by decide)
    have w45_τ10 : τ10.1 45 = τ7.1 45 := hf_τ10.1 45 (by decide)
    have w46_τ10 : τ10.1 46 = τ7.1 46 := hf_τ10.1 46 (by decide)
    have w47_τ10 : τ10.1 47 = τ7.1 47 := hf_τ10.1 47 (by decide)
    have w48_τ10 : τ10.1 48 = τ7.1 48 := hf_τ10.1 48 (by decide)
    have w49_τ10 : τ10.1 49 = τ7.1 49 := hf_τ10.1 49 (by decide)
    have g2_τ10 : τ10.2.1 2 = τ7.2.1 2 := hf_τ10.2.1 2 (by decide)
    have g3_τ10 : τ10.2.1 3 = τ7.2.1 3 := hf_τ10.2.1 3 (by decide)
    have g4_τ10 : τ10.2.1 4 = τ7.2.1 4 := hf_τ10.2.1 4 (by decide)
    have g5_τ10 : τ10.2.1 5 = τ7.2.1 5 := hf_τ10.2.1 5 (by decide)
    have g6_τ10 : τ10.2.1 6 = τ7.2.1 6 := hf_τ10.2.1 6 (by decide)
    have g8_τ10 : τ10.2.1 8 = τ7.2.1 8 := hf_τ10.2.1 8 (by decide)
    have g10_τ10 : τ10.2.1 10 = τ7.2.1 10 := hf_τ10.2.1 10 (by decide)
    have g11_τ10 : τ10.2.1 11 = τ7.2.1 11 := hf_τ10.2.1 11 (by decide)
    have g13_τ10 : τ10.2.1 13 = τ7.2.1 13 := hf_τ10.2.1 13 (by decide)
    have g14_τ10 : τ10.2.1 14 = τ7.2.1 14 := hf_τ10.2.1 14 (by decide)
    have g15_τ10 : τ10.2.1 15 = τ7.2.1 15 := hf_τ10.2.1 15 (by decide)
    have g16_τ10 : τ10.2.1 16 = τ7.2.1 16 := hf_τ10.2.1 16 (by decide)
    have g27_τ10 : τ10.2.1 27 = τ7.2.1 27 := hf_τ10.2.1 27 (by decide)
    have g28_τ10 : τ10.2.1 28 = τ7.2.1 28 := hf_τ10.2.1 28 (by decide)
    have g29_τ10 : τ10.2.1 29 = τ7.2.1 29 := hf_τ10.2.1 29 (by decide)
    have g30_τ10 : τ10.2.1 30 = τ7.2.1 30 := hf_τ10.2.1 30 (by decide)
    have g31_τ10 : τ10.2.1 31 = τ7.2.1 31 := hf_τ10.2.1 31 (by decide)
    have g32_τ10 : τ10.2.1 32 = τ7.2.1 32 := hf_τ10.2.1 32 (by decide)
    have g33_τ10 : τ10.2.1 33 = τ7.2.1 33 := hf_τ10.2.1 33 (by decide)
    have g34_τ10 : τ10.2.1 34 = τ7.2.1 34 := hf_τ10.2.1 34 (by decide)
    have g35_τ10 : τ10.2.1 35 = τ7.2.1 35 := hf_τ10.2.1 35 (by decide)
    have g36_τ10 : τ10.2.1 36 = τ7.2.1 36 := hf_τ10.2.1 36 (by decide)
    have g37_τ10 : τ10.2.1 37 = τ7.2.1 37 := hf_τ10.2.1 37 (by decide)
    have g67_τ10 : τ10.2.1 67 = τ7.2.1 67 := hf_τ10.2.1 67 (by decide)
    have g68_τ10 : τ10.2.1 68 = τ7.2.1 68 := hf_τ10.2.1 68 (by decide)
    have g69_τ10 : τ10.2.1 69 = τ7.2.1 69 := hf_τ10.2.1 69 (by decide)
    have g70_τ10 : τ10.2.1 70 = τ7.2.1 70 := hf_τ10.2.1 70 (by decide)
    have g71_τ10 : τ10.2.1 71 = τ7.2.1 71 := hf_τ10.2.1 71 (by decide)
    have g72_τ10 : τ10.2.1 72 = τ7.2.1 72 := hf_τ10.2.1 72 (by decide)
    have g73_τ10 : τ10.2.1 73 = τ7.2.1 73 := hf_τ10.2.1 73 (by decide)
    have g74_τ10 : τ10.2.1 74 = τ7.2.1 74 := hf_τ10.2.1 74 (by decide)
    have g75_τ10 : τ10.2.1 75 = τ7.2.1 75 := hf_τ10.2.1 75 (by decide)
    have g76_τ10 : τ10.2.1 76 = τ7.2.1 76 := hf_τ10.2.1 76 (by decide)
    have W3 : τ10.1 3 = σ.1 3 := by first | exact w3_τ10.trans W3 | omega
    have W4 : τ10.1 4 = σ.1 4 := by first | exact w4_τ10.trans W4 | omega
    have W5 : τ10.1 5 = σ.1 5 := by first | exact w5_τ10.trans W5 | omega
    have W6 : τ10.1 6 = σ.1 6 := by first | exact w6_τ10.trans W6 | omega
    have W7 : τ10.1 7 = σ.1 7 := by first | exact w7_τ10.trans W7 | omega
    have W13 : τ10.1 13 = σ.1 13 := by first | exact w13_τ10.trans W13 | omega
    have W14 : τ10.1 14 = σ.1 14 := by first | exact w14_τ10.trans W14 | omega
    have W15 : τ10.1 15 = σ.1 15 := by first | exact w15_τ10.trans W15 | omega
    have G2 : τ10.2.1 2 = σ.2.1 2 := (g2_τ10).trans G2
    have G3 : τ10.2.1 3 = σ.2.1 3 := (g3_τ10).trans G3
    have G4 : τ10.2.1 4 = σ.2.1 4 := (g4_τ10).trans G4
    have G5 : τ10.2.1 5 = σ.2.1 5 := (g5_τ10).trans G5
    have G6 : τ10.2.1 6 = σ.2.1 6 := (g6_τ10).trans G6
    have G8 : τ10.2.1 8 = σ.2.1 8 := (g8_τ10).trans G8
    have G10 : τ10.2.1 10 = σ.2.1 10 := (g10_τ10).trans G10
    have G11 : τ10.2.1 11 = σ.2.1 11 := (g11_τ10).trans G11
    have G13 : τ10.2.1 13 = σ.2.1 13 := (g13_τ10).trans G13
    have G14 : τ10.2.1 14 = σ.2.1 14 := (g14_τ10).trans G14
    have G15 : τ10.2.1 15 = σ.2.1 15 := (g15_τ10).trans G15
    have G16 : τ10.2.1 16 = σ.2.1 16 := (g16_τ10).trans G16
    have G27 : τ10.2.1 27 = σ.2.1 27 := (g27_τ10).trans G27
    have G28 : τ10.2.1 28 = σ.2.1 28 := (g28_τ10).trans G28
    have G29 : τ10.2.1 29 = σ.2.1 29 := (g29_τ10).trans G29
    have G30 : τ10.2.1 30 = σ.2.1 30 := (g30_τ10).trans G30
    have G31 : τ10.2.1 31 = σ.2.1 31 := (g31_τ10).trans G31
    have G32 : τ10.2.1 32 = σ.2.1 32 := (g32_τ10).trans G32
    have G33 : τ10.2.1 33 = σ.2.1 33 := (g33_τ10).trans G33
    have G34 : τ10.2.1 34 = σ.2.1 34 := (g34_τ10).trans G34
    have G35 : τ10.2.1 35 = σ.2.1 35 := (g35_τ10).trans G35
    have G36 : τ10.2.1 36 = σ.2.1 36 := (g36_τ10).trans G36
    have G37 : τ10.2.1 37 = σ.2.1 37 := (g37_τ10).trans G37
    have y14_47_τ10 : τ10.2.1 14 (τ10.1 47) = (τ7.2.1 14) (τ7.1 47) := by rw [g14_τ10, w47_τ10]
    have HT : J_ht (τ10.1 3) (τ10.2.1 2) (τ10.2.1 3) (τ10.2.1 5) (τ10.2.1 6) := by rw [show (J_ht (τ10.1 3) (τ10.2.1 2) (τ10.2.1 3) (τ10.2.1 5) (τ10.2.1 6)) = (J_ht (τ7.1 3) (τ7.2.1 2) (τ7.2.1 3) (τ7.2.1 5) (τ7.2.1 6)) from by rw [w3_τ10, g2_τ10, g3_τ10, g5_τ10, g6_τ10]]; exact HT
    have MN : J_mn (τ10.1 3) (τ10.1 5) ((τ10.1 7) + 1) (τ10.2.1 4) := by rw [show (J_mn (τ10.1 3) (τ10.1 5) ((τ10.1 7) + 1) (τ10.2.1 4)) = (J_mn (τ7.1 3) (τ7.1 5) ((τ7.1 7) + 1) (τ7.2.1 4)) from by rw [w3_τ10, w5_τ10, w7_τ10, g4_τ10]]; exact MN
    have TX : J_vs (τ10.1 6) (τ10.1 5) (τ10.2.1 15) := by rw [show (J_vs (τ10.1 6) (τ10.1 5) (τ10.2.1 15)) = (J_vs (τ7.1 6) (τ7.1 5) (τ7.2.1 15)) from by rw [w5_τ10, w6_τ10, g15_τ10]]; exact TX
    have RKS : J_rks (τ10.1 5) (τ10.1 4) (τ10.2.1 10) (τ10.2.1 11) := by rw [show (J_rks (τ10.1 5) (τ10.1 4) (τ10.2.1 10) (τ10.2.1 11)) = (J_rks (τ7.1 5) (τ7.1 4) (τ7.2.1 10) (τ7.2.1 11)) from by rw [w4_τ10, w5_τ10, g10_τ10, g11_τ10]]; exact RKS
    have CJ : J_all (τ10.1 7) (τ10.1 6) (τ10.1 13) (τ10.1 14) (τ10.1 15) (τ10.2.1 13) (τ10.2.1 14) (τ10.2.1 15) (τ10.2.1 16) (τ10.2.1 10) (τ10.2.1 27) (τ10.2.1 28) (τ10.2.1 29) (τ10.2.1 30) (τ10.2.1 31) (τ10.2.1 32) (τ10.2.1 33) (τ10.2.1 34) (τ10.2.1 35) (τ10.2.1 36) (τ10.2.1 37) := by rw [show (J_all (τ10.1 7) (τ10.1 6) (τ10.1 13) (τ10.1 14) (τ10.1 15) (τ10.2.1 13) (τ10.2.1 14) (τ10.2.1 15) (τ10.2.1 16) (τ10.2.1 10) (τ10.2.1 27) (τ10.2.1 28) (τ10.2.1 29) (τ10.2.1 30) (τ10.2.1 31) (τ10.2.1 32) (τ10.2.1 33) (τ10.2.1 34) (τ10.2.1 35) (τ10.2.1 36) (τ10.2.1 37)) = (J_all (τ7.1 7) (τ7.1 6) (τ7.1 13) (τ7.1 14) (τ7.1 15) (τ7.2.1 13) (τ7.2.1 14) (τ7.2.1 15) (τ7.2.1 16) (τ7.2.1 10) (τ7.2.1 27) (τ7.2.1 28) (τ7.2.1 29) (τ7.2.1 30) (τ7.2.1 31) (τ7.2.1 32) (τ7.2.1 33) (τ7.2.1 34) (τ7.2.1 35) (τ7.2.1 36) (τ7.2.1 37)) from by rw [w6_τ10, w7_τ10, w13_τ10, w14_τ10, w15_τ10, g10_τ10, g13_τ10, g14_τ10, g15_τ10, g16_τ10, g27_τ10, g28_τ10, g29_τ10, g30_τ10, g31_τ10, g32_τ10, g33_τ10, g34_τ10, g35_τ10, g36_τ10, g37_τ10]]; exact CJ
    have A2 : ∀ j, 0 ≤ τ10.2.1 2 j ∧ τ10.2.1 2 j ≤ 65535 := fun j => hT.2 2 j
    have A3 : ∀ j, 0 ≤ τ10.2.1 3 j ∧ τ10.2.1 3 j ≤ 30000 := fun j => hT.2 3 j
    have A4 : ∀ j, (-1000) ≤ τ10.2.1 4 j ∧ τ10.2.1 4 j ≤ 1499 := fun j => hT.2 4 j
    have A5 : ∀ j, 0 ≤ τ10.2.1 5 j ∧ τ10.2.1 5 j ≤ 2500 := fun j => hT.2 5 j
    have A6 : ∀ j, 0 ≤ τ10.2.1 6 j ∧ τ10.2.1 6 j ≤ 2500 := fun j => hT.2 6 j
    have A8 : ∀ j, 0 ≤ τ10.2.1 8 j ∧ τ10.2.1 8 j ≤ 1 := fun j => hT.2 8 j
    have A10 : ∀ j, (-1) ≤ τ10.2.1 10 j ∧ τ10.2.1 10 j ≤ 99 := fun j => hT.2 10 j
    have A11 : ∀ j, 0 ≤ τ10.2.1 11 j ∧ τ10.2.1 11 j ≤ 999 := fun j => hT.2 11 j
    have A13 : ∀ j, 0 ≤ τ10.2.1 13 j ∧ τ10.2.1 13 j ≤ 4 := fun j => hT.2 13 j
    have A14 : ∀ j, 0 ≤ τ10.2.1 14 j ∧ τ10.2.1 14 j ≤ 30000 := fun j => hT.2 14 j
    have A15 : ∀ j, 0 ≤ τ10.2.1 15 j ∧ τ10.2.1 15 j ≤ 999 := fun j => hT.2 15 j
    have A16 : ∀ j, (-1) ≤ τ10.2.1 16 j ∧ τ10.2.1 16 j ≤ 1499 := fun j => hT.2 16 j
    have A27 : ∀ j, 0 ≤ τ10.2.1 27 j ∧ τ10.2.1 27 j ≤ 90000 := fun j => hT.2 27 j
    have A28 : ∀ j, 0 ≤ τ10.2.1 28 j ∧ τ10.2.1 28 j ≤ 60 := fun j => hT.2 28 j
    have A29 : ∀ j, 0 ≤ τ10.2.1 29 j ∧ τ10.2.1 29 j ≤ 1499 := fun j => hT.2 29 j
    have A30 : ∀ j, 0 ≤ τ10.2.1 30 j ∧ τ10.2.1 30 j ≤ 20000 := fun j => hT.2 30 j
    have A31 : ∀ j, 0 ≤ τ10.2.1 31 j ∧ τ10.2.1 31 j ≤ 20000 := fun j => hT.2 31 j
    have A32 : ∀ j, 0 ≤ τ10.2.1 32 j ∧ τ10.2.1 32 j ≤ 999999 := fun j => hT.2 32 j
    have A33 : ∀ j, 0 ≤ τ10.2.1 33 j ∧ τ10.2.1 33 j ≤ 20000 := fun j => hT.2 33 j
    have A34 : ∀ j, 0 ≤ τ10.2.1 34 j ∧ τ10.2.1 34 j ≤ 20000 := fun j => hT.2 34 j
    have A35 : ∀ j, 0 ≤ τ10.2.1 35 j ∧ τ10.2.1 35 j ≤ 1499 := fun j => hT.2 35 j
    have A36 : ∀ j, 0 ≤ τ10.2.1 36 j ∧ τ10.2.1 36 j ≤ 20000 := fun j => hT.2 36 j
    have A37 : ∀ j, 0 ≤ τ10.2.1 37 j ∧ τ10.2.1 37 j ≤ 19999 := fun j => hT.2 37 j
    have A67 : ∀ j, 0 ≤ τ10.2.1 67 j ∧ τ10.2.1 67 j ≤ 30000 := fun j => hT.2 67 j
    have A68 : ∀ j, 0 ≤ τ10.2.1 68 j ∧ τ10.2.1 68 j ≤ 30000 := fun j => hT.2 68 j
    have A69 : ∀ j, (-100) ≤ τ10.2.1 69 j ∧ τ10.2.1 69 j ≤ 999 := fun j => hT.2 69 j
    have A70 : ∀ j, 0 ≤ τ10.2.1 70 j ∧ τ10.2.1 70 j ≤ 1499 := fun j => hT.2 70 j
    have A71 : ∀ j, 0 ≤ τ10.2.1 71 j ∧ τ10.2.1 71 j ≤ 1500 := fun j => hT.2 71 j
    have A72 : ∀ j, 0 ≤ τ10.2.1 72 j ∧ τ10.2.1 72 j ≤ 1500 := fun j => hT.2 72 j
    have A73 : ∀ j, 0 ≤ τ10.2.1 73 j ∧ τ10.2.1 73 j ≤ 30000 := fun j => hT.2 73 j
    have A74 : ∀ j, 0 ≤ τ10.2.1 74 j ∧ τ10.2.1 74 j ≤ 30000 := fun j => hT.2 74 j
    have A75 : ∀ j, 0 ≤ τ10.2.1 75 j ∧ τ10.2.1 75 j ≤ 1499 := fun j => hT.2 75 j
    have A76 : ∀ j, 0 ≤ τ10.2.1 76 j ∧ τ10.2.1 76 j ≤ 99 := fun j => hT.2 76 j
    have A77 : ∀ j, 0 ≤ τ10.2.1 77 j ∧ τ10.2.1 77 j ≤ 999 := fun j => hT.2 77 j
    have A78 : ∀ j, (-1) ≤ τ10.2.1 78 j ∧ τ10.2.1 78 j ≤ 1499 := fun j => hT.2 78 j
    have v3 : 0 ≤ τ10.1 3 ∧ τ10.1 3 ≤ 2500 := hT.1 3
    have v4 : 0 ≤ τ10.1 4 ∧ τ10.1 4 ≤ 100 := hT.1 4
    have v5 : 0 ≤ τ10.1 5 ∧ τ10.1 5 ≤ 1000 := hT.1 5
    have v6 : 0 ≤ τ10.1 6 ∧ τ10.1 6 ≤ 30000 := hT.1 6
    have v7 : 0 ≤ τ10.1 7 ∧ τ10.1 7 ≤ 1500 := hT.1 7
    have v13 : 0 ≤ τ10.1 13 ∧ τ10.1 13 ≤ 90000 := hT.1 13
    have v14 : 0 ≤ τ10.1 14 ∧ τ10.1 14 ≤ 20000 := hT.1 14
    have v15 : 0 ≤ τ10.1 15 ∧ τ10.1 15 ≤ 20000 := hT.1 15
    have v45 : 1 ≤ τ10.1 45 ∧ τ10.1 45 ≤ 30001 := hT.1 45
    have v46 : 0 ≤ τ10.1 46 ∧ τ10.1 46 ≤ 1500 := hT.1 46
    have v47 : 0 ≤ τ10.1 47 ∧ τ10.1 47 ≤ 1500 := hT.1 47
    have v48 : (-1) ≤ τ10.1 48 ∧ τ10.1 48 ≤ 999 := hT.1 48
    have v49 : (-1) ≤ τ10.1 49 ∧ τ10.1 49 ≤ 999 := hT.1 49
    have v50 : 0 ≤ τ10.1 50 ∧ τ10.1 50 ≤ 59 := hT.1 50
    have v51 : 0 ≤ τ10.1 51 ∧ τ10.1 51 ≤ 1500 := hT.1 51
    have v52 : (-1) ≤ τ10.1 52 ∧ τ10.1 52 ≤ 99 := hT.1 52
    have a14_47 : 0 ≤ τ10.2.1 14 (τ10.1 47) ∧ τ10.2.1 14 (τ10.1 47) ≤ 30000 := hT.2 14 _
    have rs10 := c_Rs_h rs7 hf_τ10 rfl
    refine ⟨_, K_X1_countTrees hT (show J_all (τ10.1 7) (τ10.1 6) (τ10.1 13) (τ10.1 14) (τ10.1 15) (τ10.2.1 13) (τ10.2.1 14) (τ10.2.1 15) (τ10.2.1 16) (τ10.2.1 10) (τ10.2.1 27) (τ10.2.1 28) (τ10.2.1 29) (τ10.2.1 30) (τ10.2.1 31) (τ10.2.1 32) (τ10.2.1 33) (τ10.2.1 34) (τ10.2.1 35) (τ10.2.1 36) (τ10.2.1 37) from CJ) (show c_Rs τ10 par nof In from by exact rs10) (show ∀ s : Int, 0 ≤ s → s < 1000 → τ10.2.2 3 s = 0 from by exact q8_1) (show J_rks (τ10.1 5) (τ10.1 4) (τ10.2.1 10) (τ10.2.1 11) from RKS) (show J_vs (τ10.1 6) (τ10.1 5) (τ10.2.1 15) from TX) (show ∀ i : Int, 0 ≤ i → i < (τ10.1 50) → 0 ≤ τ10.2.1 78 i → τ10.2.1 78 i < (τ10.1 7) from by (rw [w7_τ10]; exact fun i a b c => (q8_5 i a b c).1)) (show (τ10.1 52) < (τ10.1 4) from by (first | omega | (simp only [st_s] <;> omega) | assumption | omega | fail)), ?_⟩
    intro x12 τ13 r_x12 hn_τ13 hf_τ13 hq
    obtain ⟨hT, q11_1, q11_2, q11_3, q11_4, q11_5⟩ := hq
    replace q11_1 : 0 ≤ x12 ∧ x12 ≤ 2 := q11_1
    replace q11_2 : ∀ s : Int, 0 ≤ s → s < 1000 → (∀ i : Int, 0 ≤ i → i < (τ13.1 50) → τ13.2.1 77 i ≠ s) → τ13.2.2 3 s = 0 := q11_2
    replace q11_3 : c_Rs τ13 par nof In := q11_3
    replace q11_4 : x12 = 1 → (∀ i : Int, 0 ≤ i → i < (τ10.1 50) → g_ok (τ10.1 45) (τ10.1 50) (τ10.1 4) (τ10.1 51) i (τ10.2.1 77) (τ10.2.1 69) par (τ10.2.1 70) nof (g_so (τ10.2.1 14) (τ10.2.1 15) (τ10.2.1 10)) (τ10.2.1 78) In (τ13.2.2 4) (τ13.2.2 5) (τ13.2.1 79)) ∧ 0 ≤ (τ10.1 52) ∧ 0 < (τ10.1 50) ∧ g_H (τ13.2.2 4) (τ10.1 52) 0 (τ10.1 50) ∧ ¬ g_H (τ13.2.2 5) (τ10.1 52) 0 (τ10.1 50) ∧ g_wu (τ10.1 50) (τ10.2.1 77) (τ13.2.2 3) := q11_4
    replace q11_5 : x12 = 1 → ∀ i : Int, 0 ≤ i → i < (τ10.1 50) → g_uq (τ10.1 45) (τ10.1 50) (τ10.1 51) i (0 ≤ τ10.2.1 78 i ∧ ¬ τ10.2.1 15 (τ10.2.1 14 (τ10.2.1 78 i)) = (τ10.1 48)) (τ10.2.1 77) (τ10.2.1 69) par (τ10.2.1 70) nof (g_so (τ10.2.1 14) (τ10.2.1 15) (τ10.2.1 10)) (τ10.2.1 78) In (τ13.2.2 4) (τ13.2.2 5) (τ13.2.1 79) := q11_5
    have w3_τ13 : τ13.1 3 = τ10.1 3 := hf_τ13.1 3 (by decide)
    have w4_τ13 : τ13.1 4 = τ10.1 4 := hf_τ13.1 4 (by decide)
    have w5_τ13 : τ13.1 5 = τ10.1 5 := hf_τ13.1 5 (by decide)
    have w6_τ13 : τ13.1 6 = τ10.1 6 := hf_τ13.1 6 (by decide)
    have w7_τ13 : τ13.1 7 = τ10.1 7 := hf_τ13.1 7 (by decide)
    have w13_τ13 : τ13.1 13 = τ10.1 13 := hf_τ13.1 13 (by decide)
    have w14_τ13 : τ13.1 14 = τ10.1 14 := hf_τ13.1 14 (by decide)
    have w15_τ13 : τ13.1 15 = τ10.1 15 := hf_τ13.1 15 (by decide)
    have w45_τ13 : τ13.1 45 = τ10.1 45 := hf_τ13.1 45 (by decide)
    have w46_τ13 : τ13.1 46 = τ10.1 46 := hf_τ13.1 46 (by decide)
    have w47_τ13 : τ13.1 47 = τ10.1 47 := hf_τ13.1 47 (by decide)
    have w48_τ13 : τ13.1 48 = τ10.1 48 := hf_τ13.1 48 (by decide)
    have w49_τ13 : τ13.1 49 = τ10.1 49 := hf_τ13.1 49 (by decide)
    have w50_τ13 : τ13.1 50 = τ10.1 50 := hf_τ13.1 50 (by decide)
    have w51_τ13 : τ13.1 51 = τ10.1 51 := hf_τ13.1 51 (by decide)
    have w52_τ13 : τ13.1 52 = τ10.1 52 := hf_τ13.1 52 (by decide)
    have g2_τ13 : τ13.2.1 2 = τ10.2.1 2 := hf_τ13.2.1 2 (by decide)
    have g3_τ13 : τ13.2.1 3 = τ10.2.1 3 := hf_τ13.2.1 3 (by decide)
    have g4_τ13 : τ13.2.1 4 = τ10.2.1 4 := hf_τ13.2.1 4 (by decide)
    have g5_τ13 : τ13.2.1 5 = τ10.2.1 5 := hf_τ13.2.1 5 (by decide)
    have g6_τ13 : τ13.2.1 6 = τ10.2.1 6 := hf_τ13.2.1 6 (by decide)
    have g8_τ13 : τ13.2.1 8 = τ10.2.1 8 := hf_τ13.2.1 8 (by decide)
    have g10_τ13 : τ13.2.1 10 = τ10.2.1 10 := hf_τ13.2.1 10 (by decide)
    have g11_τ13 : τ13.2.1 11 = τ10.2.1 11 := hf_τ13.2.1 11 (by decide)
    have g13_τ13 : τ13.2.1 13 = τ10.2.1 13 := hf_τ13.2.1 13 (by decide)
    have g14_τ13 : τ13.2.1 14 = τ10.2.1 14 := hf_τ13.2.1 14 (by decide)
    have g15_τ13 : τ13.2.1 15 = τ10.2.1 15 := hf_τ13.2.1 15 (by decide)
    have g16_τ13 : τ13.2.1 16 = τ10.2.1 16 := hf_τ13.2.1 16 (by decide)
    have g27_τ13 : τ13.2.1 27 = τ10.2.1 27 := hf_τ13.2.1 27 (by decide)
    have g28_τ13 : τ13.2.1 28 = τ10.2.1 28 := hf_τ13.2.1 28 (by decide)
    have g29_τ13 : τ13.2.1 29 = τ10.2.1 29 := hf_τ13.2.1 29 (by decide)
    have g30_τ13 : τ13.2.1 30 = τ10.2.1 30 := hf_τ13.2.1 30 (by decide)
    have g31_τ13 : τ13.2.1 31 = τ10.2.1 31 := hf_τ13.2.1 31 (by decide)
    have g32_τ13 : τ13.2.1 32 = τ10.2.1 32 := hf_τ13.2.1 32 (by decide)
    have g33_τ13 : τ13.2.1 33 = τ10.2.1 33 := hf_τ13.2.1 33 (by decide)
    have g34_τ13 : τ13.2.1 34 = τ10.2.1 34 := hf_τ13.2.1 34 (by decide)
    have g35_τ13 : τ13.2.1 35 = τ10.2.1 35 := hf_τ13.2.1 35 (by decide)
    have g36_τ13 : τ13.2.1 36 = τ10.2.1 36 := hf_τ13.2.1 36 (by decide)
    have g37_τ13 : τ13.2.1 37 = τ10.2.1 37 := hf_τ13.2.1 37 (by decide)
    have g67_τ13 : τ13.2.1 67 = τ10.2.1 67 := hf_τ13.2.1 67 (by decide)
    have g68_τ13 : τ13.2.1 68 = τ10.2.1 68 := hf_τ13.2.1 68 (by decide)
    have g69_τ13 : τ13.2.1 69 = τ10.2.1 69 := hf_τ13.2.1 69 (by decide)
    have g70_τ13 : τ13.2.1 70 = τ10.2.1 70 := hf_τ13.2.1 70 (by decide)
    have g71_τ13 : τ13.2.1 71 = τ10.2.1 71 := hf_τ13.2.1 71 (by decide)
    have g72_τ13 : τ13.2.1 72 = τ10.2.1 72 := hf_τ13.2.1 72 (by decide)
    have g73_τ13 : τ13.2.1 73 = τ10.2.1 73 := hf_τ13.2.1 73 (by decide)
    have g74_τ13 : τ13.2.1 74 = τ10.2.1 74 := hf_τ13.2.1 74 (by decide)
    have g75_τ13 : τ13.2.1 75 = τ10.2.1 75 := hf_τ13.2.1 75 (by decide)
    have g76_τ13 : τ13.2.1 76 = τ10.2.1 76 := hf_τ13.2.1 76 (by decide)
    have g77_τ13 : τ13.2.1 77 = τ10.2.1 77 := hf_τ13.2.1 77 (by decide)
    have g78_τ13 : τ13.2.1 78 = τ10.2.1 78 := hf_τ13.2.1 78 (by decide)
    have W3 : τ13.1 3 = σ.1 3 := by first | exact w3_τ13.trans W3 | omega
    have W4 : τ13.1 4 = σ.1 4 := by first | exact w4_τ13.trans W4 | omega
    have W5 : τ13.1 5 = σ.1 5 := by first | exact w5_τ13.trans W5 | omega
    have W6 : τ13.1 6 = σ.1 6 := by first | exact w6_τ13.trans W6 | omega
    have W7 : τ13.1 7 = σ.1 7 := by first | exact w7_τ13.trans W7 | omega
    have W13 : τ13.1 13 = σ.1 13 := by first | exact w13_τ13.trans W13 | omega
    have W14 : τ13.1 14 = σ.1 14 := by first | exact w14_τ13.trans W14 | omega
    have W15 : τ13.1 15 = σ.1 15 := by first | exact w15_τ13.trans W15 | omega
    have G2 : τ13.2.1 2 = σ.2.1 2 := (g2_τ13).trans G2
    have G3 : τ13.2.1 3 = σ.2.1 3 := (g3_τ13).trans G3
    have G4 : τ13.2.1 4 = σ.2.1 4 := (g4_τ13).trans G4
    have G5 : τ13.2.1 5 = σ.2.1 5 := (g5_τ13).trans G5
    have G6 : τ13.2.1 6 = σ.2.1 6 := (g6_τ13).trans G6
    have G8 : τ13.2.1 8 = σ.2.1 8 := (g8_τ13).trans G8
    have G10 : τ13.2.1 10 = σ.2.1 10 := (g10_τ13).trans G10
    have G11 : τ13.2.1 11 = σ.2.1 11 := (g11_τ13).trans G11
    have G13 : τ13.2.1 13 = σ.2.1 13 := (g13_τ13).trans G13
    have G14 : τ13.2.1 14 = σ.2.1 14 := (g14_τ13).trans G14
    have G15 : τ13.2.1 15 = σ.2.1 15 := (g15_τ13).trans G15
    have G16 : τ13.2.1 16 = σ.2.1 16 := (g16_τ13).trans G16
    have G27 : τ13.2.1 27 = σ.2.1 27 := (g27_τ13).trans G27
    have G28 : τ13.2.1 28 = σ.2.1 28 := (g28_τ13).trans G28
    have G29 : τ13.2.1 29 = σ.2.1 29 := (g29_τ13).trans G29
    have G30 : τ13.2.1 30 = σ.2.1 30 := (g30_τ13).trans G30
    have G31 : τ13.2.1 31 = σ.2.1 31 := (g31_τ13).trans G31
    have G32 : τ13.2.1 32 = σ.2.1 32 := (g32_τ13).trans G32
    have G33 : τ13.2.1 33 = σ.2.1 33 := (g33_τ13).trans G33
    have G34 : τ13.2.1 34 = σ.2.1 34 := (g34_τ13).trans G34
    have G35 : τ13.2.1 35 = σ.2.1 35 := (g35_τ13).trans G35
    have G36 : τ13.2.1 36 = σ.2.1 36 := (g36_τ13).trans G36
    have G37 : τ13.2.1 37 = σ.2.1 37 := (g37_τ13).trans G37
    have y14_47_τ13 : τ13.2.1 14 (τ13.1 47) = (τ10.2.1 14) (τ10.1 47) := by rw [g14_τ13, w47_τ13]
    have HT : J_ht (τ13.1 3) (τ13.2.1 2) (τ13.2.1 3) (τ13.2.1 5) (τ13.2.1 6) := by rw [show (J_ht (τ13.1 3) (τ13.2.1 2) (τ13.2.1 3) (τ13.2.1 5) (τ13.2.1 6)) = (J_ht (τ10.1 3) (τ10.2.1 2) (τ10.2.1 3) (τ10.2.1 5) (τ10.2.1 6)) from by rw [w3_τ13, g2_τ13, g3_τ13, g5_τ13, g6_τ13]]; exact HT
    have MN : J_mn (τ13.1 3) (τ13.1 5) ((τ13.1 7) + 1) (τ13.2.1 4) := by rw [show (J_mn (τ13.1 3) (τ13.1 5) ((τ13.1 7) + 1) (τ13.2.1 4)) = (J_mn (τ10.1 3) (τ10.1 5) ((τ10.1 7) + 1) (τ10.2.1 4)) from by rw [w3_τ13, w5_τ13, w7_τ13, g4_τ13]]; exact MN
    have TX : J_vs (τ13.1 6) (τ13.1 5) (τ13.2.1 15) := by rw [show (J_vs (τ13.1 6) (τ13.1 5) (τ13.2.1 15)) = (J_vs (τ10.1 6) (τ10.1 5) (τ10.2.1 15)) from by rw [w5_τ13, w6_τ13, g15_τ13]]; exact TX
    have RKS : J_rks (τ13.1 5) (τ13.1 4) (τ13.2.1 10) (τ13.2.1 11) := by rw [show (J_rks (τ13.1 5) (τ13.1 4) (τ13.2.1 10) (τ13.2.1 11)) = (J_rks (τ10.1 5) (τ10.1 4) (τ10.2.1 10) (τ10.2.1 11)) from by rw [w4_τ13, w5_τ13, g10_τ13, g11_τ13]]; exact RKS
    have CJ : J_all (τ13.1 7) (τ13.1 6) (τ13.1 13) (τ13.1 14) (τ13.1 15) (τ13.2.1 13) (τ13.2.1 14) (τ13.2.1 15) (τ13.2.1 16) (τ13.2.1 10) (τ13.2.1 27) (τ13.2.1 28) (τ13.2.1 29) (τ13.2.1 30) (τ13.2.1 31) (τ13.2.1 32) (τ13.2.1 33) (τ13.2.1 34) (τ13.2.1 35) (τ13.2.1 36) (τ13.2.1 37) := by rw [show (J_all (τ13.1 7) (τ13.1 6) (τ13.1 13) (τ13.1 14) (τ13.1 15) (τ13.2.1 13) (τ13.2.1 14) (τ13.2.1 15) (τ13.2.1 16) (τ13.2.1 10) (τ13.2.1 27) (τ13.2.1 28) (τ13.2.1 29) (τ13.2.1 30) (τ13.2.1 31) (τ13.2.1 32) (τ13.2.1 33) (τ13.2.1 34) (τ13.2.1 35) (τ13.2.1 36) (τ13.2.1 37)) = (J_all (τ10.1 7) (τ10.1 6) (τ10.1 13) (τ10.1 14) (τ10.1 15) (τ10.2.1 13) (τ10.2.1 14) (τ10.2.1 15) (τ10.2.1 16) (τ10.2.1 10) (τ10.2.1 27) (τ10.2.1 28) (τ10.2.1 29) (τ10.2.1 30) (τ10.2.1 31) (τ10.2.1 32) (τ10.2.1 33) (τ10.2.1 34) (τ10.2.1 35) (τ10.2.1 36) (τ10.2.1 37)) from by rw [w6_τ13, w7_τ13, w13_τ13, w14_τ13, w15_τ13, g10_τ13, g13_τ13, g14_τ13, g15_τ13, g16_τ13, g27_τ13, g28_τ13, g29_τ13, g30_τ13, g31_τ13, g32_τ13, g33_τ13, g34_τ13, g35_τ13, g36_τ13, g37_τ13]]; exact CJ
    have A2 : ∀ j, 0 ≤ τ13.2.1 2 j ∧ τ13.2.1 2 j ≤ 65535 := fun j => hT.2 2 j
    have A3 : ∀ j, 0 ≤ τ13.2.1 3 j ∧ τ13.2.1 3 j ≤ 30000 := fun j => hT.2 3 j
    have A4 : ∀ j, (-1000) ≤ τ13.2.1 4 j ∧ τ13.2.1 4 j ≤ 1499 := fun j => hT.2 4 j
    have A5 : ∀ j, 0 ≤ τ13.2.1 5 j ∧ τ13.2.1 5 j ≤ 2500 := fun j => hT.2 5 j
    have A6 : ∀ j, 0 ≤ τ13.2.1 6 j ∧ τ13.2.1 6 j ≤ 2500 := fun j => hT.2 6 j
    have A8 : ∀ j, 0 ≤ τ13.2.1 8 j ∧ τ13.2.1 8 j ≤ 1 := fun j => hT.2 8 j
    have A10 : ∀ j, (-1) ≤ τ13.2.1 10 j ∧ τ13.2.1 10 j ≤ 99 := fun j => hT.2 10 j
    have A11 : ∀ j, 0 ≤ τ13.2.1 11 j ∧ τ13.2.1 11 j ≤ 999 := fun j => hT.2 11 j
    have A13 : ∀ j, 0 ≤ τ13.2.1 13 j ∧ τ13.2.1 13 j ≤ 4 := fun j => hT.2 13 j
    have A14 : ∀ j, 0 ≤ τ13.2.1 14 j ∧ τ13.2.1 14 j ≤ 30000 := fun j => hT.2 14 j
    have A15 : ∀ j, 0 ≤ τ13.2.1 15 j ∧ τ13.2.1 15 j ≤ 999 := fun j => hT.2 15 j
    have A16 : ∀ j, (-1) ≤ τ13.2.1 16 j ∧ τ13.2.1 16 j ≤ 1499 := fun j => hT.2 16 j
    have A27 : ∀ j, 0 ≤ τ13.2.1 27 j ∧ τ13.2.1 27 j ≤ 90000 := fun j => hT.2 27 j
    have A28 : ∀ j, 0 ≤ τ13.2.1 28 j ∧ τ13.2.1 28 j ≤ 60 := fun j => hT.2 28 j
    have A29 : ∀ j, 0 ≤ τ13.2.1 29 j ∧ τ13.2.1 29 j ≤ 1499 := fun j => hT.2 29 j
    have A30 : ∀ j, 0 ≤ τ13.2.1 30 j ∧ τ13.2.1 30 j ≤ 20000 := fun j => hT.2 30 j
    have A31 : ∀ j, 0 ≤ τ13.2.1 31 j ∧ τ13.2.1 31 j ≤ 20000 := fun j => hT.2 31 j
    have A32 : ∀ j, 0 ≤ τ13.2.1 32 j ∧ τ13.2.1 32 j ≤ 999999 := fun j => hT.2 32 j
    have A33 : ∀ j, 0 ≤ τ13.2.1 33 j ∧ τ13.2.1 33 j ≤ 20000 := fun j => hT.2 33 j
    have A34 : ∀ j, 0 ≤ τ13.2.1 34 j ∧ τ13.2.1 34 j ≤ 20000 := fun j => hT.2 34 j
    have A35 : ∀ j, 0 ≤ τ13.2.1 35 j ∧ τ13.2.1 35 j ≤ 1499 := fun j => hT.2 35 j
    have A36 : ∀ j, 0 ≤ τ13.2.1 36 j ∧ τ13.2.1 36 j ≤ 20000 := fun j => hT.2 36 j
    have A37 : ∀ j, 0 ≤ τ13.2.1 37 j ∧ τ13.2.1 37 j ≤ 19999 := fun j => hT.2 37 j
    have A67 : ∀ j, 0 ≤ τ13.2.1 67 j ∧ τ13.2.1 67 j ≤ 30000 := fun j => hT.2 67 j
    have A68 : ∀ j, 0 ≤ τ13.2.1 68 j ∧ τ13.2.1 68 j ≤ 30000 := fun j => hT.2 68 j
    have A69 : ∀ j, (-100) ≤ τ13.2.1 69 j ∧ τ13.2.1 69 j ≤ 999 := fun j => hT.2 69 j
    have A70 : ∀ j, 0 ≤ τ13.2.1 70 j ∧ τ13.2.1 70 j ≤ 1499 := fun j => hT.2 70 j
    have A71 : ∀ j, 0 ≤ τ13.2.1 71 j ∧ τ13.2.1 71 j ≤ 1500 := fun j => hT.2 71 j
    have A72 : ∀ j, 0 ≤ τ13.2.1 72 j ∧ τ13.2.1 72 j ≤ 1500 := fun j => hT.2 72 j
    have A73 : ∀ j, 0 ≤ τ13.2.1 73 j ∧ τ13.2.1 73 j ≤ 30000 := fun j => hT.2 73 j
    have A74 : ∀ j, 0 ≤ τ13.2.1 74 j ∧ τ13.2.1 74 j ≤ 30000 := fun j => hT.2 74 j
    have A75 : ∀ j, 0 ≤ τ13.2.1 75 j ∧ τ13.2.1 75 j ≤ 1499 := fun j => hT.2 75 j
    have A76 : ∀ j, 0 ≤ τ13.2.1 76 j ∧ τ13.2.1 76 j ≤ 99 := fun j => hT.2 76 j
    have A77 : ∀ j, 0 ≤ τ13.2.1 77 j ∧ τ13.2.1 77 j ≤ 999 := fun j => hT.2 77 j
    have A78 : ∀ j, (-1) ≤ τ13.2.1 78 j ∧ τ13.2.1 78 j ≤ 1499 := fun j => hT.2 78 j
    have v3 : 0 ≤ τ13.1 3 ∧ τ13.1 3 ≤ 2500 := hT.1 3
    have v4 : 0 ≤ τ13.1 4 ∧ τ13.1 4 ≤ 100 := hT.1 4
    have v5 : 0 ≤ τ13.1 5 ∧ τ13.1 5 ≤ 1000 := hT.1 5
    have v6 : 0 ≤ τ13.1 6 ∧ τ13.1 6 ≤ 30000 := hT.1 6
    have v7 : 0 ≤ τ13.1 7 ∧ τ13.1 7 ≤ 1500 := hT.1 7
    have v13 : 0 ≤ τ13.1 13 ∧ τ13.1 13 ≤ 90000 := hT.1 13
    have v14 : 0 ≤ τ13.1 14 ∧ τ13.1 14 ≤ 20000 := hT.1 14
    have v15 : 0 ≤ τ13.1 15 ∧ τ13.1 15 ≤ 20000 := hT.1 15
    have v45 : 1 ≤ τ13.1 45 ∧ τ13.1 45 ≤ 30001 := hT.1 45
    have v46 : 0 ≤ τ13.1 46 ∧ τ13.1 46 ≤ 1500 := hT.1 46
    have v47 : 0 ≤ τ13.1 47 ∧ τ13.1 47 ≤ 1500 := hT.1 47
    have v48 : (-1) ≤ τ13.1 48 ∧ τ13.1 48 ≤ 999 := hT.1 48
    have v49 : (-1) ≤ τ13.1 49 ∧ τ13.1 49 ≤ 999 := hT.1 49
    have v50 : 0 ≤ τ13.1 50 ∧ τ13.1 50 ≤ 59 := hT.1 50
    have v51 : 0 ≤ τ13.1 51 ∧ τ13.1 51 ≤ 1500 := hT.1 51
    have v52 : (-1) ≤ τ13.1 52 ∧ τ13.1 52 ≤ 99 := hT.1 52
    have a14_47 : 0 ≤ τ13.2.1 14 (τ13.1 47) ∧ τ13.2.1 14 (τ13.1 47) ≤ 30000 := hT.2 14 _
    have lk10 : ∀ i : Int, 0 ≤ i → i < τ10.1 50 → 0 ≤ τ10.2.1 78 i → τ10.2.1 78 i < τ10.1 7 ∧ τ10.2.1 13 (τ10.2.1 78 i) = 0 := by rw [w7_τ10, g13_τ10]; exact q8_5
    have w14 : τ13.2.1 14 = τ7.2.1 14 := by rw [g14_τ13, g14_τ10]
    exact ⟨hT, (show -2 ≤ x12 ∧ x12 ≤ 2 from by (first | omega | (simp only [st_s] <;> omega) | assumption | omega | fail)), (show c_GM In0 τ13 from by (first | exact ⟨c_LR_s q11_3 hI (by rw [w14, show τ13.1 47 = τ7.1 47 from by omega]; omega) (by omega), q11_2⟩ | exact p8 | fail)), (show x12 = 1 → ∃ par nof : Int → Int, ∃ In : Int → Prop, (c_Rs τ13 par nof In ∧ ∀ r : Int, In0 r → In r) ∧ c_GR τ13 par nof In from by (first | exact fun z => ⟨par, nof, In, ⟨q11_3, hI⟩, c_GR_c hf_τ13 rfl rfl lk10 (by omega) (q11_4 z)⟩ | (intro z; exfalso; omega) | fail)), (show x12 = 1 → σ.2.1 14 (n1 + 1) ≤ σ.2.1 14 n1 + 60 from by (intro z; omega)), (show x12 = 1 → (τ13.1 49) < (σ.1 5) from by (intro z; omega))⟩
  ·
    exact ⟨hT, (show -2 ≤ (-2) ∧ (-2) ≤ 2 from by (first | omega | (simp only [st_s] <;> omega) | assumption | omega | fail)), (show c_GM In0 σ from by (first | exact ⟨c_LR_s q11_3 hI (by rw [w14, show τ13.1 47 = τ7.1 47 from by omega]; omega) (by omega), q11_2⟩ | exact p8 | fail)), (show (-2) = 1 → ∃ par nof : Int → Int, ∃ In : Int → Prop, (c_Rs σ par nof In ∧ ∀ r : Int, In0 r → In r) ∧ c_GR σ par nof In from by (first | exact fun z => ⟨par, nof, In, ⟨q11_3, hI⟩, c_GR_c hf_τ13 rfl rfl lk10 (by omega) (q11_4 z)⟩ | (intro z; exfalso; omega) | fail)), (show (-2) = 1 → σ.2.1 14 (n1 + 1) ≤ σ.2.1 14 n1 + 60 from by (intro z; omega)), (show (-2) = 1 → (σ.1 49) < (σ.1 5) from by (intro z; omega))⟩
set_option maxHeartbeats 4000000 in
theorem K_X12_printTree {n1 : Int} {In0 : Int → Prop} {σ : S0} (hT : c_T σ) (p1 : 0 ≤ n1) (p2 : n1 < (σ.1 7)) (p3 : J_all (σ.1 7) (σ.1 6) (σ.1 13) (σ.1 14) (σ.1 15) (σ.2.1 13) (σ.2.1 14) (σ.2.1 15) (σ.2.1 16) (σ.2.1 10) (σ.2.1 27) (σ.2.1 28) (σ.2.1 29) (σ.2.1 30) (σ.2.1 31) (σ.2.1 32) (σ.2.1 33) (σ.2.1 34) (σ.2.1 35) (σ.2.1 36) (σ.2.1 37)) (p4 : J_ht (σ.1 3) (σ.2.1 2) (σ.2.1 3) (σ.2.1 5) (σ.2.1 6)) (p5 : J_mn (σ.1 3) (σ.1 5) ((σ.1 7) + 1) (σ.2.1 4)) (p6 : J_rks (σ.1 5) (σ.1 4) (σ.2.1 10) (σ.2.1 11)) (p7 : J_vs (σ.1 6) (σ.1 5) (σ.2.1 15)) (p8 : c_GM In0 σ) : W_X12_printTree n1 σ (fun (x : Int) (τ : S0) => (c_T τ) ∧ (c_GM In0 τ)) := by
  have A2 : ∀ j, 0 ≤ σ.2.1 2 j ∧ σ.2.1 2 j ≤ 65535 := fun j => hT.2 2 j
  have A3 : ∀ j, 0 ≤ σ.2.1 3 j ∧ σ.2.1 3 j ≤ 30000 := fun j => hT.2 3 j
  have A4 : ∀ j, (-1000) ≤ σ.2.1 4 j ∧ σ.2.1 4 j ≤ 1499 := fun j => hT.2 4 j
  have A5 : ∀ j, 0 ≤ σ.2.1 5 j ∧ σ.2.1 5 j ≤ 2500 := fun j => hT.2 5 j
  have A6 : ∀ j, 0 ≤ σ.2.1 6 j ∧ σ.2.1 6 j ≤ 2500 := fun j => hT.2 6 j
  have A10 : ∀ j, (-1) ≤ σ.2.1 10 j ∧ σ.2.1 10 j ≤ 99 := fun j => hT.2 10 j
  have A11 : ∀ j, 0 ≤ σ.2.1 11 j ∧ σ.2.1 11 j ≤ 999 := fun j => hT.2 11 j
  have A13 : ∀ j, 0 ≤ σ.2.1 13 j ∧ σ.2.1 13 j ≤ 4 := fun j => hT.2 13 j
  have A14 : ∀ j, 0 ≤ σ.2.1 14 j ∧ σ.2.1 14 j ≤ 30000 := fun j => hT.2 14 j
  have A15 : ∀ j, 0 ≤ σ.2.1 15 j ∧ σ.2.1 15 j ≤ 999 := fun j => hT.2 15 j
  have A16 : ∀ j, (-1) ≤ σ.2.1 16 j ∧ σ.2.1 16 j ≤ 1499 := fun j => hT.2 16 j
  have A27 : ∀ j, 0 ≤ σ.2.1 27 j ∧ σ.2.1 27 j ≤ 90000 := fun j => hT.2 27 j
  have A28 : ∀ j, 0 ≤ σ.2.1 28 j ∧ σ.2.1 28 j ≤ 60 := fun j => hT.2 28 j
  have A29 : ∀ j, 0 ≤ σ.2.1 29 j ∧ σ.2.1 29 j ≤ 1499 := fun j => hT.2 29 j
  have A30 : ∀ j, 0 ≤ σ.2.1 30 j ∧ σ.2.1 30 j ≤ 20000 := fun j => hT.2 30 j
  have A31 : ∀ j, 0 ≤ σ.2.1 31 j ∧ σ.2.1 31 j ≤ 20000 := fun j => hT.2 31 j
  have A32 : ∀ j, 0 ≤ σ.2.1 32 j ∧ σ.2.1 32 j ≤ 999999 := fun j => hT.2 32 j
  have A33 : ∀ j, 0 ≤ σ.2.1 33 j ∧ σ.2.1 33 j ≤ 20000 := fun j => hT.2 33 j
  have A34 : ∀ j, 0 ≤ σ.2.1 34 j ∧ σ.2.1 34 j ≤ 20000 := fun j => hT.2 34 j
  have A35 : ∀ j, 0 ≤ σ.2.1 35 j ∧ σ.2.1 35 j ≤ 1499 := fun j => hT.2 35 j
  have A36 : ∀ j, 0 ≤ σ.2.1 36 j ∧ σ.2.1 36 j ≤ 20000 := fun j => hT.2 36 j
  have A37 : ∀ j, 0 ≤ σ.2.1 37 j ∧ σ.2.1 37 j ≤ 19999 := fun j => hT.2 37 j
  have A84 : ∀ j, 0 ≤ σ.2.1 84 j ∧ σ.2.1 84 j ≤ 1499 := fun j => hT.2 84 j
  have v3 : 0 ≤ σ.1 3 ∧ σ.1 3 ≤ 2500 := hT.1 3
  have v4 : 0 ≤ σ.1 4 ∧ σ.1 4 ≤ 100 := hT.1 4
  have v5 : 0 ≤ σ.1 5 ∧ σ.1 5 ≤ 1000 := hT.1 5
  have v6 : 0 ≤ σ.1 6 ∧ σ.1 6 ≤ 30000 := hT.1 6
  have v7 : 0 ≤ σ.1 7 ∧ σ.1 7 ≤ 1500 := hT.1 7
  have v13 : 0 ≤ σ.1 13 ∧ σ.1 13 ≤ 90000 := hT.1 13
  have v14 : 0 ≤ σ.1 14 ∧ σ.1 14 ≤ 20000 := hT.1 14
  have v15 : 0 ≤ σ.1 15 ∧ σ.1 15 ≤ 20000 := hT.1 15
  have v45 : 1 ≤ σ.1 45 ∧ σ.1 45 ≤ 30001 := hT.1 45
  have v49 : (-1) ≤ σ.1 49 ∧ σ.1 49 ≤ 999 := hT.1 49
  have v50 : 0 ≤ σ.1 50 ∧ σ.1 50 ≤ 59 := hT.1 50
  have v51 : 0 ≤ σ.1 51 ∧ σ.1 51 ≤ 1500 := hT.1 51
  have v52 : (-1) ≤ σ.1 52 ∧ σ.1 52 ≤ 99 := hT.1 52
  have v54 : 0 ≤ σ.1 54 ∧ σ.1 54 ≤ 12000 := hT.1 54
  have W3 : σ.1 3 = σ.1 3 := rfl
  have W4 : σ.1 4 = σ.1 4 := rfl
  have W5 : σ.1 5 = σ.1 5 := rfl
  have W6 : σ.1 6 = σ.1 6 := rfl
  have W7 : σ.1 7 = σ.1 7 := rfl
  have W13 : σ.1 13 = σ.1 13 := rfl
  have W14 : σ.1 14 = σ.1 14 := rfl
  have W15 : σ.1 15 = σ.1 15 := rfl
  have G2 : σ.2.1 2 = σ.2.1 2 := rfl
  have G3 : σ.2.1 3 = σ.2.1 3 := rfl
  have G4 : σ.2.1 4 = σ.2.1 4 := rfl
  have G5 : σ.2.1 5 = σ.2.1 5 := rfl
  have G6 : σ.2.1 6 = σ.2.1 6 := rfl
  have G10 : σ.2.1 10 = σ.2.1 10 := rfl
  have G11 : σ.2.1 11 = σ.2.1 11 := rfl
  have G13 : σ.2.1 13 = σ.2.1 13 := rfl
  have G14 : σ.2.1 14 = σ.2.1 14 := rfl
  have G15 : σ.2.1 15 = σ.2.1 15 := rfl
  have G16 : σ.2.1 16 = σ.2.1 16 := rfl
  have G27 : σ.2.1 27 = σ.2.1 27 := rfl
  have G28 : σ.2.1 28 = σ.2.1 28 := rfl
  have G29 : σ.2.1 29 = σ.2.1 29 := rfl
  have G30 : σ.2.1 30 = σ.2.1 30 := rfl
  have G31 : σ.2.1 31 = σ.2.1 31 := rfl
  have G32 : σ.2.1 32 = σ.2.1 32 := rfl
  have G33 : σ.2.1 33 = σ.2.1 33 := rfl
  have G34 : σ.2.1 34 = σ.2.1 34 := rfl
  have G35 : σ.2.1 35 = σ.2.1 35 := rfl
  have G36 : σ.2.1 36 = σ.2.1 36 := rfl
  have G37 : σ.2.1 37 = σ.2.1 37 := rfl
  intro P48 h48
  have HT : J_ht (σ.1 3) (σ.2.1 2) (σ.2.1 3) (σ.2.1 5) (σ.2.1 6) := p4
  have MN : J_mn (σ.1 3) (σ.1 5) ((σ.1 7) + 1) (σ.2.1 4) := p5
  have TX : J_vs (σ.1 6) (σ.1 5) (σ.2.1 15) := p7
  have RKS : J_rks (σ.1 5) (σ.1 4) (σ.2.1 10) (σ.2.1 11) := p6
  have CJ : J_all (σ.1 7) (σ.1 6) (σ.1 13) (σ.1 14) (σ.1 15) (σ.2.1 13) (σ.2.1 14) (σ.2.1 15) (σ.2.1 16) (σ.2.1 10) (σ.2.1 27) (σ.2.1 28) (σ.2.1 29) (σ.2.1 30) (σ.2.1 31) (σ.2.1 32) (σ.2.1 33) (σ.2.1 34) (σ.2.1 35) (σ.2.1 36) (σ.2.1 37) := p3
  have CJ_0 := CJ
  have HT_0 := HT
  have MN_0 := MN
  have RKS_0 := RKS
  have TX_0 := TX
  have l_48 : ∀ (m_48 : Nat) (u3_48 : Int) (τ_48 : S0), u3_48 + 2 < (m_48 : Int) → (c_T τ_48) → (τ_48.1 3 = σ.1 3) → (τ_48.1 4 = σ.1 4) → (τ_48.1 5 = σ.1 5) → (τ_48.1 6 = σ.1 6) → (τ_48.1 7 = σ.1 7) → (τ_48.1 13 = σ.1 13) → (τ_48.1 14 = σ.1 14) → (τ_48.1 15 = σ.1 15) → (τ_48.2.1 2 = σ.2.1 2) → (τ_48.2.1 3 = σ.2.1 3) → (τ_48.2.1 4 = σ.2.1 4) → (τ_48.2.1 5 = σ.2.1 5) → (τ_48.2.1 6 = σ.2.1 6) → (τ_48.2.1 10 = σ.2.1 10) → (τ_48.2.1 11 = σ.2.1 11) → (τ_48.2.1 13 = σ.2.1 13) → (τ_48.2.1 14 = σ.2.1 14) → (τ_48.2.1 15 = σ.2.1 15) → (τ_48.2.1 16 = σ.2.1 16) → (τ_48.2.1 27 = σ.2.1 27) → (τ_48.2.1 28 = σ.2.1 28) → (τ_48.2.1 29 = σ.2.1 29) → (τ_48.2.1 30 = σ.2.1 30) → (τ_48.2.1 31 = σ.2.1 31) → (τ_48.2.1 32 = σ.2.1 32) → (τ_48.2.1 33 = σ.2.1 33) → (τ_48.2.1 34 = σ.2.1 34) → (τ_48.2.1 35 = σ.2.1 35) → (τ_48.2.1 36 = σ.2.1 36) → (τ_48.2.1 37 = σ.2.1 37) → (-1 ≤ u3_48 ∧ u3_48 < 12000) → (c_GM In0 τ_48) → P48 u3_48 τ_48 := by
    intro m_48
    induction m_48 with
    | zero =>
      intro u3_48 τ_48 hm hT W3 W4 W5 W6 W7 W13 W14 W15 G2 G3 G4 G5 G6 G10 G11 G13 G14 G15 G16 G27 G28 G29 G30 G31 G32 G33 G34 G35 G36 G37 i48_1 i48_2
      have A2 : ∀ j, 0 ≤ τ_48.2.1 2 j ∧ τ_48.2.1 2 j ≤ 65535 := fun j => hT.2 2 j
      have A3 : ∀ j, 0 ≤ τ_48.2.1 3 j ∧ τ_48.2.1 3 j ≤ 30000 := fun j => hT.2 3 j
      have A4 : ∀ j, (-1000) ≤ τ_48.2.1 4 j ∧ τ_48.2.1 4 j ≤ 1499 := fun j => hT.2 4 j
      have A5 : ∀ j, 0 ≤ τ_48.2.1 5 j ∧ τ_48.2.1 5 j ≤ 2500 := fun j => hT.2 5 j
      have A6 : ∀ j, 0 ≤ τ_48.2.1 6 j ∧ τ_48.2.1 6 j ≤ 2500 := fun j => hT.2 6 j
      have A10 : ∀ j, (-1) ≤ τ_48.2.1 10 j ∧ τ_48.2.1 10 j ≤ 99 := fun j => hT.2 10 j
      have A11 : ∀ j, 0 ≤ τ_48.2.1 11 j ∧ τ_48.2.1 11 j ≤ 999 := fun j => hT.2 11 j
      have A13 : ∀ j, 0 ≤ τ_48.2.1 13 j ∧ τ_48.2.1 13 j ≤ 4 := fun j => hT.2 13 j
      have A14 : ∀ j, 0 ≤ τ_48.2.1 14 j ∧ τ_48.2.1 14 j ≤ 30000 := fun j => hT.2 14 j
      have A15 : ∀ j, 0 ≤ τ_48.2.1 15 j ∧ τ_48.2.1 15 j ≤ 999 := fun j => hT.2 15 j
      have A16 : ∀ j, (-1) ≤ τ_48.2.1 16 j ∧ τ_48.2.1 16 j ≤ 1499 := fun j => hT.2 16 j
      have A27 : ∀ j, 0 ≤ τ_48.2.1 27 j ∧ τ_48.2.1 27 j ≤ 90000 := fun j => hT.2 27 j
      have A28 : ∀ j, 0 ≤ τ_48.2.1 28 j ∧ τ_48.2.1 28 j ≤ 60 := fun j => hT.2 28 j
      have A29 : ∀ j, 0 ≤ τ_48.2.1 29 j ∧ τ_48.2.1 29 j ≤ 1499 := fun j => hT.2 29 j
      have A30 : ∀ j, 0 ≤ τ_48.2.1 30 j ∧ τ_48.2.1 30 j ≤ 20000 := fun j => hT.2 30 j
      have A31 : ∀ j, 0 ≤ τ_48.2.1 31 j ∧ τ_48.2.1 31 j ≤ 20000 := fun j => hT.2 31 j
      have A32 : ∀ j, 0 ≤ τ_48.2.1 32 j ∧ τ_48.2.1 32 j ≤ 999999 := fun j => hT.2 32 j
      have A33 : ∀ j, 0 ≤ τ_48.2.1 33 j ∧ τ_48.2.1 33 j ≤ 20000 := fun j => hT.2 33 j
      have A34 : ∀ j, 0 ≤ τ_48.2.1 34 j ∧ τ_48.2.1 34 j ≤ 20000 := fun j => hT.2 34 j
      have A35 : ∀ j, 0 ≤ τ_48.2.1 35 j ∧ τ_48.2.1 35 j ≤ 1499 := fun j => hT.2 35 j
      have A36 : ∀ j, 0 ≤ τ_48.2.1 36 j ∧ τ_48.2.1 36 j ≤ 20000 := fun j => hT.2 36 j
      have A37 : ∀ j, 0 ≤ τ_48.2.1 37 j ∧ τ_48.2.1 37 j ≤ 19999 := fun j => hT.2 37 j
      have A84 : ∀ j, 0 ≤ τ_48.2.1 84 j ∧ τ_48.2.1 84 j ≤ 1499 := fun j => hT.2 84 j
      have v3 : 0 ≤ τ_48.1 3 ∧ τ_48.1 3 ≤ 2500 := hT.1 3
      have v4 : 0 ≤ τ_48.1 4 ∧ τ_48.1 4 ≤ 100 := hT.1 4
      have v5 : 0 ≤ τ_48.1 5 ∧ τ_48.1 5 ≤ 1000 := hT.1 5
      have v6 : 0 ≤ τ_48.1 6 ∧ τ_48.1 6 ≤ 30000 := hT.1 6
      have v7 : 0 ≤ τ_48.1 7 ∧ τ_48.1 7 ≤ 1500 := hT.1 7
      have v13 : 0 ≤ τ_48.1 13 ∧ τ_48.1 13 ≤ 90000 := hT.1 13
      have v14 : 0 ≤ τ_48.1 14 ∧ τ_48.1 14 ≤ 20000 := hT.1 14
      have v15 : 0 ≤ τ_48.1 15 ∧ τ_48.1 15 ≤ 20000 := hT.1 15
      have v45 : 1 ≤ τ_48.1 45 ∧ τ_48.1 45 ≤ 30001 := hT.1 45
      have v49 : (-1) ≤ τ_48.1 49 ∧ τ_48.1 49 ≤ 999 := hT.1 49
      have v50 : 0 ≤ τ_48.1 50 ∧ τ_48.1 50 ≤ 59 := hT.1 50
      have v51 : 0 ≤ τ_48.1 51 ∧ τ_48.1 51 ≤ 1500 := hT.1 51
      have v52 : (-1) ≤ τ_48.1 52 ∧ τ_48.1 52 ≤ 99 := hT.1 52
      have v54 : 0 ≤ τ_48.1 54 ∧ τ_48.1 54 ≤ 12000 := hT.1 54
      exfalso; (first | omega | (simp only [st_s] <;> omega) | assumption | omega | fail)
    | succ m_48 ih_48 =>
      intro u3_48 τ_48 hm_48 hT W3 W4 W5 W6 W7 W13 W14 W15 G2 G3 G4 G5 G6 G10 G11 G13 G14 G15 G16 G27 G28 G29 G30 G31 G32 G33 G34 G35 G36 G37 i48_1 i48_2
      have A2 : ∀ j, 0 ≤ τ_48.2.1 2 j ∧ τ_48.2.1 2 j ≤ 65535 := fun j => hT.2 2 j
      have A3 : ∀ j, 0 ≤ τ_48.2.1 3 j ∧ τ_48.2.1 3 j ≤ 30000 := fun j => hT.2 3 j
      have A4 : ∀ j, (-1000) ≤ τ_48.2.1 4 j ∧ τ_48.2.1 4 j ≤ 1499 := fun j => hT.2 4 j
      have A5 : ∀ j, 0 ≤ τ_48.2.1 5 j ∧ τ_48.2.1 5 j ≤ 2500 := fun j => hT.2 5 j
      have A6 : ∀ j, 0 ≤ τ_48.2.1 6 j ∧ τ_48.2.1 6 j ≤ 2500 := fun j => hT.2 6 j
      have A10 : ∀ j, (-1) ≤ τ_48.2.1 10 j ∧ τ_48.2.1 10 j ≤ 99 := fun j => hT.2 10 j
      have A11 : ∀ j, 0 ≤ τ_48.2.1 11 j ∧ τ_48.2.1 11 j ≤ 999 := fun j => hT.2 11 j
      have A13 : ∀ j, 0 ≤ τ_48.2.1 13 j ∧ τ_48.2.1 13 j ≤ 4 := fun j => hT.2 13 j
      have A14 : ∀ j, 0 ≤ τ_48.2.1 14 j ∧ τ_48.2.1 14 j ≤ 30000 := fun j => hT.2 14 j
      have A15 : ∀ j, 0 ≤ τ_48.2.1 15 j ∧ τ_48.2.1 15 j ≤ 999 := fun j => hT.2 15 j
      have A16 : ∀ j, (-1) ≤ τ_48.2.1 16 j ∧ τ_48.2.1 16 j ≤ 1499 := fun j => hT.2 16 j
      have A27 : ∀ j, 0 ≤ τ_48.2.1 27 j ∧ τ_48.2.1 27 j ≤ 90000 := fun j => hT.2 27 j
      have A28 : ∀ j, 0 ≤ τ_48.2.1 28 j ∧ τ_48.2.1 28 j ≤ 60 := fun j => hT.2 28 j
      have A29 : ∀ j, 0 ≤ τ_48.2.1 29 j ∧ τ_48.2.1 29 j ≤ 1499 := fun j => hT.2 29 j
      have A30 : ∀ j, 0 ≤ τ_48.2.1 30 j ∧ τ_48.2.1 30 j ≤ 20000 := fun j => hT.2 30 j
      have A31 : ∀ j, 0 ≤ τ_48.2.1 31 j ∧ τ_48.2.1 31 j ≤ 20000 := fun j => hT.2 31 j
      have A32 : ∀ j, 0 ≤ τ_48.2.1 32 j ∧ τ_48.2.1 32 j ≤ 999999 := fun j => hT.2 32 j
      have A33 : ∀ j, 0 ≤ τ_48.2.1 33 j ∧ τ_48.2.1 33 j ≤ 20000 := fun j => hT.2 33 j
      have A34 : ∀ j, 0 ≤ τ_48.2.1 34 j ∧ τ_48.2.1 34 j ≤ 20000 := fun j => hT.2 34 j
      have A35 : ∀ j, 0 ≤ τ_48.2.1 35 j ∧ τ_48.2.1 35 j ≤ 1499 := fun j => hT.2 35 j
      have A36 : ∀ j, 0 ≤ τ_48.2.1 36 j ∧ τ_48.2.1 36 j ≤ 20000 := fun j => hT.2 36 j
      have A37 : ∀ j, 0 ≤ τ_48.2.1 37 j ∧ τ_48.2.1 37 j ≤ 19999 := fun j => hT.2 37 j
      have A84 : ∀ j, 0 ≤ τ_48.2.1 84 j ∧ τ_48.2.1 84 j ≤ 1499 := fun j => hT.2 84 j
      have v3 : 0 ≤ τ_48.1 3 ∧ τ_48.1 3 ≤ 2500 := hT.1 3
      have v4 : 0 ≤ τ_48.1 4 ∧ τ_48.1 4 ≤ 100 := hT.1 4
      have v5 : 0 ≤ τ_48.1 5 ∧ τ_48.1 5 ≤ 1000 := hT.1 5
      have v6 : 0 ≤ τ_48.1 6 ∧ τ_48.1 6 ≤ 30000 := hT.1 6
      have v7 : 0 ≤ τ_48.1 7 ∧ τ_48.1 7 ≤ 1500 := hT.1 7
      have v13 : 0 ≤ τ_48.1 13 ∧ τ_48.1 13 ≤ 90000 := hT.1 13
      have v14 : 0 ≤ τ_48.1 14 ∧ τ_48.1 14 ≤ 20000 := hT.1 14
      have v15 : 0 ≤ τ_48.1 15 ∧ τ_48.1 15 ≤ 20000 := hT.1 15
      have v45 : 1 ≤ τ_48.1 45 ∧ τ_48.1 45 ≤ 30001 := hT.1 45
      have v49 : (-1) ≤ τ_48.1 49 ∧ τ_48.1 49 ≤ 999 := hT.1 49
      have v50 : 0 ≤ τ_48.1 50 ∧ τ_48.1 50 ≤ 59 := hT.1 50
      have v51 : 0 ≤ τ_48.1 51 ∧ τ_48.1 51 ≤ 1500 := hT.1 51
      have v52 : (-1) ≤ τ_48.1 52 ∧ τ_48.1 52 ≤ 99 := hT.1 52
      have v54 : 0 ≤ τ_48.1 54 ∧ τ_48.1 54 ≤ 12000 := hT.1 54
      have HT : J_ht (τ_48.1 3) (τ_48.2.1 2) (τ_48.2.1 3) (τ_48.2.1 5) (τ_48.2.1 6) := by rw [show (J_ht (τ_48.1 3) (τ_48.2.1 2) (τ_48.2.1 3) (τ_48.2.1 5) (τ_48.2.1 6)) = (J_ht (σ.1 3) (σ.2.1 2) (σ.2.1 3) (σ.2.1 5) (σ.2.1 6)) from by rw [W3, G2, G3, G5, G6]]; exact HT_0
      have MN : J_mn (τ_48.1 3) (τ_48.1 5) ((τ_48.1 7) + 1) (τ_48.2.1 4) := by rw [show (J_mn (τ_48.1 3) (τ_48.1 5) ((τ_48.1 7) + 1) (τ_48.2.1 4)) = (J_mn (σ.1 3) (σ.1 5) ((σ.1 7) + 1) (σ.2.1 4)) from by rw [W3, W5, W7, G4]]; exact MN_0
      have TX : J_vs (τ_48.1 6) (τ_48.1 5) (τ_48.2.1 15) := by rw [show (J_vs (τ_48.1 6) (τ_48.1 5) (τ_48.2.1 15)) = (J_vs (σ.1 6) (σ.1 5) (σ.2.1 15)) from by rw [W5, W6, G15]]; exact TX_0
      have RKS : J_rks (τ_48.1 5) (τ_48.1 4) (τ_48.2.1 10) (τ_48.2.1 11) := by rw [show (J_rks (τ_48.1 5) (τ_48.1 4) (τ_48.2.1 10) (τ_48.2.1 11)) = (J_rks (σ.1 5) (σ.1 4) (σ.2.1 10) (σ.2.1 11)) from by rw [W4, W5, G10, G11]]; exact RKS_0
      have CJ : J_all (τ_48.1 7) (τ_48.1 6) (τ_48.1 13) (τ_48.1 14) (τ_48.1 15) (τ_48.2.1 13) (τ_48.2.1 14) (τ_48.2.1 15) (τ_48.2.1 16) (τ_48.2.1 10) (τ_48.2.1 27) (τ_48.2.1 28) (τ_48.2.1 29) (τ_48.2.1 30) (τ_48.2.1 31) (τ_48.2.1 32) (τ_48.2.1 33) (τ_48.2.1 34) (τ_48.2.1 35) (τ_48.2.1 36) (τ_48.2.1 37) := by rw [show (J_all (τ_48.1 7) (τ_48.1 6) (τ_48.1 13) (τ_48.1 14) (τ_48.1 15) (τ_48.2.1 13) (τ_48.2.1 14) (τ_48.2.1 15) (τ_48.2.1 16) (τ_48.2.1 10) (τ_48.2.1 27) (τ_48.2.1 28) (τ_48.2.1 29) (τ_48.2.1 30) (τ_48.2.1 31) (τ_48.2.1 32) (τ_48.2.1 33) (τ_48.2.1 34) (τ_48.2.1 35) (τ_48.2.1 36) (τ_48.2.1 37)) = (J_all (σ.1 7) (σ.1 6) (σ.1 13) (σ.1 14) (σ.1 15) (σ.2.1 13) (σ.2.1 14) (σ.2.1 15) (σ.2.1 16) (σ.2.1 10) (σ.2.1 27) (σ.2.1 28) (σ.2.1 29) (σ.2.1 30) (σ.2.1 31) (σ.2.1 32) (σ.2.1 33) (σ.2.1 34) (σ.2.1 35) (σ.2.1 36) (σ.2.1 37)) from by rw [W6, W7, W13, W14, W15, G10, G13, G14, G15, G16, G27, G28, G29, G30, G31, G32, G33, G34, G35, G36, G37]]; exact CJ_0
      refine h48 u3_48 τ_48 ?_
      refine ⟨fun c13 => ?_, fun c13 => ?_⟩
      ·
        refine ⟨_, K_X5_finish hT, ?_⟩
        intro x15 τ16 r_x15 hn_τ16 hf_τ16 hq
        replace hT := hq
        have w3_τ16 : τ16.1 3 = τ_48.1 3 := hf_τ16.1 3 (by decide)
        have w4_τ16 : τ16.1 4 = τ_48.1 4 := hf_τ16.1 4 (by decide)
        have w5_τ16 : τ16.1 5 = τ_48.1 5 := hf_τ16.1 5 (by decide)
        have w6_τ16 : τ16.1 6 = τ_48.1 6 := hf_τ16.1 6 (by decide)
        have w7_τ16 : τ16.1 7 = τ_48.1 7 := hf_τ16.1 7 (by decide)
        have w13_τ16 : τ16.1 13 = τ_48.1 13 := hf_τ16.1 13 (by decide)
        have w14_τ16 : τ16.1 14 = τ_48.1 14 := hf_τ16.1 14 (by decide)
        have w15_τ16 : τ16.1 15 = τ_48.1 15 := hf_τ16.1 15 (by decide)
        have w45_τ16 : τ16.1 45 = τ_48.1 45 := hf_τ16.1 45 (by decide)
        have w49_τ16 : τ16.1 49 = τ_48.1 49 := hf_τ16.1 49 (by decide)
        have w50_τ16 : τ16.1 50 = τ_48.1 50 := hf_τ16.1 50 (by decide)
        have w51_τ16 : τ16.1 51 = τ_48.1 51 := hf_τ16.1 51 (by decide)
        have w52_τ16 : τ16.1 52 = τ_48.1 52 := hf_τ16.1 52 (by decide)
        have w54_τ16 : τ16.1 54 = τ_48.1 54 := hf_τ16.1 54 (by decide)
        have g2_τ16 : τ16.2.1 2 = τ_48.2.1 2 := hf_τ16.2.1 2 (by decide)
        have g3_τ16 : τ16.2.1 3 = τ_48.2.1 3 := hf_τ16.2.1 3 (by decide)
        have g4_τ16 : τ16.2.1 4 = τ_48.2.1 4 := hf_τ16.2.1 4 (by decide)
        have g5_τ16 : τ16.2.1 5 = τ_48.2.1 5 := hf_τ16.2.1 5 (by decide)
        have g6_τ16 : τ16.2.1 6 = τ_48.2.1 6 := hf_τ16.2.1 6 (by decide)
        have g10_τ16 : τ16.2.1 10 = τ_48.2.1 10 := hf_τ16.2.1 10 (by decide)
        have g11_τ16 : τ16.2.1 11 = τ_48.2.1 11 := hf_τ16.2.1 11 (by decide)
        have g13_τ16 : τ16.2.1 13 = τ_48.2.1 13 := hf_τ16.2.1 13 (by decide)
        have g14_τ16 : τ16.2.1 14 = τ_48.2.1 14 := hf_τ16.2.1 14 (by decide)
        have g15_τ16 : τ16.2.1 15 = τ_48.2.1 15 := hf_τ16.2.1 15 (by decide)
        have g16_τ16 : τ16.2.1 16 = τ_48.2.1 16 := hf_τ16.2.1 16 (by decide)
        have g27_τ16 : τ16.2.1 27 = τ_48.2.1 27 := hf_τ16.2.1 27 (by decide)
        have g28_τ16 : τ16.2.1 28 = τ_48.2.1 28 := hf_τ16.2.1 28 (by decide)
        have g29_τ16 : τ16.2.1 29 = τ_48.2.1 29 := hf_τ16.2.1 29 (by decide)
        have g30_τ16 : τ16.2.1 30 = τ_48.2.1 30 := hf_τ16.2.1 30 (by decide)
        have g31_τ16 : τ16.2.1 31 = τ_48.2.1 31 := hf_τ16.2.1 31 (by decide)
        have g32_τ16 : τ16.2.1 32 = τ_48.2.1 32 := hf_τ16.2.1 32 (by decide)
        have g33_τ16 : τ16.2.1 33 = τ_48.2.1 33 := hf_τ16.2.1 33 (by decide)
        have g34_τ16 : τ16.2.1 34 = τ_48.2.1 34 := hf_τ16.2.1 34 (by decide)
        have g35_τ16 : τ16.2.1 35 = τ_48.2.1 35 := hf_τ16.2.1 35 (by decide)
        have g36_τ16 : τ16.2.1 36 = τ_48.2.1 36 := hf_τ16.2.1 36 (by decide)
        have g37_τ16 : τ16.2.1 37 = τ_48.2.1 37 := hf_τ16.2.1 37 (by decide)
        have g84_τ16 : τ16.2.1 84 = τ_48.2.1 84 := hf_τ16.2.1 84 (by decide)
        have W3 : τ16.1 3 = σ.1 3 := by first | exact w3_τ16.trans W3 | omega
        have W4 : τ16.1 4 = σ.1 4 := by first | exact w4_τ16.trans W4 | omega
        have W5 : τ16.1 5 = σ.1 5 := by first | exact w5_τ16.trans W5 | omega
        have W6 : τ16.1 6 = σ.1 6 := by first | exact w6_τ16.trans W6 | omega
        have W7 : τ16.1 7 = σ.1 7 := by first | exact w7_τ16.trans W7 | omega
        have W13 : τ16.1 13 = σ.1 13 := by first | exact w13_τ16.trans W13 | omega
        have W14 : τ16.1 14 = σ.1 14 := by first | exact w14_τ16.trans W14 | omega
        have W15 : τ16.1 15 = σ.1 15 := by first | exact w15_τ16.trans W15 | omega
        have G2 : τ16.2.1 2 = σ.2.1 2 := (g2_τ16).trans G2
        have G3 : τ16.2.1 3 = σ.2.1 3 := (g3_τ16).trans G3
        have G4 : τ16.2.1 4 = σ.2.1 4 := (g4_τ16).trans G4
        have G5 : τ16.2.1 5 = σ.2.1 5 := (g5_τ16).trans G5
        have G6 : τ16.2.1 6 = σ.2.1 6 := (g6_τ16).trans G6
        have G10 : τ16.2.1 10 = σ.2.1 10 := (g10_τ16).trans G10
        have G11 : τ16.2.1 11 = σ.2.1 11 := (g11_τ16).trans G11
        have G13 : τ16.2.1 13 = σ.2.1 13 := (g13_τ16).trans G13
        have G14 : τ16.2.1 14 = σ.2.1 14 := (g14_τ16).trans G14
        have G15 : τ16.2.1 15 = σ.2.1 15 := (g15_τ16).trans G15
        have G16 : τ16.2.1 16 = σ.2.1 16 := (g16_τ16).trans G16
        have G27 : τ16.2.1 27 = σ.2.1 27 := (g27_τ16).trans G27
        have G28 : τ16.2.1 28 = σ.2.1 28 := (g28_τ16).trans G28
        have G29 : τ16.2.1 29 = σ.2.1 29 := (g29_τ16).trans G29
        have G30 : τ16.2.1 30 = σ.2.1 30 := (g30_τ16).trans G30
        have G31 : τ16.2.1 31 = σ.2.1 31 := (g31_τ16).trans G31
        have G32 : τ16.2.1 32 = σ.2.1 32 := (g32_τ16).trans G32
        have G33 : τ16.2.1 33 = σ.2.1 33 := (g33_τ16).trans G33
        have G34 : τ16.2.1 34 = σ.2.1 34 := (g34_τ16).trans G34
        have G35 : τ16.2.1 35 = σ.2.1 35 := (g35_τ16).trans G35
        have G36 : τ16.2.1 36 = σ.2.1 36 := (g36_τ16).trans G36
        have G37 : τ16.2.1 37 = σ.2.1 37 := (g37_τ16).trans G37
        have HT : J_ht (τ16.1 3) (τ16.2.1 2) (τ16.2.1 3) (τ16.2.1 5) (τ16.2.1 6) := by rw [show (J_ht (τ16.1 3) (τ16.2.1 2) (τ16.2.1 3) (τ16.2.1 5) (τ16.2.1 6)) = (J_ht (τ_48.1 3) (τ_48.2.1 2) (τ_48.2.1 3) (τ_48.2.1 5) (τ_48.2.1 6)) from by rw [w3_τ16, g2_τ16, g3_τ16, g5_τ16, g6_τ16]]; exact HT
        have MN : J_mn (τ16.1 3) (τ16.1 5) ((τ16.1 7) + 1) (τ16.2.1 4) := by rw [show (J_mn (τ16.1 3) (τ16.1 5) ((τ16.1 7) + 1) (τ16.2.1 4)) = (J_mn (τ_48.1 3) (τ_48.1 5) ((τ_48.1 7) + 1) (τ_48.2.1 4)) from by rw [w3_τ16, w5_τ16, w7_τ16, g4_τ16]]; exact MN
        have TX : J_vs (τ16.1 6) (τ16.1 5) (τ16.2.1 15) := by rw [show (J_vs (τ16.1 6) (τ16.1 5) (τ16.2.1 15)) = (J_vs (τ_48.1 6) (τ_48.1 5) (τ_48.2.1 15)) from by rw [w5_τ16, w6_τ16, g15_τ16]]; exact TX
        have RKS : J_rks (τ16.1 5) (τ16.1 4) (τ16.2.1 10) (τ16.2.1 11) := by rw [show (J_rks (τ16.1 5) (τ16.1 4) (τ16.2.1 10) (τ16.2.1 11)) = (J_rks (τ_48.1 5) (τ_48.1 4) (τ_48.2.1 10) (τ_48.2.1 11)) from by rw [w4_τ16, w5_τ16, g10_τ16, g11_τ16]]; exact RKS
        have CJ : J_all (τ16.1 7) (τ16.1 6) (τ16.1 13) (τ16.1 14) (τ16.1 15) (τ16.2.1 13) (τ16.2.1 14) (τ16.2.1 15) (τ16.2.1 16) (τ16.2.1 10) (τ16.2.1 27) (τ16.2.1 28) (τ16.2.1 29) (τ16.2.1 30) (τ16.2.1 31) (τ16.2.1 32) (τ16.2.1 33) (τ16.2.1 34) (τ16.2.1 35) (τ16.2.1 36) (τ16.2.1 37) := by rw [show (J_all (τ16.1 7) (τ16.1 6) (τ16.1 13) (τ16.1 14) (τ16.1 15) (τ16.2.1 13) (τ16.2.1 14) (τ16.2.1 15) (τ16.2.1 16) (τ16.2.1 10) (τ16.2.1 27) (τ16.2.1 28) (τ16.2.1 29) (τ16.2.1 30) (τ16.2.1 31) (τ16.2.1 32) (τ16.2.1 33) (τ16.2.1 34) (τ16.2.1 35) (τ16.2.1 36) (τ16.2.1 37)) = (J_all (τ_48.1 7) (τ_48.1 6) (τ_48.1 13) (τ_48.1 14) (τ_48.1 15) (τ_48.2.1 13) (τ_48.2.1 14) (τ_48.2.1 15) (τ_48.2.1 16) (τ_48.2.1 10) (τ_48.2.1 27) (τ_48.2.1 28) (τ_48.2.1 29) (τ_48.2.1 30) (τ_48.2.1 31) (τ_48.2.1 32) (τ_48.2.1 33) (τ_48.2.1 34) (τ_48.2.1 35) (τ_48.2.1 36) (τ_48.2.1 37)) from by rw [w6_τ16, w7_τ16, w13_τ16, w14_τ16, w15_τ16, g10_τ16, g13_τ16, g14_τ16, g15_τ16, g16_τ16, g27_τ16, g28_τ16, g29_τ16, g30_τ16, g31_τ16, g32_τ16, g33_τ16, g34_τ16, g35_τ16, g36_τ16, g37_τ16]]; exact CJ
        have A2 : ∀ j, 0 ≤ τ16.2.1 2 j ∧ τ16.2.1 2 j ≤ 65535 := fun j => hT.2 2 j
        have A3 : ∀ j, 0 ≤ τ16.2.1 3 j ∧ τ16.2.1 3 j ≤ 30000 := fun j => hT.2 3 j
        have A4 : ∀ j, (-1000) ≤ τ16.2.1 4 j ∧ τ16.2.1 4 j ≤ 1499 := fun j => hT.2 4 j
        have A5 : ∀ j, 0 ≤ τ16.2.1 5 j ∧ τ16.2.1 5 j ≤ 2500 := fun j => hT.2 5 j
        have A6 : ∀ j, 0 ≤ τ16.2.1 6 j ∧ τ16.2.1 6 j ≤ 2500 := fun j => hT.2 6 j
        have A10 : ∀ j, (-1) ≤ τ16.2.1 10 j ∧ τ16.2.1 10 j ≤ 99 := fun j => hT.2 10 j
        have A11 : ∀ j, 0 ≤ τ16.2.1 11 j ∧ τ16.2.1 11 j ≤ 999 := fun j => hT.2 11 j
        have A13 : ∀ j, 0 ≤ τ16.2.1 13 j ∧ τ16.2.1 13 j ≤ 4 := fun j => hT.2 13 j
        have A14 : ∀ j, 0 ≤ τ16.2.1 14 j ∧ τ16.2.1 14 j ≤ 30000 := fun j => hT.2 14 j
        have A15 : ∀ j, 0 ≤ τ16.2.1 15 j ∧ τ16.2.1 15 j ≤ 999 := fun j => hT.2 15 j
        have A16 : ∀ j, (-1) ≤ τ16.2.1 16 j ∧ τ16.2.1 16 j ≤ 1499 := fun j => hT.2 16 j
        have A27 : ∀ j, 0 ≤ τ16.2.1 27 j ∧ τ16.2.1 27 j ≤ 90000 := fun j => hT.2 27 j
        have A28 : ∀ j, 0 ≤ τ16.2.1 28 j ∧ τ16.2.1 28 j ≤ 60 := fun j => hT.2 28 j
        have A29 : ∀ j, 0 ≤ τ16.2.1 29 j ∧ τ16.2.1 29 j ≤ 1499 := fun j => hT.2 29 j
        have A30 : ∀ j, 0 ≤ τ16.2.1 30 j ∧ τ16.2.1 30 j ≤ 20000 := fun j => hT.2 30 j
        have A31 : ∀ j, 0 ≤ τ16.2.1 31 j ∧ τ16.2.1 31 j ≤ 20000 := fun j => hT.2 31 j
        have A32 : ∀ j, 0 ≤ τ16.2.1 32 j ∧ τ16.2.1 32 j ≤ 999999 := fun j => hT.2 32 j
        have A33 : ∀ j, 0 ≤ τ16.2.1 33 j ∧ τ16.2.1 33 j ≤ 20000 := fun j => hT.2 33 j
        have A34 : ∀ j, 0 ≤ τ16.2.1 34 j ∧ τ16.2.1 34 j ≤ 20000 := fun j => hT.2 34 j
        have A35 : ∀ j, 0 ≤ τ16.2.1 35 j ∧ τ16.2.1 35 j ≤ 1499 := fun j => hT.2 35 j
        have A36 : ∀ j, 0 ≤ τ16.2.1 36 j ∧ τ16.2.1 36 j ≤ 20000 := fun j => hT.2 36 j
        have A37 : ∀ j, 0 ≤ τ16.2.1 37 j ∧ τ16.2.1 37 j ≤ 19999 := fun j => hT.2 37 j
        have A84 : ∀ j, 0 ≤ τ16.2.1 84 j ∧ τ16.2.1 84 j ≤ 1499 := fun j => hT.2 84 j
        have v3 : 0 ≤ τ16.1 3 ∧ τ16.1 3 ≤ 2500 := hT.1 3
        have v4 : 0 ≤ τ16.1 4 ∧ τ16.1 4 ≤ 100 := hT.1 4
        have v5 : 0 ≤ τ16.1 5 ∧ τ16.1 5 ≤ 1000 := hT.1 5
        have v6 : 0 ≤ τ16.1 6 ∧ τ16.1 6 ≤ 30000 := hT.1 6
        have v7 : 0 ≤ τ16.1 7 ∧ τ16.1 7 ≤ 1500 := hT.1 7
        have v13 : 0 ≤ τ16.1 13 ∧ τ16.1 13 ≤ 90000 := hT.1 13
        have v14 : 0 ≤ τ16.1 14 ∧ τ16.1 14 ≤ 20000 := hT.1 14
        have v15 : 0 ≤ τ16.1 15 ∧ τ16.1 15 ≤ 20000 := hT.1 15
        have v45 : 1 ≤ τ16.1 45 ∧ τ16.1 45 ≤ 30001 := hT.1 45
        have v49 : (-1) ≤ τ16.1 49 ∧ τ16.1 49 ≤ 999 := hT.1 49
        have v50 : 0 ≤ τ16.1 50 ∧ τ16.1 50 ≤ 59 := hT.1 50
        have v51 : 0 ≤ τ16.1 51 ∧ τ16.1 51 ≤ 1500 := hT.1 51
        have v52 : (-1) ≤ τ16.1 52 ∧ τ16.1 52 ≤ 99 := hT.1 52
        have v54 : 0 ≤ τ16.1 54 ∧ τ16.1 54 ≤ 12000 := hT.1 54
        exact ⟨hT, (show c_GM In0 τ16 from by (first | exact c_GM_h i48_2 hf_τ16 rfl rfl rfl | exact q1_2 | fail))⟩
      ·
        refine ⟨(show 0 ≤ u3_48 ∧ u3_48 < 12000 from by (first | omega | (simp only [st_s] <;> omega) | assumption | omega | fail)), ?_⟩
        intro x18 r_x18 e_x18
        have b_x18 : 0 ≤ x18 ∧ x18 ≤ 1499 := by rw [e_x18]; exact hT.2 84 _
        refine ⟨(show 0 ≤ x18 ∧ x18 < 1500 from by (first | omega | (simp only [st_s] <;> omega) | assumption | omega | fail)), ?_⟩
        intro x20 r_x20 e_x20
        have b_x20 : 0 ≤ x20 ∧ x20 ≤ 2499 := by rw [e_x20]; exact hT.2 12 _
        refine ⟨_, K_X5_putName hT (show 0 ≤ x20 from by (first | omega | (simp only [st_s] <;> omega) | assumption | omega | fail)) (show x20 < 2500 from by (first | omega | (simp only [st_s] <;> omega) | assumption | omega | fail)), ?_⟩
        intro τ23 hn_τ23 hf_τ23 hq
        replace hT := hq
        have w3_τ23 : τ23.1 3 = τ_48.1 3 := hf_τ23.1 3 (by decide)
        have w4_τ23 : τ23.1 4 = τ_48.1 4 := hf_τ23.1 4 (by decide)
        have w5_τ23 : τ23.1 5 = τ_48.1 5 := hf_τ23.1 5 (by decide)
        have w6_τ23 : τ23.1 6 = τ_48.1 6 := hf_τ23.1 6 (by decide)
        have w7_τ23 : τ23.1 7 = τ_48.1 7 := hf_τ23.1 7 (by decide)
        have w13_τ23 : τ23.1 13 = τ_48.1 13 := hf_τ23.1 13 (by decide)
        have w14_τ23 : τ23.1 14 = τ_48.1 14 := hf_τ23.1 14 (by decide)
        have w15_τ23 : τ23.1 15 = τ_48.1 15 := hf_τ23.1 15 (by decide)
        have w45_τ23 : τ23.1 45 = τ_48.1 45 := hf_τ23.1 45 (by decide)
        have w49_τ23 : τ23.1 49 = τ_48.1 49 := hf_τ23.1 49 (by decide)
        have w50_τ23 : τ23.1 50 = τ_48.1 50 := hf_τ23.1 50 (by decide)
        have w51_τ23 : τ23.1 51 = τ_48.1 51 := hf_τ23.1 51 (by decide)
        have w52_τ23 : τ23.1 52 = τ_48.1 52 := hf_τ23.1 52 (by decide)
        have w54_τ23 : τ23.1 54 = τ_48.1 54 := hf_τ23.1 54 (by decide)
        have g2_τ23 : τ23.2.1 2 = τ_48.2.1 2 := hf_τ23.2.1 2 (by decide)
        have g3_τ23 : τ23.2.1 3 = τ_48.2.1 3 := hf_τ23.2.1 3 (by decide)
        have g4_τ23 : τ23.2.1 4 = τ_48.2.1 4 := hf_τ23.2.1 4 (by decide)
        have g5_τ23 : τ23.2.1 5 = τ_48.2.1 5 := hf_τ23.2.1 5 (by decide)
        have g6_τ23 : τ23.2.1 6 = τ_48.2.1 6 := hf_τ23.2.1 6 (by decide)
        have g10_τ23 : τ23.2.1 10 = τ_48.2.1 10 := hf_τ23.2.1 10 (by decide)
        have g11_τ23 : τ23.2.1 11 = τ_48.2.1 11 := hf_τ23.2.1 11 (by decide)
        have g13_τ23 : τ23.2.1 13 = τ_48.2.1 13 := hf_τ23.2.1 13 (by decide)
        have g14_τ23 : τ23.2.1 14 = τ_48.2.1 14 := hf_τ23.2.1 14 (by decide)
        have g15_τ23 : τ23.2.1 15 = τ_48.2.1 15 := hf_τ23.2.1 15 (by decide)
        have g16_τ23 : τ23.2.1 16 = τ_48.2.1 16 := hf_τ23.2.1 16 (by decide)
        have g27_τ23 : τ23.2.1 27 = τ_48.2.1 27 := hf_τ23.2.1 27 (by decide)
        have g28_τ23 : τ23.2.1 28 = τ_48.2.1 28 := hf_τ23.2.1 28 (by decide)
        have g29_τ23 : τ23.2.1 29 = τ_48.2.1 29 := hf_τ23.2.1 29 (by decide)
        have g30_τ23 : τ23.2.1 30 = τ_48.2.1 30 := hf_τ23.2.1 30 (by decide)
        have g31_τ23 : τ23.2.1 31 = τ_48.2.1 31 := hf_τ23.2.1 31 (by decide)
        have g32_τ23 : τ23.2.1 32 = τ_48.2.1 32 := hf_τ23.2.1 32 (by decide)
        have g33_τ23 : τ23.2.1 33 = τ_48.2.1 33 := hf_τ23.2.1 33 (by decide)
        have g34_τ23 : τ23.2.1 34 = τ_48.2.1 34 := hf_τ23.2.1 34 (by decide)
        have g35_τ23 : τ23.2.1 35 = τ_48.2.1 35 := hf_τ23.2.1 35 (by decide)
        have g36_τ23 : τ23.2.1 36 = τ_48.2.1 36 := hf_τ23.2.1 36 (by decide)
        have g37_τ23 : τ23.2.1 37 = τ_48.2.1 37 := hf_τ23.2.1 37 (by decide)
        have g84_τ23 : τ23.2.1 84 = τ_48.2.1 84 := hf_τ23.2.1 84 (by decide)
        have W3 : τ23.1 3 = σ.1 3 := by first | exact w3_τ23.trans W3 | omega
        have W4 : τ23.1 4 = σ.1 4 := by first | exact w4_τ23.trans W4 | omega
        have W5 : τ23.1 5 = σ.1 5 := by first | exact w5_τ23.trans W5 | omega
        have W6 : τ23.1 6 = σ.1 6 := by first | exact w6_τ23.trans W6 | omega
        have W7 : τ23.1 7 = σ.1 7 := by first | exact w7_τ23.trans W7 | omega
        have W13 : τ23.1 13 = σ.1 13 := by first | exact w13_τ23.trans W13 | omega
        have W14 : τ23.1 14 = σ.1 14 := by first | exact w14_τ23.trans W14 | omega
        have W15 : τ23.1 15 = σ.1 15 := by first | exact w15_τ23.trans W15 | omega
        have G2 : τ23.2.1 2 = σ.2.1 2 := (g2_τ23).trans G2
        have G3 : τ23.2.1 3 = σ.2.1 3 := (g3_τ23).trans G3
        have G4 : τ23.2.1 4 = σ.2.1 4 := (g4_τ23).trans G4
        have G5 : τ23.2.1 5 = σ.2.1 5 := (g5_τ23).trans G5
        have G6 : τ23.2.1 6 = σ.2.1 6 := (g6_τ23).trans G6
        have G10 : τ23.2.1 10 = σ.2.1 10 := (g10_τ23).trans G10
        have G11 : τ23.2.1 11 = σ.2.1 11 := (g11_τ23).trans G11
        have G13 : τ23.2.1 13 = σ.2.1 13 := (g13_τ23).trans G13
        have G14 : τ23.2.1 14 = σ.2.1 14 := (g14_τ23).trans G14
        have G15 : τ23.2.1 15 = σ.2.1 15 := (g15_τ23).trans G15
        have G16 : τ23.2.1 16 = σ.2.1 16 := (g16_τ23).trans G16
        have G27 : τ23.2.1 27 = σ.2.1 27 := (g27_τ23).trans G27
        have G28 : τ23.2.1 28 = σ.2.1 28 := (g28_τ23).trans G28
        have G29 : τ23.2.1 29 = σ.2.1 29 := (g29_τ23).trans G29
        have G30 : τ23.2.1 30 = σ.2.1 30 := (g30_τ23).trans G30
        have G31 : τ23.2.1 31 = σ.2.1 31 := (g31_τ23).trans G31
        have G32 : τ23.2.1 32 = σ.2.1 32 := (g32_τ23).trans G32
        have G33 : τ23.2.1 33 = σ.2.1 33 := (g33_τ23).trans G33
        have G34 : τ23.2.1 34 = σ.2.1 34 := (g34_τ23).trans G34
        have G35 : τ23.2.1 35 = σ.2.1 35 := (g35_τ23).trans G35
        have G36 : τ23.2.1 36 = σ.2.1 36 := (g36_τ23).trans G36
        have G37 : τ23.2.1 37 = σ.2.1 37 := (g37_τ23).trans G37
        have HT : J_ht (τ23.1 3) (τ23.2.1 2) (τ23.2.1 3) (τ23.2.1 5) (τ23.2.1 6) := by rw [show (J_ht (τ23.1 3) (τ23.2.1 2) (τ23.2.1 3) (τ23.2.1 5) (τ23.2.1 6)) = (J_ht (τ_48.1 3) (τ_48.2.1 2) (τ_48.2.1 3) (τ_48.2.1 5) (τ_48.2.1 6)) from by rw [w3_τ23, g2_τ23, g3_τ23, g5_τ23, g6_τ23]]; exact HT
        have MN : J_mn (τ23.1 3) (τ23.1 5) ((τ23.1 7) + 1) (τ23.2.1 4) := by rw [show (J_mn (τ23.1 3) (τ23.1 5) ((τ23.1 7) + 1) (τ23.2.1 4)) = (J_mn (τ_48.1 3) (τ_48.1 5) ((τ_48.1 7) + 1) (τ_48.2.1 4)) from by rw [w3_τ23, w5_τ23, w7_τ23, g4_τ23]]; exact MN
        have TX : J_vs (τ23.1 6) (τ23.1 5) (τ23.2.1 15) := by rw [show (J_vs (τ23.1 6) (τ23.1 5) (τ23.2.1 15)) = (J_vs (τ_48.1 6) (τ_48.1 5) (τ_48.2.1 15)) from by rw [w5_τ23, w6_τ23, g15_τ23]]; exact TX
        have RKS : J_rks (τ23.1 5) (τ23.1 4) (τ23.2.1 10) (τ23.2.1 11) := by rw [show (J_rks (τ23.1 5) (τ23.1 4) (τ23.2.1 10) (τ23.2.1 11)) = (J_rks (τ_48.1 5) (τ_48.1 4) (τ_48.2.1 10) (τ_48.2.1 11)) from by rw [w4_τ23, w5_τ23, g10_τ23, g11_τ23]]; exact RKS
        have CJ : J_all (τ23.1 7) (τ23.1 6) (τ23.1 13) (τ23.1 14) (τ23.1 15) (τ23.2.1 13) (τ23.2.1 14) (τ23.2.1 15) (τ23.2.1 16) (τ23.2.1 10) (τ23.2.1 27) (τ23.2.1 28) (τ23.2.1 29) (τ23.2.1 30) (τ23.2.1 31) (τ23.2.1 32) (τ23.2.1 33) (τ23.2.1 34) (τ23.2.1 35) (τ23.2.1 36) (τ23.2.1 37) := by rw [show (J_all (τ23.1 7) (τ23.1 6) (τ23.1 13) (τ23.1 14) (τ23.1 15) (τ23.2.1 13) (τ23.2.1 14) (τ23.2.1 15) (τ23.2.1 16) (τ23.2.1 10) (τ23.2.1 27) (τ23.2.1 28) (τ23.2.1 29) (τ23.2.1 30) (τ23.2.1 31) (τ23.2.1 32) (τ23.2.1 33) (τ23.2.1 34) (τ23.2.1 35) (τ23.2.1 36) (τ23.2.1 37)) = (J_all (τ_48.1 7) (τ_48.1 6) (τ_48.1 13) (τ_48.1 14) (τ_48.1 15) (τ_48.2.1 13) (τ_48.2.1 14) (τ_48.2.1 15) (τ_48.2.1 16) (τ_48.2.1 10) (τ_48.2.1 27) (τ_48.2.1 28) (τ_48.2.1 29) (τ_48.2.1 30) (τ_48.2.1 31) (τ_48.2.1 32) (τ_48.2.1 33) (τ_48.2.1 34) (τ_48.2.1 35) (τ_48.2.1 36) (τ_48.2.1 37)) from by rw [w6_τ23, w7_τ23, w13_τ23, w14_τ23, w15_τ23, g10_τ23, g13_τ23, g14_τ23, g15_τ23, g16_τ23, g27_τ23, g28_τ23, g29_τ23, g30_τ23, g31_τ23, g32_τ23, g33_τ23, g34_τ23, g35_τ23, g36_τ23, g37_τ23]]; exact CJ
        have A2 : ∀ j, 0 ≤ τ23.2.1 2 j ∧ τ23.2.1 2 j ≤ 65535 := fun j => hT.2 2 j
        have A3 : ∀ j, 0 ≤ τ23.2.1 3 j ∧ τ23.2.1 3 j ≤ 30000 := fun j => hT.2 3 j
        have A4 : ∀ j, (-1000) ≤ τ23.2.1 4 j ∧ τ23.2.1 4 j ≤ 1499 := fun j => hT.2 4 j
        have A5 : ∀ j, 0 ≤ τ23.2.1 5 j ∧ τ23.2.1 5 j ≤ 2500 := fun j => hT.2 5 j
        have A6 : ∀ j, 0 ≤ τ23.2.1 6 j ∧ τ23.2.1 6 j ≤ 2500 := fun j => hT.2 6 j
        have A10 : ∀ j, (-1) ≤ τ23.2.1 10 j ∧ τ23.2.1 10 j ≤ 99 := fun j => hT.2 10 j
        have A11 : ∀ j, 0 ≤ τ23.2.1 11 j ∧ τ23.2.1 11 j ≤ 999 := fun j => hT.2 11 j
        have A13 : ∀ j, 0 ≤ τ23.2.1 13 j ∧ τ23.2.1 13 j ≤ 4 := fun j => hT.2 13 j
        have A14 : ∀ j, 0 ≤ τ23.2.1 14 j ∧ τ23.2.1 14 j ≤ 30000 := fun j => hT.2 14 j
        have A15 : ∀ j, 0 ≤ τ23.2.1 15 j ∧ τ23.2.1 15 j ≤ 999 := fun j => hT.2 15 j
        have A16 : ∀ j, (-1) ≤ τ23.2.1 16 j ∧ τ23.2.1 16 j ≤ 1499 := fun j => hT.2 16 j
        have A27 : ∀ j, 0 ≤ τ23.2.1 27 j ∧ τ23.2.1 27 j ≤ 90000 := fun j => hT.2 27 j
        have A28 : ∀ j, 0 ≤ τ23.2.1 28 j ∧ τ23.2.1 28 j ≤ 60 := fun j => hT.2 28 j
        have A29 : ∀ j, 0 ≤ τ23.2.1 29 j ∧ τ23.2.1 29 j ≤ 1499 := fun j => hT.2 29 j
        have A30 : ∀ j, 0 ≤ τ23.2.1 30 j ∧ τ23.2.1 30 j ≤ 20000 := fun j => hT.2 30 j
        have A31 : ∀ j, 0 ≤ τ23.2.1 31 j ∧ τ23.2.1 31 j ≤ 20000 := fun j => hT.2 31 j
        have A32 : ∀ j, 0 ≤ τ23.2.1 32 j ∧ τ23.2.1 32 j ≤ 999999 := fun j => hT.2 32 j
        have A33 : ∀ j, 0 ≤ τ23.2.1 33 j ∧ τ23.2.1 33 j ≤ 20000 := fun j => hT.2 33 j
        have A34 : ∀ j, 0 ≤ τ23.2.1 34 j ∧ τ23.2.1 34 j ≤ 20000 := fun j => hT.2 34 j
        have A35 : ∀ j, 0 ≤ τ23.2.1 35 j ∧ τ23.2.1 35 j ≤ 1499 := fun j => hT.2 35 j
        have A36 : ∀ j, 0 ≤ τ23.2.1 36 j ∧ τ23.2.1 36 j ≤ 20000 := fun j => hT.2 36 j
        have A37 : ∀ j, 0 ≤ τ23.2.1 37 j ∧ τ23.2.1 37 j ≤ 19999 := fun j => hT.2 37 j
        have A84 : ∀ j, 0 ≤ τ23.2.1 84 j ∧ τ23.2.1 84 j ≤ 1499 := fun j => hT.2 84 j
        have v3 : 0 ≤ τ23.1 3 ∧ τ23.1 3 ≤ 2500 := hT.1 3
        have v4 : 0 ≤ τ23.1 4 ∧ τ23.1 4 ≤ 100 := hT.1 4
        have v5 : 0 ≤ τ23.1 5 ∧ τ23.1 5 ≤ 1000 := hT.1 5
        have v6 : 0 ≤ τ23.1 6 ∧ τ23.1 6 ≤ 30000 := hT.1 6
        have v7 : 0 ≤ τ23.1 7 ∧ τ23.1 7 ≤ 1500 := hT.1 7
        have v13 : 0 ≤ τ23.1 13 ∧ τ23.1 13 ≤ 90000 := hT.1 13
        have v14 : 0 ≤ τ23.1 14 ∧ τ23.1 14 ≤ 20000 := hT.1 14
        have v15 : 0 ≤ τ23.1 15 ∧ τ23.1 15 ≤ 20000 := hT.1 15
        have v45 : 1 ≤ τ23.1 45 ∧ τ23.1 45 ≤ 30001 := hT.1 45
        have v49 : (-1) ≤ τ23.1 49 ∧ τ23.1 49 ≤ 999 := hT.1 49
        have v50 : 0 ≤ τ23.1 50 ∧ τ23.1 50 ≤ 59 := hT.1 50
        have v51 : 0 ≤ τ23.1 51 ∧ τ23.1 51 ≤ 1500 := hT.1 51
        have v52 : (-1) ≤ τ23.1 52 ∧ τ23.1 52 ≤ 99 := hT.1 52
        have v54 : 0 ≤ τ23.1 54 ∧ τ23.1 54 ≤ 12000 := hT.1 54
        refine ⟨(⟨by (first | omega | (simp only [st_s] <;> omega) | assumption | omega | fail), by (first | omega | (simp only [st_s] <;> omega) | assumption | omega | fail)⟩ : rg (u3_48 + (-1))), ?_⟩
        exact ih_48 _ _ (show ((u3_48 + (-1)) + 2 : Int) < ((m_48 : Nat) : Int) from by ((first | omega | (simp only [st_s] <;> omega) | assumption | omega | fail))) hT (show τ23.1 3 = σ.1 3 from by first | exact W3 | omega) (show τ23.1 4 = σ.1 4 from by first | exact W4 | omega) (show τ23.1 5 = σ.1 5 from by first | exact W5 | omega) (show τ23.1 6 = σ.1 6 from by first | exact W6 | omega) (show τ23.1 7 = σ.1 7 from by first | exact W7 | omega) (show τ23.1 13 = σ.1 13 from by first | exact W13 | omega) (show τ23.1 14 = σ.1 14 from by first | exact W14 | omega) (show τ23.1 15 = σ.1 15 from by first | exact W15 | omega) G2 G3 G4 G5 G6 G10 G11 G13 G14 G15 G16 G27 G28 G29 G30 G31 G32 G33 G34 G35 G36 G37 (show -1 ≤ (u3_48 + (-1)) ∧ (u3_48 + (-1)) < 12000 from by (first | omega | (simp only [st_s] <;> omega) | assumption | omega | fail)) (show c_GM In0 τ23 from by (first | exact c_GM_h gm7 hf_τ10 rfl rfl rfl | exact c_GM_h i48_2 hf_τ23 rfl rfl rfl | fail))
  refine ⟨_, K_X12_treesOf hT (show 0 ≤ n1 from by (first | omega | (simp only [st_s] <;> omega) | assumption | omega | fail)) (show n1 < (σ.1 7) from by (first | omega | (simp only [st_s] <;> omega) | assumption | omega | fail)) (show J_all (σ.1 7) (σ.1 6) (σ.1 13) (σ.1 14) (σ.1 15) (σ.2.1 13) (σ.2.1 14) (σ.2.1 15) (σ.2.1 16) (σ.2.1 10) (σ.2.1 27) (σ.2.1 28) (σ.2.1 29) (σ.2.1 30) (σ.2.1 31) (σ.2.1 32) (σ.2.1 33) (σ.2.1 34) (σ.2.1 35) (σ.2.1 36) (σ.2.1 37) from CJ) (show J_ht (σ.1 3) (σ.2.1 2) (σ.2.1 3) (σ.2.1 5) (σ.2.1 6) from HT) (show J_mn (σ.1 3) (σ.1 5) ((σ.1 7) + 1) (σ.2.1 4) from MN) (show J_rks (σ.1 5) (σ.1 4) (σ.2.1 10) (σ.2.1 11) from RKS) (show J_vs (σ.1 6) (σ.1 5) (σ.2.1 15) from TX) (show c_GM In0 σ from by exact p8), ?_⟩
  intro x2 τ3 r_x2 hn_τ3 hf_τ3 hq
  obtain ⟨hT, q1_1, q1_2, q1_3, q1_4, q1_5⟩ := hq
  replace q1_1 : -2 ≤ x2 ∧ x2 ≤ 2 := q1_1
  replace q1_2 : c_GM In0 τ3 := q1_2
  replace q1_3 : x2 = 1 → ∃ par nof : Int → Int, ∃ In : Int → Prop, (c_Rs τ3 par nof In ∧ ∀ r : Int, In0 r → In r) ∧ c_GR τ3 par nof In := q1_3
  replace q1_4 : x2 = 1 → σ.2.1 14 (n1 + 1) ≤ σ.2.1 14 n1 + 60 := q1_4
  replace q1_5 : x2 = 1 → (τ3.1 49) < (σ.1 5) := q1_5
  have w3_τ3 : τ3.1 3 = σ.1 3 := hf_τ3.1 3 (by decide)
  have w4_τ3 : τ3.1 4 = σ.1 4 := hf_τ3.1 4 (by decide)
  have w5_τ3 : τ3.1 5 = σ.1 5 := hf_τ3.1 5 (by decide)
  have w6_τ3 : τ3.1 6 = σ.1 6 := hf_τ3.1 6 (by decide)
  have w7_τ3 : τ3.1 7 = σ.1 7 := hf_τ3.1 7 (by decide)
  have w13_τ3 : τ3.1 13 = σ.1 13 := hf_τ3.1 13 (by decide)
  have w14_τ3 : τ3.1 14 = σ.1 14 := hf_τ3.1 14 (by decide)
  have w15_τ3 : τ3.1 15 = σ.1 15 := hf_τ3.1 15 (by decide)
  have w54_τ3 : τ3.1 54 = σ.1 54 := hf_τ3.1 54 (by decide)
  have g2_τ3 : τ3.2.1 2 = σ.2.1 2 := hf_τ3.2.1 2 (by decide)
  have g3_τ3 : τ3.2.1 3 = σ.2.1 3 := hf_τ3.2.1 3 (by decide)
  have g4_τ3 : τ3.2.1 4 = σ.2.1 4 := hf_τ3.2.1 4 (by decide)
  have g5_τ3 : τ3.2.1 5 = σ.2.1 5 := hf_τ3.2.1 5 (by decide)
  have g6_τ3 : τ3.2.1 6 = σ.2.1 6 := hf_τ3.2.1 6 (by decide)
  have g10_τ3 : τ3.2.1 10 = σ.2.1 10 := hf_τ3.2.1 10 (by decide)
  have g11_τ3 : τ3.2.1 11 = σ.2.1 11 := hf_τ3.2.1 11 (by decide)
  have g13_τ3 : τ3.2.1 13 = σ.2.1 13 := hf_τ3.2.1 13 (by decide)
  have g14_τ3 : τ3.2.1 14 = σ.2.1 14 := hf_τ3.2.1 14 (by decide)
  have g15_τ3 : τ3.2.1 15 = σ.2.1 15 := hf_τ3.2.1 15 (by decide)
  have g16_τ3 : τ3.2.1 16 = σ.2.1 16 := hf_τ3.2.1 16 (by decide)
  have g27_τ3 : τ3.2.1 27 = σ.2.1 27 := hf_τ3.2.1 27 (by decide)
  have g28_τ3 : τ3.2.1 28 = σ.2.1 28 := hf_τ3.2.1 28 (by decide)
  have g29_τ3 : τ3.2.1 29 = σ.2.1 29 := hf_τ3.2.1 29 (by decide)
  have g30_τ3 : τ3.2.1 30 = σ.2.1 30 := hf_τ3.2.1 30 (by decide)
  have g31_τ3 : τ3.2.1 31 = σ.2.1 31 := hf_τ3.2.1 31 (by decide)
  have g32_τ3 : τ3.2.1 32 = σ.2.1 32 := hf_τ3.2.1 32 (by decide)
  have g33_τ3 : τ3.2.1 33 = σ.2.1 33 := hf_τ3.2.1 33 (by decide)
  have g34_τ3 : τ3.2.1 34 = σ.2.1 34 := hf_τ3.2.1 34 (by decide)
  have g35_τ3 : τ3.2.1 35 = σ.2.1 35 := hf_τ3.2.1 35 (by decide)
  have g36_τ3 : τ3.2.1 36 = σ.2.1 36 := hf_τ3.2.1 36 (by decide)
  have g37_τ3 : τ3.2.1 37 = σ.2.1 37 := hf_τ3.2.1 37 (by decide)
  have g84_τ3 : τ3.2.1 84 = σ.2.1 84 := hf_τ3.2.1 84 (by decide)
  have W3 : τ3.1 3 = σ.1 3 := by first | exact w3_τ3.trans W3 | omega
  have W4 : τ3.1 4 = σ.1 4 := by first | exact w4_τ3.trans W4 | omega
  have W5 : τ3.1 5 = σ.1 5 := by first | exact w5_τ3.trans W5 | omega
  have W6 : τ3.1 6 = σ.1 6 := by first | exact w6_τ3.trans W6 | omega
  have W7 : τ3.1 7 = σ.1 7 := by first | exact w7_τ3.trans W7 | omega
  have W13 : τ3.1 13 = σ.1 13 := by first | exact w13_τ3.trans W13 | omega
  have W14 : τ3.1 14 = σ.1 14 := by first | exact w14_τ3.trans W14 | omega
  have W15 : τ3.1 15 = σ.1 15 := by first | exact w15_τ3.trans W15 | omega
  have G2 : τ3.2.1 2 = σ.2.1 2 := (g2_τ3).trans G2
  have G3 : τ3.2.1 3 = σ.2.1 3 := (g3_τ3).trans G3
  have G4 : τ3.2.1 4 = σ.2.1 4 := (g4_τ3).trans G4
  have G5 : τ3.2.1 5 = σ.2.1 5 := (g5_τ3).trans G5
  have G6 : τ3.2.1 6 = σ.2.1 6 := (g6_τ3).trans G6
  have G10 : τ3.2.1 10 = σ.2.1 10 := (g10_τ3).trans G10
  have G11 : τ3.2.1 11 = σ.2.1 11 := (g11_τ3).trans G11
  have G13 : τ3.2.1 13 = σ.2.1 13 := (g13_τ3).trans G13
  have G14 : τ3.2.1 14 = σ.2.1 14 := (g14_τ3).trans G14
  have G15 : τ3.2.1 15 = σ.2.1 15 := (g15_τ3).trans G15
  have G16 : τ3.2.1 16 = σ.2.1 16 := (g16_τ3).trans G16
  have G27 : τ3.2.1 27 = σ.2.1 27 := (g27_τ3).trans G27
  have G28 : τ3.2.1 28 = σ.2.1 28 := (g28_τ3).trans G28
  have G29 : τ3.2.1 29 = σ.2.1 29 := (g29_τ3).trans G29
  have G30 : τ3.2.1 30 = σ.2.1 30 := (g30_τ3).trans G30
  have G31 : τ3.2.1 31 = σ.2.1 31 := (g31_τ3).trans G31
  have G32 : τ3.2.1 32 = σ.2.1 32 := (g32_τ3).trans G32
  have G33 : τ3.2.1 33 = σ.2.1 33 := (g33_τ3).trans G33
  have G34 : τ3.2.1 34 = σ.2.1 34 := (g34_τ3).trans G34
  have G35 : τ3.2.1 35 = σ.2.1 35 := (g35_τ3).trans G35
  have G36 : τ3.2.1 36 = σ.2.1 36 := (g36_τ3).trans G36
  have G37 : τ3.2.1 37 = σ.2.1 37 := (g37_τ3).trans G37
  have HT : J_ht (τ3.1 3) (τ3.2.1 2) (τ3.2.1 3) (τ3.2.1 5) (τ3.2.1 6) := by rw [show (J_ht (τ3.1 3) (τ3.2.1 2) (τ3.2.1 3) (τ3.2.1 5) (τ3.2.1 6)) = (J_ht (σ.1 3) (σ.2.1 2) (σ.2.1 3) (σ.2.1 5) (σ.2.1 6)) from by rw [w3_τ3, g2_τ3, g3_τ3, g5_τ3, g6_τ3]]; exact HT
  have MN : J_mn (τ3.1 3) (τ3.1 5) ((τ3.1 7) + 1) (τ3.2.1 4) := by rw [show (J_mn (τ3.1 3) (τ3.1 5) ((τ3.1 7) + 1) (τ3.2.1 4)) = (J_mn (σ.1 3) (σ.1 5) ((σ.1 7) + 1) (σ.2.1 4)) from by rw [w3_τ3, w5_τ3, w7_τ3, g4_τ3]]; exact MN
  have TX : J_vs (τ3.1 6) (τ3.1 5) (τ3.2.1 15) := by rw [show (J_vs (τ3.1 6) (τ3.1 5) (τ3.2.1 15)) = (J_vs (σ.1 6) (σ.1 5) (σ.2.1 15)) from by rw [w5_τ3, w6_τ3, g15_τ3]]; exact TX
  have RKS : J_rks (τ3.1 5) (τ3.1 4) (τ3.2.1 10) (τ3.2.1 11) := by rw [show (J_rks (τ3.1 5) (τ3.1 4) (τ3.2.1 10) (τ3.2.1 11)) = (J_rks (σ.1 5) (σ.1 4) (σ.2.1 10) (σ.2.1 11)) from by rw [w4_τ3, w5_τ3, g10_τ3, g11_τ3]]; exact RKS
  have CJ : J_all (τ3.1 7) (τ3.1 6) (τ3.1 13) (τ3.1 14) (τ3.1 15) (τ3.2.1 13) (τ3.2.1 14) (τ3.2.1 15) (τ3.2.1 16) (τ3.2.1 10) (τ3.2.1 27) (τ3.2.1 28) (τ3.2.1 29) (τ3.2.1 30) (τ3.2.1 31) (τ3.2.1 32) (τ3.2.1 33) (τ3.2.1 34) (τ3.2.1 35) (τ3.2.1 36) (τ3.2.1 37) := by rw [show (J_all (τ3.1 7) (τ3.1 6) (τ3.1 13) (τ3.1 14) (τ3.1 15) (τ3.2.1 13) (τ3.2.1 14) (τ3.2.1 15) (τ3.2.1 16) (τ3.2.1 10) (τ3.2.1 27) (τ3.2.1 28) (τ3.2.1 29) (τ3.2.1 30) (τ3.2.1 31) (τ3.2.1 32) (τ3.2.1 33) (τ3.2.1 34) (τ3.2.1 35) (τ3.2.1 36) (τ3.2.1 37)) = (J_all (σ.1 7) (σ.1 6) (σ.1 13) (σ.1 14) (σ.1 15) (σ.2.1 13) (σ.2.1 14) (σ.2.1 15) (σ.2.1 16) (σ.2.1 10) (σ.2.1 27) (σ.2.1 28) (σ.2.1 29) (σ.2.1 30) (σ.2.1 31) (σ.2.1 32) (σ.2.1 33) (σ.2.1 34) (σ.2.1 35) (σ.2.1 36) (σ.2.1 37)) from by rw [w6_τ3, w7_τ3, w13_τ3, w14_τ3, w15_τ3, g10_τ3, g13_τ3, g14_τ3, g15_τ3, g16_τ3, g27_τ3, g28_τ3, g29_τ3, g30_τ3, g31_τ3, g32_τ3, g33_τ3, g34_τ3, g35_τ3, g36_τ3, g37_τ3]]; exact CJ
  have A2 : ∀ j, 0 ≤ τ3.2.1 2 j ∧ τ3.2.1 2 j ≤ 65535 := fun j => hT.2 2 j
  have A3 : ∀ j, 0 ≤ τ3.2.1 3 j ∧ τ3.2.1 3 j ≤ 30000 := fun j => hT.2 3 j
  have A4 : ∀ j, (-1000) ≤ τ3.2.1 4 j ∧ τ3.2.1 4 j ≤ 1499 := fun j => hT.2 4 j
  have A5 : ∀ j, 0 ≤ τ3.2.1 5 j ∧ τ3.2.1 5 j ≤ 2500 := fun j => hT.2 5 j
  have A6 : ∀ j, 0 ≤ τ3.2.1 6 j ∧ τ3.2.1 6 j ≤ 2500 := fun j => hT.2 6 j
  have A10 : ∀ j, (-1) ≤ τ3.2.1 10 j ∧ τ3.2.1 10 j ≤ 99 := fun j => hT.2 10 j
  have A11 : ∀ j, 0 ≤ τ3.2.1 11 j ∧ τ3.2.1 11 j ≤ 999 := fun j => hT.2 11 j
  have A13 : ∀ j, 0 ≤ τ3.2.1 13 j ∧ τ3.2.1 13 j ≤ 4 := fun j => hT.2 13 j
  have A14 : ∀ j, 0 ≤ τ3.2.1 14 j ∧ τ3.2.1 14 j ≤ 30000 := fun j => hT.2 14 j
  have A15 : ∀ j, 0 ≤ τ3.2.1 15 j ∧ τ3.2.1 15 j ≤ 999 := fun j => hT.2 15 j
  have A16 : ∀ j, (-1) ≤ τ3.2.1 16 j ∧ τ3.2.1 16 j ≤ 1499 := fun j => hT.2 16 j
  have A27 : ∀ j, 0 ≤ τ3.2.1 27 j ∧ τ3.2.1 27 j ≤ 90000 := fun j => hT.2 27 j
  have A28 : ∀ j, 0 ≤ τ3.2.1 28 j ∧ τ3.2.1 28 j ≤ 60 := fun j => hT.2 28 j
  have A29 : ∀ j, 0 ≤ τ3.2.1 29 j ∧ τ3.2.1 29 j ≤ 1499 := fun j => hT.2 29 j
  have A30 : ∀ j, 0 ≤ τ3.2.1 30 j ∧ τ3.2.1 30 j ≤ 20000 := fun j => hT.2 30 j
  have A31 : ∀ j, 0 ≤ τ3.2.1 31 j ∧ τ3.2.1 31 j ≤ 20000 := fun j => hT.2 31 j
  have A32 : ∀ j, 0 ≤ τ3.2.1 32 j ∧ τ3.2.1 32 j ≤ 999999 := fun j => hT.2 32 j
  have A33 : ∀ j, 0 ≤ τ3.2.1 33 j ∧ τ3.2.1 33 j ≤ 20000 := fun j => hT.2 33 j
  have A34 : ∀ j, 0 ≤ τ3.2.1 34 j ∧ τ3.2.1 34 j ≤ 20000 := fun j => hT.2 34 j
  have A35 : ∀ j, 0 ≤ τ3.2.1 35 j ∧ τ3.2.1 35 j ≤ 1499 := fun j => hT.2 35 j
  have A36 : ∀ j, 0 ≤ τ3.2.1 36 j ∧ τ3.2.1 36 j ≤ 20000 := fun j => hT.2 36 j
  have A37 : ∀ j, 0 ≤ τ3.2.1 37 j ∧ τ3.2.1 37 j ≤ 19999 := fun j => hT.2 37 j
  have A84 : ∀ j, 0 ≤ τ3.2.1 84 j ∧ τ3.2.1 84 j ≤ 1499 := fun j => hT.2 84 j
  have v3 : 0 ≤ τ3.1 3 ∧ τ3.1 3 ≤ 2500 := hT.1 3
  have v4 : 0 ≤ τ3.1 4 ∧ τ3.1 4 ≤ 100 := hT.1 4
  have v5 : 0 ≤ τ3.1 5 ∧ τ3.1 5 ≤ 1000 := hT.1 5
  have v6 : 0 ≤ τ3.1 6 ∧ τ3.1 6 ≤ 30000 := hT.1 6
  have v7 : 0 ≤ τ3.1 7 ∧ τ3.1 7 ≤ 1500 := hT.1 7
  have v13 : 0 ≤ τ3.1 13 ∧ τ3.1 13 ≤ 90000 := hT.1 13
  have v14 : 0 ≤ τ3.1 14 ∧ τ3.1 14 ≤ 20000 := hT.1 14
  have v15 : 0 ≤ τ3.1 15 ∧ τ3.1 15 ≤ 20000 := hT.1 15
  have v45 : 1 ≤ τ3.1 45 ∧ τ3.1 45 ≤ 30001 := hT.1 45
  have v49 : (-1) ≤ τ3.1 49 ∧ τ3.1 49 ≤ 999 := hT.1 49
  have v50 : 0 ≤ τ3.1 50 ∧ τ3.1 50 ≤ 59 := hT.1 50
  have v51 : 0 ≤ τ3.1 51 ∧ τ3.1 51 ≤ 1500 := hT.1 51
  have v52 : (-1) ≤ τ3.1 52 ∧ τ3.1 52 ≤ 99 := hT.1 52
  have v54 : 0 ≤ τ3.1 54 ∧ τ3.1 54 ≤ 12000 := hT.1 54
  refine ⟨fun c4 => ?_, fun c4 => ?_⟩
  ·
    obtain ⟨par, nof, In, ⟨rs, hI⟩, gr⟩ := q1_3 (by assumption)
    refine ⟨_, K_X11_grow hT (show J_all (τ3.1 7) (τ3.1 6) (τ3.1 13) (τ3.1 14) (τ3.1 15) (τ3.2.1 13) (τ3.2.1 14) (τ3.2.1 15) (τ3.2.1 16) (τ3.2.1 10) (τ3.2.1 27) (τ3.2.1 28) (τ3.2.1 29) (τ3.2.1 30) (τ3.2.1 31) (τ3.2.1 32) (τ3.2.1 33) (τ3.2.1 34) (τ3.2.1 35) (τ3.2.1 36) (τ3.2.1 37) from CJ) (show c_Rs τ3 par nof In from by exact rs) (show J_rks (τ3.1 5) (τ3.1 4) (τ3.2.1 10) (τ3.2.1 11) from RKS) (show J_vs (τ3.1 6) (τ3.1 5) (τ3.2.1 15) from TX) (show ∀ i : Int, 0 ≤ i → i < (τ3.1 50) → 0 ≤ τ3.2.1 78 i → τ3.2.1 78 i < (τ3.1 7) ∧ τ3.2.1 13 (τ3.2.1 78 i) = 0 from by exact gr.1) (show ∀ i : Int, 0 ≤ i → i < (τ3.1 50) → g_ok (τ3.1 45) (τ3.1 50) (τ3.1 4) (τ3.1 51) i (τ3.2.1 77) (τ3.2.1 69) par (τ3.2.1 70) nof (g_so (τ3.2.1 14) (τ3.2.1 15) (τ3.2.1 10)) (τ3.2.1 78) In (τ3.2.2 4) (τ3.2.2 5) (τ3.2.1 79) from by exact gr.2.1) (show 0 ≤ (τ3.1 52) ∧ (τ3.1 52) < (τ3.1 4) from by exact gr.2.2.1) (show 0 < (τ3.1 50) from by exact gr.2.2.2.1) (show g_H (τ3.2.2 4) (τ3.1 52) 0 (τ3.1 50) ∧ ¬ g_H (τ3.2.2 5) (τ3.1 52) 0 (τ3.1 50) from by exact gr.2.2.2.2.1) (show g_wu (τ3.1 50) (τ3.2.1 77) (τ3.2.2 3) from by exact gr.2.2.2.2.2), ?_⟩
    intro τ7 hn_τ7 hf_τ7 hq
    obtain ⟨hT, q5_1⟩ := hq
    replace q5_1 : g_tre (τ7.1 7) (τ7.1 54) (τ7.2.1 13) (τ7.2.1 14) (τ7.2.1 27) (τ7.2.1 28) (τ7.2.1 29) (τ7.2.1 84) := q5_1
    have w3_τ7 : τ7.1 3 = τ3.1 3 := hf_τ7.1 3 (by decide)
    have w4_τ7 : τ7.1 4 = τ3.1 4 := hf_τ7.1 4 (by decide)
    have w5_τ7 : τ7.1 5 = τ3.1 5 := hf_τ7.1 5 (by decide)
    have w6_τ7 : τ7.1 6 = τ3.1 6 := hf_τ7.1 6 (by decide)
    have w7_τ7 : τ7.1 7 = τ3.1 7 := hf_τ7.1 7 (by decide)
    have w13_τ7 : τ7.1 13 = τ3.1 13 := hf_τ7.1 13 (by decide)
    have w14_τ7 : τ7.1 14 = τ3.1 14 := hf_τ7.1 14 (by decide)
    have w15_τ7 : τ7.1 15 = τ3.1 15 := hf_τ7.1 15 (by decide)
    have w45_τ7 : τ7.1 45 = τ3.1 45 := hf_τ7.1 45 (by decide)
    have w49_τ7 : τ7.1 49 = τ3.1 49 := hf_τ7.1 49 (by decide)
    have w50_τ7 : τ7.1 50 = τ3.1 50 := hf_τ7.1 50 (by decide)
    have w51_τ7 : τ7.1 51 = τ3.1 51 := hf_τ7.1 51 (by decide)
    have w52_τ7 : τ7.1 52 = τ3.1 52 := hf_τ7.1 52 (by decide)
    have g2_τ7 : τ7.2.1 2 = τ3.2.1 2 := hf_τ7.2.1 2 (by decide)
    have g3_τ7 : τ7.2.1 3 = τ3.2.1 3 := hf_τ7.2.1 3 (by decide)
    have g4_τ7 : τ7.2.1 4 = τ3.2.1 4 := hf_τ7.2.1 4 (by decide)
    have g5_τ7 : τ7.2.1 5 = τ3.2.1 5 := hf_τ7.2.1 5 (by decide)
    have g6_τ7 : τ7.2.1 6 = τ3.2.1 6 := hf_τ7.2.1 6 (by decide)
    have g10_τ7 : τ7.2.1 10 = τ3.2.1 10 := hf_τ7.2.1 10 (by decide)
    have g11_τ7 : τ7.2.1 11 = τ3.2.1 11 := hf_τ7.2.1 11 (by decide)
    have g13_τ7 : τ7.2.1 13 = τ3.2.1 13 := hf_τ7.2.1 13 (by decide)
    have g14_τ7 : τ7.2.1 14 = τ3.2.1 14 := hf_τ7.2.1 14 (by decide)
    have g15_τ7 : τ7.2.1 15 = τ3.2.1 15 := hf_τ7.2.1 15 (by decide)
    have g16_τ7 : τ7.2.1 16 = τ3.2.1 16 := hf_τ7.2.1 16 (by decide)
    have g27_τ7 : τ7.2.1 27 = τ3.2.1 27 := hf_τ7.2.1 27 (by decide)
    have g28_τ7 : τ7.2.1 28 = τ3.2.1 28 := hf_τ7.2.1 28 (by decide)
    have g29_τ7 : τ7.2.1 29 = τ3.2.1 29 := hf_τ7.2.1 29 (by decide)
    have g30_τ7 : τ7.2.1 30 = τ3.2.1 30 := hf_τ7.2.1 30 (by decide)
    have g31_τ7 : τ7.2.1 31 = τ3.2.1 31 := hf_τ7.2.1 31 (by decide)
    have g32_τ7 : τ7.2.1 32 = τ3.2.1 32 := hf_τ7.2.1 32 (by decide)
    have g33_τ7 : τ7.2.1 33 = τ3.2.1 33 := hf_τ7.2.1 33 (by decide)
    have g34_τ7 : τ7.2.1 34 = τ3.2.1 34 := hf_τ7.2.1 34 (by decide)
    have g35_τ7 : τ7.2.1 35 = τ3.2.1 35 := hf_τ7.2.1 35 (by decide)
    have g36_τ7 : τ7.2.1 36 = τ3.2.1 36 := hf_τ7.2.1 36 (by decide)
    have g37_τ7 : τ7.2.1 37 = τ3.2.1 37 := hf_τ7.2.1 37 (by decide)
    have W3 : τ7.1 3 = σ.1 3 := by first | exact w3_τ7.trans W3 | omega
    have W4 : τ7.1 4 = σ.1 4 := by first | exact w4_τ7.trans W4 | omega
    have W5 : τ7.1 5 = σ.1 5 := by first | exact w5_τ7.trans W5 | omega
    have W6 : τ7.1 6 = σ.1 6 := by first | exact w6_τ7.trans W6 | omega
    have W7 : τ7.1 7 = σ.1 7 := by first | exact w7_τ7.trans W7 | omega
    have W13 : τ7.1 13 = σ.1 13 := by first | exact w13_τ7.trans W13 | omega
    have W14 : τ7.1 14 = σ.1 14 := by first | exact w14_τ7.trans W14 | omega
    have W15 : τ7.1 15 = σ.1 15 := by first | exact w15_τ7.trans W15 | omega
    have G2 : τ7.2.1 2 = σ.2.1 2 := (g2_τ7).trans G2
    have G3 : τ7.2.1 3 = σ.2.1 3 := (g3_τ7).trans G3
    have G4 : τ7.2.1 4 = σ.2.1 4 := (g4_τ7).trans G4
    have G5 : τ7.2.1 5 = σ.2.1 5 := (g5_τ7).trans G5
    have G6 : τ7.2.1 6 = σ.2.1 6 := (g6_τ7).trans G6
    have G10 : τ7.2.1 10 = σ.2.1 10 := (g10_τ7).trans G10
    have G11 : τ7.2.1 11 = σ.2.1 11 := (g11_τ7).trans G11
    have G13 : τ7.2.1 13 = σ.2.1 13 := (g13_τ7).trans G13
    have G14 : τ7.2.1 14 = σ.2.1 14 := (g14_τ7).trans G14
    have G15 : τ7.2.1 15 = σ.2.1 15 := (g15_τ7).trans G15
    have G16 : τ7.2.1 16 = σ.2.1 16 := (g16_τ7).trans G16
    have G27 : τ7.2.1 27 = σ.2.1 27 := (g27_τ7).trans G27
    have G28 : τ7.2.1 28 = σ.2.1 28 := (g28_τ7).trans G28
    have G29 : τ7.2.1 29 = σ.2.1 29 := (g29_τ7).trans G29
    have G30 : τ7.2.1 30 = σ.2.1 30 := (g30_τ7).trans G30
    have G31 : τ7.2.1 31 = σ.2.1 31 := (g31_τ7).trans G31
    have G32 : τ7.2.1 32 = σ.2.1 32 := (g32_τ7).trans G32
    have G33 : τ7.2.1 33 = σ.2.1 33 := (g33_τ7).trans G33
    have G34 : τ7.2.1 34 = σ.2.1 34 := (g34_τ7).trans G34
    have G35 : τ7.2.1 35 = σ.2.1 35 := (g35_τ7).trans G35
    have G36 : τ7.2.1 36 = σ.2.1 36 := (g36_τ7).trans G36
    have G37 : τ7.2.1 37 = σ.2.1 37 := (g37_τ7).trans G37
    have HT : J_ht (τ7.1 3) (τ7.2.1 2) (τ7.2.1 3) (τ7.2.1 5) (τ7.2.1 6) := by rw [show (J_ht (τ7.1 3) (τ7.2.1 2) (τ7.2.1 3) (τ7.2.1 5) (τ7.2.1 6)) = (J_ht (τ3.1 3) (τ3.2.1 2) (τ3.2.1 3) (τ3.2.1 5) (τ3.2.1 6)) from by rw [w3_τ7, g2_τ7, g3_τ7, g5_τ7, g6_τ7]]; exact HT
    have MN : J_mn (τ7.1 3) (τ7.1 5) ((τ7.1 7) + 1) (τ7.2.1 4) := by rw [show (J_mn (τ7.1 3) (τ7.1 5) ((τ7.1 7) + 1) (τ7.2.1 4)) = (J_mn (τ3.1 3) (τ3.1 5) ((τ3.1 7) + 1) (τ3.2.1 4)) from by rw [w3_τ7, w5_τ7, w7_τ7, g4_τ7]]; exact MN
    have TX : J_vs (τ7.1 6) (τ7.1 5) (τ7.2.1 15) := by rw [show (J_vs (τ7.1 6) (τ7.1 5) (τ7.2.1 15)) = (J_vs (τ3.1 6) (τ3.1 5) (τ3.2.1 15)) from by rw [w5_τ7, w6_τ7, g15_τ7]]; exact TX
    have RKS : J_rks (τ7.1 5) (τ7.1 4) (τ7.2.1 10) (τ7.2.1 11) := by rw [show (J_rks (τ7.1 5) (τ7.1 4) (τ7.2.1 10) (τ7.2.1 11)) = (J_rks (τ3.1 5) (τ3.1 4) (τ3.2.1 10) (τ3.2.1 11)) from by rw [w4_τ7, w5_τ7, g10_τ7, g11_τ7]]; exact RKS
    have CJ : J_all (τ7.1 7) (τ7.1 6) (τ7.1 13) (τ7.1 14) (τ7.1 15) (τ7.2.1 13) (τ7.2.1 14) (τ7.2.1 15) (τ7.2.1 16) (τ7.2.1 10) (τ7.2.1 27) (τ7.2.1 28) (τ7.2.1 29) (τ7.2.1 30) (τ7.2.1 31) (τ7.2.1 32) (τ7.2.1 33) (τ7.2.1 34) (τ7.2.1 35) (τ7.2.1 36) (τ7.2.1 37) := by rw [show (J_all (τ7.1 7) (τ7.1 6) (τ7.1 13) (τ7.1 14) (τ7.1 15) (τ7.2.1 13) (τ7.2.1 14) (τ7.2.1 15) (τ7.2.1 16) (τ7.2.1 10) (τ7.2.1 27) (τ7.2.1 28) (τ7.2.1 29) (τ7.2.1 30) (τ7.2.1 31) (τ7.2.1 32) (τ7.2.1 33) (τ7.2.1 34) (τ7.2.1 35) (τ7.2.1 36) (τ7.2.1 37)) = (J_all (τ3.1 7) (τ3.1 6) (τ3.1 13) (τ3.1 14) (τ3.1 15) (τ3.2.1 13) (τ3.2.1 14) (τ3.2.1 15) (τ3.2.1 16) (τ3.2.1 10) (τ3.2.1 27) (τ3.2.1 28) (τ3.2.1 29) (τ3.2.1 30) (τ3.2.1 31) (τ3.2.1 32) (τ3.2.1 33) (τ3.2.1 34) (τ3.2.1 35) (τ3.2.1 36) (τ3.2.1 37)) from by rw [w6_τ7, w7_τ7, w13_τ7, w14_τ7, w15_τ7, g10_τ7, g13_τ7, g14_τ7, g15_τ7, g16_τ7, g27_τ7, g28_τ7, g29_τ7, g30_τ7, g31_τ7, g32_τ7, g33_τ7, g34_τ7, g35_τ7, g36_τ7, g37_τ7]]; exact CJ
    have A2 : ∀ j, 0 ≤ τ7.2.1 2 j ∧ τ7.2.1 2 j ≤ 65535 := fun j => hT.2 2 j
    have A3 : ∀ j, 0 ≤ τ7.2.1 3 j ∧ τ7.2.1 3 j ≤ 30000 := fun j => hT.2 3 j
    have A4 : ∀ j, (-1000) ≤ τ7.2.1 4 j ∧ τ7.2.1 4 j ≤ 1499 := fun j => hT.2 4 j
    have A5 : ∀ j, 0 ≤ τ7.2.1 5 j ∧ τ7.2.1 5 j ≤ 2500 := fun j => hT.2 5 j
    have A6 : ∀ j, 0 ≤ τ7.2.1 6 j ∧ τ7.2.1 6 j ≤ 2500 := fun j => hT.2 6 j
    have A10 : ∀ j, (-1) ≤ τ7.2.1 10 j ∧ τ7.2.1 10 j ≤ 99 := fun j => hT.2 10 j
    have A11 : ∀ j, 0 ≤ τ7.2.1 11 j ∧ τ7.2.1 11 j ≤ 999 := fun j => hT.2 11 j
    have A13 : ∀ j, 0 ≤ τ7.2.1 13 j ∧ τ7.2.1 13 j ≤ 4 := fun j => hT.2 13 j
    have A14 : ∀ j, 0 ≤ τ7.2.1 14 j ∧ τ7.2.1 14 j ≤ 30000 := fun j => hT.2 14 j
    have A15 : ∀ j, 0 ≤ τ7.2.1 15 j ∧ τ7.2.1 15 j ≤ 999 := fun j => hT.2 15 j
    have A16 : ∀ j, (-1) ≤ τ7.2.1 16 j ∧ τ7.2.1 16 j ≤ 1499 := fun j => hT.2 16 j
    have A27 : ∀ j, 0 ≤ τ7.2.1 27 j ∧ τ7.2.1 27 j ≤ 90000 := fun j => hT.2 27 j
    have A28 : ∀ j, 0 ≤ τ7.2.1 28 j ∧ τ7.2.1 28 j ≤ 60 := fun j => hT.2 28 j
    have A29 : ∀ j, 0 ≤ τ7.2.1 29 j ∧ τ7.2.1 29 j ≤ 1499 := fun j => hT.2 29 j
    have A30 : ∀ j, 0 ≤ τ7.2.1 30 j ∧ τ7.2.1 30 j ≤ 20000 := fun j => hT.2 30 j
    have A31 : ∀ j, 0 ≤ τ7.2.1 31 j ∧ τ7.2.1 31 j ≤ 20000 := fun j => hT.2 31 j
    have A32 : ∀ j, 0 ≤ τ7.2.1 32 j ∧ τ7.2.1 32 j ≤ 999999 := fun j => hT.2 32 j
    have A33 : ∀ j, 0 ≤ τ7.2.1 33 j ∧ τ7.2.1 33 j ≤ 20000 := fun j => hT.2 33 j
    have A34 : ∀ j, 0 ≤ τ7.2.1 34 j ∧ τ7.2.1 34 j ≤ 20000 := fun j => hT.2 34 j
    have A35 : ∀ j, 0 ≤ τ7.2.1 35 j ∧ τ7.2.1 35 j ≤ 1499 := fun j => hT.2 35 j
    have A36 : ∀ j, 0 ≤ τ7.2.1 36 j ∧ τ7.2.1 36 j ≤ 20000 := fun j => hT.2 36 j
    have A37 : ∀ j, 0 ≤ τ7.2.1 37 j ∧ τ7.2.1 37 j ≤ 19999 := fun j => hT.2 37 j
    have A84 : ∀ j, 0 ≤ τ7.2.1 84 j ∧ τ7.2.1 84 j ≤ 1499 := fun j => hT.2 84 j
    have v3 : 0 ≤ τ7.1 3 ∧ τ7.1 3 ≤ 2500 := hT.1 3
    have v4 : 0 ≤ τ7.1 4 ∧ τ7.1 4 ≤ 100 := hT.1 4
    have v5 : 0 ≤ τ7.1 5 ∧ τ7.1 5 ≤ 1000 := hT.1 5
    have v6 : 0 ≤ τ7.1 6 ∧ τ7.1 6 ≤ 30000 := hT.1 6
    have v7 : 0 ≤ τ7.1 7 ∧ τ7.1 7 ≤ 1500 := hT.1 7
    have v13 : 0 ≤ τ7.1 13 ∧ τ7.1 13 ≤ 90000 := hT.1 13
    have v14 : 0 ≤ τ7.1 14 ∧ τ7.1 14 ≤ 20000 := hT.1 14
    have v15 : 0 ≤ τ7.1 15 ∧ τ7.1 15 ≤ 20000 := hT.1 15
    have v45 : 1 ≤ τ7.1 45 ∧ τ7.1 45 ≤ 30001 := hT.1 45
    have v49 : (-1) ≤ τ7.1 49 ∧ τ7.1 49 ≤ 999 := hT.1 49
    have v50 : 0 ≤ τ7.1 50 ∧ τ7.1 50 ≤ 59 := hT.1 50
    have v51 : 0 ≤ τ7.1 51 ∧ τ7.1 51 ≤ 1500 := hT.1 51
    have v52 : (-1) ≤ τ7.1 52 ∧ τ7.1 52 ≤ 99 := hT.1 52
    have v54 : 0 ≤ τ7.1 54 ∧ τ7.1 54 ≤ 12000 := hT.1 54
    have gm7 := c_GM_h q1_2 hf_τ7 rfl rfl rfl
    refine ⟨_, K_X5_begin hT, ?_⟩
    intro τ10 hn_τ10 hf_τ10 hq
    replace hT := hq
    have w3_τ10 : τ10.1 3 = τ7.1 3 := hf_τ10.1 3 (by decide)
    have w4_τ10 : τ10.1 4 = τ7.1 4 := hf_τ10.1 4 (by decide)
    have w5_τ10 : τ10.1 5 = τ7.1 5 := hf_τ10.1 5 (by decide)
    have w6_τ10 : τ10.1 6 = τ7.1 6 := hf_τ10.1 6 (by decide)
    have w7_τ10 : τ10.1 7 = τ7.1 7 := hf_τ10.1 7 (by decide)
    have w13_τ10 : τ10.1 13 = τ7.1 13 := hf_τ10.1 13 (by decide)
    have w14_τ10 : τ10.1 14 = τ7.1 14 := hf_τ10.1 14 (by decide)
    have w15_τ10 : τ10.1 15 = τ7.1 15 := hf_τ10.1 15 (by decide)
    have w45_τ10 : τ10.1 45 = τ7.1 45 := hf_τ10.1 45 (by decide)
    have w49_τ10 : τ10.1 49 = τ7.1 49 := hf_τ10.1 49 (by decide)
    have w50_τ10 : τ10.1 50 = τ7.1 50 := hf_τ10.1 50 (by decide)
    have w51_τ10 : τ10.1 51 = τ7.1 51 := hf_τ10.1 51 (by decide)
    have w52_τ10 : τ10.1 52 = τ7.1 52 := hf_τ10.1 52 (by decide)
    have w54_τ10 : τ10.1 54 = τ7.1 54 := hf_τ10.1 54 (by decide)
    have g2_τ10 : τ10.2.1 2 = τ7.2.1 2 := hf_τ10.2.1 2 (by decide)
    have g3_τ10 : τ10.2.1 3 = τ7.2.1 3 := hf_τ10.2.1 3 (by decide)
    have g4_τ10 : τ10.2.1 4 = τ7.2.1 4 := hf_τ10.2.1 4 (by decide)
    have g5_τ10 : τ10.2.1 5 = τ7.2.1 5 := hf_τ10.2.1 5 (by decide)
    have g6_τ10 : τ10.2.1 6 = τ7.2.1 6 := hf_τ10.2.1 6 (by decide)
    have g10_τ10 : τ10.2.1 10 = τ7.2.1 10 := hf_τ10.2.1 10 (by decide)
    have g11_τ10 : τ10.2.1 11 = τ7.2.1 11 := hf_τ10.2.1 11 (by decide)
    have g13_τ10 : τ10.2.1 13 = τ7.2.1 13 := hf_τ10.2.1 13 (by decide)
    have g14_τ10 : τ10.2.1 14 = τ7.2.1 14 := hf_τ10.2.1 14 (by decide)
    have g15_τ10 : τ10.2.1 15 = τ7.2.1 15 := hf_τ10.2.1 15 (by decide)
    have g16_τ10 : τ10.2.1 16 = τ7.2.1 16 := hf_τ10.2.1 16 (by decide)
    have g27_τ10 : τ10.2.1 27 = τ7.2.1 27 := hf_τ10.2.1 27 (by decide)
    have g28_τ10 : τ10.2.1 28 = τ7.2.1 28 := hf_τ10.2.1 28 (by decide)
    have g29_τ10 : τ10.2.1 29 = τ7.2.1 29 := hf_τ10.2.1 29 (by decide)
    have g30_τ10 : τ10.2.1 30 = τ7.2.1 30 := hf_τ10.2.1 30 (by decide)
    have g31_τ10 : τ10.2.1 31 = τ7.2.1 31 := hf_τ10.2.1 31 (by decide)
    have g32_τ10 : τ10.2.1 32 = τ7.2.1 32 := hf_τ10.2.1 32 (by decide)
    have g33_τ10 : τ10.2.1 33 = τ7.2.1 33 := hf_τ10.2.1 33 (by decide)
    have g34_τ10 : τ10.2.1 34 = τ7.2.1 34 := hf_τ10.2.1 34 (by decide)
    have g35_τ10 : τ10.2.1 35 = τ7.2.1 35 := hf_τ10.2.1 35 (by decide)
    have g36_τ10 : τ10.2.1 36 = τ7.2.1 36 := hf_τ10.2.1 36 (by decide)
    have g37_τ10 : τ10.2.1 37 = τ7.2.1 37 := hf_τ10.2.1 37 (by decide)
    have g84_τ10 : τ10.2.1 84 = τ7.2.1 84 := hf_τ10.2.1 84 (by decide)
    have W3 : τ10.1 3 = σ.1 3 := by first | exact w3_τ10.trans W3 | omega
    have W4 : τ10.1 4 = σ.1 4 := by first | exact w4_τ10.trans W4 | omega
    have W5 : τ10.1 5 = σ.1 5 := by first | exact w5_τ10.trans W5 | omega
    have W6 : τ10.1 6 = σ.1 6 := by first | exact w6_τ10.trans W6 | omega
    have W7 : τ10.1 7 = σ.1 7 := by first | exact w7_τ10.trans W7 | omega
    have W13 : τ10.1 13 = σ.1 13 := by first | exact w13_τ10.trans W13 | omega
    have W14 : τ10.1 14 = σ.1 14 := by first | exact w14_τ10.trans W14 | omega
    have W15 : τ10.1 15 = σ.1 15 := by first | exact w15_τ10.trans W15 | omega
    have G2 : τ10.2.1 2 = σ.2.1 2 := (g2_τ10).trans G2
    have G3 : τ10.2.1 3 = σ.2.1 3 := (g3_τ10).trans G3
    have G4 : τ10.2.1 4 = σ.2.1 4 := (g4_τ10).trans G4
    have G5 : τ10.2.1 5 = σ.2.1 5 := (g5_τ10).trans G5
    have G6 : τ10.2.1 6 = σ.2.1 6 := (g6_τ10).trans G6
    have G10 : τ10.2.1 10 = σ.2.1 10 := (g10_τ10).trans G10
    have G11 : τ10.2.1 11 = σ.2.1 11 := (g11_τ10).trans G11
    have G13 : τ10.2.1 13 = σ.2.1 13 := (g13_τ10).trans G13
    have G14 : τ10.2.1 14 = σ.2.1 14 := (g14_τ10).trans G14
    have G15 : τ10.2.1 15 = σ.2.1 15 := (g15_τ10).trans G15
    have G16 : τ10.2.1 16 = σ.2.1 16 := (g16_τ10).trans G16
    have G27 : τ10.2.1 27 = σ.2.1 27 := (g27_τ10).trans G27
    have G28 : τ10.2.1 28 = σ.2.1 28 := (g28_τ10).trans G28
    have G29 : τ10.2.1 29 = σ.2.1 29 := (g29_τ10).trans G29
    have G30 : τ10.2.1 30 = σ.2.1 30 := (g30_τ10).trans G30
    have G31 : τ10.2.1 31 = σ.2.1 31 := (g31_τ10).trans G31
    have G32 : τ10.2.1 32 = σ.2.1 32 := (g32_τ10).trans G32
    have G33 : τ10.2.1 33 = σ.2.1 33 := (g33_τ10).trans G33
    have G34 : τ10.2.1 34 = σ.2.1 34 := (g34_τ10).trans G34
    have G35 : τ10.2.1 35 = σ.2.1 35 := (g35_τ10).trans G35
    have G36 : τ10.2.1 36 = σ.2.1 36 := (g36_τ10).trans G36
    have G37 : τ10.2.1 37 = σ.2.1 37 := (g37_τ10).trans G37
    have HT : J_ht (τ10.1 3) (τ10.2.1 2) (τ10.2.1 3) (τ10.2.1 5) (τ10.2.1 6) := by rw [show (J_ht (τ10.1 3) (τ10.2.1 2) (τ10.2.1 3) (τ10.2.1 5) (τ10.2.1 6)) = (J_ht (τ7.1 3) (τ7.2.1 2) (τ7.2.1 3) (τ7.2.1 5) (τ7.2.1 6)) from by rw [w3_τ10, g2_τ10, g3_τ10, g5_τ10, g6_τ10]]; exact HT
    have MN : J_mn (τ10.1 3) (τ10.1 5) ((τ10.1 7) + 1) (τ10.2.1 4) := by rw [show (J_mn (τ10.1 3) (τ10.1 5) ((τ10.1 7) + 1) (τ10.2.1 4)) = (J_mn (τ7.1 3) (τ7.1 5) ((τ7.1 7) + 1) (τ7.2.1 4)) from by rw [w3_τ10, w5_τ10, w7_τ10, g4_τ10]]; exact MN
    have TX : J_vs (τ10.1 6) (τ10.1 5) (τ10.2.1 15) := by rw [show (J_vs (τ10.1 6) (τ10.1 5) (τ10.2.1 15)) = (J_vs (τ7.1 6) (τ7.1 5) (τ7.2.1 15)) from by rw [w5_τ10, w6_τ10, g15_τ10]]; exact TX
    have RKS : J_rks (τ10.1 5) (τ10.1 4) (τ10.2.1 10) (τ10.2.1 11) := by rw [show (J_rks (τ10.1 5) (τ10.1 4) (τ10.2.1 10) (τ10.2.1 11)) = (J_rks (τ7.1 5) (τ7.1 4) (τ7.2.1 10) (τ7.2.1 11)) from by rw [w4_τ10, w5_τ10, g10_τ10, g11_τ10]]; exact RKS
    have CJ : J_all (τ10.1 7) (τ10.1 6) (τ10.1 13) (τ10.1 14) (τ10.1 15) (τ10.2.1 13) (τ10.2.1 14) (τ10.2.1 15) (τ10.2.1 16) (τ10.2.1 10) (τ10.2.1 27) (τ10.2.1 28) (τ10.2.1 29) (τ10.2.1 30) (τ10.2.1 31) (τ10.2.1 32) (τ10.2.1 33) (τ10.2.1 34) (τ10.2.1 35) (τ10.2.1 36) (τ10.2.1 37) := by rw [show (J_all (τ10.1 7) (τ10.1 6) (τ10.1 13) (τ10.1 14) (τ10.1 15) (τ10.2.1 13) (τ10.2.1 14) (τ10.2.1 15) (τ10.2.1 16) (τ10.2.1 10) (τ10.2.1 27) (τ10.2.1 28) (τ10.2.1 29) (τ10.2.1 30) (τ10.2.1 31) (τ10.2.1 32) (τ10.2.1 33) (τ10.2.1 34) (τ10.2.1 35) (τ10.2.1 36) (τ10.2.1 37)) = (J_all (τ7.1 7) (τ7.1 6) (τ7.1 13) (τ7.1 14) (τ7.1 15) (τ7.2.1 13) (τ7.2.1 14) (τ7.2.1 15) (τ7.2.1 16) (τ7.2.1 10) (τ7.2.1 27) (τ7.2.1 28) (τ7.2.1 29) (τ7.2.1 30) (τ7.2.1 31) (τ7.2.1 32) (τ7.2.1 33) (τ7.2.1 34) (τ7.2.1 35) (τ7.2.1 36) (τ7.2.1 37)) from by rw [w6_τ10, w7_τ10, w13_τ10, w14_τ10, w15_τ10, g10_τ10, g13_τ10, g14_τ10, g15_τ10, g16_τ10, g27_τ10, g28_τ10, g29_τ10, g30_τ10, g31_τ10, g32_τ10, g33_τ10, g34_τ10, g35_τ10, g36_τ10, g37_τ10]]; exact CJ
    have A2 : ∀ j, 0 ≤ τ10.2.1 2 j ∧ τ10.2.1 2 j ≤ 65535 := fun j => hT.2 2 j
    have A3 : ∀ j, 0 ≤ τ10.2.1 3 j ∧ τ10.2.1 3 j ≤ 30000 := fun j => hT.2 3 j
    have A4 : ∀ j, (-1000) ≤ τ10.2.1 4 j ∧ τ10.2.1 4 j ≤ 1499 := fun j => hT.2 4 j
    have A5 : ∀ j, 0 ≤ τ10.2.1 5 j ∧ τ10.2.1 5 j ≤ 2500 := fun j => hT.2 5 j
    have A6 : ∀ j, 0 ≤ τ10.2.1 6 j ∧ τ10.2.1 6 j ≤ 2500 := fun j => hT.2 6 j
    have A10 : ∀ j, (-1) ≤ τ10.2.1 10 j ∧ τ10.2.1 10 j ≤ 99 := fun j => hT.2 10 j
    have A11 : ∀ j, 0 ≤ τ10.2.1 11 j ∧ τ10.2.1 11 j ≤ 999 := fun j => hT.2 11 j
    have A13 : ∀ j, 0 ≤ τ10.2.1 13 j ∧ τ10.2.1 13 j ≤ 4 := fun j => hT.2 13 j
    have A14 : ∀ j, 0 ≤ τ10.2.1 14 j ∧ τ10.2.1 14 j ≤ 30000 := fun j => hT.2 14 j
    have A15 : ∀ j, 0 ≤ τ10.2.1 15 j ∧ τ10.2.1 15 j ≤ 999 := fun j => hT.2 15 j
    have A16 : ∀ j, (-1) ≤ τ10.2.1 16 j ∧ τ10.2.1 16 j ≤ 1499 := fun j => hT.2 16 j
    have A27 : ∀ j, 0 ≤ τ10.2.1 27 j ∧ τ10.2.1 27 j ≤ 90000 := fun j => hT.2 27 j
    have A28 : ∀ j, 0 ≤ τ10.2.1 28 j ∧ τ10.2.1 28 j ≤ 60 := fun j => hT.2 28 j
    have A29 : ∀ j, 0 ≤ τ10.2.1 29 j ∧ τ10.2.1 29 j ≤ 1499 := fun j => hT.2 29 j
    have A30 : ∀ j, 0 ≤ τ10.2.1 30 j ∧ τ10.2.1 30 j ≤ 20000 := fun j => hT.2 30 j
    have A31 : ∀ j, 0 ≤ τ10.2.1 31 j ∧ τ10.2.1 31 j ≤ 20000 := fun j => hT.2 31 j
    have A32 : ∀ j, 0 ≤ τ10.2.1 32 j ∧ τ10.2.1 32 j ≤ 999999 := fun j => hT.2 32 j
    have A33 : ∀ j, 0 ≤ τ10.2.1 33 j ∧ τ10.2.1 33 j ≤ 20000 := fun j => hT.2 33 j
    have A34 : ∀ j, 0 ≤ τ10.2.1 34 j ∧ τ10.2.1 34 j ≤ 20000 := fun j => hT.2 34 j
    have A35 : ∀ j, 0 ≤ τ10.2.1 35 j ∧ τ10.2.1 35 j ≤ 1499 := fun j => hT.2 35 j
    have A36 : ∀ j, 0 ≤ τ10.2.1 36 j ∧ τ10.2.1 36 j ≤ 20000 := fun j => hT.2 36 j
    have A37 : ∀ j, 0 ≤ τ10.2.1 37 j ∧ τ10.2.1 37 j ≤ 19999 := fun j => hT.2 37 j
    have A84 : ∀ j, 0 ≤ τ10.2.1 84 j ∧ τ10.2.1 84 j ≤ 1499 := fun j => hT.2 84 j
    have v3 : 0 ≤ τ10.1 3 ∧ τ10.1 3 ≤ 2500 := hT.1 3
    have v4 : 0 ≤ τ10.1 4 ∧ τ10.1 4 ≤ 100 := hT.1 4
    have v5 : 0 ≤ τ10.1 5 ∧ τ10.1 5 ≤ 1000 := hT.1 5
    have v6 : 0 ≤ τ10.1 6 ∧ τ10.1 6 ≤ 30000 := hT.1 6
    have v7 : 0 ≤ τ10.1 7 ∧ τ10.1 7 ≤ 1500 := hT.1 7
    have v13 : 0 ≤ τ10.1 13 ∧ τ10.1 13 ≤ 90000 := hT.1 13
    have v14 : 0 ≤ τ10.1 14 ∧ τ10.1 14 ≤ 20000 := hT.1 14
    have v15 : 0 ≤ τ10.1 15 ∧ τ10.1 15 ≤ 20000 := hT.1 15
    have v45 : 1 ≤ τ10.1 45 ∧ τ10.1 45 ≤ 30001 := hT.1 45
    have v49 : (-1) ≤ τ10.1 49 ∧ τ10.1 49 ≤ 999 := hT.1 49
    have v50 : 0 ≤ τ10.1 50 ∧ τ10.1 50 ≤ 59 := hT.1 50
    have v51 : 0 ≤ τ10.1 51 ∧ τ10.1 51 ≤ 1500 := hT.1 51
    have v52 : (-1) ≤ τ10.1 52 ∧ τ10.1 52 ≤ 99 := hT.1 52
    have v54 : 0 ≤ τ10.1 54 ∧ τ10.1 54 ≤ 12000 := hT.1 54
    refine ⟨(⟨by (first | omega | (simp only [st_s] <;> omega) | assumption | omega | fail), by (first | omega | (simp only [st_s] <;> omega) | assumption | omega | fail)⟩ : rg (τ10.1 54 - 1)), ?_⟩
    exact l_48 (((τ10.1 54 - 1) + 2 : Int).toNat + 1) _ _ (show ((τ10.1 54 - 1) + 2 : Int) < ((((τ10.1 54 - 1) + 2 : Int).toNat + 1 : Nat) : Int) from by ((first | omega | (simp only [st_s] <;> omega) | assumption | omega | fail))) hT (show τ10.1 3 = σ.1 3 from by first | exact W3 | omega) (show τ10.1 4 = σ.1 4 from by first | exact W4 | omega) (show τ10.1 5 = σ.1 5 from by first | exact W5 | omega) (show τ10.1 6 = σ.1 6 from by first | exact W6 | omega) (show τ10.1 7 = σ.1 7 from by first | exact W7 | omega) (show τ10.1 13 = σ.1 13 from by first | exact W13 | omega) (show τ10.1 14 = σ.1 14 from by first | exact W14 | omega) (show τ10.1 15 = σ.1 15 from by first | exact W15 | omega) G2 G3 G4 G5 G6 G10 G11 G13 G14 G15 G16 G27 G28 G29 G30 G31 G32 G33 G34 G35 G36 G37 (show -1 ≤ (τ10.1 54 - 1) ∧ (τ10.1 54 - 1) < 12000 from by (first | omega | (simp only [st_s] <;> omega) | assumption | omega | fail)) (show c_GM In0 τ10 from by (first | exact c_GM_h gm7 hf_τ10 rfl rfl rfl | exact c_GM_h i48_2 hf_τ23 rfl rfl rfl | fail))
  ·
    refine ⟨fun c12 => ?_, fun c12 => ?_⟩
    ·
      exact ⟨hT, (show c_GM In0 τ3 from by (first | exact c_GM_h i48_2 hf_τ16 rfl rfl rfl | exact q1_2 | fail))⟩
    ·
      exact ⟨hT, (show c_GM In0 τ3 from by (first | exact c_GM_h i48_2 hf_τ16 rfl rfl rfl | exact q1_2 | fail))⟩
set_option maxHeartbeats 1000000 in
theorem K_X12_trees {n1 : Int} {In0 : Int → Prop} {σ : S0} (hT : c_T σ) (p1 : J_all (σ.1 7) (σ.1 6) (σ.1 13) (σ.1 14) (σ.1 15) (σ.2.1 13) (σ.2.1 14) (σ.2.1 15) (σ.2.1 16) (σ.2.1 10) (σ.2.1 27) (σ.2.1 28) (σ.2.1 29) (σ.2.1 30) (σ.2.1 31) (σ.2.1 32) (σ.2.1 33) (σ.2.1 34) (σ.2.1 35) (σ.2.1 36) (σ.2.1 37)) (p2 : J_ht (σ.1 3) (σ.2.1 2) (σ.2.1 3) (σ.2.1 5) (σ.2.1 6)) (p3 : J_mn (σ.1 3) (σ.1 5) ((σ.1 7) + 1) (σ.2.1 4)) (p4 : J_rks (σ.1 5) (σ.1 4) (σ.2.1 10) (σ.2.1 11)) (p5 : J_vs (σ.1 6) (σ.1 5) (σ.2.1 15)) (p6 : c_GM In0 σ) : W_X12_trees n1 σ (fun (x : Int) (τ : S0) => (c_T τ) ∧ (c_GM In0 τ)) := by
  have A2 : ∀ j, 0 ≤ σ.2.1 2 j ∧ σ.2.1 2 j ≤ 65535 := fun j => hT.2 2 j
  have A3 : ∀ j, 0 ≤ σ.2.1 3 j ∧ σ.2.1 3 j ≤ 30000 := fun j => hT.2 3 j
  have A4 : ∀ j, (-1000) ≤ σ.2.1 4 j ∧ σ.2.1 4 j ≤ 1499 := fun j => hT.2 4 j
  have A5 : ∀ j, 0 ≤ σ.2.1 5 j ∧ σ.2.1 5 j ≤ 2500 := fun j => hT.2 5 j
  have A6 : ∀ j, 0 ≤ σ.2.1 6 j ∧ σ.2.1 6 j ≤ 2500 := fun j => hT.2 6 j
  have A10 : ∀ j, (-1) ≤ σ.2.1 10 j ∧ σ.2.1 10 j ≤ 99 := fun j => hT.2 10 j
  have A11 : ∀ j, 0 ≤ σ.2.1 11 j ∧ σ.2.1 11 j ≤ 999 := fun j => hT.2 11 j
  have A13 : ∀ j, 0 ≤ σ.2.1 13 j ∧ σ.2.1 13 j ≤ 4 := fun j => hT.2 13 j
  have A14 : ∀ j, 0 ≤ σ.2.1 14 j ∧ σ.2.1 14 j ≤ 30000 := fun j => hT.2 14 j
  have A15 : ∀ j, 0 ≤ σ.2.1 15 j ∧ σ.2.1 15 j ≤ 999 := fun j => hT.2 15 j
  have A16 : ∀ j, (-1) ≤ σ.2.1 16 j ∧ σ.2.1 16 j ≤ 1499 := fun j => hT.2 16 j
  have A27 : ∀ j, 0 ≤ σ.2.1 27 j ∧ σ.2.1 27 j ≤ 90000 := fun j => hT.2 27 j
  have A28 : ∀ j, 0 ≤ σ.2.1 28 j ∧ σ.2.1 28 j ≤ 60 := fun j => hT.2 28 j
  have A29 : ∀ j, 0 ≤ σ.2.1 29 j ∧ σ.2.1 29 j ≤ 1499 := fun j => hT.2 29 j
  have A30 : ∀ j, 0 ≤ σ.2.1 30 j ∧ σ.2.1 30 j ≤ 20000 := fun j => hT.2 30 j
  have A31 : ∀ j, 0 ≤ σ.2.1 31 j ∧ σ.2.1 31 j ≤ 20000 := fun j => hT.2 31 j
  have A32 : ∀ j, 0 ≤ σ.2.1 32 j ∧ σ.2.1 32 j ≤ 999999 := fun j => hT.2 32 j
  have A33 : ∀ j, 0 ≤ σ.2.1 33 j ∧ σ.2.1 33 j ≤ 20000 := fun j => hT.2 33 j
  have A34 : ∀ j, 0 ≤ σ.2.1 34 j ∧ σ.2.1 34 j ≤ 20000 := fun j => hT.2 34 j
  have A35 : ∀ j, 0 ≤ σ.2.1 35 j ∧ σ.2.1 35 j ≤ 1499 := fun j => hT.2 35 j
  have A36 : ∀ j, 0 ≤ σ.2.1 36 j ∧ σ.2.1 36 j ≤ 20000 := fun j => hT.2 36 j
  have A37 : ∀ j, 0 ≤ σ.2.1 37 j ∧ σ.2.1 37 j ≤ 19999 := fun j => hT.2 37 j
  have v3 : 0 ≤ σ.1 3 ∧ σ.1 3 ≤ 2500 := hT.1 3
  have v4 : 0 ≤ σ.1 4 ∧ σ.1 4 ≤ 100 := hT.1 4
  have v5 : 0 ≤ σ.1 5 ∧ σ.1 5 ≤ 1000 := hT.1 5
  have v6 : 0 ≤ σ.1 6 ∧ σ.1 6 ≤ 30000 := hT.1 6
  have v7 : 0 ≤ σ.1 7 ∧ σ.1 7 ≤ 1500 := hT.1 7
  have v13 : 0 ≤ σ.1 13 ∧ σ.1 13 ≤ 90000 := hT.1 13
  have v14 : 0 ≤ σ.1 14 ∧ σ.1 14 ≤ 20000 := hT.1 14
  have v15 : 0 ≤ σ.1 15 ∧ σ.1 15 ≤ 20000 := hT.1 15
  have v49 : (-1) ≤ σ.1 49 ∧ σ.1 49 ≤ 999 := hT.1 49
  have W3 : σ.1 3 = σ.1 3 := rfl
  have W4 : σ.1 4 = σ.1 4 := rfl
  have W5 : σ.1 5 = σ.1 5 := rfl
  have W6 : σ.1 6 = σ.1 6 := rfl
  have W7 : σ.1 7 = σ.1 7 := rfl
  have W13 : σ.1 13 = σ.1 13 := rfl
  have W14 : σ.1 14 = σ.1 14 := rfl
  have W15 : σ.1 15 = σ.1 15 := rfl
  have G2 : σ.2.1 2 = σ.2.1 2 := rfl
  have G3 : σ.2.1 3 = σ.2.1 3 := rfl
  have G4 : σ.2.1 4 = σ.2.1 4 := rfl
  have G5 : σ.2.1 5 = σ.2.1 5 := rfl
  have G6 : σ.2.1 6 = σ.2.1 6 := rfl
  have G10 : σ.2.1 10 = σ.2.1 10 := rfl
  have G11 : σ.2.1 11 = σ.2.1 11 := rfl
  have G13 : σ.2.1 13 = σ.2.1 13 := rfl
  have G14 : σ.2.1 14 = σ.2.1 14 := rfl
  have G15 : σ.2.1 15 = σ.2.1 15 := rfl
  have G16 : σ.2.1 16 = σ.2.1 16 := rfl
  have G27 : σ.2.1 27 = σ.2.1 27 := rfl
  have G28 : σ.2.1 28 = σ.2.1 28 := rfl
  have G29 : σ.2.1 29 = σ.2.1 29 := rfl
  have G30 : σ.2.1 30 = σ.2.1 30 := rfl
  have G31 : σ.2.1 31 = σ.2.1 31 := rfl
  have G32 : σ.2.1 32 = σ.2.1 32 := rfl
  have G33 : σ.2.1 33 = σ.2.1 33 := rfl
  have G34 : σ.2.1 34 = σ.2.1 34 := rfl
  have G35 : σ.2.1 35 = σ.2.1 35 := rfl
  have G36 : σ.2.1 36 = σ.2.1 36 := rfl
  have G37 : σ.2.1 37 = σ.2.1 37 := rfl
  have HT : J_ht (σ.1 3) (σ.2.1 2) (σ.2.1 3) (σ.2.1 5) (σ.2.1 6) := p2
  have MN : J_mn (σ.1 3) (σ.1 5) ((σ.1 7) + 1) (σ.2.1 4) := p3
  have TX : J_vs (σ.1 6) (σ.1 5) (σ.2.1 15) := p5
  have RKS : J_rks (σ.1 5) (σ.1 4) (σ.2.1 10) (σ.2.1 11) := p4
  have CJ : J_all (σ.1 7) (σ.1 6) (σ.1 13) (σ.1 14) (σ.1 15) (σ.2.1 13) (σ.2.1 14) (σ.2.1 15) (σ.2.1 16) (σ.2.1 10) (σ.2.1 27) (σ.2.1 28) (σ.2.1 29) (σ.2.1 30) (σ.2.1 31) (σ.2.1 32) (σ.2.1 33) (σ.2.1 34) (σ.2.1 35) (σ.2.1 36) (σ.2.1 37) := p1
  have CJ_0 := CJ
  have HT_0 := HT
  have MN_0 := MN
  have RKS_0 := RKS
  have TX_0 := TX
  unfold W_X12_trees
  refine ⟨_, K_X3_isStatement hT, ?_⟩
  intro x2 r_x2 hq
  obtain ⟨q1_1, q1_2⟩ := hq
  replace q1_1 : 0 ≤ x2 ∧ x2 ≤ 1 := q1_1
  replace q1_2 : ¬ x2 = 0 → 0 ≤ n1 ∧ n1 < (σ.1 7) := q1_2
  refine ⟨fun c4 => ?_, fun c4 => ?_⟩
  ·
    exact ⟨hT, (show c_GM In0 σ from by (first | exact q5_2 | exact p6 | fail))⟩
  ·
    refine ⟨_, K_X12_treesOf hT (show 0 ≤ n1 from by (first | omega | (simp only [st_s] <;> omega) | assumption | omega | fail)) (show n1 < (σ.1 7) from by (first | omega | (simp only [st_s] <;> omega) | assumption | omega | fail)) (show J_all (σ.1 7) (σ.1 6) (σ.1 13) (σ.1 14) (σ.1 15) (σ.2.1 13) (σ.2.1 14) (σ.2.1 15) (σ.2.1 16) (σ.2.1 10) (σ.2.1 27) (σ.2.1 28) (σ.2.1 29) (σ.2.1 30) (σ.2.1 31) (σ.2.1 32) (σ.2.1 33) (σ.2.1 34) (σ.2.1 35) (σ.2.1 36) (σ.2.1 37) from CJ) (show J_ht (σ.1 3) (σ.2.1 2) (σ.2.1 3) (σ.2.1 5) (σ.2.1 6) from HT) (show J_mn (σ.1 3) (σ.1 5) ((σ.1 7) + 1) (σ.2.1 4) from MN) (show J_rks (σ.1 5) (σ.1 4) (σ.2.1 10) (σ.2.1 11) from RKS) (show J_vs (σ.1 6) (σ.1 5) (σ.2.1 15) from TX) (show c_GM In0 σ from by exact p6), ?_⟩
    intro x6 τ7 r_x6 hn_τ7 hf_τ7 hq
    obtain ⟨hT, q5_1, q5_2, q5_3, q5_4, q5_5⟩ := hq
    replace q5_1 : -2 ≤ x6 ∧ x6 ≤ 2 := q5_1
    replace q5_2 : c_GM In0 τ7 := q5_2
    replace q5_3 : x6 = 1 → ∃ par nof : Int → Int, ∃ In : Int → Prop, (c_Rs τ7 par nof In ∧ ∀ r : Int, In0 r → In r) ∧ c_GR τ7 par nof In := q5_3
    replace q5_4 : x6 = 1 → σ.2.1 14 (n1 + 1) ≤ σ.2.1 14 n1 + 60 := q5_4
    replace q5_5 : x6 = 1 → (τ7.1 49) < (σ.1 5) := q5_5
    have w3_τ7 : τ7.1 3 = σ.1 3 := hf_τ7.1 3 (by decide)
    have w4_τ7 : τ7.1 4 = σ.1 4 := hf_τ7.1 4 (by decide)
    have w5_τ7 : τ7.1 5 = σ.1 5 := hf_τ7.1 5 (by decide)
    have w6_τ7 : τ7.1 6 = σ.1 6 := hf_τ7.1 6 (by decide)
    have w7_τ7 : τ7.1 7 = σ.1 7 := hf_τ7.1 7 (by decide)
    have w13_τ7 : τ7.1 13 = σ.1 13 := hf_τ7.1 13 (by decide)
    have w14_τ7 : τ7.1 14 = σ.1 14 := hf_τ7.1 14 (by decide)
    have w15_τ7 : τ7.1 15 = σ.1 15 := hf_τ7.1 15 (by decide)
    have g2_τ7 : τ7.2.1 2 = σ.2.1 2 := hf_τ7.2.1 2 (by decide)
    have g3_τ7 : τ7.2.1 3 = σ.2.1 3 := hf_τ7.2.1 3 (by decide)
    have g4_τ7 : τ7.2.1 4 = σ.2.1 4 := hf_τ7.2.1 4 (by decide)
    have g5_τ7 : τ7.2.1 5 = σ.2.1 5 := hf_τ7.2.1 5 (by decide)
    have g6_τ7 : τ7.2.1 6 = σ.2.1 6 := hf_τ7.2.1 6 (by decide)
    have g10_τ7 : τ7.2.1 10 = σ.2.1 10 := hf_τ7.2.1 10 (by decide)
    have g11_τ7 : τ7.2.1 11 = σ.2.1 11 := hf_τ7.2.1 11 (by decide)
    have g13_τ7 : τ7.2.1 13 = σ.2.1 13 := hf_τ7.2.1 13 (by decide)
    have g14_τ7 : τ7.2.1 14 = σ.2.1 14 := hf_τ7.2.1 14 (by decide)
    have g15_τ7 : τ7.2.1 15 = σ.2.1 15 := hf_τ7.2.1 15 (by decide)
    have g16_τ7 : τ7.2.1 16 = σ.2.1 16 := hf_τ7.2.1 16 (by decide)
    have g27_τ7 : τ7.2.1 27 = σ.2.1 27 := hf_τ7.2.1 27 (by decide)
    have g28_τ7 : τ7.2.1 28 = σ.2.1 28 := hf_τ7.2.1 28 (by decide)
    have g29_τ7 : τ7.2.1 29 = σ.2.1 29 := hf_τ7.2.1 29 (by decide)
    have g30_τ7 : τ7.2.1 30 = σ.2.1 30 := hf_τ7.2.1 30 (by decide)
    have g31_τ7 : τ7.2.1 31 = σ.2.1 31 := hf_τ7.2.1 31 (by decide)
    have g32_τ7 : τ7.2.1 32 = σ.2.1 32 := hf_τ7.2.1 32 (by decide)
    have g33_τ7 : τ7.2.1 33 = σ.2.1 33 := hf_τ7.2.1 33 (by decide)
    have g34_τ7 : τ7.2.1 34 = σ.2.1 34 := hf_τ7.2.1 34 (by decide)
    have g35_τ7 : τ7.2.1 35 = σ.2.1 35 := hf_τ7.2.1 35 (by decide)
    have g36_τ7 : τ7.2.1 36 = σ.2.1 36 := hf_τ7.2.1 36 (by decide)
    have g37_τ7 : τ7.2.1 37 = σ.2.1 37 := hf_τ7.2.1 37 (by decide)
    have W3 : τ7.1 3 = σ.1 3 := by first | exact w3_τ7.trans W3 | omega
    have W4 : τ7.1 4 = σ.1 4 := by first | exact w4_τ7.trans W4 | omega
    have W5 : τ7.1 5 = σ.1 5 := by first | exact w5_τ7.trans W5 | omega
    have W6 : τ7.1 6 = σ.1 6 := by first | exact w6_τ7.trans W6 | omega
    have W7 : τ7.1 7 = σ.1 7 := by first | exact w7_τ7.trans W7 | omega
    have W13 : τ7.1 13 = σ.1 13 := by first | exact w13_τ7.trans W13 | omega
    have W14 : τ7.1 14 = σ.1 14 := by first | exact w14_τ7.trans W14 | omega
    have W15 : τ7.1 15 = σ.1 15 := by first | exact w15_τ7.trans W15 | omega
    have G2 : τ7.2.1 2 = σ.2.1 2 := (g2_τ7).trans G2
    have G3 : τ7.2.1 3 = σ.2.1 3 := (g3_τ7).trans G3
    have G4 : τ7.2.1 4 = σ.2.1 4 := (g4_τ7).trans G4
    have G5 : τ7.2.1 5 = σ.2.1 5 := (g5_τ7).trans G5
    have G6 : τ7.2.1 6 = σ.2.1 6 := (g6_τ7).trans G6
    have G10 : τ7.2.1 10 = σ.2.1 10 := (g10_τ7).trans G10
    have G11 : τ7.2.1 11 = σ.2.1 11 := (g11_τ7).trans G11
    have G13 : τ7.2.1 13 = σ.2.1 13 := (g13_τ7).trans G13
    have G14 : τ7.2.1 14 = σ.2.1 14 := (g14_τ7).trans G14
    have G15 : τ7.2.1 15 = σ.2.1 15 := (g15_τ7).trans G15
    have G16 : τ7.2.1 16 = σ.2.1 16 := (g16_τ7).trans G16
    have G27 : τ7.2.1 27 = σ.2.1 27 := (g27_τ7).trans G27
    have G28 : τ7.2.1 28 = σ.2.1 28 := (g28_τ7).trans G28
    have G29 : τ7.2.1 29 = σ.2.1 29 := (g29_τ7).trans G29
    have G30 : τ7.2.1 30 = σ.2.1 30 := (g30_τ7).trans G30
    have G31 : τ7.2.1 31 = σ.2.1 31 := (g31_τ7).trans G31
    have G32 : τ7.2.1 32 = σ.2.1 32 := (g32_τ7).trans G32
    have G33 : τ7.2.1 33 = σ.2.1 33 := (g33_τ7).trans G33
    have G34 : τ7.2.1 34 = σ.2.1 34 := (g34_τ7).trans G34
    have G35 : τ7.2.1 35 = σ.2.1 35 := (g35_τ7).trans G35
    have G36 : τ7.2.1 36 = σ.2.1 36 := (g36_τ7).trans G36
    have G37 : τ7.2.1 37 = σ.2.1 37 := (g37_τ7).trans G37
    have HT : J_ht (τ7.1 3) (τ7.2.1 2) (τ7.2.1 3) (τ7.2.1 5) (τ7.2.1 6) := by rw [show (J_ht (τ7.1 3) (τ7.2.1 2) (τ7.2.1 3) (τ7.2.1 5) (τ7.2.1 6)) = (J_ht (σ.1 3) (σ.2.1 2) (σ.2.1 3) (σ.2.1 5) (σ.2.1 6)) from by rw [w3_τ7, g2_τ7, g3_τ7, g5_τ7, g6_τ7]]; exact HT
    have MN : J_mn (τ7.1 3) (τ7.1 5) ((τ7.1 7) + 1) (τ7.2.1 4) := by rw [show (J_mn (τ7.1 3) (τ7.1 5) ((τ7.1 7) + 1) (τ7.2.1 4)) = (J_mn (σ.1 3) (σ.1 5) ((σ.1 7) + 1) (σ.2.1 4)) from by rw [w3_τ7, w5_τ7, w7_τ7, g4_τ7]]; exact MN
    have TX : J_vs (τ7.1 6) (τ7.1 5) (τ7.2.1 15) := by rw [show (J_vs (τ7.1 6) (τ7.1 5) (τ7.2.1 15)) = (J_vs (σ.1 6) (σ.1 5) (σ.2.1 15)) from by rw [w5_τ7, w6_τ7, g15_τ7]]; exact TX
    have RKS : J_rks (τ7.1 5) (τ7.1 4) (τ7.2.1 10) (τ7.2.1 11) := by rw [show (J_rks (τ7.1 5) (τ7.1 4) (τ7.2.1 10) (τ7.2.1 11)) = (J_rks (σ.1 5) (σ.1 4) (σ.2.1 10) (σ.2.1 11)) from by rw [w4_τ7, w5_τ7, g10_τ7, g11_τ7]]; exact RKS
    have CJ : J_all (τ7.1 7) (τ7.1 6) (τ7.1 13) (τ7.1 14) (τ7.1 15) (τ7.2.1 13) (τ7.2.1 14) (τ7.2.1 15) (τ7.2.1 16) (τ7.2.1 10) (τ7.2.1 27) (τ7.2.1 28) (τ7.2.1 29) (τ7.2.1 30) (τ7.2.1 31) (τ7.2.1 32) (τ7.2.1 33) (τ7.2.1 34) (τ7.2.1 35) (τ7.2.1 36) (τ7.2.1 37) := by rw [show (J_all (τ7.1 7) (τ7.1 6) (τ7.1 13) (τ7.1 14) (τ7.1 15) (τ7.2.1 13) (τ7.2.1 14) (τ7.2.1 15) (τ7.2.1 16) (τ7.2.1 10) (τ7.2.1 27) (τ7.2.1 28) (τ7.2.1 29) (τ7.2.1 30) (τ7.2.1 31) (τ7.2.1 32) (τ7.2.1 33) (τ7.2.1 34) (τ7.2.1 35) (τ7.2.1 36) (τ7.2.1 37)) = (J_all (σ.1 7) (σ.1 6) (σ.1 13) (σ.1 14) (σ.1 15) (σ.2.1 13) (σ.2.1 14) (σ.2.1 15) (σ.2.1 16) (σ.2.1 10) (σ.2.1 27) (σ.2.1 28) (σ.2.1 29) (σ.2.1 30) (σ.2.1 31) (σ.2.1 32) (σ.2.1 33) (σ.2.1 34) (σ.2.1 35) (σ.2.1 36) (σ.2.1 37)) from by rw [w6_τ7, w7_τ7, w13_τ7, w14_τ7, w15_τ7, g10_τ7, g13_τ7, g14_τ7, g15_τ7, g16_τ7, g27_τ7, g28_τ7, g29_τ7, g30_τ7, g31_τ7, g32_τ7, g33_τ7, g34_τ7, g35_τ7, g36_τ7, g37_τ7]]; exact CJ
    have A2 : ∀ j, 0 ≤ τ7.2.1 2 j ∧ τ7.2.1 2 j ≤ 65535 := fun j => hT.2 2 j
    have A3 : ∀ j, 0 ≤ τ7.2.1 3 j ∧ τ7.2.1 3 j ≤ 30000 := fun j => hT.2 3 j
    have A4 : ∀ j, (-1000) ≤ τ7.2.1 4 j ∧ τ7.2.1 4 j ≤ 1499 := fun j => hT.2 4 j
    have A5 : ∀ j, 0 ≤ τ7.2.1 5 j ∧ τ7.2.1 5 j ≤ 2500 := fun j => hT.2 5 j
    have A6 : ∀ j, 0 ≤ τ7.2.1 6 j ∧ τ7.2.1 6 j ≤ 2500 := fun j => hT.2 6 j
    have A10 : ∀ j, (-1) ≤ τ7.2.1 10 j ∧ τ7.2.1 10 j ≤ 99 := fun j => hT.2 10 j
    have A11 : ∀ j, 0 ≤ τ7.2.1 11 j ∧ τ7.2.1 11 j ≤ 999 := fun j => hT.2 11 j
    have A13 : ∀ j, 0 ≤ τ7.2.1 13 j ∧ τ7.2.1 13 j ≤ 4 := fun j => hT.2 13 j
    have A14 : ∀ j, 0 ≤ τ7.2.1 14 j ∧ τ7.2.1 14 j ≤ 30000 := fun j => hT.2 14 j
    have A15 : ∀ j, 0 ≤ τ7.2.1 15 j ∧ τ7.2.1 15 j ≤ 999 := fun j => hT.2 15 j
    have A16 : ∀ j, (-1) ≤ τ7.2.1 16 j ∧ τ7.2.1 16 j ≤ 1499 := fun j => hT.2 16 j
    have A27 : ∀ j, 0 ≤ τ7.2.1 27 j ∧ τ7.2.1 27 j ≤ 90000 := fun j => hT.2 27 j
    have A28 : ∀ j, 0 ≤ τ7.2.1 28 j ∧ τ7.2.1 28 j ≤ 60 := fun j => hT.2 28 j
    have A29 : ∀ j, 0 ≤ τ7.2.1 29 j ∧ τ7.2.1 29 j ≤ 1499 := fun j => hT.2 29 j
    have A30 : ∀ j, 0 ≤ τ7.2.1 30 j ∧ τ7.2.1 30 j ≤ 20000 := fun j => hT.2 30 j
    have A31 : ∀ j, 0 ≤ τ7.2.1 31 j ∧ τ7.2.1 31 j ≤ 20000 := fun j => hT.2 31 j
    have A32 : ∀ j, 0 ≤ τ7.2.1 32 j ∧ τ7.2.1 32 j ≤ 999999 := fun j => hT.2 32 j
    have A33 : ∀ j, 0 ≤ τ7.2.1 33 j ∧ τ7.2.1 33 j ≤ 20000 := fun j => hT.2 33 j
    have A34 : ∀ j, 0 ≤ τ7.2.1 34 j ∧ τ7.2.1 34 j ≤ 20000 := fun j => hT.2 34 j
    have A35 : ∀ j, 0 ≤ τ7.2.1 35 j ∧ τ7.2.1 35 j ≤ 1499 := fun j => hT.2 35 j
    have A36 : ∀ j, 0 ≤ τ7.2.1 36 j ∧ τ7.2.1 36 j ≤ 20000 := fun j => hT.2 36 j
    have A37 : ∀ j, 0 ≤ τ7.2.1 37 j ∧ τ7.2.1 37 j ≤ 19999 := fun j => hT.2 37 j
    have v3 : 0 ≤ τ7.1 3 ∧ τ7.1 3 ≤ 2500 := hT.1 3
    have v4 : 0 ≤ τ7.1 4 ∧ τ7.1 4 ≤ 100 := hT.1 4
    have v5 : 0 ≤ τ7.1 5 ∧ τ7.1 5 ≤ 1000 := hT.1 5
    have v6 : 0 ≤ τ7.1 6 ∧ τ7.1 6 ≤ 30000 := hT.1 6
    have v7 : 0 ≤ τ7.1 7 ∧ τ7.1 7 ≤ 1500 := hT.1 7
    have v13 : 0 ≤ τ7.1 13 ∧ τ7.1 13 ≤ 90000 := hT.1 13
    have v14 : 0 ≤ τ7.1 14 ∧ τ7.1 14 ≤ 20000 := hT.1 14
    have v15 : 0 ≤ τ7.1 15 ∧ τ7.1 15 ≤ 20000 := hT.1 15
    have v49 : (-1) ≤ τ7.1 49 ∧ τ7.1 49 ≤ 999 := hT.1 49
    exact ⟨hT, (show c_GM In0 τ7 from by (first | exact q5_2 | exact p6 | fail))⟩
