-- pure: the model reads statements
def J_pa (f g : Int → Int) : Prop := ∀ i : Int, f i + g i ≤ 20000
theorem J_pa0 {f g : Int → Int} {e x : Int} (h : J_pa f g) (hx : x ≤ 20000) : J_pa (st f e x) (st g e 0) := fun i => by
  by_cases z : i = e
  · rw [z, st_s, st_s]; omega
  · rw [st_n _ _ z, st_n _ _ z]; exact h i
theorem J_pa1 {f g : Int → Int} {e y : Int} (h : J_pa f g) (hx : f e + y ≤ 20000) : J_pa f (st g e y) := fun i => by
  by_cases z : i = e
  · rw [z, st_s]; exact hx
  · rw [st_n _ _ z]; exact h i
theorem ca_u (f : Int → Int) {n : Int} (h : 0 ≤ n) : (f n = 0 ∧ ca f (n + 1) = ca f n) ∨ (¬ f n = 0 ∧ ca f (n + 1) = ca f n + 1) := by
  rw [ca_s f h]
  by_cases z : f n = 0
  · rw [if_pos z]; exact Or.inl ⟨z, by omega⟩
  · rw [if_neg z]; exact Or.inr ⟨z, rfl⟩
/-- texts, hypotheses, pairs, steps of statements stand one behind another -/
def J_m (n tc hc pc sc : Int) (ta ts ha hs pa ps sa ss sv : Int → Int) : Prop := ∀ i : Int, 0 ≤ i → i < n → (ta i + ts i ≤ tc ∧ ha i + hs i ≤ hc ∧ pa i + ps i ≤ pc ∧ sa i + ss i ≤ sc) ∧ 1 ≤ ts i ∧ ha i + hs i ≤ 60 * (i + 1) ∧ ca sv (sa i + ss i) ≤ ca sv (sa i) + 300 ∧ ∀ j : Int, i < j → j < n → ta i + ts i ≤ ta j ∧ ha i + hs i ≤ ha j ∧ pa i + ps i ≤ pa j ∧ sa i + ss i ≤ sa j
abbrev m_J (σ : S0) : Prop := J_m (σ.1 5) (σ.1 6) (σ.1 7) (σ.1 8) (σ.1 9) (σ.2.1 14) (σ.2.1 15) (σ.2.1 18) (σ.2.1 19) (σ.2.1 21) (σ.2.1 22) (σ.2.1 25) (σ.2.1 26) (σ.2.1 28)
theorem m_J_e {σ τ : S0} (h : m_J σ) (a : m_ag σ τ) (hT : m_T σ) (sv : j_eq (σ.1 9) (σ.2.1 28) (τ.2.1 28)) (n : τ.1 5 = σ.1 5 + 1)
    (e1 : τ.2.1 14 (σ.1 5) = σ.1 6) (e2 : τ.2.1 18 (σ.1 5) = σ.1 7) (e3 : τ.2.1 21 (σ.1 5) = σ.1 8) (e4 : τ.2.1 25 (σ.1 5) = σ.1 9)
    (z1 : τ.2.1 14 (σ.1 5) + τ.2.1 15 (σ.1 5) = τ.1 6) (z2 : τ.2.1 18 (σ.1 5) + τ.2.1 19 (σ.1 5) = τ.1 7) (z3 : τ.2.1 21 (σ.1 5) + τ.2.1 22 (σ.1 5) = τ.1 8) (z4 : τ.2.1 25 (σ.1 5) + τ.2.1 26 (σ.1 5) = τ.1 9)
    (t1 : 1 ≤ τ.2.1 15 (σ.1 5)) (h1 : τ.1 7 ≤ 60 * (σ.1 5 + 1)) (c1 : ca (τ.2.1 28) (τ.1 9) ≤ ca (τ.2.1 28) (τ.2.1 25 (σ.1 5)) + 300) : m_J τ := by
  have v6 := a.1 6 (by decide); have v7 := a.1 7 (by decide); have v8 := a.1 8 (by decide); have v9 := a.1 9 (by decide)
  intro i i0 i1
  have old : ∀ k : Nat, (k, 5, (0 : Int)) ∈ m_gT → ∀ j : Int, j < σ.1 5 → τ.2.1 k j = σ.2.1 k j := fun k hk j hj => a.2 (k, 5, 0) hk j (by show j < σ.1 5 + 0; omega)
  by_cases q : i = σ.1 5
  · rw [q]
    refine ⟨⟨by omega, by omega, by omega, by omega⟩, t1, by omega, by rw [z4]; exact c1, fun j j0 j1 => by omega⟩
  · have hi : i < σ.1 5 := by omega
    obtain ⟨⟨a1, a2, a3, a4⟩, a5, a6, a7, a8⟩ := h i i0 hi
    rw [old 14 (by decide) i hi, old 15 (by decide) i hi, old 18 (by decide) i hi, old 19 (by decide) i hi, old 21 (by decide) i hi, old 22 (by decide) i hi, old 25 (by decide) i hi, old 26 (by decide) i hi]
    have s1 := (hT.2 25 i).1; have s2 := (hT.2 26 i).1
    have s1 : 0 ≤ σ.2.1 25 i := s1
    have s2 : 0 ≤ σ.2.1 26 i := s2
    refine ⟨⟨by omega, by omega, by omega, by omega⟩, a5, a6, ?_, fun j j0 j1 => ?_⟩
    · rw [ca_eq sv (by omega), ca_eq sv (by omega)]; exact a7
    · by_cases r : j = σ.1 5
      · rw [r]; omega
      · rw [old 14 (by decide) j (by omega), old 18 (by decide) j (by omega), old 21 (by decide) j (by omega), old 25 (by decide) j (by omega)]
        exact a8 j j0 (by omega)
/-- what a text leaves when it is forgotten -/
theorem m_J_b {σ τ υ : S0} (h : m_J σ) (a : m_ag σ τ) (hT : m_T σ) (sv : j_eq (σ.1 9) (σ.2.1 28) (τ.2.1 28)) (n : υ.1 5 = σ.1 5)
    (u : ∀ k : Nat, k ∈ [14, 15, 18, 19, 21, 22, 25, 26, 28] → υ.2.1 k = τ.2.1 k)
    (c : (σ.1 5 = 0) ∨ (υ.1 6 = τ.2.1 14 (σ.1 5 - 1) + τ.2.1 15 (σ.1 5 - 1) ∧ υ.1 7 = τ.2.1 18 (σ.1 5 - 1) + τ.2.1 19 (σ.1 5 - 1) ∧ υ.1 8 = τ.2.1 21 (σ.1 5 - 1) + τ.2.1 22 (σ.1 5 - 1) ∧ υ.1 9 = τ.2.1 25 (σ.1 5 - 1) + τ.2.1 26 (σ.1 5 - 1))) : m_J υ := by
  intro i i0 i1
  have old : ∀ k : Nat, (k, 5, (0 : Int)) ∈ m_gT → k ∈ [14, 15, 18, 19, 21, 22, 25, 26, 28] → ∀ j : Int, j < σ.1 5 → υ.2.1 k j = σ.2.1 k j := fun k hk hk2 j hj => by rw [u k hk2]; exact a.2 (k, 5, 0) hk j (by show j < σ.1 5 + 0; omega)
  have hi : i < σ.1 5 := by omega
  rcases c with c | ⟨c1, c2, c3, c4⟩
  · omega
  obtain ⟨⟨a1, a2, a3, a4⟩, a5, a6, a7, a8⟩ := h i i0 hi
  rw [← u 14 (by decide), ← u 15 (by decide), old 14 (by decide) (by decide) _ (by omega), old 15 (by decide) (by decide) _ (by omega)] at c1
  rw [← u 18 (by decide), ← u 19 (by decide), old 18 (by decide) (by decide) _ (by omega), old 19 (by decide) (by decide) _ (by omega)] at c2
  rw [← u 21 (by decide), ← u 22 (by decide), old 21 (by decide) (by decide) _ (by omega), old 22 (by decide) (by decide) _ (by omega)] at c3
  rw [← u 25 (by decide), ← u 26 (by decide), old 25 (by decide) (by decide) _ (by omega), old 26 (by decide) (by decide) _ (by omega)] at c4
  rw [old 14 (by decide) (by decide) i hi, old 15 (by decide) (by decide) i hi, old 18 (by decide) (by decide) i hi, old 19 (by decide) (by decide) i hi, old 21 (by decide) (by decide) i hi, old 22 (by decide) (by decide) i hi, old 25 (by decide) (by decide) i hi, old 26 (by decide) (by decide) i hi]
  have s1 : 0 ≤ σ.2.1 25 i := (hT.2 25 i).1
  have s2 : 0 ≤ σ.2.1 26 i := (hT.2 26 i).1
  have p1 : 0 ≤ σ.2.1 15 (σ.1 5 - 1) := (hT.2 15 _).1
  have p2 : 0 ≤ σ.2.1 19 (σ.1 5 - 1) := (hT.2 19 _).1
  have p3 : 0 ≤ σ.2.1 22 (σ.1 5 - 1) := (hT.2 22 _).1
  have p4 : 0 ≤ σ.2.1 26 (σ.1 5 - 1) := (hT.2 26 _).1
  have ca2 : ∀ m : Int, m ≤ σ.1 9 → ca (υ.2.1 28) m = ca (σ.2.1 28) m := fun m hm => by rw [u 28 (by decide)]; exact ca_eq sv hm
  refine ⟨?_, a5, a6, ?_, fun j j0 j1 => ?_⟩
  · by_cases z : i = σ.1 5 - 1
    · rw [← z] at c1 c2 c3 c4; omega
    · have := a8 (σ.1 5 - 1) (by omega) (by omega); omega
  · rw [ca2 _ (by omega), ca2 _ (by omega)]; exact a7
  · rw [old 14 (by decide) (by decide) j (by omega), old 18 (by decide) (by decide) j (by omega), old 21 (by decide) (by decide) j (by omega), old 25 (by decide) (by decide) j (by omega)]
    exact a8 j j0 (by omega)
set_option maxHeartbeats 1000000 in
theorem K2_X13_readLabel {σ : S0} (hT : m_T σ) (p1 : (σ.1 17) + (σ.1 18) ≤ (σ.1 0)) (p2 : oc (σ.2.1 6) ≤ (σ.1 3)) (p3 : oc (σ.2.1 7) ≤ (σ.1 5)) (p4 : J_pa (σ.2.1 21) (σ.2.1 22)) : W_X13_readLabel σ (fun (τ : S0) => (m_T τ) ∧ ((τ.1 20) = 0 → (τ.1 22) = (σ.1 5) ∧ τ.2.1 15 (τ.1 22) = 0 ∧ τ.2.1 19 (τ.1 22) = 0 ∧ τ.2.1 22 (τ.1 22) = 0 ∧ τ.2.1 26 (τ.1 22) = 0 ∧ (σ.1 5) < 1500) ∧ ((τ.1 20) = 0 → τ.2.1 14 (τ.1 22) = (σ.1 6) ∧ τ.2.1 18 (τ.1 22) = (σ.1 7) ∧ τ.2.1 21 (τ.1 22) = (σ.1 8) ∧ τ.2.1 25 (τ.1 22) = (σ.1 9)) ∧ (oc (τ.2.1 7) ≤ (σ.1 5) + 1) ∧ (¬ (σ.1 20) = 0 → (τ.1 20) = (σ.1 20)) ∧ (J_pa (τ.2.1 21) (τ.2.1 22)) ∧ (m_ag σ τ)) := by
  have A6 : ∀ j, (-1) ≤ σ.2.1 6 j ∧ σ.2.1 6 j ≤ 999 := fun j => hT.2 6 j
  have A7 : ∀ j, (-1) ≤ σ.2.1 7 j ∧ σ.2.1 7 j ≤ 1499 := fun j => hT.2 7 j
  have A14 : ∀ j, 0 ≤ σ.2.1 14 j ∧ σ.2.1 14 j ≤ 30000 := fun j => hT.2 14 j
  have A15 : ∀ j, 0 ≤ σ.2.1 15 j ∧ σ.2.1 15 j ≤ 300 := fun j => hT.2 15 j
  have A18 : ∀ j, 0 ≤ σ.2.1 18 j ∧ σ.2.1 18 j ≤ 90000 := fun j => hT.2 18 j
  have A19 : ∀ j, 0 ≤ σ.2.1 19 j ∧ σ.2.1 19 j ≤ 60 := fun j => hT.2 19 j
  have A21 : ∀ j, 0 ≤ σ.2.1 21 j ∧ σ.2.1 21 j ≤ 20000 := fun j => hT.2 21 j
  have A22 : ∀ j, 0 ≤ σ.2.1 22 j ∧ σ.2.1 22 j ≤ 20000 := fun j => hT.2 22 j
  have A25 : ∀ j, 0 ≤ σ.2.1 25 j ∧ σ.2.1 25 j ≤ 20000 := fun j => hT.2 25 j
  have A26 : ∀ j, 0 ≤ σ.2.1 26 j ∧ σ.2.1 26 j ≤ 20000 := fun j => hT.2 26 j
  have v0 : 0 ≤ σ.1 0 ∧ σ.1 0 ≤ 60000 := hT.1 0
  have v2 : 0 ≤ σ.1 2 ∧ σ.1 2 ≤ 30000 := hT.1 2
  have v3 : 0 ≤ σ.1 3 ∧ σ.1 3 ≤ 1000 := hT.1 3
  have v5 : 0 ≤ σ.1 5 ∧ σ.1 5 ≤ 1500 := hT.1 5
  have v6 : 0 ≤ σ.1 6 ∧ σ.1 6 ≤ 30000 := hT.1 6
  have v7 : 0 ≤ σ.1 7 ∧ σ.1 7 ≤ 90000 := hT.1 7
  have v8 : 0 ≤ σ.1 8 ∧ σ.1 8 ≤ 20000 := hT.1 8
  have v9 : 0 ≤ σ.1 9 ∧ σ.1 9 ≤ 20000 := hT.1 9
  have v17 : 0 ≤ σ.1 17 ∧ σ.1 17 ≤ 60000 := hT.1 17
  have v18 : 0 ≤ σ.1 18 ∧ σ.1 18 ≤ 60000 := hT.1 18
  have v20 : 0 ≤ σ.1 20 ∧ σ.1 20 ≤ 19 := hT.1 20
  have v22 : 0 ≤ σ.1 22 ∧ σ.1 22 ≤ 1499 := hT.1 22
  have a14_22 : 0 ≤ σ.2.1 14 (σ.1 22) ∧ σ.2.1 14 (σ.1 22) ≤ 30000 := hT.2 14 _
  have a15_22 : 0 ≤ σ.2.1 15 (σ.1 22) ∧ σ.2.1 15 (σ.1 22) ≤ 300 := hT.2 15 _
  have a18_22 : 0 ≤ σ.2.1 18 (σ.1 22) ∧ σ.2.1 18 (σ.1 22) ≤ 90000 := hT.2 18 _
  have a19_22 : 0 ≤ σ.2.1 19 (σ.1 22) ∧ σ.2.1 19 (σ.1 22) ≤ 60 := hT.2 19 _
  have a21_22 : 0 ≤ σ.2.1 21 (σ.1 22) ∧ σ.2.1 21 (σ.1 22) ≤ 20000 := hT.2 21 _
  have a22_22 : 0 ≤ σ.2.1 22 (σ.1 22) ∧ σ.2.1 22 (σ.1 22) ≤ 20000 := hT.2 22 _
  have a25_22 : 0 ≤ σ.2.1 25 (σ.1 22) ∧ σ.2.1 25 (σ.1 22) ≤ 20000 := hT.2 25 _
  have a26_22 : 0 ≤ σ.2.1 26 (σ.1 22) ∧ σ.2.1 26 (σ.1 22) ≤ 20000 := hT.2 26 _
  have W0 : σ.1 0 = σ.1 0 := rfl
  have W3 : σ.1 3 = σ.1 3 := rfl
  have W5 : σ.1 5 = σ.1 5 := rfl
  have W6 : σ.1 6 = σ.1 6 := rfl
  have W7 : σ.1 7 = σ.1 7 := rfl
  have W8 : σ.1 8 = σ.1 8 := rfl
  have W9 : σ.1 9 = σ.1 9 := rfl
  have W17 : σ.1 17 = σ.1 17 := rfl
  have W18 : σ.1 18 = σ.1 18 := rfl
  have G6 : σ.2.1 6 = σ.2.1 6 := rfl
  have ag : m_ag σ σ := ag_0 σ
  intro P34 P42 P108 P263 h34 h42 h108 h263
  have PA : J_pa (σ.2.1 21) (σ.2.1 22) := p4
  have PA_0 := PA
  have l_263 : ∀ (m_263 : Nat) (u1_263 : Int) (τ_263 : S0), 25 - u1_263 < (m_263 : Int) → (m_T τ_263) → (m_ag σ τ_263) → (τ_263.1 0 = σ.1 0) → (τ_263.1 3 = σ.1 3) → (τ_263.1 5 = σ.1 5) → (τ_263.1 6 = σ.1 6) → (τ_263.1 7 = σ.1 7) → (τ_263.1 8 = σ.1 8) → (τ_263.1 9 = σ.1 9) → (τ_263.1 17 = σ.1 17) → (τ_263.1 18 = σ.1 18) → (τ_263.2.1 6 = σ.2.1 6) → (0 ≤ u1_263) → ((τ_263.1 20) = (σ.1 20)) → ((τ_263.1 22) = (σ.1 5)) → ((σ.1 5) < 1500) → (oc (τ_263.2.1 7) ≤ (σ.1 5) + 1) → (u1_263 ≤ 24) → (τ_263.2.1 14 (τ_263.1 22) = (σ.1 6)) → (τ_263.2.1 15 (τ_263.1 22) = 0) → (τ_263.2.1 18 (τ_263.1 22) = (σ.1 7)) → (τ_263.2.1 19 (τ_263.1 22) = 0) → (τ_263.2.1 21 (τ_263.1 22) = (σ.1 8)) → (τ_263.2.1 22 (τ_263.1 22) = 0) → (τ_263.2.1 25 (τ_263.1 22) = (σ.1 9)) → (τ_263.2.1 26 (τ_263.1 22) = 0) → (J_pa (τ_263.2.1 21) (τ_263.2.1 22)) → P263 u1_263 τ_263 := by
    intro m_263
    induction m_263 with
    | zero =>
      intro u1_263 τ_263 hm hT ag W0 W3 W5 W6 W7 W8 W9 W17 W18 G6 i263_1 i263_2 i263_3 i263_4 i263_5 i263_6 i263_7 i263_8 i263_9 i263_10 i263_11 i263_12 i263_13 i263_14 i263_15
      have A6 : ∀ j, (-1) ≤ τ_263.2.1 6 j ∧ τ_263.2.1 6 j ≤ 999 := fun j => hT.2 6 j
      have A7 : ∀ j, (-1) ≤ τ_263.2.1 7 j ∧ τ_263.2.1 7 j ≤ 1499 := fun j => hT.2 7 j
      have A14 : ∀ j, 0 ≤ τ_263.2.1 14 j ∧ τ_263.2.1 14 j ≤ 30000 := fun j => hT.2 14 j
      have A15 : ∀ j, 0 ≤ τ_263.2.1 15 j ∧ τ_263.2.1 15 j ≤ 300 := fun j => hT.2 15 j
      have A18 : ∀ j, 0 ≤ τ_263.2.1 18 j ∧ τ_263.2.1 18 j ≤ 90000 := fun j => hT.2 18 j
      have A19 : ∀ j, 0 ≤ τ_263.2.1 19 j ∧ τ_263.2.1 19 j ≤ 60 := fun j => hT.2 19 j
      have A21 : ∀ j, 0 ≤ τ_263.2.1 21 j ∧ τ_263.2.1 21 j ≤ 20000 := fun j => hT.2 21 j
      have A22 : ∀ j, 0 ≤ τ_263.2.1 22 j ∧ τ_263.2.1 22 j ≤ 20000 := fun j => hT.2 22 j
      have A25 : ∀ j, 0 ≤ τ_263.2.1 25 j ∧ τ_263.2.1 25 j ≤ 20000 := fun j => hT.2 25 j
      have A26 : ∀ j, 0 ≤ τ_263.2.1 26 j ∧ τ_263.2.1 26 j ≤ 20000 := fun j => hT.2 26 j
      have v0 : 0 ≤ τ_263.1 0 ∧ τ_263.1 0 ≤ 60000 := hT.1 0
      have v2 : 0 ≤ τ_263.1 2 ∧ τ_263.1 2 ≤ 30000 := hT.1 2
      have v3 : 0 ≤ τ_263.1 3 ∧ τ_263.1 3 ≤ 1000 := hT.1 3
      have v5 : 0 ≤ τ_263.1 5 ∧ τ_263.1 5 ≤ 1500 := hT.1 5
      have v6 : 0 ≤ τ_263.1 6 ∧ τ_263.1 6 ≤ 30000 := hT.1 6
      have v7 : 0 ≤ τ_263.1 7 ∧ τ_263.1 7 ≤ 90000 := hT.1 7
      have v8 : 0 ≤ τ_263.1 8 ∧ τ_263.1 8 ≤ 20000 := hT.1 8
      have v9 : 0 ≤ τ_263.1 9 ∧ τ_263.1 9 ≤ 20000 := hT.1 9
      have v17 : 0 ≤ τ_263.1 17 ∧ τ_263.1 17 ≤ 60000 := hT.1 17
      have v18 : 0 ≤ τ_263.1 18 ∧ τ_263.1 18 ≤ 60000 := hT.1 18
      have v20 : 0 ≤ τ_263.1 20 ∧ τ_263.1 20 ≤ 19 := hT.1 20
      have v22 : 0 ≤ τ_263.1 22 ∧ τ_263.1 22 ≤ 1499 := hT.1 22
      have a14_22 : 0 ≤ τ_263.2.1 14 (τ_263.1 22) ∧ τ_263.2.1 14 (τ_263.1 22) ≤ 30000 := hT.2 14 _
      have a15_22 : 0 ≤ τ_263.2.1 15 (τ_263.1 22) ∧ τ_263.2.1 15 (τ_263.1 22) ≤ 300 := hT.2 15 _
      have a18_22 : 0 ≤ τ_263.2.1 18 (τ_263.1 22) ∧ τ_263.2.1 18 (τ_263.1 22) ≤ 90000 := hT.2 18 _
      have a19_22 : 0 ≤ τ_263.2.1 19 (τ_263.1 22) ∧ τ_263.2.1 19 (τ_263.1 22) ≤ 60 := hT.2 19 _
      have a21_22 : 0 ≤ τ_263.2.1 21 (τ_263.1 22) ∧ τ_263.2.1 21 (τ_263.1 22) ≤ 20000 := hT.2 21 _
      have a22_22 : 0 ≤ τ_263.2.1 22 (τ_263.1 22) ∧ τ_263.2.1 22 (τ_263.1 22) ≤ 20000 := hT.2 22 _
      have a25_22 : 0 ≤ τ_263.2.1 25 (τ_263.1 22) ∧ τ_263.2.1 25 (τ_263.1 22) ≤ 20000 := hT.2 25 _
      have a26_22 : 0 ≤ τ_263.2.1 26 (τ_263.1 22) ∧ τ_263.2.1 26 (τ_263.1 22) ≤ 20000 := hT.2 26 _
      exfalso; (first | omega | (simp only [st_s] <;> omega) | assumption | omega)
    | succ m_263 ih_263 =>
      intro u1_263 τ_263 hm_263 hT ag W0 W3 W5 W6 W7 W8 W9 W17 W18 G6 i263_1 i263_2 i263_3 i263_4 i263_5 i263_6 i263_7 i263_8 i263_9 i263_10 i263_11 i263_12 i263_13 i263_14 i263_15
      have A6 : ∀ j, (-1) ≤ τ_263.2.1 6 j ∧ τ_263.2.1 6 j ≤ 999 := fun j => hT.2 6 j
      have A7 : ∀ j, (-1) ≤ τ_263.2.1 7 j ∧ τ_263.2.1 7 j ≤ 1499 := fun j => hT.2 7 j
      have A14 : ∀ j, 0 ≤ τ_263.2.1 14 j ∧ τ_263.2.1 14 j ≤ 30000 := fun j => hT.2 14 j
      have A15 : ∀ j, 0 ≤ τ_263.2.1 15 j ∧ τ_263.2.1 15 j ≤ 300 := fun j => hT.2 15 j
      have A18 : ∀ j, 0 ≤ τ_263.2.1 18 j ∧ τ_263.2.1 18 j ≤ 90000 := fun j => hT.2 18 j
      have A19 : ∀ j, 0 ≤ τ_263.2.1 19 j ∧ τ_263.2.1 19 j ≤ 60 := fun j => hT.2 19 j
      have A21 : ∀ j, 0 ≤ τ_263.2.1 21 j ∧ τ_263.2.1 21 j ≤ 20000 := fun j => hT.2 21 j
      have A22 : ∀ j, 0 ≤ τ_263.2.1 22 j ∧ τ_263.2.1 22 j ≤ 20000 := fun j => hT.2 22 j
      have A25 : ∀ j, 0 ≤ τ_263.2.1 25 j ∧ τ_263.2.1 25 j ≤ 20000 := fun j => hT.2 25 j
      have A26 : ∀ j, 0 ≤ τ_263.2.1 26 j ∧ τ_263.2.1 26 j ≤ 20000 := fun j => hT.2 26 j
      have v0 : 0 ≤ τ_263.1 0 ∧ τ_263.1 0 ≤ 60000 := hT.1 0
      have v2 : 0 ≤ τ_263.1 2 ∧ τ_263.1 2 ≤ 30000 := hT.1 2
      have v3 : 0 ≤ τ_263.1 3 ∧ τ_263.1 3 ≤ 1000 := hT.1 3
      have v5 : 0 ≤ τ_263.1 5 ∧ τ_263.1 5 ≤ 1500 := hT.1 5
      have v6 : 0 ≤ τ_263.1 6 ∧ τ_263.1 6 ≤ 30000 := hT.1 6
      have v7 : 0 ≤ τ_263.1 7 ∧ τ_263.1 7 ≤ 90000 := hT.1 7
      have v8 : 0 ≤ τ_263.1 8 ∧ τ_263.1 8 ≤ 20000 := hT.1 8
      have v9 : 0 ≤ τ_263.1 9 ∧ τ_263.1 9 ≤ 20000 := hT.1 9
      have v17 : 0 ≤ τ_263.1 17 ∧ τ_263.1 17 ≤ 60000 := hT.1 17
      have v18 : 0 ≤ τ_263.1 18 ∧ τ_263.1 18 ≤ 60000 := hT.1 18
      have v20 : 0 ≤ τ_263.1 20 ∧ τ_263.1 20 ≤ 19 := hT.1 20
      have v22 : 0 ≤ τ_263.1 22 ∧ τ_263.1 22 ≤ 1499 := hT.1 22
      have a14_22 : 0 ≤ τ_263.2.1 14 (τ_263.1 22) ∧ τ_263.2.1 14 (τ_263.1 22) ≤ 30000 := hT.2 14 _
      have a15_22 : 0 ≤ τ_263.2.1 15 (τ_263.1 22) ∧ τ_263.2.1 15 (τ_263.1 22) ≤ 300 := hT.2 15 _
      have a18_22 : 0 ≤ τ_263.2.1 18 (τ_263.1 22) ∧ τ_263.2.1 18 (τ_263.1 22) ≤ 90000 := hT.2 18 _
      have a19_22 : 0 ≤ τ_263.2.1 19 (τ_263.1 22) ∧ τ_263.2.1 19 (τ_263.1 22) ≤ 60 := hT.2 19 _
      have a21_22 : 0 ≤ τ_263.2.1 21 (τ_263.1 22) ∧ τ_263.2.1 21 (τ_263.1 22) ≤ 20000 := hT.2 21 _
      have a22_22 : 0 ≤ τ_263.2.1 22 (τ_263.1 22) ∧ τ_263.2.1 22 (τ_263.1 22) ≤ 20000 := hT.2 22 _
      have a25_22 : 0 ≤ τ_263.2.1 25 (τ_263.1 22) ∧ τ_263.2.1 25 (τ_263.1 22) ≤ 20000 := hT.2 25 _
      have a26_22 : 0 ≤ τ_263.2.1 26 (τ_263.1 22) ∧ τ_263.2.1 26 (τ_263.1 22) ≤ 20000 := hT.2 26 _
      have o6_τ_263 := congrArg oc G6
      have PA : J_pa (τ_263.2.1 21) (τ_263.2.1 22) := i263_15
      refine h263 u1_263 τ_263 ?_
      refine ⟨fun c38 => ?_, fun c38 => ?_⟩
      ·
        exact ⟨hT, (show (τ_263.1 20) = 0 → (τ_263.1 22) = (σ.1 5) ∧ τ_263.2.1 15 (τ_263.1 22) = 0 ∧ τ_263.2.1 19 (τ_263.1 22) = 0 ∧ τ_263.2.1 22 (τ_263.1 22) = 0 ∧ τ_263.2.1 26 (τ_263.1 22) = 0 ∧ (σ.1 5) < 1500 from by (first | omega | (simp only [st_s] <;> omega) | assumption | omega)), (show (τ_263.1 20) = 0 → τ_263.2.1 14 (τ_263.1 22) = (σ.1 6) ∧ τ_263.2.1 18 (τ_263.1 22) = (σ.1 7) ∧ τ_263.2.1 21 (τ_263.1 22) = (σ.1 8) ∧ τ_263.2.1 25 (τ_263.1 22) = (σ.1 9) from by (first | omega | (simp only [st_s] <;> omega) | assumption | omega)), (show oc (τ_263.2.1 7) ≤ (σ.1 5) + 1 from by (first | omega | (simp only [st_s] <;> omega) | assumption | omega)), (show ¬ (σ.1 20) = 0 → (τ_263.1 20) = (σ.1 20) from by (first | omega | (simp only [st_s] <;> omega) | assumption | omega)), (show J_pa (τ_263.2.1 21) (τ_263.2.1 22) from PA), ag⟩
      ·
        refine ⟨(show 0 ≤ ((24 * τ_263.1 22) + u1_263) ∧ ((24 * τ_263.1 22) + u1_263) < 36024 from by (first | omega | (simp only [st_s] <;> omega) | assumption | omega)), ?_⟩
        replace ag := ag_b (k := 0) (e := ((24 * τ_263.1 22) + u1_263)) (x := 0) ag
        replace hT := mT_b (k := 0) (j := ((24 * τ_263.1 22) + u1_263)) (x := 0) hT
        refine ⟨(⟨by (first | omega | (simp only [st_s] <;> omega) | assumption | omega), by (first | omega | (simp only [st_s] <;> omega) | assumption | omega)⟩ : rg (u1_263 + 1)), ?_⟩
        exact ih_263 _ _ (show (25 - (u1_263 + 1) : Int) < ((m_263 : Nat) : Int) from by ((first | omega | (simp only [st_s] <;> omega) | assumption | omega))) hT ag (show τ_263.1 0 = σ.1 0 from by omega) (show τ_263.1 3 = σ.1 3 from by omega) (show τ_263.1 5 = σ.1 5 from by omega) (show τ_263.1 6 = σ.1 6 from by omega) (show τ_263.1 7 = σ.1 7 from by omega) (show τ_263.1 8 = σ.1 8 from by omega) (show τ_263.1 9 = σ.1 9 from by omega) (show τ_263.1 17 = σ.1 17 from by omega) (show τ_263.1 18 = σ.1 18 from by omega) G6 (show 0 ≤ (u1_263 + 1) from by (first | omega | (simp only [st_s] <;> omega) | assumption | omega)) (show (τ_263.1 20) = (σ.1 20) from by (first | omega | (simp only [st_s] <;> omega) | assumption | omega)) (show (τ_263.1 22) = (σ.1 5) from by (first | omega | (simp only [st_s] <;> omega) | assumption | omega)) (show (σ.1 5) < 1500 from by (first | omega | (simp only [st_s] <;> omega) | assumption | omega)) (show oc (τ_263.2.1 7) ≤ (σ.1 5) + 1 from by (first | omega | (simp only [st_s] <;> omega) | assumption | omega)) (show (u1_263 + 1) ≤ 24 from by (first | omega | (simp only [st_s] <;> omega) | assumption | omega)) (show τ_263.2.1 14 (τ_263.1 22) = (σ.1 6) from by (first | omega | (rw [st_s]; omega) | (exact st_s _ _ _))) (show τ_263.2.1 15 (τ_263.1 22) = 0 from by (first | omega | (rw [st_s]; omega) | (exact st_s _ _ _))) (show τ_263.2.1 18 (τ_263.1 22) = (σ.1 7) from by (first | omega | (rw [st_s]; omega) | (exact st_s _ _ _))) (show τ_263.2.1 19 (τ_263.1 22) = 0 from by (first | omega | (rw [st_s]; omega) | (exact st_s _ _ _))) (show τ_263.2.1 21 (τ_263.1 22) = (σ.1 8) from by (first | omega | (rw [st_s]; omega) | (exact st_s _ _ _))) (show τ_263.2.1 22 (τ_263.1 22) = 0 from by (first | omega | (rw [st_s]; omega) | (exact st_s _ _ _))) (show τ_263.2.1 25 (τ_263.1 22) = (σ.1 9) from by (first | omega | (rw [st_s]; omega) | (exact st_s _ _ _))) (show τ_263.2.1 26 (τ_263.1 22) = 0 from by (first | omega | (rw [st_s]; omega) | (exact st_s _ _ _))) (show J_pa (τ_263.2.1 21) (τ_263.2.1 22) from PA)
  have l_42 : ∀ (m_42 : Nat) (u1_42 : Int) (τ_42 : S0), 61 - u1_42 < (m_42 : Int) → (m_T τ_42) → (m_ag σ τ_42) → (τ_42.1 0 = σ.1 0) → (τ_42.1 3 = σ.1 3) → (τ_42.1 5 = σ.1 5) → (τ_42.1 6 = σ.1 6) → (τ_42.1 7 = σ.1 7) → (τ_42.1 8 = σ.1 8) → (τ_42.1 9 = σ.1 9) → (τ_42.1 17 = σ.1 17) → (τ_42.1 18 = σ.1 18) → (τ_42.2.1 6 = σ.2.1 6) → (0 ≤ u1_42) → (u1_42 ≤ 60) → ((τ_42.1 20) = (σ.1 20)) → (oc (τ_42.2.1 7) ≤ (σ.1 5)) → ((σ.1 5) < 1500) → ((σ.1 2) + (σ.1 18) ≤ 30000) → ((σ.1 18) ≤ 60) → ((τ_42.1 2) = (σ.1 2)) → (J_pa (τ_42.2.1 21) (τ_42.2.1 22)) → P42 u1_42 τ_42 := by
    intro m_42
    induction m_42 with
    | zero =>
      intro u1_42 τ_42 hm hT ag W0 W3 W5 W6 W7 W8 W9 W17 W18 G6 i42_1 i42_2 i42_3 i42_4 i42_5 i42_6 i42_7 i42_8 i42_9
      have A6 : ∀ j, (-1) ≤ τ_42.2.1 6 j ∧ τ_42.2.1 6 j ≤ 999 := fun j => hT.2 6 j
      have A7 : ∀ j, (-1) ≤ τ_42.2.1 7 j ∧ τ_42.2.1 7 j ≤ 1499 := fun j => hT.2 7 j
      have A14 : ∀ j, 0 ≤ τ_42.2.1 14 j ∧ τ_42.2.1 14 j ≤ 30000 := fun j => hT.2 14 j
      have A15 : ∀ j, 0 ≤ τ_42.2.1 15 j ∧ τ_42.2.1 15 j ≤ 300 := fun j => hT.2 15 j
      have A18 : ∀ j, 0 ≤ τ_42.2.1 18 j ∧ τ_42.2.1 18 j ≤ 90000 := fun j => hT.2 18 j
      have A19 : ∀ j, 0 ≤ τ_42.2.1 19 j ∧ τ_42.2.1 19 j ≤ 60 := fun j => hT.2 19 j
      have A21 : ∀ j, 0 ≤ τ_42.2.1 21 j ∧ τ_42.2.1 21 j ≤ 20000 := fun j => hT.2 21 j
      have A22 : ∀ j, 0 ≤ τ_42.2.1 22 j ∧ τ_42.2.1 22 j ≤ 20000 := fun j => hT.2 22 j
      have A25 : ∀ j, 0 ≤ τ_42.2.1 25 j ∧ τ_42.2.1 25 j ≤ 20000 := fun j => hT.2 25 j
      have A26 : ∀ j, 0 ≤ τ_42.2.1 26 j ∧ τ_42.2.1 26 j ≤ 20000 := fun j => hT.2 26 j
      have v0 : 0 ≤ τ_42.1 0 ∧ τ_42.1 0 ≤ 60000 := hT.1 0
      have v2 : 0 ≤ τ_42.1 2 ∧ τ_42.1 2 ≤ 30000 := hT.1 2
      have v3 : 0 ≤ τ_42.1 3 ∧ τ_42.1 3 ≤ 1000 := hT.1 3
      have v5 : 0 ≤ τ_42.1 5 ∧ τ_42.1 5 ≤ 1500 := hT.1 5
      have v6 : 0 ≤ τ_42.1 6 ∧ τ_42.1 6 ≤ 30000 := hT.1 6
      have v7 : 0 ≤ τ_42.1 7 ∧ τ_42.1 7 ≤ 90000 := hT.1 7
      have v8 : 0 ≤ τ_42.1 8 ∧ τ_42.1 8 ≤ 20000 := hT.1 8
      have v9 : 0 ≤ τ_42.1 9 ∧ τ_42.1 9 ≤ 20000 := hT.1 9
      have v17 : 0 ≤ τ_42.1 17 ∧ τ_42.1 17 ≤ 60000 := hT.1 17
      have v18 : 0 ≤ τ_42.1 18 ∧ τ_42.1 18 ≤ 60000 := hT.1 18
      have v20 : 0 ≤ τ_42.1 20 ∧ τ_42.1 20 ≤ 19 := hT.1 20
      have v22 : 0 ≤ τ_42.1 22 ∧ τ_42.1 22 ≤ 1499 := hT.1 22
      have a14_22 : 0 ≤ τ_42.2.1 14 (τ_42.1 22) ∧ τ_42.2.1 14 (τ_42.1 22) ≤ 30000 := hT.2 14 _
      have a15_22 : 0 ≤ τ_42.2.1 15 (τ_42.1 22) ∧ τ_42.2.1 15 (τ_42.1 22) ≤ 300 := hT.2 15 _
      have a18_22 : 0 ≤ τ_42.2.1 18 (τ_42.1 22) ∧ τ_42.2.1 18 (τ_42.1 22) ≤ 90000 := hT.2 18 _
      have a19_22 : 0 ≤ τ_42.2.1 19 (τ_42.1 22) ∧ τ_42.2.1 19 (τ_42.1 22) ≤ 60 := hT.2 19 _
      have a21_22 : 0 ≤ τ_42.2.1 21 (τ_42.1 22) ∧ τ_42.2.1 21 (τ_42.1 22) ≤ 20000 := hT.2 21 _
      have a22_22 : 0 ≤ τ_42.2.1 22 (τ_42.1 22) ∧ τ_42.2.1 22 (τ_42.1 22) ≤ 20000 := hT.2 22 _
      have a25_22 : 0 ≤ τ_42.2.1 25 (τ_42.1 22) ∧ τ_42.2.1 25 (τ_42.1 22) ≤ 20000 := hT.2 25 _
      have a26_22 : 0 ≤ τ_42.2.1 26 (τ_42.1 22) ∧ τ_42.2.1 26 (τ_42.1 22) ≤ 20000 := hT.2 26 _
      exfalso; (first | omega | (simp only [st_s] <;> omega) | assumption | omega)
    | succ m_42 ih_42 =>
      intro u1_42 τ_42 hm_42 hT ag W0 W3 W5 W6 W7 W8 W9 W17 W18 G6 i42_1 i42_2 i42_3 i42_4 i42_5 i42_6 i42_7 i42_8 i42_9
      have A6 : ∀ j, (-1) ≤ τ_42.2.1 6 j ∧ τ_42.2.1 6 j ≤ 999 := fun j => hT.2 6 j
      have A7 : ∀ j, (-1) ≤ τ_42.2.1 7 j ∧ τ_42.2.1 7 j ≤ 1499 := fun j => hT.2 7 j
      have A14 : ∀ j, 0 ≤ τ_42.2.1 14 j ∧ τ_42.2.1 14 j ≤ 30000 := fun j => hT.2 14 j
      have A15 : ∀ j, 0 ≤ τ_42.2.1 15 j ∧ τ_42.2.1 15 j ≤ 300 := fun j => hT.2 15 j
      have A18 : ∀ j, 0 ≤ τ_42.2.1 18 j ∧ τ_42.2.1 18 j ≤ 90000 := fun j => hT.2 18 j
      have A19 : ∀ j, 0 ≤ τ_42.2.1 19 j ∧ τ_42.2.1 19 j ≤ 60 := fun j => hT.2 19 j
      have A21 : ∀ j, 0 ≤ τ_42.2.1 21 j ∧ τ_42.2.1 21 j ≤ 20000 := fun j => hT.2 21 j
      have A22 : ∀ j, 0 ≤ τ_42.2.1 22 j ∧ τ_42.2.1 22 j ≤ 20000 := fun j => hT.2 22 j
      have A25 : ∀ j, 0 ≤ τ_42.2.1 25 j ∧ τ_42.2.1 25 j ≤ 20000 := fun j => hT.2 25 j
      have A26 : ∀ j, 0 ≤ τ_42.2.1 26 j ∧ τ_42.2.1 26 j ≤ 20000 := fun j => hT.2 26 j
      have v0 : 0 ≤ τ_42.1 0 ∧ τ_42.1 0 ≤ 60000 := hT.1 0
      have v2 : 0 ≤ τ_42.1 2 ∧ τ_42.1 2 ≤ 30000 := hT.1 2
      have v3 : 0 ≤ τ_42.1 3 ∧ τ_42.1 3 ≤ 1000 := hT.1 3
      have v5 : 0 ≤ τ_42.1 5 ∧ τ_42.1 5 ≤ 1500 := hT.1 5
      have v6 : 0 ≤ τ_42.1 6 ∧ τ_42.1 6 ≤ 30000 := hT.1 6
      have v7 : 0 ≤ τ_42.1 7 ∧ τ_42.1 7 ≤ 90000 := hT.1 7
      have v8 : 0 ≤ τ_42.1 8 ∧ τ_42.1 8 ≤ 20000 := hT.1 8
      have v9 : 0 ≤ τ_42.1 9 ∧ τ_42.1 9 ≤ 20000 := hT.1 9
      have v17 : 0 ≤ τ_42.1 17 ∧ τ_42.1 17 ≤ 60000 := hT.1 17
      have v18 : 0 ≤ τ_42.1 18 ∧ τ_42.1 18 ≤ 60000 := hT.1 18
      have v20 : 0 ≤ τ_42.1 20 ∧ τ_42.1 20 ≤ 19 := hT.1 20
      have v22 : 0 ≤ τ_42.1 22 ∧ τ_42.1 22 ≤ 1499 := hT.1 22
      have a14_22 : 0 ≤ τ_42.2.1 14 (τ_42.1 22) ∧ τ_42.2.1 14 (τ_42.1 22) ≤ 30000 := hT.2 14 _
      have a15_22 : 0 ≤ τ_42.2.1 15 (τ_42.1 22) ∧ τ_42.2.1 15 (τ_42.1 22) ≤ 300 := hT.2 15 _
      have a18_22 : 0 ≤ τ_42.2.1 18 (τ_42.1 22) ∧ τ_42.2.1 18 (τ_42.1 22) ≤ 90000 := hT.2 18 _
      have a19_22 : 0 ≤ τ_42.2.1 19 (τ_42.1 22) ∧ τ_42.2.1 19 (τ_42.1 22) ≤ 60 := hT.2 19 _
      have a21_22 : 0 ≤ τ_42.2.1 21 (τ_42.1 22) ∧ τ_42.2.1 21 (τ_42.1 22) ≤ 20000 := hT.2 21 _
      have a22_22 : 0 ≤ τ_42.2.1 22 (τ_42.1 22) ∧ τ_42.2.1 22 (τ_42.1 22) ≤ 20000 := hT.2 22 _
      have a25_22 : 0 ≤ τ_42.2.1 25 (τ_42.1 22) ∧ τ_42.2.1 25 (τ_42.1 22) ≤ 20000 := hT.2 25 _
      have a26_22 : 0 ≤ τ_42.2.1 26 (τ_42.1 22) ∧ τ_42.2.1 26 (τ_42.1 22) ≤ 20000 := hT.2 26 _
      have o6_τ_42 := congrArg oc G6
      have PA : J_pa (τ_42.2.1 21) (τ_42.2.1 22) := i42_9
      refine h42 u1_42 τ_42 ?_
      refine ⟨fun c8 => ?_, fun c8 => ?_⟩
      ·
        refine ⟨_, K_X13_findLabel_q1 hT (show 0 ≤ (τ_42.1 17) from by (first | omega | (simp only [st_s] <;> omega) | assumption | omega)) (show (τ_42.1 17) + (τ_42.1 18) ≤ 60000 from by (first | omega | (simp only [st_s] <;> omega) | assumption | omega)) (show oc (τ_42.2.1 7) < 4096 from by (first | omega | (simp only [st_s] <;> omega) | assumption | omega)), ?_⟩
        intro x10 r_x10 hq
        have q9_1 := hq
        replace q9_1 : -1 ≤ x10 ∧ x10 ≤ 1499 := q9_1
        refine ⟨fun c12 => ?_, fun c12 => ?_⟩
        ·
          refine h108 _ ?_
          refine ⟨_, K_X13_failHere hT (show 0 ≤ 7 from by (first | omega | (simp only [st_s] <;> omega) | assumption | omega)) (show 7 ≤ 19 from by (first | omega | (simp only [st_s] <;> omega) | assumption | omega)), ?_⟩
          intro τ37 hn_τ37 hf_τ37 hq
          obtain ⟨hT, q35_1, q35_2⟩ := hq
          replace q35_1 : ¬ (τ_42.1 20) = 0 → (τ37.1 20) = (τ_42.1 20) := q35_1
          replace q35_2 : (τ_42.1 20) = 0 → (τ37.1 20) = 7 := q35_2
          replace ag : m_ag σ τ37 := ag_r ag hf_τ37 rfl rfl
          have w0_τ37 : τ37.1 0 = τ_42.1 0 := hf_τ37.1 0 (by decide)
          have w2_τ37 : τ37.1 2 = τ_42.1 2 := hf_τ37.1 2 (by decide)
          have w3_τ37 : τ37.1 3 = τ_42.1 3 := hf_τ37.1 3 (by decide)
          have w5_τ37 : τ37.1 5 = τ_42.1 5 := hf_τ37.1 5 (by decide)
          have w6_τ37 : τ37.1 6 = τ_42.1 6 := hf_τ37.1 6 (by decide)
          have w7_τ37 : τ37.1 7 = τ_42.1 7 := hf_τ37.1 7 (by decide)
          have w8_τ37 : τ37.1 8 = τ_42.1 8 := hf_τ37.1 8 (by decide)
          have w9_τ37 : τ37.1 9 = τ_42.1 9 := hf_τ37.1 9 (by decide)
          have w17_τ37 : τ37.1 17 = τ_42.1 17 := hf_τ37.1 17 (by decide)
          have w18_τ37 : τ37.1 18 = τ_42.1 18 := hf_τ37.1 18 (by decide)
          have w22_τ37 : τ37.1 22 = τ_42.1 22 := hf_τ37.1 22 (by decide)
          have g6_τ37 : τ37.2.1 6 = τ_42.2.1 6 := hf_τ37.2.1 6 (by decide)
          have g7_τ37 : τ37.2.1 7 = τ_42.2.1 7 := hf_τ37.2.1 7 (by decide)
          have g14_τ37 : τ37.2.1 14 = τ_42.2.1 14 := hf_τ37.2.1 14 (by decide)
          have g15_τ37 : τ37.2.1 15 = τ_42.2.1 15 := hf_τ37.2.1 15 (by decide)
          have g18_τ37 : τ37.2.1 18 = τ_42.2.1 18 := hf_τ37.2.1 18 (by decide)
          have g19_τ37 : τ37.2.1 19 = τ_42.2.1 19 := hf_τ37.2.1 19 (by decide)
          have g21_τ37 : τ37.2.1 21 = τ_42.2.1 21 := hf_τ37.2.1 21 (by decide)
          have g22_τ37 : τ37.2.1 22 = τ_42.2.1 22 := hf_τ37.2.1 22 (by decide)
          have g25_τ37 : τ37.2.1 25 = τ_42.2.1 25 := hf_τ37.2.1 25 (by decide)
          have g26_τ37 : τ37.2.1 26 = τ_42.2.1 26 := hf_τ37.2.1 26 (by decide)
          first | (have o6_τ37 := congrArg oc g6_τ37) | skip
          first | (have o7_τ37 := congrArg oc g7_τ37) | skip
          have W0 : τ37.1 0 = σ.1 0 := by omega
          have W3 : τ37.1 3 = σ.1 3 := by omega
          have W5 : τ37.1 5 = σ.1 5 := by omega
          have W6 : τ37.1 6 = σ.1 6 := by omega
          have W7 : τ37.1 7 = σ.1 7 := by omega
          have W8 : τ37.1 8 = σ.1 8 := by omega
          have W9 : τ37.1 9 = σ.1 9 := by omega
          have W17 : τ37.1 17 = σ.1 17 := by omega
          have W18 : τ37.1 18 = σ.1 18 := by omega
          have G6 : τ37.2.1 6 = σ.2.1 6 := (g6_τ37).trans G6
          have y14_22_τ37 : τ37.2.1 14 (τ37.1 22) = (τ_42.2.1 14) (τ_42.1 22) := by rw [g14_τ37, w22_τ37]
          have y15_22_τ37 : τ37.2.1 15 (τ37.1 22) = (τ_42.2.1 15) (τ_42.1 22) := by rw [g15_τ37, w22_τ37]
          have y18_22_τ37 : τ37.2.1 18 (τ37.1 22) = (τ_42.2.1 18) (τ_42.1 22) := by rw [g18_τ37, w22_τ37]
          have y19_22_τ37 : τ37.2.1 19 (τ37.1 22) = (τ_42.2.1 19) (τ_42.1 22) := by rw [g19_τ37, w22_τ37]
          have y21_22_τ37 : τ37.2.1 21 (τ37.1 22) = (τ_42.2.1 21) (τ_42.1 22) := by rw [g21_τ37, w22_τ37]
          have y22_22_τ37 : τ37.2.1 22 (τ37.1 22) = (τ_42.2.1 22) (τ_42.1 22) := by rw [g22_τ37, w22_τ37]
          have y25_22_τ37 : τ37.2.1 25 (τ37.1 22) = (τ_42.2.1 25) (τ_42.1 22) := by rw [g25_τ37, w22_τ37]
          have y26_22_τ37 : τ37.2.1 26 (τ37.1 22) = (τ_42.2.1 26) (τ_42.1 22) := by rw [g26_τ37, w22_τ37]
          have PA : J_pa (τ37.2.1 21) (τ37.2.1 22) := by rw [show (J_pa (τ37.2.1 21) (τ37.2.1 22)) = (J_pa (τ_42.2.1 21) (τ_42.2.1 22)) from by rw [g21_τ37, g22_τ37]]; exact PA
          have A6 : ∀ j, (-1) ≤ τ37.2.1 6 j ∧ τ37.2.1 6 j ≤ 999 := fun j => hT.2 6 j
          have A7 : ∀ j, (-1) ≤ τ37.2.1 7 j ∧ τ37.2.1 7 j ≤ 1499 := fun j => hT.2 7 j
          have A14 : ∀ j, 0 ≤ τ37.2.1 14 j ∧ τ37.2.1 14 j ≤ 30000 := fun j => hT.2 14 j
          have A15 : ∀ j, 0 ≤ τ37.2.1 15 j ∧ τ37.2.1 15 j ≤ 300 := fun j => hT.2 15 j
          have A18 : ∀ j, 0 ≤ τ37.2.1 18 j ∧ τ37.2.1 18 j ≤ 90000 := fun j => hT.2 18 j
          have A19 : ∀ j, 0 ≤ τ37.2.1 19 j ∧ τ37.2.1 19 j ≤ 60 := fun j => hT.2 19 j
          have A21 : ∀ j, 0 ≤ τ37.2.1 21 j ∧ τ37.2.1 21 j ≤ 20000 := fun j => hT.2 21 j
          have A22 : ∀ j, 0 ≤ τ37.2.1 22 j ∧ τ37.2.1 22 j ≤ 20000 := fun j => hT.2 22 j
          have A25 : ∀ j, 0 ≤ τ37.2.1 25 j ∧ τ37.2.1 25 j ≤ 20000 := fun j => hT.2 25 j
          have A26 : ∀ j, 0 ≤ τ37.2.1 26 j ∧ τ37.2.1 26 j ≤ 20000 := fun j => hT.2 26 j
          have v0 : 0 ≤ τ37.1 0 ∧ τ37.1 0 ≤ 60000 := hT.1 0
          have v2 : 0 ≤ τ37.1 2 ∧ τ37.1 2 ≤ 30000 := hT.1 2
          have v3 : 0 ≤ τ37.1 3 ∧ τ37.1 3 ≤ 1000 := hT.1 3
          have v5 : 0 ≤ τ37.1 5 ∧ τ37.1 5 ≤ 1500 := hT.1 5
          have v6 : 0 ≤ τ37.1 6 ∧ τ37.1 6 ≤ 30000 := hT.1 6
          have v7 : 0 ≤ τ37.1 7 ∧ τ37.1 7 ≤ 90000 := hT.1 7
          have v8 : 0 ≤ τ37.1 8 ∧ τ37.1 8 ≤ 20000 := hT.1 8
          have v9 : 0 ≤ τ37.1 9 ∧ τ37.1 9 ≤ 20000 := hT.1 9
          have v17 : 0 ≤ τ37.1 17 ∧ τ37.1 17 ≤ 60000 := hT.1 17
          have v18 : 0 ≤ τ37.1 18 ∧ τ37.1 18 ≤ 60000 := hT.1 18
          have v20 : 0 ≤ τ37.1 20 ∧ τ37.1 20 ≤ 19 := hT.1 20
          have v22 : 0 ≤ τ37.1 22 ∧ τ37.1 22 ≤ 1499 := hT.1 22
          have a14_22 : 0 ≤ τ37.2.1 14 (τ37.1 22) ∧ τ37.2.1 14 (τ37.1 22) ≤ 30000 := hT.2 14 _
          have a15_22 : 0 ≤ τ37.2.1 15 (τ37.1 22) ∧ τ37.2.1 15 (τ37.1 22) ≤ 300 := hT.2 15 _
          have a18_22 : 0 ≤ τ37.2.1 18 (τ37.1 22) ∧ τ37.2.1 18 (τ37.1 22) ≤ 90000 := hT.2 18 _
          have a19_22 : 0 ≤ τ37.2.1 19 (τ37.1 22) ∧ τ37.2.1 19 (τ37.1 22) ≤ 60 := hT.2 19 _
          have a21_22 : 0 ≤ τ37.2.1 21 (τ37.1 22) ∧ τ37.2.1 21 (τ37.1 22) ≤ 20000 := hT.2 21 _
          have a22_22 : 0 ≤ τ37.2.1 22 (τ37.1 22) ∧ τ37.2.1 22 (τ37.1 22) ≤ 20000 := hT.2 22 _
          have a25_22 : 0 ≤ τ37.2.1 25 (τ37.1 22) ∧ τ37.2.1 25 (τ37.1 22) ≤ 20000 := hT.2 25 _
          have a26_22 : 0 ≤ τ37.2.1 26 (τ37.1 22) ∧ τ37.2.1 26 (τ37.1 22) ≤ 20000 := hT.2 26 _
          exact ⟨hT, (show (τ37.1 20) = 0 → (τ37.1 22) = (σ.1 5) ∧ τ37.2.1 15 (τ37.1 22) = 0 ∧ τ37.2.1 19 (τ37.1 22) = 0 ∧ τ37.2.1 22 (τ37.1 22) = 0 ∧ τ37.2.1 26 (τ37.1 22) = 0 ∧ (σ.1 5) < 1500 from by (first | omega | (simp only [st_s] <;> omega) | assumption | omega)), (show (τ37.1 20) = 0 → τ37.2.1 14 (τ37.1 22) = (σ.1 6) ∧ τ37.2.1 18 (τ37.1 22) = (σ.1 7) ∧ τ37.2.1 21 (τ37.1 22) = (σ.1 8) ∧ τ37.2.1 25 (τ37.1 22) = (σ.1 9) from by (first | omega | (simp only [st_s] <;> omega) | assumption | omega)), (show oc (τ37.2.1 7) ≤ (σ.1 5) + 1 from by (first | omega | (simp only [st_s] <;> omega) | assumption | omega)), (show ¬ (σ.1 20) = 0 → (τ37.1 20) = (σ.1 20) from by (first | omega | (simp only [st_s] <;> omega) | assumption | omega)), (show J_pa (τ37.2.1 21) (τ37.2.1 22) from PA), ag⟩
        ·
          refine ⟨_, K_X13_symbolHere hT (show (τ_42.1 17) + (τ_42.1 18) ≤ 60000 from by (first | omega | (simp only [st_s] <;> omega) | assumption | omega)) (show oc (τ_42.2.1 6) < 4096 from by (first | omega | (simp only [st_s] <;> omega) | assumption | omega)), ?_⟩
          intro x14 r_x14 hq
          obtain ⟨q13_1, q13_2⟩ := hq
          replace q13_1 : -1 ≤ x14 ∧ x14 ≤ 999 := q13_1
          replace q13_2 : x14 = -1 ∨ ∃ e : Int, (0 ≤ e ∧ e < 4096) ∧ x14 = τ_42.2.1 6 e := q13_2
          refine ⟨fun c16 => ?_, fun c16 => ?_⟩
          ·
            replace ag := ag_v (i := 22) (x := (τ_42.1 5)) ag (Or.inl rfl)
            replace hT := mT_v (i := 22) hT (show 0 ≤ (τ_42.1 5) ∧ (τ_42.1 5) ≤ 1499 from by (first | omega | (simp only [st_s] <;> omega) | assumption | omega))
            refine ⟨(show 0 ≤ τ_42.1 5 ∧ τ_42.1 5 < 1501 from by (first | omega | (simp only [st_s] <;> omega) | assumption | omega)), ?_⟩
            replace ag := ag_w (k := 4) (x := (τ_42.1 2)) 5 0 ag rfl (show σ.1 5 + 0 ≤ (τ_42.1 5) from by (first | omega | (simp only [st_s] <;> omega) | assumption | omega))
            replace hT := mT_a (k := 4) (j := (τ_42.1 5)) hT (show (0 : Int) ≤ (τ_42.1 2) ∧ (τ_42.1 2) ≤ 30000 from by (first | omega | (simp only [st_s] <;> omega) | assumption | omega))
            replace ag := ag_w (k := 5) (x := (τ_42.1 18)) 5 0 ag rfl (show σ.1 5 + 0 ≤ (τ_42.1 5) from by (first | omega | (simp only [st_s] <;> omega) | assumption | omega))
            replace hT := mT_a (k := 5) (j := (τ_42.1 5)) hT (show (0 : Int) ≤ (τ_42.1 18) ∧ (τ_42.1 18) ≤ 60 from by (first | omega | (simp only [st_s] <;> omega) | assumption | omega))
            refine ⟨_, K_X13_keepChars hT (show 0 ≤ (τ_42.1 17) from by (first | omega | (simp only [st_s] <;> omega) | assumption | omega)) (show 0 ≤ (τ_42.1 18) from by (first | omega | (simp only [st_s] <;> omega) | assumption | omega)) (show (τ_42.1 17) + (τ_42.1 18) ≤ 60000 from by (first | omega | (simp only [st_s] <;> omega) | assumption | omega)) (show (τ_42.1 2) + (τ_42.1 18) ≤ 30000 from by (first | omega | (simp only [st_s] <;> omega) | assumption | omega)), ?_⟩
            intro τ20 hn_τ20 hf_τ20 hq
            obtain ⟨hT, q18_1⟩ := hq
            replace q18_1 : (τ20.1 2) = (τ_42.1 2) + (τ_42.1 18) := q18_1
            replace ag : m_ag σ τ20 := ag_r ag hf_τ20 rfl rfl
            have w0_τ20 : τ20.1 0 = τ_42.1 0 := hf_τ20.1 0 (by decide)
            have w3_τ20 : τ20.1 3 = τ_42.1 3 := hf_τ20.1 3 (by decide)
            have w5_τ20 : τ20.1 5 = τ_42.1 5 := hf_τ20.1 5 (by decide)
            have w6_τ20 : τ20.1 6 = τ_42.1 6 := hf_τ20.1 6 (by decide)
            have w7_τ20 : τ20.1 7 = τ_42.1 7 := hf_τ20.1 7 (by decide)
            have w8_τ20 : τ20.1 8 = τ_42.1 8 := hf_τ20.1 8 (by decide)
            have w9_τ20 : τ20.1 9 = τ_42.1 9 := hf_τ20.1 9 (by decide)
            have w17_τ20 : τ20.1 17 = τ_42.1 17 := hf_τ20.1 17 (by decide)
            have w18_τ20 : τ20.1 18 = τ_42.1 18 := hf_τ20.1 18 (by decide)
            have w20_τ20 : τ20.1 20 = τ_42.1 20 := hf_τ20.1 20 (by decide)
            have w22_τ20 : τ20.1 22 = τ_42.1 5 := hf_τ20.1 22 (by decide)
            have g6_τ20 : τ20.2.1 6 = τ_42.2.1 6 := hf_τ20.2.1 6 (by decide)
            have g7_τ20 : τ20.2.1 7 = τ_42.2.1 7 := hf_τ20.2.1 7 (by decide)
            have g14_τ20 : τ20.2.1 14 = τ_42.2.1 14 := hf_τ20.2.1 14 (by decide)
            have g15_τ20 : τ20.2.1 15 = τ_42.2.1 15 := hf_τ20.2.1 15 (by decide)
            have g18_τ20 : τ20.2.1 18 = τ_42.2.1 18 := hf_τ20.2.1 18 (by decide)
            have g19_τ20 : τ20.2.1 19 = τ_42.2.1 19 := hf_τ20.2.1 19 (by decide)
            have g21_τ20 : τ20.2.1 21 = τ_42.2.1 21 := hf_τ20.2.1 21 (by decide)
            have g22_τ20 : τ20.2.1 22 = τ_42.2.1 22 := hf_τ20.2.1 22 (by decide)
            have g25_τ20 : τ20.2.1 25 = τ_42.2.1 25 := hf_τ20.2.1 25 (by decide)
            have g26_τ20 : τ20.2.1 26 = τ_42.2.1 26 := hf_τ20.2.1 26 (by decide)
            first | (have o6_τ20 := congrArg oc g6_τ20) | skip
            first | (have o7_τ20 := congrArg oc g7_τ20) | skip
            have W0 : τ20.1 0 = σ.1 0 := by omega
            have W3 : τ20.1 3 = σ.1 3 := by omega
            have W5 : τ20.1 5 = σ.1 5 := by omega
            have W6 : τ20.1 6 = σ.1 6 := by omega
            have W7 : τ20.1 7 = σ.1 7 := by omega
            have W8 : τ20.1 8 = σ.1 8 := by omega
            have W9 : τ20.1 9 = σ.1 9 := by omega
            have W17 : τ20.1 17 = σ.1 17 := by omega
            have W18 : τ20.1 18 = σ.1 18 := by omega
            have G6 : τ20.2.1 6 = σ.2.1 6 := (g6_τ20).trans G6
            have y14_22_τ20 : τ20.2.1 14 (τ20.1 22) = (τ_42.2.1 14) (τ_42.1 5) := by rw [g14_τ20, w22_τ20]
            have y15_22_τ20 : τ20.2.1 15 (τ20.1 22) = (τ_42.2.1 15) (τ_42.1 5) := by rw [g15_τ20, w22_τ20]
            have y18_22_τ20 : τ20.2.1 18 (τ20.1 22) = (τ_42.2.1 18) (τ_42.1 5) := by rw [g18_τ20, w22_τ20]
            have y19_22_τ20 : τ20.2.1 19 (τ20.1 22) = (τ_42.2.1 19) (τ_42.1 5) := by rw [g19_τ20, w22_τ20]
            have y21_22_τ20 : τ20.2.1 21 (τ20.1 22) = (τ_42.2.1 21) (τ_42.1 5) := by rw [g21_τ20, w22_τ20]
            have y22_22_τ20 : τ20.2.1 22 (τ20.1 22) = (τ_42.2.1 22) (τ_42.1 5) := by rw [g22_τ20, w22_τ20]
            have y25_22_τ20 : τ20.2.1 25 (τ20.1 22) = (τ_42.2.1 25) (τ_42.1 5) := by rw [g25_τ20, w22_τ20]
            have y26_22_τ20 : τ20.2.1 26 (τ20.1 22) = (τ_42.2.1 26) (τ_42.1 5) := by rw [g26_τ20, w22_τ20]
            have PA : J_pa (τ20.2.1 21) (τ20.2.1 22) := by rw [show (J_pa (τ20.2.1 21) (τ20.2.1 22)) = (J_pa (τ_42.2.1 21) (τ_42.2.1 22)) from by rw [g21_τ20, g22_τ20]]; exact PA
            have A6 : ∀ j, (-1) ≤ τ20.2.1 6 j ∧ τ20.2.1 6 j ≤ 999 := fun j => hT.2 6 j
            have A7 : ∀ j, (-1) ≤ τ20.2.1 7 j ∧ τ20.2.1 7 j ≤ 1499 := fun j => hT.2 7 j
            have A14 : ∀ j, 0 ≤ τ20.2.1 14 j ∧ τ20.2.1 14 j ≤ 30000 := fun j => hT.2 14 j
            have A15 : ∀ j, 0 ≤ τ20.2.1 15 j ∧ τ20.2.1 15 j ≤ 300 := fun j => hT.2 15 j
            have A18 : ∀ j, 0 ≤ τ20.2.1 18 j ∧ τ20.2.1 18 j ≤ 90000 := fun j => hT.2 18 j
            have A19 : ∀ j, 0 ≤ τ20.2.1 19 j ∧ τ20.2.1 19 j ≤ 60 := fun j => hT.2 19 j
            have A21 : ∀ j, 0 ≤ τ20.2.1 21 j ∧ τ20.2.1 21 j ≤ 20000 := fun j => hT.2 21 j
            have A22 : ∀ j, 0 ≤ τ20.2.1 22 j ∧ τ20.2.1 22 j ≤ 20000 := fun j => hT.2 22 j
            have A25 : ∀ j, 0 ≤ τ20.2.1 25 j ∧ τ20.2.1 25 j ≤ 20000 := fun j => hT.2 25 j
            have A26 : ∀ j, 0 ≤ τ20.2.1 26 j ∧ τ20.2.1 26 j ≤ 20000 := fun j => hT.2 26 j
            have v0 : 0 ≤ τ20.1 0 ∧ τ20.1 0 ≤ 60000 := hT.1 0
            have v2 : 0 ≤ τ20.1 2 ∧ τ20.1 2 ≤ 30000 := hT.1 2
            have v3 : 0 ≤ τ20.1 3 ∧ τ20.1 3 ≤ 1000 := hT.1 3
            have v5 : 0 ≤ τ20.1 5 ∧ τ20.1 5 ≤ 1500 := hT.1 5
            have v6 : 0 ≤ τ20.1 6 ∧ τ20.1 6 ≤ 30000 := hT.1 6
            have v7 : 0 ≤ τ20.1 7 ∧ τ20.1 7 ≤ 90000 := hT.1 7
            have v8 : 0 ≤ τ20.1 8 ∧ τ20.1 8 ≤ 20000 := hT.1 8
            have v9 : 0 ≤ τ20.1 9 ∧ τ20.1 9 ≤ 20000 := hT.1 9
            have v17 : 0 ≤ τ20.1 17 ∧ τ20.1 17 ≤ 60000 := hT.1 17
            have v18 : 0 ≤ τ20.1 18 ∧ τ20.1 18 ≤ 60000 := hT.1 18
            have v20 : 0 ≤ τ20.1 20 ∧ τ20.1 20 ≤ 19 := hT.1 20
            have v22 : 0 ≤ τ20.1 22 ∧ τ20.1 22 ≤ 1499 := hT.1 22
            have a14_22 : 0 ≤ τ20.2.1 14 (τ20.1 22) ∧ τ20.2.1 14 (τ20.1 22) ≤ 30000 := hT.2 14 _
            have a15_22 : 0 ≤ τ20.2.1 15 (τ20.1 22) ∧ τ20.2.1 15 (τ20.1 22) ≤ 300 := hT.2 15 _
            have a18_22 : 0 ≤ τ20.2.1 18 (τ20.1 22) ∧ τ20.2.1 18 (τ20.1 22) ≤ 90000 := hT.2 18 _
            have a19_22 : 0 ≤ τ20.2.1 19 (τ20.1 22) ∧ τ20.2.1 19 (τ20.1 22) ≤ 60 := hT.2 19 _
            have a21_22 : 0 ≤ τ20.2.1 21 (τ20.1 22) ∧ τ20.2.1 21 (τ20.1 22) ≤ 20000 := hT.2 21 _
            have a22_22 : 0 ≤ τ20.2.1 22 (τ20.1 22) ∧ τ20.2.1 22 (τ20.1 22) ≤ 20000 := hT.2 22 _
            have a25_22 : 0 ≤ τ20.2.1 25 (τ20.1 22) ∧ τ20.2.1 25 (τ20.1 22) ≤ 20000 := hT.2 25 _
            have a26_22 : 0 ≤ τ20.2.1 26 (τ20.1 22) ∧ τ20.2.1 26 (τ20.1 22) ≤ 20000 := hT.2 26 _
            refine ⟨_, K_X13_keepLabel hT (show 0 ≤ (τ20.1 22) from by (first | omega | (simp only [st_s] <;> omega) | assumption | omega)) (show (τ20.1 22) < 1500 from by (first | omega | (simp only [st_s] <;> omega) | assumption | omega)) (show oc (τ20.2.1 7) < 4096 from by (first | omega | (simp only [st_s] <;> omega) | assumption | omega)), ?_⟩
            intro τ23 hn_τ23 hf_τ23 hq
            obtain ⟨hT, q21_1, q21_2⟩ := hq
            replace q21_1 : oc (τ23.2.1 7) ≤ oc (τ20.2.1 7) + 1 := q21_1
            replace q21_2 : ∃ e : Int, τ23.2.1 7 = st (τ20.2.1 7) e (τ20.1 22) := q21_2
            replace ag : m_ag σ τ23 := ag_r ag hf_τ23 rfl rfl
            have w0_τ23 : τ23.1 0 = τ20.1 0 := hf_τ23.1 0 (by decide)
            have w2_τ23 : τ23.1 2 = τ20.1 2 := hf_τ23.1 2 (by decide)
            have w3_τ23 : τ23.1 3 = τ20.1 3 := hf_τ23.1 3 (by decide)
            have w5_τ23 : τ23.1 5 = τ20.1 5 := hf_τ23.1 5 (by decide)
            have w6_τ23 : τ23.1 6 = τ20.1 6 := hf_τ23.1 6 (by decide)
            have w7_τ23 : τ23.1 7 = τ20.1 7 := hf_τ23.1 7 (by decide)
            have w8_τ23 : τ23.1 8 = τ20.1 8 := hf_τ23.1 8 (by decide)
            have w9_τ23 : τ23.1 9 = τ20.1 9 := hf_τ23.1 9 (by decide)
            have w17_τ23 : τ23.1 17 = τ20.1 17 := hf_τ23.1 17 (by decide)
            have w18_τ23 : τ23.1 18 = τ20.1 18 := hf_τ23.1 18 (by decide)
            have w20_τ23 : τ23.1 20 = τ20.1 20 := hf_τ23.1 20 (by decide)
            have w22_τ23 : τ23.1 22 = τ20.1 22 := hf_τ23.1 22 (by decide)
            have g6_τ23 : τ23.2.1 6 = τ20.2.1 6 := hf_τ23.2.1 6 (by decide)
            have g14_τ23 : τ23.2.1 14 = τ20.2.1 14 := hf_τ23.2.1 14 (by decide)
            have g15_τ23 : τ23.2.1 15 = τ20.2.1 15 := hf_τ23.2.1 15 (by decide)
            have g18_τ23 : τ23.2.1 18 = τ20.2.1 18 := hf_τ23.2.1 18 (by decide)
            have g19_τ23 : τ23.2.1 19 = τ20.2.1 19 := hf_τ23.2.1 19 (by decide)
            have g21_τ23 : τ23.2.1 21 = τ20.2.1 21 := hf_τ23.2.1 21 (by decide)
            have g22_τ23 : τ23.2.1 22 = τ20.2.1 22 := hf_τ23.2.1 22 (by decide)
            have g25_τ23 : τ23.2.1 25 = τ20.2.1 25 := hf_τ23.2.1 25 (by decide)
            have g26_τ23 : τ23.2.1 26 = τ20.2.1 26 := hf_τ23.2.1 26 (by decide)
            first | (have o6_τ23 := congrArg oc g6_τ23) | skip
            first | (have o7_τ23 := congrArg oc g7_τ23) | skip
            have W0 : τ23.1 0 = σ.1 0 := by omega
            have W3 : τ23.1 3 = σ.1 3 := by omega
            have W5 : τ23.1 5 = σ.1 5 := by omega
            have W6 : τ23.1 6 = σ.1 6 := by omega
            have W7 : τ23.1 7 = σ.1 7 := by omega
            have W8 : τ23.1 8 = σ.1 8 := by omega
            have W9 : τ23.1 9 = σ.1 9 := by omega
            have W17 : τ23.1 17 = σ.1 17 := by omega
            have W18 : τ23.1 18 = σ.1 18 := by omega
            have G6 : τ23.2.1 6 = σ.2.1 6 := (g6_τ23).trans G6
            have y14_22_τ23 : τ23.2.1 14 (τ23.1 22) = (τ20.2.1 14) (τ20.1 22) := by rw [g14_τ23, w22_τ23]
            have y15_22_τ23 : τ23.2.1 15 (τ23.1 22) = (τ20.2.1 15) (τ20.1 22) := by rw [g15_τ23, w22_τ23]
            have y18_22_τ23 : τ23.2.1 18 (τ23.1 22) = (τ20.2.1 18) (τ20.1 22) := by rw [g18_τ23, w22_τ23]
            have y19_22_τ23 : τ23.2.1 19 (τ23.1 22) = (τ20.2.1 19) (τ20.1 22) := by rw [g19_τ23, w22_τ23]
            have y21_22_τ23 : τ23.2.1 21 (τ23.1 22) = (τ20.2.1 21) (τ20.1 22) := by rw [g21_τ23, w22_τ23]
            have y22_22_τ23 : τ23.2.1 22 (τ23.1 22) = (τ20.2.1 22) (τ20.1 22) := by rw [g22_τ23, w22_τ23]
            have y25_22_τ23 : τ23.2.1 25 (τ23.1 22) = (τ20.2.1 25) (τ20.1 22) := by rw [g25_τ23, w22_τ23]
            have y26_22_τ23 : τ23.2.1 26 (τ23.1 22) = (τ20.2.1 26) (τ20.1 22) := by rw [g26_τ23, w22_τ23]
            have PA : J_pa (τ23.2.1 21) (τ23.2.1 22) := by rw [show (J_pa (τ23.2.1 21) (τ23.2.1 22)) = (J_pa (τ20.2.1 21) (τ20.2.1 22)) from by rw [g21_τ23, g22_τ23]]; exact PA
            have A6 : ∀ j, (-1) ≤ τ23.2.1 6 j ∧ τ23.2.1 6 j ≤ 999 := fun j => hT.2 6 j
            have A7 : ∀ j, (-1) ≤ τ23.2.1 7 j ∧ τ23.2.1 7 j ≤ 1499 := fun j => hT.2 7 j
            have A14 : ∀ j, 0 ≤ τ23.2.1 14 j ∧ τ23.2.1 14 j ≤ 30000 := fun j => hT.2 14 j
            have A15 : ∀ j, 0 ≤ τ23.2.1 15 j ∧ τ23.2.1 15 j ≤ 300 := fun j => hT.2 15 j
            have A18 : ∀ j, 0 ≤ τ23.2.1 18 j ∧ τ23.2.1 18 j ≤ 90000 := fun j => hT.2 18 j
            have A19 : ∀ j, 0 ≤ τ23.2.1 19 j ∧ τ23.2.1 19 j ≤ 60 := fun j => hT.2 19 j
            have A21 : ∀ j, 0 ≤ τ23.2.1 21 j ∧ τ23.2.1 21 j ≤ 20000 := fun j => hT.2 21 j
            have A22 : ∀ j, 0 ≤ τ23.2.1 22 j ∧ τ23.2.1 22 j ≤ 20000 := fun j => hT.2 22 j
            have A25 : ∀ j, 0 ≤ τ23.2.1 25 j ∧ τ23.2.1 25 j ≤ 20000 := fun j => hT.2 25 j
            have A26 : ∀ j, 0 ≤ τ23.2.1 26 j ∧ τ23.2.1 26 j ≤ 20000 := fun j => hT.2 26 j
            have v0 : 0 ≤ τ23.1 0 ∧ τ23.1 0 ≤ 60000 := hT.1 0
            have v2 : 0 ≤ τ23.1 2 ∧ τ23.1 2 ≤ 30000 := hT.1 2
            have v3 : 0 ≤ τ23.1 3 ∧ τ23.1 3 ≤ 1000 := hT.1 3
            have v5 : 0 ≤ τ23.1 5 ∧ τ23.1 5 ≤ 1500 := hT.1 5
            have v6 : 0 ≤ τ23.1 6 ∧ τ23.1 6 ≤ 30000 := hT.1 6
            have v7 : 0 ≤ τ23.1 7 ∧ τ23.1 7 ≤ 90000 := hT.1 7
            have v8 : 0 ≤ τ23.1 8 ∧ τ23.1 8 ≤ 20000 := hT.1 8
            have v9 : 0 ≤ τ23.1 9 ∧ τ23.1 9 ≤ 20000 := hT.1 9
            have v17 : 0 ≤ τ23.1 17 ∧ τ23.1 17 ≤ 60000 := hT.1 17
            have v18 : 0 ≤ τ23.1 18 ∧ τ23.1 18 ≤ 60000 := hT.1 18
            have v20 : 0 ≤ τ23.1 20 ∧ τ23.1 20 ≤ 19 := hT.1 20
            have v22 : 0 ≤ τ23.1 22 ∧ τ23.1 22 ≤ 1499 := hT.1 22
            have a14_22 : 0 ≤ τ23.2.1 14 (τ23.1 22) ∧ τ23.2.1 14 (τ23.1 22) ≤ 30000 := hT.2 14 _
            have a15_22 : 0 ≤ τ23.2.1 15 (τ23.1 22) ∧ τ23.2.1 15 (τ23.1 22) ≤ 300 := hT.2 15 _
            have a18_22 : 0 ≤ τ23.2.1 18 (τ23.1 22) ∧ τ23.2.1 18 (τ23.1 22) ≤ 90000 := hT.2 18 _
            have a19_22 : 0 ≤ τ23.2.1 19 (τ23.1 22) ∧ τ23.2.1 19 (τ23.1 22) ≤ 60 := hT.2 19 _
            have a21_22 : 0 ≤ τ23.2.1 21 (τ23.1 22) ∧ τ23.2.1 21 (τ23.1 22) ≤ 20000 := hT.2 21 _
            have a22_22 : 0 ≤ τ23.2.1 22 (τ23.1 22) ∧ τ23.2.1 22 (τ23.1 22) ≤ 20000 := hT.2 22 _
            have a25_22 : 0 ≤ τ23.2.1 25 (τ23.1 22) ∧ τ23.2.1 25 (τ23.1 22) ≤ 20000 := hT.2 25 _
            have a26_22 : 0 ≤ τ23.2.1 26 (τ23.1 22) ∧ τ23.2.1 26 (τ23.1 22) ≤ 20000 := hT.2 26 _
            refine ⟨(show 0 ≤ τ23.1 22 ∧ τ23.1 22 < 1501 from by (first | omega | (simp only [st_s] <;> omega) | assumption | omega)), ?_⟩
            replace ag := ag_w (k := 14) (x := (τ23.1 6)) 5 0 ag rfl (show σ.1 5 + 0 ≤ (τ23.1 22) from by (first | omega | (simp only [st_s] <;> omega) | assumption | omega))
            replace hT := mT_a (k := 14) (j := (τ23.1 22)) hT (show (0 : Int) ≤ (τ23.1 6) ∧ (τ23.1 6) ≤ 30000 from by (first | omega | (simp only [st_s] <;> omega) | assumption | omega))
            replace ag := ag_w (k := 15) (x := 0) 5 0 ag rfl (show σ.1 5 + 0 ≤ (τ23.1 22) from by (first | omega | (simp only [st_s] <;> omega) | assumption | omega))
            replace hT := mT_a (k := 15) (j := (τ23.1 22)) hT (show (0 : Int) ≤ 0 ∧ 0 ≤ 300 from by (first | omega | (simp only [st_s] <;> omega) | assumption | omega))
            replace ag := ag_w (k := 18) (x := (τ23.1 7)) 5 0 ag rfl (show σ.1 5 + 0 ≤ (τ23.1 22) from by (first | omega | (simp only [st_s] <;> omega) | assumption | omega))
            replace hT := mT_a (k := 18) (j := (τ23.1 22)) hT (show (0 : Int) ≤ (τ23.1 7) ∧ (τ23.1 7) ≤ 90000 from by (first | omega | (simp only [st_s] <;> omega) | assumption | omega))
            replace ag := ag_w (k := 19) (x := 0) 5 0 ag rfl (show σ.1 5 + 0 ≤ (τ23.1 22) from by (first | omega | (simp only [st_s] <;> omega) | assumption | omega))
            replace hT := mT_a (k := 19) (j := (τ23.1 22)) hT (show (0 : Int) ≤ 0 ∧ 0 ≤ 60 from by (first | omega | (simp only [st_s] <;> omega) | assumption | omega))
            replace ag := ag_w (k := 21) (x := (τ23.1 8)) 5 0 ag rfl (show σ.1 5 + 0 ≤ (τ23.1 22) from by (first | omega | (simp only [st_s] <;> omega) | assumption | omega))
            replace hT := mT_a (k := 21) (j := (τ23.1 22)) hT (show (0 : Int) ≤ (τ23.1 8) ∧ (τ23.1 8) ≤ 20000 from by (first | omega | (simp only [st_s] <;> omega) | assumption | omega))
            replace ag := ag_w (k := 22) (x := 0) 5 0 ag rfl (show σ.1 5 + 0 ≤ (τ23.1 22) from by (first | omega | (simp only [st_s] <;> omega) | assumption | omega))
            replace hT := mT_a (k := 22) (j := (τ23.1 22)) hT (show (0 : Int) ≤ 0 ∧ 0 ≤ 20000 from by (first | omega | (simp only [st_s] <;> omega) | assumption | omega))
            replace ag := ag_w (k := 25) (x := (τ23.1 9)) 5 0 ag rfl (show σ.1 5 + 0 ≤ (τ23.1 22) from by (first | omega | (simp only [st_s] <;> omega) | assumption | omega))
            replace hT := mT_a (k := 25) (j := (τ23.1 22)) hT (show (0 : Int) ≤ (τ23.1 9) ∧ (τ23.1 9) ≤ 20000 from by (first | omega | (simp only [st_s] <;> omega) | assumption | omega))
            replace ag := ag_w (k := 26) (x := 0) 5 0 ag rfl (show σ.1 5 + 0 ≤ (τ23.1 22) from by (first | omega | (simp only [st_s] <;> omega) | assumption | omega))
            replace hT := mT_a (k := 26) (j := (τ23.1 22)) hT (show (0 : Int) ≤ 0 ∧ 0 ≤ 20000 from by (first | omega | (simp only [st_s] <;> omega) | assumption | omega))
            exact l_263 ((25 - 0 : Int).toNat + 1) _ _ (show (25 - 0 : Int) < (((25 - 0 : Int).toNat + 1 : Nat) : Int) from by ((first | omega | (simp only [st_s] <;> omega) | assumption | omega))) hT ag (show τ23.1 0 = σ.1 0 from by omega) (show τ23.1 3 = σ.1 3 from by omega) (show τ23.1 5 = σ.1 5 from by omega) (show τ23.1 6 = σ.1 6 from by omega) (show τ23.1 7 = σ.1 7 from by omega) (show τ23.1 8 = σ.1 8 from by omega) (show τ23.1 9 = σ.1 9 from by omega) (show τ23.1 17 = σ.1 17 from by omega) (show τ23.1 18 = σ.1 18 from by omega) G6 (show 0 ≤ 0 from by (first | omega | (simp only [st_s] <;> omega) | assumption | omega)) (show (τ23.1 20) = (σ.1 20) from by (first | omega | (simp only [st_s] <;> omega) | assumption | omega)) (show (τ23.1 22) = (σ.1 5) from by (first | omega | (simp only [st_s] <;> omega) | assumption | omega)) (show (σ.1 5) < 1500 from by (first | omega | (simp only [st_s] <;> omega) | assumption | omega)) (show oc (τ23.2.1 7) ≤ (σ.1 5) + 1 from by (first | omega | (simp only [st_s] <;> omega) | assumption | omega)) (show 0 ≤ 24 from by (first | omega | (simp only [st_s] <;> omega) | assumption | omega)) (show (st (τ23.2.1 14) (τ23.1 22) (τ23.1 6)) (τ23.1 22) = (σ.1 6) from by (first | omega | (rw [st_s]; omega) | (exact st_s _ _ _))) (show (st (τ23.2.1 15) (τ23.1 22) 0) (τ23.1 22) = 0 from by (first | omega | (rw [st_s]; omega) | (exact st_s _ _ _))) (show (st (τ23.2.1 18) (τ23.1 22) (τ23.1 7)) (τ23.1 22) = (σ.1 7) from by (first | omega | (rw [st_s]; omega) | (exact st_s _ _ _))) (show (st (τ23.2.1 19) (τ23.1 22) 0) (τ23.1 22) = 0 from by (first | omega | (rw [st_s]; omega) | (exact st_s _ _ _))) (show (st (τ23.2.1 21) (τ23.1 22) (τ23.1 8)) (τ23.1 22) = (σ.1 8) from by (first | omega | (rw [st_s]; omega) | (exact st_s _ _ _))) (show (st (τ23.2.1 22) (τ23.1 22) 0) (τ23.1 22) = 0 from by (first | omega | (rw [st_s]; omega) | (exact st_s _ _ _))) (show (st (τ23.2.1 25) (τ23.1 22) (τ23.1 9)) (τ23.1 22) = (σ.1 9) from by (first | omega | (rw [st_s]; omega) | (exact st_s _ _ _))) (show (st (τ23.2.1 26) (τ23.1 22) 0) (τ23.1 22) = 0 from by (first | omega | (rw [st_s]; omega) | (exact st_s _ _ _))) (show J_pa ((st (τ23.2.1 21) (τ23.1 22) (τ23.1 8))) ((st (τ23.2.1 22) (τ23.1 22) 0)) from by (first | exact J_pa0 PA (by omega) | assumption))
          ·
            refine h108 _ ?_
            refine ⟨_, K_X13_failHere hT (show 0 ≤ 7 from by (first | omega | (simp only [st_s] <;> omega) | assumption | omega)) (show 7 ≤ 19 from by (first | omega | (simp only [st_s] <;> omega) | assumption | omega)), ?_⟩
            intro τ37 hn_τ37 hf_τ37 hq
            obtain ⟨hT, q35_1, q35_2⟩ := hq
            replace q35_1 : ¬ (τ_42.1 20) = 0 → (τ37.1 20) = (τ_42.1 20) := q35_1
            replace q35_2 : (τ_42.1 20) = 0 → (τ37.1 20) = 7 := q35_2
            replace ag : m_ag σ τ37 := ag_r ag hf_τ37 rfl rfl
            have w0_τ37 : τ37.1 0 = τ_42.1 0 := hf_τ37.1 0 (by decide)
            have w2_τ37 : τ37.1 2 = τ_42.1 2 := hf_τ37.1 2 (by decide)
            have w3_τ37 : τ37.1 3 = τ_42.1 3 := hf_τ37.1 3 (by decide)
            have w5_τ37 : τ37.1 5 = τ_42.1 5 := hf_τ37.1 5 (by decide)
            have w6_τ37 : τ37.1 6 = τ_42.1 6 := hf_τ37.1 6 (by decide)
            have w7_τ37 : τ37.1 7 = τ_42.1 7 := hf_τ37.1 7 (by decide)
            have w8_τ37 : τ37.1 8 = τ_42.1 8 := hf_τ37.1 8 (by decide)
            have w9_τ37 : τ37.1 9 = τ_42.1 9 := hf_τ37.1 9 (by decide)
            have w17_τ37 : τ37.1 17 = τ_42.1 17 := hf_τ37.1 17 (by decide)
            have w18_τ37 : τ37.1 18 = τ_42.1 18 := hf_τ37.1 18 (by decide)
            have w22_τ37 : τ37.1 22 = τ_42.1 22 := hf_τ37.1 22 (by decide)
            have g6_τ37 : τ37.2.1 6 = τ_42.2.1 6 := hf_τ37.2.1 6 (by decide)
            have g7_τ37 : τ37.2.1 7 = τ_42.2.1 7 := hf_τ37.2.1 7 (by decide)
            have g14_τ37 : τ37.2.1 14 = τ_42.2.1 14 := hf_τ37.2.1 14 (by decide)
            have g15_τ37 : τ37.2.1 15 = τ_42.2.1 15 := hf_τ37.2.1 15 (by decide)
            have g18_τ37 : τ37.2.1 18 = τ_42.2.1 18 := hf_τ37.2.1 18 (by decide)
            have g19_τ37 : τ37.2.1 19 = τ_42.2.1 19 := hf_τ37.2.1 19 (by decide)
            have g21_τ37 : τ37.2.1 21 = τ_42.2.1 21 := hf_τ37.2.1 21 (by decide)
            have g22_τ37 : τ37.2.1 22 = τ_42.2.1 22 := hf_τ37.2.1 22 (by decide)
            have g25_τ37 : τ37.2.1 25 = τ_42.2.1 25 := hf_τ37.2.1 25 (by decide)
            have g26_τ37 : τ37.2.1 26 = τ_42.2.1 26 := hf_τ37.2.1 26 (by decide)
            first | (have o6_τ37 := congrArg oc g6_τ37) | skip
            first | (have o7_τ37 := congrArg oc g7_τ37) | skip
            have W0 : τ37.1 0 = σ.1 0 := by omega
            have W3 : τ37.1 3 = σ.1 3 := by omega
            have W5 : τ37.1 5 = σ.1 5 := by omega
            have W6 : τ37.1 6 = σ.1 6 := by omega
            have W7 : τ37.1 7 = σ.1 7 := by omega
            have W8 : τ37.1 8 = σ.1 8 := by omega
            have W9 : τ37.1 9 = σ.1 9 := by omega
            have W17 : τ37.1 17 = σ.1 17 := by omega
            have W18 : τ37.1 18 = σ.1 18 := by omega
            have G6 : τ37.2.1 6 = σ.2.1 6 := (g6_τ37).trans G6
            have y14_22_τ37 : τ37.2.1 14 (τ37.1 22) = (τ_42.2.1 14) (τ_42.1 22) := by rw [g14_τ37, w22_τ37]
            have y15_22_τ37 : τ37.2.1 15 (τ37.1 22) = (τ_42.2.1 15) (τ_42.1 22) := by rw [g15_τ37, w22_τ37]
            have y18_22_τ37 : τ37.2.1 18 (τ37.1 22) = (τ_42.2.1 18) (τ_42.1 22) := by rw [g18_τ37, w22_τ37]
            have y19_22_τ37 : τ37.2.1 19 (τ37.1 22) = (τ_42.2.1 19) (τ_42.1 22) := by rw [g19_τ37, w22_τ37]
            have y21_22_τ37 : τ37.2.1 21 (τ37.1 22) = (τ_42.2.1 21) (τ_42.1 22) := by rw [g21_τ37, w22_τ37]
            have y22_22_τ37 : τ37.2.1 22 (τ37.1 22) = (τ_42.2.1 22) (τ_42.1 22) := by rw [g22_τ37, w22_τ37]
            have y25_22_τ37 : τ37.2.1 25 (τ37.1 22) = (τ_42.2.1 25) (τ_42.1 22) := by rw [g25_τ37, w22_τ37]
            have y26_22_τ37 : τ37.2.1 26 (τ37.1 22) = (τ_42.2.1 26) (τ_42.1 22) := by rw [g26_τ37, w22_τ37]
            have PA : J_pa (τ37.2.1 21) (τ37.2.1 22) := by rw [show (J_pa (τ37.2.1 21) (τ37.2.1 22)) = (J_pa (τ_42.2.1 21) (τ_42.2.1 22)) from by rw [g21_τ37, g22_τ37]]; exact PA
            have A6 : ∀ j, (-1) ≤ τ37.2.1 6 j ∧ τ37.2.1 6 j ≤ 999 := fun j => hT.2 6 j
            have A7 : ∀ j, (-1) ≤ τ37.2.1 7 j ∧ τ37.2.1 7 j ≤ 1499 := fun j => hT.2 7 j
            have A14 : ∀ j, 0 ≤ τ37.2.1 14 j ∧ τ37.2.1 14 j ≤ 30000 := fun j => hT.2 14 j
            have A15 : ∀ j, 0 ≤ τ37.2.1 15 j ∧ τ37.2.1 15 j ≤ 300 := fun j => hT.2 15 j
            have A18 : ∀ j, 0 ≤ τ37.2.1 18 j ∧ τ37.2.1 18 j ≤ 90000 := fun j => hT.2 18 j
            have A19 : ∀ j, 0 ≤ τ37.2.1 19 j ∧ τ37.2.1 19 j ≤ 60 := fun j => hT.2 19 j
            have A21 : ∀ j, 0 ≤ τ37.2.1 21 j ∧ τ37.2.1 21 j ≤ 20000 := fun j => hT.2 21 j
            have A22 : ∀ j, 0 ≤ τ37.2.1 22 j ∧ τ37.2.1 22 j ≤ 20000 := fun j => hT.2 22 j
            have A25 : ∀ j, 0 ≤ τ37.2.1 25 j ∧ τ37.2.1 25 j ≤ 20000 := fun j => hT.2 25 j
            have A26 : ∀ j, 0 ≤ τ37.2.1 26 j ∧ τ37.2.1 26 j ≤ 20000 := fun j => hT.2 26 j
            have v0 : 0 ≤ τ37.1 0 ∧ τ37.1 0 ≤ 60000 := hT.1 0
            have v2 : 0 ≤ τ37.1 2 ∧ τ37.1 2 ≤ 30000 := hT.1 2
            have v3 : 0 ≤ τ37.1 3 ∧ τ37.1 3 ≤ 1000 := hT.1 3
            have v5 : 0 ≤ τ37.1 5 ∧ τ37.1 5 ≤ 1500 := hT.1 5
            have v6 : 0 ≤ τ37.1 6 ∧ τ37.1 6 ≤ 30000 := hT.1 6
            have v7 : 0 ≤ τ37.1 7 ∧ τ37.1 7 ≤ 90000 := hT.1 7
            have v8 : 0 ≤ τ37.1 8 ∧ τ37.1 8 ≤ 20000 := hT.1 8
            have v9 : 0 ≤ τ37.1 9 ∧ τ37.1 9 ≤ 20000 := hT.1 9
            have v17 : 0 ≤ τ37.1 17 ∧ τ37.1 17 ≤ 60000 := hT.1 17
            have v18 : 0 ≤ τ37.1 18 ∧ τ37.1 18 ≤ 60000 := hT.1 18
            have v20 : 0 ≤ τ37.1 20 ∧ τ37.1 20 ≤ 19 := hT.1 20
            have v22 : 0 ≤ τ37.1 22 ∧ τ37.1 22 ≤ 1499 := hT.1 22
            have a14_22 : 0 ≤ τ37.2.1 14 (τ37.1 22) ∧ τ37.2.1 14 (τ37.1 22) ≤ 30000 := hT.2 14 _
            have a15_22 : 0 ≤ τ37.2.1 15 (τ37.1 22) ∧ τ37.2.1 15 (τ37.1 22) ≤ 300 := hT.2 15 _
            have a18_22 : 0 ≤ τ37.2.1 18 (τ37.1 22) ∧ τ37.2.1 18 (τ37.1 22) ≤ 90000 := hT.2 18 _
            have a19_22 : 0 ≤ τ37.2.1 19 (τ37.1 22) ∧ τ37.2.1 19 (τ37.1 22) ≤ 60 := hT.2 19 _
            have a21_22 : 0 ≤ τ37.2.1 21 (τ37.1 22) ∧ τ37.2.1 21 (τ37.1 22) ≤ 20000 := hT.2 21 _
            have a22_22 : 0 ≤ τ37.2.1 22 (τ37.1 22) ∧ τ37.2.1 22 (τ37.1 22) ≤ 20000 := hT.2 22 _
            have a25_22 : 0 ≤ τ37.2.1 25 (τ37.1 22) ∧ τ37.2.1 25 (τ37.1 22) ≤ 20000 := hT.2 25 _
            have a26_22 : 0 ≤ τ37.2.1 26 (τ37.1 22) ∧ τ37.2.1 26 (τ37.1 22) ≤ 20000 := hT.2 26 _
            exact ⟨hT, (show (τ37.1 20) = 0 → (τ37.1 22) = (σ.1 5) ∧ τ37.2.1 15 (τ37.1 22) = 0 ∧ τ37.2.1 19 (τ37.1 22) = 0 ∧ τ37.2.1 22 (τ37.1 22) = 0 ∧ τ37.2.1 26 (τ37.1 22) = 0 ∧ (σ.1 5) < 1500 from by (first | omega | (simp only [st_s] <;> omega) | assumption | omega)), (show (τ37.1 20) = 0 → τ37.2.1 14 (τ37.1 22) = (σ.1 6) ∧ τ37.2.1 18 (τ37.1 22) = (σ.1 7) ∧ τ37.2.1 21 (τ37.1 22) = (σ.1 8) ∧ τ37.2.1 25 (τ37.1 22) = (σ.1 9) from by (first | omega | (simp only [st_s] <;> omega) | assumption | omega)), (show oc (τ37.2.1 7) ≤ (σ.1 5) + 1 from by (first | omega | (simp only [st_s] <;> omega) | assumption | omega)), (show ¬ (σ.1 20) = 0 → (τ37.1 20) = (σ.1 20) from by (first | omega | (simp only [st_s] <;> omega) | assumption | omega)), (show J_pa (τ37.2.1 21) (τ37.2.1 22) from PA), ag⟩
      ·
        refine ⟨(show 0 ≤ (τ_42.1 17 + u1_42) ∧ (τ_42.1 17 + u1_42) < 60000 from by (first | omega | (simp only [st_s] <;> omega) | assumption | omega)), ?_⟩
        intro x26 r_x26 e_x26
        have b_x26 : 0 ≤ x26 ∧ x26 ≤ 255 := by rw [e_x26]; exact hT.2 0 _
        refine ⟨_, K_X13_isLabelSign hT, ?_⟩
        intro x28 r_x28 hq
        have q27_1 := hq
        replace q27_1 : 0 ≤ x28 ∧ x28 ≤ 1 := q27_1
        refine ⟨fun c30 => ?_, fun c30 => ?_⟩
        ·
          refine ⟨(⟨by (first | omega | (simp only [st_s] <;> omega) | assumption | omega), by (first | omega | (simp only [st_s] <;> omega) | assumption | omega)⟩ : rg (u1_42 + 1)), ?_⟩
          exact ih_42 _ _ (show (61 - (u1_42 + 1) : Int) < ((m_42 : Nat) : Int) from by ((first | omega | (simp only [st_s] <;> omega) | assumption | omega))) hT ag (show τ_42.1 0 = σ.1 0 from by omega) (show τ_42.1 3 = σ.1 3 from by omega) (show τ_42.1 5 = σ.1 5 from by omega) (show τ_42.1 6 = σ.1 6 from by omega) (show τ_42.1 7 = σ.1 7 from by omega) (show τ_42.1 8 = σ.1 8 from by omega) (show τ_42.1 9 = σ.1 9 from by omega) (show τ_42.1 17 = σ.1 17 from by omega) (show τ_42.1 18 = σ.1 18 from by omega) G6 (show 0 ≤ (u1_42 + 1) from by (first | omega | (simp only [st_s] <;> omega) | assumption | omega)) (show (u1_42 + 1) ≤ 60 from by (first | omega | (simp only [st_s] <;> omega) | assumption | omega)) (show (τ_42.1 20) = (σ.1 20) from by (first | omega | (simp only [st_s] <;> omega) | assumption | omega)) (show oc (τ_42.2.1 7) ≤ (σ.1 5) from by (first | omega | (simp only [st_s] <;> omega) | assumption | omega)) (show (σ.1 5) < 1500 from by (first | omega | (simp only [st_s] <;> omega) | assumption | omega)) (show (σ.1 2) + (σ.1 18) ≤ 30000 from by (first | omega | (simp only [st_s] <;> omega) | assumption | omega)) (show (σ.1 18) ≤ 60 from by (first | omega | (simp only [st_s] <;> omega) | assumption | omega)) (show (τ_42.1 2) = (σ.1 2) from by (first | omega | (simp only [st_s] <;> omega) | assumption | omega)) (show J_pa (τ_42.2.1 21) (τ_42.2.1 22) from PA)
        ·
          refine ⟨_, K_X13_failHere hT (show 0 ≤ 6 from by (first | omega | (simp only [st_s] <;> omega) | assumption | omega)) (show 6 ≤ 19 from by (first | omega | (simp only [st_s] <;> omega) | assumption | omega)), ?_⟩
          intro τ34 hn_τ34 hf_τ34 hq
          obtain ⟨hT, q32_1, q32_2⟩ := hq
          replace q32_1 : ¬ (τ_42.1 20) = 0 → (τ34.1 20) = (τ_42.1 20) := q32_1
          replace q32_2 : (τ_42.1 20) = 0 → (τ34.1 20) = 6 := q32_2
          replace ag : m_ag σ τ34 := ag_r ag hf_τ34 rfl rfl
          have w0_τ34 : τ34.1 0 = τ_42.1 0 := hf_τ34.1 0 (by decide)
          have w2_τ34 : τ34.1 2 = τ_42.1 2 := hf_τ34.1 2 (by decide)
          have w3_τ34 : τ34.1 3 = τ_42.1 3 := hf_τ34.1 3 (by decide)
          have w5_τ34 : τ34.1 5 = τ_42.1 5 := hf_τ34.1 5 (by decide)
          have w6_τ34 : τ34.1 6 = τ_42.1 6 := hf_τ34.1 6 (by decide)
          have w7_τ34 : τ34.1 7 = τ_42.1 7 := hf_τ34.1 7 (by decide)
          have w8_τ34 : τ34.1 8 = τ_42.1 8 := hf_τ34.1 8 (by decide)
          have w9_τ34 : τ34.1 9 = τ_42.1 9 := hf_τ34.1 9 (by decide)
          have w17_τ34 : τ34.1 17 = τ_42.1 17 := hf_τ34.1 17 (by decide)
          have w18_τ34 : τ34.1 18 = τ_42.1 18 := hf_τ34.1 18 (by decide)
          have w22_τ34 : τ34.1 22 = τ_42.1 22 := hf_τ34.1 22 (by decide)
          have g6_τ34 : τ34.2.1 6 = τ_42.2.1 6 := hf_τ34.2.1 6 (by decide)
          have g7_τ34 : τ34.2.1 7 = τ_42.2.1 7 := hf_τ34.2.1 7 (by decide)
          have g14_τ34 : τ34.2.1 14 = τ_42.2.1 14 := hf_τ34.2.1 14 (by decide)
          have g15_τ34 : τ34.2.1 15 = τ_42.2.1 15 := hf_τ34.2.1 15 (by decide)
          have g18_τ34 : τ34.2.1 18 = τ_42.2.1 18 := hf_τ34.2.1 18 (by decide)
          have g19_τ34 : τ34.2.1 19 = τ_42.2.1 19 := hf_τ34.2.1 19 (by decide)
          have g21_τ34 : τ34.2.1 21 = τ_42.2.1 21 := hf_τ34.2.1 21 (by decide)
          have g22_τ34 : τ34.2.1 22 = τ_42.2.1 22 := hf_τ34.2.1 22 (by decide)
          have g25_τ34 : τ34.2.1 25 = τ_42.2.1 25 := hf_τ34.2.1 25 (by decide)
          have g26_τ34 : τ34.2.1 26 = τ_42.2.1 26 := hf_τ34.2.1 26 (by decide)
          first | (have o6_τ34 := congrArg oc g6_τ34) | skip
          first | (have o7_τ34 := congrArg oc g7_τ34) | skip
          have W0 : τ34.1 0 = σ.1 0 := by omega
          have W3 : τ34.1 3 = σ.1 3 := by omega
          have W5 : τ34.1 5 = σ.1 5 := by omega
          have W6 : τ34.1 6 = σ.1 6 := by omega
          have W7 : τ34.1 7 = σ.1 7 := by omega
          have W8 : τ34.1 8 = σ.1 8 := by omega
          have W9 : τ34.1 9 = σ.1 9 := by omega
          have W17 : τ34.1 17 = σ.1 17 := by omega
          have W18 : τ34.1 18 = σ.1 18 := by omega
          have G6 : τ34.2.1 6 = σ.2.1 6 := (g6_τ34).trans G6
          have y14_22_τ34 : τ34.2.1 14 (τ34.1 22) = (τ_42.2.1 14) (τ_42.1 22) := by rw [g14_τ34, w22_τ34]
          have y15_22_τ34 : τ34.2.1 15 (τ34.1 22) = (τ_42.2.1 15) (τ_42.1 22) := by rw [g15_τ34, w22_τ34]
          have y18_22_τ34 : τ34.2.1 18 (τ34.1 22) = (τ_42.2.1 18) (τ_42.1 22) := by rw [g18_τ34, w22_τ34]
          have y19_22_τ34 : τ34.2.1 19 (τ34.1 22) = (τ_42.2.1 19) (τ_42.1 22) := by rw [g19_τ34, w22_τ34]
          have y21_22_τ34 : τ34.2.1 21 (τ34.1 22) = (τ_42.2.1 21) (τ_42.1 22) := by rw [g21_τ34, w22_τ34]
          have y22_22_τ34 : τ34.2.1 22 (τ34.1 22) = (τ_42.2.1 22) (τ_42.1 22) := by rw [g22_τ34, w22_τ34]
          have y25_22_τ34 : τ34.2.1 25 (τ34.1 22) = (τ_42.2.1 25) (τ_42.1 22) := by rw [g25_τ34, w22_τ34]
          have y26_22_τ34 : τ34.2.1 26 (τ34.1 22) = (τ_42.2.1 26) (τ_42.1 22) := by rw [g26_τ34, w22_τ34]
          have PA : J_pa (τ34.2.1 21) (τ34.2.1 22) := by rw [show (J_pa (τ34.2.1 21) (τ34.2.1 22)) = (J_pa (τ_42.2.1 21) (τ_42.2.1 22)) from by rw [g21_τ34, g22_τ34]]; exact PA
          have A6 : ∀ j, (-1) ≤ τ34.2.1 6 j ∧ τ34.2.1 6 j ≤ 999 := fun j => hT.2 6 j
          have A7 : ∀ j, (-1) ≤ τ34.2.1 7 j ∧ τ34.2.1 7 j ≤ 1499 := fun j => hT.2 7 j
          have A14 : ∀ j, 0 ≤ τ34.2.1 14 j ∧ τ34.2.1 14 j ≤ 30000 := fun j => hT.2 14 j
          have A15 : ∀ j, 0 ≤ τ34.2.1 15 j ∧ τ34.2.1 15 j ≤ 300 := fun j => hT.2 15 j
          have A18 : ∀ j, 0 ≤ τ34.2.1 18 j ∧ τ34.2.1 18 j ≤ 90000 := fun j => hT.2 18 j
          have A19 : ∀ j, 0 ≤ τ34.2.1 19 j ∧ τ34.2.1 19 j ≤ 60 := fun j => hT.2 19 j
          have A21 : ∀ j, 0 ≤ τ34.2.1 21 j ∧ τ34.2.1 21 j ≤ 20000 := fun j => hT.2 21 j
          have A22 : ∀ j, 0 ≤ τ34.2.1 22 j ∧ τ34.2.1 22 j ≤ 20000 := fun j => hT.2 22 j
          have A25 : ∀ j, 0 ≤ τ34.2.1 25 j ∧ τ34.2.1 25 j ≤ 20000 := fun j => hT.2 25 j
          have A26 : ∀ j, 0 ≤ τ34.2.1 26 j ∧ τ34.2.1 26 j ≤ 20000 := fun j => hT.2 26 j
          have v0 : 0 ≤ τ34.1 0 ∧ τ34.1 0 ≤ 60000 := hT.1 0
          have v2 : 0 ≤ τ34.1 2 ∧ τ34.1 2 ≤ 30000 := hT.1 2
          have v3 : 0 ≤ τ34.1 3 ∧ τ34.1 3 ≤ 1000 := hT.1 3
          have v5 : 0 ≤ τ34.1 5 ∧ τ34.1 5 ≤ 1500 := hT.1 5
          have v6 : 0 ≤ τ34.1 6 ∧ τ34.1 6 ≤ 30000 := hT.1 6
          have v7 : 0 ≤ τ34.1 7 ∧ τ34.1 7 ≤ 90000 := hT.1 7
          have v8 : 0 ≤ τ34.1 8 ∧ τ34.1 8 ≤ 20000 := hT.1 8
          have v9 : 0 ≤ τ34.1 9 ∧ τ34.1 9 ≤ 20000 := hT.1 9
          have v17 : 0 ≤ τ34.1 17 ∧ τ34.1 17 ≤ 60000 := hT.1 17
          have v18 : 0 ≤ τ34.1 18 ∧ τ34.1 18 ≤ 60000 := hT.1 18
          have v20 : 0 ≤ τ34.1 20 ∧ τ34.1 20 ≤ 19 := hT.1 20
          have v22 : 0 ≤ τ34.1 22 ∧ τ34.1 22 ≤ 1499 := hT.1 22
          have a14_22 : 0 ≤ τ34.2.1 14 (τ34.1 22) ∧ τ34.2.1 14 (τ34.1 22) ≤ 30000 := hT.2 14 _
          have a15_22 : 0 ≤ τ34.2.1 15 (τ34.1 22) ∧ τ34.2.1 15 (τ34.1 22) ≤ 300 := hT.2 15 _
          have a18_22 : 0 ≤ τ34.2.1 18 (τ34.1 22) ∧ τ34.2.1 18 (τ34.1 22) ≤ 90000 := hT.2 18 _
          have a19_22 : 0 ≤ τ34.2.1 19 (τ34.1 22) ∧ τ34.2.1 19 (τ34.1 22) ≤ 60 := hT.2 19 _
          have a21_22 : 0 ≤ τ34.2.1 21 (τ34.1 22) ∧ τ34.2.1 21 (τ34.1 22) ≤ 20000 := hT.2 21 _
          have a22_22 : 0 ≤ τ34.2.1 22 (τ34.1 22) ∧ τ34.2.1 22 (τ34.1 22) ≤ 20000 := hT.2 22 _
          have a25_22 : 0 ≤ τ34.2.1 25 (τ34.1 22) ∧ τ34.2.1 25 (τ34.1 22) ≤ 20000 := hT.2 25 _
          have a26_22 : 0 ≤ τ34.2.1 26 (τ34.1 22) ∧ τ34.2.1 26 (τ34.1 22) ≤ 20000 := hT.2 26 _
          exact ⟨hT, (show (τ34.1 20) = 0 → (τ34.1 22) = (σ.1 5) ∧ τ34.2.1 15 (τ34.1 22) = 0 ∧ τ34.2.1 19 (τ34.1 22) = 0 ∧ τ34.2.1 22 (τ34.1 22) = 0 ∧ τ34.2.1 26 (τ34.1 22) = 0 ∧ (σ.1 5) < 1500 from by (first | omega | (simp only [st_s] <;> omega) | assumption | omega)), (show (τ34.1 20) = 0 → τ34.2.1 14 (τ34.1 22) = (σ.1 6) ∧ τ34.2.1 18 (τ34.1 22) = (σ.1 7) ∧ τ34.2.1 21 (τ34.1 22) = (σ.1 8) ∧ τ34.2.1 25 (τ34.1 22) = (σ.1 9) from by (first | omega | (simp only [st_s] <;> omega) | assumption | omega)), (show oc (τ34.2.1 7) ≤ (σ.1 5) + 1 from by (first | omega | (simp only [st_s] <;> omega) | assumption | omega)), (show ¬ (σ.1 20) = 0 → (τ34.1 20) = (σ.1 20) from by (first | omega | (simp only [st_s] <;> omega) | assumption | omega)), (show J_pa (τ34.2.1 21) (τ34.2.1 22) from PA), ag⟩
  refine ⟨fun c1 => ?_, fun c1 => ?_⟩
  ·
    refine h34 _ ?_
    refine ⟨_, K_X13_failHere hT (show 0 ≤ 5 from by (first | omega | (simp only [st_s] <;> omega) | assumption | omega)) (show 5 ≤ 19 from by (first | omega | (simp only [st_s] <;> omega) | assumption | omega)), ?_⟩
    intro τ7 hn_τ7 hf_τ7 hq
    obtain ⟨hT, q5_1, q5_2⟩ := hq
    replace q5_1 : ¬ (σ.1 20) = 0 → (τ7.1 20) = (σ.1 20) := q5_1
    replace q5_2 : (σ.1 20) = 0 → (τ7.1 20) = 5 := q5_2
    replace ag : m_ag σ τ7 := ag_r ag hf_τ7 rfl rfl
    have w0_τ7 : τ7.1 0 = σ.1 0 := hf_τ7.1 0 (by decide)
    have w2_τ7 : τ7.1 2 = σ.1 2 := hf_τ7.1 2 (by decide)
    have w3_τ7 : τ7.1 3 = σ.1 3 := hf_τ7.1 3 (by decide)
    have w5_τ7 : τ7.1 5 = σ.1 5 := hf_τ7.1 5 (by decide)
    have w6_τ7 : τ7.1 6 = σ.1 6 := hf_τ7.1 6 (by decide)
    have w7_τ7 : τ7.1 7 = σ.1 7 := hf_τ7.1 7 (by decide)
    have w8_τ7 : τ7.1 8 = σ.1 8 := hf_τ7.1 8 (by decide)
    have w9_τ7 : τ7.1 9 = σ.1 9 := hf_τ7.1 9 (by decide)
    have w17_τ7 : τ7.1 17 = σ.1 17 := hf_τ7.1 17 (by decide)
    have w18_τ7 : τ7.1 18 = σ.1 18 := hf_τ7.1 18 (by decide)
    have w22_τ7 : τ7.1 22 = σ.1 22 := hf_τ7.1 22 (by decide)
    have g6_τ7 : τ7.2.1 6 = σ.2.1 6 := hf_τ7.2.1 6 (by decide)
    have g7_τ7 : τ7.2.1 7 = σ.2.1 7 := hf_τ7.2.1 7 (by decide)
    have g14_τ7 : τ7.2.1 14 = σ.2.1 14 := hf_τ7.2.1 14 (by decide)
    have g15_τ7 : τ7.2.1 15 = σ.2.1 15 := hf_τ7.2.1 15 (by decide)
    have g18_τ7 : τ7.2.1 18 = σ.2.1 18 := hf_τ7.2.1 18 (by decide)
    have g19_τ7 : τ7.2.1 19 = σ.2.1 19 := hf_τ7.2.1 19 (by decide)
    have g21_τ7 : τ7.2.1 21 = σ.2.1 21 := hf_τ7.2.1 21 (by decide)
    have g22_τ7 : τ7.2.1 22 = σ.2.1 22 := hf_τ7.2.1 22 (by decide)
    have g25_τ7 : τ7.2.1 25 = σ.2.1 25 := hf_τ7.2.1 25 (by decide)
    have g26_τ7 : τ7.2.1 26 = σ.2.1 26 := hf_τ7.2.1 26 (by decide)
    first | (have o6_τ7 := congrArg oc g6_τ7) | skip
    first | (have o7_τ7 := congrArg oc g7_τ7) | skip
    have W0 : τ7.1 0 = σ.1 0 := by omega
    have W3 : τ7.1 3 = σ.1 3 := by omega
    have W5 : τ7.1 5 = σ.1 5 := by omega
    have W6 : τ7.1 6 = σ.1 6 := by omega
    have W7 : τ7.1 7 = σ.1 7 := by omega
    have W8 : τ7.1 8 = σ.1 8 := by omega
    have W9 : τ7.1 9 = σ.1 9 := by omega
    have W17 : τ7.1 17 = σ.1 17 := by omega
    have W18 : τ7.1 18 = σ.1 18 := by omega
    have G6 : τ7.2.1 6 = σ.2.1 6 := (g6_τ7).trans G6
    have y14_22_τ7 : τ7.2.1 14 (τ7.1 22) = (σ.2.1 14) (σ.1 22) := by rw [g14_τ7, w22_τ7]
    have y15_22_τ7 : τ7.2.1 15 (τ7.1 22) = (σ.2.1 15) (σ.1 22) := by rw [g15_τ7, w22_τ7]
    have y18_22_τ7 : τ7.2.1 18 (τ7.1 22) = (σ.2.1 18) (σ.1 22) := by rw [g18_τ7, w22_τ7]
    have y19_22_τ7 : τ7.2.1 19 (τ7.1 22) = (σ.2.1 19) (σ.1 22) := by rw [g19_τ7, w22_τ7]
    have y21_22_τ7 : τ7.2.1 21 (τ7.1 22) = (σ.2.1 21) (σ.1 22) := by rw [g21_τ7, w22_τ7]
    have y22_22_τ7 : τ7.2.1 22 (τ7.1 22) = (σ.2.1 22) (σ.1 22) := by rw [g22_τ7, w22_τ7]
    have y25_22_τ7 : τ7.2.1 25 (τ7.1 22) = (σ.2.1 25) (σ.1 22) := by rw [g25_τ7, w22_τ7]
    have y26_22_τ7 : τ7.2.1 26 (τ7.1 22) = (σ.2.1 26) (σ.1 22) := by rw [g26_τ7, w22_τ7]
    have PA : J_pa (τ7.2.1 21) (τ7.2.1 22) := by rw [show (J_pa (τ7.2.1 21) (τ7.2.1 22)) = (J_pa (σ.2.1 21) (σ.2.1 22)) from by rw [g21_τ7, g22_τ7]]; exact PA
    have A6 : ∀ j, (-1) ≤ τ7.2.1 6 j ∧ τ7.2.1 6 j ≤ 999 := fun j => hT.2 6 j
    have A7 : ∀ j, (-1) ≤ τ7.2.1 7 j ∧ τ7.2.1 7 j ≤ 1499 := fun j => hT.2 7 j
    have A14 : ∀ j, 0 ≤ τ7.2.1 14 j ∧ τ7.2.1 14 j ≤ 30000 := fun j => hT.2 14 j
    have A15 : ∀ j, 0 ≤ τ7.2.1 15 j ∧ τ7.2.1 15 j ≤ 300 := fun j => hT.2 15 j
    have A18 : ∀ j, 0 ≤ τ7.2.1 18 j ∧ τ7.2.1 18 j ≤ 90000 := fun j => hT.2 18 j
    have A19 : ∀ j, 0 ≤ τ7.2.1 19 j ∧ τ7.2.1 19 j ≤ 60 := fun j => hT.2 19 j
    have A21 : ∀ j, 0 ≤ τ7.2.1 21 j ∧ τ7.2.1 21 j ≤ 20000 := fun j => hT.2 21 j
    have A22 : ∀ j, 0 ≤ τ7.2.1 22 j ∧ τ7.2.1 22 j ≤ 20000 := fun j => hT.2 22 j
    have A25 : ∀ j, 0 ≤ τ7.2.1 25 j ∧ τ7.2.1 25 j ≤ 20000 := fun j => hT.2 25 j
    have A26 : ∀ j, 0 ≤ τ7.2.1 26 j ∧ τ7.2.1 26 j ≤ 20000 := fun j => hT.2 26 j
    have v0 : 0 ≤ τ7.1 0 ∧ τ7.1 0 ≤ 60000 := hT.1 0
    have v2 : 0 ≤ τ7.1 2 ∧ τ7.1 2 ≤ 30000 := hT.1 2
    have v3 : 0 ≤ τ7.1 3 ∧ τ7.1 3 ≤ 1000 := hT.1 3
    have v5 : 0 ≤ τ7.1 5 ∧ τ7.1 5 ≤ 1500 := hT.1 5
    have v6 : 0 ≤ τ7.1 6 ∧ τ7.1 6 ≤ 30000 := hT.1 6
    have v7 : 0 ≤ τ7.1 7 ∧ τ7.1 7 ≤ 90000 := hT.1 7
    have v8 : 0 ≤ τ7.1 8 ∧ τ7.1 8 ≤ 20000 := hT.1 8
    have v9 : 0 ≤ τ7.1 9 ∧ τ7.1 9 ≤ 20000 := hT.1 9
    have v17 : 0 ≤ τ7.1 17 ∧ τ7.1 17 ≤ 60000 := hT.1 17
    have v18 : 0 ≤ τ7.1 18 ∧ τ7.1 18 ≤ 60000 := hT.1 18
    have v20 : 0 ≤ τ7.1 20 ∧ τ7.1 20 ≤ 19 := hT.1 20
    have v22 : 0 ≤ τ7.1 22 ∧ τ7.1 22 ≤ 1499 := hT.1 22
    have a14_22 : 0 ≤ τ7.2.1 14 (τ7.1 22) ∧ τ7.2.1 14 (τ7.1 22) ≤ 30000 := hT.2 14 _
    have a15_22 : 0 ≤ τ7.2.1 15 (τ7.1 22) ∧ τ7.2.1 15 (τ7.1 22) ≤ 300 := hT.2 15 _
    have a18_22 : 0 ≤ τ7.2.1 18 (τ7.1 22) ∧ τ7.2.1 18 (τ7.1 22) ≤ 90000 := hT.2 18 _
    have a19_22 : 0 ≤ τ7.2.1 19 (τ7.1 22) ∧ τ7.2.1 19 (τ7.1 22) ≤ 60 := hT.2 19 _
    have a21_22 : 0 ≤ τ7.2.1 21 (τ7.1 22) ∧ τ7.2.1 21 (τ7.1 22) ≤ 20000 := hT.2 21 _
    have a22_22 : 0 ≤ τ7.2.1 22 (τ7.1 22) ∧ τ7.2.1 22 (τ7.1 22) ≤ 20000 := hT.2 22 _
    have a25_22 : 0 ≤ τ7.2.1 25 (τ7.1 22) ∧ τ7.2.1 25 (τ7.1 22) ≤ 20000 := hT.2 25 _
    have a26_22 : 0 ≤ τ7.2.1 26 (τ7.1 22) ∧ τ7.2.1 26 (τ7.1 22) ≤ 20000 := hT.2 26 _
    exact ⟨hT, (show (τ7.1 20) = 0 → (τ7.1 22) = (σ.1 5) ∧ τ7.2.1 15 (τ7.1 22) = 0 ∧ τ7.2.1 19 (τ7.1 22) = 0 ∧ τ7.2.1 22 (τ7.1 22) = 0 ∧ τ7.2.1 26 (τ7.1 22) = 0 ∧ (σ.1 5) < 1500 from by (first | omega | (simp only [st_s] <;> omega) | assumption | omega)), (show (τ7.1 20) = 0 → τ7.2.1 14 (τ7.1 22) = (σ.1 6) ∧ τ7.2.1 18 (τ7.1 22) = (σ.1 7) ∧ τ7.2.1 21 (τ7.1 22) = (σ.1 8) ∧ τ7.2.1 25 (τ7.1 22) = (σ.1 9) from by (first | omega | (simp only [st_s] <;> omega) | assumption | omega)), (show oc (τ7.2.1 7) ≤ (σ.1 5) + 1 from by (first | omega | (simp only [st_s] <;> omega) | assumption | omega)), (show ¬ (σ.1 20) = 0 → (τ7.1 20) = (σ.1 20) from by (first | omega | (simp only [st_s] <;> omega) | assumption | omega)), (show J_pa (τ7.2.1 21) (τ7.2.1 22) from PA), ag⟩
  ·
    refine ⟨(⟨by (first | omega | (simp only [st_s] <;> omega) | assumption | omega), by (first | omega | (simp only [st_s] <;> omega) | assumption | omega)⟩ : rg (σ.1 2 + σ.1 18)), ?_⟩
    refine ⟨fun c3 => ?_, fun c3 => ?_⟩
    ·
      refine h34 _ ?_
      refine ⟨_, K_X13_failHere hT (show 0 ≤ 5 from by (first | omega | (simp only [st_s] <;> omega) | assumption | omega)) (show 5 ≤ 19 from by (first | omega | (simp only [st_s] <;> omega) | assumption | omega)), ?_⟩
      intro τ7 hn_τ7 hf_τ7 hq
      obtain ⟨hT, q5_1, q5_2⟩ := hq
      replace q5_1 : ¬ (σ.1 20) = 0 → (τ7.1 20) = (σ.1 20) := q5_1
      replace q5_2 : (σ.1 20) = 0 → (τ7.1 20) = 5 := q5_2
      replace ag : m_ag σ τ7 := ag_r ag hf_τ7 rfl rfl
      have w0_τ7 : τ7.1 0 = σ.1 0 := hf_τ7.1 0 (by decide)
      have w2_τ7 : τ7.1 2 = σ.1 2 := hf_τ7.1 2 (by decide)
      have w3_τ7 : τ7.1 3 = σ.1 3 := hf_τ7.1 3 (by decide)
      have w5_τ7 : τ7.1 5 = σ.1 5 := hf_τ7.1 5 (by decide)
      have w6_τ7 : τ7.1 6 = σ.1 6 := hf_τ7.1 6 (by decide)
      have w7_τ7 : τ7.1 7 = σ.1 7 := hf_τ7.1 7 (by decide)
      have w8_τ7 : τ7.1 8 = σ.1 8 := hf_τ7.1 8 (by decide)
      have w9_τ7 : τ7.1 9 = σ.1 9 := hf_τ7.1 9 (by decide)
      have w17_τ7 : τ7.1 17 = σ.1 17 := hf_τ7.1 17 (by decide)
      have w18_τ7 : τ7.1 18 = σ.1 18 := hf_τ7.1 18 (by decide)
      have w22_τ7 : τ7.1 22 = σ.1 22 := hf_τ7.1 22 (by decide)
      have g6_τ7 : τ7.2.1 6 = σ.2.1 6 := hf_τ7.2.1 6 (by decide)
      have g7_τ7 : τ7.2.1 7 = σ.2.1 7 := hf_τ7.2.1 7 (by decide)
      have g14_τ7 : τ7.2.1 14 = σ.2.1 14 := hf_τ7.2.1 14 (by decide)
      have g15_τ7 : τ7.2.1 15 = σ.2.1 15 := hf_τ7.2.1 15 (by decide)
      have g18_τ7 : τ7.2.1 18 = σ.2.1 18 := hf_τ7.2.1 18 (by decide)
      have g19_τ7 : τ7.2.1 19 = σ.2.1 19 := hf_τ7.2.1 19 (by decide)
      have g21_τ7 : τ7.2.1 21 = σ.2.1 21 := hf_τ7.2.1 21 (by decide)
      have g22_τ7 : τ7.2.1 22 = σ.2.1 22 := hf_τ7.2.1 22 (by decide)
      have g25_τ7 : τ7.2.1 25 = σ.2.1 25 := hf_τ7.2.1 25 (by decide)
      have g26_τ7 : τ7.2.1 26 = σ.2.1 26 := hf_τ7.2.1 26 (by decide)
      first | (have o6_τ7 := congrArg oc g6_τ7) | skip
      first | (have o7_τ7 := congrArg oc g7_τ7) | skip
      have W0 : τ7.1 0 = σ.1 0 := by omega
      have W3 : τ7.1 3 = σ.1 3 := by omega
      have W5 : τ7.1 5 = σ.1 5 := by omega
      have W6 : τ7.1 6 = σ.1 6 := by omega
      have W7 : τ7.1 7 = σ.1 7 := by omega
      have W8 : τ7.1 8 = σ.1 8 := by omega
      have W9 : τ7.1 9 = σ.1 9 := by omega
      have W17 : τ7.1 17 = σ.1 17 := by omega
      have W18 : τ7.1 18 = σ.1 18 := by omega
      have G6 : τ7.2.1 6 = σ.2.1 6 := (g6_τ7).trans G6
      have y14_22_τ7 : τ7.2.1 14 (τ7.1 22) = (σ.2.1 14) (σ.1 22) := by rw [g14_τ7, w22_τ7]
      have y15_22_τ7 : τ7.2.1 15 (τ7.1 22) = (σ.2.1 15) (σ.1 22) := by rw [g15_τ7, w22_τ7]
      have y18_22_τ7 : τ7.2.1 18 (τ7.1 22) = (σ.2.1 18) (σ.1 22) := by rw [g18_τ7, w22_τ7]
      have y19_22_τ7 : τ7.2.1 19 (τ7.1 22) = (σ.2.1 19) (σ.1 22) := by rw [g19_τ7, w22_τ7]
      have y21_22_τ7 : τ7.2.1 21 (τ7.1 22) = (σ.2.1 21) (σ.1 22) := by rw [g21_τ7, w22_τ7]
      have y22_22_τ7 : τ7.2.1 22 (τ7.1 22) = (σ.2.1 22) (σ.1 22) := by rw [g22_τ7, w22_τ7]
      have y25_22_τ7 : τ7.2.1 25 (τ7.1 22) = (σ.2.1 25) (σ.1 22) := by rw [g25_τ7, w22_τ7]
      have y26_22_τ7 : τ7.2.1 26 (τ7.1 22) = (σ.2.1 26) (σ.1 22) := by rw [g26_τ7, w22_τ7]
      have PA : J_pa (τ7.2.1 21) (τ7.2.1 22) := by rw [show (J_pa (τ7.2.1 21) (τ7.2.1 22)) = (J_pa (σ.2.1 21) (σ.2.1 22)) from by rw [g21_τ7, g22_τ7]]; exact PA
      have A6 : ∀ j, (-1) ≤ τ7.2.1 6 j ∧ τ7.2.1 6 j ≤ 999 := fun j => hT.2 6 j
      have A7 : ∀ j, (-1) ≤ τ7.2.1 7 j ∧ τ7.2.1 7 j ≤ 1499 := fun j => hT.2 7 j
      have A14 : ∀ j, 0 ≤ τ7.2.1 14 j ∧ τ7.2.1 14 j ≤ 30000 := fun j => hT.2 14 j
      have A15 : ∀ j, 0 ≤ τ7.2.1 15 j ∧ τ7.2.1 15 j ≤ 300 := fun j => hT.2 15 j
      have A18 : ∀ j, 0 ≤ τ7.2.1 18 j ∧ τ7.2.1 18 j ≤ 90000 := fun j => hT.2 18 j
      have A19 : ∀ j, 0 ≤ τ7.2.1 19 j ∧ τ7.2.1 19 j ≤ 60 := fun j => hT.2 19 j
      have A21 : ∀ j, 0 ≤ τ7.2.1 21 j ∧ τ7.2.1 21 j ≤ 20000 := fun j => hT.2 21 j
      have A22 : ∀ j, 0 ≤ τ7.2.1 22 j ∧ τ7.2.1 22 j ≤ 20000 := fun j => hT.2 22 j
      have A25 : ∀ j, 0 ≤ τ7.2.1 25 j ∧ τ7.2.1 25 j ≤ 20000 := fun j => hT.2 25 j
      have A26 : ∀ j, 0 ≤ τ7.2.1 26 j ∧ τ7.2.1 26 j ≤ 20000 := fun j => hT.2 26 j
      have v0 : 0 ≤ τ7.1 0 ∧ τ7.1 0 ≤ 60000 := hT.1 0
      have v2 : 0 ≤ τ7.1 2 ∧ τ7.1 2 ≤ 30000 := hT.1 2
      have v3 : 0 ≤ τ7.1 3 ∧ τ7.1 3 ≤ 1000 := hT.1 3
      have v5 : 0 ≤ τ7.1 5 ∧ τ7.1 5 ≤ 1500 := hT.1 5
      have v6 : 0 ≤ τ7.1 6 ∧ τ7.1 6 ≤ 30000 := hT.1 6
      have v7 : 0 ≤ τ7.1 7 ∧ τ7.1 7 ≤ 90000 := hT.1 7
      have v8 : 0 ≤ τ7.1 8 ∧ τ7.1 8 ≤ 20000 := hT.1 8
      have v9 : 0 ≤ τ7.1 9 ∧ τ7.1 9 ≤ 20000 := hT.1 9
      have v17 : 0 ≤ τ7.1 17 ∧ τ7.1 17 ≤ 60000 := hT.1 17
      have v18 : 0 ≤ τ7.1 18 ∧ τ7.1 18 ≤ 60000 := hT.1 18
      have v20 : 0 ≤ τ7.1 20 ∧ τ7.1 20 ≤ 19 := hT.1 20
      have v22 : 0 ≤ τ7.1 22 ∧ τ7.1 22 ≤ 1499 := hT.1 22
      have a14_22 : 0 ≤ τ7.2.1 14 (τ7.1 22) ∧ τ7.2.1 14 (τ7.1 22) ≤ 30000 := hT.2 14 _
      have a15_22 : 0 ≤ τ7.2.1 15 (τ7.1 22) ∧ τ7.2.1 15 (τ7.1 22) ≤ 300 := hT.2 15 _
      have a18_22 : 0 ≤ τ7.2.1 18 (τ7.1 22) ∧ τ7.2.1 18 (τ7.1 22) ≤ 90000 := hT.2 18 _
      have a19_22 : 0 ≤ τ7.2.1 19 (τ7.1 22) ∧ τ7.2.1 19 (τ7.1 22) ≤ 60 := hT.2 19 _
      have a21_22 : 0 ≤ τ7.2.1 21 (τ7.1 22) ∧ τ7.2.1 21 (τ7.1 22) ≤ 20000 := hT.2 21 _
      have a22_22 : 0 ≤ τ7.2.1 22 (τ7.1 22) ∧ τ7.2.1 22 (τ7.1 22) ≤ 20000 := hT.2 22 _
      have a25_22 : 0 ≤ τ7.2.1 25 (τ7.1 22) ∧ τ7.2.1 25 (τ7.1 22) ≤ 20000 := hT.2 25 _
      have a26_22 : 0 ≤ τ7.2.1 26 (τ7.1 22) ∧ τ7.2.1 26 (τ7.1 22) ≤ 20000 := hT.2 26 _
      exact ⟨hT, (show (τ7.1 20) = 0 → (τ7.1 22) = (σ.1 5) ∧ τ7.2.1 15 (τ7.1 22) = 0 ∧ τ7.2.1 19 (τ7.1 22) = 0 ∧ τ7.2.1 22 (τ7.1 22) = 0 ∧ τ7.2.1 26 (τ7.1 22) = 0 ∧ (σ.1 5) < 1500 from by (first | omega | (simp only [st_s] <;> omega) | assumption | omega)), (show (τ7.1 20) = 0 → τ7.2.1 14 (τ7.1 22) = (σ.1 6) ∧ τ7.2.1 18 (τ7.1 22) = (σ.1 7) ∧ τ7.2.1 21 (τ7.1 22) = (σ.1 8) ∧ τ7.2.1 25 (τ7.1 22) = (σ.1 9) from by (first | omega | (simp only [st_s] <;> omega) | assumption | omega)), (show oc (τ7.2.1 7) ≤ (σ.1 5) + 1 from by (first | omega | (simp only [st_s] <;> omega) | assumption | omega)), (show ¬ (σ.1 20) = 0 → (τ7.1 20) = (σ.1 20) from by (first | omega | (simp only [st_s] <;> omega) | assumption | omega)), (show J_pa (τ7.2.1 21) (τ7.2.1 22) from PA), ag⟩
    ·
      refine ⟨fun c4 => ?_, fun c4 => ?_⟩
      ·
        exact l_42 ((61 - 0 : Int).toNat + 1) _ _ (show (61 - 0 : Int) < (((61 - 0 : Int).toNat + 1 : Nat) : Int) from by ((first | omega | (simp only [st_s] <;> omega) | assumption | omega))) hT ag (show σ.1 0 = σ.1 0 from by omega) (show σ.1 3 = σ.1 3 from by omega) (show σ.1 5 = σ.1 5 from by omega) (show σ.1 6 = σ.1 6 from by omega) (show σ.1 7 = σ.1 7 from by omega) (show σ.1 8 = σ.1 8 from by omega) (show σ.1 9 = σ.1 9 from by omega) (show σ.1 17 = σ.1 17 from by omega) (show σ.1 18 = σ.1 18 from by omega) G6 (show 0 ≤ 0 from by (first | omega | (simp only [st_s] <;> omega) | assumption | omega)) (show 0 ≤ 60 from by (first | omega | (simp only [st_s] <;> omega) | assumption | omega)) (show (σ.1 20) = (σ.1 20) from by (first | omega | (simp only [st_s] <;> omega) | assumption | omega)) (show oc (σ.2.1 7) ≤ (σ.1 5) from by (first | omega | (simp only [st_s] <;> omega) | assumption | omega)) (show (σ.1 5) < 1500 from by (first | omega | (simp only [st_s] <;> omega) | assumption | omega)) (show (σ.1 2) + (σ.1 18) ≤ 30000 from by (first | omega | (simp only [st_s] <;> omega) | assumption | omega)) (show (σ.1 18) ≤ 60 from by (first | omega | (simp only [st_s] <;> omega) | assumption | omega)) (show (σ.1 2) = (σ.1 2) from by (first | omega | (simp only [st_s] <;> omega) | assumption | omega)) (show J_pa (σ.2.1 21) (σ.2.1 22) from PA)
      ·
        refine h34 _ ?_
        refine ⟨_, K_X13_failHere hT (show 0 ≤ 5 from by (first | omega | (simp only [st_s] <;> omega) | assumption | omega)) (show 5 ≤ 19 from by (first | omega | (simp only [st_s] <;> omega) | assumption | omega)), ?_⟩
        intro τ7 hn_τ7 hf_τ7 hq
        obtain ⟨hT, q5_1, q5_2⟩ := hq
        replace q5_1 : ¬ (σ.1 20) = 0 → (τ7.1 20) = (σ.1 20) := q5_1
        replace q5_2 : (σ.1 20) = 0 → (τ7.1 20) = 5 := q5_2
        replace ag : m_ag σ τ7 := ag_r ag hf_τ7 rfl rfl
        have w0_τ7 : τ7.1 0 = σ.1 0 := hf_τ7.1 0 (by decide)
        have w2_τ7 : τ7.1 2 = σ.1 2 := hf_τ7.1 2 (by decide)
        have w3_τ7 : τ7.1 3 = σ.1 3 := hf_τ7.1 3 (by decide)
        have w5_τ7 : τ7.1 5 = σ.1 5 := hf_τ7.1 5 (by decide)
        have w6_τ7 : τ7.1 6 = σ.1 6 := hf_τ7.1 6 (by decide)
        have w7_τ7 : τ7.1 7 = σ.1 7 := hf_τ7.1 7 (by decide)
        have w8_τ7 : τ7.1 8 = σ.1 8 := hf_τ7.1 8 (by decide)
        have w9_τ7 : τ7.1 9 = σ.1 9 := hf_τ7.1 9 (by decide)
        have w17_τ7 : τ7.1 17 = σ.1 17 := hf_τ7.1 17 (by decide)
        have w18_τ7 : τ7.1 18 = σ.1 18 := hf_τ7.1 18 (by decide)
        have w22_τ7 : τ7.1 22 = σ.1 22 := hf_τ7.1 22 (by decide)
        have g6_τ7 : τ7.2.1 6 = σ.2.1 6 := hf_τ7.2.1 6 (by decide)
        have g7_τ7 : τ7.2.1 7 = σ.2.1 7 := hf_τ7.2.1 7 (by decide)
        have g14_τ7 : τ7.2.1 14 = σ.2.1 14 := hf_τ7.2.1 14 (by decide)
        have g15_τ7 : τ7.2.1 15 = σ.2.1 15 := hf_τ7.2.1 15 (by decide)
        have g18_τ7 : τ7.2.1 18 = σ.2.1 18 := hf_τ7.2.1 18 (by decide)
        have g19_τ7 : τ7.2.1 19 = σ.2.1 19 := hf_τ7.2.1 19 (by decide)
        have g21_τ7 : τ7.2.1 21 = σ.2.1 21 := hf_τ7.2.1 21 (by decide)
        have g22_τ7 : τ7.2.1 22 = σ.2.1 22 := hf_τ7.2.1 22 (by decide)
        have g25_τ7 : τ7.2.1 25 = σ.2.1 25 := hf_τ7.2.1 25 (by decide)
        have g26_τ7 : τ7.2.1 26 = σ.2.1 26 := hf_τ7.2.1 26 (by decide)
        first | (have o6_τ7 := congrArg oc g6_τ7) | skip
        first | (have o7_τ7 := congrArg oc g7_τ7) | skip
        have W0 : τ7.1 0 = σ.1 0 := by omega
        have W3 : τ7.1 3 = σ.1 3 := by omega
        have W5 : τ7.1 5 = σ.1 5 := by omega
        have W6 : τ7.1 6 = σ.1 6 := by omega
        have W7 : τ7.1 7 = σ.1 7 := by omega
        have W8 : τ7.1 8 = σ.1 8 := by omega
        have W9 : τ7.1 9 = σ.1 9 := by omega
        have W17 : τ7.1 17 = σ.1 17 := by omega
        have W18 : τ7.1 18 = σ.1 18 := by omega
        have G6 : τ7.2.1 6 = σ.2.1 6 := (g6_τ7).trans G6
        have y14_22_τ7 : τ7.2.1 14 (τ7.1 22) = (σ.2.1 14) (σ.1 22) := by rw [g14_τ7, w22_τ7]
        have y15_22_τ7 : τ7.2.1 15 (τ7.1 22) = (σ.2.1 15) (σ.1 22) := by rw [g15_τ7, w22_τ7]
        have y18_22_τ7 : τ7.2.1 18 (τ7.1 22) = (σ.2.1 18) (σ.1 22) := by rw [g18_τ7, w22_τ7]
        have y19_22_τ7 : τ7.2.1 19 (τ7.1 22) = (σ.2.1 19) (σ.1 22) := by rw [g19_τ7, w22_τ7]
        have y21_22_τ7 : τ7.2.1 21 (τ7.1 22) = (σ.2.1 21) (σ.1 22) := by rw [g21_τ7, w22_τ7]
        have y22_22_τ7 : τ7.2.1 22 (τ7.1 22) = (σ.2.1 22) (σ.1 22) := by rw [g22_τ7, w22_τ7]
        have y25_22_τ7 : τ7.2.1 25 (τ7.1 22) = (σ.2.1 25) (σ.1 22) := by rw [g25_τ7, w22_τ7]
        have y26_22_τ7 : τ7.2.1 26 (τ7.1 22) = (σ.2.1 26) (σ.1 22) := by rw [g26_τ7, w22_τ7]
        have PA : J_pa (τ7.2.1 21) (τ7.2.1 22) := by rw [show (J_pa (τ7.2.1 21) (τ7.2.1 22)) = (J_pa (σ.2.1 21) (σ.2.1 22)) from by rw [g21_τ7, g22_τ7]]; exact PA
        have A6 : ∀ j, (-1) ≤ τ7.2.1 6 j ∧ τ7.2.1 6 j ≤ 999 := fun j => hT.2 6 j
        have A7 : ∀ j, (-1) ≤ τ7.2.1 7 j ∧ τ7.2.1 7 j ≤ 1499 := fun j => hT.2 7 j
        have A14 : ∀ j, 0 ≤ τ7.2.1 14 j ∧ τ7.2.1 14 j ≤ 30000 := fun j => hT.2 14 j
        have A15 : ∀ j, 0 ≤ τ7.2.1 15 j ∧ τ7.2.1 15 j ≤ 300 := fun j => hT.2 15 j
        have A18 : ∀ j, 0 ≤ τ7.2.1 18 j ∧ τ7.2.1 18 j ≤ 90000 := fun j => hT.2 18 j
        have A19 : ∀ j, 0 ≤ τ7.2.1 19 j ∧ τ7.2.1 19 j ≤ 60 := fun j => hT.2 19 j
        have A21 : ∀ j, 0 ≤ τ7.2.1 21 j ∧ τ7.2.1 21 j ≤ 20000 := fun j => hT.2 21 j
        have A22 : ∀ j, 0 ≤ τ7.2.1 22 j ∧ τ7.2.1 22 j ≤ 20000 := fun j => hT.2 22 j
        have A25 : ∀ j, 0 ≤ τ7.2.1 25 j ∧ τ7.2.1 25 j ≤ 20000 := fun j => hT.2 25 j
        have A26 : ∀ j, 0 ≤ τ7.2.1 26 j ∧ τ7.2.1 26 j ≤ 20000 := fun j => hT.2 26 j
        have v0 : 0 ≤ τ7.1 0 ∧ τ7.1 0 ≤ 60000 := hT.1 0
        have v2 : 0 ≤ τ7.1 2 ∧ τ7.1 2 ≤ 30000 := hT.1 2
        have v3 : 0 ≤ τ7.1 3 ∧ τ7.1 3 ≤ 1000 := hT.1 3
        have v5 : 0 ≤ τ7.1 5 ∧ τ7.1 5 ≤ 1500 := hT.1 5
        have v6 : 0 ≤ τ7.1 6 ∧ τ7.1 6 ≤ 30000 := hT.1 6
        have v7 : 0 ≤ τ7.1 7 ∧ τ7.1 7 ≤ 90000 := hT.1 7
        have v8 : 0 ≤ τ7.1 8 ∧ τ7.1 8 ≤ 20000 := hT.1 8
        have v9 : 0 ≤ τ7.1 9 ∧ τ7.1 9 ≤ 20000 := hT.1 9
        have v17 : 0 ≤ τ7.1 17 ∧ τ7.1 17 ≤ 60000 := hT.1 17
        have v18 : 0 ≤ τ7.1 18 ∧ τ7.1 18 ≤ 60000 := hT.1 18
        have v20 : 0 ≤ τ7.1 20 ∧ τ7.1 20 ≤ 19 := hT.1 20
        have v22 : 0 ≤ τ7.1 22 ∧ τ7.1 22 ≤ 1499 := hT.1 22
        have a14_22 : 0 ≤ τ7.2.1 14 (τ7.1 22) ∧ τ7.2.1 14 (τ7.1 22) ≤ 30000 := hT.2 14 _
        have a15_22 : 0 ≤ τ7.2.1 15 (τ7.1 22) ∧ τ7.2.1 15 (τ7.1 22) ≤ 300 := hT.2 15 _
        have a18_22 : 0 ≤ τ7.2.1 18 (τ7.1 22) ∧ τ7.2.1 18 (τ7.1 22) ≤ 90000 := hT.2 18 _
        have a19_22 : 0 ≤ τ7.2.1 19 (τ7.1 22) ∧ τ7.2.1 19 (τ7.1 22) ≤ 60 := hT.2 19 _
        have a21_22 : 0 ≤ τ7.2.1 21 (τ7.1 22) ∧ τ7.2.1 21 (τ7.1 22) ≤ 20000 := hT.2 21 _
        have a22_22 : 0 ≤ τ7.2.1 22 (τ7.1 22) ∧ τ7.2.1 22 (τ7.1 22) ≤ 20000 := hT.2 22 _
        have a25_22 : 0 ≤ τ7.2.1 25 (τ7.1 22) ∧ τ7.2.1 25 (τ7.1 22) ≤ 20000 := hT.2 25 _
        have a26_22 : 0 ≤ τ7.2.1 26 (τ7.1 22) ∧ τ7.2.1 26 (τ7.1 22) ≤ 20000 := hT.2 26 _
        exact ⟨hT, (show (τ7.1 20) = 0 → (τ7.1 22) = (σ.1 5) ∧ τ7.2.1 15 (τ7.1 22) = 0 ∧ τ7.2.1 19 (τ7.1 22) = 0 ∧ τ7.2.1 22 (τ7.1 22) = 0 ∧ τ7.2.1 26 (τ7.1 22) = 0 ∧ (σ.1 5) < 1500 from by (first | omega | (simp only [st_s] <;> omega) | assumption | omega)), (show (τ7.1 20) = 0 → τ7.2.1 14 (τ7.1 22) = (σ.1 6) ∧ τ7.2.1 18 (τ7.1 22) = (σ.1 7) ∧ τ7.2.1 21 (τ7.1 22) = (σ.1 8) ∧ τ7.2.1 25 (τ7.1 22) = (σ.1 9) from by (first | omega | (simp only [st_s] <;> omega) | assumption | omega)), (show oc (τ7.2.1 7) ≤ (σ.1 5) + 1 from by (first | omega | (simp only [st_s] <;> omega) | assumption | omega)), (show ¬ (σ.1 20) = 0 → (τ7.1 20) = (σ.1 20) from by (first | omega | (simp only [st_s] <;> omega) | assumption | omega)), (show J_pa (τ7.2.1 21) (τ7.2.1 22) from PA), ag⟩
set_option maxHeartbeats 1000000 in
theorem K2_X13_makeFrame {σ : S0} (hT : m_T σ) (p1 : (σ.1 22) = (σ.1 5)) (p2 : σ.2.1 18 (σ.1 22) + σ.2.1 19 (σ.1 22) = (σ.1 7)) (p3 : σ.2.1 21 (σ.1 22) + σ.2.1 22 (σ.1 22) = (σ.1 8)) (p4 : (σ.1 7) ≤ 60 * (σ.1 22) + σ.2.1 19 (σ.1 22)) (p5 : J_pa (σ.2.1 21) (σ.2.1 22)) : W_X13_makeFrame σ (fun (τ : S0) => (m_T τ) ∧ (¬ (σ.1 20) = 0 → (τ.1 20) = (σ.1 20)) ∧ ((τ.1 7) ≤ 60 * (τ.1 22) + τ.2.1 19 (τ.1 22)) ∧ (τ.2.1 18 (τ.1 22) + τ.2.1 19 (τ.1 22) = (τ.1 7)) ∧ (τ.2.1 21 (τ.1 22) + τ.2.1 22 (τ.1 22) = (τ.1 8)) ∧ (J_pa (τ.2.1 21) (τ.2.1 22)) ∧ (m_ag σ τ)) := by
  have A18 : ∀ j, 0 ≤ σ.2.1 18 j ∧ σ.2.1 18 j ≤ 90000 := fun j => hT.2 18 j
  have A19 : ∀ j, 0 ≤ σ.2.1 19 j ∧ σ.2.1 19 j ≤ 60 := fun j => hT.2 19 j
  have A21 : ∀ j, 0 ≤ σ.2.1 21 j ∧ σ.2.1 21 j ≤ 20000 := fun j => hT.2 21 j
  have A22 : ∀ j, 0 ≤ σ.2.1 22 j ∧ σ.2.1 22 j ≤ 20000 := fun j => hT.2 22 j
  have v3 : 0 ≤ σ.1 3 ∧ σ.1 3 ≤ 1000 := hT.1 3
  have v5 : 0 ≤ σ.1 5 ∧ σ.1 5 ≤ 1500 := hT.1 5
  have v6 : 0 ≤ σ.1 6 ∧ σ.1 6 ≤ 30000 := hT.1 6
  have v7 : 0 ≤ σ.1 7 ∧ σ.1 7 ≤ 90000 := hT.1 7
  have v8 : 0 ≤ σ.1 8 ∧ σ.1 8 ≤ 20000 := hT.1 8
  have v9 : 0 ≤ σ.1 9 ∧ σ.1 9 ≤ 20000 := hT.1 9
  have v13 : 0 ≤ σ.1 13 ∧ σ.1 13 ≤ 1500 := hT.1 13
  have v14 : 0 ≤ σ.1 14 ∧ σ.1 14 ≤ 1000 := hT.1 14
  have v20 : 0 ≤ σ.1 20 ∧ σ.1 20 ≤ 19 := hT.1 20
  have v22 : 0 ≤ σ.1 22 ∧ σ.1 22 ≤ 1499 := hT.1 22
  have a18_22 : 0 ≤ σ.2.1 18 (σ.1 22) ∧ σ.2.1 18 (σ.1 22) ≤ 90000 := hT.2 18 _
  have a19_22 : 0 ≤ σ.2.1 19 (σ.1 22) ∧ σ.2.1 19 (σ.1 22) ≤ 60 := hT.2 19 _
  have a21_22 : 0 ≤ σ.2.1 21 (σ.1 22) ∧ σ.2.1 21 (σ.1 22) ≤ 20000 := hT.2 21 _
  have a22_22 : 0 ≤ σ.2.1 22 (σ.1 22) ∧ σ.2.1 22 (σ.1 22) ≤ 20000 := hT.2 22 _
  have W3 : σ.1 3 = σ.1 3 := rfl
  have W5 : σ.1 5 = σ.1 5 := rfl
  have W6 : σ.1 6 = σ.1 6 := rfl
  have W9 : σ.1 9 = σ.1 9 := rfl
  have W13 : σ.1 13 = σ.1 13 := rfl
  have W14 : σ.1 14 = σ.1 14 := rfl
  have W22 : σ.1 22 = σ.1 22 := rfl
  have G18 : σ.2.1 18 = σ.2.1 18 := rfl
  have G21 : σ.2.1 21 = σ.2.1 21 := rfl
  have ag : m_ag σ σ := ag_0 σ
  intro P2 P33 P74 P120 P181 h2 h33 h74 h120 h181
  have Z2 : σ.2.1 18 (σ.1 22) + σ.2.1 19 (σ.1 22) = (σ.1 7) := p2
  have Z3 : σ.2.1 21 (σ.1 22) + σ.2.1 22 (σ.1 22) = (σ.1 8) := p3
  have PA : J_pa (σ.2.1 21) (σ.2.1 22) := p5
  have PA_0 := PA
  have Z2_0 := Z2
  have Z3_0 := Z3
  have l_181 : ∀ (m_181 : Nat) (u1_181 : Int) (τ_181 : S0), 1502 - u1_181 < (m_181 : Int) → (m_T τ_181) → (m_ag σ τ_181) → (τ_181.1 3 = σ.1 3) → (τ_181.1 5 = σ.1 5) → (τ_181.1 6 = σ.1 6) → (τ_181.1 9 = σ.1 9) → (τ_181.1 13 = σ.1 13) → (τ_181.1 14 = σ.1 14) → (τ_181.1 22 = σ.1 22) → (τ_181.2.1 18 = σ.2.1 18) → (τ_181.2.1 21 = σ.2.1 21) → (0 ≤ u1_181) → (u1_181 ≤ 1501) → ((τ_181.1 20) = (σ.1 20)) → ((τ_181.1 7) ≤ 60 * (τ_181.1 22) + τ_181.2.1 19 (τ_181.1 22)) → (τ_181.2.1 18 (τ_181.1 22) + τ_181.2.1 19 (τ_181.1 22) = (τ_181.1 7)) → (τ_181.2.1 21 (τ_181.1 22) + τ_181.2.1 22 (τ_181.1 22) = (τ_181.1 8)) → (J_pa (τ_181.2.1 21) (τ_181.2.1 22)) → P181 u1_181 τ_181 := by
    intro m_181
    induction m_181 with
    | zero =>
      intro u1_181 τ_181 hm hT ag W3 W5 W6 W9 W13 W14 W22 G18 G21 i181_1 i181_2 i181_3 i181_4 i181_5 i181_6 i181_7
      have A18 : ∀ j, 0 ≤ τ_181.2.1 18 j ∧ τ_181.2.1 18 j ≤ 90000 := fun j => hT.2 18 j
      have A19 : ∀ j, 0 ≤ τ_181.2.1 19 j ∧ τ_181.2.1 19 j ≤ 60 := fun j => hT.2 19 j
      have A21 : ∀ j, 0 ≤ τ_181.2.1 21 j ∧ τ_181.2.1 21 j ≤ 20000 := fun j => hT.2 21 j
      have A22 : ∀ j, 0 ≤ τ_181.2.1 22 j ∧ τ_181.2.1 22 j ≤ 20000 := fun j => hT.2 22 j
      have v3 : 0 ≤ τ_181.1 3 ∧ τ_181.1 3 ≤ 1000 := hT.1 3
      have v5 : 0 ≤ τ_181.1 5 ∧ τ_181.1 5 ≤ 1500 := hT.1 5
      have v6 : 0 ≤ τ_181.1 6 ∧ τ_181.1 6 ≤ 30000 := hT.1 6
      have v7 : 0 ≤ τ_181.1 7 ∧ τ_181.1 7 ≤ 90000 := hT.1 7
      have v8 : 0 ≤ τ_181.1 8 ∧ τ_181.1 8 ≤ 20000 := hT.1 8
      have v9 : 0 ≤ τ_181.1 9 ∧ τ_181.1 9 ≤ 20000 := hT.1 9
      have v13 : 0 ≤ τ_181.1 13 ∧ τ_181.1 13 ≤ 1500 := hT.1 13
      have v14 : 0 ≤ τ_181.1 14 ∧ τ_181.1 14 ≤ 1000 := hT.1 14
      have v20 : 0 ≤ τ_181.1 20 ∧ τ_181.1 20 ≤ 19 := hT.1 20
      have v22 : 0 ≤ τ_181.1 22 ∧ τ_181.1 22 ≤ 1499 := hT.1 22
      have a18_22 : 0 ≤ τ_181.2.1 18 (τ_181.1 22) ∧ τ_181.2.1 18 (τ_181.1 22) ≤ 90000 := hT.2 18 _
      have a19_22 : 0 ≤ τ_181.2.1 19 (τ_181.1 22) ∧ τ_181.2.1 19 (τ_181.1 22) ≤ 60 := hT.2 19 _
      have a21_22 : 0 ≤ τ_181.2.1 21 (τ_181.1 22) ∧ τ_181.2.1 21 (τ_181.1 22) ≤ 20000 := hT.2 21 _
      have a22_22 : 0 ≤ τ_181.2.1 22 (τ_181.1 22) ∧ τ_181.2.1 22 (τ_181.1 22) ≤ 20000 := hT.2 22 _
      have av7 : σ.1 7 ≤ τ_181.1 7 := ag.1 7 (by decide)
      have av8 : σ.1 8 ≤ τ_181.1 8 := ag.1 8 (by decide)
      exfalso; (first | omega | (simp only [st_s] <;> omega) | assumption | omega)
    | succ m_181 ih_181 =>
      intro u1_181 τ_181 hm_181 hT ag W3 W5 W6 W9 W13 W14 W22 G18 G21 i181_1 i181_2 i181_3 i181_4 i181_5 i181_6 i181_7
      have A18 : ∀ j, 0 ≤ τ_181.2.1 18 j ∧ τ_181.2.1 18 j ≤ 90000 := fun j => hT.2 18 j
      have A19 : ∀ j, 0 ≤ τ_181.2.1 19 j ∧ τ_181.2.1 19 j ≤ 60 := fun j => hT.2 19 j
      have A21 : ∀ j, 0 ≤ τ_181.2.1 21 j ∧ τ_181.2.1 21 j ≤ 20000 := fun j => hT.2 21 j
      have A22 : ∀ j, 0 ≤ τ_181.2.1 22 j ∧ τ_181.2.1 22 j ≤ 20000 := fun j => hT.2 22 j
      have v3 : 0 ≤ τ_181.1 3 ∧ τ_181.1 3 ≤ 1000 := hT.1 3
      have v5 : 0 ≤ τ_181.1 5 ∧ τ_181.1 5 ≤ 1500 := hT.1 5
      have v6 : 0 ≤ τ_181.1 6 ∧ τ_181.1 6 ≤ 30000 := hT.1 6
      have v7 : 0 ≤ τ_181.1 7 ∧ τ_181.1 7 ≤ 90000 := hT.1 7
      have v8 : 0 ≤ τ_181.1 8 ∧ τ_181.1 8 ≤ 20000 := hT.1 8
      have v9 : 0 ≤ τ_181.1 9 ∧ τ_181.1 9 ≤ 20000 := hT.1 9
      have v13 : 0 ≤ τ_181.1 13 ∧ τ_181.1 13 ≤ 1500 := hT.1 13
      have v14 : 0 ≤ τ_181.1 14 ∧ τ_181.1 14 ≤ 1000 := hT.1 14
      have v20 : 0 ≤ τ_181.1 20 ∧ τ_181.1 20 ≤ 19 := hT.1 20
      have v22 : 0 ≤ τ_181.1 22 ∧ τ_181.1 22 ≤ 1499 := hT.1 22
      have a18_22 : 0 ≤ τ_181.2.1 18 (τ_181.1 22) ∧ τ_181.2.1 18 (τ_181.1 22) ≤ 90000 := hT.2 18 _
      have a19_22 : 0 ≤ τ_181.2.1 19 (τ_181.1 22) ∧ τ_181.2.1 19 (τ_181.1 22) ≤ 60 := hT.2 19 _
      have a21_22 : 0 ≤ τ_181.2.1 21 (τ_181.1 22) ∧ τ_181.2.1 21 (τ_181.1 22) ≤ 20000 := hT.2 21 _
      have a22_22 : 0 ≤ τ_181.2.1 22 (τ_181.1 22) ∧ τ_181.2.1 22 (τ_181.1 22) ≤ 20000 := hT.2 22 _
      have av7 : σ.1 7 ≤ τ_181.1 7 := ag.1 7 (by decide)
      have av8 : σ.1 8 ≤ τ_181.1 8 := ag.1 8 (by decide)
      have y18_22_τ_181 : τ_181.2.1 18 (τ_181.1 22) = σ.2.1 18 (σ.1 22) := by rw [G18, W22]
      have y21_22_τ_181 : τ_181.2.1 21 (τ_181.1 22) = σ.2.1 21 (σ.1 22) := by rw [G21, W22]
      have Z2 : τ_181.2.1 18 (τ_181.1 22) + τ_181.2.1 19 (τ_181.1 22) = (τ_181.1 7) := i181_5
      have Z3 : τ_181.2.1 21 (τ_181.1 22) + τ_181.2.1 22 (τ_181.1 22) = (τ_181.1 8) := i181_6
      have PA : J_pa (τ_181.2.1 21) (τ_181.2.1 22) := i181_7
      refine h181 u1_181 τ_181 ?_
      refine ⟨fun c32 => ?_, fun c32 => ?_⟩
      ·
        exact ⟨hT, (show ¬ (σ.1 20) = 0 → (τ_181.1 20) = (σ.1 20) from by (first | omega | (simp only [st_s] <;> omega) | assumption | omega)), (show (τ_181.1 7) ≤ 60 * (τ_181.1 22) + τ_181.2.1 19 (τ_181.1 22) from by (first | omega | (simp only [st_s] <;> omega) | assumption | omega)), (show τ_181.2.1 18 (τ_181.1 22) + τ_181.2.1 19 (τ_181.1 22) = (τ_181.1 7) from Z2), (show τ_181.2.1 21 (τ_181.1 22) + τ_181.2.1 22 (τ_181.1 22) = (τ_181.1 8) from Z3), (show J_pa (τ_181.2.1 21) (τ_181.2.1 22) from PA), ag⟩
      ·
        refine ⟨(show 0 ≤ u1_181 ∧ u1_181 < 1001 from by (first | omega | (simp only [st_s] <;> omega) | assumption | omega)), ?_⟩
        intro x34 r_x34 e_x34
        have b_x34 : 0 ≤ x34 ∧ x34 ≤ 999 := by rw [e_x34]; exact hT.2 32 _
        refine ⟨(show 0 ≤ x34 ∧ x34 < 1001 from by (first | omega | (simp only [st_s] <;> omega) | assumption | omega)), ?_⟩
        intro x36 r_x36 e_x36
        have b_x36 : 0 ≤ x36 ∧ x36 ≤ 1 := by rw [e_x36]; exact hT.2 38 _
        refine ⟨fun c37 => ?_, fun c37 => ?_⟩
        ·
          refine ⟨(⟨by (first | omega | (simp only [st_s] <;> omega) | assumption | omega), by (first | omega | (simp only [st_s] <;> omega) | assumption | omega)⟩ : rg (u1_181 + 1)), ?_⟩
          exact ih_181 _ _ (show (1502 - (u1_181 + 1) : Int) < ((m_181 : Nat) : Int) from by ((first | omega | (simp only [st_s] <;> omega) | assumption | omega))) hT ag (show τ_181.1 3 = σ.1 3 from by omega) (show τ_181.1 5 = σ.1 5 from by omega) (show τ_181.1 6 = σ.1 6 from by omega) (show τ_181.1 9 = σ.1 9 from by omega) (show τ_181.1 13 = σ.1 13 from by omega) (show τ_181.1 14 = σ.1 14 from by omega) (show τ_181.1 22 = σ.1 22 from by omega) G18 G21 (show 0 ≤ (u1_181 + 1) from by (first | omega | (simp only [st_s] <;> omega) | assumption | omega)) (show (u1_181 + 1) ≤ 1501 from by (first | omega | (simp only [st_s] <;> omega) | assumption | omega)) (show (τ_181.1 20) = (σ.1 20) from by (first | omega | (simp only [st_s] <;> omega) | assumption | omega)) (show (τ_181.1 7) ≤ 60 * (τ_181.1 22) + τ_181.2.1 19 (τ_181.1 22) from by (first | omega | (simp only [st_s] <;> omega) | assumption | omega)) (show τ_181.2.1 18 (τ_181.1 22) + τ_181.2.1 19 (τ_181.1 22) = (τ_181.1 7) from Z2) (show τ_181.2.1 21 (τ_181.1 22) + τ_181.2.1 22 (τ_181.1 22) = (τ_181.1 8) from Z3) (show J_pa (τ_181.2.1 21) (τ_181.2.1 22) from PA)
        ·
          intro x39 r_x39 e_x39
          have b_x39 : 0 ≤ x39 ∧ x39 ≤ 999 := by rw [e_x39]; exact hT.2 33 _
          refine ⟨(show 0 ≤ x39 ∧ x39 < 1001 from by (first | omega | (simp only [st_s] <;> omega) | assumption | omega)), ?_⟩
          intro x41 r_x41 e_x41
          have b_x41 : 0 ≤ x41 ∧ x41 ≤ 1 := by rw [e_x41]; exact hT.2 38 _
          refine ⟨fun c42 => ?_, fun c42 => ?_⟩
          ·
            refine ⟨(⟨by (first | omega | (simp only [st_s] <;> omega) | assumption | omega), by (first | omega | (simp only [st_s] <;> omega) | assumption | omega)⟩ : rg (u1_181 + 1)), ?_⟩
            exact ih_181 _ _ (show (1502 - (u1_181 + 1) : Int) < ((m_181 : Nat) : Int) from by ((first | omega | (simp only [st_s] <;> omega) | assumption | omega))) hT ag (show τ_181.1 3 = σ.1 3 from by omega) (show τ_181.1 5 = σ.1 5 from by omega) (show τ_181.1 6 = σ.1 6 from by omega) (show τ_181.1 9 = σ.1 9 from by omega) (show τ_181.1 13 = σ.1 13 from by omega) (show τ_181.1 14 = σ.1 14 from by omega) (show τ_181.1 22 = σ.1 22 from by omega) G18 G21 (show 0 ≤ (u1_181 + 1) from by (first | omega | (simp only [st_s] <;> omega) | assumption | omega)) (show (u1_181 + 1) ≤ 1501 from by (first | omega | (simp only [st_s] <;> omega) | assumption | omega)) (show (τ_181.1 20) = (σ.1 20) from by (first | omega | (simp only [st_s] <;> omega) | assumption | omega)) (show (τ_181.1 7) ≤ 60 * (τ_181.1 22) + τ_181.2.1 19 (τ_181.1 22) from by (first | omega | (simp only [st_s] <;> omega) | assumption | omega)) (show τ_181.2.1 18 (τ_181.1 22) + τ_181.2.1 19 (τ_181.1 22) = (τ_181.1 7) from Z2) (show τ_181.2.1 21 (τ_181.1 22) + τ_181.2.1 22 (τ_181.1 22) = (τ_181.1 8) from Z3) (show J_pa (τ_181.2.1 21) (τ_181.2.1 22) from PA)
          ·
            refine ⟨fun c44 => ?_, fun c44 => ?_⟩
            ·
              intro x45 r_x45 e_x45
              have b_x45 : 0 ≤ x45 ∧ x45 ≤ 999 := by rw [e_x45]; exact hT.2 32 _
              refine ⟨(show 0 ≤ τ_181.1 8 ∧ τ_181.1 8 < 20000 from by (first | omega | (simp only [st_s] <;> omega) | assumption | omega)), ?_⟩
              replace ag := ag_w (k := 23) (x := x45) 8 0 ag rfl (show σ.1 8 + 0 ≤ (τ_181.1 8) from by (first | omega | (simp only [st_s] <;> omega) | assumption | omega))
              replace hT := mT_a (k := 23) (j := (τ_181.1 8)) hT (show (0 : Int) ≤ x45 ∧ x45 ≤ 999 from by (first | omega | (simp only [st_s] <;> omega) | assumption | omega))
              intro x47 r_x47 e_x47
              have b_x47 : 0 ≤ x47 ∧ x47 ≤ 999 := by rw [e_x47]; exact hT.2 33 _
              replace ag := ag_w (k := 24) (x := x47) 8 0 ag rfl (show σ.1 8 + 0 ≤ (τ_181.1 8) from by (first | omega | (simp only [st_s] <;> omega) | assumption | omega))
              replace hT := mT_a (k := 24) (j := (τ_181.1 8)) hT (show (0 : Int) ≤ x47 ∧ x47 ≤ 999 from by (first | omega | (simp only [st_s] <;> omega) | assumption | omega))
              refine ⟨(⟨by (first | omega | (simp only [st_s] <;> omega) | assumption | omega), by (first | omega | (simp only [st_s] <;> omega) | assumption | omega)⟩ : rg (τ_181.1 8 + 1)), ?_⟩
              replace ag := ag_v (i := 8) (x := (τ_181.1 8 + 1)) ag (Or.inr (show σ.1 8 ≤ (τ_181.1 8 + 1) from by (first | omega | (simp only [st_s] <;> omega) | assumption | omega)))
              replace hT := mT_v (i := 8) hT (show 0 ≤ (τ_181.1 8 + 1) ∧ (τ_181.1 8 + 1) ≤ 20000 from by (first | omega | (simp only [st_s] <;> omega) | assumption | omega))
              refine ⟨(show 0 ≤ τ_181.1 22 ∧ τ_181.1 22 < 1501 from by (first | omega | (simp only [st_s] <;> omega) | assumption | omega)), ?_⟩
              intro x50 r_x50 e_x50
              have b_x50 : 0 ≤ x50 ∧ x50 ≤ 20000 := by rw [e_x50]; exact hT.2 22 _
              refine ⟨(⟨by (first | omega | (simp only [st_s] <;> omega) | assumption | omega), by (first | omega | (simp only [st_s] <;> omega) | assumption | omega)⟩ : rg (x50 + 1)), ?_⟩
              replace ag := ag_w (k := 22) (x := (x50 + 1)) 5 0 ag rfl (show σ.1 5 + 0 ≤ (τ_181.1 22) from by (first | omega | (simp only [st_s] <;> omega) | assumption | omega))
              replace hT := mT_a (k := 22) (j := (τ_181.1 22)) hT (show (0 : Int) ≤ (x50 + 1) ∧ (x50 + 1) ≤ 20000 from by (first | omega | (simp only [st_s] <;> omega) | assumption | omega))
              refine ⟨(⟨by (first | omega | (simp only [st_s] <;> omega) | assumption | omega), by (first | omega | (simp only [st_s] <;> omega) | assumption | omega)⟩ : rg (u1_181 + 1)), ?_⟩
              exact ih_181 _ _ (show (1502 - (u1_181 + 1) : Int) < ((m_181 : Nat) : Int) from by ((first | omega | (simp only [st_s] <;> omega) | assumption | omega))) hT ag (show τ_181.1 3 = σ.1 3 from by omega) (show τ_181.1 5 = σ.1 5 from by omega) (show τ_181.1 6 = σ.1 6 from by omega) (show τ_181.1 9 = σ.1 9 from by omega) (show τ_181.1 13 = σ.1 13 from by omega) (show τ_181.1 14 = σ.1 14 from by omega) (show τ_181.1 22 = σ.1 22 from by omega) G18 G21 (show 0 ≤ (u1_181 + 1) from by (first | omega | (simp only [st_s] <;> omega) | assumption | omega)) (show (u1_181 + 1) ≤ 1501 from by (first | omega | (simp only [st_s] <;> omega) | assumption | omega)) (show (τ_181.1 20) = (σ.1 20) from by (first | omega | (simp only [st_s] <;> omega) | assumption | omega)) (show (τ_181.1 7) ≤ 60 * (τ_181.1 22) + τ_181.2.1 19 (τ_181.1 22) from by (first | omega | (simp only [st_s] <;> omega) | assumption | omega)) (show τ_181.2.1 18 (τ_181.1 22) + τ_181.2.1 19 (τ_181.1 22) = (τ_181.1 7) from Z2) (show τ_181.2.1 21 (τ_181.1 22) + (st (τ_181.2.1 22) (τ_181.1 22) (x50 + 1)) (τ_181.1 22) = ((τ_181.1 8 + 1)) from by (first | omega | (simp only [st_s] <;> omega) | assumption | omega)) (show J_pa (τ_181.2.1 21) ((st (τ_181.2.1 22) (τ_181.1 22) (x50 + 1))) from by (first | assumption | exact J_pa1 PA (by omega)))
            ·
              refine ⟨_, K_X13_failHere hT (show 0 ≤ 5 from by (first | omega | (simp only [st_s] <;> omega) | assumption | omega)) (show 5 ≤ 19 from by (first | omega | (simp only [st_s] <;> omega) | assumption | omega)), ?_⟩
              intro τ55 hn_τ55 hf_τ55 hq
              obtain ⟨hT, q53_1, q53_2⟩ := hq
              replace q53_1 : ¬ (τ_181.1 20) = 0 → (τ55.1 20) = (τ_181.1 20) := q53_1
              replace q53_2 : (τ_181.1 20) = 0 → (τ55.1 20) = 5 := q53_2
              replace ag : m_ag σ τ55 := ag_r ag hf_τ55 rfl rfl
              have w3_τ55 : τ55.1 3 = τ_181.1 3 := hf_τ55.1 3 (by decide)
              have w5_τ55 : τ55.1 5 = τ_181.1 5 := hf_τ55.1 5 (by decide)
              have w6_τ55 : τ55.1 6 = τ_181.1 6 := hf_τ55.1 6 (by decide)
              have w7_τ55 : τ55.1 7 = τ_181.1 7 := hf_τ55.1 7 (by decide)
              have w8_τ55 : τ55.1 8 = τ_181.1 8 := hf_τ55.1 8 (by decide)
              have w9_τ55 : τ55.1 9 = τ_181.1 9 := hf_τ55.1 9 (by decide)
              have w13_τ55 : τ55.1 13 = τ_181.1 13 := hf_τ55.1 13 (by decide)
              have w14_τ55 : τ55.1 14 = τ_181.1 14 := hf_τ55.1 14 (by decide)
              have w22_τ55 : τ55.1 22 = τ_181.1 22 := hf_τ55.1 22 (by decide)
              have g18_τ55 : τ55.2.1 18 = τ_181.2.1 18 := hf_τ55.2.1 18 (by decide)
              have g19_τ55 : τ55.2.1 19 = τ_181.2.1 19 := hf_τ55.2.1 19 (by decide)
              have g21_τ55 : τ55.2.1 21 = τ_181.2.1 21 := hf_τ55.2.1 21 (by decide)
              have g22_τ55 : τ55.2.1 22 = τ_181.2.1 22 := hf_τ55.2.1 22 (by decide)
              have W3 : τ55.1 3 = σ.1 3 := by omega
              have W5 : τ55.1 5 = σ.1 5 := by omega
              have W6 : τ55.1 6 = σ.1 6 := by omega
              have W9 : τ55.1 9 = σ.1 9 := by omega
              have W13 : τ55.1 13 = σ.1 13 := by omega
              have W14 : τ55.1 14 = σ.1 14 := by omega
              have W22 : τ55.1 22 = σ.1 22 := by omega
              have G18 : τ55.2.1 18 = σ.2.1 18 := (g18_τ55).trans G18
              have G21 : τ55.2.1 21 = σ.2.1 21 := (g21_τ55).trans G21
              have y18_22_τ55 : τ55.2.1 18 (τ55.1 22) = (τ_181.2.1 18) (τ_181.1 22) := by rw [g18_τ55, w22_τ55]
              have y19_22_τ55 : τ55.2.1 19 (τ55.1 22) = (τ_181.2.1 19) (τ_181.1 22) := by rw [g19_τ55, w22_τ55]
              have y21_22_τ55 : τ55.2.1 21 (τ55.1 22) = (τ_181.2.1 21) (τ_181.1 22) := by rw [g21_τ55, w22_τ55]
              have y22_22_τ55 : τ55.2.1 22 (τ55.1 22) = (τ_181.2.1 22) (τ_181.1 22) := by rw [g22_τ55, w22_τ55]
              have Z2 : τ55.2.1 18 (τ55.1 22) + τ55.2.1 19 (τ55.1 22) = (τ55.1 7) := by rw [show (τ55.2.1 18 (τ55.1 22) + τ55.2.1 19 (τ55.1 22) = (τ55.1 7)) = (τ_181.2.1 18 (τ_181.1 22) + τ_181.2.1 19 (τ_181.1 22) = (τ_181.1 7)) from by rw [w7_τ55, w22_τ55, g18_τ55, g19_τ55]]; exact Z2
              have Z3 : τ55.2.1 21 (τ55.1 22) + τ55.2.1 22 (τ55.1 22) = (τ55.1 8) := by rw [show (τ55.2.1 21 (τ55.1 22) + τ55.2.1 22 (τ55.1 22) = (τ55.1 8)) = (τ_181.2.1 21 (τ_181.1 22) + τ_181.2.1 22 (τ_181.1 22) = (τ_181.1 8)) from by rw [w8_τ55, w22_τ55, g21_τ55, g22_τ55]]; exact Z3
              have PA : J_pa (τ55.2.1 21) (τ55.2.1 22) := by rw [show (J_pa (τ55.2.1 21) (τ55.2.1 22)) = (J_pa (τ_181.2.1 21) (τ_181.2.1 22)) from by rw [g21_τ55, g22_τ55]]; exact PA
              have A18 : ∀ j, 0 ≤ τ55.2.1 18 j ∧ τ55.2.1 18 j ≤ 90000 := fun j => hT.2 18 j
              have A19 : ∀ j, 0 ≤ τ55.2.1 19 j ∧ τ55.2.1 19 j ≤ 60 := fun j => hT.2 19 j
              have A21 : ∀ j, 0 ≤ τ55.2.1 21 j ∧ τ55.2.1 21 j ≤ 20000 := fun j => hT.2 21 j
              have A22 : ∀ j, 0 ≤ τ55.2.1 22 j ∧ τ55.2.1 22 j ≤ 20000 := fun j => hT.2 22 j
              have v3 : 0 ≤ τ55.1 3 ∧ τ55.1 3 ≤ 1000 := hT.1 3
              have v5 : 0 ≤ τ55.1 5 ∧ τ55.1 5 ≤ 1500 := hT.1 5
              have v6 : 0 ≤ τ55.1 6 ∧ τ55.1 6 ≤ 30000 := hT.1 6
              have v7 : 0 ≤ τ55.1 7 ∧ τ55.1 7 ≤ 90000 := hT.1 7
              have v8 : 0 ≤ τ55.1 8 ∧ τ55.1 8 ≤ 20000 := hT.1 8
              have v9 : 0 ≤ τ55.1 9 ∧ τ55.1 9 ≤ 20000 := hT.1 9
              have v13 : 0 ≤ τ55.1 13 ∧ τ55.1 13 ≤ 1500 := hT.1 13
              have v14 : 0 ≤ τ55.1 14 ∧ τ55.1 14 ≤ 1000 := hT.1 14
              have v20 : 0 ≤ τ55.1 20 ∧ τ55.1 20 ≤ 19 := hT.1 20
              have v22 : 0 ≤ τ55.1 22 ∧ τ55.1 22 ≤ 1499 := hT.1 22
              have a18_22 : 0 ≤ τ55.2.1 18 (τ55.1 22) ∧ τ55.2.1 18 (τ55.1 22) ≤ 90000 := hT.2 18 _
              have a19_22 : 0 ≤ τ55.2.1 19 (τ55.1 22) ∧ τ55.2.1 19 (τ55.1 22) ≤ 60 := hT.2 19 _
              have a21_22 : 0 ≤ τ55.2.1 21 (τ55.1 22) ∧ τ55.2.1 21 (τ55.1 22) ≤ 20000 := hT.2 21 _
              have a22_22 : 0 ≤ τ55.2.1 22 (τ55.1 22) ∧ τ55.2.1 22 (τ55.1 22) ≤ 20000 := hT.2 22 _
              have av7 : σ.1 7 ≤ τ55.1 7 := ag.1 7 (by decide)
              have av8 : σ.1 8 ≤ τ55.1 8 := ag.1 8 (by decide)
              exact ⟨hT, (show ¬ (σ.1 20) = 0 → (τ55.1 20) = (σ.1 20) from by (first | omega | (simp only [st_s] <;> omega) | assumption | omega)), (show (τ55.1 7) ≤ 60 * (τ55.1 22) + τ55.2.1 19 (τ55.1 22) from by (first | omega | (simp only [st_s] <;> omega) | assumption | omega)), (show τ55.2.1 18 (τ55.1 22) + τ55.2.1 19 (τ55.1 22) = (τ55.1 7) from Z2), (show τ55.2.1 21 (τ55.1 22) + τ55.2.1 22 (τ55.1 22) = (τ55.1 8) from Z3), (show J_pa (τ55.2.1 21) (τ55.2.1 22) from PA), ag⟩
  have l_74 : ∀ (m_74 : Nat) (u1_74 : Int) (τ_74 : S0), 1502 - u1_74 < (m_74 : Int) → (m_T τ_74) → (m_ag σ τ_74) → (τ_74.1 3 = σ.1 3) → (τ_74.1 5 = σ.1 5) → (τ_74.1 6 = σ.1 6) → (τ_74.1 9 = σ.1 9) → (τ_74.1 13 = σ.1 13) → (τ_74.1 14 = σ.1 14) → (τ_74.1 22 = σ.1 22) → (τ_74.2.1 18 = σ.2.1 18) → (τ_74.2.1 21 = σ.2.1 21) → (0 ≤ u1_74) → (u1_74 ≤ 1501) → (J_pa (τ_74.2.1 21) (τ_74.2.1 22)) → ((τ_74.1 20) = (σ.1 20)) → ((τ_74.1 8) = (σ.1 8)) → (τ_74.2.1 22 (τ_74.1 22) = σ.2.1 22 (σ.1 22)) → ((τ_74.1 7) ≤ 60 * (τ_74.1 22) + τ_74.2.1 19 (τ_74.1 22)) → (τ_74.2.1 18 (τ_74.1 22) + τ_74.2.1 19 (τ_74.1 22) = (τ_74.1 7)) → P74 u1_74 τ_74 := by
    intro m_74
    induction m_74 with
    | zero =>
      intro u1_74 τ_74 hm hT ag W3 W5 W6 W9 W13 W14 W22 G18 G21 i74_1 i74_2 i74_3 i74_4 i74_5 i74_6 i74_7 i74_8
      have A18 : ∀ j, 0 ≤ τ_74.2.1 18 j ∧ τ_74.2.1 18 j ≤ 90000 := fun j => hT.2 18 j
      have A19 : ∀ j, 0 ≤ τ_74.2.1 19 j ∧ τ_74.2.1 19 j ≤ 60 := fun j => hT.2 19 j
      have A21 : ∀ j, 0 ≤ τ_74.2.1 21 j ∧ τ_74.2.1 21 j ≤ 20000 := fun j => hT.2 21 j
      have A22 : ∀ j, 0 ≤ τ_74.2.1 22 j ∧ τ_74.2.1 22 j ≤ 20000 := fun j => hT.2 22 j
      have v3 : 0 ≤ τ_74.1 3 ∧ τ_74.1 3 ≤ 1000 := hT.1 3
      have v5 : 0 ≤ τ_74.1 5 ∧ τ_74.1 5 ≤ 1500 := hT.1 5
      have v6 : 0 ≤ τ_74.1 6 ∧ τ_74.1 6 ≤ 30000 := hT.1 6
      have v7 : 0 ≤ τ_74.1 7 ∧ τ_74.1 7 ≤ 90000 := hT.1 7
      have v8 : 0 ≤ τ_74.1 8 ∧ τ_74.1 8 ≤ 20000 := hT.1 8
      have v9 : 0 ≤ τ_74.1 9 ∧ τ_74.1 9 ≤ 20000 := hT.1 9
      have v13 : 0 ≤ τ_74.1 13 ∧ τ_74.1 13 ≤ 1500 := hT.1 13
      have v14 : 0 ≤ τ_74.1 14 ∧ τ_74.1 14 ≤ 1000 := hT.1 14
      have v20 : 0 ≤ τ_74.1 20 ∧ τ_74.1 20 ≤ 19 := hT.1 20
      have v22 : 0 ≤ τ_74.1 22 ∧ τ_74.1 22 ≤ 1499 := hT.1 22
      have a18_22 : 0 ≤ τ_74.2.1 18 (τ_74.1 22) ∧ τ_74.2.1 18 (τ_74.1 22) ≤ 90000 := hT.2 18 _
      have a19_22 : 0 ≤ τ_74.2.1 19 (τ_74.1 22) ∧ τ_74.2.1 19 (τ_74.1 22) ≤ 60 := hT.2 19 _
      have a21_22 : 0 ≤ τ_74.2.1 21 (τ_74.1 22) ∧ τ_74.2.1 21 (τ_74.1 22) ≤ 20000 := hT.2 21 _
      have a22_22 : 0 ≤ τ_74.2.1 22 (τ_74.1 22) ∧ τ_74.2.1 22 (τ_74.1 22) ≤ 20000 := hT.2 22 _
      have av7 : σ.1 7 ≤ τ_74.1 7 := ag.1 7 (by decide)
      have av8 : σ.1 8 ≤ τ_74.1 8 := ag.1 8 (by decide)
      exfalso; (first | omega | (simp only [st_s] <;> omega) | assumption | omega)
    | succ m_74 ih_74 =>
      intro u1_74 τ_74 hm_74 hT ag W3 W5 W6 W9 W13 W14 W22 G18 G21 i74_1 i74_2 i74_3 i74_4 i74_5 i74_6 i74_7 i74_8
      have A18 : ∀ j, 0 ≤ τ_74.2.1 18 j ∧ τ_74.2.1 18 j ≤ 90000 := fun j => hT.2 18 j
      have A19 : ∀ j, 0 ≤ τ_74.2.1 19 j ∧ τ_74.2.1 19 j ≤ 60 := fun j => hT.2 19 j
      have A21 : ∀ j, 0 ≤ τ_74.2.1 21 j ∧ τ_74.2.1 21 j ≤ 20000 := fun j => hT.2 21 j
      have A22 : ∀ j, 0 ≤ τ_74.2.1 22 j ∧ τ_74.2.1 22 j ≤ 20000 := fun j => hT.2 22 j
      have v3 : 0 ≤ τ_74.1 3 ∧ τ_74.1 3 ≤ 1000 := hT.1 3
      have v5 : 0 ≤ τ_74.1 5 ∧ τ_74.1 5 ≤ 1500 := hT.1 5
      have v6 : 0 ≤ τ_74.1 6 ∧ τ_74.1 6 ≤ 30000 := hT.1 6
      have v7 : 0 ≤ τ_74.1 7 ∧ τ_74.1 7 ≤ 90000 := hT.1 7
      have v8 : 0 ≤ τ_74.1 8 ∧ τ_74.1 8 ≤ 20000 := hT.1 8
      have v9 : 0 ≤ τ_74.1 9 ∧ τ_74.1 9 ≤ 20000 := hT.1 9
      have v13 : 0 ≤ τ_74.1 13 ∧ τ_74.1 13 ≤ 1500 := hT.1 13
      have v14 : 0 ≤ τ_74.1 14 ∧ τ_74.1 14 ≤ 1000 := hT.1 14
      have v20 : 0 ≤ τ_74.1 20 ∧ τ_74.1 20 ≤ 19 := hT.1 20
      have v22 : 0 ≤ τ_74.1 22 ∧ τ_74.1 22 ≤ 1499 := hT.1 22
      have a18_22 : 0 ≤ τ_74.2.1 18 (τ_74.1 22) ∧ τ_74.2.1 18 (τ_74.1 22) ≤ 90000 := hT.2 18 _
      have a19_22 : 0 ≤ τ_74.2.1 19 (τ_74.1 22) ∧ τ_74.2.1 19 (τ_74.1 22) ≤ 60 := hT.2 19 _
      have a21_22 : 0 ≤ τ_74.2.1 21 (τ_74.1 22) ∧ τ_74.2.1 21 (τ_74.1 22) ≤ 20000 := hT.2 21 _
      have a22_22 : 0 ≤ τ_74.2.1 22 (τ_74.1 22) ∧ τ_74.2.1 22 (τ_74.1 22) ≤ 20000 := hT.2 22 _
      have av7 : σ.1 7 ≤ τ_74.1 7 := ag.1 7 (by decide)
      have av8 : σ.1 8 ≤ τ_74.1 8 := ag.1 8 (by decide)
      have y18_22_τ_74 : τ_74.2.1 18 (τ_74.1 22) = σ.2.1 18 (σ.1 22) := by rw [G18, W22]
      have y21_22_τ_74 : τ_74.2.1 21 (τ_74.1 22) = σ.2.1 21 (σ.1 22) := by rw [G21, W22]
      have Z2 : τ_74.2.1 18 (τ_74.1 22) + τ_74.2.1 19 (τ_74.1 22) = (τ_74.1 7) := i74_8
      have PA : J_pa (τ_74.2.1 21) (τ_74.2.1 22) := i74_3
      refine h74 u1_74 τ_74 ?_
      refine ⟨fun c19 => ?_, fun c19 => ?_⟩
      ·
        exact l_181 ((1502 - 0 : Int).toNat + 1) _ _ (show (1502 - 0 : Int) < (((1502 - 0 : Int).toNat + 1 : Nat) : Int) from by ((first | omega | (simp only [st_s] <;> omega) | assumption | omega))) hT ag (show τ_74.1 3 = σ.1 3 from by omega) (show τ_74.1 5 = σ.1 5 from by omega) (show τ_74.1 6 = σ.1 6 from by omega) (show τ_74.1 9 = σ.1 9 from by omega) (show τ_74.1 13 = σ.1 13 from by omega) (show τ_74.1 14 = σ.1 14 from by omega) (show τ_74.1 22 = σ.1 22 from by omega) G18 G21 (show 0 ≤ 0 from by (first | omega | (simp only [st_s] <;> omega) | assumption | omega)) (show 0 ≤ 1501 from by (first | omega | (simp only [st_s] <;> omega) | assumption | omega)) (show (τ_74.1 20) = (σ.1 20) from by (first | omega | (simp only [st_s] <;> omega) | assumption | omega)) (show (τ_74.1 7) ≤ 60 * (τ_74.1 22) + τ_74.2.1 19 (τ_74.1 22) from by (first | omega | (simp only [st_s] <;> omega) | assumption | omega)) (show τ_74.2.1 18 (τ_74.1 22) + τ_74.2.1 19 (τ_74.1 22) = (τ_74.1 7) from Z2) (show τ_74.2.1 21 (τ_74.1 22) + τ_74.2.1 22 (τ_74.1 22) = (τ_74.1 8) from by (first | omega | (simp only [st_s] <;> omega) | assumption | omega)) (show J_pa (τ_74.2.1 21) (τ_74.2.1 22) from PA)
      ·
        refine ⟨(show 0 ≤ u1_74 ∧ u1_74 < 1501 from by (first | omega | (simp only [st_s] <;> omega) | assumption | omega)), ?_⟩
        intro x21 r_x21 e_x21
        have b_x21 : 0 ≤ x21 ∧ x21 ≤ 1499 := by rw [e_x21]; exact hT.2 31 _
        refine ⟨(show 0 ≤ x21 ∧ x21 < 1501 from by (first | omega | (simp only [st_s] <;> omega) | assumption | omega)), ?_⟩
        intro x23 r_x23 e_x23
        have b_x23 : 0 ≤ x23 ∧ x23 ≤ 4 := by rw [e_x23]; exact hT.2 13 _
        refine ⟨fun c24 => ?_, fun c24 => ?_⟩
        ·
          refine h120 _ _ _ ?_
          refine ⟨(show 0 ≤ τ_74.1 22 ∧ τ_74.1 22 < 1501 from by (first | omega | (simp only [st_s] <;> omega) | assumption | omega)), ?_⟩
          intro x57 r_x57 e_x57
          have b_x57 : 0 ≤ x57 ∧ x57 ≤ 60 := by rw [e_x57]; exact hT.2 19 _
          refine ⟨fun c58 => ?_, fun c58 => ?_⟩
          ·
            refine ⟨(show 0 ≤ τ_74.1 7 ∧ τ_74.1 7 < 90100 from by (first | omega | (simp only [st_s] <;> omega) | assumption | omega)), ?_⟩
            replace ag := ag_w (k := 20) (x := x21) 7 0 ag rfl (show σ.1 7 + 0 ≤ (τ_74.1 7) from by (first | omega | (simp only [st_s] <;> omega) | assumption | omega))
            replace hT := mT_a (k := 20) (j := (τ_74.1 7)) hT (show (0 : Int) ≤ x21 ∧ x21 ≤ 1499 from by (first | omega | (simp only [st_s] <;> omega) | assumption | omega))
            refine ⟨(⟨by (first | omega | (simp only [st_s] <;> omega) | assumption | omega), by (first | omega | (simp only [st_s] <;> omega) | assumption | omega)⟩ : rg (τ_74.1 7 + 1)), ?_⟩
            replace ag := ag_v (i := 7) (x := (τ_74.1 7 + 1)) ag (Or.inr (show σ.1 7 ≤ (τ_74.1 7 + 1) from by (first | omega | (simp only [st_s] <;> omega) | assumption | omega)))
            replace hT := mT_v (i := 7) hT (show 0 ≤ (τ_74.1 7 + 1) ∧ (τ_74.1 7 + 1) ≤ 90000 from by (first | omega | (simp only [st_s] <;> omega) | assumption | omega))
            intro x61 r_x61 e_x61
            have b_x61 : 0 ≤ x61 ∧ x61 ≤ 60 := by rw [e_x61]; exact hT.2 19 _
            refine ⟨(⟨by (first | omega | (simp only [st_s] <;> omega) | assumption | omega), by (first | omega | (simp only [st_s] <;> omega) | assumption | omega)⟩ : rg (x61 + 1)), ?_⟩
            replace ag := ag_w (k := 19) (x := (x61 + 1)) 5 0 ag rfl (show σ.1 5 + 0 ≤ (τ_74.1 22) from by (first | omega | (simp only [st_s] <;> omega) | assumption | omega))
            replace hT := mT_a (k := 19) (j := (τ_74.1 22)) hT (show (0 : Int) ≤ (x61 + 1) ∧ (x61 + 1) ≤ 60 from by (first | omega | (simp only [st_s] <;> omega) | assumption | omega))
            refine ⟨(⟨by (first | omega | (simp only [st_s] <;> omega) | assumption | omega), by (first | omega | (simp only [st_s] <;> omega) | assumption | omega)⟩ : rg (u1_74 + 1)), ?_⟩
            exact ih_74 _ _ (show (1502 - (u1_74 + 1) : Int) < ((m_74 : Nat) : Int) from by ((first | omega | (simp only [st_s] <;> omega) | assumption | omega))) hT ag (show τ_74.1 3 = σ.1 3 from by omega) (show τ_74.1 5 = σ.1 5 from by omega) (show τ_74.1 6 = σ.1 6 from by omega) (show τ_74.1 9 = σ.1 9 from by omega) (show τ_74.1 13 = σ.1 13 from by omega) (show τ_74.1 14 = σ.1 14 from by omega) (show τ_74.1 22 = σ.1 22 from by omega) G18 G21 (show 0 ≤ (u1_74 + 1) from by (first | omega | (simp only [st_s] <;> omega) | assumption | omega)) (show (u1_74 + 1) ≤ 1501 from by (first | omega | (simp only [st_s] <;> omega) | assumption | omega)) (show J_pa (τ_74.2.1 21) (τ_74.2.1 22) from PA) (show (τ_74.1 20) = (σ.1 20) from by (first | omega | (simp only [st_s] <;> omega) | assumption | omega)) (show (τ_74.1 8) = (σ.1 8) from by (first | omega | (simp only [st_s] <;> omega) | assumption | omega)) (show τ_74.2.1 22 (τ_74.1 22) = σ.2.1 22 (σ.1 22) from by (first | omega | (simp only [st_s] <;> omega) | assumption | omega)) (show ((τ_74.1 7 + 1)) ≤ 60 * (τ_74.1 22) + (st (τ_74.2.1 19) (τ_74.1 22) (x61 + 1)) (τ_74.1 22) from by (first | omega | (simp only [st_s] <;> omega) | assumption | omega)) (show τ_74.2.1 18 (τ_74.1 22) + (st (τ_74.2.1 19) (τ_74.1 22) (x61 + 1)) (τ_74.1 22) = ((τ_74.1 7 + 1)) from by (first | omega | (simp only [st_s] <;> omega) | assumption | omega))
          ·
            refine ⟨_, K_X13_failHere hT (show 0 ≤ 5 from by (first | omega | (simp only [st_s] <;> omega) | assumption | omega)) (show 5 ≤ 19 from by (first | omega | (simp only [st_s] <;> omega) | assumption | omega)), ?_⟩
            intro τ66 hn_τ66 hf_τ66 hq
            obtain ⟨hT, q64_1, q64_2⟩ := hq
            replace q64_1 : ¬ (τ_74.1 20) = 0 → (τ66.1 20) = (τ_74.1 20) := q64_1
            replace q64_2 : (τ_74.1 20) = 0 → (τ66.1 20) = 5 := q64_2
            replace ag : m_ag σ τ66 := ag_r ag hf_τ66 rfl rfl
            have w3_τ66 : τ66.1 3 = τ_74.1 3 := hf_τ66.1 3 (by decide)
            have w5_τ66 : τ66.1 5 = τ_74.1 5 := hf_τ66.1 5 (by decide)
            have w6_τ66 : τ66.1 6 = τ_74.1 6 := hf_τ66.1 6 (by decide)
            have w7_τ66 : τ66.1 7 = τ_74.1 7 := hf_τ66.1 7 (by decide)
            have w8_τ66 : τ66.1 8 = τ_74.1 8 := hf_τ66.1 8 (by decide)
            have w9_τ66 : τ66.1 9 = τ_74.1 9 := hf_τ66.1 9 (by decide)
            have w13_τ66 : τ66.1 13 = τ_74.1 13 := hf_τ66.1 13 (by decide)
            have w14_τ66 : τ66.1 14 = τ_74.1 14 := hf_τ66.1 14 (by decide)
            have w22_τ66 : τ66.1 22 = τ_74.1 22 := hf_τ66.1 22 (by decide)
            have g18_τ66 : τ66.2.1 18 = τ_74.2.1 18 := hf_τ66.2.1 18 (by decide)
            have g19_τ66 : τ66.2.1 19 = τ_74.2.1 19 := hf_τ66.2.1 19 (by decide)
            have g21_τ66 : τ66.2.1 21 = τ_74.2.1 21 := hf_τ66.2.1 21 (by decide)
            have g22_τ66 : τ66.2.1 22 = τ_74.2.1 22 := hf_τ66.2.1 22 (by decide)
            have W3 : τ66.1 3 = σ.1 3 := by omega
            have W5 : τ66.1 5 = σ.1 5 := by omega
            have W6 : τ66.1 6 = σ.1 6 := by omega
            have W9 : τ66.1 9 = σ.1 9 := by omega
            have W13 : τ66.1 13 = σ.1 13 := by omega
            have W14 : τ66.1 14 = σ.1 14 := by omega
            have W22 : τ66.1 22 = σ.1 22 := by omega
            have G18 : τ66.2.1 18 = σ.2.1 18 := (g18_τ66).trans G18
            have G21 : τ66.2.1 21 = σ.2.1 21 := (g21_τ66).trans G21
            have y18_22_τ66 : τ66.2.1 18 (τ66.1 22) = (τ_74.2.1 18) (τ_74.1 22) := by rw [g18_τ66, w22_τ66]
            have y19_22_τ66 : τ66.2.1 19 (τ66.1 22) = (τ_74.2.1 19) (τ_74.1 22) := by rw [g19_τ66, w22_τ66]
            have y21_22_τ66 : τ66.2.1 21 (τ66.1 22) = (τ_74.2.1 21) (τ_74.1 22) := by rw [g21_τ66, w22_τ66]
            have y22_22_τ66 : τ66.2.1 22 (τ66.1 22) = (τ_74.2.1 22) (τ_74.1 22) := by rw [g22_τ66, w22_τ66]
            have Z2 : τ66.2.1 18 (τ66.1 22) + τ66.2.1 19 (τ66.1 22) = (τ66.1 7) := by rw [show (τ66.2.1 18 (τ66.1 22) + τ66.2.1 19 (τ66.1 22) = (τ66.1 7)) = (τ_74.2.1 18 (τ_74.1 22) + τ_74.2.1 19 (τ_74.1 22) = (τ_74.1 7)) from by rw [w7_τ66, w22_τ66, g18_τ66, g19_τ66]]; exact Z2
            have PA : J_pa (τ66.2.1 21) (τ66.2.1 22) := by rw [show (J_pa (τ66.2.1 21) (τ66.2.1 22)) = (J_pa (τ_74.2.1 21) (τ_74.2.1 22)) from by rw [g21_τ66, g22_τ66]]; exact PA
            have A18 : ∀ j, 0 ≤ τ66.2.1 18 j ∧ τ66.2.1 18 j ≤ 90000 := fun j => hT.2 18 j
            have A19 : ∀ j, 0 ≤ τ66.2.1 19 j ∧ τ66.2.1 19 j ≤ 60 := fun j => hT.2 19 j
            have A21 : ∀ j, 0 ≤ τ66.2.1 21 j ∧ τ66.2.1 21 j ≤ 20000 := fun j => hT.2 21 j
            have A22 : ∀ j, 0 ≤ τ66.2.1 22 j ∧ τ66.2.1 22 j ≤ 20000 := fun j => hT.2 22 j
            have v3 : 0 ≤ τ66.1 3 ∧ τ66.1 3 ≤ 1000 := hT.1 3
            have v5 : 0 ≤ τ66.1 5 ∧ τ66.1 5 ≤ 1500 := hT.1 5
            have v6 : 0 ≤ τ66.1 6 ∧ τ66.1 6 ≤ 30000 := hT.1 6
            have v7 : 0 ≤ τ66.1 7 ∧ τ66.1 7 ≤ 90000 := hT.1 7
            have v8 : 0 ≤ τ66.1 8 ∧ τ66.1 8 ≤ 20000 := hT.1 8
            have v9 : 0 ≤ τ66.1 9 ∧ τ66.1 9 ≤ 20000 := hT.1 9
            have v13 : 0 ≤ τ66.1 13 ∧ τ66.1 13 ≤ 1500 := hT.1 13
            have v14 : 0 ≤ τ66.1 14 ∧ τ66.1 14 ≤ 1000 := hT.1 14
            have v20 : 0 ≤ τ66.1 20 ∧ τ66.1 20 ≤ 19 := hT.1 20
            have v22 : 0 ≤ τ66.1 22 ∧ τ66.1 22 ≤ 1499 := hT.1 22
            have a18_22 : 0 ≤ τ66.2.1 18 (τ66.1 22) ∧ τ66.2.1 18 (τ66.1 22) ≤ 90000 := hT.2 18 _
            have a19_22 : 0 ≤ τ66.2.1 19 (τ66.1 22) ∧ τ66.2.1 19 (τ66.1 22) ≤ 60 := hT.2 19 _
            have a21_22 : 0 ≤ τ66.2.1 21 (τ66.1 22) ∧ τ66.2.1 21 (τ66.1 22) ≤ 20000 := hT.2 21 _
            have a22_22 : 0 ≤ τ66.2.1 22 (τ66.1 22) ∧ τ66.2.1 22 (τ66.1 22) ≤ 20000 := hT.2 22 _
            have av7 : σ.1 7 ≤ τ66.1 7 := ag.1 7 (by decide)
            have av8 : σ.1 8 ≤ τ66.1 8 := ag.1 8 (by decide)
            exact ⟨hT, (show ¬ (σ.1 20) = 0 → (τ66.1 20) = (σ.1 20) from by (first | omega | (simp only [st_s] <;> omega) | assumption | omega)), (show (τ66.1 7) ≤ 60 * (τ66.1 22) + τ66.2.1 19 (τ66.1 22) from by (first | omega | (simp only [st_s] <;> omega) | assumption | omega)), (show τ66.2.1 18 (τ66.1 22) + τ66.2.1 19 (τ66.1 22) = (τ66.1 7) from Z2), (show τ66.2.1 21 (τ66.1 22) + τ66.2.1 22 (τ66.1 22) = (τ66.1 8) from by (first | omega | (simp only [st_s] <;> omega) | assumption | omega)), (show J_pa (τ66.2.1 21) (τ66.2.1 22) from PA), ag⟩
        ·
          intro x25 r_x25 e_x25
          have b_x25 : 0 ≤ x25 ∧ x25 ≤ 30000 := by rw [e_x25]; exact hT.2 14 _
          refine ⟨(show 0 ≤ (x25 + 1) ∧ (x25 + 1) < 30400 from by (first | omega | (simp only [st_s] <;> omega) | assumption | omega)), ?_⟩
          intro x27 r_x27 e_x27
          have b_x27 : 0 ≤ x27 ∧ x27 ≤ 999 := by rw [e_x27]; exact hT.2 16 _
          refine ⟨(show 0 ≤ x27 ∧ x27 < 1001 from by (first | omega | (simp only [st_s] <;> omega) | assumption | omega)), ?_⟩
          intro x29 r_x29 e_x29
          have b_x29 : 0 ≤ x29 ∧ x29 ≤ 1 := by rw [e_x29]; exact hT.2 38 _
          refine ⟨fun c30 => ?_, fun c30 => ?_⟩
          ·
            refine ⟨(⟨by (first | omega | (simp only [st_s] <;> omega) | assumption | omega), by (first | omega | (simp only [st_s] <;> omega) | assumption | omega)⟩ : rg (u1_74 + 1)), ?_⟩
            exact ih_74 _ _ (show (1502 - (u1_74 + 1) : Int) < ((m_74 : Nat) : Int) from by ((first | omega | (simp only [st_s] <;> omega) | assumption | omega))) hT ag (show τ_74.1 3 = σ.1 3 from by omega) (show τ_74.1 5 = σ.1 5 from by omega) (show τ_74.1 6 = σ.1 6 from by omega) (show τ_74.1 9 = σ.1 9 from by omega) (show τ_74.1 13 = σ.1 13 from by omega) (show τ_74.1 14 = σ.1 14 from by omega) (show τ_74.1 22 = σ.1 22 from by omega) G18 G21 (show 0 ≤ (u1_74 + 1) from by (first | omega | (simp only [st_s] <;> omega) | assumption | omega)) (show (u1_74 + 1) ≤ 1501 from by (first | omega | (simp only [st_s] <;> omega) | assumption | omega)) (show J_pa (τ_74.2.1 21) (τ_74.2.1 22) from PA) (show (τ_74.1 20) = (σ.1 20) from by (first | omega | (simp only [st_s] <;> omega) | assumption | omega)) (show (τ_74.1 8) = (σ.1 8) from by (first | omega | (simp only [st_s] <;> omega) | assumption | omega)) (show τ_74.2.1 22 (τ_74.1 22) = σ.2.1 22 (σ.1 22) from by (first | omega | (simp only [st_s] <;> omega) | assumption | omega)) (show (τ_74.1 7) ≤ 60 * (τ_74.1 22) + τ_74.2.1 19 (τ_74.1 22) from by (first | omega | (simp only [st_s] <;> omega) | assumption | omega)) (show τ_74.2.1 18 (τ_74.1 22) + τ_74.2.1 19 (τ_74.1 22) = (τ_74.1 7) from Z2)
          ·
            refine h120 _ _ _ ?_
            refine ⟨(show 0 ≤ τ_74.1 22 ∧ τ_74.1 22 < 1501 from by (first | omega | (simp only [st_s] <;> omega) | assumption | omega)), ?_⟩
            intro x57 r_x57 e_x57
            have b_x57 : 0 ≤ x57 ∧ x57 ≤ 60 := by rw [e_x57]; exact hT.2 19 _
            refine ⟨fun c58 => ?_, fun c58 => ?_⟩
            ·
              refine ⟨(show 0 ≤ τ_74.1 7 ∧ τ_74.1 7 < 90100 from by (first | omega | (simp only [st_s] <;> omega) | assumption | omega)), ?_⟩
              replace ag := ag_w (k := 20) (x := x21) 7 0 ag rfl (show σ.1 7 + 0 ≤ (τ_74.1 7) from by (first | omega | (simp only [st_s] <;> omega) | assumption | omega))
              replace hT := mT_a (k := 20) (j := (τ_74.1 7)) hT (show (0 : Int) ≤ x21 ∧ x21 ≤ 1499 from by (first | omega | (simp only [st_s] <;> omega) | assumption | omega))
              refine ⟨(⟨by (first | omega | (simp only [st_s] <;> omega) | assumption | omega), by (first | omega | (simp only [st_s] <;> omega) | assumption | omega)⟩ : rg (τ_74.1 7 + 1)), ?_⟩
              replace ag := ag_v (i := 7) (x := (τ_74.1 7 + 1)) ag (Or.inr (show σ.1 7 ≤ (τ_74.1 7 + 1) from by (first | omega | (simp only [st_s] <;> omega) | assumption | omega)))
              replace hT := mT_v (i := 7) hT (show 0 ≤ (τ_74.1 7 + 1) ∧ (τ_74.1 7 + 1) ≤ 90000 from by (first | omega | (simp only [st_s] <;> omega) | assumption | omega))
              intro x61 r_x61 e_x61
              have b_x61 : 0 ≤ x61 ∧ x61 ≤ 60 := by rw [e_x61]; exact hT.2 19 _
              refine ⟨(⟨by (first | omega | (simp only [st_s] <;> omega) | assumption | omega), by (first | omega | (simp only [st_s] <;> omega) | assumption | omega)⟩ : rg (x61 + 1)), ?_⟩
              replace ag := ag_w (k := 19) (x := (x61 + 1)) 5 0 ag rfl (show σ.1 5 + 0 ≤ (τ_74.1 22) from by (first | omega | (simp only [st_s] <;> omega) | assumption | omega))
              replace hT := mT_a (k := 19) (j := (τ_74.1 22)) hT (show (0 : Int) ≤ (x61 + 1) ∧ (x61 + 1) ≤ 60 from by (first | omega | (simp only [st_s] <;> omega) | assumption | omega))
              refine ⟨(⟨by (first | omega | (simp only [st_s] <;> omega) | assumption | omega), by (first | omega | (simp only [st_s] <;> omega) | assumption | omega)⟩ : rg (u1_74 + 1)), ?_⟩
              exact ih_74 _ _ (show (1502 - (u1_74 + 1) : Int) < ((m_74 : Nat) : Int) from by ((first | omega | (simp only [st_s] <;> omega) | assumption | omega))) hT ag (show τ_74.1 3 = σ.1 3 from by omega) (show τ_74.1 5 = σ.1 5 from by omega) (show τ_74.1 6 = σ.1 6 from by omega) (show τ_74.1 9 = σ.1 9 from by omega) (show τ_74.1 13 = σ.1 13 from by omega) (show τ_74.1 14 = σ.1 14 from by omega) (show τ_74.1 22 = σ.1 22 from by omega) G18 G21 (show 0 ≤ (u1_74 + 1) from by (first | omega | (simp only [st_s] <;> omega) | assumption | omega)) (show (u1_74 + 1) ≤ 1501 from by (first | omega | (simp only [st_s] <;> omega) | assumption | omega)) (show J_pa (τ_74.2.1 21) (τ_74.2.1 22) from PA) (show (τ_74.1 20) = (σ.1 20) from by (first | omega | (simp only [st_s] <;> omega) | assumption | omega)) (show (τ_74.1 8) = (σ.1 8) from by (first | omega | (simp only [st_s] <;> omega) | assumption | omega)) (show τ_74.2.1 22 (τ_74.1 22) = σ.2.1 22 (σ.1 22) from by (first | omega | (simp only [st_s] <;> omega) | assumption | omega)) (show ((τ_74.1 7 + 1)) ≤ 60 * (τ_74.1 22) + (st (τ_74.2.1 19) (τ_74.1 22) (x61 + 1)) (τ_74.1 22) from by (first | omega | (simp only [st_s] <;> omega) | assumption | omega)) (show τ_74.2.1 18 (τ_74.1 22) + (st (τ_74.2.1 19) (τ_74.1 22) (x61 + 1)) (τ_74.1 22) = ((τ_74.1 7 + 1)) from by (first | omega | (simp only [st_s] <;> omega) | assumption | omega))
            ·
              refine ⟨_, K_X13_failHere hT (show 0 ≤ 5 from by (first | omega | (simp only [st_s] <;> omega) | assumption | omega)) (show 5 ≤ 19 from by (first | omega | (simp only [st_s] <;> omega) | assumption | omega)), ?_⟩
              intro τ66 hn_τ66 hf_τ66 hq
              obtain ⟨hT, q64_1, q64_2⟩ := hq
              replace q64_1 : ¬ (τ_74.1 20) = 0 → (τ66.1 20) = (τ_74.1 20) := q64_1
              replace q64_2 : (τ_74.1 20) = 0 → (τ66.1 20) = 5 := q64_2
              replace ag : m_ag σ τ66 := ag_r ag hf_τ66 rfl rfl
              have w3_τ66 : τ66.1 3 = τ_74.1 3 := hf_τ66.1 3 (by decide)
              have w5_τ66 : τ66.1 5 = τ_74.1 5 := hf_τ66.1 5 (by decide)
              have w6_τ66 : τ66.1 6 = τ_74.1 6 := hf_τ66.1 6 (by decide)
              have w7_τ66 : τ66.1 7 = τ_74.1 7 := hf_τ66.1 7 (by decide)
              have w8_τ66 : τ66.1 8 = τ_74.1 8 := hf_τ66.1 8 (by decide)
              have w9_τ66 : τ66.1 9 = τ_74.1 9 := hf_τ66.1 9 (by decide)
              have w13_τ66 : τ66.1 13 = τ_74.1 13 := hf_τ66.1 13 (by decide)
              have w14_τ66 : τ66.1 14 = τ_74.1 14 := hf_τ66.1 14 (by decide)
              have w22_τ66 : τ66.1 22 = τ_74.1 22 := hf_τ66.1 22 (by decide)
              have g18_τ66 : τ66.2.1 18 = τ_74.2.1 18 := hf_τ66.2.1 18 (by decide)
              have g19_τ66 : τ66.2.1 19 = τ_74.2.1 19 := hf_τ66.2.1 19 (by decide)
              have g21_τ66 : τ66.2.1 21 = τ_74.2.1 21 := hf_τ66.2.1 21 (by decide)
              have g22_τ66 : τ66.2.1 22 = τ_74.2.1 22 := hf_τ66.2.1 22 (by decide)
              have W3 : τ66.1 3 = σ.1 3 := by omega
              have W5 : τ66.1 5 = σ.1 5 := by omega
              have W6 : τ66.1 6 = σ.1 6 := by omega
              have W9 : τ66.1 9 = σ.1 9 := by omega
              have W13 : τ66.1 13 = σ.1 13 := by omega
              have W14 : τ66.1 14 = σ.1 14 := by omega
              have W22 : τ66.1 22 = σ.1 22 := by omega
              have G18 : τ66.2.1 18 = σ.2.1 18 := (g18_τ66).trans G18
              have G21 : τ66.2.1 21 = σ.2.1 21 := (g21_τ66).trans G21
              have y18_22_τ66 : τ66.2.1 18 (τ66.1 22) = (τ_74.2.1 18) (τ_74.1 22) := by rw [g18_τ66, w22_τ66]
              have y19_22_τ66 : τ66.2.1 19 (τ66.1 22) = (τ_74.2.1 19) (τ_74.1 22) := by rw [g19_τ66, w22_τ66]
              have y21_22_τ66 : τ66.2.1 21 (τ66.1 22) = (τ_74.2.1 21) (τ_74.1 22) := by rw [g21_τ66, w22_τ66]
              have y22_22_τ66 : τ66.2.1 22 (τ66.1 22) = (τ_74.2.1 22) (τ_74.1 22) := by rw [g22_τ66, w22_τ66]
              have Z2 : τ66.2.1 18 (τ66.1 22) + τ66.2.1 19 (τ66.1 22) = (τ66.1 7) := by rw [show (τ66.2.1 18 (τ66.1 22) + τ66.2.1 19 (τ66.1 22) = (τ66.1 7)) = (τ_74.2.1 18 (τ_74.1 22) + τ_74.2.1 19 (τ_74.1 22) = (τ_74.1 7)) from by rw [w7_τ66, w22_τ66, g18_τ66, g19_τ66]]; exact Z2
              have PA : J_pa (τ66.2.1 21) (τ66.2.1 22) := by rw [show (J_pa (τ66.2.1 21) (τ66.2.1 22)) = (J_pa (τ_74.2.1 21) (τ_74.2.1 22)) from by rw [g21_τ66, g22_τ66]]; exact PA
              have A18 : ∀ j, 0 ≤ τ66.2.1 18 j ∧ τ66.2.1 18 j ≤ 90000 := fun j => hT.2 18 j
              have A19 : ∀ j, 0 ≤ τ66.2.1 19 j ∧ τ66.2.1 19 j ≤ 60 := fun j => hT.2 19 j
              have A21 : ∀ j, 0 ≤ τ66.2.1 21 j ∧ τ66.2.1 21 j ≤ 20000 := fun j => hT.2 21 j
              have A22 : ∀ j, 0 ≤ τ66.2.1 22 j ∧ τ66.2.1 22 j ≤ 20000 := fun j => hT.2 22 j
              have v3 : 0 ≤ τ66.1 3 ∧ τ66.1 3 ≤ 1000 := hT.1 3
              have v5 : 0 ≤ τ66.1 5 ∧ τ66.1 5 ≤ 1500 := hT.1 5
              have v6 : 0 ≤ τ66.1 6 ∧ τ66.1 6 ≤ 30000 := hT.1 6
              have v7 : 0 ≤ τ66.1 7 ∧ τ66.1 7 ≤ 90000 := hT.1 7
              have v8 : 0 ≤ τ66.1 8 ∧ τ66.1 8 ≤ 20000 := hT.1 8
              have v9 : 0 ≤ τ66.1 9 ∧ τ66.1 9 ≤ 20000 := hT.1 9
              have v13 : 0 ≤ τ66.1 13 ∧ τ66.1 13 ≤ 1500 := hT.1 13
              have v14 : 0 ≤ τ66.1 14 ∧ τ66.1 14 ≤ 1000 := hT.1 14
              have v20 : 0 ≤ τ66.1 20 ∧ τ66.1 20 ≤ 19 := hT.1 20
              have v22 : 0 ≤ τ66.1 22 ∧ τ66.1 22 ≤ 1499 := hT.1 22
              have a18_22 : 0 ≤ τ66.2.1 18 (τ66.1 22) ∧ τ66.2.1 18 (τ66.1 22) ≤ 90000 := hT.2 18 _
              have a19_22 : 0 ≤ τ66.2.1 19 (τ66.1 22) ∧ τ66.2.1 19 (τ66.1 22) ≤ 60 := hT.2 19 _
              have a21_22 : 0 ≤ τ66.2.1 21 (τ66.1 22) ∧ τ66.2.1 21 (τ66.1 22) ≤ 20000 := hT.2 21 _
              have a22_22 : 0 ≤ τ66.2.1 22 (τ66.1 22) ∧ τ66.2.1 22 (τ66.1 22) ≤ 20000 := hT.2 22 _
              have av7 : σ.1 7 ≤ τ66.1 7 := ag.1 7 (by decide)
              have av8 : σ.1 8 ≤ τ66.1 8 := ag.1 8 (by decide)
              exact ⟨hT, (show ¬ (σ.1 20) = 0 → (τ66.1 20) = (σ.1 20) from by (first | omega | (simp only [st_s] <;> omega) | assumption | omega)), (show (τ66.1 7) ≤ 60 * (τ66.1 22) + τ66.2.1 19 (τ66.1 22) from by (first | omega | (simp only [st_s] <;> omega) | assumption | omega)), (show τ66.2.1 18 (τ66.1 22) + τ66.2.1 19 (τ66.1 22) = (τ66.1 7) from Z2), (show τ66.2.1 21 (τ66.1 22) + τ66.2.1 22 (τ66.1 22) = (τ66.1 8) from by (first | omega | (simp only [st_s] <;> omega) | assumption | omega)), (show J_pa (τ66.2.1 21) (τ66.2.1 22) from PA), ag⟩
  have l_33 : ∀ (m_33 : Nat) (u1_33 : Int) (τ_33 : S0), 1502 - u1_33 < (m_33 : Int) → (m_T τ_33) → (m_ag σ τ_33) → (τ_33.1 3 = σ.1 3) → (τ_33.1 5 = σ.1 5) → (τ_33.1 6 = σ.1 6) → (τ_33.1 9 = σ.1 9) → (τ_33.1 13 = σ.1 13) → (τ_33.1 14 = σ.1 14) → (τ_33.1 22 = σ.1 22) → (τ_33.2.1 18 = σ.2.1 18) → (τ_33.2.1 21 = σ.2.1 21) → (0 ≤ u1_33) → (u1_33 ≤ 1501) → (J_pa (τ_33.2.1 21) (τ_33.2.1 22)) → ((τ_33.1 20) = (σ.1 20)) → ((τ_33.1 7) = (σ.1 7)) → ((τ_33.1 8) = (σ.1 8)) → (τ_33.2.1 19 (τ_33.1 22) = σ.2.1 19 (σ.1 22)) → (τ_33.2.1 22 (τ_33.1 22) = σ.2.1 22 (σ.1 22)) → P33 u1_33 τ_33 := by
    intro m_33
    induction m_33 with
    | zero =>
      intro u1_33 τ_33 hm hT ag W3 W5 W6 W9 W13 W14 W22 G18 G21 i33_1 i33_2 i33_3 i33_4 i33_5 i33_6 i33_7 i33_8
      have A18 : ∀ j, 0 ≤ τ_33.2.1 18 j ∧ τ_33.2.1 18 j ≤ 90000 := fun j => hT.2 18 j
      have A19 : ∀ j, 0 ≤ τ_33.2.1 19 j ∧ τ_33.2.1 19 j ≤ 60 := fun j => hT.2 19 j
      have A21 : ∀ j, 0 ≤ τ_33.2.1 21 j ∧ τ_33.2.1 21 j ≤ 20000 := fun j => hT.2 21 j
      have A22 : ∀ j, 0 ≤ τ_33.2.1 22 j ∧ τ_33.2.1 22 j ≤ 20000 := fun j => hT.2 22 j
      have v3 : 0 ≤ τ_33.1 3 ∧ τ_33.1 3 ≤ 1000 := hT.1 3
      have v5 : 0 ≤ τ_33.1 5 ∧ τ_33.1 5 ≤ 1500 := hT.1 5
      have v6 : 0 ≤ τ_33.1 6 ∧ τ_33.1 6 ≤ 30000 := hT.1 6
      have v7 : 0 ≤ τ_33.1 7 ∧ τ_33.1 7 ≤ 90000 := hT.1 7
      have v8 : 0 ≤ τ_33.1 8 ∧ τ_33.1 8 ≤ 20000 := hT.1 8
      have v9 : 0 ≤ τ_33.1 9 ∧ τ_33.1 9 ≤ 20000 := hT.1 9
      have v13 : 0 ≤ τ_33.1 13 ∧ τ_33.1 13 ≤ 1500 := hT.1 13
      have v14 : 0 ≤ τ_33.1 14 ∧ τ_33.1 14 ≤ 1000 := hT.1 14
      have v20 : 0 ≤ τ_33.1 20 ∧ τ_33.1 20 ≤ 19 := hT.1 20
      have v22 : 0 ≤ τ_33.1 22 ∧ τ_33.1 22 ≤ 1499 := hT.1 22
      have a18_22 : 0 ≤ τ_33.2.1 18 (τ_33.1 22) ∧ τ_33.2.1 18 (τ_33.1 22) ≤ 90000 := hT.2 18 _
      have a19_22 : 0 ≤ τ_33.2.1 19 (τ_33.1 22) ∧ τ_33.2.1 19 (τ_33.1 22) ≤ 60 := hT.2 19 _
      have a21_22 : 0 ≤ τ_33.2.1 21 (τ_33.1 22) ∧ τ_33.2.1 21 (τ_33.1 22) ≤ 20000 := hT.2 21 _
      have a22_22 : 0 ≤ τ_33.2.1 22 (τ_33.1 22) ∧ τ_33.2.1 22 (τ_33.1 22) ≤ 20000 := hT.2 22 _
      have av7 : σ.1 7 ≤ τ_33.1 7 := ag.1 7 (by decide)
      have av8 : σ.1 8 ≤ τ_33.1 8 := ag.1 8 (by decide)
      exfalso; (first | omega | (simp only [st_s] <;> omega) | assumption | omega)
    | succ m_33 ih_33 =>
      intro u1_33 τ_33 hm_33 hT ag W3 W5 W6 W9 W13 W14 W22 G18 G21 i33_1 i33_2 i33_3 i33_4 i33_5 i33_6 i33_7 i33_8
      have A18 : ∀ j, 0 ≤ τ_33.2.1 18 j ∧ τ_33.2.1 18 j ≤ 90000 := fun j => hT.2 18 j
      have A19 : ∀ j, 0 ≤ τ_33.2.1 19 j ∧ τ_33.2.1 19 j ≤ 60 := fun j => hT.2 19 j
      have A21 : ∀ j, 0 ≤ τ_33.2.1 21 j ∧ τ_33.2.1 21 j ≤ 20000 := fun j => hT.2 21 j
      have A22 : ∀ j, 0 ≤ τ_33.2.1 22 j ∧ τ_33.2.1 22 j ≤ 20000 := fun j => hT.2 22 j
      have v3 : 0 ≤ τ_33.1 3 ∧ τ_33.1 3 ≤ 1000 := hT.1 3
      have v5 : 0 ≤ τ_33.1 5 ∧ τ_33.1 5 ≤ 1500 := hT.1 5
      have v6 : 0 ≤ τ_33.1 6 ∧ τ_33.1 6 ≤ 30000 := hT.1 6
      have v7 : 0 ≤ τ_33.1 7 ∧ τ_33.1 7 ≤ 90000 := hT.1 7
      have v8 : 0 ≤ τ_33.1 8 ∧ τ_33.1 8 ≤ 20000 := hT.1 8
      have v9 : 0 ≤ τ_33.1 9 ∧ τ_33.1 9 ≤ 20000 := hT.1 9
      have v13 : 0 ≤ τ_33.1 13 ∧ τ_33.1 13 ≤ 1500 := hT.1 13
      have v14 : 0 ≤ τ_33.1 14 ∧ τ_33.1 14 ≤ 1000 := hT.1 14
      have v20 : 0 ≤ τ_33.1 20 ∧ τ_33.1 20 ≤ 19 := hT.1 20
      have v22 : 0 ≤ τ_33.1 22 ∧ τ_33.1 22 ≤ 1499 := hT.1 22
      have a18_22 : 0 ≤ τ_33.2.1 18 (τ_33.1 22) ∧ τ_33.2.1 18 (τ_33.1 22) ≤ 90000 := hT.2 18 _
      have a19_22 : 0 ≤ τ_33.2.1 19 (τ_33.1 22) ∧ τ_33.2.1 19 (τ_33.1 22) ≤ 60 := hT.2 19 _
      have a21_22 : 0 ≤ τ_33.2.1 21 (τ_33.1 22) ∧ τ_33.2.1 21 (τ_33.1 22) ≤ 20000 := hT.2 21 _
      have a22_22 : 0 ≤ τ_33.2.1 22 (τ_33.1 22) ∧ τ_33.2.1 22 (τ_33.1 22) ≤ 20000 := hT.2 22 _
      have av7 : σ.1 7 ≤ τ_33.1 7 := ag.1 7 (by decide)
      have av8 : σ.1 8 ≤ τ_33.1 8 := ag.1 8 (by decide)
      have y18_22_τ_33 : τ_33.2.1 18 (τ_33.1 22) = σ.2.1 18 (σ.1 22) := by rw [G18, W22]
      have y21_22_τ_33 : τ_33.2.1 21 (τ_33.1 22) = σ.2.1 21 (σ.1 22) := by rw [G21, W22]
      have PA : J_pa (τ_33.2.1 21) (τ_33.2.1 22) := i33_3
      refine h33 u1_33 τ_33 ?_
      refine ⟨fun c7 => ?_, fun c7 => ?_⟩
      ·
        exact l_74 ((1502 - 0 : Int).toNat + 1) _ _ (show (1502 - 0 : Int) < (((1502 - 0 : Int).toNat + 1 : Nat) : Int) from by ((first | omega | (simp only [st_s] <;> omega) | assumption | omega))) hT ag (show τ_33.1 3 = σ.1 3 from by omega) (show τ_33.1 5 = σ.1 5 from by omega) (show τ_33.1 6 = σ.1 6 from by omega) (show τ_33.1 9 = σ.1 9 from by omega) (show τ_33.1 13 = σ.1 13 from by omega) (show τ_33.1 14 = σ.1 14 from by omega) (show τ_33.1 22 = σ.1 22 from by omega) G18 G21 (show 0 ≤ 0 from by (first | omega | (simp only [st_s] <;> omega) | assumption | omega)) (show 0 ≤ 1501 from by (first | omega | (simp only [st_s] <;> omega) | assumption | omega)) (show J_pa (τ_33.2.1 21) (τ_33.2.1 22) from PA) (show (τ_33.1 20) = (σ.1 20) from by (first | omega | (simp only [st_s] <;> omega) | assumption | omega)) (show (τ_33.1 8) = (σ.1 8) from by (first | omega | (simp only [st_s] <;> omega) | assumption | omega)) (show τ_33.2.1 22 (τ_33.1 22) = σ.2.1 22 (σ.1 22) from by (first | omega | (simp only [st_s] <;> omega) | assumption | omega)) (show (τ_33.1 7) ≤ 60 * (τ_33.1 22) + τ_33.2.1 19 (τ_33.1 22) from by (first | omega | (simp only [st_s] <;> omega) | assumption | omega)) (show τ_33.2.1 18 (τ_33.1 22) + τ_33.2.1 19 (τ_33.1 22) = (τ_33.1 7) from by (first | omega | (simp only [st_s] <;> omega) | assumption | omega))
      ·
        refine ⟨(show 0 ≤ u1_33 ∧ u1_33 < 1501 from by (first | omega | (simp only [st_s] <;> omega) | assumption | omega)), ?_⟩
        intro x9 r_x9 e_x9
        have b_x9 : 0 ≤ x9 ∧ x9 ≤ 1499 := by rw [e_x9]; exact hT.2 31 _
        refine ⟨(show 0 ≤ x9 ∧ x9 < 1501 from by (first | omega | (simp only [st_s] <;> omega) | assumption | omega)), ?_⟩
        intro x11 r_x11 e_x11
        have b_x11 : 0 ≤ x11 ∧ x11 ≤ 4 := by rw [e_x11]; exact hT.2 13 _
        refine ⟨fun c12 => ?_, fun c12 => ?_⟩
        ·
          refine ⟨(⟨by (first | omega | (simp only [st_s] <;> omega) | assumption | omega), by (first | omega | (simp only [st_s] <;> omega) | assumption | omega)⟩ : rg (u1_33 + 1)), ?_⟩
          exact ih_33 _ _ (show (1502 - (u1_33 + 1) : Int) < ((m_33 : Nat) : Int) from by ((first | omega | (simp only [st_s] <;> omega) | assumption | omega))) hT ag (show τ_33.1 3 = σ.1 3 from by omega) (show τ_33.1 5 = σ.1 5 from by omega) (show τ_33.1 6 = σ.1 6 from by omega) (show τ_33.1 9 = σ.1 9 from by omega) (show τ_33.1 13 = σ.1 13 from by omega) (show τ_33.1 14 = σ.1 14 from by omega) (show τ_33.1 22 = σ.1 22 from by omega) G18 G21 (show 0 ≤ (u1_33 + 1) from by (first | omega | (simp only [st_s] <;> omega) | assumption | omega)) (show (u1_33 + 1) ≤ 1501 from by (first | omega | (simp only [st_s] <;> omega) | assumption | omega)) (show J_pa (τ_33.2.1 21) (τ_33.2.1 22) from PA) (show (τ_33.1 20) = (σ.1 20) from by (first | omega | (simp only [st_s] <;> omega) | assumption | omega)) (show (τ_33.1 7) = (σ.1 7) from by (first | omega | (simp only [st_s] <;> omega) | assumption | omega)) (show (τ_33.1 8) = (σ.1 8) from by (first | omega | (simp only [st_s] <;> omega) | assumption | omega)) (show τ_33.2.1 19 (τ_33.1 22) = σ.2.1 19 (σ.1 22) from by (first | omega | (simp only [st_s] <;> omega) | assumption | omega)) (show τ_33.2.1 22 (τ_33.1 22) = σ.2.1 22 (σ.1 22) from by (first | omega | (simp only [st_s] <;> omega) | assumption | omega))
        ·
          intro x14 r_x14 e_x14
          have b_x14 : 0 ≤ x14 ∧ x14 ≤ 1499 := by rw [e_x14]; exact hT.2 31 _
          refine ⟨_, K_X13_markOf hT (show 0 ≤ x14 from by (first | omega | (simp only [st_s] <;> omega) | assumption | omega)) (show x14 < 1500 from by (first | omega | (simp only [st_s] <;> omega) | assumption | omega)), ?_⟩
          intro τ17 hn_τ17 hf_τ17 hq
          replace hT := hq
          replace ag : m_ag σ τ17 := ag_r ag hf_τ17 rfl rfl
          have w3_τ17 : τ17.1 3 = τ_33.1 3 := hf_τ17.1 3 (by decide)
          have w5_τ17 : τ17.1 5 = τ_33.1 5 := hf_τ17.1 5 (by decide)
          have w6_τ17 : τ17.1 6 = τ_33.1 6 := hf_τ17.1 6 (by decide)
          have w7_τ17 : τ17.1 7 = τ_33.1 7 := hf_τ17.1 7 (by decide)
          have w8_τ17 : τ17.1 8 = τ_33.1 8 := hf_τ17.1 8 (by decide)
          have w9_τ17 : τ17.1 9 = τ_33.1 9 := hf_τ17.1 9 (by decide)
          have w13_τ17 : τ17.1 13 = τ_33.1 13 := hf_τ17.1 13 (by decide)
          have w14_τ17 : τ17.1 14 = τ_33.1 14 := hf_τ17.1 14 (by decide)
          have w20_τ17 : τ17.1 20 = τ_33.1 20 := hf_τ17.1 20 (by decide)
          have w22_τ17 : τ17.1 22 = τ_33.1 22 := hf_τ17.1 22 (by decide)
          have g18_τ17 : τ17.2.1 18 = τ_33.2.1 18 := hf_τ17.2.1 18 (by decide)
          have g19_τ17 : τ17.2.1 19 = τ_33.2.1 19 := hf_τ17.2.1 19 (by decide)
          have g21_τ17 : τ17.2.1 21 = τ_33.2.1 21 := hf_τ17.2.1 21 (by decide)
          have g22_τ17 : τ17.2.1 22 = τ_33.2.1 22 := hf_τ17.2.1 22 (by decide)
          have W3 : τ17.1 3 = σ.1 3 := by omega
          have W5 : τ17.1 5 = σ.1 5 := by omega
          have W6 : τ17.1 6 = σ.1 6 := by omega
          have W9 : τ17.1 9 = σ.1 9 := by omega
          have W13 : τ17.1 13 = σ.1 13 := by omega
          have W14 : τ17.1 14 = σ.1 14 := by omega
          have W22 : τ17.1 22 = σ.1 22 := by omega
          have G18 : τ17.2.1 18 = σ.2.1 18 := (g18_τ17).trans G18
          have G21 : τ17.2.1 21 = σ.2.1 21 := (g21_τ17).trans G21
          have y18_22_τ17 : τ17.2.1 18 (τ17.1 22) = (τ_33.2.1 18) (τ_33.1 22) := by rw [g18_τ17, w22_τ17]
          have y19_22_τ17 : τ17.2.1 19 (τ17.1 22) = (τ_33.2.1 19) (τ_33.1 22) := by rw [g19_τ17, w22_τ17]
          have y21_22_τ17 : τ17.2.1 21 (τ17.1 22) = (τ_33.2.1 21) (τ_33.1 22) := by rw [g21_τ17, w22_τ17]
          have y22_22_τ17 : τ17.2.1 22 (τ17.1 22) = (τ_33.2.1 22) (τ_33.1 22) := by rw [g22_τ17, w22_τ17]
          have PA : J_pa (τ17.2.1 21) (τ17.2.1 22) := by rw [show (J_pa (τ17.2.1 21) (τ17.2.1 22)) = (J_pa (τ_33.2.1 21) (τ_33.2.1 22)) from by rw [g21_τ17, g22_τ17]]; exact PA
          have A18 : ∀ j, 0 ≤ τ17.2.1 18 j ∧ τ17.2.1 18 j ≤ 90000 := fun j => hT.2 18 j
          have A19 : ∀ j, 0 ≤ τ17.2.1 19 j ∧ τ17.2.1 19 j ≤ 60 := fun j => hT.2 19 j
          have A21 : ∀ j, 0 ≤ τ17.2.1 21 j ∧ τ17.2.1 21 j ≤ 20000 := fun j => hT.2 21 j
          have A22 : ∀ j, 0 ≤ τ17.2.1 22 j ∧ τ17.2.1 22 j ≤ 20000 := fun j => hT.2 22 j
          have v3 : 0 ≤ τ17.1 3 ∧ τ17.1 3 ≤ 1000 := hT.1 3
          have v5 : 0 ≤ τ17.1 5 ∧ τ17.1 5 ≤ 1500 := hT.1 5
          have v6 : 0 ≤ τ17.1 6 ∧ τ17.1 6 ≤ 30000 := hT.1 6
          have v7 : 0 ≤ τ17.1 7 ∧ τ17.1 7 ≤ 90000 := hT.1 7
          have v8 : 0 ≤ τ17.1 8 ∧ τ17.1 8 ≤ 20000 := hT.1 8
          have v9 : 0 ≤ τ17.1 9 ∧ τ17.1 9 ≤ 20000 := hT.1 9
          have v13 : 0 ≤ τ17.1 13 ∧ τ17.1 13 ≤ 1500 := hT.1 13
          have v14 : 0 ≤ τ17.1 14 ∧ τ17.1 14 ≤ 1000 := hT.1 14
          have v20 : 0 ≤ τ17.1 20 ∧ τ17.1 20 ≤ 19 := hT.1 20
          have v22 : 0 ≤ τ17.1 22 ∧ τ17.1 22 ≤ 1499 := hT.1 22
          have a18_22 : 0 ≤ τ17.2.1 18 (τ17.1 22) ∧ τ17.2.1 18 (τ17.1 22) ≤ 90000 := hT.2 18 _
          have a19_22 : 0 ≤ τ17.2.1 19 (τ17.1 22) ∧ τ17.2.1 19 (τ17.1 22) ≤ 60 := hT.2 19 _
          have a21_22 : 0 ≤ τ17.2.1 21 (τ17.1 22) ∧ τ17.2.1 21 (τ17.1 22) ≤ 20000 := hT.2 21 _
          have a22_22 : 0 ≤ τ17.2.1 22 (τ17.1 22) ∧ τ17.2.1 22 (τ17.1 22) ≤ 20000 := hT.2 22 _
          have av7 : σ.1 7 ≤ τ17.1 7 := ag.1 7 (by decide)
          have av8 : σ.1 8 ≤ τ17.1 8 := ag.1 8 (by decide)
          refine ⟨(⟨by (first | omega | (simp only [st_s] <;> omega) | assumption | omega), by (first | omega | (simp only [st_s] <;> omega) | assumption | omega)⟩ : rg (u1_33 + 1)), ?_⟩
          exact ih_33 _ _ (show (1502 - (u1_33 + 1) : Int) < ((m_33 : Nat) : Int) from by ((first | omega | (simp only [st_s] <;> omega) | assumption | omega))) hT ag (show τ17.1 3 = σ.1 3 from by omega) (show τ17.1 5 = σ.1 5 from by omega) (show τ17.1 6 = σ.1 6 from by omega) (show τ17.1 9 = σ.1 9 from by omega) (show τ17.1 13 = σ.1 13 from by omega) (show τ17.1 14 = σ.1 14 from by omega) (show τ17.1 22 = σ.1 22 from by omega) G18 G21 (show 0 ≤ (u1_33 + 1) from by (first | omega | (simp only [st_s] <;> omega) | assumption | omega)) (show (u1_33 + 1) ≤ 1501 from by (first | omega | (simp only [st_s] <;> omega) | assumption | omega)) (show J_pa (τ17.2.1 21) (τ17.2.1 22) from PA) (show (τ17.1 20) = (σ.1 20) from by (first | omega | (simp only [st_s] <;> omega) | assumption | omega)) (show (τ17.1 7) = (σ.1 7) from by (first | omega | (simp only [st_s] <;> omega) | assumption | omega)) (show (τ17.1 8) = (σ.1 8) from by (first | omega | (simp only [st_s] <;> omega) | assumption | omega)) (show τ17.2.1 19 (τ17.1 22) = σ.2.1 19 (σ.1 22) from by (first | omega | (simp only [st_s] <;> omega) | assumption | omega)) (show τ17.2.1 22 (τ17.1 22) = σ.2.1 22 (σ.1 22) from by (first | omega | (simp only [st_s] <;> omega) | assumption | omega))
  have l_2 : ∀ (m_2 : Nat) (u1_2 : Int) (τ_2 : S0), 1502 - u1_2 < (m_2 : Int) → (m_T τ_2) → (m_ag σ τ_2) → (τ_2.1 3 = σ.1 3) → (τ_2.1 5 = σ.1 5) → (τ_2.1 6 = σ.1 6) → (τ_2.1 9 = σ.1 9) → (τ_2.1 13 = σ.1 13) → (τ_2.1 14 = σ.1 14) → (τ_2.1 22 = σ.1 22) → (τ_2.2.1 18 = σ.2.1 18) → (τ_2.2.1 21 = σ.2.1 21) → (0 ≤ u1_2) → (u1_2 ≤ 1501) → (J_pa (τ_2.2.1 21) (τ_2.2.1 22)) → ((τ_2.1 20) = (σ.1 20)) → ((τ_2.1 7) = (σ.1 7)) → ((τ_2.1 8) = (σ.1 8)) → (τ_2.2.1 19 (τ_2.1 22) = σ.2.1 19 (σ.1 22)) → (τ_2.2.1 22 (τ_2.1 22) = σ.2.1 22 (σ.1 22)) → P2 u1_2 τ_2 := by
    intro m_2
    induction m_2 with
    | zero =>
      intro u1_2 τ_2 hm hT ag W3 W5 W6 W9 W13 W14 W22 G18 G21 i2_1 i2_2 i2_3 i2_4 i2_5 i2_6 i2_7 i2_8
      have A18 : ∀ j, 0 ≤ τ_2.2.1 18 j ∧ τ_2.2.1 18 j ≤ 90000 := fun j => hT.2 18 j
      have A19 : ∀ j, 0 ≤ τ_2.2.1 19 j ∧ τ_2.2.1 19 j ≤ 60 := fun j => hT.2 19 j
      have A21 : ∀ j, 0 ≤ τ_2.2.1 21 j ∧ τ_2.2.1 21 j ≤ 20000 := fun j => hT.2 21 j
      have A22 : ∀ j, 0 ≤ τ_2.2.1 22 j ∧ τ_2.2.1 22 j ≤ 20000 := fun j => hT.2 22 j
      have v3 : 0 ≤ τ_2.1 3 ∧ τ_2.1 3 ≤ 1000 := hT.1 3
      have v5 : 0 ≤ τ_2.1 5 ∧ τ_2.1 5 ≤ 1500 := hT.1 5
      have v6 : 0 ≤ τ_2.1 6 ∧ τ_2.1 6 ≤ 30000 := hT.1 6
      have v7 : 0 ≤ τ_2.1 7 ∧ τ_2.1 7 ≤ 90000 := hT.1 7
      have v8 : 0 ≤ τ_2.1 8 ∧ τ_2.1 8 ≤ 20000 := hT.1 8
      have v9 : 0 ≤ τ_2.1 9 ∧ τ_2.1 9 ≤ 20000 := hT.1 9
      have v13 : 0 ≤ τ_2.1 13 ∧ τ_2.1 13 ≤ 1500 := hT.1 13
      have v14 : 0 ≤ τ_2.1 14 ∧ τ_2.1 14 ≤ 1000 := hT.1 14
      have v20 : 0 ≤ τ_2.1 20 ∧ τ_2.1 20 ≤ 19 := hT.1 20
      have v22 : 0 ≤ τ_2.1 22 ∧ τ_2.1 22 ≤ 1499 := hT.1 22
      have a18_22 : 0 ≤ τ_2.2.1 18 (τ_2.1 22) ∧ τ_2.2.1 18 (τ_2.1 22) ≤ 90000 := hT.2 18 _
      have a19_22 : 0 ≤ τ_2.2.1 19 (τ_2.1 22) ∧ τ_2.2.1 19 (τ_2.1 22) ≤ 60 := hT.2 19 _
      have a21_22 : 0 ≤ τ_2.2.1 21 (τ_2.1 22) ∧ τ_2.2.1 21 (τ_2.1 22) ≤ 20000 := hT.2 21 _
      have a22_22 : 0 ≤ τ_2.2.1 22 (τ_2.1 22) ∧ τ_2.2.1 22 (τ_2.1 22) ≤ 20000 := hT.2 22 _
      have av7 : σ.1 7 ≤ τ_2.1 7 := ag.1 7 (by decide)
      have av8 : σ.1 8 ≤ τ_2.1 8 := ag.1 8 (by decide)
      exfalso; (first | omega | (simp only [st_s] <;> omega) | assumption | omega)
    | succ m_2 ih_2 =>
      intro u1_2 τ_2 hm_2 hT ag W3 W5 W6 W9 W13 W14 W22 G18 G21 i2_1 i2_2 i2_3 i2_4 i2_5 i2_6 i2_7 i2_8
      have A18 : ∀ j, 0 ≤ τ_2.2.1 18 j ∧ τ_2.2.1 18 j ≤ 90000 := fun j => hT.2 18 j
      have A19 : ∀ j, 0 ≤ τ_2.2.1 19 j ∧ τ_2.2.1 19 j ≤ 60 := fun j => hT.2 19 j
      have A21 : ∀ j, 0 ≤ τ_2.2.1 21 j ∧ τ_2.2.1 21 j ≤ 20000 := fun j => hT.2 21 j
      have A22 : ∀ j, 0 ≤ τ_2.2.1 22 j ∧ τ_2.2.1 22 j ≤ 20000 := fun j => hT.2 22 j
      have v3 : 0 ≤ τ_2.1 3 ∧ τ_2.1 3 ≤ 1000 := hT.1 3
      have v5 : 0 ≤ τ_2.1 5 ∧ τ_2.1 5 ≤ 1500 := hT.1 5
      have v6 : 0 ≤ τ_2.1 6 ∧ τ_2.1 6 ≤ 30000 := hT.1 6
      have v7 : 0 ≤ τ_2.1 7 ∧ τ_2.1 7 ≤ 90000 := hT.1 7
      have v8 : 0 ≤ τ_2.1 8 ∧ τ_2.1 8 ≤ 20000 := hT.1 8
      have v9 : 0 ≤ τ_2.1 9 ∧ τ_2.1 9 ≤ 20000 := hT.1 9
      have v13 : 0 ≤ τ_2.1 13 ∧ τ_2.1 13 ≤ 1500 := hT.1 13
      have v14 : 0 ≤ τ_2.1 14 ∧ τ_2.1 14 ≤ 1000 := hT.1 14
      have v20 : 0 ≤ τ_2.1 20 ∧ τ_2.1 20 ≤ 19 := hT.1 20
      have v22 : 0 ≤ τ_2.1 22 ∧ τ_2.1 22 ≤ 1499 := hT.1 22
      have a18_22 : 0 ≤ τ_2.2.1 18 (τ_2.1 22) ∧ τ_2.2.1 18 (τ_2.1 22) ≤ 90000 := hT.2 18 _
      have a19_22 : 0 ≤ τ_2.2.1 19 (τ_2.1 22) ∧ τ_2.2.1 19 (τ_2.1 22) ≤ 60 := hT.2 19 _
      have a21_22 : 0 ≤ τ_2.2.1 21 (τ_2.1 22) ∧ τ_2.2.1 21 (τ_2.1 22) ≤ 20000 := hT.2 21 _
      have a22_22 : 0 ≤ τ_2.2.1 22 (τ_2.1 22) ∧ τ_2.2.1 22 (τ_2.1 22) ≤ 20000 := hT.2 22 _
      have av7 : σ.1 7 ≤ τ_2.1 7 := ag.1 7 (by decide)
      have av8 : σ.1 8 ≤ τ_2.1 8 := ag.1 8 (by decide)
      have y18_22_τ_2 : τ_2.2.1 18 (τ_2.1 22) = σ.2.1 18 (σ.1 22) := by rw [G18, W22]
      have y21_22_τ_2 : τ_2.2.1 21 (τ_2.1 22) = σ.2.1 21 (σ.1 22) := by rw [G21, W22]
      have PA : J_pa (τ_2.2.1 21) (τ_2.2.1 22) := i2_3
      refine h2 u1_2 τ_2 ?_
      refine ⟨fun c1 => ?_, fun c1 => ?_⟩
      ·
        refine ⟨_, K_X13_markOf hT (show 0 ≤ (τ_2.1 22) from by (first | omega | (simp only [st_s] <;> omega) | assumption | omega)) (show (τ_2.1 22) < 1500 from by (first | omega | (simp only [st_s] <;> omega) | assumption | omega)), ?_⟩
        intro τ4 hn_τ4 hf_τ4 hq
        replace hT := hq
        replace ag : m_ag σ τ4 := ag_r ag hf_τ4 rfl rfl
        have w3_τ4 : τ4.1 3 = τ_2.1 3 := hf_τ4.1 3 (by decide)
        have w5_τ4 : τ4.1 5 = τ_2.1 5 := hf_τ4.1 5 (by decide)
        have w6_τ4 : τ4.1 6 = τ_2.1 6 := hf_τ4.1 6 (by decide)
        have w7_τ4 : τ4.1 7 = τ_2.1 7 := hf_τ4.1 7 (by decide)
        have w8_τ4 : τ4.1 8 = τ_2.1 8 := hf_τ4.1 8 (by decide)
        have w9_τ4 : τ4.1 9 = τ_2.1 9 := hf_τ4.1 9 (by decide)
        have w13_τ4 : τ4.1 13 = τ_2.1 13 := hf_τ4.1 13 (by decide)
        have w14_τ4 : τ4.1 14 = τ_2.1 14 := hf_τ4.1 14 (by decide)
        have w20_τ4 : τ4.1 20 = τ_2.1 20 := hf_τ4.1 20 (by decide)
        have w22_τ4 : τ4.1 22 = τ_2.1 22 := hf_τ4.1 22 (by decide)
        have g18_τ4 : τ4.2.1 18 = τ_2.2.1 18 := hf_τ4.2.1 18 (by decide)
        have g19_τ4 : τ4.2.1 19 = τ_2.2.1 19 := hf_τ4.2.1 19 (by decide)
        have g21_τ4 : τ4.2.1 21 = τ_2.2.1 21 := hf_τ4.2.1 21 (by decide)
        have g22_τ4 : τ4.2.1 22 = τ_2.2.1 22 := hf_τ4.2.1 22 (by decide)
        have W3 : τ4.1 3 = σ.1 3 := by omega
        have W5 : τ4.1 5 = σ.1 5 := by omega
        have W6 : τ4.1 6 = σ.1 6 := by omega
        have W9 : τ4.1 9 = σ.1 9 := by omega
        have W13 : τ4.1 13 = σ.1 13 := by omega
        have W14 : τ4.1 14 = σ.1 14 := by omega
        have W22 : τ4.1 22 = σ.1 22 := by omega
        have G18 : τ4.2.1 18 = σ.2.1 18 := (g18_τ4).trans G18
        have G21 : τ4.2.1 21 = σ.2.1 21 := (g21_τ4).trans G21
        have y18_22_τ4 : τ4.2.1 18 (τ4.1 22) = (τ_2.2.1 18) (τ_2.1 22) := by rw [g18_τ4, w22_τ4]
        have y19_22_τ4 : τ4.2.1 19 (τ4.1 22) = (τ_2.2.1 19) (τ_2.1 22) := by rw [g19_τ4, w22_τ4]
        have y21_22_τ4 : τ4.2.1 21 (τ4.1 22) = (τ_2.2.1 21) (τ_2.1 22) := by rw [g21_τ4, w22_τ4]
        have y22_22_τ4 : τ4.2.1 22 (τ4.1 22) = (τ_2.2.1 22) (τ_2.1 22) := by rw [g22_τ4, w22_τ4]
        have PA : J_pa (τ4.2.1 21) (τ4.2.1 22) := by rw [show (J_pa (τ4.2.1 21) (τ4.2.1 22)) = (J_pa (τ_2.2.1 21) (τ_2.2.1 22)) from by rw [g21_τ4, g22_τ4]]; exact PA
        have A18 : ∀ j, 0 ≤ τ4.2.1 18 j ∧ τ4.2.1 18 j ≤ 90000 := fun j => hT.2 18 j
        have A19 : ∀ j, 0 ≤ τ4.2.1 19 j ∧ τ4.2.1 19 j ≤ 60 := fun j => hT.2 19 j
        have A21 : ∀ j, 0 ≤ τ4.2.1 21 j ∧ τ4.2.1 21 j ≤ 20000 := fun j => hT.2 21 j
        have A22 : ∀ j, 0 ≤ τ4.2.1 22 j ∧ τ4.2.1 22 j ≤ 20000 := fun j => hT.2 22 j
        have v3 : 0 ≤ τ4.1 3 ∧ τ4.1 3 ≤ 1000 := hT.1 3
        have v5 : 0 ≤ τ4.1 5 ∧ τ4.1 5 ≤ 1500 := hT.1 5
        have v6 : 0 ≤ τ4.1 6 ∧ τ4.1 6 ≤ 30000 := hT.1 6
        have v7 : 0 ≤ τ4.1 7 ∧ τ4.1 7 ≤ 90000 := hT.1 7
        have v8 : 0 ≤ τ4.1 8 ∧ τ4.1 8 ≤ 20000 := hT.1 8
        have v9 : 0 ≤ τ4.1 9 ∧ τ4.1 9 ≤ 20000 := hT.1 9
        have v13 : 0 ≤ τ4.1 13 ∧ τ4.1 13 ≤ 1500 := hT.1 13
        have v14 : 0 ≤ τ4.1 14 ∧ τ4.1 14 ≤ 1000 := hT.1 14
        have v20 : 0 ≤ τ4.1 20 ∧ τ4.1 20 ≤ 19 := hT.1 20
        have v22 : 0 ≤ τ4.1 22 ∧ τ4.1 22 ≤ 1499 := hT.1 22
        have a18_22 : 0 ≤ τ4.2.1 18 (τ4.1 22) ∧ τ4.2.1 18 (τ4.1 22) ≤ 90000 := hT.2 18 _
        have a19_22 : 0 ≤ τ4.2.1 19 (τ4.1 22) ∧ τ4.2.1 19 (τ4.1 22) ≤ 60 := hT.2 19 _
        have a21_22 : 0 ≤ τ4.2.1 21 (τ4.1 22) ∧ τ4.2.1 21 (τ4.1 22) ≤ 20000 := hT.2 21 _
        have a22_22 : 0 ≤ τ4.2.1 22 (τ4.1 22) ∧ τ4.2.1 22 (τ4.1 22) ≤ 20000 := hT.2 22 _
        have av7 : σ.1 7 ≤ τ4.1 7 := ag.1 7 (by decide)
        have av8 : σ.1 8 ≤ τ4.1 8 := ag.1 8 (by decide)
        exact l_33 ((1502 - 0 : Int).toNat + 1) _ _ (show (1502 - 0 : Int) < (((1502 - 0 : Int).toNat + 1 : Nat) : Int) from by ((first | omega | (simp only [st_s] <;> omega) | assumption | omega))) hT ag (show τ4.1 3 = σ.1 3 from by omega) (show τ4.1 5 = σ.1 5 from by omega) (show τ4.1 6 = σ.1 6 from by omega) (show τ4.1 9 = σ.1 9 from by omega) (show τ4.1 13 = σ.1 13 from by omega) (show τ4.1 14 = σ.1 14 from by omega) (show τ4.1 22 = σ.1 22 from by omega) G18 G21 (show 0 ≤ 0 from by (first | omega | (simp only [st_s] <;> omega) | assumption | omega)) (show 0 ≤ 1501 from by (first | omega | (simp only [st_s] <;> omega) | assumption | omega)) (show J_pa (τ4.2.1 21) (τ4.2.1 22) from PA) (show (τ4.1 20) = (σ.1 20) from by (first | omega | (simp only [st_s] <;> omega) | assumption | omega)) (show (τ4.1 7) = (σ.1 7) from by (first | omega | (simp only [st_s] <;> omega) | assumption | omega)) (show (τ4.1 8) = (σ.1 8) from by (first | omega | (simp only [st_s] <;> omega) | assumption | omega)) (show τ4.2.1 19 (τ4.1 22) = σ.2.1 19 (σ.1 22) from by (first | omega | (simp only [st_s] <;> omega) | assumption | omega)) (show τ4.2.1 22 (τ4.1 22) = σ.2.1 22 (σ.1 22) from by (first | omega | (simp only [st_s] <;> omega) | assumption | omega))
      ·
        refine ⟨(show 0 ≤ u1_2 ∧ u1_2 < 1001 from by (first | omega | (simp only [st_s] <;> omega) | assumption | omega)), ?_⟩
        replace ag := ag_a (k := 38) (e := u1_2) (x := 0) ag rfl
        replace hT := mT_a (k := 38) (j := u1_2) hT (show (0 : Int) ≤ 0 ∧ 0 ≤ 1 from by (first | omega | (simp only [st_s] <;> omega) | assumption | omega))
        refine ⟨(⟨by (first | omega | (simp only [st_s] <;> omega) | assumption | omega), by (first | omega | (simp only [st_s] <;> omega) | assumption | omega)⟩ : rg (u1_2 + 1)), ?_⟩
        exact ih_2 _ _ (show (1502 - (u1_2 + 1) : Int) < ((m_2 : Nat) : Int) from by ((first | omega | (simp only [st_s] <;> omega) | assumption | omega))) hT ag (show τ_2.1 3 = σ.1 3 from by omega) (show τ_2.1 5 = σ.1 5 from by omega) (show τ_2.1 6 = σ.1 6 from by omega) (show τ_2.1 9 = σ.1 9 from by omega) (show τ_2.1 13 = σ.1 13 from by omega) (show τ_2.1 14 = σ.1 14 from by omega) (show τ_2.1 22 = σ.1 22 from by omega) G18 G21 (show 0 ≤ (u1_2 + 1) from by (first | omega | (simp only [st_s] <;> omega) | assumption | omega)) (show (u1_2 + 1) ≤ 1501 from by (first | omega | (simp only [st_s] <;> omega) | assumption | omega)) (show J_pa (τ_2.2.1 21) (τ_2.2.1 22) from PA) (show (τ_2.1 20) = (σ.1 20) from by (first | omega | (simp only [st_s] <;> omega) | assumption | omega)) (show (τ_2.1 7) = (σ.1 7) from by (first | omega | (simp only [st_s] <;> omega) | assumption | omega)) (show (τ_2.1 8) = (σ.1 8) from by (first | omega | (simp only [st_s] <;> omega) | assumption | omega)) (show τ_2.2.1 19 (τ_2.1 22) = σ.2.1 19 (σ.1 22) from by (first | omega | (simp only [st_s] <;> omega) | assumption | omega)) (show τ_2.2.1 22 (τ_2.1 22) = σ.2.1 22 (σ.1 22) from by (first | omega | (simp only [st_s] <;> omega) | assumption | omega))
  exact l_2 ((1502 - 0 : Int).toNat + 1) _ _ (show (1502 - 0 : Int) < (((1502 - 0 : Int).toNat + 1 : Nat) : Int) from by ((first | omega | (simp only [st_s] <;> omega) | assumption | omega))) hT ag (show σ.1 3 = σ.1 3 from by omega) (show σ.1 5 = σ.1 5 from by omega) (show σ.1 6 = σ.1 6 from by omega) (show σ.1 9 = σ.1 9 from by omega) (show σ.1 13 = σ.1 13 from by omega) (show σ.1 14 = σ.1 14 from by omega) (show σ.1 22 = σ.1 22 from by omega) G18 G21 (show 0 ≤ 0 from by (first | omega | (simp only [st_s] <;> omega) | assumption | omega)) (show 0 ≤ 1501 from by (first | omega | (simp only [st_s] <;> omega) | assumption | omega)) (show J_pa (σ.2.1 21) (σ.2.1 22) from PA) (show (σ.1 20) = (σ.1 20) from by (first | omega | (simp only [st_s] <;> omega) | assumption | omega)) (show (σ.1 7) = (σ.1 7) from by (first | omega | (simp only [st_s] <;> omega) | assumption | omega)) (show (σ.1 8) = (σ.1 8) from by (first | omega | (simp only [st_s] <;> omega) | assumption | omega)) (show σ.2.1 19 (σ.1 22) = σ.2.1 19 (σ.1 22) from by (first | omega | (simp only [st_s] <;> omega) | assumption | omega)) (show σ.2.1 22 (σ.1 22) = σ.2.1 22 (σ.1 22) from by (first | omega | (simp only [st_s] <;> omega) | assumption | omega))
set_option maxHeartbeats 1000000 in
theorem K_X13_verify {σ : S0} (hT : m_T σ) (p1 : (σ.1 22) = (σ.1 5)) (p2 : σ.2.1 25 (σ.1 22) + σ.2.1 26 (σ.1 22) = (σ.1 9)) (p3 : ca (σ.2.1 28) ((σ.1 9)) ≤ ca (σ.2.1 28) (σ.2.1 25 (σ.1 22)) + 300) (p4 : J_pa (σ.2.1 21) (σ.2.1 22)) : W_X13_verify σ (fun (τ : S0) => (m_T τ) ∧ (¬ (σ.1 20) = 0 → (τ.1 20) = (σ.1 20))) := by
  have A14 : ∀ j, 0 ≤ σ.2.1 14 j ∧ σ.2.1 14 j ≤ 30000 := fun j => hT.2 14 j
  have A15 : ∀ j, 0 ≤ σ.2.1 15 j ∧ σ.2.1 15 j ≤ 300 := fun j => hT.2 15 j
  have A21 : ∀ j, 0 ≤ σ.2.1 21 j ∧ σ.2.1 21 j ≤ 20000 := fun j => hT.2 21 j
  have A22 : ∀ j, 0 ≤ σ.2.1 22 j ∧ σ.2.1 22 j ≤ 20000 := fun j => hT.2 22 j
  have A25 : ∀ j, 0 ≤ σ.2.1 25 j ∧ σ.2.1 25 j ≤ 20000 := fun j => hT.2 25 j
  have A26 : ∀ j, 0 ≤ σ.2.1 26 j ∧ σ.2.1 26 j ≤ 20000 := fun j => hT.2 26 j
  have A27 : ∀ j, (-300) ≤ σ.2.1 27 j ∧ σ.2.1 27 j ≤ 1499 := fun j => hT.2 27 j
  have A28 : ∀ j, 0 ≤ σ.2.1 28 j ∧ σ.2.1 28 j ≤ 1 := fun j => hT.2 28 j
  have v5 : 0 ≤ σ.1 5 ∧ σ.1 5 ≤ 1500 := hT.1 5
  have v9 : 0 ≤ σ.1 9 ∧ σ.1 9 ≤ 20000 := hT.1 9
  have v20 : 0 ≤ σ.1 20 ∧ σ.1 20 ≤ 19 := hT.1 20
  have v22 : 0 ≤ σ.1 22 ∧ σ.1 22 ≤ 1499 := hT.1 22
  have v24 : 0 ≤ σ.1 24 ∧ σ.1 24 ≤ 60000 := hT.1 24
  have v30 : 0 ≤ σ.1 30 ∧ σ.1 30 ≤ 200 := hT.1 30
  have v31 : 0 ≤ σ.1 31 ∧ σ.1 31 ≤ 40000 := hT.1 31
  have v32 : 0 ≤ σ.1 32 ∧ σ.1 32 ≤ 300 := hT.1 32
  have v33 : 0 ≤ σ.1 33 ∧ σ.1 33 ≤ 40000 := hT.1 33
  have v35 : 0 ≤ σ.1 35 ∧ σ.1 35 ≤ 19 := hT.1 35
  have a14_22 : 0 ≤ σ.2.1 14 (σ.1 22) ∧ σ.2.1 14 (σ.1 22) ≤ 30000 := hT.2 14 _
  have a15_22 : 0 ≤ σ.2.1 15 (σ.1 22) ∧ σ.2.1 15 (σ.1 22) ≤ 300 := hT.2 15 _
  have a25_22 : 0 ≤ σ.2.1 25 (σ.1 22) ∧ σ.2.1 25 (σ.1 22) ≤ 20000 := hT.2 25 _
  have a26_22 : 0 ≤ σ.2.1 26 (σ.1 22) ∧ σ.2.1 26 (σ.1 22) ≤ 20000 := hT.2 26 _
  have W5 : σ.1 5 = σ.1 5 := rfl
  have W9 : σ.1 9 = σ.1 9 := rfl
  have W22 : σ.1 22 = σ.1 22 := rfl
  have W24 : σ.1 24 = σ.1 24 := rfl
  have G14 : σ.2.1 14 = σ.2.1 14 := rfl
  have G15 : σ.2.1 15 = σ.2.1 15 := rfl
  have G21 : σ.2.1 21 = σ.2.1 21 := rfl
  have G22 : σ.2.1 22 = σ.2.1 22 := rfl
  have G25 : σ.2.1 25 = σ.2.1 25 := rfl
  have G26 : σ.2.1 26 = σ.2.1 26 := rfl
  have G27 : σ.2.1 27 = σ.2.1 27 := rfl
  have G28 : σ.2.1 28 = σ.2.1 28 := rfl
  intro P14 P78 P131 P185 h14 h78 h131 h185
  have Z4 : σ.2.1 25 (σ.1 22) + σ.2.1 26 (σ.1 22) = (σ.1 9) := p2
  have Y14 : ca (σ.2.1 28) ((σ.1 9)) ≤ ca (σ.2.1 28) (σ.2.1 25 (σ.1 22)) + 300 := p3
  have PA : J_pa (σ.2.1 21) (σ.2.1 22) := p4
  have PA_0 := PA
  have Y14_0 := Y14
  have Z4_0 := Z4
  have l_131 : ∀ (m_131 : Nat) (u1_131 : Int) (u2_131 : Int) (τ_131 : S0), 301 - u2_131 < (m_131 : Int) → (m_T τ_131) → (τ_131.1 5 = σ.1 5) → (τ_131.1 9 = σ.1 9) → (τ_131.1 22 = σ.1 22) → (τ_131.1 24 = σ.1 24) → (τ_131.2.1 14 = σ.2.1 14) → (τ_131.2.1 15 = σ.2.1 15) → (τ_131.2.1 21 = σ.2.1 21) → (τ_131.2.1 22 = σ.2.1 22) → (τ_131.2.1 25 = σ.2.1 25) → (τ_131.2.1 26 = σ.2.1 26) → (τ_131.2.1 27 = σ.2.1 27) → (τ_131.2.1 28 = σ.2.1 28) → (0 ≤ u2_131) → (u2_131 ≤ 300) → (¬ (σ.1 20) = 0 → (τ_131.1 20) = (σ.1 20)) → P131 u1_131 u2_131 τ_131 := by
    intro m_131
    induction m_131 with
    | zero =>
      intro u1_131 u2_131 τ_131 hm hT W5 W9 W22 W24 G14 G15 G21 G22 G25 G26 G27 G28 i131_1 i131_2 i131_3
      have A14 : ∀ j, 0 ≤ τ_131.2.1 14 j ∧ τ_131.2.1 14 j ≤ 30000 := fun j => hT.2 14 j
      have A15 : ∀ j, 0 ≤ τ_131.2.1 15 j ∧ τ_131.2.1 15 j ≤ 300 := fun j => hT.2 15 j
      have A21 : ∀ j, 0 ≤ τ_131.2.1 21 j ∧ τ_131.2.1 21 j ≤ 20000 := fun j => hT.2 21 j
      have A22 : ∀ j, 0 ≤ τ_131.2.1 22 j ∧ τ_131.2.1 22 j ≤ 20000 := fun j => hT.2 22 j
      have A25 : ∀ j, 0 ≤ τ_131.2.1 25 j ∧ τ_131.2.1 25 j ≤ 20000 := fun j => hT.2 25 j
      have A26 : ∀ j, 0 ≤ τ_131.2.1 26 j ∧ τ_131.2.1 26 j ≤ 20000 := fun j => hT.2 26 j
      have A27 : ∀ j, (-300) ≤ τ_131.2.1 27 j ∧ τ_131.2.1 27 j ≤ 1499 := fun j => hT.2 27 j
      have A28 : ∀ j, 0 ≤ τ_131.2.1 28 j ∧ τ_131.2.1 28 j ≤ 1 := fun j => hT.2 28 j
      have v5 : 0 ≤ τ_131.1 5 ∧ τ_131.1 5 ≤ 1500 := hT.1 5
      have v9 : 0 ≤ τ_131.1 9 ∧ τ_131.1 9 ≤ 20000 := hT.1 9
      have v20 : 0 ≤ τ_131.1 20 ∧ τ_131.1 20 ≤ 19 := hT.1 20
      have v22 : 0 ≤ τ_131.1 22 ∧ τ_131.1 22 ≤ 1499 := hT.1 22
      have v24 : 0 ≤ τ_131.1 24 ∧ τ_131.1 24 ≤ 60000 := hT.1 24
      have v30 : 0 ≤ τ_131.1 30 ∧ τ_131.1 30 ≤ 200 := hT.1 30
      have v31 : 0 ≤ τ_131.1 31 ∧ τ_131.1 31 ≤ 40000 := hT.1 31
      have v32 : 0 ≤ τ_131.1 32 ∧ τ_131.1 32 ≤ 300 := hT.1 32
      have v33 : 0 ≤ τ_131.1 33 ∧ τ_131.1 33 ≤ 40000 := hT.1 33
      have v35 : 0 ≤ τ_131.1 35 ∧ τ_131.1 35 ≤ 19 := hT.1 35
      have a14_22 : 0 ≤ τ_131.2.1 14 (τ_131.1 22) ∧ τ_131.2.1 14 (τ_131.1 22) ≤ 30000 := hT.2 14 _
      have a15_22 : 0 ≤ τ_131.2.1 15 (τ_131.1 22) ∧ τ_131.2.1 15 (τ_131.1 22) ≤ 300 := hT.2 15 _
      have a25_22 : 0 ≤ τ_131.2.1 25 (τ_131.1 22) ∧ τ_131.2.1 25 (τ_131.1 22) ≤ 20000 := hT.2 25 _
      have a26_22 : 0 ≤ τ_131.2.1 26 (τ_131.1 22) ∧ τ_131.2.1 26 (τ_131.1 22) ≤ 20000 := hT.2 26 _
      exfalso; (first | omega | (simp only [st_s] <;> omega) | assumption | omega)
    | succ m_131 ih_131 =>
      intro u1_131 u2_131 τ_131 hm_131 hT W5 W9 W22 W24 G14 G15 G21 G22 G25 G26 G27 G28 i131_1 i131_2 i131_3
      have A14 : ∀ j, 0 ≤ τ_131.2.1 14 j ∧ τ_131.2.1 14 j ≤ 30000 := fun j => hT.2 14 j
      have A15 : ∀ j, 0 ≤ τ_131.2.1 15 j ∧ τ_131.2.1 15 j ≤ 300 := fun j => hT.2 15 j
      have A21 : ∀ j, 0 ≤ τ_131.2.1 21 j ∧ τ_131.2.1 21 j ≤ 20000 := fun j => hT.2 21 j
      have A22 : ∀ j, 0 ≤ τ_131.2.1 22 j ∧ τ_131.2.1 22 j ≤ 20000 := fun j => hT.2 22 j
      have A25 : ∀ j, 0 ≤ τ_131.2.1 25 j ∧ τ_131.2.1 25 j ≤ 20000 := fun j => hT.2 25 j
      have A26 : ∀ j, 0 ≤ τ_131.2.1 26 j ∧ τ_131.2.1 26 j ≤ 20000 := fun j => hT.2 26 j
      have A27 : ∀ j, (-300) ≤ τ_131.2.1 27 j ∧ τ_131.2.1 27 j ≤ 1499 := fun j => hT.2 27 j
      have A28 : ∀ j, 0 ≤ τ_131.2.1 28 j ∧ τ_131.2.1 28 j ≤ 1 := fun j => hT.2 28 j
      have v5 : 0 ≤ τ_131.1 5 ∧ τ_131.1 5 ≤ 1500 := hT.1 5
      have v9 : 0 ≤ τ_131.1 9 ∧ τ_131.1 9 ≤ 20000 := hT.1 9
      have v20 : 0 ≤ τ_131.1 20 ∧ τ_131.1 20 ≤ 19 := hT.1 20
      have v22 : 0 ≤ τ_131.1 22 ∧ τ_131.1 22 ≤ 1499 := hT.1 22
      have v24 : 0 ≤ τ_131.1 24 ∧ τ_131.1 24 ≤ 60000 := hT.1 24
      have v30 : 0 ≤ τ_131.1 30 ∧ τ_131.1 30 ≤ 200 := hT.1 30
      have v31 : 0 ≤ τ_131.1 31 ∧ τ_131.1 31 ≤ 40000 := hT.1 31
      have v32 : 0 ≤ τ_131.1 32 ∧ τ_131.1 32 ≤ 300 := hT.1 32
      have v33 : 0 ≤ τ_131.1 33 ∧ τ_131.1 33 ≤ 40000 := hT.1 33
      have v35 : 0 ≤ τ_131.1 35 ∧ τ_131.1 35 ≤ 19 := hT.1 35
      have a14_22 : 0 ≤ τ_131.2.1 14 (τ_131.1 22) ∧ τ_131.2.1 14 (τ_131.1 22) ≤ 30000 := hT.2 14 _
      have a15_22 : 0 ≤ τ_131.2.1 15 (τ_131.1 22) ∧ τ_131.2.1 15 (τ_131.1 22) ≤ 300 := hT.2 15 _
      have a25_22 : 0 ≤ τ_131.2.1 25 (τ_131.1 22) ∧ τ_131.2.1 25 (τ_131.1 22) ≤ 20000 := hT.2 25 _
      have a26_22 : 0 ≤ τ_131.2.1 26 (τ_131.1 22) ∧ τ_131.2.1 26 (τ_131.1 22) ≤ 20000 := hT.2 26 _
      have y14_22_τ_131 : τ_131.2.1 14 (τ_131.1 22) = σ.2.1 14 (σ.1 22) := by rw [G14, W22]
      have y15_22_τ_131 : τ_131.2.1 15 (τ_131.1 22) = σ.2.1 15 (σ.1 22) := by rw [G15, W22]
      have y25_22_τ_131 : τ_131.2.1 25 (τ_131.1 22) = σ.2.1 25 (σ.1 22) := by rw [G25, W22]
      have y26_22_τ_131 : τ_131.2.1 26 (τ_131.1 22) = σ.2.1 26 (σ.1 22) := by rw [G26, W22]
      have Z4 : τ_131.2.1 25 (τ_131.1 22) + τ_131.2.1 26 (τ_131.1 22) = (τ_131.1 9) := by rw [show (τ_131.2.1 25 (τ_131.1 22) + τ_131.2.1 26 (τ_131.1 22) = (τ_131.1 9)) = (σ.2.1 25 (σ.1 22) + σ.2.1 26 (σ.1 22) = (σ.1 9)) from by rw [W9, W22, G25, G26]]; exact Z4_0
      have Y14 : ca (τ_131.2.1 28) ((τ_131.1 9)) ≤ ca (τ_131.2.1 28) (τ_131.2.1 25 (τ_131.1 22)) + 300 := by rw [show (ca (τ_131.2.1 28) ((τ_131.1 9)) ≤ ca (τ_131.2.1 28) (τ_131.2.1 25 (τ_131.1 22)) + 300) = (ca (σ.2.1 28) ((σ.1 9)) ≤ ca (σ.2.1 28) (σ.2.1 25 (σ.1 22)) + 300) from by rw [W9, W22, G25, G28]]; exact Y14_0
      have PA : J_pa (τ_131.2.1 21) (τ_131.2.1 22) := by rw [show (J_pa (τ_131.2.1 21) (τ_131.2.1 22)) = (J_pa (σ.2.1 21) (σ.2.1 22)) from by rw [G21, G22]]; exact PA_0
      refine h131 u1_131 u2_131 τ_131 ?_
      refine ⟨(show 0 ≤ τ_131.1 22 ∧ τ_131.1 22 < 1501 from by (first | omega | (simp only [st_s] <;> omega) | assumption | omega)), ?_⟩
      intro x33 r_x33 e_x33
      have b_x33 : 0 ≤ x33 ∧ x33 ≤ 300 := by rw [e_x33]; exact hT.2 15 _
      refine ⟨fun c34 => ?_, fun c34 => ?_⟩
      ·
        refine h185 _ _ ?_
        refine ⟨fun c44 => ?_, fun c44 => ?_⟩
        ·
          exact ⟨hT, (show ¬ (σ.1 20) = 0 → (τ_131.1 20) = (σ.1 20) from by (first | omega | (simp only [st_s] <;> omega) | assumption | omega))⟩
        ·
          refine ⟨_, K_X13_fail hT (show 0 ≤ 19 from by (first | omega | (simp only [st_s] <;> omega) | assumption | omega)) (show 19 ≤ 19 from by (first | omega | (simp only [st_s] <;> omega) | assumption | omega)) (show -1 ≤ (τ_131.1 24) from by (first | omega | (simp only [st_s] <;> omega) | assumption | omega)) (show (τ_131.1 24) ≤ 60000 from by (first | omega | (simp only [st_s] <;> omega) | assumption | omega)), ?_⟩
          intro τ47 hn_τ47 hf_τ47 hq
          obtain ⟨hT, q45_1, q45_2⟩ := hq
          replace q45_1 : ¬ (τ_131.1 20) = 0 → (τ47.1 20) = (τ_131.1 20) := q45_1
          replace q45_2 : (τ_131.1 20) = 0 → (τ47.1 20) = 19 := q45_2
          have w5_τ47 : τ47.1 5 = τ_131.1 5 := hf_τ47.1 5 (by decide)
          have w9_τ47 : τ47.1 9 = τ_131.1 9 := hf_τ47.1 9 (by decide)
          have w22_τ47 : τ47.1 22 = τ_131.1 22 := hf_τ47.1 22 (by decide)
          have w24_τ47 : τ47.1 24 = τ_131.1 24 := hf_τ47.1 24 (by decide)
          have w30_τ47 : τ47.1 30 = τ_131.1 30 := hf_τ47.1 30 (by decide)
          have w31_τ47 : τ47.1 31 = τ_131.1 31 := hf_τ47.1 31 (by decide)
          have w32_τ47 : τ47.1 32 = τ_131.1 32 := hf_τ47.1 32 (by decide)
          have w33_τ47 : τ47.1 33 = τ_131.1 33 := hf_τ47.1 33 (by decide)
          have w35_τ47 : τ47.1 35 = τ_131.1 35 := hf_τ47.1 35 (by decide)
          have g14_τ47 : τ47.2.1 14 = τ_131.2.1 14 := hf_τ47.2.1 14 (by decide)
          have g15_τ47 : τ47.2.1 15 = τ_131.2.1 15 := hf_τ47.2.1 15 (by decide)
          have g21_τ47 : τ47.2.1 21 = τ_131.2.1 21 := hf_τ47.2.1 21 (by decide)
          have g22_τ47 : τ47.2.1 22 = τ_131.2.1 22 := hf_τ47.2.1 22 (by decide)
          have g25_τ47 : τ47.2.1 25 = τ_131.2.1 25 := hf_τ47.2.1 25 (by decide)
          have g26_τ47 : τ47.2.1 26 = τ_131.2.1 26 := hf_τ47.2.1 26 (by decide)
          have g27_τ47 : τ47.2.1 27 = τ_131.2.1 27 := hf_τ47.2.1 27 (by decide)
          have g28_τ47 : τ47.2.1 28 = τ_131.2.1 28 := hf_τ47.2.1 28 (by decide)
          have W5 : τ47.1 5 = σ.1 5 := by omega
          have W9 : τ47.1 9 = σ.1 9 := by omega
          have W22 : τ47.1 22 = σ.1 22 := by omega
          have W24 : τ47.1 24 = σ.1 24 := by omega
          have G14 : τ47.2.1 14 = σ.2.1 14 := (g14_τ47).trans G14
          have G15 : τ47.2.1 15 = σ.2.1 15 := (g15_τ47).trans G15
          have G21 : τ47.2.1 21 = σ.2.1 21 := (g21_τ47).trans G21
          have G22 : τ47.2.1 22 = σ.2.1 22 := (g22_τ47).trans G22
          have G25 : τ47.2.1 25 = σ.2.1 25 := (g25_τ47).trans G25
          have G26 : τ47.2.1 26 = σ.2.1 26 := (g26_τ47).trans G26
          have G27 : τ47.2.1 27 = σ.2.1 27 := (g27_τ47).trans G27
          have G28 : τ47.2.1 28 = σ.2.1 28 := (g28_τ47).trans G28
          have y14_22_τ47 : τ47.2.1 14 (τ47.1 22) = (τ_131.2.1 14) (τ_131.1 22) := by rw [g14_τ47, w22_τ47]
          have y15_22_τ47 : τ47.2.1 15 (τ47.1 22) = (τ_131.2.1 15) (τ_131.1 22) := by rw [g15_τ47, w22_τ47]
          have y25_22_τ47 : τ47.2.1 25 (τ47.1 22) = (τ_131.2.1 25) (τ_131.1 22) := by rw [g25_τ47, w22_τ47]
          have y26_22_τ47 : τ47.2.1 26 (τ47.1 22) = (τ_131.2.1 26) (τ_131.1 22) := by rw [g26_τ47, w22_τ47]
          have Z4 : τ47.2.1 25 (τ47.1 22) + τ47.2.1 26 (τ47.1 22) = (τ47.1 9) := by rw [show (τ47.2.1 25 (τ47.1 22) + τ47.2.1 26 (τ47.1 22) = (τ47.1 9)) = (τ_131.2.1 25 (τ_131.1 22) + τ_131.2.1 26 (τ_131.1 22) = (τ_131.1 9)) from by rw [w9_τ47, w22_τ47, g25_τ47, g26_τ47]]; exact Z4
          have Y14 : ca (τ47.2.1 28) ((τ47.1 9)) ≤ ca (τ47.2.1 28) (τ47.2.1 25 (τ47.1 22)) + 300 := by rw [show (ca (τ47.2.1 28) ((τ47.1 9)) ≤ ca (τ47.2.1 28) (τ47.2.1 25 (τ47.1 22)) + 300) = (ca (τ_131.2.1 28) ((τ_131.1 9)) ≤ ca (τ_131.2.1 28) (τ_131.2.1 25 (τ_131.1 22)) + 300) from by rw [w9_τ47, w22_τ47, g25_τ47, g28_τ47]]; exact Y14
          have PA : J_pa (τ47.2.1 21) (τ47.2.1 22) := by rw [show (J_pa (τ47.2.1 21) (τ47.2.1 22)) = (J_pa (τ_131.2.1 21) (τ_131.2.1 22)) from by rw [g21_τ47, g22_τ47]]; exact PA
          have A14 : ∀ j, 0 ≤ τ47.2.1 14 j ∧ τ47.2.1 14 j ≤ 30000 := fun j => hT.2 14 j
          have A15 : ∀ j, 0 ≤ τ47.2.1 15 j ∧ τ47.2.1 15 j ≤ 300 := fun j => hT.2 15 j
          have A21 : ∀ j, 0 ≤ τ47.2.1 21 j ∧ τ47.2.1 21 j ≤ 20000 := fun j => hT.2 21 j
          have A22 : ∀ j, 0 ≤ τ47.2.1 22 j ∧ τ47.2.1 22 j ≤ 20000 := fun j => hT.2 22 j
          have A25 : ∀ j, 0 ≤ τ47.2.1 25 j ∧ τ47.2.1 25 j ≤ 20000 := fun j => hT.2 25 j
          have A26 : ∀ j, 0 ≤ τ47.2.1 26 j ∧ τ47.2.1 26 j ≤ 20000 := fun j => hT.2 26 j
          have A27 : ∀ j, (-300) ≤ τ47.2.1 27 j ∧ τ47.2.1 27 j ≤ 1499 := fun j => hT.2 27 j
          have A28 : ∀ j, 0 ≤ τ47.2.1 28 j ∧ τ47.2.1 28 j ≤ 1 := fun j => hT.2 28 j
          have v5 : 0 ≤ τ47.1 5 ∧ τ47.1 5 ≤ 1500 := hT.1 5
          have v9 : 0 ≤ τ47.1 9 ∧ τ47.1 9 ≤ 20000 := hT.1 9
          have v20 : 0 ≤ τ47.1 20 ∧ τ47.1 20 ≤ 19 := hT.1 20
          have v22 : 0 ≤ τ47.1 22 ∧ τ47.1 22 ≤ 1499 := hT.1 22
          have v24 : 0 ≤ τ47.1 24 ∧ τ47.1 24 ≤ 60000 := hT.1 24
          have v30 : 0 ≤ τ47.1 30 ∧ τ47.1 30 ≤ 200 := hT.1 30
          have v31 : 0 ≤ τ47.1 31 ∧ τ47.1 31 ≤ 40000 := hT.1 31
          have v32 : 0 ≤ τ47.1 32 ∧ τ47.1 32 ≤ 300 := hT.1 32
          have v33 : 0 ≤ τ47.1 33 ∧ τ47.1 33 ≤ 40000 := hT.1 33
          have v35 : 0 ≤ τ47.1 35 ∧ τ47.1 35 ≤ 19 := hT.1 35
          have a14_22 : 0 ≤ τ47.2.1 14 (τ47.1 22) ∧ τ47.2.1 14 (τ47.1 22) ≤ 30000 := hT.2 14 _
          have a15_22 : 0 ≤ τ47.2.1 15 (τ47.1 22) ∧ τ47.2.1 15 (τ47.1 22) ≤ 300 := hT.2 15 _
          have a25_22 : 0 ≤ τ47.2.1 25 (τ47.1 22) ∧ τ47.2.1 25 (τ47.1 22) ≤ 20000 := hT.2 25 _
          have a26_22 : 0 ≤ τ47.2.1 26 (τ47.1 22) ∧ τ47.2.1 26 (τ47.1 22) ≤ 20000 := hT.2 26 _
          exact ⟨hT, (show ¬ (σ.1 20) = 0 → (τ47.1 20) = (σ.1 20) from by (first | omega | (simp only [st_s] <;> omega) | assumption | omega))⟩
      ·
        refine ⟨fun c35 => ?_, fun c35 => ?_⟩
        ·
          refine h185 _ _ ?_
          refine ⟨fun c44 => ?_, fun c44 => ?_⟩
          ·
            exact ⟨hT, (show ¬ (σ.1 20) = 0 → (τ_131.1 20) = (σ.1 20) from by (first | omega | (simp only [st_s] <;> omega) | assumption | omega))⟩
          ·
            refine ⟨_, K_X13_fail hT (show 0 ≤ 19 from by (first | omega | (simp only [st_s] <;> omega) | assumption | omega)) (show 19 ≤ 19 from by (first | omega | (simp only [st_s] <;> omega) | assumption | omega)) (show -1 ≤ (τ_131.1 24) from by (first | omega | (simp only [st_s] <;> omega) | assumption | omega)) (show (τ_131.1 24) ≤ 60000 from by (first | omega | (simp only [st_s] <;> omega) | assumption | omega)), ?_⟩
            intro τ47 hn_τ47 hf_τ47 hq
            obtain ⟨hT, q45_1, q45_2⟩ := hq
            replace q45_1 : ¬ (τ_131.1 20) = 0 → (τ47.1 20) = (τ_131.1 20) := q45_1
            replace q45_2 : (τ_131.1 20) = 0 → (τ47.1 20) = 19 := q45_2
            have w5_τ47 : τ47.1 5 = τ_131.1 5 := hf_τ47.1 5 (by decide)
            have w9_τ47 : τ47.1 9 = τ_131.1 9 := hf_τ47.1 9 (by decide)
            have w22_τ47 : τ47.1 22 = τ_131.1 22 := hf_τ47.1 22 (by decide)
            have w24_τ47 : τ47.1 24 = τ_131.1 24 := hf_τ47.1 24 (by decide)
            have w30_τ47 : τ47.1 30 = τ_131.1 30 := hf_τ47.1 30 (by decide)
            have w31_τ47 : τ47.1 31 = τ_131.1 31 := hf_τ47.1 31 (by decide)
            have w32_τ47 : τ47.1 32 = τ_131.1 32 := hf_τ47.1 32 (by decide)
            have w33_τ47 : τ47.1 33 = τ_131.1 33 := hf_τ47.1 33 (by decide)
            have w35_τ47 : τ47.1 35 = τ_131.1 35 := hf_τ47.1 35 (by decide)
            have g14_τ47 : τ47.2.1 14 = τ_131.2.1 14 := hf_τ47.2.1 14 (by decide)
            have g15_τ47 : τ47.2.1 15 = τ_131.2.1 15 := hf_τ47.2.1 15 (by decide)
            have g21_τ47 : τ47.2.1 21 = τ_131.2.1 21 := hf_τ47.2.1 21 (by decide)
            have g22_τ47 : τ47.2.1 22 = τ_131.2.1 22 := hf_τ47.2.1 22 (by decide)
            have g25_τ47 : τ47.2.1 25 = τ_131.2.1 25 := hf_τ47.2.1 25 (by decide)
            have g26_τ47 : τ47.2.1 26 = τ_131.2.1 26 := hf_τ47.2.1 26 (by decide)
            have g27_τ47 : τ47.2.1 27 = τ_131.2.1 27 := hf_τ47.2.1 27 (by decide)
            have g28_τ47 : τ47.2.1 28 = τ_131.2.1 28 := hf_τ47.2.1 28 (by decide)
            have W5 : τ47.1 5 = σ.1 5 := by omega
            have W9 : τ47.1 9 = σ.1 9 := by omega
            have W22 : τ47.1 22 = σ.1 22 := by omega
            have W24 : τ47.1 24 = σ.1 24 := by omega
            have G14 : τ47.2.1 14 = σ.2.1 14 := (g14_τ47).trans G14
            have G15 : τ47.2.1 15 = σ.2.1 15 := (g15_τ47).trans G15
            have G21 : τ47.2.1 21 = σ.2.1 21 := (g21_τ47).trans G21
            have G22 : τ47.2.1 22 = σ.2.1 22 := (g22_τ47).trans G22
            have G25 : τ47.2.1 25 = σ.2.1 25 := (g25_τ47).trans G25
            have G26 : τ47.2.1 26 = σ.2.1 26 := (g26_τ47).trans G26
            have G27 : τ47.2.1 27 = σ.2.1 27 := (g27_τ47).trans G27
            have G28 : τ47.2.1 28 = σ.2.1 28 := (g28_τ47).trans G28
            have y14_22_τ47 : τ47.2.1 14 (τ47.1 22) = (τ_131.2.1 14) (τ_131.1 22) := by rw [g14_τ47, w22_τ47]
            have y15_22_τ47 : τ47.2.1 15 (τ47.1 22) = (τ_131.2.1 15) (τ_131.1 22) := by rw [g15_τ47, w22_τ47]
            have y25_22_τ47 : τ47.2.1 25 (τ47.1 22) = (τ_131.2.1 25) (τ_131.1 22) := by rw [g25_τ47, w22_τ47]
            have y26_22_τ47 : τ47.2.1 26 (τ47.1 22) = (τ_131.2.1 26) (τ_131.1 22) := by rw [g26_τ47, w22_τ47]
            have Z4 : τ47.2.1 25 (τ47.1 22) + τ47.2.1 26 (τ47.1 22) = (τ47.1 9) := by rw [show (τ47.2.1 25 (τ47.1 22) + τ47.2.1 26 (τ47.1 22) = (τ47.1 9)) = (τ_131.2.1 25 (τ_131.1 22) + τ_131.2.1 26 (τ_131.1 22) = (τ_131.1 9)) from by rw [w9_τ47, w22_τ47, g25_τ47, g26_τ47]]; exact Z4
            have Y14 : ca (τ47.2.1 28) ((τ47.1 9)) ≤ ca (τ47.2.1 28) (τ47.2.1 25 (τ47.1 22)) + 300 := by rw [show (ca (τ47.2.1 28) ((τ47.1 9)) ≤ ca (τ47.2.1 28) (τ47.2.1 25 (τ47.1 22)) + 300) = (ca (τ_131.2.1 28) ((τ_131.1 9)) ≤ ca (τ_131.2.1 28) (τ_131.2.1 25 (τ_131.1 22)) + 300) from by rw [w9_τ47, w22_τ47, g25_τ47, g28_τ47]]; exact Y14
            have PA : J_pa (τ47.2.1 21) (τ47.2.1 22) := by rw [show (J_pa (τ47.2.1 21) (τ47.2.1 22)) = (J_pa (τ_131.2.1 21) (τ_131.2.1 22)) from by rw [g21_τ47, g22_τ47]]; exact PA
            have A14 : ∀ j, 0 ≤ τ47.2.1 14 j ∧ τ47.2.1 14 j ≤ 30000 := fun j => hT.2 14 j
            have A15 : ∀ j, 0 ≤ τ47.2.1 15 j ∧ τ47.2.1 15 j ≤ 300 := fun j => hT.2 15 j
            have A21 : ∀ j, 0 ≤ τ47.2.1 21 j ∧ τ47.2.1 21 j ≤ 20000 := fun j => hT.2 21 j
            have A22 : ∀ j, 0 ≤ τ47.2.1 22 j ∧ τ47.2.1 22 j ≤ 20000 := fun j => hT.2 22 j
            have A25 : ∀ j, 0 ≤ τ47.2.1 25 j ∧ τ47.2.1 25 j ≤ 20000 := fun j => hT.2 25 j
            have A26 : ∀ j, 0 ≤ τ47.2.1 26 j ∧ τ47.2.1 26 j ≤ 20000 := fun j => hT.2 26 j
            have A27 : ∀ j, (-300) ≤ τ47.2.1 27 j ∧ τ47.2.1 27 j ≤ 1499 := fun j => hT.2 27 j
            have A28 : ∀ j, 0 ≤ τ47.2.1 28 j ∧ τ47.2.1 28 j ≤ 1 := fun j => hT.2 28 j
            have v5 : 0 ≤ τ47.1 5 ∧ τ47.1 5 ≤ 1500 := hT.1 5
            have v9 : 0 ≤ τ47.1 9 ∧ τ47.1 9 ≤ 20000 := hT.1 9
            have v20 : 0 ≤ τ47.1 20 ∧ τ47.1 20 ≤ 19 := hT.1 20
            have v22 : 0 ≤ τ47.1 22 ∧ τ47.1 22 ≤ 1499 := hT.1 22
            have v24 : 0 ≤ τ47.1 24 ∧ τ47.1 24 ≤ 60000 := hT.1 24
            have v30 : 0 ≤ τ47.1 30 ∧ τ47.1 30 ≤ 200 := hT.1 30
            have v31 : 0 ≤ τ47.1 31 ∧ τ47.1 31 ≤ 40000 := hT.1 31
            have v32 : 0 ≤ τ47.1 32 ∧ τ47.1 32 ≤ 300 := hT.1 32
            have v33 : 0 ≤ τ47.1 33 ∧ τ47.1 33 ≤ 40000 := hT.1 33
            have v35 : 0 ≤ τ47.1 35 ∧ τ47.1 35 ≤ 19 := hT.1 35
            have a14_22 : 0 ≤ τ47.2.1 14 (τ47.1 22) ∧ τ47.2.1 14 (τ47.1 22) ≤ 30000 := hT.2 14 _
            have a15_22 : 0 ≤ τ47.2.1 15 (τ47.1 22) ∧ τ47.2.1 15 (τ47.1 22) ≤ 300 := hT.2 15 _
            have a25_22 : 0 ≤ τ47.2.1 25 (τ47.1 22) ∧ τ47.2.1 25 (τ47.1 22) ≤ 20000 := hT.2 25 _
            have a26_22 : 0 ≤ τ47.2.1 26 (τ47.1 22) ∧ τ47.2.1 26 (τ47.1 22) ≤ 20000 := hT.2 26 _
            exact ⟨hT, (show ¬ (σ.1 20) = 0 → (τ47.1 20) = (σ.1 20) from by (first | omega | (simp only [st_s] <;> omega) | assumption | omega))⟩
        ·
          refine ⟨(show 0 ≤ u2_131 ∧ u2_131 < 42000 from by (first | omega | (simp only [st_s] <;> omega) | assumption | omega)), ?_⟩
          intro x37 r_x37 e_x37
          have b_x37 : 0 ≤ x37 ∧ x37 ≤ 999 := by rw [e_x37]; exact hT.2 43 _
          intro x38 r_x38 e_x38
          have b_x38 : 0 ≤ x38 ∧ x38 ≤ 30000 := by rw [e_x38]; exact hT.2 14 _
          refine ⟨(show 0 ≤ (x38 + u2_131) ∧ (x38 + u2_131) < 30400 from by (first | omega | (simp only [st_s] <;> omega) | assumption | omega)), ?_⟩
          intro x40 r_x40 e_x40
          have b_x40 : 0 ≤ x40 ∧ x40 ≤ 999 := by rw [e_x40]; exact hT.2 16 _
          refine ⟨fun c41 => ?_, fun c41 => ?_⟩
          ·
            refine ⟨(⟨by (first | omega | (simp only [st_s] <;> omega) | assumption | omega), by (first | omega | (simp only [st_s] <;> omega) | assumption | omega)⟩ : rg (u2_131 + 1)), ?_⟩
            exact ih_131 _ _ _ (show (301 - (u2_131 + 1) : Int) < ((m_131 : Nat) : Int) from by ((first | omega | (simp only [st_s] <;> omega) | assumption | omega))) hT (show τ_131.1 5 = σ.1 5 from by omega) (show τ_131.1 9 = σ.1 9 from by omega) (show τ_131.1 22 = σ.1 22 from by omega) (show τ_131.1 24 = σ.1 24 from by omega) G14 G15 G21 G22 G25 G26 G27 G28 (show 0 ≤ (u2_131 + 1) from by (first | omega | (simp only [st_s] <;> omega) | assumption | omega)) (show (u2_131 + 1) ≤ 300 from by (first | omega | (simp only [st_s] <;> omega) | assumption | omega)) (show ¬ (σ.1 20) = 0 → (τ_131.1 20) = (σ.1 20) from by (first | omega | (simp only [st_s] <;> omega) | assumption | omega))
          ·
            refine ⟨(⟨by (first | omega | (simp only [st_s] <;> omega) | assumption | omega), by (first | omega | (simp only [st_s] <;> omega) | assumption | omega)⟩ : rg (u2_131 + 1)), ?_⟩
            exact ih_131 _ _ _ (show (301 - (u2_131 + 1) : Int) < ((m_131 : Nat) : Int) from by ((first | omega | (simp only [st_s] <;> omega) | assumption | omega))) hT (show τ_131.1 5 = σ.1 5 from by omega) (show τ_131.1 9 = σ.1 9 from by omega) (show τ_131.1 22 = σ.1 22 from by omega) (show τ_131.1 24 = σ.1 24 from by omega) G14 G15 G21 G22 G25 G26 G27 G28 (show 0 ≤ (u2_131 + 1) from by (first | omega | (simp only [st_s] <;> omega) | assumption | omega)) (show (u2_131 + 1) ≤ 300 from by (first | omega | (simp only [st_s] <;> omega) | assumption | omega)) (show ¬ (σ.1 20) = 0 → (τ_131.1 20) = (σ.1 20) from by (first | omega | (simp only [st_s] <;> omega) | assumption | omega))
  have l_14 : ∀ (m_14 : Nat) (u1_14 : Int) (τ_14 : S0), 20001 - u1_14 < (m_14 : Int) → (m_T τ_14) → (τ_14.1 5 = σ.1 5) → (τ_14.1 9 = σ.1 9) → (τ_14.1 22 = σ.1 22) → (τ_14.1 24 = σ.1 24) → (τ_14.2.1 14 = σ.2.1 14) → (τ_14.2.1 15 = σ.2.1 15) → (τ_14.2.1 21 = σ.2.1 21) → (τ_14.2.1 22 = σ.2.1 22) → (τ_14.2.1 25 = σ.2.1 25) → (τ_14.2.1 26 = σ.2.1 26) → (τ_14.2.1 27 = σ.2.1 27) → (τ_14.2.1 28 = σ.2.1 28) → (0 ≤ u1_14 ∧ u1_14 ≤ (σ.1 9)) → (σ.2.1 25 (σ.1 22) ≤ u1_14) → ((τ_14.1 32) + ca (σ.2.1 28) (σ.2.1 25 (σ.1 22)) ≤ ca (σ.2.1 28) u1_14) → (¬ (σ.1 20) = 0 → (τ_14.1 20) = (σ.1 20)) → (J_pa (τ_14.2.1 21) (τ_14.2.1 22)) → P14 u1_14 τ_14 := by
    intro m_14
    induction m_14 with
    | zero =>
      intro u1_14 τ_14 hm hT W5 W9 W22 W24 G14 G15 G21 G22 G25 G26 G27 G28 i14_1 i14_2 i14_3 i14_4 i14_5
      have A14 : ∀ j, 0 ≤ τ_14.2.1 14 j ∧ τ_14.2.1 14 j ≤ 30000 := fun j => hT.2 14 j
      have A15 : ∀ j, 0 ≤ τ_14.2.1 15 j ∧ τ_14.2.1 15 j ≤ 300 := fun j => hT.2 15 j
      have A21 : ∀ j, 0 ≤ τ_14.2.1 21 j ∧ τ_14.2.1 21 j ≤ 20000 := fun j => hT.2 21 j
      have A22 : ∀ j, 0 ≤ τ_14.2.1 22 j ∧ τ_14.2.1 22 j ≤ 20000 := fun j => hT.2 22 j
      have A25 : ∀ j, 0 ≤ τ_14.2.1 25 j ∧ τ_14.2.1 25 j ≤ 20000 := fun j => hT.2 25 j
      have A26 : ∀ j, 0 ≤ τ_14.2.1 26 j ∧ τ_14.2.1 26 j ≤ 20000 := fun j => hT.2 26 j
      have A27 : ∀ j, (-300) ≤ τ_14.2.1 27 j ∧ τ_14.2.1 27 j ≤ 1499 := fun j => hT.2 27 j
      have A28 : ∀ j, 0 ≤ τ_14.2.1 28 j ∧ τ_14.2.1 28 j ≤ 1 := fun j => hT.2 28 j
      have v5 : 0 ≤ τ_14.1 5 ∧ τ_14.1 5 ≤ 1500 := hT.1 5
      have v9 : 0 ≤ τ_14.1 9 ∧ τ_14.1 9 ≤ 20000 := hT.1 9
      have v20 : 0 ≤ τ_14.1 20 ∧ τ_14.1 20 ≤ 19 := hT.1 20
      have v22 : 0 ≤ τ_14.1 22 ∧ τ_14.1 22 ≤ 1499 := hT.1 22
      have v24 : 0 ≤ τ_14.1 24 ∧ τ_14.1 24 ≤ 60000 := hT.1 24
      have v30 : 0 ≤ τ_14.1 30 ∧ τ_14.1 30 ≤ 200 := hT.1 30
      have v31 : 0 ≤ τ_14.1 31 ∧ τ_14.1 31 ≤ 40000 := hT.1 31
      have v32 : 0 ≤ τ_14.1 32 ∧ τ_14.1 32 ≤ 300 := hT.1 32
      have v33 : 0 ≤ τ_14.1 33 ∧ τ_14.1 33 ≤ 40000 := hT.1 33
      have v35 : 0 ≤ τ_14.1 35 ∧ τ_14.1 35 ≤ 19 := hT.1 35
      have a14_22 : 0 ≤ τ_14.2.1 14 (τ_14.1 22) ∧ τ_14.2.1 14 (τ_14.1 22) ≤ 30000 := hT.2 14 _
      have a15_22 : 0 ≤ τ_14.2.1 15 (τ_14.1 22) ∧ τ_14.2.1 15 (τ_14.1 22) ≤ 300 := hT.2 15 _
      have a25_22 : 0 ≤ τ_14.2.1 25 (τ_14.1 22) ∧ τ_14.2.1 25 (τ_14.1 22) ≤ 20000 := hT.2 25 _
      have a26_22 : 0 ≤ τ_14.2.1 26 (τ_14.1 22) ∧ τ_14.2.1 26 (τ_14.1 22) ≤ 20000 := hT.2 26 _
      exfalso; (first | omega | (simp only [st_s] <;> omega) | assumption | omega)
    | succ m_14 ih_14 =>
      intro u1_14 τ_14 hm_14 hT W5 W9 W22 W24 G14 G15 G21 G22 G25 G26 G27 G28 i14_1 i14_2 i14_3 i14_4 i14_5
      have A14 : ∀ j, 0 ≤ τ_14.2.1 14 j ∧ τ_14.2.1 14 j ≤ 30000 := fun j => hT.2 14 j
      have A15 : ∀ j, 0 ≤ τ_14.2.1 15 j ∧ τ_14.2.1 15 j ≤ 300 := fun j => hT.2 15 j
      have A21 : ∀ j, 0 ≤ τ_14.2.1 21 j ∧ τ_14.2.1 21 j ≤ 20000 := fun j => hT.2 21 j
      have A22 : ∀ j, 0 ≤ τ_14.2.1 22 j ∧ τ_14.2.1 22 j ≤ 20000 := fun j => hT.2 22 j
      have A25 : ∀ j, 0 ≤ τ_14.2.1 25 j ∧ τ_14.2.1 25 j ≤ 20000 := fun j => hT.2 25 j
      have A26 : ∀ j, 0 ≤ τ_14.2.1 26 j ∧ τ_14.2.1 26 j ≤ 20000 := fun j => hT.2 26 j
      have A27 : ∀ j, (-300) ≤ τ_14.2.1 27 j ∧ τ_14.2.1 27 j ≤ 1499 := fun j => hT.2 27 j
      have A28 : ∀ j, 0 ≤ τ_14.2.1 28 j ∧ τ_14.2.1 28 j ≤ 1 := fun j => hT.2 28 j
      have v5 : 0 ≤ τ_14.1 5 ∧ τ_14.1 5 ≤ 1500 := hT.1 5
      have v9 : 0 ≤ τ_14.1 9 ∧ τ_14.1 9 ≤ 20000 := hT.1 9
      have v20 : 0 ≤ τ_14.1 20 ∧ τ_14.1 20 ≤ 19 := hT.1 20
      have v22 : 0 ≤ τ_14.1 22 ∧ τ_14.1 22 ≤ 1499 := hT.1 22
      have v24 : 0 ≤ τ_14.1 24 ∧ τ_14.1 24 ≤ 60000 := hT.1 24
      have v30 : 0 ≤ τ_14.1 30 ∧ τ_14.1 30 ≤ 200 := hT.1 30
      have v31 : 0 ≤ τ_14.1 31 ∧ τ_14.1 31 ≤ 40000 := hT.1 31
      have v32 : 0 ≤ τ_14.1 32 ∧ τ_14.1 32 ≤ 300 := hT.1 32
      have v33 : 0 ≤ τ_14.1 33 ∧ τ_14.1 33 ≤ 40000 := hT.1 33
      have v35 : 0 ≤ τ_14.1 35 ∧ τ_14.1 35 ≤ 19 := hT.1 35
      have a14_22 : 0 ≤ τ_14.2.1 14 (τ_14.1 22) ∧ τ_14.2.1 14 (τ_14.1 22) ≤ 30000 := hT.2 14 _
      have a15_22 : 0 ≤ τ_14.2.1 15 (τ_14.1 22) ∧ τ_14.2.1 15 (τ_14.1 22) ≤ 300 := hT.2 15 _
      have a25_22 : 0 ≤ τ_14.2.1 25 (τ_14.1 22) ∧ τ_14.2.1 25 (τ_14.1 22) ≤ 20000 := hT.2 25 _
      have a26_22 : 0 ≤ τ_14.2.1 26 (τ_14.1 22) ∧ τ_14.2.1 26 (τ_14.1 22) ≤ 20000 := hT.2 26 _
      have y14_22_τ_14 : τ_14.2.1 14 (τ_14.1 22) = σ.2.1 14 (σ.1 22) := by rw [G14, W22]
      have y15_22_τ_14 : τ_14.2.1 15 (τ_14.1 22) = σ.2.1 15 (σ.1 22) := by rw [G15, W22]
      have y25_22_τ_14 : τ_14.2.1 25 (τ_14.1 22) = σ.2.1 25 (σ.1 22) := by rw [G25, W22]
      have y26_22_τ_14 : τ_14.2.1 26 (τ_14.1 22) = σ.2.1 26 (σ.1 22) := by rw [G26, W22]
      have Z4 : τ_14.2.1 25 (τ_14.1 22) + τ_14.2.1 26 (τ_14.1 22) = (τ_14.1 9) := by rw [show (τ_14.2.1 25 (τ_14.1 22) + τ_14.2.1 26 (τ_14.1 22) = (τ_14.1 9)) = (σ.2.1 25 (σ.1 22) + σ.2.1 26 (σ.1 22) = (σ.1 9)) from by rw [W9, W22, G25, G26]]; exact Z4_0
      have Y14 : ca (τ_14.2.1 28) ((τ_14.1 9)) ≤ ca (τ_14.2.1 28) (τ_14.2.1 25 (τ_14.1 22)) + 300 := by rw [show (ca (τ_14.2.1 28) ((τ_14.1 9)) ≤ ca (τ_14.2.1 28) (τ_14.2.1 25 (τ_14.1 22)) + 300) = (ca (σ.2.1 28) ((σ.1 9)) ≤ ca (σ.2.1 28) (σ.2.1 25 (σ.1 22)) + 300) from by rw [W9, W22, G25, G28]]; exact Y14_0
      have PA : J_pa (τ_14.2.1 21) (τ_14.2.1 22) := i14_5
      refine h14 u1_14 τ_14 ?_
      refine ⟨(show 0 ≤ τ_14.1 22 ∧ τ_14.1 22 < 1501 from by (first | omega | (simp only [st_s] <;> omega) | assumption | omega)), ?_⟩
      intro x7 r_x7 e_x7
      have b_x7 : 0 ≤ x7 ∧ x7 ≤ 20000 := by rw [e_x7]; exact hT.2 25 _
      intro x8 r_x8 e_x8
      have b_x8 : 0 ≤ x8 ∧ x8 ≤ 20000 := by rw [e_x8]; exact hT.2 26 _
      refine ⟨(⟨by (first | omega | (simp only [st_s] <;> omega) | assumption | omega), by (first | omega | (simp only [st_s] <;> omega) | assumption | omega)⟩ : rg (x7 + x8)), ?_⟩
      refine ⟨fun c10 => ?_, fun c10 => ?_⟩
      ·
        refine h78 _ ?_
        refine ⟨fun c23 => ?_, fun c23 => ?_⟩
        ·
          refine ⟨fun c24 => ?_, fun c24 => ?_⟩
          ·
            intro x25 r_x25 e_x25
            have b_x25 : 0 ≤ x25 ∧ x25 ≤ 1000 := by rw [e_x25]; exact hT.2 41 _
            refine ⟨(show 0 ≤ τ_14.1 22 ∧ τ_14.1 22 < 1501 from by (first | omega | (simp only [st_s] <;> omega) | assumption | omega)), ?_⟩
            intro x27 r_x27 e_x27
            have b_x27 : 0 ≤ x27 ∧ x27 ≤ 300 := by rw [e_x27]; exact hT.2 15 _
            refine ⟨fun c28 => ?_, fun c28 => ?_⟩
            ·
              exact l_131 ((301 - 0 : Int).toNat + 1) _ _ _ (show (301 - 0 : Int) < (((301 - 0 : Int).toNat + 1 : Nat) : Int) from by ((first | omega | (simp only [st_s] <;> omega) | assumption | omega))) hT (show τ_14.1 5 = σ.1 5 from by omega) (show τ_14.1 9 = σ.1 9 from by omega) (show τ_14.1 22 = σ.1 22 from by omega) (show τ_14.1 24 = σ.1 24 from by omega) G14 G15 G21 G22 G25 G26 G27 G28 (show 0 ≤ 0 from by (first | omega | (simp only [st_s] <;> omega) | assumption | omega)) (show 0 ≤ 300 from by (first | omega | (simp only [st_s] <;> omega) | assumption | omega)) (show ¬ (σ.1 20) = 0 → (τ_14.1 20) = (σ.1 20) from by (first | omega | (simp only [st_s] <;> omega) | assumption | omega))
            ·
              exact l_131 ((301 - 0 : Int).toNat + 1) _ _ _ (show (301 - 0 : Int) < (((301 - 0 : Int).toNat + 1 : Nat) : Int) from by ((first | omega | (simp only [st_s] <;> omega) | assumption | omega))) hT (show τ_14.1 5 = σ.1 5 from by omega) (show τ_14.1 9 = σ.1 9 from by omega) (show τ_14.1 22 = σ.1 22 from by omega) (show τ_14.1 24 = σ.1 24 from by omega) G14 G15 G21 G22 G25 G26 G27 G28 (show 0 ≤ 0 from by (first | omega | (simp only [st_s] <;> omega) | assumption | omega)) (show 0 ≤ 300 from by (first | omega | (simp only [st_s] <;> omega) | assumption | omega)) (show ¬ (σ.1 20) = 0 → (τ_14.1 20) = (σ.1 20) from by (first | omega | (simp only [st_s] <;> omega) | assumption | omega))
          ·
            refine ⟨_, K_X13_fail hT (show 0 ≤ 18 from by (first | omega | (simp only [st_s] <;> omega) | assumption | omega)) (show 18 ≤ 19 from by (first | omega | (simp only [st_s] <;> omega) | assumption | omega)) (show -1 ≤ (τ_14.1 24) from by (first | omega | (simp only [st_s] <;> omega) | assumption | omega)) (show (τ_14.1 24) ≤ 60000 from by (first | omega | (simp only [st_s] <;> omega) | assumption | omega)), ?_⟩
            intro τ31 hn_τ31 hf_τ31 hq
            obtain ⟨hT, q29_1, q29_2⟩ := hq
            replace q29_1 : ¬ (τ_14.1 20) = 0 → (τ31.1 20) = (τ_14.1 20) := q29_1
            replace q29_2 : (τ_14.1 20) = 0 → (τ31.1 20) = 18 := q29_2
            have w5_τ31 : τ31.1 5 = τ_14.1 5 := hf_τ31.1 5 (by decide)
            have w9_τ31 : τ31.1 9 = τ_14.1 9 := hf_τ31.1 9 (by decide)
            have w22_τ31 : τ31.1 22 = τ_14.1 22 := hf_τ31.1 22 (by decide)
            have w24_τ31 : τ31.1 24 = τ_14.1 24 := hf_τ31.1 24 (by decide)
            have w30_τ31 : τ31.1 30 = τ_14.1 30 := hf_τ31.1 30 (by decide)
            have w31_τ31 : τ31.1 31 = τ_14.1 31 := hf_τ31.1 31 (by decide)
            have w32_τ31 : τ31.1 32 = τ_14.1 32 := hf_τ31.1 32 (by decide)
            have w33_τ31 : τ31.1 33 = τ_14.1 33 := hf_τ31.1 33 (by decide)
            have w35_τ31 : τ31.1 35 = τ_14.1 35 := hf_τ31.1 35 (by decide)
            have g14_τ31 : τ31.2.1 14 = τ_14.2.1 14 := hf_τ31.2.1 14 (by decide)
            have g15_τ31 : τ31.2.1 15 = τ_14.2.1 15 := hf_τ31.2.1 15 (by decide)
            have g21_τ31 : τ31.2.1 21 = τ_14.2.1 21 := hf_τ31.2.1 21 (by decide)
            have g22_τ31 : τ31.2.1 22 = τ_14.2.1 22 := hf_τ31.2.1 22 (by decide)
            have g25_τ31 : τ31.2.1 25 = τ_14.2.1 25 := hf_τ31.2.1 25 (by decide)
            have g26_τ31 : τ31.2.1 26 = τ_14.2.1 26 := hf_τ31.2.1 26 (by decide)
            have g27_τ31 : τ31.2.1 27 = τ_14.2.1 27 := hf_τ31.2.1 27 (by decide)
            have g28_τ31 : τ31.2.1 28 = τ_14.2.1 28 := hf_τ31.2.1 28 (by decide)
            have W5 : τ31.1 5 = σ.1 5 := by omega
            have W9 : τ31.1 9 = σ.1 9 := by omega
            have W22 : τ31.1 22 = σ.1 22 := by omega
            have W24 : τ31.1 24 = σ.1 24 := by omega
            have G14 : τ31.2.1 14 = σ.2.1 14 := (g14_τ31).trans G14
            have G15 : τ31.2.1 15 = σ.2.1 15 := (g15_τ31).trans G15
            have G21 : τ31.2.1 21 = σ.2.1 21 := (g21_τ31).trans G21
            have G22 : τ31.2.1 22 = σ.2.1 22 := (g22_τ31).trans G22
            have G25 : τ31.2.1 25 = σ.2.1 25 := (g25_τ31).trans G25
            have G26 : τ31.2.1 26 = σ.2.1 26 := (g26_τ31).trans G26
            have G27 : τ31.2.1 27 = σ.2.1 27 := (g27_τ31).trans G27
            have G28 : τ31.2.1 28 = σ.2.1 28 := (g28_τ31).trans G28
            have y14_22_τ31 : τ31.2.1 14 (τ31.1 22) = (τ_14.2.1 14) (τ_14.1 22) := by rw [g14_τ31, w22_τ31]
            have y15_22_τ31 : τ31.2.1 15 (τ31.1 22) = (τ_14.2.1 15) (τ_14.1 22) := by rw [g15_τ31, w22_τ31]
            have y25_22_τ31 : τ31.2.1 25 (τ31.1 22) = (τ_14.2.1 25) (τ_14.1 22) := by rw [g25_τ31, w22_τ31]
            have y26_22_τ31 : τ31.2.1 26 (τ31.1 22) = (τ_14.2.1 26) (τ_14.1 22) := by rw [g26_τ31, w22_τ31]
            have Z4 : τ31.2.1 25 (τ31.1 22) + τ31.2.1 26 (τ31.1 22) = (τ31.1 9) := by rw [show (τ31.2.1 25 (τ31.1 22) + τ31.2.1 26 (τ31.1 22) = (τ31.1 9)) = (τ_14.2.1 25 (τ_14.1 22) + τ_14.2.1 26 (τ_14.1 22) = (τ_14.1 9)) from by rw [w9_τ31, w22_τ31, g25_τ31, g26_τ31]]; exact Z4
            have Y14 : ca (τ31.2.1 28) ((τ31.1 9)) ≤ ca (τ31.2.1 28) (τ31.2.1 25 (τ31.1 22)) + 300 := by rw [show (ca (τ31.2.1 28) ((τ31.1 9)) ≤ ca (τ31.2.1 28) (τ31.2.1 25 (τ31.1 22)) + 300) = (ca (τ_14.2.1 28) ((τ_14.1 9)) ≤ ca (τ_14.2.1 28) (τ_14.2.1 25 (τ_14.1 22)) + 300) from by rw [w9_τ31, w22_τ31, g25_τ31, g28_τ31]]; exact Y14
            have PA : J_pa (τ31.2.1 21) (τ31.2.1 22) := by rw [show (J_pa (τ31.2.1 21) (τ31.2.1 22)) = (J_pa (τ_14.2.1 21) (τ_14.2.1 22)) from by rw [g21_τ31, g22_τ31]]; exact PA
            have A14 : ∀ j, 0 ≤ τ31.2.1 14 j ∧ τ31.2.1 14 j ≤ 30000 := fun j => hT.2 14 j
            have A15 : ∀ j, 0 ≤ τ31.2.1 15 j ∧ τ31.2.1 15 j ≤ 300 := fun j => hT.2 15 j
            have A21 : ∀ j, 0 ≤ τ31.2.1 21 j ∧ τ31.2.1 21 j ≤ 20000 := fun j => hT.2 21 j
            have A22 : ∀ j, 0 ≤ τ31.2.1 22 j ∧ τ31.2.1 22 j ≤ 20000 := fun j => hT.2 22 j
            have A25 : ∀ j, 0 ≤ τ31.2.1 25 j ∧ τ31.2.1 25 j ≤ 20000 := fun j => hT.2 25 j
            have A26 : ∀ j, 0 ≤ τ31.2.1 26 j ∧ τ31.2.1 26 j ≤ 20000 := fun j => hT.2 26 j
            have A27 : ∀ j, (-300) ≤ τ31.2.1 27 j ∧ τ31.2.1 27 j ≤ 1499 := fun j => hT.2 27 j
            have A28 : ∀ j, 0 ≤ τ31.2.1 28 j ∧ τ31.2.1 28 j ≤ 1 := fun j => hT.2 28 j
            have v5 : 0 ≤ τ31.1 5 ∧ τ31.1 5 ≤ 1500 := hT.1 5
            have v9 : 0 ≤ τ31.1 9 ∧ τ31.1 9 ≤ 20000 := hT.1 9
            have v20 : 0 ≤ τ31.1 20 ∧ τ31.1 20 ≤ 19 := hT.1 20
            have v22 : 0 ≤ τ31.1 22 ∧ τ31.1 22 ≤ 1499 := hT.1 22
            have v24 : 0 ≤ τ31.1 24 ∧ τ31.1 24 ≤ 60000 := hT.1 24
            have v30 : 0 ≤ τ31.1 30 ∧ τ31.1 30 ≤ 200 := hT.1 30
            have v31 : 0 ≤ τ31.1 31 ∧ τ31.1 31 ≤ 40000 := hT.1 31
            have v32 : 0 ≤ τ31.1 32 ∧ τ31.1 32 ≤ 300 := hT.1 32
            have v33 : 0 ≤ τ31.1 33 ∧ τ31.1 33 ≤ 40000 := hT.1 33
            have v35 : 0 ≤ τ31.1 35 ∧ τ31.1 35 ≤ 19 := hT.1 35
            have a14_22 : 0 ≤ τ31.2.1 14 (τ31.1 22) ∧ τ31.2.1 14 (τ31.1 22) ≤ 30000 := hT.2 14 _
            have a15_22 : 0 ≤ τ31.2.1 15 (τ31.1 22) ∧ τ31.2.1 15 (τ31.1 22) ≤ 300 := hT.2 15 _
            have a25_22 : 0 ≤ τ31.2.1 25 (τ31.1 22) ∧ τ31.2.1 25 (τ31.1 22) ≤ 20000 := hT.2 25 _
            have a26_22 : 0 ≤ τ31.2.1 26 (τ31.1 22) ∧ τ31.2.1 26 (τ31.1 22) ≤ 20000 := hT.2 26 _
            exact ⟨hT, (show ¬ (σ.1 20) = 0 → (τ31.1 20) = (σ.1 20) from by (first | omega | (simp only [st_s] <;> omega) | assumption | omega))⟩
        ·
          exact ⟨hT, (show ¬ (σ.1 20) = 0 → (τ_14.1 20) = (σ.1 20) from by (first | omega | (simp only [st_s] <;> omega) | assumption | omega))⟩
      ·
        refine ⟨fun c11 => ?_, fun c11 => ?_⟩
        ·
          refine h78 _ ?_
          refine ⟨fun c23 => ?_, fun c23 => ?_⟩
          ·
            refine ⟨fun c24 => ?_, fun c24 => ?_⟩
            ·
              intro x25 r_x25 e_x25
              have b_x25 : 0 ≤ x25 ∧ x25 ≤ 1000 := by rw [e_x25]; exact hT.2 41 _
              refine ⟨(show 0 ≤ τ_14.1 22 ∧ τ_14.1 22 < 1501 from by (first | omega | (simp only [st_s] <;> omega) | assumption | omega)), ?_⟩
              intro x27 r_x27 e_x27
              have b_x27 : 0 ≤ x27 ∧ x27 ≤ 300 := by rw [e_x27]; exact hT.2 15 _
              refine ⟨fun c28 => ?_, fun c28 => ?_⟩
              ·
                exact l_131 ((301 - 0 : Int).toNat + 1) _ _ _ (show (301 - 0 : Int) < (((301 - 0 : Int).toNat + 1 : Nat) : Int) from by ((first | omega | (simp only [st_s] <;> omega) | assumption | omega))) hT (show τ_14.1 5 = σ.1 5 from by omega) (show τ_14.1 9 = σ.1 9 from by omega) (show τ_14.1 22 = σ.1 22 from by omega) (show τ_14.1 24 = σ.1 24 from by omega) G14 G15 G21 G22 G25 G26 G27 G28 (show 0 ≤ 0 from by (first | omega | (simp only [st_s] <;> omega) | assumption | omega)) (show 0 ≤ 300 from by (first | omega | (simp only [st_s] <;> omega) | assumption | omega)) (show ¬ (σ.1 20) = 0 → (τ_14.1 20) = (σ.1 20) from by (first | omega | (simp only [st_s] <;> omega) | assumption | omega))
              ·
                exact l_131 ((301 - 0 : Int).toNat + 1) _ _ _ (show (301 - 0 : Int) < (((301 - 0 : Int).toNat + 1 : Nat) : Int) from by ((first | omega | (simp only [st_s] <;> omega) | assumption | omega))) hT (show τ_14.1 5 = σ.1 5 from by omega) (show τ_14.1 9 = σ.1 9 from by omega) (show τ_14.1 22 = σ.1 22 from by omega) (show τ_14.1 24 = σ.1 24 from by omega) G14 G15 G21 G22 G25 G26 G27 G28 (show 0 ≤ 0 from by (first | omega | (simp only [st_s] <;> omega) | assumption | omega)) (show 0 ≤ 300 from by (first | omega | (simp only [st_s] <;> omega) | assumption | omega)) (show ¬ (σ.1 20) = 0 → (τ_14.1 20) = (σ.1 20) from by (first | omega | (simp only [st_s] <;> omega) | assumption | omega))
            ·
              refine ⟨_, K_X13_fail hT (show 0 ≤ 18 from by (first | omega | (simp only [st_s] <;> omega) | assumption | omega)) (show 18 ≤ 19 from by (first | omega | (simp only [st_s] <;> omega) | assumption | omega)) (show -1 ≤ (τ_14.1 24) from by (first | omega | (simp only [st_s] <;> omega) | assumption | omega)) (show (τ_14.1 24) ≤ 60000 from by (first | omega | (simp only [st_s] <;> omega) | assumption | omega)), ?_⟩
              intro τ31 hn_τ31 hf_τ31 hq
              obtain ⟨hT, q29_1, q29_2⟩ := hq
              replace q29_1 : ¬ (τ_14.1 20) = 0 → (τ31.1 20) = (τ_14.1 20) := q29_1
              replace q29_2 : (τ_14.1 20) = 0 → (τ31.1 20) = 18 := q29_2
              have w5_τ31 : τ31.1 5 = τ_14.1 5 := hf_τ31.1 5 (by decide)
              have w9_τ31 : τ31.1 9 = τ_14.1 9 := hf_τ31.1 9 (by decide)
              have w22_τ31 : τ31.1 22 = τ_14.1 22 := hf_τ31.1 22 (by decide)
              have w24_τ31 : τ31.1 24 = τ_14.1 24 := hf_τ31.1 24 (by decide)
              have w30_τ31 : τ31.1 30 = τ_14.1 30 := hf_τ31.1 30 (by decide)
              have w31_τ31 : τ31.1 31 = τ_14.1 31 := hf_τ31.1 31 (by decide)
              have w32_τ31 : τ31.1 32 = τ_14.1 32 := hf_τ31.1 32 (by decide)
              have w33_τ31 : τ31.1 33 = τ_14.1 33 := hf_τ31.1 33 (by decide)
              have w35_τ31 : τ31.1 35 = τ_14.1 35 := hf_τ31.1 35 (by decide)
              have g14_τ31 : τ31.2.1 14 = τ_14.2.1 14 := hf_τ31.2.1 14 (by decide)
              have g15_τ31 : τ31.2.1 15 = τ_14.2.1 15 := hf_τ31.2.1 15 (by decide)
              have g21_τ31 : τ31.2.1 21 = τ_14.2.1 21 := hf_τ31.2.1 21 (by decide)
              have g22_τ31 : τ31.2.1 22 = τ_14.2.1 22 := hf_τ31.2.1 22 (by decide)
              have g25_τ31 : τ31.2.1 25 = τ_14.2.1 25 := hf_τ31.2.1 25 (by decide)
              have g26_τ31 : τ31.2.1 26 = τ_14.2.1 26 := hf_τ31.2.1 26 (by decide)
              have g27_τ31 : τ31.2.1 27 = τ_14.2.1 27 := hf_τ31.2.1 27 (by decide)
              have g28_τ31 : τ31.2.1 28 = τ_14.2.1 28 := hf_τ31.2.1 28 (by decide)
              have W5 : τ31.1 5 = σ.1 5 := by omega
              have W9 : τ31.1 9 = σ.1 9 := by omega
              have W22 : τ31.1 22 = σ.1 22 := by omega
              have W24 : τ31.1 24 = σ.1 24 := by omega
              have G14 : τ31.2.1 14 = σ.2.1 14 := (g14_τ31).trans G14
              have G15 : τ31.2.1 15 = σ.2.1 15 := (g15_τ31).trans G15
              have G21 : τ31.2.1 21 = σ.2.1 21 := (g21_τ31).trans G21
              have G22 : τ31.2.1 22 = σ.2.1 22 := (g22_τ31).trans G22
              have G25 : τ31.2.1 25 = σ.2.1 25 := (g25_τ31).trans G25
              have G26 : τ31.2.1 26 = σ.2.1 26 := (g26_τ31).trans G26
              have G27 : τ31.2.1 27 = σ.2.1 27 := (g27_τ31).trans G27
              have G28 : τ31.2.1 28 = σ.2.1 28 := (g28_τ31).trans G28
              have y14_22_τ31 : τ31.2.1 14 (τ31.1 22) = (τ_14.2.1 14) (τ_14.1 22) := by rw [g14_τ31, w22_τ31]
              have y15_22_τ31 : τ31.2.1 15 (τ31.1 22) = (τ_14.2.1 15) (τ_14.1 22) := by rw [g15_τ31, w22_τ31]
              have y25_22_τ31 : τ31.2.1 25 (τ31.1 22) = (τ_14.2.1 25) (τ_14.1 22) := by rw [g25_τ31, w22_τ31]
              have y26_22_τ31 : τ31.2.1 26 (τ31.1 22) = (τ_14.2.1 26) (τ_14.1 22) := by rw [g26_τ31, w22_τ31]
              have Z4 : τ31.2.1 25 (τ31.1 22) + τ31.2.1 26 (τ31.1 22) = (τ31.1 9) := by rw [show (τ31.2.1 25 (τ31.1 22) + τ31.2.1 26 (τ31.1 22) = (τ31.1 9)) = (τ_14.2.1 25 (τ_14.1 22) + τ_14.2.1 26 (τ_14.1 22) = (τ_14.1 9)) from by rw [w9_τ31, w22_τ31, g25_τ31, g26_τ31]]; exact Z4
              have Y14 : ca (τ31.2.1 28) ((τ31.1 9)) ≤ ca (τ31.2.1 28) (τ31.2.1 25 (τ31.1 22)) + 300 := by rw [show (ca (τ31.2.1 28) ((τ31.1 9)) ≤ ca (τ31.2.1 28) (τ31.2.1 25 (τ31.1 22)) + 300) = (ca (τ_14.2.1 28) ((τ_14.1 9)) ≤ ca (τ_14.2.1 28) (τ_14.2.1 25 (τ_14.1 22)) + 300) from by rw [w9_τ31, w22_τ31, g25_τ31, g28_τ31]]; exact Y14
              have PA : J_pa (τ31.2.1 21) (τ31.2.1 22) := by rw [show (J_pa (τ31.2.1 21) (τ31.2.1 22)) = (J_pa (τ_14.2.1 21) (τ_14.2.1 22)) from by rw [g21_τ31, g22_τ31]]; exact PA
              have A14 : ∀ j, 0 ≤ τ31.2.1 14 j ∧ τ31.2.1 14 j ≤ 30000 := fun j => hT.2 14 j
              have A15 : ∀ j, 0 ≤ τ31.2.1 15 j ∧ τ31.2.1 15 j ≤ 300 := fun j => hT.2 15 j
              have A21 : ∀ j, 0 ≤ τ31.2.1 21 j ∧ τ31.2.1 21 j ≤ 20000 := fun j => hT.2 21 j
              have A22 : ∀ j, 0 ≤ τ31.2.1 22 j ∧ τ31.2.1 22 j ≤ 20000 := fun j => hT.2 22 j
              have A25 : ∀ j, 0 ≤ τ31.2.1 25 j ∧ τ31.2.1 25 j ≤ 20000 := fun j => hT.2 25 j
              have A26 : ∀ j, 0 ≤ τ31.2.1 26 j ∧ τ31.2.1 26 j ≤ 20000 := fun j => hT.2 26 j
              have A27 : ∀ j, (-300) ≤ τ31.2.1 27 j ∧ τ31.2.1 27 j ≤ 1499 := fun j => hT.2 27 j
              have A28 : ∀ j, 0 ≤ τ31.2.1 28 j ∧ τ31.2.1 28 j ≤ 1 := fun j => hT.2 28 j
              have v5 : 0 ≤ τ31.1 5 ∧ τ31.1 5 ≤ 1500 := hT.1 5
              have v9 : 0 ≤ τ31.1 9 ∧ τ31.1 9 ≤ 20000 := hT.1 9
              have v20 : 0 ≤ τ31.1 20 ∧ τ31.1 20 ≤ 19 := hT.1 20
              have v22 : 0 ≤ τ31.1 22 ∧ τ31.1 22 ≤ 1499 := hT.1 22
              have v24 : 0 ≤ τ31.1 24 ∧ τ31.1 24 ≤ 60000 := hT.1 24
              have v30 : 0 ≤ τ31.1 30 ∧ τ31.1 30 ≤ 200 := hT.1 30
              have v31 : 0 ≤ τ31.1 31 ∧ τ31.1 31 ≤ 40000 := hT.1 31
              have v32 : 0 ≤ τ31.1 32 ∧ τ31.1 32 ≤ 300 := hT.1 32
              have v33 : 0 ≤ τ31.1 33 ∧ τ31.1 33 ≤ 40000 := hT.1 33
              have v35 : 0 ≤ τ31.1 35 ∧ τ31.1 35 ≤ 19 := hT.1 35
              have a14_22 : 0 ≤ τ31.2.1 14 (τ31.1 22) ∧ τ31.2.1 14 (τ31.1 22) ≤ 30000 := hT.2 14 _
              have a15_22 : 0 ≤ τ31.2.1 15 (τ31.1 22) ∧ τ31.2.1 15 (τ31.1 22) ≤ 300 := hT.2 15 _
              have a25_22 : 0 ≤ τ31.2.1 25 (τ31.1 22) ∧ τ31.2.1 25 (τ31.1 22) ≤ 20000 := hT.2 25 _
              have a26_22 : 0 ≤ τ31.2.1 26 (τ31.1 22) ∧ τ31.2.1 26 (τ31.1 22) ≤ 20000 := hT.2 26 _
              exact ⟨hT, (show ¬ (σ.1 20) = 0 → (τ31.1 20) = (σ.1 20) from by (first | omega | (simp only [st_s] <;> omega) | assumption | omega))⟩
          ·
            exact ⟨hT, (show ¬ (σ.1 20) = 0 → (τ_14.1 20) = (σ.1 20) from by (first | omega | (simp only [st_s] <;> omega) | assumption | omega))⟩
        ·
          have cs := ca_u (σ.2.1 28) (n := u1_14) (by omega)
          have cm := ca_m (σ.2.1 28) (n := u1_14 + 1) (m := (σ.1 9)) (by omega) (by omega)
          refine ⟨_, K_X13_doStep hT (show 0 ≤ u1_14 from by (first | omega | (simp only [st_s] <;> omega) | assumption | omega)) (show u1_14 < 20000 from by (first | omega | (simp only [st_s] <;> omega) | assumption | omega)) (show 0 ≤ 0 from by (first | omega | (simp only [st_s] <;> omega) | assumption | omega)) (show 0 ≤ 20000 from by (first | omega | (simp only [st_s] <;> omega) | assumption | omega)) (show 0 ≤ 1 from by (first | omega | (simp only [st_s] <;> omega) | assumption | omega)) (show 1 ≤ 1 from by (first | omega | (simp only [st_s] <;> omega) | assumption | omega)) (show ¬ τ_14.2.1 28 u1_14 = 0 → (τ_14.1 32) < 300 from by (rw [G28]; intro z; omega)) (show 0 ≤ τ_14.2.1 27 u1_14 → τ_14.2.1 21 (τ_14.2.1 27 u1_14) + τ_14.2.1 22 (τ_14.2.1 27 u1_14) ≤ 20000 from by exact fun _ => PA _), ?_⟩
          intro τ14 hn_τ14 hf_τ14 hq
          obtain ⟨hT, q12_1, q12_2, q12_3⟩ := hq
          replace q12_1 : ¬ (τ_14.1 35) = 0 → (τ14.1 35) = (τ_14.1 35) := q12_1
          replace q12_2 : (τ14.1 32) ≤ (τ_14.1 32) + 1 := q12_2
          replace q12_3 : τ_14.2.1 28 u1_14 = 0 → (τ14.1 32) = (τ_14.1 32) := q12_3
          have w5_τ14 : τ14.1 5 = τ_14.1 5 := hf_τ14.1 5 (by decide)
          have w9_τ14 : τ14.1 9 = τ_14.1 9 := hf_τ14.1 9 (by decide)
          have w20_τ14 : τ14.1 20 = τ_14.1 20 := hf_τ14.1 20 (by decide)
          have w22_τ14 : τ14.1 22 = τ_14.1 22 := hf_τ14.1 22 (by decide)
          have w24_τ14 : τ14.1 24 = τ_14.1 24 := hf_τ14.1 24 (by decide)
          have g14_τ14 : τ14.2.1 14 = τ_14.2.1 14 := hf_τ14.2.1 14 (by decide)
          have g15_τ14 : τ14.2.1 15 = τ_14.2.1 15 := hf_τ14.2.1 15 (by decide)
          have g21_τ14 : τ14.2.1 21 = τ_14.2.1 21 := hf_τ14.2.1 21 (by decide)
          have g22_τ14 : τ14.2.1 22 = τ_14.2.1 22 := hf_τ14.2.1 22 (by decide)
          have g25_τ14 : τ14.2.1 25 = τ_14.2.1 25 := hf_τ14.2.1 25 (by decide)
          have g26_τ14 : τ14.2.1 26 = τ_14.2.1 26 := hf_τ14.2.1 26 (by decide)
          have g27_τ14 : τ14.2.1 27 = τ_14.2.1 27 := hf_τ14.2.1 27 (by decide)
          have g28_τ14 : τ14.2.1 28 = τ_14.2.1 28 := hf_τ14.2.1 28 (by decide)
          have W5 : τ14.1 5 = σ.1 5 := by omega
          have W9 : τ14.1 9 = σ.1 9 := by omega
          have W22 : τ14.1 22 = σ.1 22 := by omega
          have W24 : τ14.1 24 = σ.1 24 := by omega
          have G14 : τ14.2.1 14 = σ.2.1 14 := (g14_τ14).trans G14
          have G15 : τ14.2.1 15 = σ.2.1 15 := (g15_τ14).trans G15
          have G21 : τ14.2.1 21 = σ.2.1 21 := (g21_τ14).trans G21
          have G22 : τ14.2.1 22 = σ.2.1 22 := (g22_τ14).trans G22
          have G25 : τ14.2.1 25 = σ.2.1 25 := (g25_τ14).trans G25
          have G26 : τ14.2.1 26 = σ.2.1 26 := (g26_τ14).trans G26
          have G27 : τ14.2.1 27 = σ.2.1 27 := (g27_τ14).trans G27
          have G28 : τ14.2.1 28 = σ.2.1 28 := (g28_τ14).trans G28
          have y14_22_τ14 : τ14.2.1 14 (τ14.1 22) = (τ_14.2.1 14) (τ_14.1 22) := by rw [g14_τ14, w22_τ14]
          have y15_22_τ14 : τ14.2.1 15 (τ14.1 22) = (τ_14.2.1 15) (τ_14.1 22) := by rw [g15_τ14, w22_τ14]
          have y25_22_τ14 : τ14.2.1 25 (τ14.1 22) = (τ_14.2.1 25) (τ_14.1 22) := by rw [g25_τ14, w22_τ14]
          have y26_22_τ14 : τ14.2.1 26 (τ14.1 22) = (τ_14.2.1 26) (τ_14.1 22) := by rw [g26_τ14, w22_τ14]
          have Z4 : τ14.2.1 25 (τ14.1 22) + τ14.2.1 26 (τ14.1 22) = (τ14.1 9) := by rw [show (τ14.2.1 25 (τ14.1 22) + τ14.2.1 26 (τ14.1 22) = (τ14.1 9)) = (τ_14.2.1 25 (τ_14.1 22) + τ_14.2.1 26 (τ_14.1 22) = (τ_14.1 9)) from by rw [w9_τ14, w22_τ14, g25_τ14, g26_τ14]]; exact Z4
          have Y14 : ca (τ14.2.1 28) ((τ14.1 9)) ≤ ca (τ14.2.1 28) (τ14.2.1 25 (τ14.1 22)) + 300 := by rw [show (ca (τ14.2.1 28) ((τ14.1 9)) ≤ ca (τ14.2.1 28) (τ14.2.1 25 (τ14.1 22)) + 300) = (ca (τ_14.2.1 28) ((τ_14.1 9)) ≤ ca (τ_14.2.1 28) (τ_14.2.1 25 (τ_14.1 22)) + 300) from by rw [w9_τ14, w22_τ14, g25_τ14, g28_τ14]]; exact Y14
          have PA : J_pa (τ14.2.1 21) (τ14.2.1 22) := by rw [show (J_pa (τ14.2.1 21) (τ14.2.1 22)) = (J_pa (τ_14.2.1 21) (τ_14.2.1 22)) from by rw [g21_τ14, g22_τ14]]; exact PA
          have A14 : ∀ j, 0 ≤ τ14.2.1 14 j ∧ τ14.2.1 14 j ≤ 30000 := fun j => hT.2 14 j
          have A15 : ∀ j, 0 ≤ τ14.2.1 15 j ∧ τ14.2.1 15 j ≤ 300 := fun j => hT.2 15 j
          have A21 : ∀ j, 0 ≤ τ14.2.1 21 j ∧ τ14.2.1 21 j ≤ 20000 := fun j => hT.2 21 j
          have A22 : ∀ j, 0 ≤ τ14.2.1 22 j ∧ τ14.2.1 22 j ≤ 20000 := fun j => hT.2 22 j
          have A25 : ∀ j, 0 ≤ τ14.2.1 25 j ∧ τ14.2.1 25 j ≤ 20000 := fun j => hT.2 25 j
          have A26 : ∀ j, 0 ≤ τ14.2.1 26 j ∧ τ14.2.1 26 j ≤ 20000 := fun j => hT.2 26 j
          have A27 : ∀ j, (-300) ≤ τ14.2.1 27 j ∧ τ14.2.1 27 j ≤ 1499 := fun j => hT.2 27 j
          have A28 : ∀ j, 0 ≤ τ14.2.1 28 j ∧ τ14.2.1 28 j ≤ 1 := fun j => hT.2 28 j
          have v5 : 0 ≤ τ14.1 5 ∧ τ14.1 5 ≤ 1500 := hT.1 5
          have v9 : 0 ≤ τ14.1 9 ∧ τ14.1 9 ≤ 20000 := hT.1 9
          have v20 : 0 ≤ τ14.1 20 ∧ τ14.1 20 ≤ 19 := hT.1 20
          have v22 : 0 ≤ τ14.1 22 ∧ τ14.1 22 ≤ 1499 := hT.1 22
          have v24 : 0 ≤ τ14.1 24 ∧ τ14.1 24 ≤ 60000 := hT.1 24
          have v30 : 0 ≤ τ14.1 30 ∧ τ14.1 30 ≤ 200 := hT.1 30
          have v31 : 0 ≤ τ14.1 31 ∧ τ14.1 31 ≤ 40000 := hT.1 31
          have v32 : 0 ≤ τ14.1 32 ∧ τ14.1 32 ≤ 300 := hT.1 32
          have v33 : 0 ≤ τ14.1 33 ∧ τ14.1 33 ≤ 40000 := hT.1 33
          have v35 : 0 ≤ τ14.1 35 ∧ τ14.1 35 ≤ 19 := hT.1 35
          have a14_22 : 0 ≤ τ14.2.1 14 (τ14.1 22) ∧ τ14.2.1 14 (τ14.1 22) ≤ 30000 := hT.2 14 _
          have a15_22 : 0 ≤ τ14.2.1 15 (τ14.1 22) ∧ τ14.2.1 15 (τ14.1 22) ≤ 300 := hT.2 15 _
          have a25_22 : 0 ≤ τ14.2.1 25 (τ14.1 22) ∧ τ14.2.1 25 (τ14.1 22) ≤ 20000 := hT.2 25 _
          have a26_22 : 0 ≤ τ14.2.1 26 (τ14.1 22) ∧ τ14.2.1 26 (τ14.1 22) ≤ 20000 := hT.2 26 _
          have q3 : σ.2.1 28 u1_14 = 0 → τ14.1 32 = τ_14.1 32 := by rw [← G28, g28_τ14]; exact q12_3
          refine ⟨fun c15 => ?_, fun c15 => ?_⟩
          ·
            refine ⟨(⟨by (first | omega | (simp only [st_s] <;> omega) | assumption | omega), by (first | omega | (simp only [st_s] <;> omega) | assumption | omega)⟩ : rg (u1_14 + 1)), ?_⟩
            exact ih_14 _ _ (show (20001 - (u1_14 + 1) : Int) < ((m_14 : Nat) : Int) from by ((first | omega | (simp only [st_s] <;> omega) | assumption | omega))) hT (show τ14.1 5 = σ.1 5 from by omega) (show τ14.1 9 = σ.1 9 from by omega) (show τ14.1 22 = σ.1 22 from by omega) (show τ14.1 24 = σ.1 24 from by omega) G14 G15 G21 G22 G25 G26 G27 G28 (show 0 ≤ (u1_14 + 1) ∧ (u1_14 + 1) ≤ (σ.1 9) from by (first | omega | (simp only [st_s] <;> omega) | assumption | omega)) (show σ.2.1 25 (σ.1 22) ≤ (u1_14 + 1) from by (first | omega | (simp only [st_s] <;> omega) | assumption | omega)) (show (τ14.1 32) + ca (σ.2.1 28) (σ.2.1 25 (σ.1 22)) ≤ ca (σ.2.1 28) (u1_14 + 1) from by (first | omega | (rw [show x5 = σ.2.1 25 (σ.1 22) from by omega]; omega))) (show ¬ (σ.1 20) = 0 → (τ14.1 20) = (σ.1 20) from by (first | omega | (simp only [st_s] <;> omega) | assumption | omega)) (show J_pa (τ14.2.1 21) (τ14.2.1 22) from PA)
          ·
            refine ⟨(show 0 ≤ u1_14 ∧ u1_14 < 20001 from by (first | omega | (simp only [st_s] <;> omega) | assumption | omega)), ?_⟩
            intro x18 r_x18 e_x18
            have b_x18 : 0 ≤ x18 ∧ x18 ≤ 60000 := by rw [e_x18]; exact hT.2 29 _
            refine ⟨_, K_X13_fail hT (show 0 ≤ (τ14.1 35) from by (first | omega | (simp only [st_s] <;> omega) | assumption | omega)) (show (τ14.1 35) ≤ 19 from by (first | omega | (simp only [st_s] <;> omega) | assumption | omega)) (show -1 ≤ x18 from by (first | omega | (simp only [st_s] <;> omega) | assumption | omega)) (show x18 ≤ 60000 from by (first | omega | (simp only [st_s] <;> omega) | assumption | omega)), ?_⟩
            intro τ21 hn_τ21 hf_τ21 hq
            obtain ⟨hT, q19_1, q19_2⟩ := hq
            replace q19_1 : ¬ (τ14.1 20) = 0 → (τ21.1 20) = (τ14.1 20) := q19_1
            replace q19_2 : (τ14.1 20) = 0 → (τ21.1 20) = (τ14.1 35) := q19_2
            have w5_τ21 : τ21.1 5 = τ14.1 5 := hf_τ21.1 5 (by decide)
            have w9_τ21 : τ21.1 9 = τ14.1 9 := hf_τ21.1 9 (by decide)
            have w22_τ21 : τ21.1 22 = τ14.1 22 := hf_τ21.1 22 (by decide)
            have w24_τ21 : τ21.1 24 = τ14.1 24 := hf_τ21.1 24 (by decide)
            have w30_τ21 : τ21.1 30 = τ14.1 30 := hf_τ21.1 30 (by decide)
            have w31_τ21 : τ21.1 31 = τ14.1 31 := hf_τ21.1 31 (by decide)
            have w32_τ21 : τ21.1 32 = τ14.1 32 := hf_τ21.1 32 (by decide)
            have w33_τ21 : τ21.1 33 = τ14.1 33 := hf_τ21.1 33 (by decide)
            have w35_τ21 : τ21.1 35 = τ14.1 35 := hf_τ21.1 35 (by decide)
            have g14_τ21 : τ21.2.1 14 = τ14.2.1 14 := hf_τ21.2.1 14 (by decide)
            have g15_τ21 : τ21.2.1 15 = τ14.2.1 15 := hf_τ21.2.1 15 (by decide)
            have g21_τ21 : τ21.2.1 21 = τ14.2.1 21 := hf_τ21.2.1 21 (by decide)
            have g22_τ21 : τ21.2.1 22 = τ14.2.1 22 := hf_τ21.2.1 22 (by decide)
            have g25_τ21 : τ21.2.1 25 = τ14.2.1 25 := hf_τ21.2.1 25 (by decide)
            have g26_τ21 : τ21.2.1 26 = τ14.2.1 26 := hf_τ21.2.1 26 (by decide)
            have g27_τ21 : τ21.2.1 27 = τ14.2.1 27 := hf_τ21.2.1 27 (by decide)
            have g28_τ21 : τ21.2.1 28 = τ14.2.1 28 := hf_τ21.2.1 28 (by decide)
            have W5 : τ21.1 5 = σ.1 5 := by omega
            have W9 : τ21.1 9 = σ.1 9 := by omega
            have W22 : τ21.1 22 = σ.1 22 := by omega
            have W24 : τ21.1 24 = σ.1 24 := by omega
            have G14 : τ21.2.1 14 = σ.2.1 14 := (g14_τ21).trans G14
            have G15 : τ21.2.1 15 = σ.2.1 15 := (g15_τ21).trans G15
            have G21 : τ21.2.1 21 = σ.2.1 21 := (g21_τ21).trans G21
            have G22 : τ21.2.1 22 = σ.2.1 22 := (g22_τ21).trans G22
            have G25 : τ21.2.1 25 = σ.2.1 25 := (g25_τ21).trans G25
            have G26 : τ21.2.1 26 = σ.2.1 26 := (g26_τ21).trans G26
            have G27 : τ21.2.1 27 = σ.2.1 27 := (g27_τ21).trans G27
            have G28 : τ21.2.1 28 = σ.2.1 28 := (g28_τ21).trans G28
            have y14_22_τ21 : τ21.2.1 14 (τ21.1 22) = (τ14.2.1 14) (τ14.1 22) := by rw [g14_τ21, w22_τ21]
            have y15_22_τ21 : τ21.2.1 15 (τ21.1 22) = (τ14.2.1 15) (τ14.1 22) := by rw [g15_τ21, w22_τ21]
            have y25_22_τ21 : τ21.2.1 25 (τ21.1 22) = (τ14.2.1 25) (τ14.1 22) := by rw [g25_τ21, w22_τ21]
            have y26_22_τ21 : τ21.2.1 26 (τ21.1 22) = (τ14.2.1 26) (τ14.1 22) := by rw [g26_τ21, w22_τ21]
            have Z4 : τ21.2.1 25 (τ21.1 22) + τ21.2.1 26 (τ21.1 22) = (τ21.1 9) := by rw [show (τ21.2.1 25 (τ21.1 22) + τ21.2.1 26 (τ21.1 22) = (τ21.1 9)) = (τ14.2.1 25 (τ14.1 22) + τ14.2.1 26 (τ14.1 22) = (τ14.1 9)) from by rw [w9_τ21, w22_τ21, g25_τ21, g26_τ21]]; exact Z4
            have Y14 : ca (τ21.2.1 28) ((τ21.1 9)) ≤ ca (τ21.2.1 28) (τ21.2.1 25 (τ21.1 22)) + 300 := by rw [show (ca (τ21.2.1 28) ((τ21.1 9)) ≤ ca (τ21.2.1 28) (τ21.2.1 25 (τ21.1 22)) + 300) = (ca (τ14.2.1 28) ((τ14.1 9)) ≤ ca (τ14.2.1 28) (τ14.2.1 25 (τ14.1 22)) + 300) from by rw [w9_τ21, w22_τ21, g25_τ21, g28_τ21]]; exact Y14
            have PA : J_pa (τ21.2.1 21) (τ21.2.1 22) := by rw [show (J_pa (τ21.2.1 21) (τ21.2.1 22)) = (J_pa (τ14.2.1 21) (τ14.2.1 22)) from by rw [g21_τ21, g22_τ21]]; exact PA
            have A14 : ∀ j, 0 ≤ τ21.2.1 14 j ∧ τ21.2.1 14 j ≤ 30000 := fun j => hT.2 14 j
            have A15 : ∀ j, 0 ≤ τ21.2.1 15 j ∧ τ21.2.1 15 j ≤ 300 := fun j => hT.2 15 j
            have A21 : ∀ j, 0 ≤ τ21.2.1 21 j ∧ τ21.2.1 21 j ≤ 20000 := fun j => hT.2 21 j
            have A22 : ∀ j, 0 ≤ τ21.2.1 22 j ∧ τ21.2.1 22 j ≤ 20000 := fun j => hT.2 22 j
            have A25 : ∀ j, 0 ≤ τ21.2.1 25 j ∧ τ21.2.1 25 j ≤ 20000 := fun j => hT.2 25 j
            have A26 : ∀ j, 0 ≤ τ21.2.1 26 j ∧ τ21.2.1 26 j ≤ 20000 := fun j => hT.2 26 j
            have A27 : ∀ j, (-300) ≤ τ21.2.1 27 j ∧ τ21.2.1 27 j ≤ 1499 := fun j => hT.2 27 j
            have A28 : ∀ j, 0 ≤ τ21.2.1 28 j ∧ τ21.2.1 28 j ≤ 1 := fun j => hT.2 28 j
            have v5 : 0 ≤ τ21.1 5 ∧ τ21.1 5 ≤ 1500 := hT.1 5
            have v9 : 0 ≤ τ21.1 9 ∧ τ21.1 9 ≤ 20000 := hT.1 9
            have v20 : 0 ≤ τ21.1 20 ∧ τ21.1 20 ≤ 19 := hT.1 20
            have v22 : 0 ≤ τ21.1 22 ∧ τ21.1 22 ≤ 1499 := hT.1 22
            have v24 : 0 ≤ τ21.1 24 ∧ τ21.1 24 ≤ 60000 := hT.1 24
            have v30 : 0 ≤ τ21.1 30 ∧ τ21.1 30 ≤ 200 := hT.1 30
            have v31 : 0 ≤ τ21.1 31 ∧ τ21.1 31 ≤ 40000 := hT.1 31
            have v32 : 0 ≤ τ21.1 32 ∧ τ21.1 32 ≤ 300 := hT.1 32
            have v33 : 0 ≤ τ21.1 33 ∧ τ21.1 33 ≤ 40000 := hT.1 33
            have v35 : 0 ≤ τ21.1 35 ∧ τ21.1 35 ≤ 19 := hT.1 35
            have a14_22 : 0 ≤ τ21.2.1 14 (τ21.1 22) ∧ τ21.2.1 14 (τ21.1 22) ≤ 30000 := hT.2 14 _
            have a15_22 : 0 ≤ τ21.2.1 15 (τ21.1 22) ∧ τ21.2.1 15 (τ21.1 22) ≤ 300 := hT.2 15 _
            have a25_22 : 0 ≤ τ21.2.1 25 (τ21.1 22) ∧ τ21.2.1 25 (τ21.1 22) ≤ 20000 := hT.2 25 _
            have a26_22 : 0 ≤ τ21.2.1 26 (τ21.1 22) ∧ τ21.2.1 26 (τ21.1 22) ≤ 20000 := hT.2 26 _
            refine ⟨(⟨by (first | omega | (simp only [st_s] <;> omega) | assumption | omega), by (first | omega | (simp only [st_s] <;> omega) | assumption | omega)⟩ : rg (u1_14 + 1)), ?_⟩
            exact ih_14 _ _ (show (20001 - (u1_14 + 1) : Int) < ((m_14 : Nat) : Int) from by ((first | omega | (simp only [st_s] <;> omega) | assumption | omega))) hT (show τ21.1 5 = σ.1 5 from by omega) (show τ21.1 9 = σ.1 9 from by omega) (show τ21.1 22 = σ.1 22 from by omega) (show τ21.1 24 = σ.1 24 from by omega) G14 G15 G21 G22 G25 G26 G27 G28 (show 0 ≤ (u1_14 + 1) ∧ (u1_14 + 1) ≤ (σ.1 9) from by (first | omega | (simp only [st_s] <;> omega) | assumption | omega)) (show σ.2.1 25 (σ.1 22) ≤ (u1_14 + 1) from by (first | omega | (simp only [st_s] <;> omega) | assumption | omega)) (show (τ21.1 32) + ca (σ.2.1 28) (σ.2.1 25 (σ.1 22)) ≤ ca (σ.2.1 28) (u1_14 + 1) from by (first | omega | (rw [show x5 = σ.2.1 25 (σ.1 22) from by omega]; omega))) (show ¬ (σ.1 20) = 0 → (τ21.1 20) = (σ.1 20) from by (first | omega | (simp only [st_s] <;> omega) | assumption | omega)) (show J_pa (τ21.2.1 21) (τ21.2.1 22) from PA)
  refine ⟨_, K_X13_beginSteps hT, ?_⟩
  intro τ3 hn_τ3 hf_τ3 hq
  obtain ⟨hT, q1_1, q1_2, q1_3, q1_4, q1_5⟩ := hq
  replace q1_1 : (τ3.1 30) = 0 := q1_1
  replace q1_2 : (τ3.1 31) = 0 := q1_2
  replace q1_3 : (τ3.1 32) = 0 := q1_3
  replace q1_4 : (τ3.1 33) = 0 := q1_4
  replace q1_5 : (τ3.1 35) = 0 := q1_5
  have w5_τ3 : τ3.1 5 = σ.1 5 := hf_τ3.1 5 (by decide)
  have w9_τ3 : τ3.1 9 = σ.1 9 := hf_τ3.1 9 (by decide)
  have w20_τ3 : τ3.1 20 = σ.1 20 := hf_τ3.1 20 (by decide)
  have w22_τ3 : τ3.1 22 = σ.1 22 := hf_τ3.1 22 (by decide)
  have w24_τ3 : τ3.1 24 = σ.1 24 := hf_τ3.1 24 (by decide)
  have g14_τ3 : τ3.2.1 14 = σ.2.1 14 := hf_τ3.2.1 14 (by decide)
  have g15_τ3 : τ3.2.1 15 = σ.2.1 15 := hf_τ3.2.1 15 (by decide)
  have g21_τ3 : τ3.2.1 21 = σ.2.1 21 := hf_τ3.2.1 21 (by decide)
  have g22_τ3 : τ3.2.1 22 = σ.2.1 22 := hf_τ3.2.1 22 (by decide)
  have g25_τ3 : τ3.2.1 25 = σ.2.1 25 := hf_τ3.2.1 25 (by decide)
  have g26_τ3 : τ3.2.1 26 = σ.2.1 26 := hf_τ3.2.1 26 (by decide)
  have g27_τ3 : τ3.2.1 27 = σ.2.1 27 := hf_τ3.2.1 27 (by decide)
  have g28_τ3 : τ3.2.1 28 = σ.2.1 28 := hf_τ3.2.1 28 (by decide)
  have W5 : τ3.1 5 = σ.1 5 := by omega
  have W9 : τ3.1 9 = σ.1 9 := by omega
  have W22 : τ3.1 22 = σ.1 22 := by omega
  have W24 : τ3.1 24 = σ.1 24 := by omega
  have G14 : τ3.2.1 14 = σ.2.1 14 := (g14_τ3).trans G14
  have G15 : τ3.2.1 15 = σ.2.1 15 := (g15_τ3).trans G15
  have G21 : τ3.2.1 21 = σ.2.1 21 := (g21_τ3).trans G21
  have G22 : τ3.2.1 22 = σ.2.1 22 := (g22_τ3).trans G22
  have G25 : τ3.2.1 25 = σ.2.1 25 := (g25_τ3).trans G25
  have G26 : τ3.2.1 26 = σ.2.1 26 := (g26_τ3).trans G26
  have G27 : τ3.2.1 27 = σ.2.1 27 := (g27_τ3).trans G27
  have G28 : τ3.2.1 28 = σ.2.1 28 := (g28_τ3).trans G28
  have y14_22_τ3 : τ3.2.1 14 (τ3.1 22) = (σ.2.1 14) (σ.1 22) := by rw [g14_τ3, w22_τ3]
  have y15_22_τ3 : τ3.2.1 15 (τ3.1 22) = (σ.2.1 15) (σ.1 22) := by rw [g15_τ3, w22_τ3]
  have y25_22_τ3 : τ3.2.1 25 (τ3.1 22) = (σ.2.1 25) (σ.1 22) := by rw [g25_τ3, w22_τ3]
  have y26_22_τ3 : τ3.2.1 26 (τ3.1 22) = (σ.2.1 26) (σ.1 22) := by rw [g26_τ3, w22_τ3]
  have Z4 : τ3.2.1 25 (τ3.1 22) + τ3.2.1 26 (τ3.1 22) = (τ3.1 9) := by rw [show (τ3.2.1 25 (τ3.1 22) + τ3.2.1 26 (τ3.1 22) = (τ3.1 9)) = (σ.2.1 25 (σ.1 22) + σ.2.1 26 (σ.1 22) = (σ.1 9)) from by rw [w9_τ3, w22_τ3, g25_τ3, g26_τ3]]; exact Z4
  have Y14 : ca (τ3.2.1 28) ((τ3.1 9)) ≤ ca (τ3.2.1 28) (τ3.2.1 25 (τ3.1 22)) + 300 := by rw [show (ca (τ3.2.1 28) ((τ3.1 9)) ≤ ca (τ3.2.1 28) (τ3.2.1 25 (τ3.1 22)) + 300) = (ca (σ.2.1 28) ((σ.1 9)) ≤ ca (σ.2.1 28) (σ.2.1 25 (σ.1 22)) + 300) from by rw [w9_τ3, w22_τ3, g25_τ3, g28_τ3]]; exact Y14
  have PA : J_pa (τ3.2.1 21) (τ3.2.1 22) := by rw [show (J_pa (τ3.2.1 21) (τ3.2.1 22)) = (J_pa (σ.2.1 21) (σ.2.1 22)) from by rw [g21_τ3, g22_τ3]]; exact PA
  have A14 : ∀ j, 0 ≤ τ3.2.1 14 j ∧ τ3.2.1 14 j ≤ 30000 := fun j => hT.2 14 j
  have A15 : ∀ j, 0 ≤ τ3.2.1 15 j ∧ τ3.2.1 15 j ≤ 300 := fun j => hT.2 15 j
  have A21 : ∀ j, 0 ≤ τ3.2.1 21 j ∧ τ3.2.1 21 j ≤ 20000 := fun j => hT.2 21 j
  have A22 : ∀ j, 0 ≤ τ3.2.1 22 j ∧ τ3.2.1 22 j ≤ 20000 := fun j => hT.2 22 j
  have A25 : ∀ j, 0 ≤ τ3.2.1 25 j ∧ τ3.2.1 25 j ≤ 20000 := fun j => hT.2 25 j
  have A26 : ∀ j, 0 ≤ τ3.2.1 26 j ∧ τ3.2.1 26 j ≤ 20000 := fun j => hT.2 26 j
  have A27 : ∀ j, (-300) ≤ τ3.2.1 27 j ∧ τ3.2.1 27 j ≤ 1499 := fun j => hT.2 27 j
  have A28 : ∀ j, 0 ≤ τ3.2.1 28 j ∧ τ3.2.1 28 j ≤ 1 := fun j => hT.2 28 j
  have v5 : 0 ≤ τ3.1 5 ∧ τ3.1 5 ≤ 1500 := hT.1 5
  have v9 : 0 ≤ τ3.1 9 ∧ τ3.1 9 ≤ 20000 := hT.1 9
  have v20 : 0 ≤ τ3.1 20 ∧ τ3.1 20 ≤ 19 := hT.1 20
  have v22 : 0 ≤ τ3.1 22 ∧ τ3.1 22 ≤ 1499 := hT.1 22
  have v24 : 0 ≤ τ3.1 24 ∧ τ3.1 24 ≤ 60000 := hT.1 24
  have v30 : 0 ≤ τ3.1 30 ∧ τ3.1 30 ≤ 200 := hT.1 30
  have v31 : 0 ≤ τ3.1 31 ∧ τ3.1 31 ≤ 40000 := hT.1 31
  have v32 : 0 ≤ τ3.1 32 ∧ τ3.1 32 ≤ 300 := hT.1 32
  have v33 : 0 ≤ τ3.1 33 ∧ τ3.1 33 ≤ 40000 := hT.1 33
  have v35 : 0 ≤ τ3.1 35 ∧ τ3.1 35 ≤ 19 := hT.1 35
  have a14_22 : 0 ≤ τ3.2.1 14 (τ3.1 22) ∧ τ3.2.1 14 (τ3.1 22) ≤ 30000 := hT.2 14 _
  have a15_22 : 0 ≤ τ3.2.1 15 (τ3.1 22) ∧ τ3.2.1 15 (τ3.1 22) ≤ 300 := hT.2 15 _
  have a25_22 : 0 ≤ τ3.2.1 25 (τ3.1 22) ∧ τ3.2.1 25 (τ3.1 22) ≤ 20000 := hT.2 25 _
  have a26_22 : 0 ≤ τ3.2.1 26 (τ3.1 22) ∧ τ3.2.1 26 (τ3.1 22) ≤ 20000 := hT.2 26 _
  refine ⟨(show 0 ≤ τ3.1 22 ∧ τ3.1 22 < 1501 from by (first | omega | (simp only [st_s] <;> omega) | assumption | omega)), ?_⟩
  intro x5 r_x5 e_x5
  have b_x5 : 0 ≤ x5 ∧ x5 ≤ 20000 := by rw [e_x5]; exact hT.2 25 _
  exact l_14 ((20001 - x5 : Int).toNat + 1) _ _ (show (20001 - x5 : Int) < (((20001 - x5 : Int).toNat + 1 : Nat) : Int) from by ((first | omega | (simp only [st_s] <;> omega) | assumption | omega))) hT (show τ3.1 5 = σ.1 5 from by omega) (show τ3.1 9 = σ.1 9 from by omega) (show τ3.1 22 = σ.1 22 from by omega) (show τ3.1 24 = σ.1 24 from by omega) G14 G15 G21 G22 G25 G26 G27 G28 (show 0 ≤ x5 ∧ x5 ≤ (σ.1 9) from by (first | omega | (simp only [st_s] <;> omega) | assumption | omega)) (show σ.2.1 25 (σ.1 22) ≤ x5 from by (first | omega | (simp only [st_s] <;> omega) | assumption | omega)) (show (τ3.1 32) + ca (σ.2.1 28) (σ.2.1 25 (σ.1 22)) ≤ ca (σ.2.1 28) x5 from by (first | omega | (rw [show x5 = σ.2.1 25 (σ.1 22) from by omega]; omega))) (show ¬ (σ.1 20) = 0 → (τ3.1 20) = (σ.1 20) from by (first | omega | (simp only [st_s] <;> omega) | assumption | omega)) (show J_pa (τ3.2.1 21) (τ3.2.1 22) from PA)
set_option maxHeartbeats 1000000 in
theorem K_X13_restOf {σ : S0} (hT : m_T σ) (p1 : σ.2.1 25 (σ.1 22) + σ.2.1 26 (σ.1 22) = (σ.1 9)) : W_X13_restOf σ (fun (τ : S0) => (m_T τ)) := by
  have A25 : ∀ j, 0 ≤ σ.2.1 25 j ∧ σ.2.1 25 j ≤ 20000 := fun j => hT.2 25 j
  have A26 : ∀ j, 0 ≤ σ.2.1 26 j ∧ σ.2.1 26 j ≤ 20000 := fun j => hT.2 26 j
  have v9 : 0 ≤ σ.1 9 ∧ σ.1 9 ≤ 20000 := hT.1 9
  have v22 : 0 ≤ σ.1 22 ∧ σ.1 22 ≤ 1499 := hT.1 22
  have a25_22 : 0 ≤ σ.2.1 25 (σ.1 22) ∧ σ.2.1 25 (σ.1 22) ≤ 20000 := hT.2 25 _
  have a26_22 : 0 ≤ σ.2.1 26 (σ.1 22) ∧ σ.2.1 26 (σ.1 22) ≤ 20000 := hT.2 26 _
  have W9 : σ.1 9 = σ.1 9 := rfl
  have W22 : σ.1 22 = σ.1 22 := rfl
  have G25 : σ.2.1 25 = σ.2.1 25 := rfl
  have G26 : σ.2.1 26 = σ.2.1 26 := rfl
  intro P10 P82 h10 h82
  have Z4 : σ.2.1 25 (σ.1 22) + σ.2.1 26 (σ.1 22) = (σ.1 9) := p1
  have Z4_0 := Z4
  have l_10 : ∀ (m_10 : Nat) (u1_10 : Int) (τ_10 : S0), 20001 - u1_10 < (m_10 : Int) → (m_T τ_10) → (τ_10.1 9 = σ.1 9) → (τ_10.1 22 = σ.1 22) → (τ_10.2.1 25 = σ.2.1 25) → (τ_10.2.1 26 = σ.2.1 26) → (0 ≤ u1_10) → (u1_10 ≤ 20000) → P10 u1_10 τ_10 := by
    intro m_10
    induction m_10 with
    | zero =>
      intro u1_10 τ_10 hm hT W9 W22 G25 G26 i10_1 i10_2
      have A25 : ∀ j, 0 ≤ τ_10.2.1 25 j ∧ τ_10.2.1 25 j ≤ 20000 := fun j => hT.2 25 j
      have A26 : ∀ j, 0 ≤ τ_10.2.1 26 j ∧ τ_10.2.1 26 j ≤ 20000 := fun j => hT.2 26 j
      have v9 : 0 ≤ τ_10.1 9 ∧ τ_10.1 9 ≤ 20000 := hT.1 9
      have v22 : 0 ≤ τ_10.1 22 ∧ τ_10.1 22 ≤ 1499 := hT.1 22
      have a25_22 : 0 ≤ τ_10.2.1 25 (τ_10.1 22) ∧ τ_10.2.1 25 (τ_10.1 22) ≤ 20000 := hT.2 25 _
      have a26_22 : 0 ≤ τ_10.2.1 26 (τ_10.1 22) ∧ τ_10.2.1 26 (τ_10.1 22) ≤ 20000 := hT.2 26 _
      exfalso; (first | omega | (simp only [st_s] <;> omega) | assumption | omega)
    | succ m_10 ih_10 =>
      intro u1_10 τ_10 hm_10 hT W9 W22 G25 G26 i10_1 i10_2
      have A25 : ∀ j, 0 ≤ τ_10.2.1 25 j ∧ τ_10.2.1 25 j ≤ 20000 := fun j => hT.2 25 j
      have A26 : ∀ j, 0 ≤ τ_10.2.1 26 j ∧ τ_10.2.1 26 j ≤ 20000 := fun j => hT.2 26 j
      have v9 : 0 ≤ τ_10.1 9 ∧ τ_10.1 9 ≤ 20000 := hT.1 9
      have v22 : 0 ≤ τ_10.1 22 ∧ τ_10.1 22 ≤ 1499 := hT.1 22
      have a25_22 : 0 ≤ τ_10.2.1 25 (τ_10.1 22) ∧ τ_10.2.1 25 (τ_10.1 22) ≤ 20000 := hT.2 25 _
      have a26_22 : 0 ≤ τ_10.2.1 26 (τ_10.1 22) ∧ τ_10.2.1 26 (τ_10.1 22) ≤ 20000 := hT.2 26 _
      have y25_22_τ_10 : τ_10.2.1 25 (τ_10.1 22) = σ.2.1 25 (σ.1 22) := by rw [G25, W22]
      have y26_22_τ_10 : τ_10.2.1 26 (τ_10.1 22) = σ.2.1 26 (σ.1 22) := by rw [G26, W22]
      have Z4 : τ_10.2.1 25 (τ_10.1 22) + τ_10.2.1 26 (τ_10.1 22) = (τ_10.1 9) := by rw [show (τ_10.2.1 25 (τ_10.1 22) + τ_10.2.1 26 (τ_10.1 22) = (τ_10.1 9)) = (σ.2.1 25 (σ.1 22) + σ.2.1 26 (σ.1 22) = (σ.1 9)) from by rw [W9, W22, G25, G26]]; exact Z4_0
      have l_82 : ∀ (m_82 : Nat) (u1_82 : Int) (u2_82 : Int) (u3_82 : Int) (τ_82 : S0), 25 - u3_82 < (m_82 : Int) → (m_T τ_82) → (τ_82.1 9 = σ.1 9) → (τ_82.1 22 = σ.1 22) → (τ_82.2.1 25 = σ.2.1 25) → (τ_82.2.1 26 = σ.2.1 26) → (0 ≤ u1_82) → (u1_82 ≤ 19999) → (0 ≤ u2_82) → (u2_82 ≤ 1499) → (0 ≤ u3_82) → (u3_82 ≤ 24) → (u1_82 + (m_10 : Int) ≥ 20001) → P82 u1_82 u2_82 u3_82 τ_82 := by
        intro m_82
        induction m_82 with
        | zero =>
          intro u1_82 u2_82 u3_82 τ_82 hm hT W9 W22 G25 G26 i82_1 i82_2 i82_3 i82_4 i82_5 i82_6 i82_7
          have A25 : ∀ j, 0 ≤ τ_82.2.1 25 j ∧ τ_82.2.1 25 j ≤ 20000 := fun j => hT.2 25 j
          have A26 : ∀ j, 0 ≤ τ_82.2.1 26 j ∧ τ_82.2.1 26 j ≤ 20000 := fun j => hT.2 26 j
          have v9 : 0 ≤ τ_82.1 9 ∧ τ_82.1 9 ≤ 20000 := hT.1 9
          have v22 : 0 ≤ τ_82.1 22 ∧ τ_82.1 22 ≤ 1499 := hT.1 22
          have a25_22 : 0 ≤ τ_82.2.1 25 (τ_82.1 22) ∧ τ_82.2.1 25 (τ_82.1 22) ≤ 20000 := hT.2 25 _
          have a26_22 : 0 ≤ τ_82.2.1 26 (τ_82.1 22) ∧ τ_82.2.1 26 (τ_82.1 22) ≤ 20000 := hT.2 26 _
          exfalso; (first | omega | (simp only [st_s] <;> omega) | assumption | omega)
        | succ m_82 ih_82 =>
          intro u1_82 u2_82 u3_82 τ_82 hm_82 hT W9 W22 G25 G26 i82_1 i82_2 i82_3 i82_4 i82_5 i82_6 i82_7
          have A25 : ∀ j, 0 ≤ τ_82.2.1 25 j ∧ τ_82.2.1 25 j ≤ 20000 := fun j => hT.2 25 j
          have A26 : ∀ j, 0 ≤ τ_82.2.1 26 j ∧ τ_82.2.1 26 j ≤ 20000 := fun j => hT.2 26 j
          have v9 : 0 ≤ τ_82.1 9 ∧ τ_82.1 9 ≤ 20000 := hT.1 9
          have v22 : 0 ≤ τ_82.1 22 ∧ τ_82.1 22 ≤ 1499 := hT.1 22
          have a25_22 : 0 ≤ τ_82.2.1 25 (τ_82.1 22) ∧ τ_82.2.1 25 (τ_82.1 22) ≤ 20000 := hT.2 25 _
          have a26_22 : 0 ≤ τ_82.2.1 26 (τ_82.1 22) ∧ τ_82.2.1 26 (τ_82.1 22) ≤ 20000 := hT.2 26 _
          have y25_22_τ_82 : τ_82.2.1 25 (τ_82.1 22) = σ.2.1 25 (σ.1 22) := by rw [G25, W22]
          have y26_22_τ_82 : τ_82.2.1 26 (τ_82.1 22) = σ.2.1 26 (σ.1 22) := by rw [G26, W22]
          have Z4 : τ_82.2.1 25 (τ_82.1 22) + τ_82.2.1 26 (τ_82.1 22) = (τ_82.1 9) := by rw [show (τ_82.2.1 25 (τ_82.1 22) + τ_82.2.1 26 (τ_82.1 22) = (τ_82.1 9)) = (σ.2.1 25 (σ.1 22) + σ.2.1 26 (σ.1 22) = (σ.1 9)) from by rw [W9, W22, G25, G26]]; exact Z4_0
          refine h82 u1_82 u2_82 u3_82 τ_82 ?_
          refine ⟨fun c20 => ?_, fun c20 => ?_⟩
          ·
            refine ⟨(⟨by (first | omega | (simp only [st_s] <;> omega) | assumption | omega), by (first | omega | (simp only [st_s] <;> omega) | assumption | omega)⟩ : rg (u1_82 + 1)), ?_⟩
            exact ih_10 _ _ (show (20001 - (u1_82 + 1) : Int) < ((m_10 : Nat) : Int) from by ((first | omega | (simp only [st_s] <;> omega) | assumption | omega))) hT (show τ_82.1 9 = σ.1 9 from by omega) (show τ_82.1 22 = σ.1 22 from by omega) G25 G26 (show 0 ≤ (u1_82 + 1) from by (first | omega | (simp only [st_s] <;> omega) | assumption | omega)) (show (u1_82 + 1) ≤ 20000 from by (first | omega | (simp only [st_s] <;> omega) | assumption | omega))
          ·
            refine ⟨(show 0 ≤ ((24 * τ_82.1 22) + u3_82) ∧ ((24 * τ_82.1 22) + u3_82) < 36024 from by (first | omega | (simp only [st_s] <;> omega) | assumption | omega)), ?_⟩
            intro x23 e_x23
            refine ⟨(show 0 ≤ ((24 * u2_82) + u3_82) ∧ ((24 * u2_82) + u3_82) < 36024 from by (first | omega | (simp only [st_s] <;> omega) | assumption | omega)), ?_⟩
            intro x25 e_x25
            replace hT := mT_b (k := 0) (j := ((24 * τ_82.1 22) + u3_82)) (x := (x23 ||| x25)) hT
            refine ⟨(⟨by (first | omega | (simp only [st_s] <;> omega) | assumption | omega), by (first | omega | (simp only [st_s] <;> omega) | assumption | omega)⟩ : rg (u3_82 + 1)), ?_⟩
            exact ih_82 _ _ _ _ (show (25 - (u3_82 + 1) : Int) < ((m_82 : Nat) : Int) from by ((first | omega | (simp only [st_s] <;> omega) | assumption | omega))) hT (show τ_82.1 9 = σ.1 9 from by omega) (show τ_82.1 22 = σ.1 22 from by omega) G25 G26 (show 0 ≤ u1_82 from by (first | omega | (simp only [st_s] <;> omega) | assumption | omega)) (show u1_82 ≤ 19999 from by (first | omega | (simp only [st_s] <;> omega) | assumption | omega)) (show 0 ≤ u2_82 from by (first | omega | (simp only [st_s] <;> omega) | assumption | omega)) (show u2_82 ≤ 1499 from by (first | omega | (simp only [st_s] <;> omega) | assumption | omega)) (show 0 ≤ (u3_82 + 1) from by (first | omega | (simp only [st_s] <;> omega) | assumption | omega)) (show (u3_82 + 1) ≤ 24 from by (first | omega | (simp only [st_s] <;> omega) | assumption | omega)) (show u1_82 + (m_10 : Int) ≥ 20001 from by (first | omega | (simp only [st_s] <;> omega) | assumption | omega))
      refine h10 u1_10 τ_10 ?_
      refine ⟨(show 0 ≤ τ_10.1 22 ∧ τ_10.1 22 < 1501 from by (first | omega | (simp only [st_s] <;> omega) | assumption | omega)), ?_⟩
      intro x4 r_x4 e_x4
      have b_x4 : 0 ≤ x4 ∧ x4 ≤ 20000 := by rw [e_x4]; exact hT.2 25 _
      intro x5 r_x5 e_x5
      have b_x5 : 0 ≤ x5 ∧ x5 ≤ 20000 := by rw [e_x5]; exact hT.2 26 _
      refine ⟨(⟨by (first | omega | (simp only [st_s] <;> omega) | assumption | omega), by (first | omega | (simp only [st_s] <;> omega) | assumption | omega)⟩ : rg (x4 + x5)), ?_⟩
      refine ⟨fun c7 => ?_, fun c7 => ?_⟩
      ·
        exact hT
      ·
        refine ⟨(show 0 ≤ u1_10 ∧ u1_10 < 20001 from by (first | omega | (simp only [st_s] <;> omega) | assumption | omega)), ?_⟩
        intro x9 r_x9 e_x9
        have b_x9 : (-300) ≤ x9 ∧ x9 ≤ 1499 := by rw [e_x9]; exact hT.2 27 _
        refine ⟨fun c10 => ?_, fun c10 => ?_⟩
        ·
          refine ⟨(⟨by (first | omega | (simp only [st_s] <;> omega) | assumption | omega), by (first | omega | (simp only [st_s] <;> omega) | assumption | omega)⟩ : rg (u1_10 + 1)), ?_⟩
          exact ih_10 _ _ (show (20001 - (u1_10 + 1) : Int) < ((m_10 : Nat) : Int) from by ((first | omega | (simp only [st_s] <;> omega) | assumption | omega))) hT (show τ_10.1 9 = σ.1 9 from by omega) (show τ_10.1 22 = σ.1 22 from by omega) G25 G26 (show 0 ≤ (u1_10 + 1) from by (first | omega | (simp only [st_s] <;> omega) | assumption | omega)) (show (u1_10 + 1) ≤ 20000 from by (first | omega | (simp only [st_s] <;> omega) | assumption | omega))
        ·
          refine ⟨(show 0 ≤ x9 ∧ x9 < 1501 from by (first | omega | (simp only [st_s] <;> omega) | assumption | omega)), ?_⟩
          intro x13 r_x13 e_x13
          have b_x13 : 0 ≤ x13 ∧ x13 ≤ 4 := by rw [e_x13]; exact hT.2 13 _
          refine ⟨fun c14 => ?_, fun c14 => ?_⟩
          ·
            refine ⟨(⟨by (first | omega | (simp only [st_s] <;> omega) | assumption | omega), by (first | omega | (simp only [st_s] <;> omega) | assumption | omega)⟩ : rg (u1_10 + 1)), ?_⟩
            exact ih_10 _ _ (show (20001 - (u1_10 + 1) : Int) < ((m_10 : Nat) : Int) from by ((first | omega | (simp only [st_s] <;> omega) | assumption | omega))) hT (show τ_10.1 9 = σ.1 9 from by omega) (show τ_10.1 22 = σ.1 22 from by omega) G25 G26 (show 0 ≤ (u1_10 + 1) from by (first | omega | (simp only [st_s] <;> omega) | assumption | omega)) (show (u1_10 + 1) ≤ 20000 from by (first | omega | (simp only [st_s] <;> omega) | assumption | omega))
          ·
            intro x16 r_x16 h1_x16 h2_x16
            refine ⟨(show 0 ≤ ((24 * τ_10.1 22) + x16) ∧ ((24 * τ_10.1 22) + x16) < 36024 from by (first | omega | (simp only [st_s] <;> omega) | assumption | omega)), ?_⟩
            intro x18 e_x18
            intro x19 r_x19 h1_x19 h2_x19
            replace hT := mT_b (k := 0) (j := ((24 * τ_10.1 22) + x16)) (x := (x18 ||| (j_shl 1 x19))) hT
            exact l_82 ((25 - 0 : Int).toNat + 1) _ _ _ _ (show (25 - 0 : Int) < (((25 - 0 : Int).toNat + 1 : Nat) : Int) from by ((first | omega | (simp only [st_s] <;> omega) | assumption | omega))) hT (show τ_10.1 9 = σ.1 9 from by omega) (show τ_10.1 22 = σ.1 22 from by omega) G25 G26 (show 0 ≤ u1_10 from by (first | omega | (simp only [st_s] <;> omega) | assumption | omega)) (show u1_10 ≤ 19999 from by (first | omega | (simp only [st_s] <;> omega) | assumption | omega)) (show 0 ≤ x9 from by (first | omega | (simp only [st_s] <;> omega) | assumption | omega)) (show x9 ≤ 1499 from by (first | omega | (simp only [st_s] <;> omega) | assumption | omega)) (show 0 ≤ 0 from by (first | omega | (simp only [st_s] <;> omega) | assumption | omega)) (show 0 ≤ 24 from by (first | omega | (simp only [st_s] <;> omega) | assumption | omega)) (show u1_10 + (m_10 : Int) ≥ 20001 from by (first | omega | (simp only [st_s] <;> omega) | assumption | omega))
  refine ⟨(show 0 ≤ σ.1 22 ∧ σ.1 22 < 1501 from by (first | omega | (simp only [st_s] <;> omega) | assumption | omega)), ?_⟩
  intro x2 r_x2 e_x2
  have b_x2 : 0 ≤ x2 ∧ x2 ≤ 20000 := by rw [e_x2]; exact hT.2 25 _
  exact l_10 ((20001 - x2 : Int).toNat + 1) _ _ (show (20001 - x2 : Int) < (((20001 - x2 : Int).toNat + 1 : Nat) : Int) from by ((first | omega | (simp only [st_s] <;> omega) | assumption | omega))) hT (show σ.1 9 = σ.1 9 from by omega) (show σ.1 22 = σ.1 22 from by omega) G25 G26 (show 0 ≤ x2 from by (first | omega | (simp only [st_s] <;> omega) | assumption | omega)) (show x2 ≤ 20000 from by (first | omega | (simp only [st_s] <;> omega) | assumption | omega))
