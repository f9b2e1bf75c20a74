-- pure: which statements define rules, which rules are needed
/-- what holds all along -/
def y_BI (σ τ : S0) : Prop := (y_CT τ ∧ y_KC σ τ ∧ y_SF σ τ ∧ y_DT τ ∧ y_EQ τ) ∧ (τ.1 49 = 0 ∨ (y_TT τ τ (σ.1 5) (σ.1 5) ∧ y_Un τ (σ.1 5) (τ.1 48) (τ.2.1 84))) ∧ n_J τ ∧ m_J τ ∧ (τ.1 51 ≤ 23400 ∧ τ.1 52 ≤ 23400)
theorem y_BI_0 {σ : S0} (a : y_CT σ) (b : y_DT σ) (c : y_EQ σ) (d : σ.1 49 = 0 ∨ (y_TT σ σ (σ.1 5) (σ.1 5) ∧ y_Un σ (σ.1 5) (σ.1 48) (σ.2.1 84))) (e : n_J σ) (f : m_J σ) (g : σ.1 51 ≤ 23400 ∧ σ.1 52 ≤ 23400) : y_BI σ σ := ⟨⟨a, y_KC_0 σ, y_SF_0 σ, b, c⟩, d, e, f, g⟩
theorem y_BI_r {σ τ υ : S0} {wv wa wb : List Nat} (h : y_BI σ τ) (hf : f_r wv wa wb τ υ) (c1 : y_CT υ) (c2 : υ.1 49 = 0 ∨ (y_TT υ υ (τ.1 5) (τ.1 5) ∧ y_Un υ (τ.1 5) (υ.1 48) (υ.2.1 84))) (c3 : υ.1 51 ≤ 23400 ∧ υ.1 52 ≤ 23400) (c4 : y_KC τ υ) (c5 : y_DT υ) (d1 : [3, 5, 6, 7, 8, 9, 10, 11].all (fun i => !wv.contains i) = true) (d2 : [8, 10, 12, 13, 14, 15, 16, 17, 18, 19, 20, 21, 22, 25, 26, 27, 28, 96].all (fun i => !wa.contains i) = true) : y_BI σ υ := by
  obtain ⟨⟨a, b, c, d, e⟩, f, g, m, n⟩ := h
  have V : ∀ i : Nat, i ∈ [3, 5, 6, 7, 8, 9, 10, 11] → wv.contains i = false := fun i hi => by simpa using List.all_eq_true.mp d1 i hi
  have A : ∀ i : Nat, i ∈ [8, 10, 12, 13, 14, 15, 16, 17, 18, 19, 20, 21, 22, 25, 26, 27, 28, 96] → wa.contains i = false := fun i hi => by simpa using List.all_eq_true.mp d2 i hi
  have SF : y_SF τ υ := y_SF_h hf (List.all_eq_true.mpr (fun i hi => by rw [V i (by simp at hi ⊢; omega)]; rfl)) (List.all_eq_true.mpr (fun i hi => by rw [A i (by simp at hi ⊢; omega)]; rfl))
  have J : n_J υ := n_J_hh g hf (List.all_eq_true.mpr (fun i hi => by rw [V i (by simp at hi ⊢; omega)]; rfl)) (List.all_eq_true.mpr (fun i hi => by rw [A i (by simp at hi ⊢; omega)]; rfl))
  have M : m_J υ := m_J_f m hf (List.all_eq_true.mpr (fun i hi => by rw [V i (by simp at hi ⊢; omega)]; rfl)) (List.all_eq_true.mpr (fun i hi => by rw [A i (by simp at hi ⊢; omega)]; rfl))
  have e96 : υ.2.1 96 = τ.2.1 96 := hf.2.1 96 (by simpa using A 96 (by simp))
  rw [c.2.2.1] at c2
  exact ⟨⟨c1, y_KC_t b c4, y_SF_t c SF, c5, y_EQ_e e SF.1 SF.2.2.1 e96⟩, c2, J, M, c3⟩
/-- what changes no tree -/
theorem y_BI_g {σ τ υ : S0} {wv wa wb : List Nat} (h : y_BI σ τ) (hT : m_T τ) (hf : f_r wv wa wb τ υ) (d1 : [3, 5, 6, 7, 8, 9, 10, 11, 47, 48, 49, 51, 52].all (fun i => !wv.contains i) = true) (d2 : [8, 10, 12, 13, 14, 15, 16, 17, 18, 19, 20, 21, 22, 25, 26, 27, 28, 77, 78, 79, 80, 81, 82, 83, 84, 94, 95, 96].all (fun i => !wa.contains i) = true) (d3 : [7].all (fun i => !wb.contains i) = true) : y_BI σ υ := by
  have V : ∀ i : Nat, i ∈ [3, 5, 6, 7, 8, 9, 10, 11, 47, 48, 49, 51, 52] → wv.contains i = false := fun i hi => by simpa using List.all_eq_true.mp d1 i hi
  have A : ∀ i : Nat, i ∈ [8, 10, 12, 13, 14, 15, 16, 17, 18, 19, 20, 21, 22, 25, 26, 27, 28, 77, 78, 79, 80, 81, 82, 83, 84, 94, 95, 96] → wa.contains i = false := fun i hi => by simpa using List.all_eq_true.mp d2 i hi
  have SF : y_SF τ υ := y_SF_h hf (List.all_eq_true.mpr (fun i hi => by rw [V i (by simp at hi ⊢; omega)]; rfl)) (List.all_eq_true.mpr (fun i hi => by rw [A i (by simp at hi ⊢; omega)]; rfl))
  have e94 : υ.2.1 94 = τ.2.1 94 := hf.2.1 94 (by simpa using A 94 (by simp))
  have e95 : υ.2.1 95 = τ.2.1 95 := hf.2.1 95 (by simpa using A 95 (by simp))
  have e7 : υ.2.2 7 = τ.2.2 7 := hf.2.2 7 (by simpa using List.all_eq_true.mp d3 7 (by simp))
  have e49 : υ.1 49 = τ.1 49 := hf.1 49 (by simpa using V 49 (by simp))
  have e51 : υ.1 51 = τ.1 51 := hf.1 51 (by simpa using V 51 (by simp))
  have e52 : υ.1 52 = τ.1 52 := hf.1 52 (by simpa using V 52 (by simp))
  refine y_BI_r h hf (y_CT_e SF.1 SF.2.2.1 SF.2.2.2.1 SF.2.2.2.2.2 e94 e7 h.1.1) ?_ (by rw [e51, e52]; exact h.2.2.2.2) (y_KC_e e94 e7) (y_DT_k h.1.2.2.2.1 hT SF (y_KC_e e94 e7) e95) (List.all_eq_true.mpr (fun i hi => by rw [V i (by simp at hi ⊢; omega)]; rfl)) (List.all_eq_true.mpr (fun i hi => by rw [A i (by simp at hi ⊢; omega)]; rfl))
  rw [e49]
  rcases h.2.1 with z | z
  · exact Or.inl z
  · rw [← h.1.2.2.1.2.2.1] at z
    exact Or.inr (y_tr_h SF.1 hf (List.all_eq_true.mpr (fun i hi => by rw [V i (by simp at hi ⊢; omega)]; rfl)) (List.all_eq_true.mpr (fun i hi => by rw [A i (by simp at hi ⊢; omega)]; rfl)) z)
/-- definitions that are known stay -/
theorem y_95 {σ τ : S0} {n : Int} (a : ∀ i : Int, ¬ i = n → τ.2.1 95 i = σ.2.1 95 i) (b : ¬ σ.2.1 95 n = -9 → τ = σ) : ∀ i : Int, ¬ σ.2.1 95 i = -9 → τ.2.1 95 i = σ.2.1 95 i := fun i z => by
  by_cases q : i = n
  · rw [q] at z; rw [b z]
  · exact a i q
def z_D1 (τ : S0) (n : Int) : Prop := ∀ r : Int, 0 ≤ r → r < τ.1 5 → τ.2.1 97 r = -1 ∨ ((0 ≤ τ.2.1 97 r ∧ τ.2.1 97 r < n) ∧ τ.2.1 95 (τ.2.1 97 r) = r ∧ τ.2.1 13 (τ.2.1 97 r) = 2 ∧ τ.2.1 15 (τ.2.1 97 r) ≤ 60)
def z_N1 (τ : S0) (n : Int) : Prop := ∀ r : Int, 0 ≤ r → r < τ.1 5 → y_b7 (τ.2.2 7) n r → ¬ τ.2.1 98 r = 0
def z_N2 (τ : S0) (u : Int) : Prop := ∀ d : Int, 0 ≤ d → d < τ.1 5 → u < τ.2.1 97 d → ¬ τ.2.1 98 d = 0 → ∀ r : Int, 0 ≤ r → r < τ.1 5 → ¬ r = d → y_b7 (τ.2.2 7) (τ.2.1 97 d) r → ¬ τ.2.1 98 r = 0
theorem z_D1_k {σ τ : S0} {n : Int} (h : z_D1 σ n) (SF : y_SF σ τ) (e97 : τ.2.1 97 = σ.2.1 97) (e95 : ∀ i : Int, ¬ σ.2.1 95 i = -9 → τ.2.1 95 i = σ.2.1 95 i) : z_D1 τ n := fun r r0 r5 => by
  rw [SF.2.2.1] at r5
  rw [e97, SF.1.2.2.2.1, SF.1.2.2.2.2.2.1]
  rcases h r r0 r5 with z | ⟨a, b, c⟩
  · exact Or.inl z
  · exact Or.inr ⟨a, by rw [e95 _ (by omega)]; exact b, c⟩
theorem z_D1_m {σ : S0} {n m : Int} (h : z_D1 σ n) (nm : n ≤ m) : z_D1 σ m := fun r r0 r5 => by
  rcases h r r0 r5 with z | ⟨a, b⟩
  · exact Or.inl z
  · exact Or.inr ⟨⟨a.1, by omega⟩, b⟩
theorem z_D1_s {σ : S0} {n x : Int} (h : z_D1 σ n) (n0 : 0 ≤ n) (e : σ.2.1 95 n = x) (k : σ.2.1 13 n = 2) (l : σ.2.1 15 n ≤ 60) : z_D1 (s_a σ 97 x n) (n + 1) := fun r r0 r5 => by
  show st (σ.2.1 97) x n r = -1 ∨ ((0 ≤ st (σ.2.1 97) x n r ∧ st (σ.2.1 97) x n r < n + 1) ∧ σ.2.1 95 (st (σ.2.1 97) x n r) = r ∧ σ.2.1 13 (st (σ.2.1 97) x n r) = 2 ∧ σ.2.1 15 (st (σ.2.1 97) x n r) ≤ 60)
  by_cases q : r = x
  · rw [q, st_s]
    exact Or.inr ⟨⟨n0, by omega⟩, e, k, l⟩
  · rw [st_n _ _ q]
    exact z_D1_m h (by omega) r r0 r5
/-- what is known of a definer -/
theorem z_D1_e {σ : S0} {n d : Int} (h : z_D1 σ n) (DT : y_DT σ) (n5 : n ≤ σ.1 5) (d0 : 0 ≤ d) (d5 : d < σ.1 5) (z : 0 ≤ σ.2.1 97 d) : σ.2.1 97 d < n ∧ y_DE σ (σ.2.1 97 d) d ∧ σ.2.1 95 (σ.2.1 97 d) = d := by
  rcases h d d0 d5 with q | ⟨a, b, c⟩
  · omega
  · have w := DT _ a.1 (by omega) (by omega)
    rw [b] at w
    exact ⟨a.2, w.resolve_left (by omega), b⟩
theorem z_N1_k {σ τ : S0} {n : Int} (h : z_N1 σ n) (k : y_KC σ τ) (n0 : 0 ≤ n) (c : ¬ σ.2.1 94 n = -1) (e5 : τ.1 5 = σ.1 5) (l5 : σ.1 5 ≤ 1500) (e98 : τ.2.1 98 = σ.2.1 98) : z_N1 τ n := fun r r0 r5 b => by
  rw [e98]
  exact h r r0 (by omega) ((y_b7_k (k n n0 c).2 r0 (by omega)).mp b)
theorem z_N1_i {σ τ : S0} {n m x : Int} (h : z_N1 σ n) (k : y_KC σ τ) (n0 : 0 ≤ n) (c : ¬ σ.2.1 94 n = -1) (e5 : τ.1 5 = σ.1 5) (l5 : σ.1 5 ≤ 1500) (nd : ∀ r : Int, 0 ≤ r → r < σ.1 5 → (¬ τ.2.1 98 r = 0 ↔ ¬ σ.2.1 98 r = 0 ∨ (¬ r = x ∧ y_b7 (τ.2.2 7) m r))) : z_N1 τ n := fun r r0 r5 b => (nd r r0 (by omega)).mpr (Or.inl (h r r0 (by omega) ((y_b7_k (k n n0 c).2 r0 (by omega)).mp b)))
theorem z_N2_k {σ τ : S0} {u n : Int} (h : z_N2 σ u) (D1 : z_D1 σ n) (DT : y_DT σ) (n5 : n ≤ σ.1 5) (k : y_KC σ τ) (u0 : -1 ≤ u) (e5 : τ.1 5 = σ.1 5) (l5 : σ.1 5 ≤ 1500) (e97 : τ.2.1 97 = σ.2.1 97) (e98 : τ.2.1 98 = σ.2.1 98) : z_N2 τ u := fun d d0 d5 ud nd r r0 r5 ne b => by
  rw [e97] at ud b
  rw [e98] at nd
  rw [e98]
  have w := (z_D1_e D1 DT n5 d0 (by omega) (by omega)).2.1
  exact h d d0 (by omega) ud nd r r0 (by omega) ne ((y_b7_k (k _ (by omega) (by rw [w.1.2.1]; omega)).2 r0 (by omega)).mp b)
theorem z_N2_n {σ : S0} {u : Int} (h : z_N2 σ u) (g : ∀ d : Int, 0 ≤ d → d < σ.1 5 → σ.2.1 97 d = u → σ.2.1 98 d = 0) : z_N2 σ (u + -1) := fun d d0 d5 ud nd => by
  rcases (by omega : σ.2.1 97 d = u ∨ u < σ.2.1 97 d) with z | z
  · exact absurd (g d d0 d5 z) nd
  · exact h d d0 d5 z nd
theorem z_N2_s {σ τ : S0} {u n x : Int} (h : z_N2 σ u) (D1 : z_D1 σ n) (DT : y_DT σ) (n5 : n ≤ σ.1 5) (SF : y_SF σ τ) (k : y_KC σ τ) (u0 : 0 ≤ u) (l5 : σ.1 5 ≤ 1500) (e97 : τ.2.1 97 = σ.2.1 97) (x0 : 0 ≤ x) (x5 : x < σ.1 5) (hx : σ.2.1 97 x = u) (nd : ∀ r : Int, 0 ≤ r → r < σ.1 5 → (¬ τ.2.1 98 r = 0 ↔ ¬ σ.2.1 98 r = 0 ∨ (¬ r = x ∧ y_b7 (τ.2.2 7) u r))) : z_N2 τ (u + -1) := fun d d0 d5 ud hn r r0 r5 ne b => by
  rw [SF.2.2.1] at d5 r5
  rw [e97] at ud b
  have wx := z_D1_e D1 DT n5 x0 x5 (by omega)
  rw [hx] at wx
  have w := z_D1_e D1 DT n5 d0 d5 (by omega)
  rcases (by omega : σ.2.1 97 d = u ∨ u < σ.2.1 97 d) with z | z
  · rw [z] at w b
    have e : d = x := w.2.2.symm.trans wx.2.2
    exact (nd r r0 r5).mpr (Or.inr ⟨by rw [← e]; exact ne, b⟩)
  · have kb := (y_b7_k (k _ (by omega) (by rw [w.2.1.1.2.1]; omega)).2 r0 (by omega)).mp b
    rcases (nd d d0 d5).mp hn with q | ⟨_, q⟩
    · exact (nd r r0 r5).mpr (Or.inl (h d d0 d5 z q r r0 r5 ne kb))
    · have ub := w.2.1.2.2 u u0 z wx.2.1.1.2.2 wx.2.1.1.1
      exact absurd ((y_b7_k (k u u0 ub.1).2 d0 (by omega)).mp q) (ub.2 wx.2.1.1.2.1)
set_option maxHeartbeats 4000000 in
theorem K_X13_needRules {n1 : Int} {n2 : Int} {σ : S0} (hT : m_T σ) (p1 : 0 ≤ n1) (p2 : n1 < (σ.1 5)) (p3 : σ.2.1 15 n1 ≤ 60) (p4 : ca (σ.2.1 12) ((σ.1 3)) ≤ (σ.1 4)) (p5 : n_J σ) (p6 : m_J σ) (p7 : (σ.1 10) < (σ.1 3)) (p8 : (σ.1 49) = 0 ∨ (y_TT σ σ (σ.1 5) (σ.1 5) ∧ y_Un σ (σ.1 5) (σ.1 48) (σ.2.1 84))) (p9 : (σ.1 51) ≤ 47000) (p10 : (σ.1 52) ≤ 88000) (p11 : y_CT σ) (p12 : -1 ≤ n2) : W_X13_needRules n1 n2 σ (fun (τ : S0) => (m_T τ) ∧ (y_CT τ) ∧ (((τ.1 49) = 0 ∨ (y_TT τ τ (σ.1 5) (σ.1 5) ∧ y_Un τ (σ.1 5) (τ.1 48) (τ.2.1 84)))) ∧ ((τ.1 51) = (σ.1 51) ∧ (τ.1 52) = (σ.1 52)) ∧ (y_KC σ τ) ∧ (¬ τ.2.1 94 n1 = -1) ∧ (∀ r : Int, 0 ≤ r → r < (σ.1 5) → (¬ τ.2.1 98 r = 0 ↔ ¬ σ.2.1 98 r = 0 ∨ (¬ r = n2 ∧ y_b7 (τ.2.2 7) n1 r)))) := by
  have A8 : ∀ j, 0 ≤ σ.2.1 8 j ∧ σ.2.1 8 j ≤ 1 := fun j => hT.2 8 j
  have A10 : ∀ j, (-1) ≤ σ.2.1 10 j ∧ σ.2.1 10 j ≤ 999 := fun j => hT.2 10 j
  have A12 : ∀ j, 0 ≤ σ.2.1 12 j ∧ σ.2.1 12 j ≤ 1 := fun j => hT.2 12 j
  have A13 : ∀ j, 0 ≤ σ.2.1 13 j ∧ σ.2.1 13 j ≤ 4 := fun j => hT.2 13 j
  have A14 : ∀ j, 0 ≤ σ.2.1 14 j ∧ σ.2.1 14 j ≤ 30000 := fun j => hT.2 14 j
  have A15 : ∀ j, 0 ≤ σ.2.1 15 j ∧ σ.2.1 15 j ≤ 300 := fun j => hT.2 15 j
  have A16 : ∀ j, 0 ≤ σ.2.1 16 j ∧ σ.2.1 16 j ≤ 999 := fun j => hT.2 16 j
  have A17 : ∀ j, (-1) ≤ σ.2.1 17 j ∧ σ.2.1 17 j ≤ 1499 := fun j => hT.2 17 j
  have A18 : ∀ j, 0 ≤ σ.2.1 18 j ∧ σ.2.1 18 j ≤ 90000 := fun j => hT.2 18 j
  have A19 : ∀ j, 0 ≤ σ.2.1 19 j ∧ σ.2.1 19 j ≤ 60 := fun j => hT.2 19 j
  have A20 : ∀ j, 0 ≤ σ.2.1 20 j ∧ σ.2.1 20 j ≤ 1499 := fun j => hT.2 20 j
  have A94 : ∀ j, (-1) ≤ σ.2.1 94 j ∧ σ.2.1 94 j ≤ 2 := fun j => hT.2 94 j
  have A95 : ∀ j, (-9) ≤ σ.2.1 95 j ∧ σ.2.1 95 j ≤ 1499 := fun j => hT.2 95 j
  have A96 : ∀ j, 0 ≤ σ.2.1 96 j ∧ σ.2.1 96 j ≤ 1 := fun j => hT.2 96 j
  have A97 : ∀ j, (-1) ≤ σ.2.1 97 j ∧ σ.2.1 97 j ≤ 1499 := fun j => hT.2 97 j
  have A98 : ∀ j, 0 ≤ σ.2.1 98 j ∧ σ.2.1 98 j ≤ 1 := fun j => hT.2 98 j
  have v3 : 0 ≤ σ.1 3 ∧ σ.1 3 ≤ 1000 := hT.1 3
  have v4 : 0 ≤ σ.1 4 ∧ σ.1 4 ≤ 100 := hT.1 4
  have v5 : 0 ≤ σ.1 5 ∧ σ.1 5 ≤ 1500 := hT.1 5
  have v10 : (-1) ≤ σ.1 10 ∧ σ.1 10 ≤ 999 := hT.1 10
  have v11 : (-1) ≤ σ.1 11 ∧ σ.1 11 ≤ 999 := hT.1 11
  have v48 : 0 ≤ σ.1 48 ∧ σ.1 48 ≤ 1500 := hT.1 48
  have v49 : 0 ≤ σ.1 49 ∧ σ.1 49 ≤ 1 := hT.1 49
  have v51 : 0 ≤ σ.1 51 ∧ σ.1 51 ≤ 60000 := hT.1 51
  have v52 : 0 ≤ σ.1 52 ∧ σ.1 52 ≤ 120000 := hT.1 52
  have W3 : σ.1 3 = σ.1 3 := rfl
  have W4 : σ.1 4 = σ.1 4 := rfl
  have W5 : σ.1 5 = σ.1 5 := rfl
  have W10 : σ.1 10 = σ.1 10 := rfl
  have W11 : σ.1 11 = σ.1 11 := rfl
  have G8 : σ.2.1 8 = σ.2.1 8 := rfl
  have G10 : σ.2.1 10 = σ.2.1 10 := rfl
  have G12 : σ.2.1 12 = σ.2.1 12 := rfl
  have G13 : σ.2.1 13 = σ.2.1 13 := rfl
  have G14 : σ.2.1 14 = σ.2.1 14 := rfl
  have G15 : σ.2.1 15 = σ.2.1 15 := rfl
  have G16 : σ.2.1 16 = σ.2.1 16 := rfl
  have G17 : σ.2.1 17 = σ.2.1 17 := rfl
  have G18 : σ.2.1 18 = σ.2.1 18 := rfl
  have G19 : σ.2.1 19 = σ.2.1 19 := rfl
  have G20 : σ.2.1 20 = σ.2.1 20 := rfl
  have G95 : σ.2.1 95 = σ.2.1 95 := rfl
  have G96 : σ.2.1 96 = σ.2.1 96 := rfl
  have G97 : σ.2.1 97 = σ.2.1 97 := rfl
  intro P8 P66 h8 h66
  have l5 : σ.1 5 ≤ 1500 := (hT.1 5).2
  have Y20 : ca (σ.2.1 12) ((σ.1 3)) ≤ (σ.1 4) := p4
  have Y20_0 := Y20
  have l_8 : ∀ (m_8 : Nat) (u3_8 : Int) (τ_8 : S0), 1502 - u3_8 < (m_8 : Int) → (m_T τ_8) → (τ_8.1 3 = σ.1 3) → (τ_8.1 4 = σ.1 4) → (τ_8.1 5 = σ.1 5) → (τ_8.1 10 = σ.1 10) → (τ_8.1 11 = σ.1 11) → (τ_8.2.1 8 = σ.2.1 8) → (τ_8.2.1 10 = σ.2.1 10) → (τ_8.2.1 12 = σ.2.1 12) → (τ_8.2.1 13 = σ.2.1 13) → (τ_8.2.1 14 = σ.2.1 14) → (τ_8.2.1 15 = σ.2.1 15) → (τ_8.2.1 16 = σ.2.1 16) → (τ_8.2.1 17 = σ.2.1 17) → (τ_8.2.1 18 = σ.2.1 18) → (τ_8.2.1 19 = σ.2.1 19) → (τ_8.2.1 20 = σ.2.1 20) → (τ_8.2.1 95 = σ.2.1 95) → (τ_8.2.1 96 = σ.2.1 96) → (τ_8.2.1 97 = σ.2.1 97) → (y_CT τ_8) → ((τ_8.1 49) = 0 ∨ (y_TT τ_8 τ_8 (σ.1 5) (σ.1 5) ∧ y_Un τ_8 (σ.1 5) (τ_8.1 48) (τ_8.2.1 84))) → ((τ_8.1 51) = (σ.1 51) ∧ (τ_8.1 52) = (σ.1 52)) → (y_KC σ τ_8) → (¬ τ_8.2.1 94 n1 = -1) → (0 ≤ u3_8 ∧ u3_8 ≤ (σ.1 5)) → (∀ r : Int, 0 ≤ r → r < u3_8 → (¬ τ_8.2.1 98 r = 0 ↔ ¬ σ.2.1 98 r = 0 ∨ (¬ r = n2 ∧ y_b7 (τ_8.2.2 7) n1 r))) → (∀ r : Int, u3_8 ≤ r → τ_8.2.1 98 r = σ.2.1 98 r) → P8 n1 n2 u3_8 τ_8 := by
    intro m_8
    induction m_8 with
    | zero =>
      intro u3_8 τ_8 hm hT W3 W4 W5 W10 W11 G8 G10 G12 G13 G14 G15 G16 G17 G18 G19 G20 G95 G96 G97 i8_1 i8_2 i8_3 i8_4 i8_5 i8_6 i8_7 i8_8
      have A8 : ∀ j, 0 ≤ τ_8.2.1 8 j ∧ τ_8.2.1 8 j ≤ 1 := fun j => hT.2 8 j
      have A10 : ∀ j, (-1) ≤ τ_8.2.1 10 j ∧ τ_8.2.1 10 j ≤ 999 := fun j => hT.2 10 j
      have A12 : ∀ j, 0 ≤ τ_8.2.1 12 j ∧ τ_8.2.1 12 j ≤ 1 := fun j => hT.2 12 j
      have A13 : ∀ j, 0 ≤ τ_8.2.1 13 j ∧ τ_8.2.1 13 j ≤ 4 := fun j => hT.2 13 j
      have A14 : ∀ j, 0 ≤ τ_8.2.1 14 j ∧ τ_8.2.1 14 j ≤ 30000 := fun j => hT.2 14 j
      have A15 : ∀ j, 0 ≤ τ_8.2.1 15 j ∧ τ_8.2.1 15 j ≤ 300 := fun j => hT.2 15 j
      have A16 : ∀ j, 0 ≤ τ_8.2.1 16 j ∧ τ_8.2.1 16 j ≤ 999 := fun j => hT.2 16 j
      have A17 : ∀ j, (-1) ≤ τ_8.2.1 17 j ∧ τ_8.2.1 17 j ≤ 1499 := fun j => hT.2 17 j
      have A18 : ∀ j, 0 ≤ τ_8.2.1 18 j ∧ τ_8.2.1 18 j ≤ 90000 := fun j => hT.2 18 j
      have A19 : ∀ j, 0 ≤ τ_8.2.1 19 j ∧ τ_8.2.1 19 j ≤ 60 := fun j => hT.2 19 j
      have A20 : ∀ j, 0 ≤ τ_8.2.1 20 j ∧ τ_8.2.1 20 j ≤ 1499 := fun j => hT.2 20 j
      have A94 : ∀ j, (-1) ≤ τ_8.2.1 94 j ∧ τ_8.2.1 94 j ≤ 2 := fun j => hT.2 94 j
      have A95 : ∀ j, (-9) ≤ τ_8.2.1 95 j ∧ τ_8.2.1 95 j ≤ 1499 := fun j => hT.2 95 j
      have A96 : ∀ j, 0 ≤ τ_8.2.1 96 j ∧ τ_8.2.1 96 j ≤ 1 := fun j => hT.2 96 j
      have A97 : ∀ j, (-1) ≤ τ_8.2.1 97 j ∧ τ_8.2.1 97 j ≤ 1499 := fun j => hT.2 97 j
      have A98 : ∀ j, 0 ≤ τ_8.2.1 98 j ∧ τ_8.2.1 98 j ≤ 1 := fun j => hT.2 98 j
      have v3 : 0 ≤ τ_8.1 3 ∧ τ_8.1 3 ≤ 1000 := hT.1 3
      have v4 : 0 ≤ τ_8.1 4 ∧ τ_8.1 4 ≤ 100 := hT.1 4
      have v5 : 0 ≤ τ_8.1 5 ∧ τ_8.1 5 ≤ 1500 := hT.1 5
      have v10 : (-1) ≤ τ_8.1 10 ∧ τ_8.1 10 ≤ 999 := hT.1 10
      have v11 : (-1) ≤ τ_8.1 11 ∧ τ_8.1 11 ≤ 999 := hT.1 11
      have v48 : 0 ≤ τ_8.1 48 ∧ τ_8.1 48 ≤ 1500 := hT.1 48
      have v49 : 0 ≤ τ_8.1 49 ∧ τ_8.1 49 ≤ 1 := hT.1 49
      have v51 : 0 ≤ τ_8.1 51 ∧ τ_8.1 51 ≤ 60000 := hT.1 51
      have v52 : 0 ≤ τ_8.1 52 ∧ τ_8.1 52 ≤ 120000 := hT.1 52
      exfalso; (first | omega | (simp only [st_s] <;> omega) | assumption | omega | fail)
    | succ m_8 ih_8 =>
      intro u3_8 τ_8 hm_8 hT W3 W4 W5 W10 W11 G8 G10 G12 G13 G14 G15 G16 G17 G18 G19 G20 G95 G96 G97 i8_1 i8_2 i8_3 i8_4 i8_5 i8_6 i8_7 i8_8
      have A8 : ∀ j, 0 ≤ τ_8.2.1 8 j ∧ τ_8.2.1 8 j ≤ 1 := fun j => hT.2 8 j
      have A10 : ∀ j, (-1) ≤ τ_8.2.1 10 j ∧ τ_8.2.1 10 j ≤ 999 := fun j => hT.2 10 j
      have A12 : ∀ j, 0 ≤ τ_8.2.1 12 j ∧ τ_8.2.1 12 j ≤ 1 := fun j => hT.2 12 j
      have A13 : ∀ j, 0 ≤ τ_8.2.1 13 j ∧ τ_8.2.1 13 j ≤ 4 := fun j => hT.2 13 j
      have A14 : ∀ j, 0 ≤ τ_8.2.1 14 j ∧ τ_8.2.1 14 j ≤ 30000 := fun j => hT.2 14 j
      have A15 : ∀ j, 0 ≤ τ_8.2.1 15 j ∧ τ_8.2.1 15 j ≤ 300 := fun j => hT.2 15 j
      have A16 : ∀ j, 0 ≤ τ_8.2.1 16 j ∧ τ_8.2.1 16 j ≤ 999 := fun j => hT.2 16 j
      have A17 : ∀ j, (-1) ≤ τ_8.2.1 17 j ∧ τ_8.2.1 17 j ≤ 1499 := fun j => hT.2 17 j
      have A18 : ∀ j, 0 ≤ τ_8.2.1 18 j ∧ τ_8.2.1 18 j ≤ 90000 := fun j => hT.2 18 j
      have A19 : ∀ j, 0 ≤ τ_8.2.1 19 j ∧ τ_8.2.1 19 j ≤ 60 := fun j => hT.2 19 j
      have A20 : ∀ j, 0 ≤ τ_8.2.1 20 j ∧ τ_8.2.1 20 j ≤ 1499 := fun j => hT.2 20 j
      have A94 : ∀ j, (-1) ≤ τ_8.2.1 94 j ∧ τ_8.2.1 94 j ≤ 2 := fun j => hT.2 94 j
      have A95 : ∀ j, (-9) ≤ τ_8.2.1 95 j ∧ τ_8.2.1 95 j ≤ 1499 := fun j => hT.2 95 j
      have A96 : ∀ j, 0 ≤ τ_8.2.1 96 j ∧ τ_8.2.1 96 j ≤ 1 := fun j => hT.2 96 j
      have A97 : ∀ j, (-1) ≤ τ_8.2.1 97 j ∧ τ_8.2.1 97 j ≤ 1499 := fun j => hT.2 97 j
      have A98 : ∀ j, 0 ≤ τ_8.2.1 98 j ∧ τ_8.2.1 98 j ≤ 1 := fun j => hT.2 98 j
      have v3 : 0 ≤ τ_8.1 3 ∧ τ_8.1 3 ≤ 1000 := hT.1 3
      have v4 : 0 ≤ τ_8.1 4 ∧ τ_8.1 4 ≤ 100 := hT.1 4
      have v5 : 0 ≤ τ_8.1 5 ∧ τ_8.1 5 ≤ 1500 := hT.1 5
      have v10 : (-1) ≤ τ_8.1 10 ∧ τ_8.1 10 ≤ 999 := hT.1 10
      have v11 : (-1) ≤ τ_8.1 11 ∧ τ_8.1 11 ≤ 999 := hT.1 11
      have v48 : 0 ≤ τ_8.1 48 ∧ τ_8.1 48 ≤ 1500 := hT.1 48
      have v49 : 0 ≤ τ_8.1 49 ∧ τ_8.1 49 ≤ 1 := hT.1 49
      have v51 : 0 ≤ τ_8.1 51 ∧ τ_8.1 51 ≤ 60000 := hT.1 51
      have v52 : 0 ≤ τ_8.1 52 ∧ τ_8.1 52 ≤ 120000 := hT.1 52
      have Y20 : ca (τ_8.2.1 12) ((τ_8.1 3)) ≤ (τ_8.1 4) := by rw [show (ca (τ_8.2.1 12) ((τ_8.1 3)) ≤ (τ_8.1 4)) = (ca (σ.2.1 12) ((σ.1 3)) ≤ (σ.1 4)) from by rw [W3, W4, G12]]; exact Y20_0
      have l_66 : ∀ (u3_66 : Int) (k1_66 : Int) (k2_66 : Int) (τ_66 : S0), (m_T τ_66) → (τ_66.1 3 = σ.1 3) → (τ_66.1 4 = σ.1 4) → (τ_66.1 5 = σ.1 5) → (τ_66.1 10 = σ.1 10) → (τ_66.1 11 = σ.1 11) → (τ_66.2.1 8 = σ.2.1 8) → (τ_66.2.1 10 = σ.2.1 10) → (τ_66.2.1 12 = σ.2.1 12) → (τ_66.2.1 13 = σ.2.1 13) → (τ_66.2.1 14 = σ.2.1 14) → (τ_66.2.1 15 = σ.2.1 15) → (τ_66.2.1 16 = σ.2.1 16) → (τ_66.2.1 17 = σ.2.1 17) → (τ_66.2.1 18 = σ.2.1 18) → (τ_66.2.1 19 = σ.2.1 19) → (τ_66.2.1 20 = σ.2.1 20) → (τ_66.2.1 95 = σ.2.1 95) → (τ_66.2.1 96 = σ.2.1 96) → (τ_66.2.1 97 = σ.2.1 97) → (y_CT τ_66) → ((τ_66.1 49) = 0 ∨ (y_TT τ_66 τ_66 (σ.1 5) (σ.1 5) ∧ y_Un τ_66 (σ.1 5) (τ_66.1 48) (τ_66.2.1 84))) → ((τ_66.1 51) = (σ.1 51) ∧ (τ_66.1 52) = (σ.1 52)) → (y_KC σ τ_66) → (¬ τ_66.2.1 94 n1 = -1) → (0 ≤ u3_66 ∧ u3_66 ≤ (σ.1 5)) → (∀ r : Int, 0 ≤ r → r < u3_66 → (¬ τ_66.2.1 98 r = 0 ↔ ¬ σ.2.1 98 r = 0 ∨ (¬ r = n2 ∧ y_b7 (τ_66.2.2 7) n1 r))) → (∀ r : Int, u3_66 ≤ r → τ_66.2.1 98 r = σ.2.1 98 r) → (k1_66 = u3_66 ∧ u3_66 < (σ.1 5)) → (k2_66 = 0 ∨ k2_66 = 1) → (¬ k2_66 = 0 ↔ ¬ σ.2.1 98 u3_66 = 0 ∨ (¬ u3_66 = n2 ∧ y_b7 (τ_66.2.2 7) n1 u3_66)) → (1502 - u3_66 < (m_8 : Int) + 1) → P66 n1 n2 u3_66 k1_66 k2_66 τ_66 := by
        intro u3_66 k1_66 k2_66 τ_66 hT W3 W4 W5 W10 W11 G8 G10 G12 G13 G14 G15 G16 G17 G18 G19 G20 G95 G96 G97 i66_1 i66_2 i66_3 i66_4 i66_5 i66_6 i66_7 i66_8 i66_9 i66_10 i66_11 i66_12
        have A8 : ∀ j, 0 ≤ τ_66.2.1 8 j ∧ τ_66.2.1 8 j ≤ 1 := fun j => hT.2 8 j
        have A10 : ∀ j, (-1) ≤ τ_66.2.1 10 j ∧ τ_66.2.1 10 j ≤ 999 := fun j => hT.2 10 j
        have A12 : ∀ j, 0 ≤ τ_66.2.1 12 j ∧ τ_66.2.1 12 j ≤ 1 := fun j => hT.2 12 j
        have A13 : ∀ j, 0 ≤ τ_66.2.1 13 j ∧ τ_66.2.1 13 j ≤ 4 := fun j => hT.2 13 j
        have A14 : ∀ j, 0 ≤ τ_66.2.1 14 j ∧ τ_66.2.1 14 j ≤ 30000 := fun j => hT.2 14 j
        have A15 : ∀ j, 0 ≤ τ_66.2.1 15 j ∧ τ_66.2.1 15 j ≤ 300 := fun j => hT.2 15 j
        have A16 : ∀ j, 0 ≤ τ_66.2.1 16 j ∧ τ_66.2.1 16 j ≤ 999 := fun j => hT.2 16 j
        have A17 : ∀ j, (-1) ≤ τ_66.2.1 17 j ∧ τ_66.2.1 17 j ≤ 1499 := fun j => hT.2 17 j
        have A18 : ∀ j, 0 ≤ τ_66.2.1 18 j ∧ τ_66.2.1 18 j ≤ 90000 := fun j => hT.2 18 j
        have A19 : ∀ j, 0 ≤ τ_66.2.1 19 j ∧ τ_66.2.1 19 j ≤ 60 := fun j => hT.2 19 j
        have A20 : ∀ j, 0 ≤ τ_66.2.1 20 j ∧ τ_66.2.1 20 j ≤ 1499 := fun j => hT.2 20 j
        have A94 : ∀ j, (-1) ≤ τ_66.2.1 94 j ∧ τ_66.2.1 94 j ≤ 2 := fun j => hT.2 94 j
        have A95 : ∀ j, (-9) ≤ τ_66.2.1 95 j ∧ τ_66.2.1 95 j ≤ 1499 := fun j => hT.2 95 j
        have A96 : ∀ j, 0 ≤ τ_66.2.1 96 j ∧ τ_66.2.1 96 j ≤ 1 := fun j => hT.2 96 j
        have A97 : ∀ j, (-1) ≤ τ_66.2.1 97 j ∧ τ_66.2.1 97 j ≤ 1499 := fun j => hT.2 97 j
        have A98 : ∀ j, 0 ≤ τ_66.2.1 98 j ∧ τ_66.2.1 98 j ≤ 1 := fun j => hT.2 98 j
        have v3 : 0 ≤ τ_66.1 3 ∧ τ_66.1 3 ≤ 1000 := hT.1 3
        have v4 : 0 ≤ τ_66.1 4 ∧ τ_66.1 4 ≤ 100 := hT.1 4
        have v5 : 0 ≤ τ_66.1 5 ∧ τ_66.1 5 ≤ 1500 := hT.1 5
        have v10 : (-1) ≤ τ_66.1 10 ∧ τ_66.1 10 ≤ 999 := hT.1 10
        have v11 : (-1) ≤ τ_66.1 11 ∧ τ_66.1 11 ≤ 999 := hT.1 11
        have v48 : 0 ≤ τ_66.1 48 ∧ τ_66.1 48 ≤ 1500 := hT.1 48
        have v49 : 0 ≤ τ_66.1 49 ∧ τ_66.1 49 ≤ 1 := hT.1 49
        have v51 : 0 ≤ τ_66.1 51 ∧ τ_66.1 51 ≤ 60000 := hT.1 51
        have v52 : 0 ≤ τ_66.1 52 ∧ τ_66.1 52 ≤ 120000 := hT.1 52
        have Y20 : ca (τ_66.2.1 12) ((τ_66.1 3)) ≤ (τ_66.1 4) := by rw [show (ca (τ_66.2.1 12) ((τ_66.1 3)) ≤ (τ_66.1 4)) = (ca (σ.2.1 12) ((σ.1 3)) ≤ (σ.1 4)) from by rw [W3, W4, G12]]; exact Y20_0
        refine h66 n1 n2 u3_66 k1_66 k2_66 τ_66 ?_
        refine ⟨(show 0 ≤ k1_66 ∧ k1_66 < 1501 from by (first | omega | (simp only [st_s] <;> omega) | assumption | omega | fail)), ?_⟩
        refine ⟨(show 0 ≤ k2_66 ∧ k2_66 ≤ 1 from by (first | omega | (simp only [st_s] <;> omega) | assumption | omega | fail)), ?_⟩
        replace hT := mT_a (k := 98) (j := k1_66) hT (show (0 : Int) ≤ k2_66 ∧ k2_66 ≤ 1 from by (first | omega | (simp only [st_s] <;> omega) | assumption | omega | fail))
        refine ⟨(⟨by (first | omega | (simp only [st_s] <;> omega) | assumption | omega | fail), by (first | omega | (simp only [st_s] <;> omega) | assumption | omega | fail)⟩ : rg (u3_66 + 1)), ?_⟩
        exact ih_8 _ _ (show (1502 - (u3_66 + 1) : Int) < ((m_8 : Nat) : Int) from by ((first | omega | (simp only [st_s] <;> omega) | assumption | omega | fail))) hT (show τ_66.1 3 = σ.1 3 from by first | exact W3 | omega) (show τ_66.1 4 = σ.1 4 from by first | exact W4 | omega) (show τ_66.1 5 = σ.1 5 from by first | exact W5 | omega) (show τ_66.1 10 = σ.1 10 from by first | exact W10 | omega) (show τ_66.1 11 = σ.1 11 from by first | exact W11 | omega) G8 G10 G12 G13 G14 G15 G16 G17 G18 G19 G20 G95 G96 G97 (show y_CT (s_a τ_66 98 k1_66 k2_66) from by (first | exact q1_1 | exact y_CT_e ⟨rfl, rfl, rfl, rfl, rfl, rfl, rfl, rfl, rfl, rfl⟩ rfl rfl rfl rfl rfl i66_1 | fail)) (show ((τ_66.1 49) = 0 ∨ (y_TT (s_a τ_66 98 k1_66 k2_66) (s_a τ_66 98 k1_66 k2_66) (σ.1 5) (σ.1 5) ∧ y_Un (s_a τ_66 98 k1_66 k2_66) (σ.1 5) (τ_66.1 48) (τ_66.2.1 84))) from by (first | exact q1_3 | exact i66_2 | fail)) (show (τ_66.1 51) = (σ.1 51) ∧ (τ_66.1 52) = (σ.1 52) from by (first | exact q1_4 | exact i66_3 | fail)) (show y_KC σ (s_a τ_66 98 k1_66 k2_66) from by (first | exact KC3 | exact y_KC_t i66_4 (y_KC_e rfl rfl) | fail)) (show ¬ τ_66.2.1 94 n1 = -1 from by (first | (rw [q1_2.1]; omega) | exact i66_5 | fail)) (show 0 ≤ (u3_66 + 1) ∧ (u3_66 + 1) ≤ (σ.1 5) from by (first | omega | (simp only [st_s] <;> omega) | assumption | omega | fail)) (show ∀ r : Int, 0 ≤ r → r < (u3_66 + 1) → (¬ (st (τ_66.2.1 98) k1_66 k2_66) r = 0 ↔ ¬ σ.2.1 98 r = 0 ∨ (¬ r = n2 ∧ y_b7 (τ_66.2.2 7) n1 r)) from by (first | (intro r a b; exfalso; omega) | (intro r a b; rcases (by omega : r < u3_66 ∨ r = u3_66) with y | y; (rw [i66_9.1, st_n _ _ (by omega)]; exact i66_7 r a y); (rw [y, i66_9.1, st_s]; exact i66_11)) | fail)) (show ∀ r : Int, (u3_66 + 1) ≤ r → (st (τ_66.2.1 98) k1_66 k2_66) r = σ.2.1 98 r from by (first | (intro r a; rw [e983]) | (intro r a; rw [i66_9.1, st_n _ _ (by omega)]; exact i66_8 r (by omega)) | fail))
      refine h8 n1 n2 u3_8 τ_8 ?_
      refine ⟨fun c4 => ?_, fun c4 => ?_⟩
      ·
        exact ⟨hT, (show y_CT τ_8 from by exact i8_1), (show ((τ_8.1 49) = 0 ∨ (y_TT τ_8 τ_8 (σ.1 5) (σ.1 5) ∧ y_Un τ_8 (σ.1 5) (τ_8.1 48) (τ_8.2.1 84))) from by exact i8_2), (show (τ_8.1 51) = (σ.1 51) ∧ (τ_8.1 52) = (σ.1 52) from by (first | omega | (simp only [st_s] <;> omega) | assumption | omega | fail)), (show y_KC σ τ_8 from by exact i8_4), (show ¬ τ_8.2.1 94 n1 = -1 from by exact i8_5), (show ∀ r : Int, 0 ≤ r → r < (σ.1 5) → (¬ τ_8.2.1 98 r = 0 ↔ ¬ σ.2.1 98 r = 0 ∨ (¬ r = n2 ∧ y_b7 (τ_8.2.2 7) n1 r)) from by (intro r a b; exact i8_7 r a (by omega)))⟩
      ·
        refine ⟨(show 0 ≤ u3_8 ∧ u3_8 < 1501 from by (first | omega | (simp only [st_s] <;> omega) | assumption | omega | fail)), ?_⟩
        intro x6 r_x6 e_x6
        have b_x6 : 0 ≤ x6 ∧ x6 ≤ 1 := by rw [e_x6]; exact hT.2 98 _
        have f6 : x6 = σ.2.1 98 u3_8 := (by rw [e_x6]; exact i8_8 u3_8 (Int.le_refl _))
        refine ⟨fun c7 => ?_, fun c7 => ?_⟩
        ·
          exact l_66 _ _ _ _ hT (show τ_8.1 3 = σ.1 3 from by first | exact W3 | omega) (show τ_8.1 4 = σ.1 4 from by first | exact W4 | omega) (show τ_8.1 5 = σ.1 5 from by first | exact W5 | omega) (show τ_8.1 10 = σ.1 10 from by first | exact W10 | omega) (show τ_8.1 11 = σ.1 11 from by first | exact W11 | omega) G8 G10 G12 G13 G14 G15 G16 G17 G18 G19 G20 G95 G96 G97 (show y_CT τ_8 from by exact i8_1) (show ((τ_8.1 49) = 0 ∨ (y_TT τ_8 τ_8 (σ.1 5) (σ.1 5) ∧ y_Un τ_8 (σ.1 5) (τ_8.1 48) (τ_8.2.1 84))) from by exact i8_2) (show (τ_8.1 51) = (σ.1 51) ∧ (τ_8.1 52) = (σ.1 52) from by (first | omega | (simp only [st_s] <;> omega) | assumption | omega | fail)) (show y_KC σ τ_8 from by exact i8_4) (show ¬ τ_8.2.1 94 n1 = -1 from by exact i8_5) (show 0 ≤ u3_8 ∧ u3_8 ≤ (σ.1 5) from by (first | omega | (simp only [st_s] <;> omega) | assumption | omega | fail)) (show ∀ r : Int, 0 ≤ r → r < u3_8 → (¬ τ_8.2.1 98 r = 0 ↔ ¬ σ.2.1 98 r = 0 ∨ (¬ r = n2 ∧ y_b7 (τ_8.2.2 7) n1 r)) from by exact i8_7) (show ∀ r : Int, u3_8 ≤ r → τ_8.2.1 98 r = σ.2.1 98 r from by exact i8_8) (show u3_8 = u3_8 ∧ u3_8 < (σ.1 5) from by (first | omega | (simp only [st_s] <;> omega) | assumption | omega | fail)) (show 1 = 0 ∨ 1 = 1 from by (first | exact Or.inl rfl | exact Or.inr rfl | fail)) (show ¬ 1 = 0 ↔ ¬ σ.2.1 98 u3_8 = 0 ∨ (¬ u3_8 = n2 ∧ y_b7 (τ_8.2.2 7) n1 u3_8) from by (first | exact ⟨fun _ => Or.inl (by rw [← f6]; assumption), fun _ => by omega⟩ | exact ⟨fun z => absurd rfl z, fun z => by (exfalso; have q9 := z; rcases q9 with z | z; (rw [← f6] at z; omega); (exact z.1 (by assumption)))⟩ | exact ⟨fun z => absurd rfl z, fun z => by (exfalso; have q9 := z; rcases q9 with z | z; (rw [← f6] at z; omega); (exact c13 (hb.mpr z.2)))⟩ | exact ⟨fun _ => Or.inr ⟨by assumption, hb.mp c13⟩, fun _ => by omega⟩ | fail)) (show 1502 - u3_8 < (m_8 : Int) + 1 from by (first | omega | (simp only [st_s] <;> omega) | assumption | omega | fail))
        ·
          refine ⟨fun c8 => ?_, fun c8 => ?_⟩
          ·
            exact l_66 _ _ _ _ hT (show τ_8.1 3 = σ.1 3 from by first | exact W3 | omega) (show τ_8.1 4 = σ.1 4 from by first | exact W4 | omega) (show τ_8.1 5 = σ.1 5 from by first | exact W5 | omega) (show τ_8.1 10 = σ.1 10 from by first | exact W10 | omega) (show τ_8.1 11 = σ.1 11 from by first | exact W11 | omega) G8 G10 G12 G13 G14 G15 G16 G17 G18 G19 G20 G95 G96 G97 (show y_CT τ_8 from by exact i8_1) (show ((τ_8.1 49) = 0 ∨ (y_TT τ_8 τ_8 (σ.1 5) (σ.1 5) ∧ y_Un τ_8 (σ.1 5) (τ_8.1 48) (τ_8.2.1 84))) from by exact i8_2) (show (τ_8.1 51) = (σ.1 51) ∧ (τ_8.1 52) = (σ.1 52) from by (first | omega | (simp only [st_s] <;> omega) | assumption | omega | fail)) (show y_KC σ τ_8 from by exact i8_4) (show ¬ τ_8.2.1 94 n1 = -1 from by exact i8_5) (show 0 ≤ u3_8 ∧ u3_8 ≤ (σ.1 5) from by (first | omega | (simp only [st_s] <;> omega) | assumption | omega | fail)) (show ∀ r : Int, 0 ≤ r → r < u3_8 → (¬ τ_8.2.1 98 r = 0 ↔ ¬ σ.2.1 98 r = 0 ∨ (¬ r = n2 ∧ y_b7 (τ_8.2.2 7) n1 r)) from by exact i8_7) (show ∀ r : Int, u3_8 ≤ r → τ_8.2.1 98 r = σ.2.1 98 r from by exact i8_8) (show u3_8 = u3_8 ∧ u3_8 < (σ.1 5) from by (first | omega | (simp only [st_s] <;> omega) | assumption | omega | fail)) (show 0 = 0 ∨ 0 = 1 from by (first | exact Or.inl rfl | exact Or.inr rfl | fail)) (show ¬ 0 = 0 ↔ ¬ σ.2.1 98 u3_8 = 0 ∨ (¬ u3_8 = n2 ∧ y_b7 (τ_8.2.2 7) n1 u3_8) from by (first | exact ⟨fun _ => Or.inl (by rw [← f6]; assumption), fun _ => by omega⟩ | exact ⟨fun z => absurd rfl z, fun z => by (exfalso; have q9 := z; rcases q9 with z | z; (rw [← f6] at z; omega); (exact z.1 (by assumption)))⟩ | exact ⟨fun z => absurd rfl z, fun z => by (exfalso; have q9 := z; rcases q9 with z | z; (rw [← f6] at z; omega); (exact c13 (hb.mpr z.2)))⟩ | exact ⟨fun _ => Or.inr ⟨by assumption, hb.mp c13⟩, fun _ => by omega⟩ | fail)) (show 1502 - u3_8 < (m_8 : Int) + 1 from by (first | omega | (simp only [st_s] <;> omega) | assumption | omega | fail))
          ·
            intro x9 r_x9 h1_x9 h2_x9
            have hx9 : x9 = u3_8 / 64 := by omega
            refine ⟨(show 0 ≤ ((24 * n1) + x9) ∧ ((24 * n1) + x9) < 36024 from by (first | omega | (simp only [st_s] <;> omega) | assumption | omega | fail)), ?_⟩
            intro x11 e_x11
            intro x12 r_x12 h1_x12 h2_x12
            have hx12 : x12 = u3_8 % 64 := by omega
            have hb : (j_shr x11 x12 &&& 1) = 1 ↔ y_b7 (τ_8.2.2 7) n1 u3_8 := by (rw [e_x11, hx9, hx12]; exact y_sr1 (by omega) (by omega))
            refine ⟨fun c13 => ?_, fun c13 => ?_⟩
            ·
              exact l_66 _ _ _ _ hT (show τ_8.1 3 = σ.1 3 from by first | exact W3 | omega) (show τ_8.1 4 = σ.1 4 from by first | exact W4 | omega) (show τ_8.1 5 = σ.1 5 from by first | exact W5 | omega) (show τ_8.1 10 = σ.1 10 from by first | exact W10 | omega) (show τ_8.1 11 = σ.1 11 from by first | exact W11 | omega) G8 G10 G12 G13 G14 G15 G16 G17 G18 G19 G20 G95 G96 G97 (show y_CT τ_8 from by exact i8_1) (show ((τ_8.1 49) = 0 ∨ (y_TT τ_8 τ_8 (σ.1 5) (σ.1 5) ∧ y_Un τ_8 (σ.1 5) (τ_8.1 48) (τ_8.2.1 84))) from by exact i8_2) (show (τ_8.1 51) = (σ.1 51) ∧ (τ_8.1 52) = (σ.1 52) from by (first | omega | (simp only [st_s] <;> omega) | assumption | omega | fail)) (show y_KC σ τ_8 from by exact i8_4) (show ¬ τ_8.2.1 94 n1 = -1 from by exact i8_5) (show 0 ≤ u3_8 ∧ u3_8 ≤ (σ.1 5) from by (first | omega | (simp only [st_s] <;> omega) | assumption | omega | fail)) (show ∀ r : Int, 0 ≤ r → r < u3_8 → (¬ τ_8.2.1 98 r = 0 ↔ ¬ σ.2.1 98 r = 0 ∨ (¬ r = n2 ∧ y_b7 (τ_8.2.2 7) n1 r)) from by exact i8_7) (show ∀ r : Int, u3_8 ≤ r → τ_8.2.1 98 r = σ.2.1 98 r from by exact i8_8) (show u3_8 = u3_8 ∧ u3_8 < (σ.1 5) from by (first | omega | (simp only [st_s] <;> omega) | assumption | omega | fail)) (show 0 = 0 ∨ 0 = 1 from by (first | exact Or.inl rfl | exact Or.inr rfl | fail)) (show ¬ 0 = 0 ↔ ¬ σ.2.1 98 u3_8 = 0 ∨ (¬ u3_8 = n2 ∧ y_b7 (τ_8.2.2 7) n1 u3_8) from by (first | exact ⟨fun _ => Or.inl (by rw [← f6]; assumption), fun _ => by omega⟩ | exact ⟨fun z => absurd rfl z, fun z => by (exfalso; have q9 := z; rcases q9 with z | z; (rw [← f6] at z; omega); (exact z.1 (by assumption)))⟩ | exact ⟨fun z => absurd rfl z, fun z => by (exfalso; have q9 := z; rcases q9 with z | z; (rw [← f6] at z; omega); (exact c13 (hb.mpr z.2)))⟩ | exact ⟨fun _ => Or.inr ⟨by assumption, hb.mp c13⟩, fun _ => by omega⟩ | fail)) (show 1502 - u3_8 < (m_8 : Int) + 1 from by (first | omega | (simp only [st_s] <;> omega) | assumption | omega | fail))
            ·
              exact l_66 _ _ _ _ hT (show τ_8.1 3 = σ.1 3 from by first | exact W3 | omega) (show τ_8.1 4 = σ.1 4 from by first | exact W4 | omega) (show τ_8.1 5 = σ.1 5 from by first | exact W5 | omega) (show τ_8.1 10 = σ.1 10 from by first | exact W10 | omega) (show τ_8.1 11 = σ.1 11 from by first | exact W11 | omega) G8 G10 G12 G13 G14 G15 G16 G17 G18 G19 G20 G95 G96 G97 (show y_CT τ_8 from by exact i8_1) (show ((τ_8.1 49) = 0 ∨ (y_TT τ_8 τ_8 (σ.1 5) (σ.1 5) ∧ y_Un τ_8 (σ.1 5) (τ_8.1 48) (τ_8.2.1 84))) from by exact i8_2) (show (τ_8.1 51) = (σ.1 51) ∧ (τ_8.1 52) = (σ.1 52) from by (first | omega | (simp only [st_s] <;> omega) | assumption | omega | fail)) (show y_KC σ τ_8 from by exact i8_4) (show ¬ τ_8.2.1 94 n1 = -1 from by exact i8_5) (show 0 ≤ u3_8 ∧ u3_8 ≤ (σ.1 5) from by (first | omega | (simp only [st_s] <;> omega) | assumption | omega | fail)) (show ∀ r : Int, 0 ≤ r → r < u3_8 → (¬ τ_8.2.1 98 r = 0 ↔ ¬ σ.2.1 98 r = 0 ∨ (¬ r = n2 ∧ y_b7 (τ_8.2.2 7) n1 r)) from by exact i8_7) (show ∀ r : Int, u3_8 ≤ r → τ_8.2.1 98 r = σ.2.1 98 r from by exact i8_8) (show u3_8 = u3_8 ∧ u3_8 < (σ.1 5) from by (first | omega | (simp only [st_s] <;> omega) | assumption | omega | fail)) (show 1 = 0 ∨ 1 = 1 from by (first | exact Or.inl rfl | exact Or.inr rfl | fail)) (show ¬ 1 = 0 ↔ ¬ σ.2.1 98 u3_8 = 0 ∨ (¬ u3_8 = n2 ∧ y_b7 (τ_8.2.2 7) n1 u3_8) from by (first | exact ⟨fun _ => Or.inl (by rw [← f6]; assumption), fun _ => by omega⟩ | exact ⟨fun z => absurd rfl z, fun z => by (exfalso; have q9 := z; rcases q9 with z | z; (rw [← f6] at z; omega); (exact z.1 (by assumption)))⟩ | exact ⟨fun z => absurd rfl z, fun z => by (exfalso; have q9 := z; rcases q9 with z | z; (rw [← f6] at z; omega); (exact c13 (hb.mpr z.2)))⟩ | exact ⟨fun _ => Or.inr ⟨by assumption, hb.mp c13⟩, fun _ => by omega⟩ | fail)) (show 1502 - u3_8 < (m_8 : Int) + 1 from by (first | omega | (simp only [st_s] <;> omega) | assumption | omega | fail))
  refine ⟨_, K_X13_countTrees hT (show 0 ≤ n1 from by (first | omega | (simp only [st_s] <;> omega) | assumption | omega | fail)) (show n1 < (σ.1 5) from by (first | omega | (simp only [st_s] <;> omega) | assumption | omega | fail)) (show σ.2.1 15 n1 ≤ 60 from by (first | omega | (simp only [st_s] <;> omega) | assumption | omega | fail)) (show ca (σ.2.1 12) ((σ.1 3)) ≤ (σ.1 4) from Y20) (show n_J σ from by (first | omega | (simp only [st_s] <;> omega) | assumption | omega | fail)) (show m_J σ from by (first | omega | (simp only [st_s] <;> omega) | assumption | omega | fail)) (show (σ.1 10) < (σ.1 3) from by (first | omega | (simp only [st_s] <;> omega) | assumption | omega | fail)) (show (σ.1 49) = 0 ∨ (y_TT σ σ (σ.1 5) (σ.1 5) ∧ y_Un σ (σ.1 5) (σ.1 48) (σ.2.1 84)) from by (first | omega | (simp only [st_s] <;> omega) | assumption | omega | fail)) (show (σ.1 51) ≤ 47000 from by (first | omega | (simp only [st_s] <;> omega) | assumption | omega | fail)) (show (σ.1 52) ≤ 88000 from by (first | omega | (simp only [st_s] <;> omega) | assumption | omega | fail)) (show y_CT σ from by (first | omega | (simp only [st_s] <;> omega) | assumption | omega | fail)), ?_⟩
  intro x2 τ3 r_x2 hn_τ3 hf_τ3 hq
  obtain ⟨hT, q1_1, q1_2, q1_3, q1_4, q1_5, q1_6, q1_7, q1_8, q1_9⟩ := hq
  replace q1_1 : y_CT τ3 := q1_1
  replace q1_2 : τ3.2.1 94 n1 = x2 ∧ 0 ≤ x2 ∧ x2 ≤ 2 := q1_2
  replace q1_3 : ((τ3.1 49) = 0 ∨ (y_TT τ3 τ3 (σ.1 5) (σ.1 5) ∧ y_Un τ3 (σ.1 5) (τ3.1 48) (τ3.2.1 84))) := q1_3
  replace q1_4 : (τ3.1 51) = (σ.1 51) ∧ (τ3.1 52) = (σ.1 52) := q1_4
  replace q1_5 : ∀ y : Int, y < (σ.1 51) → (τ3.2.1 86 y = σ.2.1 86 y ∧ τ3.2.1 87 y = σ.2.1 87 y) ∧ τ3.2.1 88 y = σ.2.1 88 y ∧ τ3.2.1 89 y = σ.2.1 89 y ∧ τ3.2.1 90 y = σ.2.1 90 y := q1_5
  replace q1_6 : ∀ e : Int, e < (σ.1 52) → τ3.2.1 91 e = σ.2.1 91 e := q1_6
  replace q1_7 : ∀ k : Int, ¬ (24 * n1 ≤ k ∧ k < 24 * n1 + 24) → τ3.2.2 7 k = σ.2.2 7 k := q1_7
  replace q1_8 : ∀ i : Int, ¬ i = n1 → τ3.2.1 94 i = σ.2.1 94 i := q1_8
  replace q1_9 : ¬ σ.2.1 94 n1 = -1 → τ3 = σ := q1_9
  have w3_τ3 : τ3.1 3 = σ.1 3 := hf_τ3.1 3 (by decide)
  have w4_τ3 : τ3.1 4 = σ.1 4 := hf_τ3.1 4 (by decide)
  have w5_τ3 : τ3.1 5 = σ.1 5 := hf_τ3.1 5 (by decide)
  have w10_τ3 : τ3.1 10 = σ.1 10 := hf_τ3.1 10 (by decide)
  have w11_τ3 : τ3.1 11 = σ.1 11 := hf_τ3.1 11 (by decide)
  have g8_τ3 : τ3.2.1 8 = σ.2.1 8 := hf_τ3.2.1 8 (by decide)
  have g10_τ3 : τ3.2.1 10 = σ.2.1 10 := hf_τ3.2.1 10 (by decide)
  have g12_τ3 : τ3.2.1 12 = σ.2.1 12 := hf_τ3.2.1 12 (by decide)
  have g13_τ3 : τ3.2.1 13 = σ.2.1 13 := hf_τ3.2.1 13 (by decide)
  have g14_τ3 : τ3.2.1 14 = σ.2.1 14 := hf_τ3.2.1 14 (by decide)
  have g15_τ3 : τ3.2.1 15 = σ.2.1 15 := hf_τ3.2.1 15 (by decide)
  have g16_τ3 : τ3.2.1 16 = σ.2.1 16 := hf_τ3.2.1 16 (by decide)
  have g17_τ3 : τ3.2.1 17 = σ.2.1 17 := hf_τ3.2.1 17 (by decide)
  have g18_τ3 : τ3.2.1 18 = σ.2.1 18 := hf_τ3.2.1 18 (by decide)
  have g19_τ3 : τ3.2.1 19 = σ.2.1 19 := hf_τ3.2.1 19 (by decide)
  have g20_τ3 : τ3.2.1 20 = σ.2.1 20 := hf_τ3.2.1 20 (by decide)
  have g95_τ3 : τ3.2.1 95 = σ.2.1 95 := hf_τ3.2.1 95 (by decide)
  have g96_τ3 : τ3.2.1 96 = σ.2.1 96 := hf_τ3.2.1 96 (by decide)
  have g97_τ3 : τ3.2.1 97 = σ.2.1 97 := hf_τ3.2.1 97 (by decide)
  have g98_τ3 : τ3.2.1 98 = σ.2.1 98 := hf_τ3.2.1 98 (by decide)
  have W3 : τ3.1 3 = σ.1 3 := by first | exact w3_τ3.trans W3 | omega
  have W4 : τ3.1 4 = σ.1 4 := by first | exact w4_τ3.trans W4 | omega
  have W5 : τ3.1 5 = σ.1 5 := by first | exact w5_τ3.trans W5 | omega
  have W10 : τ3.1 10 = σ.1 10 := by first | exact w10_τ3.trans W10 | omega
  have W11 : τ3.1 11 = σ.1 11 := by first | exact w11_τ3.trans W11 | omega
  have G8 : τ3.2.1 8 = σ.2.1 8 := (g8_τ3).trans G8
  have G10 : τ3.2.1 10 = σ.2.1 10 := (g10_τ3).trans G10
  have G12 : τ3.2.1 12 = σ.2.1 12 := (g12_τ3).trans G12
  have G13 : τ3.2.1 13 = σ.2.1 13 := (g13_τ3).trans G13
  have G14 : τ3.2.1 14 = σ.2.1 14 := (g14_τ3).trans G14
  have G15 : τ3.2.1 15 = σ.2.1 15 := (g15_τ3).trans G15
  have G16 : τ3.2.1 16 = σ.2.1 16 := (g16_τ3).trans G16
  have G17 : τ3.2.1 17 = σ.2.1 17 := (g17_τ3).trans G17
  have G18 : τ3.2.1 18 = σ.2.1 18 := (g18_τ3).trans G18
  have G19 : τ3.2.1 19 = σ.2.1 19 := (g19_τ3).trans G19
  have G20 : τ3.2.1 20 = σ.2.1 20 := (g20_τ3).trans G20
  have G95 : τ3.2.1 95 = σ.2.1 95 := (g95_τ3).trans G95
  have G96 : τ3.2.1 96 = σ.2.1 96 := (g96_τ3).trans G96
  have G97 : τ3.2.1 97 = σ.2.1 97 := (g97_τ3).trans G97
  have Y20 : ca (τ3.2.1 12) ((τ3.1 3)) ≤ (τ3.1 4) := by rw [show (ca (τ3.2.1 12) ((τ3.1 3)) ≤ (τ3.1 4)) = (ca (σ.2.1 12) ((σ.1 3)) ≤ (σ.1 4)) from by rw [w3_τ3, w4_τ3, g12_τ3]]; exact Y20
  have A8 : ∀ j, 0 ≤ τ3.2.1 8 j ∧ τ3.2.1 8 j ≤ 1 := fun j => hT.2 8 j
  have A10 : ∀ j, (-1) ≤ τ3.2.1 10 j ∧ τ3.2.1 10 j ≤ 999 := fun j => hT.2 10 j
  have A12 : ∀ j, 0 ≤ τ3.2.1 12 j ∧ τ3.2.1 12 j ≤ 1 := fun j => hT.2 12 j
  have A13 : ∀ j, 0 ≤ τ3.2.1 13 j ∧ τ3.2.1 13 j ≤ 4 := fun j => hT.2 13 j
  have A14 : ∀ j, 0 ≤ τ3.2.1 14 j ∧ τ3.2.1 14 j ≤ 30000 := fun j => hT.2 14 j
  have A15 : ∀ j, 0 ≤ τ3.2.1 15 j ∧ τ3.2.1 15 j ≤ 300 := fun j => hT.2 15 j
  have A16 : ∀ j, 0 ≤ τ3.2.1 16 j ∧ τ3.2.1 16 j ≤ 999 := fun j => hT.2 16 j
  have A17 : ∀ j, (-1) ≤ τ3.2.1 17 j ∧ τ3.2.1 17 j ≤ 1499 := fun j => hT.2 17 j
  have A18 : ∀ j, 0 ≤ τ3.2.1 18 j ∧ τ3.2.1 18 j ≤ 90000 := fun j => hT.2 18 j
  have A19 : ∀ j, 0 ≤ τ3.2.1 19 j ∧ τ3.2.1 19 j ≤ 60 := fun j => hT.2 19 j
  have A20 : ∀ j, 0 ≤ τ3.2.1 20 j ∧ τ3.2.1 20 j ≤ 1499 := fun j => hT.2 20 j
  have A94 : ∀ j, (-1) ≤ τ3.2.1 94 j ∧ τ3.2.1 94 j ≤ 2 := fun j => hT.2 94 j
  have A95 : ∀ j, (-9) ≤ τ3.2.1 95 j ∧ τ3.2.1 95 j ≤ 1499 := fun j => hT.2 95 j
  have A96 : ∀ j, 0 ≤ τ3.2.1 96 j ∧ τ3.2.1 96 j ≤ 1 := fun j => hT.2 96 j
  have A97 : ∀ j, (-1) ≤ τ3.2.1 97 j ∧ τ3.2.1 97 j ≤ 1499 := fun j => hT.2 97 j
  have A98 : ∀ j, 0 ≤ τ3.2.1 98 j ∧ τ3.2.1 98 j ≤ 1 := fun j => hT.2 98 j
  have v3 : 0 ≤ τ3.1 3 ∧ τ3.1 3 ≤ 1000 := hT.1 3
  have v4 : 0 ≤ τ3.1 4 ∧ τ3.1 4 ≤ 100 := hT.1 4
  have v5 : 0 ≤ τ3.1 5 ∧ τ3.1 5 ≤ 1500 := hT.1 5
  have v10 : (-1) ≤ τ3.1 10 ∧ τ3.1 10 ≤ 999 := hT.1 10
  have v11 : (-1) ≤ τ3.1 11 ∧ τ3.1 11 ≤ 999 := hT.1 11
  have v48 : 0 ≤ τ3.1 48 ∧ τ3.1 48 ≤ 1500 := hT.1 48
  have v49 : 0 ≤ τ3.1 49 ∧ τ3.1 49 ≤ 1 := hT.1 49
  have v51 : 0 ≤ τ3.1 51 ∧ τ3.1 51 ≤ 60000 := hT.1 51
  have v52 : 0 ≤ τ3.1 52 ∧ τ3.1 52 ≤ 120000 := hT.1 52
  have KC3 := y_KC_c q1_7 q1_8 q1_9
  have e983 : τ3.2.1 98 = σ.2.1 98 := hf_τ3.2.1 98 (by decide)
  exact l_8 ((1502 - 0 : Int).toNat + 1) _ _ (show (1502 - 0 : Int) < (((1502 - 0 : Int).toNat + 1 : Nat) : Int) from by ((first | omega | (simp only [st_s] <;> omega) | assumption | omega | fail))) hT (show τ3.1 3 = σ.1 3 from by first | exact W3 | omega) (show τ3.1 4 = σ.1 4 from by first | exact W4 | omega) (show τ3.1 5 = σ.1 5 from by first | exact W5 | omega) (show τ3.1 10 = σ.1 10 from by first | exact W10 | omega) (show τ3.1 11 = σ.1 11 from by first | exact W11 | omega) G8 G10 G12 G13 G14 G15 G16 G17 G18 G19 G20 G95 G96 G97 (show y_CT τ3 from by (first | exact q1_1 | exact y_CT_e ⟨rfl, rfl, rfl, rfl, rfl, rfl, rfl, rfl, rfl, rfl⟩ rfl rfl rfl rfl rfl i66_1 | fail)) (show ((τ3.1 49) = 0 ∨ (y_TT τ3 τ3 (σ.1 5) (σ.1 5) ∧ y_Un τ3 (σ.1 5) (τ3.1 48) (τ3.2.1 84))) from by (first | exact q1_3 | exact i66_2 | fail)) (show (τ3.1 51) = (σ.1 51) ∧ (τ3.1 52) = (σ.1 52) from by (first | exact q1_4 | exact i66_3 | fail)) (show y_KC σ τ3 from by (first | exact KC3 | exact y_KC_t i66_4 (y_KC_e rfl rfl) | fail)) (show ¬ τ3.2.1 94 n1 = -1 from by (first | (rw [q1_2.1]; omega) | exact i66_5 | fail)) (show 0 ≤ 0 ∧ 0 ≤ (σ.1 5) from by (first | omega | (simp only [st_s] <;> omega) | assumption | omega | fail)) (show ∀ r : Int, 0 ≤ r → r < 0 → (¬ τ3.2.1 98 r = 0 ↔ ¬ σ.2.1 98 r = 0 ∨ (¬ r = n2 ∧ y_b7 (τ3.2.2 7) n1 r)) from by (first | (intro r a b; exfalso; omega) | (intro r a b; rcases (by omega : r < u3_66 ∨ r = u3_66) with y | y; (rw [i66_9.1, st_n _ _ (by omega)]; exact i66_7 r a y); (rw [y, i66_9.1, st_s]; exact i66_11)) | fail)) (show ∀ r : Int, 0 ≤ r → τ3.2.1 98 r = σ.2.1 98 r from by (first | (intro r a; rw [e983]) | (intro r a; rw [i66_9.1, st_n _ _ (by omega)]; exact i66_8 r (by omega)) | fail))
