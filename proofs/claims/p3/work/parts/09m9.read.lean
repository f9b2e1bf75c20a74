-- pure: the model reads labelled statements, forgets a text
theorem m_J_f {σ τ : S0} {wv wa wb : List Nat} (h : m_J σ) (hf : f_r wv wa wb σ τ) (d1 : [5, 6, 7, 8, 9].all (fun i => !wv.contains i) = true) (d2 : [14, 15, 18, 19, 21, 22, 25, 26, 28].all (fun i => !wa.contains i) = true) : m_J τ := by
  have e : ∀ i, i ∈ [5, 6, 7, 8, 9] → τ.1 i = σ.1 i := fun i hi => hf.1 i (by have := List.all_eq_true.mp d1 i hi; simpa using this)
  have a : ∀ k, k ∈ [14, 15, 18, 19, 21, 22, 25, 26, 28] → τ.2.1 k = σ.2.1 k := fun k hk => hf.2.1 k (by have := List.all_eq_true.mp d2 k hk; simpa using this)
  show J_m (τ.1 5) (τ.1 6) (τ.1 7) (τ.1 8) (τ.1 9) (τ.2.1 14) (τ.2.1 15) (τ.2.1 18) (τ.2.1 19) (τ.2.1 21) (τ.2.1 22) (τ.2.1 25) (τ.2.1 26) (τ.2.1 28)
  rw [e 5 (by decide), e 6 (by decide), e 7 (by decide), e 8 (by decide), e 9 (by decide), a 14 (by decide), a 15 (by decide), a 18 (by decide), a 19 (by decide), a 21 (by decide), a 22 (by decide), a 25 (by decide), a 26 (by decide), a 28 (by decide)]
  exact h
def j_e0 (n : Int) (f g : Int → Int) : Prop := ∀ j : Int, 0 ≤ j → j < n → g j = f j
theorem j_e0p {n : Int} {f g : Int → Int} (a : j_e0 n f g) : j_e0 (n + 1) f (st g n (f n)) := fun j h0 hj => by
  by_cases z : j = n
  · rw [z, st_s]
  · rw [st_n _ _ z]; exact a j h0 (by omega)
theorem j_e0w {n m : Int} {f g : Int → Int} (a : j_e0 m f g) (h : n ≤ m) : j_e0 n f g := fun j h0 hj => a j h0 (by omega)
theorem ca_e0 {f g : Int → Int} {n m : Int} (a : j_e0 m f g) (h : n ≤ m) : ca g n = ca f n := ca_x (fun e h0 h2 => a e h0 (by omega))
set_option maxHeartbeats 1000000 in
theorem K2_X13_clearTables {σ : S0} (hT : m_T σ) : W_X13_clearTables σ (fun (τ : S0) => (m_T τ) ∧ (∀ e : Int, 0 ≤ e → e < 4096 → τ.2.1 6 e = -1) ∧ (∀ e : Int, 0 ≤ e → e < 4096 → τ.2.1 7 e = -1)) := by
  intro P2 h2
  have l_2 : ∀ (m_2 : Nat) (u1_2 : Int) (τ_2 : S0), 4097 - u1_2 < (m_2 : Int) → (m_T τ_2) → (0 ≤ u1_2) → (u1_2 ≤ 4096) → (∀ e : Int, 0 ≤ e → e < u1_2 → τ_2.2.1 6 e = -1) → (∀ e : Int, 0 ≤ e → e < u1_2 → τ_2.2.1 7 e = -1) → P2 u1_2 τ_2 := by
    intro m_2
    induction m_2 with
    | zero =>
      intro u1_2 τ_2 hm hT i2_1 i2_2 i2_3 i2_4
      exfalso; (first | omega | (simp only [st_s] <;> omega) | assumption | omega)
    | succ m_2 ih_2 =>
      intro u1_2 τ_2 hm_2 hT i2_1 i2_2 i2_3 i2_4
      refine h2 u1_2 τ_2 ?_
      refine ⟨fun c1 => ?_, fun c1 => ?_⟩
      ·
        exact ⟨hT, (show ∀ e : Int, 0 ≤ e → e < 4096 → τ_2.2.1 6 e = -1 from by exact fun e h0 h1 => i2_3 e h0 (by omega)), (show ∀ e : Int, 0 ≤ e → e < 4096 → τ_2.2.1 7 e = -1 from by exact fun e h0 h1 => i2_4 e h0 (by omega))⟩
      ·
        refine ⟨(show 0 ≤ u1_2 ∧ u1_2 < 4096 from by (first | omega | (simp only [st_s] <;> omega) | assumption | omega)), ?_⟩
        replace hT := mT_a (k := 6) (j := u1_2) hT (show (-1 : Int) ≤ (-1) ∧ (-1) ≤ 999 from by (first | omega | (simp only [st_s] <;> omega) | assumption | omega))
        replace hT := mT_a (k := 7) (j := u1_2) hT (show (-1 : Int) ≤ (-1) ∧ (-1) ≤ 1499 from by (first | omega | (simp only [st_s] <;> omega) | assumption | omega))
        refine ⟨(⟨by (first | omega | (simp only [st_s] <;> omega) | assumption | omega), by (first | omega | (simp only [st_s] <;> omega) | assumption | omega)⟩ : rg (u1_2 + 1)), ?_⟩
        exact ih_2 _ _ (show (4097 - (u1_2 + 1) : Int) < ((m_2 : Nat) : Int) from by ((first | omega | (simp only [st_s] <;> omega) | assumption | omega))) hT (show 0 ≤ (u1_2 + 1) from by (first | omega | (simp only [st_s] <;> omega) | assumption | omega)) (show (u1_2 + 1) ≤ 4096 from by (first | omega | (simp only [st_s] <;> omega) | assumption | omega)) (show ∀ e : Int, 0 ≤ e → e < (u1_2 + 1) → (st (τ_2.2.1 6) u1_2 (-1)) e = -1 from by (intro e h0 h1; first | (exfalso; omega) | (by_cases z : e = u1_2; (rw [z, st_s]); exact (st_n _ _ z).trans (i2_3 e h0 (by omega))))) (show ∀ e : Int, 0 ≤ e → e < (u1_2 + 1) → (st (τ_2.2.1 7) u1_2 (-1)) e = -1 from by (intro e h0 h1; first | (exfalso; omega) | (by_cases z : e = u1_2; (rw [z, st_s]); exact (st_n _ _ z).trans (i2_4 e h0 (by omega)))))
  exact l_2 ((4097 - 0 : Int).toNat + 1) _ _ (show (4097 - 0 : Int) < (((4097 - 0 : Int).toNat + 1 : Nat) : Int) from by ((first | omega | (simp only [st_s] <;> omega) | assumption | omega))) hT (show 0 ≤ 0 from by (first | omega | (simp only [st_s] <;> omega) | assumption | omega)) (show 0 ≤ 4096 from by (first | omega | (simp only [st_s] <;> omega) | assumption | omega)) (show ∀ e : Int, 0 ≤ e → e < 0 → σ.2.1 6 e = -1 from by (intro e h0 h1; first | (exfalso; omega) | (by_cases z : e = u1_2; (rw [z, st_s]); exact (st_n _ _ z).trans (i2_3 e h0 (by omega))))) (show ∀ e : Int, 0 ≤ e → e < 0 → σ.2.1 7 e = -1 from by (intro e h0 h1; first | (exfalso; omega) | (by_cases z : e = u1_2; (rw [z, st_s]); exact (st_n _ _ z).trans (i2_4 e h0 (by omega)))))
set_option maxHeartbeats 1000000 in
theorem K_X13_readLabelled {σ : S0} (hT : m_T σ) (p1 : (σ.1 16) ≤ (σ.1 0)) (p2 : (σ.1 17) + (σ.1 18) ≤ (σ.1 0)) (p3 : oc (σ.2.1 6) < 4096) (p4 : oc (σ.2.1 7) < 4096) (p5 : oc (σ.2.1 6) ≤ (σ.1 3)) (p6 : oc (σ.2.1 7) ≤ (σ.1 5)) (p7 : ca (σ.2.1 12) ((σ.1 3)) ≤ (σ.1 4)) (p8 : J_pa (σ.2.1 21) (σ.2.1 22)) (p9 : (σ.1 7) ≤ 60 * (σ.1 5)) (p10 : (σ.1 13) ≤ (σ.1 5)) : W_X13_readLabelled σ (fun (τ : S0) => (m_T τ) ∧ ((τ.1 16) ≤ (τ.1 0)) ∧ ((τ.1 17) + (τ.1 18) ≤ (τ.1 0)) ∧ (¬ (σ.1 20) = 0 → (τ.1 20) = (σ.1 20)) ∧ (ca (τ.2.1 12) ((τ.1 3)) ≤ (τ.1 4)) ∧ (J_pa (τ.2.1 21) (τ.2.1 22)) ∧ ((τ.1 13) ≤ (τ.1 5)) ∧ (oc (τ.2.1 7) ≤ (σ.1 5) + 1) ∧ ((τ.1 5) ≤ (σ.1 5) + 1) ∧ ((τ.1 20) = 0 → (τ.1 7) ≤ 60 * (τ.1 5)) ∧ ((τ.1 20) = 0 → (τ.1 5) = (σ.1 5) + 1) ∧ (j_eq ((σ.1 9)) (σ.2.1 28) (τ.2.1 28)) ∧ ((τ.1 20) = 0 → m_J σ → m_J τ) ∧ ((σ.1 16) ≤ (τ.1 16)) ∧ (m_ag σ τ)) := by
  have A6 : ∀ j, (-1) ≤ σ.2.1 6 j ∧ σ.2.1 6 j ≤ 999 := fun j => hT.2 6 j
  have A7 : ∀ j, (-1) ≤ σ.2.1 7 j ∧ σ.2.1 7 j ≤ 1499 := fun j => hT.2 7 j
  have A12 : ∀ j, 0 ≤ σ.2.1 12 j ∧ σ.2.1 12 j ≤ 1 := fun j => hT.2 12 j
  have A14 : ∀ j, 0 ≤ σ.2.1 14 j ∧ σ.2.1 14 j ≤ 30000 := fun j => hT.2 14 j
  have A15 : ∀ j, 0 ≤ σ.2.1 15 j ∧ σ.2.1 15 j ≤ 300 := fun j => hT.2 15 j
  have A18 : ∀ j, 0 ≤ σ.2.1 18 j ∧ σ.2.1 18 j ≤ 90000 := fun j => hT.2 18 j
  have A19 : ∀ j, 0 ≤ σ.2.1 19 j ∧ σ.2.1 19 j ≤ 60 := fun j => hT.2 19 j
  have A21 : ∀ j, 0 ≤ σ.2.1 21 j ∧ σ.2.1 21 j ≤ 20000 := fun j => hT.2 21 j
  have A22 : ∀ j, 0 ≤ σ.2.1 22 j ∧ σ.2.1 22 j ≤ 20000 := fun j => hT.2 22 j
  have A25 : ∀ j, 0 ≤ σ.2.1 25 j ∧ σ.2.1 25 j ≤ 20000 := fun j => hT.2 25 j
  have A26 : ∀ j, 0 ≤ σ.2.1 26 j ∧ σ.2.1 26 j ≤ 20000 := fun j => hT.2 26 j
  have A28 : ∀ j, 0 ≤ σ.2.1 28 j ∧ σ.2.1 28 j ≤ 1 := fun j => hT.2 28 j
  have v0 : 0 ≤ σ.1 0 ∧ σ.1 0 ≤ 60000 := hT.1 0
  have v3 : 0 ≤ σ.1 3 ∧ σ.1 3 ≤ 1000 := hT.1 3
  have v4 : 0 ≤ σ.1 4 ∧ σ.1 4 ≤ 100 := hT.1 4
  have v5 : 0 ≤ σ.1 5 ∧ σ.1 5 ≤ 1500 := hT.1 5
  have v6 : 0 ≤ σ.1 6 ∧ σ.1 6 ≤ 30000 := hT.1 6
  have v7 : 0 ≤ σ.1 7 ∧ σ.1 7 ≤ 90000 := hT.1 7
  have v8 : 0 ≤ σ.1 8 ∧ σ.1 8 ≤ 20000 := hT.1 8
  have v9 : 0 ≤ σ.1 9 ∧ σ.1 9 ≤ 20000 := hT.1 9
  have v13 : 0 ≤ σ.1 13 ∧ σ.1 13 ≤ 1500 := hT.1 13
  have v16 : 0 ≤ σ.1 16 ∧ σ.1 16 ≤ 60000 := hT.1 16
  have v17 : 0 ≤ σ.1 17 ∧ σ.1 17 ≤ 60000 := hT.1 17
  have v18 : 0 ≤ σ.1 18 ∧ σ.1 18 ≤ 60000 := hT.1 18
  have v19 : (-1) ≤ σ.1 19 ∧ σ.1 19 ≤ 125 := hT.1 19
  have v20 : 0 ≤ σ.1 20 ∧ σ.1 20 ≤ 19 := hT.1 20
  have v22 : 0 ≤ σ.1 22 ∧ σ.1 22 ≤ 1499 := hT.1 22
  have a14_22 : 0 ≤ σ.2.1 14 (σ.1 22) ∧ σ.2.1 14 (σ.1 22) ≤ 30000 := hT.2 14 _
  have a15_22 : 0 ≤ σ.2.1 15 (σ.1 22) ∧ σ.2.1 15 (σ.1 22) ≤ 300 := hT.2 15 _
  have a18_22 : 0 ≤ σ.2.1 18 (σ.1 22) ∧ σ.2.1 18 (σ.1 22) ≤ 90000 := hT.2 18 _
  have a19_22 : 0 ≤ σ.2.1 19 (σ.1 22) ∧ σ.2.1 19 (σ.1 22) ≤ 60 := hT.2 19 _
  have a21_22 : 0 ≤ σ.2.1 21 (σ.1 22) ∧ σ.2.1 21 (σ.1 22) ≤ 20000 := hT.2 21 _
  have a22_22 : 0 ≤ σ.2.1 22 (σ.1 22) ∧ σ.2.1 22 (σ.1 22) ≤ 20000 := hT.2 22 _
  have a25_22 : 0 ≤ σ.2.1 25 (σ.1 22) ∧ σ.2.1 25 (σ.1 22) ≤ 20000 := hT.2 25 _
  have a26_22 : 0 ≤ σ.2.1 26 (σ.1 22) ∧ σ.2.1 26 (σ.1 22) ≤ 20000 := hT.2 26 _
  have W0 : σ.1 0 = σ.1 0 := rfl
  have W3 : σ.1 3 = σ.1 3 := rfl
  have G6 : σ.2.1 6 = σ.2.1 6 := rfl
  have ag : m_ag σ σ := ag_0 σ
  intro P15 P91 P106 h15 h91 h106
  have hT0 := hT
  have Y8 := j_eq0 (σ.1 9) (σ.2.1 28)
  have Y20 : ca (σ.2.1 12) ((σ.1 3)) ≤ (σ.1 4) := p7
  have PA : J_pa (σ.2.1 21) (σ.2.1 22) := p8
  have PA_0 := PA
  have Y20_0 := Y20
  have Y8_0 := Y8
  have l_15 : ∀ (τ_15 : S0), (m_T τ_15) → (m_ag σ τ_15) → (τ_15.1 0 = σ.1 0) → (τ_15.1 3 = σ.1 3) → (τ_15.2.1 6 = σ.2.1 6) → ((τ_15.1 16) ≤ (τ_15.1 0)) → ((τ_15.1 17) + (τ_15.1 18) ≤ (τ_15.1 0)) → (oc (τ_15.2.1 6) < 4096) → (oc (τ_15.2.1 7) ≤ (σ.1 5) + 1) → (¬ (σ.1 20) = 0 → (τ_15.1 20) = (σ.1 20)) → (ca (τ_15.2.1 12) ((τ_15.1 3)) ≤ (τ_15.1 4)) → (J_pa (τ_15.2.1 21) (τ_15.2.1 22)) → ((τ_15.1 20) = 0 → (τ_15.1 22) = (τ_15.1 5) ∧ τ_15.2.1 15 (τ_15.1 22) = 0 ∧ τ_15.2.1 19 (τ_15.1 22) = 0 ∧ τ_15.2.1 22 (τ_15.1 22) = 0 ∧ τ_15.2.1 26 (τ_15.1 22) = 0 ∧ (τ_15.1 5) < 1500) → ((τ_15.1 20) = 0 → τ_15.2.1 14 (τ_15.1 22) = (τ_15.1 6) ∧ τ_15.2.1 18 (τ_15.1 22) = (τ_15.1 7) ∧ τ_15.2.1 21 (τ_15.1 22) = (τ_15.1 8) ∧ τ_15.2.1 25 (τ_15.1 22) = (τ_15.1 9)) → ((τ_15.1 5) = (σ.1 5)) → ((τ_15.1 6) = (σ.1 6) ∧ (τ_15.1 7) = (σ.1 7) ∧ (τ_15.1 8) = (σ.1 8) ∧ (τ_15.1 9) = (σ.1 9) ∧ (τ_15.1 13) = (σ.1 13)) → (j_eq ((σ.1 9)) (σ.2.1 28) (τ_15.2.1 28)) → ((σ.1 16) ≤ (τ_15.1 16)) → P15 τ_15 := by
    intro τ_15 hT ag W0 W3 G6 i15_1 i15_2 i15_3 i15_4 i15_5 i15_6 i15_7 i15_8 i15_9 i15_10 i15_11 i15_12 i15_13
    have A6 : ∀ j, (-1) ≤ τ_15.2.1 6 j ∧ τ_15.2.1 6 j ≤ 999 := fun j => hT.2 6 j
    have A7 : ∀ j, (-1) ≤ τ_15.2.1 7 j ∧ τ_15.2.1 7 j ≤ 1499 := fun j => hT.2 7 j
    have A12 : ∀ j, 0 ≤ τ_15.2.1 12 j ∧ τ_15.2.1 12 j ≤ 1 := fun j => hT.2 12 j
    have A14 : ∀ j, 0 ≤ τ_15.2.1 14 j ∧ τ_15.2.1 14 j ≤ 30000 := fun j => hT.2 14 j
    have A15 : ∀ j, 0 ≤ τ_15.2.1 15 j ∧ τ_15.2.1 15 j ≤ 300 := fun j => hT.2 15 j
    have A18 : ∀ j, 0 ≤ τ_15.2.1 18 j ∧ τ_15.2.1 18 j ≤ 90000 := fun j => hT.2 18 j
    have A19 : ∀ j, 0 ≤ τ_15.2.1 19 j ∧ τ_15.2.1 19 j ≤ 60 := fun j => hT.2 19 j
    have A21 : ∀ j, 0 ≤ τ_15.2.1 21 j ∧ τ_15.2.1 21 j ≤ 20000 := fun j => hT.2 21 j
    have A22 : ∀ j, 0 ≤ τ_15.2.1 22 j ∧ τ_15.2.1 22 j ≤ 20000 := fun j => hT.2 22 j
    have A25 : ∀ j, 0 ≤ τ_15.2.1 25 j ∧ τ_15.2.1 25 j ≤ 20000 := fun j => hT.2 25 j
    have A26 : ∀ j, 0 ≤ τ_15.2.1 26 j ∧ τ_15.2.1 26 j ≤ 20000 := fun j => hT.2 26 j
    have A28 : ∀ j, 0 ≤ τ_15.2.1 28 j ∧ τ_15.2.1 28 j ≤ 1 := fun j => hT.2 28 j
    have v0 : 0 ≤ τ_15.1 0 ∧ τ_15.1 0 ≤ 60000 := hT.1 0
    have v3 : 0 ≤ τ_15.1 3 ∧ τ_15.1 3 ≤ 1000 := hT.1 3
    have v4 : 0 ≤ τ_15.1 4 ∧ τ_15.1 4 ≤ 100 := hT.1 4
    have v5 : 0 ≤ τ_15.1 5 ∧ τ_15.1 5 ≤ 1500 := hT.1 5
    have v6 : 0 ≤ τ_15.1 6 ∧ τ_15.1 6 ≤ 30000 := hT.1 6
    have v7 : 0 ≤ τ_15.1 7 ∧ τ_15.1 7 ≤ 90000 := hT.1 7
    have v8 : 0 ≤ τ_15.1 8 ∧ τ_15.1 8 ≤ 20000 := hT.1 8
    have v9 : 0 ≤ τ_15.1 9 ∧ τ_15.1 9 ≤ 20000 := hT.1 9
    have v13 : 0 ≤ τ_15.1 13 ∧ τ_15.1 13 ≤ 1500 := hT.1 13
    have v16 : 0 ≤ τ_15.1 16 ∧ τ_15.1 16 ≤ 60000 := hT.1 16
    have v17 : 0 ≤ τ_15.1 17 ∧ τ_15.1 17 ≤ 60000 := hT.1 17
    have v18 : 0 ≤ τ_15.1 18 ∧ τ_15.1 18 ≤ 60000 := hT.1 18
    have v19 : (-1) ≤ τ_15.1 19 ∧ τ_15.1 19 ≤ 125 := hT.1 19
    have v20 : 0 ≤ τ_15.1 20 ∧ τ_15.1 20 ≤ 19 := hT.1 20
    have v22 : 0 ≤ τ_15.1 22 ∧ τ_15.1 22 ≤ 1499 := hT.1 22
    have a14_22 : 0 ≤ τ_15.2.1 14 (τ_15.1 22) ∧ τ_15.2.1 14 (τ_15.1 22) ≤ 30000 := hT.2 14 _
    have a15_22 : 0 ≤ τ_15.2.1 15 (τ_15.1 22) ∧ τ_15.2.1 15 (τ_15.1 22) ≤ 300 := hT.2 15 _
    have a18_22 : 0 ≤ τ_15.2.1 18 (τ_15.1 22) ∧ τ_15.2.1 18 (τ_15.1 22) ≤ 90000 := hT.2 18 _
    have a19_22 : 0 ≤ τ_15.2.1 19 (τ_15.1 22) ∧ τ_15.2.1 19 (τ_15.1 22) ≤ 60 := hT.2 19 _
    have a21_22 : 0 ≤ τ_15.2.1 21 (τ_15.1 22) ∧ τ_15.2.1 21 (τ_15.1 22) ≤ 20000 := hT.2 21 _
    have a22_22 : 0 ≤ τ_15.2.1 22 (τ_15.1 22) ∧ τ_15.2.1 22 (τ_15.1 22) ≤ 20000 := hT.2 22 _
    have a25_22 : 0 ≤ τ_15.2.1 25 (τ_15.1 22) ∧ τ_15.2.1 25 (τ_15.1 22) ≤ 20000 := hT.2 25 _
    have a26_22 : 0 ≤ τ_15.2.1 26 (τ_15.1 22) ∧ τ_15.2.1 26 (τ_15.1 22) ≤ 20000 := hT.2 26 _
    have av5 : σ.1 5 ≤ τ_15.1 5 := ag.1 5 (by decide)
    have av6 : σ.1 6 ≤ τ_15.1 6 := ag.1 6 (by decide)
    have av7 : σ.1 7 ≤ τ_15.1 7 := ag.1 7 (by decide)
    have av8 : σ.1 8 ≤ τ_15.1 8 := ag.1 8 (by decide)
    have av9 : σ.1 9 ≤ τ_15.1 9 := ag.1 9 (by decide)
    have o6_τ_15 := congrArg oc G6
    have Y20 : ca (τ_15.2.1 12) ((τ_15.1 3)) ≤ (τ_15.1 4) := i15_6
    have Y8 : j_eq ((σ.1 9)) (σ.2.1 28) (τ_15.2.1 28) := i15_12
    have PA : J_pa (τ_15.2.1 21) (τ_15.2.1 22) := i15_7
    refine h15 τ_15 ?_
    refine ⟨fun c8 => ?_, fun c8 => ?_⟩
    ·
      refine ⟨fun c9 => ?_, fun c9 => ?_⟩
      ·
        have w3 := i15_8 (by omega)
        have w4 := i15_9 (by omega)
        obtain ⟨n1, n2, n3, n4, n5, n6⟩ := w3
        obtain ⟨n7, n8, n9, n10⟩ := w4
        have Z1 : τ_15.2.1 14 (τ_15.1 22) + τ_15.2.1 15 (τ_15.1 22) = τ_15.1 6 := by omega
        have Z2 : τ_15.2.1 18 (τ_15.1 22) + τ_15.2.1 19 (τ_15.1 22) = τ_15.1 7 := by omega
        have Z3 : τ_15.2.1 21 (τ_15.1 22) + τ_15.2.1 22 (τ_15.1 22) = τ_15.1 8 := by omega
        have Z4 : τ_15.2.1 25 (τ_15.1 22) + τ_15.2.1 26 (τ_15.1 22) = τ_15.1 9 := by omega
        have Y14 : ca (τ_15.2.1 28) (τ_15.1 9) ≤ ca (τ_15.2.1 28) (τ_15.2.1 25 (τ_15.1 22)) + 300 := by rw [show τ_15.2.1 25 (τ_15.1 22) = τ_15.1 9 from by omega]; omega
        refine ⟨fun c10 => ?_, fun c10 => ?_⟩
        ·
          refine ⟨fun c11 => ?_, fun c11 => ?_⟩
          ·
            refine h91 _ ?_
            refine ⟨fun c29 => ?_, fun c29 => ?_⟩
            ·
              refine h106 _ _ ?_
              refine ⟨_, K_X13_readAssertion hT (show (τ_15.1 16) ≤ (τ_15.1 0) from by (first | omega | (simp only [st_s] <;> omega) | assumption | omega)) (show (τ_15.1 17) + (τ_15.1 18) ≤ (τ_15.1 0) from by (first | omega | (simp only [st_s] <;> omega) | assumption | omega)) (show oc (τ_15.2.1 6) < 4096 from by (first | omega | (simp only [st_s] <;> omega) | assumption | omega)) (show oc (τ_15.2.1 7) < 4096 from by (first | omega | (simp only [st_s] <;> omega) | assumption | omega)) (show 0 ≤ 0 from by (first | omega | (simp only [st_s] <;> omega) | assumption | omega)) (show 0 ≤ 1 from by (first | omega | (simp only [st_s] <;> omega) | assumption | omega)) (show τ_15.2.1 15 (τ_15.1 22) = 0 from by (first | omega | (simp only [st_s] <;> omega) | assumption | omega)) (show τ_15.2.1 26 (τ_15.1 22) = 0 from by (first | omega | (simp only [st_s] <;> omega) | assumption | omega)) (show (τ_15.1 22) = (τ_15.1 5) from by (first | omega | (simp only [st_s] <;> omega) | assumption | omega)) (show τ_15.2.1 14 (τ_15.1 22) + τ_15.2.1 15 (τ_15.1 22) = (τ_15.1 6) from Z1) (show τ_15.2.1 18 (τ_15.1 22) + τ_15.2.1 19 (τ_15.1 22) = (τ_15.1 7) from Z2) (show τ_15.2.1 21 (τ_15.1 22) + τ_15.2.1 22 (τ_15.1 22) = (τ_15.1 8) from Z3) (show τ_15.2.1 25 (τ_15.1 22) + τ_15.2.1 26 (τ_15.1 22) = (τ_15.1 9) from Z4) (show ca (τ_15.2.1 12) ((τ_15.1 3)) ≤ (τ_15.1 4) from Y20) (show J_pa (τ_15.2.1 21) (τ_15.2.1 22) from PA) (show (τ_15.1 7) ≤ 60 * (τ_15.1 22) + τ_15.2.1 19 (τ_15.1 22) from by (first | omega | (simp only [st_s] <;> omega) | assumption | omega)) (show (τ_15.1 5) < 1500 from by (first | omega | (simp only [st_s] <;> omega) | assumption | omega)), ?_⟩
              intro τ32 hn_τ32 hf_τ32 hq
              obtain ⟨hT, q30_1, q30_2, q30_3, q30_4, q30_5, q30_6, q30_7, q30_8, q30_9, q30_10, q30_11, q30_12, q30_13, q30_14, q30_15, q30_16⟩ := hq
              replace q30_1 : (τ32.1 16) ≤ (τ32.1 0) := q30_1
              replace q30_2 : (τ32.1 17) + (τ32.1 18) ≤ (τ32.1 0) := q30_2
              replace q30_3 : ¬ (τ_15.1 20) = 0 → (τ32.1 20) = (τ_15.1 20) := q30_3
              replace q30_4 : τ32.2.1 14 (τ32.1 22) + τ32.2.1 15 (τ32.1 22) = (τ32.1 6) := q30_4
              replace q30_5 : τ32.2.1 18 (τ32.1 22) + τ32.2.1 19 (τ32.1 22) = (τ32.1 7) := q30_5
              replace q30_6 : τ32.2.1 21 (τ32.1 22) + τ32.2.1 22 (τ32.1 22) = (τ32.1 8) := q30_6
              replace q30_7 : ca (τ32.2.1 12) ((τ32.1 3)) ≤ (τ32.1 4) := q30_7
              replace q30_8 : J_pa (τ32.2.1 21) (τ32.2.1 22) := q30_8
              replace q30_9 : (τ32.1 7) ≤ 60 * (τ32.1 22) + τ32.2.1 19 (τ32.1 22) := q30_9
              replace q30_10 : τ32.2.1 25 (τ32.1 22) + τ32.2.1 26 (τ32.1 22) = (τ32.1 9) := q30_10
              replace q30_11 : ca (τ32.2.1 28) ((τ32.1 9)) ≤ ca (τ32.2.1 28) (τ32.2.1 25 (τ32.1 22)) + 300 := q30_11
              replace q30_12 : j_eq (τ_15.2.1 25 (τ_15.1 22)) (τ_15.2.1 28) (τ32.2.1 28) := q30_12
              replace q30_13 : (τ32.1 20) = 0 → (τ32.1 5) = (τ_15.1 5) + 1 ∧ 1 ≤ τ32.2.1 15 (τ32.1 22) := q30_13
              replace q30_14 : (τ32.1 5) ≤ (τ_15.1 5) + 1 := q30_14
              replace q30_15 : (τ_15.1 16) ≤ (τ32.1 16) := q30_15
              replace q30_16 : m_ag τ_15 τ32 := q30_16
              replace ag : m_ag σ τ32 := ag_t ag q30_16 rfl
              have w0_τ32 : τ32.1 0 = τ_15.1 0 := hf_τ32.1 0 (by decide)
              have w3_τ32 : τ32.1 3 = τ_15.1 3 := hf_τ32.1 3 (by decide)
              have w13_τ32 : τ32.1 13 = τ_15.1 13 := hf_τ32.1 13 (by decide)
              have w22_τ32 : τ32.1 22 = τ_15.1 22 := hf_τ32.1 22 (by decide)
              have g6_τ32 : τ32.2.1 6 = τ_15.2.1 6 := hf_τ32.2.1 6 (by decide)
              have g7_τ32 : τ32.2.1 7 = τ_15.2.1 7 := hf_τ32.2.1 7 (by decide)
              have g14_τ32 : τ32.2.1 14 = τ_15.2.1 14 := hf_τ32.2.1 14 (by decide)
              have g18_τ32 : τ32.2.1 18 = τ_15.2.1 18 := hf_τ32.2.1 18 (by decide)
              have g21_τ32 : τ32.2.1 21 = τ_15.2.1 21 := hf_τ32.2.1 21 (by decide)
              have g25_τ32 : τ32.2.1 25 = τ_15.2.1 25 := hf_τ32.2.1 25 (by decide)
              first | (have o6_τ32 := congrArg oc g6_τ32) | skip
              first | (have o7_τ32 := congrArg oc g7_τ32) | skip
              have W0 : τ32.1 0 = σ.1 0 := by omega
              have W3 : τ32.1 3 = σ.1 3 := by omega
              have G6 : τ32.2.1 6 = σ.2.1 6 := (g6_τ32).trans G6
              have y14_22_τ32 : τ32.2.1 14 (τ32.1 22) = (τ_15.2.1 14) (τ_15.1 22) := by rw [g14_τ32, w22_τ32]
              have y18_22_τ32 : τ32.2.1 18 (τ32.1 22) = (τ_15.2.1 18) (τ_15.1 22) := by rw [g18_τ32, w22_τ32]
              have y21_22_τ32 : τ32.2.1 21 (τ32.1 22) = (τ_15.2.1 21) (τ_15.1 22) := by rw [g21_τ32, w22_τ32]
              have y25_22_τ32 : τ32.2.1 25 (τ32.1 22) = (τ_15.2.1 25) (τ_15.1 22) := by rw [g25_τ32, w22_τ32]
              have Z1 : τ32.2.1 14 (τ32.1 22) + τ32.2.1 15 (τ32.1 22) = (τ32.1 6) := q30_4
              have Z2 : τ32.2.1 18 (τ32.1 22) + τ32.2.1 19 (τ32.1 22) = (τ32.1 7) := q30_5
              have Z3 : τ32.2.1 21 (τ32.1 22) + τ32.2.1 22 (τ32.1 22) = (τ32.1 8) := q30_6
              have Z4 : τ32.2.1 25 (τ32.1 22) + τ32.2.1 26 (τ32.1 22) = (τ32.1 9) := q30_10
              have Y20 : ca (τ32.2.1 12) ((τ32.1 3)) ≤ (τ32.1 4) := q30_7
              have Y14 : ca (τ32.2.1 28) ((τ32.1 9)) ≤ ca (τ32.2.1 28) (τ32.2.1 25 (τ32.1 22)) + 300 := q30_11
              have PA : J_pa (τ32.2.1 21) (τ32.2.1 22) := q30_8
              have A6 : ∀ j, (-1) ≤ τ32.2.1 6 j ∧ τ32.2.1 6 j ≤ 999 := fun j => hT.2 6 j
              have A7 : ∀ j, (-1) ≤ τ32.2.1 7 j ∧ τ32.2.1 7 j ≤ 1499 := fun j => hT.2 7 j
              have A12 : ∀ j, 0 ≤ τ32.2.1 12 j ∧ τ32.2.1 12 j ≤ 1 := fun j => hT.2 12 j
              have A14 : ∀ j, 0 ≤ τ32.2.1 14 j ∧ τ32.2.1 14 j ≤ 30000 := fun j => hT.2 14 j
              have A15 : ∀ j, 0 ≤ τ32.2.1 15 j ∧ τ32.2.1 15 j ≤ 300 := fun j => hT.2 15 j
              have A18 : ∀ j, 0 ≤ τ32.2.1 18 j ∧ τ32.2.1 18 j ≤ 90000 := fun j => hT.2 18 j
              have A19 : ∀ j, 0 ≤ τ32.2.1 19 j ∧ τ32.2.1 19 j ≤ 60 := fun j => hT.2 19 j
              have A21 : ∀ j, 0 ≤ τ32.2.1 21 j ∧ τ32.2.1 21 j ≤ 20000 := fun j => hT.2 21 j
              have A22 : ∀ j, 0 ≤ τ32.2.1 22 j ∧ τ32.2.1 22 j ≤ 20000 := fun j => hT.2 22 j
              have A25 : ∀ j, 0 ≤ τ32.2.1 25 j ∧ τ32.2.1 25 j ≤ 20000 := fun j => hT.2 25 j
              have A26 : ∀ j, 0 ≤ τ32.2.1 26 j ∧ τ32.2.1 26 j ≤ 20000 := fun j => hT.2 26 j
              have A28 : ∀ j, 0 ≤ τ32.2.1 28 j ∧ τ32.2.1 28 j ≤ 1 := fun j => hT.2 28 j
              have v0 : 0 ≤ τ32.1 0 ∧ τ32.1 0 ≤ 60000 := hT.1 0
              have v3 : 0 ≤ τ32.1 3 ∧ τ32.1 3 ≤ 1000 := hT.1 3
              have v4 : 0 ≤ τ32.1 4 ∧ τ32.1 4 ≤ 100 := hT.1 4
              have v5 : 0 ≤ τ32.1 5 ∧ τ32.1 5 ≤ 1500 := hT.1 5
              have v6 : 0 ≤ τ32.1 6 ∧ τ32.1 6 ≤ 30000 := hT.1 6
              have v7 : 0 ≤ τ32.1 7 ∧ τ32.1 7 ≤ 90000 := hT.1 7
              have v8 : 0 ≤ τ32.1 8 ∧ τ32.1 8 ≤ 20000 := hT.1 8
              have v9 : 0 ≤ τ32.1 9 ∧ τ32.1 9 ≤ 20000 := hT.1 9
              have v13 : 0 ≤ τ32.1 13 ∧ τ32.1 13 ≤ 1500 := hT.1 13
              have v16 : 0 ≤ τ32.1 16 ∧ τ32.1 16 ≤ 60000 := hT.1 16
              have v17 : 0 ≤ τ32.1 17 ∧ τ32.1 17 ≤ 60000 := hT.1 17
              have v18 : 0 ≤ τ32.1 18 ∧ τ32.1 18 ≤ 60000 := hT.1 18
              have v19 : (-1) ≤ τ32.1 19 ∧ τ32.1 19 ≤ 125 := hT.1 19
              have v20 : 0 ≤ τ32.1 20 ∧ τ32.1 20 ≤ 19 := hT.1 20
              have v22 : 0 ≤ τ32.1 22 ∧ τ32.1 22 ≤ 1499 := hT.1 22
              have a14_22 : 0 ≤ τ32.2.1 14 (τ32.1 22) ∧ τ32.2.1 14 (τ32.1 22) ≤ 30000 := hT.2 14 _
              have a15_22 : 0 ≤ τ32.2.1 15 (τ32.1 22) ∧ τ32.2.1 15 (τ32.1 22) ≤ 300 := hT.2 15 _
              have a18_22 : 0 ≤ τ32.2.1 18 (τ32.1 22) ∧ τ32.2.1 18 (τ32.1 22) ≤ 90000 := hT.2 18 _
              have a19_22 : 0 ≤ τ32.2.1 19 (τ32.1 22) ∧ τ32.2.1 19 (τ32.1 22) ≤ 60 := hT.2 19 _
              have a21_22 : 0 ≤ τ32.2.1 21 (τ32.1 22) ∧ τ32.2.1 21 (τ32.1 22) ≤ 20000 := hT.2 21 _
              have a22_22 : 0 ≤ τ32.2.1 22 (τ32.1 22) ∧ τ32.2.1 22 (τ32.1 22) ≤ 20000 := hT.2 22 _
              have a25_22 : 0 ≤ τ32.2.1 25 (τ32.1 22) ∧ τ32.2.1 25 (τ32.1 22) ≤ 20000 := hT.2 25 _
              have a26_22 : 0 ≤ τ32.2.1 26 (τ32.1 22) ∧ τ32.2.1 26 (τ32.1 22) ≤ 20000 := hT.2 26 _
              have av5 : σ.1 5 ≤ τ32.1 5 := ag.1 5 (by decide)
              have av6 : σ.1 6 ≤ τ32.1 6 := ag.1 6 (by decide)
              have av7 : σ.1 7 ≤ τ32.1 7 := ag.1 7 (by decide)
              have av8 : σ.1 8 ≤ τ32.1 8 := ag.1 8 (by decide)
              have av9 : σ.1 9 ≤ τ32.1 9 := ag.1 9 (by decide)
              have Y8 := j_eqt Y8 (j_eqw q30_12 (show σ.1 9 ≤ τ_15.2.1 25 (τ_15.1 22) from by omega))
              exact ⟨hT, (show (τ32.1 16) ≤ (τ32.1 0) from by (first | omega | (simp only [st_s] <;> omega) | assumption | omega)), (show (τ32.1 17) + (τ32.1 18) ≤ (τ32.1 0) from by (first | omega | (simp only [st_s] <;> omega) | assumption | omega)), (show ¬ (σ.1 20) = 0 → (τ32.1 20) = (σ.1 20) from by (first | omega | (simp only [st_s] <;> omega) | assumption | omega)), (show ca (τ32.2.1 12) ((τ32.1 3)) ≤ (τ32.1 4) from Y20), (show J_pa (τ32.2.1 21) (τ32.2.1 22) from PA), (show (τ32.1 13) ≤ (τ32.1 5) from by (first | omega | (simp only [st_s] <;> omega) | assumption | omega)), (show oc (τ32.2.1 7) ≤ (σ.1 5) + 1 from by (first | omega | (simp only [st_s] <;> omega) | assumption | omega)), (show (τ32.1 5) ≤ (σ.1 5) + 1 from by (first | omega | (simp only [st_s] <;> omega) | assumption | omega)), (show (τ32.1 20) = 0 → (τ32.1 7) ≤ 60 * (τ32.1 5) from by (first | omega | (simp only [st_s] <;> omega) | assumption | omega)), (show (τ32.1 20) = 0 → (τ32.1 5) = (σ.1 5) + 1 from by (first | omega | (simp only [st_s] <;> omega) | assumption | omega)), (show j_eq ((σ.1 9)) (σ.2.1 28) (τ32.2.1 28) from Y8), (show (τ32.1 20) = 0 → m_J σ → m_J τ32 from by (first | (intro hf; exfalso; omega) | (intro hf hJ; have e5 : σ.1 5 = τ25.1 22 := (by omega); exact m_J_e hJ ag hT0 Y8 (by omega) (by rw [e5] <;> omega) (by rw [e5] <;> omega) (by rw [e5] <;> omega) (by rw [e5] <;> omega) (by rw [e5] <;> omega) (by rw [e5] <;> omega) (by rw [e5] <;> omega) (by rw [e5] <;> omega) (by rw [e5] <;> omega) (by omega) (by rw [e5]; exact Y14)) | (intro hf hJ; have e5 : σ.1 5 = τ28.1 22 := (by omega); exact m_J_e hJ ag hT0 Y8 (by omega) (by rw [e5] <;> omega) (by rw [e5] <;> omega) (by rw [e5] <;> omega) (by rw [e5] <;> omega) (by rw [e5] <;> omega) (by rw [e5] <;> omega) (by rw [e5] <;> omega) (by rw [e5] <;> omega) (by rw [e5] <;> omega) (by omega) (by rw [e5]; exact Y14)) | (intro hf hJ; have e5 : σ.1 5 = τ32.1 22 := (by omega); exact m_J_e hJ ag hT0 Y8 (by omega) (by rw [e5] <;> omega) (by rw [e5] <;> omega) (by rw [e5] <;> omega) (by rw [e5] <;> omega) (by rw [e5] <;> omega) (by rw [e5] <;> omega) (by rw [e5] <;> omega) (by rw [e5] <;> omega) (by rw [e5] <;> omega) (by omega) (by rw [e5]; exact Y14)))), (show (σ.1 16) ≤ (τ32.1 16) from by (first | omega | (simp only [st_s] <;> omega) | assumption | omega)), ag⟩
            ·
              refine h106 _ _ ?_
              refine ⟨_, K_X13_readAssertion hT (show (τ_15.1 16) ≤ (τ_15.1 0) from by (first | omega | (simp only [st_s] <;> omega) | assumption | omega)) (show (τ_15.1 17) + (τ_15.1 18) ≤ (τ_15.1 0) from by (first | omega | (simp only [st_s] <;> omega) | assumption | omega)) (show oc (τ_15.2.1 6) < 4096 from by (first | omega | (simp only [st_s] <;> omega) | assumption | omega)) (show oc (τ_15.2.1 7) < 4096 from by (first | omega | (simp only [st_s] <;> omega) | assumption | omega)) (show 0 ≤ 1 from by (first | omega | (simp only [st_s] <;> omega) | assumption | omega)) (show 1 ≤ 1 from by (first | omega | (simp only [st_s] <;> omega) | assumption | omega)) (show τ_15.2.1 15 (τ_15.1 22) = 0 from by (first | omega | (simp only [st_s] <;> omega) | assumption | omega)) (show τ_15.2.1 26 (τ_15.1 22) = 0 from by (first | omega | (simp only [st_s] <;> omega) | assumption | omega)) (show (τ_15.1 22) = (τ_15.1 5) from by (first | omega | (simp only [st_s] <;> omega) | assumption | omega)) (show τ_15.2.1 14 (τ_15.1 22) + τ_15.2.1 15 (τ_15.1 22) = (τ_15.1 6) from Z1) (show τ_15.2.1 18 (τ_15.1 22) + τ_15.2.1 19 (τ_15.1 22) = (τ_15.1 7) from Z2) (show τ_15.2.1 21 (τ_15.1 22) + τ_15.2.1 22 (τ_15.1 22) = (τ_15.1 8) from Z3) (show τ_15.2.1 25 (τ_15.1 22) + τ_15.2.1 26 (τ_15.1 22) = (τ_15.1 9) from Z4) (show ca (τ_15.2.1 12) ((τ_15.1 3)) ≤ (τ_15.1 4) from Y20) (show J_pa (τ_15.2.1 21) (τ_15.2.1 22) from PA) (show (τ_15.1 7) ≤ 60 * (τ_15.1 22) + τ_15.2.1 19 (τ_15.1 22) from by (first | omega | (simp only [st_s] <;> omega) | assumption | omega)) (show (τ_15.1 5) < 1500 from by (first | omega | (simp only [st_s] <;> omega) | assumption | omega)), ?_⟩
              intro τ32 hn_τ32 hf_τ32 hq
              obtain ⟨hT, q30_1, q30_2, q30_3, q30_4, q30_5, q30_6, q30_7, q30_8, q30_9, q30_10, q30_11, q30_12, q30_13, q30_14, q30_15, q30_16⟩ := hq
              replace q30_1 : (τ32.1 16) ≤ (τ32.1 0) := q30_1
              replace q30_2 : (τ32.1 17) + (τ32.1 18) ≤ (τ32.1 0) := q30_2
              replace q30_3 : ¬ (τ_15.1 20) = 0 → (τ32.1 20) = (τ_15.1 20) := q30_3
              replace q30_4 : τ32.2.1 14 (τ32.1 22) + τ32.2.1 15 (τ32.1 22) = (τ32.1 6) := q30_4
              replace q30_5 : τ32.2.1 18 (τ32.1 22) + τ32.2.1 19 (τ32.1 22) = (τ32.1 7) := q30_5
              replace q30_6 : τ32.2.1 21 (τ32.1 22) + τ32.2.1 22 (τ32.1 22) = (τ32.1 8) := q30_6
              replace q30_7 : ca (τ32.2.1 12) ((τ32.1 3)) ≤ (τ32.1 4) := q30_7
              replace q30_8 : J_pa (τ32.2.1 21) (τ32.2.1 22) := q30_8
              replace q30_9 : (τ32.1 7) ≤ 60 * (τ32.1 22) + τ32.2.1 19 (τ32.1 22) := q30_9
              replace q30_10 : τ32.2.1 25 (τ32.1 22) + τ32.2.1 26 (τ32.1 22) = (τ32.1 9) := q30_10
              replace q30_11 : ca (τ32.2.1 28) ((τ32.1 9)) ≤ ca (τ32.2.1 28) (τ32.2.1 25 (τ32.1 22)) + 300 := q30_11
              replace q30_12 : j_eq (τ_15.2.1 25 (τ_15.1 22)) (τ_15.2.1 28) (τ32.2.1 28) := q30_12
              replace q30_13 : (τ32.1 20) = 0 → (τ32.1 5) = (τ_15.1 5) + 1 ∧ 1 ≤ τ32.2.1 15 (τ32.1 22) := q30_13
              replace q30_14 : (τ32.1 5) ≤ (τ_15.1 5) + 1 := q30_14
              replace q30_15 : (τ_15.1 16) ≤ (τ32.1 16) := q30_15
              replace q30_16 : m_ag τ_15 τ32 := q30_16
              replace ag : m_ag σ τ32 := ag_t ag q30_16 rfl
              have w0_τ32 : τ32.1 0 = τ_15.1 0 := hf_τ32.1 0 (by decide)
              have w3_τ32 : τ32.1 3 = τ_15.1 3 := hf_τ32.1 3 (by decide)
              have w13_τ32 : τ32.1 13 = τ_15.1 13 := hf_τ32.1 13 (by decide)
              have w22_τ32 : τ32.1 22 = τ_15.1 22 := hf_τ32.1 22 (by decide)
              have g6_τ32 : τ32.2.1 6 = τ_15.2.1 6 := hf_τ32.2.1 6 (by decide)
              have g7_τ32 : τ32.2.1 7 = τ_15.2.1 7 := hf_τ32.2.1 7 (by decide)
              have g14_τ32 : τ32.2.1 14 = τ_15.2.1 14 := hf_τ32.2.1 14 (by decide)
              have g18_τ32 : τ32.2.1 18 = τ_15.2.1 18 := hf_τ32.2.1 18 (by decide)
              have g21_τ32 : τ32.2.1 21 = τ_15.2.1 21 := hf_τ32.2.1 21 (by decide)
              have g25_τ32 : τ32.2.1 25 = τ_15.2.1 25 := hf_τ32.2.1 25 (by decide)
              first | (have o6_τ32 := congrArg oc g6_τ32) | skip
              first | (have o7_τ32 := congrArg oc g7_τ32) | skip
              have W0 : τ32.1 0 = σ.1 0 := by omega
              have W3 : τ32.1 3 = σ.1 3 := by omega
              have G6 : τ32.2.1 6 = σ.2.1 6 := (g6_τ32).trans G6
              have y14_22_τ32 : τ32.2.1 14 (τ32.1 22) = (τ_15.2.1 14) (τ_15.1 22) := by rw [g14_τ32, w22_τ32]
              have y18_22_τ32 : τ32.2.1 18 (τ32.1 22) = (τ_15.2.1 18) (τ_15.1 22) := by rw [g18_τ32, w22_τ32]
              have y21_22_τ32 : τ32.2.1 21 (τ32.1 22) = (τ_15.2.1 21) (τ_15.1 22) := by rw [g21_τ32, w22_τ32]
              have y25_22_τ32 : τ32.2.1 25 (τ32.1 22) = (τ_15.2.1 25) (τ_15.1 22) := by rw [g25_τ32, w22_τ32]
              have Z1 : τ32.2.1 14 (τ32.1 22) + τ32.2.1 15 (τ32.1 22) = (τ32.1 6) := q30_4
              have Z2 : τ32.2.1 18 (τ32.1 22) + τ32.2.1 19 (τ32.1 22) = (τ32.1 7) := q30_5
              have Z3 : τ32.2.1 21 (τ32.1 22) + τ32.2.1 22 (τ32.1 22) = (τ32.1 8) := q30_6
              have Z4 : τ32.2.1 25 (τ32.1 22) + τ32.2.1 26 (τ32.1 22) = (τ32.1 9) := q30_10
              have Y20 : ca (τ32.2.1 12) ((τ32.1 3)) ≤ (τ32.1 4) := q30_7
              have Y14 : ca (τ32.2.1 28) ((τ32.1 9)) ≤ ca (τ32.2.1 28) (τ32.2.1 25 (τ32.1 22)) + 300 := q30_11
              have PA : J_pa (τ32.2.1 21) (τ32.2.1 22) := q30_8
              have A6 : ∀ j, (-1) ≤ τ32.2.1 6 j ∧ τ32.2.1 6 j ≤ 999 := fun j => hT.2 6 j
              have A7 : ∀ j, (-1) ≤ τ32.2.1 7 j ∧ τ32.2.1 7 j ≤ 1499 := fun j => hT.2 7 j
              have A12 : ∀ j, 0 ≤ τ32.2.1 12 j ∧ τ32.2.1 12 j ≤ 1 := fun j => hT.2 12 j
              have A14 : ∀ j, 0 ≤ τ32.2.1 14 j ∧ τ32.2.1 14 j ≤ 30000 := fun j => hT.2 14 j
              have A15 : ∀ j, 0 ≤ τ32.2.1 15 j ∧ τ32.2.1 15 j ≤ 300 := fun j => hT.2 15 j
              have A18 : ∀ j, 0 ≤ τ32.2.1 18 j ∧ τ32.2.1 18 j ≤ 90000 := fun j => hT.2 18 j
              have A19 : ∀ j, 0 ≤ τ32.2.1 19 j ∧ τ32.2.1 19 j ≤ 60 := fun j => hT.2 19 j
              have A21 : ∀ j, 0 ≤ τ32.2.1 21 j ∧ τ32.2.1 21 j ≤ 20000 := fun j => hT.2 21 j
              have A22 : ∀ j, 0 ≤ τ32.2.1 22 j ∧ τ32.2.1 22 j ≤ 20000 := fun j => hT.2 22 j
              have A25 : ∀ j, 0 ≤ τ32.2.1 25 j ∧ τ32.2.1 25 j ≤ 20000 := fun j => hT.2 25 j
              have A26 : ∀ j, 0 ≤ τ32.2.1 26 j ∧ τ32.2.1 26 j ≤ 20000 := fun j => hT.2 26 j
              have A28 : ∀ j, 0 ≤ τ32.2.1 28 j ∧ τ32.2.1 28 j ≤ 1 := fun j => hT.2 28 j
              have v0 : 0 ≤ τ32.1 0 ∧ τ32.1 0 ≤ 60000 := hT.1 0
              have v3 : 0 ≤ τ32.1 3 ∧ τ32.1 3 ≤ 1000 := hT.1 3
              have v4 : 0 ≤ τ32.1 4 ∧ τ32.1 4 ≤ 100 := hT.1 4
              have v5 : 0 ≤ τ32.1 5 ∧ τ32.1 5 ≤ 1500 := hT.1 5
              have v6 : 0 ≤ τ32.1 6 ∧ τ32.1 6 ≤ 30000 := hT.1 6
              have v7 : 0 ≤ τ32.1 7 ∧ τ32.1 7 ≤ 90000 := hT.1 7
              have v8 : 0 ≤ τ32.1 8 ∧ τ32.1 8 ≤ 20000 := hT.1 8
              have v9 : 0 ≤ τ32.1 9 ∧ τ32.1 9 ≤ 20000 := hT.1 9
              have v13 : 0 ≤ τ32.1 13 ∧ τ32.1 13 ≤ 1500 := hT.1 13
              have v16 : 0 ≤ τ32.1 16 ∧ τ32.1 16 ≤ 60000 := hT.1 16
              have v17 : 0 ≤ τ32.1 17 ∧ τ32.1 17 ≤ 60000 := hT.1 17
              have v18 : 0 ≤ τ32.1 18 ∧ τ32.1 18 ≤ 60000 := hT.1 18
              have v19 : (-1) ≤ τ32.1 19 ∧ τ32.1 19 ≤ 125 := hT.1 19
              have v20 : 0 ≤ τ32.1 20 ∧ τ32.1 20 ≤ 19 := hT.1 20
              have v22 : 0 ≤ τ32.1 22 ∧ τ32.1 22 ≤ 1499 := hT.1 22
              have a14_22 : 0 ≤ τ32.2.1 14 (τ32.1 22) ∧ τ32.2.1 14 (τ32.1 22) ≤ 30000 := hT.2 14 _
              have a15_22 : 0 ≤ τ32.2.1 15 (τ32.1 22) ∧ τ32.2.1 15 (τ32.1 22) ≤ 300 := hT.2 15 _
              have a18_22 : 0 ≤ τ32.2.1 18 (τ32.1 22) ∧ τ32.2.1 18 (τ32.1 22) ≤ 90000 := hT.2 18 _
              have a19_22 : 0 ≤ τ32.2.1 19 (τ32.1 22) ∧ τ32.2.1 19 (τ32.1 22) ≤ 60 := hT.2 19 _
              have a21_22 : 0 ≤ τ32.2.1 21 (τ32.1 22) ∧ τ32.2.1 21 (τ32.1 22) ≤ 20000 := hT.2 21 _
              have a22_22 : 0 ≤ τ32.2.1 22 (τ32.1 22) ∧ τ32.2.1 22 (τ32.1 22) ≤ 20000 := hT.2 22 _
              have a25_22 : 0 ≤ τ32.2.1 25 (τ32.1 22) ∧ τ32.2.1 25 (τ32.1 22) ≤ 20000 := hT.2 25 _
              have a26_22 : 0 ≤ τ32.2.1 26 (τ32.1 22) ∧ τ32.2.1 26 (τ32.1 22) ≤ 20000 := hT.2 26 _
              have av5 : σ.1 5 ≤ τ32.1 5 := ag.1 5 (by decide)
              have av6 : σ.1 6 ≤ τ32.1 6 := ag.1 6 (by decide)
              have av7 : σ.1 7 ≤ τ32.1 7 := ag.1 7 (by decide)
              have av8 : σ.1 8 ≤ τ32.1 8 := ag.1 8 (by decide)
              have av9 : σ.1 9 ≤ τ32.1 9 := ag.1 9 (by decide)
              have Y8 := j_eqt Y8 (j_eqw q30_12 (show σ.1 9 ≤ τ_15.2.1 25 (τ_15.1 22) from by omega))
              exact ⟨hT, (show (τ32.1 16) ≤ (τ32.1 0) from by (first | omega | (simp only [st_s] <;> omega) | assumption | omega)), (show (τ32.1 17) + (τ32.1 18) ≤ (τ32.1 0) from by (first | omega | (simp only [st_s] <;> omega) | assumption | omega)), (show ¬ (σ.1 20) = 0 → (τ32.1 20) = (σ.1 20) from by (first | omega | (simp only [st_s] <;> omega) | assumption | omega)), (show ca (τ32.2.1 12) ((τ32.1 3)) ≤ (τ32.1 4) from Y20), (show J_pa (τ32.2.1 21) (τ32.2.1 22) from PA), (show (τ32.1 13) ≤ (τ32.1 5) from by (first | omega | (simp only [st_s] <;> omega) | assumption | omega)), (show oc (τ32.2.1 7) ≤ (σ.1 5) + 1 from by (first | omega | (simp only [st_s] <;> omega) | assumption | omega)), (show (τ32.1 5) ≤ (σ.1 5) + 1 from by (first | omega | (simp only [st_s] <;> omega) | assumption | omega)), (show (τ32.1 20) = 0 → (τ32.1 7) ≤ 60 * (τ32.1 5) from by (first | omega | (simp only [st_s] <;> omega) | assumption | omega)), (show (τ32.1 20) = 0 → (τ32.1 5) = (σ.1 5) + 1 from by (first | omega | (simp only [st_s] <;> omega) | assumption | omega)), (show j_eq ((σ.1 9)) (σ.2.1 28) (τ32.2.1 28) from Y8), (show (τ32.1 20) = 0 → m_J σ → m_J τ32 from by (first | (intro hf; exfalso; omega) | (intro hf hJ; have e5 : σ.1 5 = τ25.1 22 := (by omega); exact m_J_e hJ ag hT0 Y8 (by omega) (by rw [e5] <;> omega) (by rw [e5] <;> omega) (by rw [e5] <;> omega) (by rw [e5] <;> omega) (by rw [e5] <;> omega) (by rw [e5] <;> omega) (by rw [e5] <;> omega) (by rw [e5] <;> omega) (by rw [e5] <;> omega) (by omega) (by rw [e5]; exact Y14)) | (intro hf hJ; have e5 : σ.1 5 = τ28.1 22 := (by omega); exact m_J_e hJ ag hT0 Y8 (by omega) (by rw [e5] <;> omega) (by rw [e5] <;> omega) (by rw [e5] <;> omega) (by rw [e5] <;> omega) (by rw [e5] <;> omega) (by rw [e5] <;> omega) (by rw [e5] <;> omega) (by rw [e5] <;> omega) (by rw [e5] <;> omega) (by omega) (by rw [e5]; exact Y14)) | (intro hf hJ; have e5 : σ.1 5 = τ32.1 22 := (by omega); exact m_J_e hJ ag hT0 Y8 (by omega) (by rw [e5] <;> omega) (by rw [e5] <;> omega) (by rw [e5] <;> omega) (by rw [e5] <;> omega) (by rw [e5] <;> omega) (by rw [e5] <;> omega) (by rw [e5] <;> omega) (by rw [e5] <;> omega) (by rw [e5] <;> omega) (by omega) (by rw [e5]; exact Y14)))), (show (σ.1 16) ≤ (τ32.1 16) from by (first | omega | (simp only [st_s] <;> omega) | assumption | omega)), ag⟩
          ·
            refine ⟨fun c12 => ?_, fun c12 => ?_⟩
            ·
              refine ⟨_, K_X13_failHere hT (show 0 ≤ 4 from by (first | omega | (simp only [st_s] <;> omega) | assumption | omega)) (show 4 ≤ 19 from by (first | omega | (simp only [st_s] <;> omega) | assumption | omega)), ?_⟩
              intro τ15 hn_τ15 hf_τ15 hq
              obtain ⟨hT, q13_1, q13_2⟩ := hq
              replace q13_1 : ¬ (τ_15.1 20) = 0 → (τ15.1 20) = (τ_15.1 20) := q13_1
              replace q13_2 : (τ_15.1 20) = 0 → (τ15.1 20) = 4 := q13_2
              replace ag : m_ag σ τ15 := ag_r ag hf_τ15 rfl rfl
              have w0_τ15 : τ15.1 0 = τ_15.1 0 := hf_τ15.1 0 (by decide)
              have w3_τ15 : τ15.1 3 = τ_15.1 3 := hf_τ15.1 3 (by decide)
              have w4_τ15 : τ15.1 4 = τ_15.1 4 := hf_τ15.1 4 (by decide)
              have w5_τ15 : τ15.1 5 = τ_15.1 5 := hf_τ15.1 5 (by decide)
              have w6_τ15 : τ15.1 6 = τ_15.1 6 := hf_τ15.1 6 (by decide)
              have w7_τ15 : τ15.1 7 = τ_15.1 7 := hf_τ15.1 7 (by decide)
              have w8_τ15 : τ15.1 8 = τ_15.1 8 := hf_τ15.1 8 (by decide)
              have w9_τ15 : τ15.1 9 = τ_15.1 9 := hf_τ15.1 9 (by decide)
              have w13_τ15 : τ15.1 13 = τ_15.1 13 := hf_τ15.1 13 (by decide)
              have w16_τ15 : τ15.1 16 = τ_15.1 16 := hf_τ15.1 16 (by decide)
              have w17_τ15 : τ15.1 17 = τ_15.1 17 := hf_τ15.1 17 (by decide)
              have w18_τ15 : τ15.1 18 = τ_15.1 18 := hf_τ15.1 18 (by decide)
              have w19_τ15 : τ15.1 19 = τ_15.1 19 := hf_τ15.1 19 (by decide)
              have w22_τ15 : τ15.1 22 = τ_15.1 22 := hf_τ15.1 22 (by decide)
              have g6_τ15 : τ15.2.1 6 = τ_15.2.1 6 := hf_τ15.2.1 6 (by decide)
              have g7_τ15 : τ15.2.1 7 = τ_15.2.1 7 := hf_τ15.2.1 7 (by decide)
              have g12_τ15 : τ15.2.1 12 = τ_15.2.1 12 := hf_τ15.2.1 12 (by decide)
              have g14_τ15 : τ15.2.1 14 = τ_15.2.1 14 := hf_τ15.2.1 14 (by decide)
              have g15_τ15 : τ15.2.1 15 = τ_15.2.1 15 := hf_τ15.2.1 15 (by decide)
              have g18_τ15 : τ15.2.1 18 = τ_15.2.1 18 := hf_τ15.2.1 18 (by decide)
              have g19_τ15 : τ15.2.1 19 = τ_15.2.1 19 := hf_τ15.2.1 19 (by decide)
              have g21_τ15 : τ15.2.1 21 = τ_15.2.1 21 := hf_τ15.2.1 21 (by decide)
              have g22_τ15 : τ15.2.1 22 = τ_15.2.1 22 := hf_τ15.2.1 22 (by decide)
              have g25_τ15 : τ15.2.1 25 = τ_15.2.1 25 := hf_τ15.2.1 25 (by decide)
              have g26_τ15 : τ15.2.1 26 = τ_15.2.1 26 := hf_τ15.2.1 26 (by decide)
              have g28_τ15 : τ15.2.1 28 = τ_15.2.1 28 := hf_τ15.2.1 28 (by decide)
              first | (have o6_τ15 := congrArg oc g6_τ15) | skip
              first | (have o7_τ15 := congrArg oc g7_τ15) | skip
              have W0 : τ15.1 0 = σ.1 0 := by omega
              have W3 : τ15.1 3 = σ.1 3 := by omega
              have G6 : τ15.2.1 6 = σ.2.1 6 := (g6_τ15).trans G6
              have y14_22_τ15 : τ15.2.1 14 (τ15.1 22) = (τ_15.2.1 14) (τ_15.1 22) := by rw [g14_τ15, w22_τ15]
              have y15_22_τ15 : τ15.2.1 15 (τ15.1 22) = (τ_15.2.1 15) (τ_15.1 22) := by rw [g15_τ15, w22_τ15]
              have y18_22_τ15 : τ15.2.1 18 (τ15.1 22) = (τ_15.2.1 18) (τ_15.1 22) := by rw [g18_τ15, w22_τ15]
              have y19_22_τ15 : τ15.2.1 19 (τ15.1 22) = (τ_15.2.1 19) (τ_15.1 22) := by rw [g19_τ15, w22_τ15]
              have y21_22_τ15 : τ15.2.1 21 (τ15.1 22) = (τ_15.2.1 21) (τ_15.1 22) := by rw [g21_τ15, w22_τ15]
              have y22_22_τ15 : τ15.2.1 22 (τ15.1 22) = (τ_15.2.1 22) (τ_15.1 22) := by rw [g22_τ15, w22_τ15]
              have y25_22_τ15 : τ15.2.1 25 (τ15.1 22) = (τ_15.2.1 25) (τ_15.1 22) := by rw [g25_τ15, w22_τ15]
              have y26_22_τ15 : τ15.2.1 26 (τ15.1 22) = (τ_15.2.1 26) (τ_15.1 22) := by rw [g26_τ15, w22_τ15]
              have Z1 : τ15.2.1 14 (τ15.1 22) + τ15.2.1 15 (τ15.1 22) = (τ15.1 6) := by rw [show (τ15.2.1 14 (τ15.1 22) + τ15.2.1 15 (τ15.1 22) = (τ15.1 6)) = (τ_15.2.1 14 (τ_15.1 22) + τ_15.2.1 15 (τ_15.1 22) = (τ_15.1 6)) from by rw [w6_τ15, w22_τ15, g14_τ15, g15_τ15]]; exact Z1
              have Z2 : τ15.2.1 18 (τ15.1 22) + τ15.2.1 19 (τ15.1 22) = (τ15.1 7) := by rw [show (τ15.2.1 18 (τ15.1 22) + τ15.2.1 19 (τ15.1 22) = (τ15.1 7)) = (τ_15.2.1 18 (τ_15.1 22) + τ_15.2.1 19 (τ_15.1 22) = (τ_15.1 7)) from by rw [w7_τ15, w22_τ15, g18_τ15, g19_τ15]]; exact Z2
              have Z3 : τ15.2.1 21 (τ15.1 22) + τ15.2.1 22 (τ15.1 22) = (τ15.1 8) := by rw [show (τ15.2.1 21 (τ15.1 22) + τ15.2.1 22 (τ15.1 22) = (τ15.1 8)) = (τ_15.2.1 21 (τ_15.1 22) + τ_15.2.1 22 (τ_15.1 22) = (τ_15.1 8)) from by rw [w8_τ15, w22_τ15, g21_τ15, g22_τ15]]; exact Z3
              have Z4 : τ15.2.1 25 (τ15.1 22) + τ15.2.1 26 (τ15.1 22) = (τ15.1 9) := by rw [show (τ15.2.1 25 (τ15.1 22) + τ15.2.1 26 (τ15.1 22) = (τ15.1 9)) = (τ_15.2.1 25 (τ_15.1 22) + τ_15.2.1 26 (τ_15.1 22) = (τ_15.1 9)) from by rw [w9_τ15, w22_τ15, g25_τ15, g26_τ15]]; exact Z4
              have Y20 : ca (τ15.2.1 12) ((τ15.1 3)) ≤ (τ15.1 4) := by rw [show (ca (τ15.2.1 12) ((τ15.1 3)) ≤ (τ15.1 4)) = (ca (τ_15.2.1 12) ((τ_15.1 3)) ≤ (τ_15.1 4)) from by rw [w3_τ15, w4_τ15, g12_τ15]]; exact Y20
              have Y8 : j_eq ((σ.1 9)) (σ.2.1 28) (τ15.2.1 28) := by rw [show (j_eq ((σ.1 9)) (σ.2.1 28) (τ15.2.1 28)) = (j_eq ((σ.1 9)) (σ.2.1 28) (τ_15.2.1 28)) from by rw [g28_τ15]]; exact Y8
              have Y14 : ca (τ15.2.1 28) ((τ15.1 9)) ≤ ca (τ15.2.1 28) (τ15.2.1 25 (τ15.1 22)) + 300 := by rw [show (ca (τ15.2.1 28) ((τ15.1 9)) ≤ ca (τ15.2.1 28) (τ15.2.1 25 (τ15.1 22)) + 300) = (ca (τ_15.2.1 28) ((τ_15.1 9)) ≤ ca (τ_15.2.1 28) (τ_15.2.1 25 (τ_15.1 22)) + 300) from by rw [w9_τ15, w22_τ15, g25_τ15, g28_τ15]]; exact Y14
              have PA : J_pa (τ15.2.1 21) (τ15.2.1 22) := by rw [show (J_pa (τ15.2.1 21) (τ15.2.1 22)) = (J_pa (τ_15.2.1 21) (τ_15.2.1 22)) from by rw [g21_τ15, g22_τ15]]; exact PA
              have A6 : ∀ j, (-1) ≤ τ15.2.1 6 j ∧ τ15.2.1 6 j ≤ 999 := fun j => hT.2 6 j
              have A7 : ∀ j, (-1) ≤ τ15.2.1 7 j ∧ τ15.2.1 7 j ≤ 1499 := fun j => hT.2 7 j
              have A12 : ∀ j, 0 ≤ τ15.2.1 12 j ∧ τ15.2.1 12 j ≤ 1 := fun j => hT.2 12 j
              have A14 : ∀ j, 0 ≤ τ15.2.1 14 j ∧ τ15.2.1 14 j ≤ 30000 := fun j => hT.2 14 j
              have A15 : ∀ j, 0 ≤ τ15.2.1 15 j ∧ τ15.2.1 15 j ≤ 300 := fun j => hT.2 15 j
              have A18 : ∀ j, 0 ≤ τ15.2.1 18 j ∧ τ15.2.1 18 j ≤ 90000 := fun j => hT.2 18 j
              have A19 : ∀ j, 0 ≤ τ15.2.1 19 j ∧ τ15.2.1 19 j ≤ 60 := fun j => hT.2 19 j
              have A21 : ∀ j, 0 ≤ τ15.2.1 21 j ∧ τ15.2.1 21 j ≤ 20000 := fun j => hT.2 21 j
              have A22 : ∀ j, 0 ≤ τ15.2.1 22 j ∧ τ15.2.1 22 j ≤ 20000 := fun j => hT.2 22 j
              have A25 : ∀ j, 0 ≤ τ15.2.1 25 j ∧ τ15.2.1 25 j ≤ 20000 := fun j => hT.2 25 j
              have A26 : ∀ j, 0 ≤ τ15.2.1 26 j ∧ τ15.2.1 26 j ≤ 20000 := fun j => hT.2 26 j
              have A28 : ∀ j, 0 ≤ τ15.2.1 28 j ∧ τ15.2.1 28 j ≤ 1 := fun j => hT.2 28 j
              have v0 : 0 ≤ τ15.1 0 ∧ τ15.1 0 ≤ 60000 := hT.1 0
              have v3 : 0 ≤ τ15.1 3 ∧ τ15.1 3 ≤ 1000 := hT.1 3
              have v4 : 0 ≤ τ15.1 4 ∧ τ15.1 4 ≤ 100 := hT.1 4
              have v5 : 0 ≤ τ15.1 5 ∧ τ15.1 5 ≤ 1500 := hT.1 5
              have v6 : 0 ≤ τ15.1 6 ∧ τ15.1 6 ≤ 30000 := hT.1 6
              have v7 : 0 ≤ τ15.1 7 ∧ τ15.1 7 ≤ 90000 := hT.1 7
              have v8 : 0 ≤ τ15.1 8 ∧ τ15.1 8 ≤ 20000 := hT.1 8
              have v9 : 0 ≤ τ15.1 9 ∧ τ15.1 9 ≤ 20000 := hT.1 9
              have v13 : 0 ≤ τ15.1 13 ∧ τ15.1 13 ≤ 1500 := hT.1 13
              have v16 : 0 ≤ τ15.1 16 ∧ τ15.1 16 ≤ 60000 := hT.1 16
              have v17 : 0 ≤ τ15.1 17 ∧ τ15.1 17 ≤ 60000 := hT.1 17
              have v18 : 0 ≤ τ15.1 18 ∧ τ15.1 18 ≤ 60000 := hT.1 18
              have v19 : (-1) ≤ τ15.1 19 ∧ τ15.1 19 ≤ 125 := hT.1 19
              have v20 : 0 ≤ τ15.1 20 ∧ τ15.1 20 ≤ 19 := hT.1 20
              have v22 : 0 ≤ τ15.1 22 ∧ τ15.1 22 ≤ 1499 := hT.1 22
              have a14_22 : 0 ≤ τ15.2.1 14 (τ15.1 22) ∧ τ15.2.1 14 (τ15.1 22) ≤ 30000 := hT.2 14 _
              have a15_22 : 0 ≤ τ15.2.1 15 (τ15.1 22) ∧ τ15.2.1 15 (τ15.1 22) ≤ 300 := hT.2 15 _
              have a18_22 : 0 ≤ τ15.2.1 18 (τ15.1 22) ∧ τ15.2.1 18 (τ15.1 22) ≤ 90000 := hT.2 18 _
              have a19_22 : 0 ≤ τ15.2.1 19 (τ15.1 22) ∧ τ15.2.1 19 (τ15.1 22) ≤ 60 := hT.2 19 _
              have a21_22 : 0 ≤ τ15.2.1 21 (τ15.1 22) ∧ τ15.2.1 21 (τ15.1 22) ≤ 20000 := hT.2 21 _
              have a22_22 : 0 ≤ τ15.2.1 22 (τ15.1 22) ∧ τ15.2.1 22 (τ15.1 22) ≤ 20000 := hT.2 22 _
              have a25_22 : 0 ≤ τ15.2.1 25 (τ15.1 22) ∧ τ15.2.1 25 (τ15.1 22) ≤ 20000 := hT.2 25 _
              have a26_22 : 0 ≤ τ15.2.1 26 (τ15.1 22) ∧ τ15.2.1 26 (τ15.1 22) ≤ 20000 := hT.2 26 _
              have av5 : σ.1 5 ≤ τ15.1 5 := ag.1 5 (by decide)
              have av6 : σ.1 6 ≤ τ15.1 6 := ag.1 6 (by decide)
              have av7 : σ.1 7 ≤ τ15.1 7 := ag.1 7 (by decide)
              have av8 : σ.1 8 ≤ τ15.1 8 := ag.1 8 (by decide)
              have av9 : σ.1 9 ≤ τ15.1 9 := ag.1 9 (by decide)
              exact ⟨hT, (show (τ15.1 16) ≤ (τ15.1 0) from by (first | omega | (simp only [st_s] <;> omega) | assumption | omega)), (show (τ15.1 17) + (τ15.1 18) ≤ (τ15.1 0) from by (first | omega | (simp only [st_s] <;> omega) | assumption | omega)), (show ¬ (σ.1 20) = 0 → (τ15.1 20) = (σ.1 20) from by (first | omega | (simp only [st_s] <;> omega) | assumption | omega)), (show ca (τ15.2.1 12) ((τ15.1 3)) ≤ (τ15.1 4) from Y20), (show J_pa (τ15.2.1 21) (τ15.2.1 22) from PA), (show (τ15.1 13) ≤ (τ15.1 5) from by (first | omega | (simp only [st_s] <;> omega) | assumption | omega)), (show oc (τ15.2.1 7) ≤ (σ.1 5) + 1 from by (first | omega | (simp only [st_s] <;> omega) | assumption | omega)), (show (τ15.1 5) ≤ (σ.1 5) + 1 from by (first | omega | (simp only [st_s] <;> omega) | assumption | omega)), (show (τ15.1 20) = 0 → (τ15.1 7) ≤ 60 * (τ15.1 5) from by (first | omega | (simp only [st_s] <;> omega) | assumption | omega)), (show (τ15.1 20) = 0 → (τ15.1 5) = (σ.1 5) + 1 from by (first | omega | (simp only [st_s] <;> omega) | assumption | omega)), (show j_eq ((σ.1 9)) (σ.2.1 28) (τ15.2.1 28) from Y8), (show (τ15.1 20) = 0 → m_J σ → m_J τ15 from by (first | (intro hf; exfalso; omega) | (intro hf hJ; have e5 : σ.1 5 = τ25.1 22 := (by omega); exact m_J_e hJ ag hT0 Y8 (by omega) (by rw [e5] <;> omega) (by rw [e5] <;> omega) (by rw [e5] <;> omega) (by rw [e5] <;> omega) (by rw [e5] <;> omega) (by rw [e5] <;> omega) (by rw [e5] <;> omega) (by rw [e5] <;> omega) (by rw [e5] <;> omega) (by omega) (by rw [e5]; exact Y14)) | (intro hf hJ; have e5 : σ.1 5 = τ28.1 22 := (by omega); exact m_J_e hJ ag hT0 Y8 (by omega) (by rw [e5] <;> omega) (by rw [e5] <;> omega) (by rw [e5] <;> omega) (by rw [e5] <;> omega) (by rw [e5] <;> omega) (by rw [e5] <;> omega) (by rw [e5] <;> omega) (by rw [e5] <;> omega) (by rw [e5] <;> omega) (by omega) (by rw [e5]; exact Y14)) | (intro hf hJ; have e5 : σ.1 5 = τ32.1 22 := (by omega); exact m_J_e hJ ag hT0 Y8 (by omega) (by rw [e5] <;> omega) (by rw [e5] <;> omega) (by rw [e5] <;> omega) (by rw [e5] <;> omega) (by rw [e5] <;> omega) (by rw [e5] <;> omega) (by rw [e5] <;> omega) (by rw [e5] <;> omega) (by rw [e5] <;> omega) (by omega) (by rw [e5]; exact Y14)))), (show (σ.1 16) ≤ (τ15.1 16) from by (first | omega | (simp only [st_s] <;> omega) | assumption | omega)), ag⟩
            ·
              refine h91 _ ?_
              refine ⟨fun c29 => ?_, fun c29 => ?_⟩
              ·
                refine h106 _ _ ?_
                refine ⟨_, K_X13_readAssertion hT (show (τ_15.1 16) ≤ (τ_15.1 0) from by (first | omega | (simp only [st_s] <;> omega) | assumption | omega)) (show (τ_15.1 17) + (τ_15.1 18) ≤ (τ_15.1 0) from by (first | omega | (simp only [st_s] <;> omega) | assumption | omega)) (show oc (τ_15.2.1 6) < 4096 from by (first | omega | (simp only [st_s] <;> omega) | assumption | omega)) (show oc (τ_15.2.1 7) < 4096 from by (first | omega | (simp only [st_s] <;> omega) | assumption | omega)) (show 0 ≤ 0 from by (first | omega | (simp only [st_s] <;> omega) | assumption | omega)) (show 0 ≤ 1 from by (first | omega | (simp only [st_s] <;> omega) | assumption | omega)) (show τ_15.2.1 15 (τ_15.1 22) = 0 from by (first | omega | (simp only [st_s] <;> omega) | assumption | omega)) (show τ_15.2.1 26 (τ_15.1 22) = 0 from by (first | omega | (simp only [st_s] <;> omega) | assumption | omega)) (show (τ_15.1 22) = (τ_15.1 5) from by (first | omega | (simp only [st_s] <;> omega) | assumption | omega)) (show τ_15.2.1 14 (τ_15.1 22) + τ_15.2.1 15 (τ_15.1 22) = (τ_15.1 6) from Z1) (show τ_15.2.1 18 (τ_15.1 22) + τ_15.2.1 19 (τ_15.1 22) = (τ_15.1 7) from Z2) (show τ_15.2.1 21 (τ_15.1 22) + τ_15.2.1 22 (τ_15.1 22) = (τ_15.1 8) from Z3) (show τ_15.2.1 25 (τ_15.1 22) + τ_15.2.1 26 (τ_15.1 22) = (τ_15.1 9) from Z4) (show ca (τ_15.2.1 12) ((τ_15.1 3)) ≤ (τ_15.1 4) from Y20) (show J_pa (τ_15.2.1 21) (τ_15.2.1 22) from PA) (show (τ_15.1 7) ≤ 60 * (τ_15.1 22) + τ_15.2.1 19 (τ_15.1 22) from by (first | omega | (simp only [st_s] <;> omega) | assumption | omega)) (show (τ_15.1 5) < 1500 from by (first | omega | (simp only [st_s] <;> omega) | assumption | omega)), ?_⟩
                intro τ32 hn_τ32 hf_τ32 hq
                obtain ⟨hT, q30_1, q30_2, q30_3, q30_4, q30_5, q30_6, q30_7, q30_8, q30_9, q30_10, q30_11, q30_12, q30_13, q30_14, q30_15, q30_16⟩ := hq
                replace q30_1 : (τ32.1 16) ≤ (τ32.1 0) := q30_1
                replace q30_2 : (τ32.1 17) + (τ32.1 18) ≤ (τ32.1 0) := q30_2
                replace q30_3 : ¬ (τ_15.1 20) = 0 → (τ32.1 20) = (τ_15.1 20) := q30_3
                replace q30_4 : τ32.2.1 14 (τ32.1 22) + τ32.2.1 15 (τ32.1 22) = (τ32.1 6) := q30_4
                replace q30_5 : τ32.2.1 18 (τ32.1 22) + τ32.2.1 19 (τ32.1 22) = (τ32.1 7) := q30_5
                replace q30_6 : τ32.2.1 21 (τ32.1 22) + τ32.2.1 22 (τ32.1 22) = (τ32.1 8) := q30_6
                replace q30_7 : ca (τ32.2.1 12) ((τ32.1 3)) ≤ (τ32.1 4) := q30_7
                replace q30_8 : J_pa (τ32.2.1 21) (τ32.2.1 22) := q30_8
                replace q30_9 : (τ32.1 7) ≤ 60 * (τ32.1 22) + τ32.2.1 19 (τ32.1 22) := q30_9
                replace q30_10 : τ32.2.1 25 (τ32.1 22) + τ32.2.1 26 (τ32.1 22) = (τ32.1 9) := q30_10
                replace q30_11 : ca (τ32.2.1 28) ((τ32.1 9)) ≤ ca (τ32.2.1 28) (τ32.2.1 25 (τ32.1 22)) + 300 := q30_11
                replace q30_12 : j_eq (τ_15.2.1 25 (τ_15.1 22)) (τ_15.2.1 28) (τ32.2.1 28) := q30_12
                replace q30_13 : (τ32.1 20) = 0 → (τ32.1 5) = (τ_15.1 5) + 1 ∧ 1 ≤ τ32.2.1 15 (τ32.1 22) := q30_13
                replace q30_14 : (τ32.1 5) ≤ (τ_15.1 5) + 1 := q30_14
                replace q30_15 : (τ_15.1 16) ≤ (τ32.1 16) := q30_15
                replace q30_16 : m_ag τ_15 τ32 := q30_16
                replace ag : m_ag σ τ32 := ag_t ag q30_16 rfl
                have w0_τ32 : τ32.1 0 = τ_15.1 0 := hf_τ32.1 0 (by decide)
                have w3_τ32 : τ32.1 3 = τ_15.1 3 := hf_τ32.1 3 (by decide)
                have w13_τ32 : τ32.1 13 = τ_15.1 13 := hf_τ32.1 13 (by decide)
                have w22_τ32 : τ32.1 22 = τ_15.1 22 := hf_τ32.1 22 (by decide)
                have g6_τ32 : τ32.2.1 6 = τ_15.2.1 6 := hf_τ32.2.1 6 (by decide)
                have g7_τ32 : τ32.2.1 7 = τ_15.2.1 7 := hf_τ32.2.1 7 (by decide)
                have g14_τ32 : τ32.2.1 14 = τ_15.2.1 14 := hf_τ32.2.1 14 (by decide)
                have g18_τ32 : τ32.2.1 18 = τ_15.2.1 18 := hf_τ32.2.1 18 (by decide)
                have g21_τ32 : τ32.2.1 21 = τ_15.2.1 21 := hf_τ32.2.1 21 (by decide)
                have g25_τ32 : τ32.2.1 25 = τ_15.2.1 25 := hf_τ32.2.1 25 (by decide)
                first | (have o6_τ32 := congrArg oc g6_τ32) | skip
                first | (have o7_τ32 := congrArg oc g7_τ32) | skip
                have W0 : τ32.1 0 = σ.1 0 := by omega
                have W3 : τ32.1 3 = σ.1 3 := by omega
                have G6 : τ32.2.1 6 = σ.2.1 6 := (g6_τ32).trans G6
                have y14_22_τ32 : τ32.2.1 14 (τ32.1 22) = (τ_15.2.1 14) (τ_15.1 22) := by rw [g14_τ32, w22_τ32]
                have y18_22_τ32 : τ32.2.1 18 (τ32.1 22) = (τ_15.2.1 18) (τ_15.1 22) := by rw [g18_τ32, w22_τ32]
                have y21_22_τ32 : τ32.2.1 21 (τ32.1 22) = (τ_15.2.1 21) (τ_15.1 22) := by rw [g21_τ32, w22_τ32]
                have y25_22_τ32 : τ32.2.1 25 (τ32.1 22) = (τ_15.2.1 25) (τ_15.1 22) := by rw [g25_τ32, w22_τ32]
                have Z1 : τ32.2.1 14 (τ32.1 22) + τ32.2.1 15 (τ32.1 22) = (τ32.1 6) := q30_4
                have Z2 : τ32.2.1 18 (τ32.1 22) + τ32.2.1 19 (τ32.1 22) = (τ32.1 7) := q30_5
                have Z3 : τ32.2.1 21 (τ32.1 22) + τ32.2.1 22 (τ32.1 22) = (τ32.1 8) := q30_6
                have Z4 : τ32.2.1 25 (τ32.1 22) + τ32.2.1 26 (τ32.1 22) = (τ32.1 9) := q30_10
                have Y20 : ca (τ32.2.1 12) ((τ32.1 3)) ≤ (τ32.1 4) := q30_7
                have Y14 : ca (τ32.2.1 28) ((τ32.1 9)) ≤ ca (τ32.2.1 28) (τ32.2.1 25 (τ32.1 22)) + 300 := q30_11
                have PA : J_pa (τ32.2.1 21) (τ32.2.1 22) := q30_8
                have A6 : ∀ j, (-1) ≤ τ32.2.1 6 j ∧ τ32.2.1 6 j ≤ 999 := fun j => hT.2 6 j
                have A7 : ∀ j, (-1) ≤ τ32.2.1 7 j ∧ τ32.2.1 7 j ≤ 1499 := fun j => hT.2 7 j
                have A12 : ∀ j, 0 ≤ τ32.2.1 12 j ∧ τ32.2.1 12 j ≤ 1 := fun j => hT.2 12 j
                have A14 : ∀ j, 0 ≤ τ32.2.1 14 j ∧ τ32.2.1 14 j ≤ 30000 := fun j => hT.2 14 j
                have A15 : ∀ j, 0 ≤ τ32.2.1 15 j ∧ τ32.2.1 15 j ≤ 300 := fun j => hT.2 15 j
                have A18 : ∀ j, 0 ≤ τ32.2.1 18 j ∧ τ32.2.1 18 j ≤ 90000 := fun j => hT.2 18 j
                have A19 : ∀ j, 0 ≤ τ32.2.1 19 j ∧ τ32.2.1 19 j ≤ 60 := fun j => hT.2 19 j
                have A21 : ∀ j, 0 ≤ τ32.2.1 21 j ∧ τ32.2.1 21 j ≤ 20000 := fun j => hT.2 21 j
                have A22 : ∀ j, 0 ≤ τ32.2.1 22 j ∧ τ32.2.1 22 j ≤ 20000 := fun j => hT.2 22 j
                have A25 : ∀ j, 0 ≤ τ32.2.1 25 j ∧ τ32.2.1 25 j ≤ 20000 := fun j => hT.2 25 j
                have A26 : ∀ j, 0 ≤ τ32.2.1 26 j ∧ τ32.2.1 26 j ≤ 20000 := fun j => hT.2 26 j
                have A28 : ∀ j, 0 ≤ τ32.2.1 28 j ∧ τ32.2.1 28 j ≤ 1 := fun j => hT.2 28 j
                have v0 : 0 ≤ τ32.1 0 ∧ τ32.1 0 ≤ 60000 := hT.1 0
                have v3 : 0 ≤ τ32.1 3 ∧ τ32.1 3 ≤ 1000 := hT.1 3
                have v4 : 0 ≤ τ32.1 4 ∧ τ32.1 4 ≤ 100 := hT.1 4
                have v5 : 0 ≤ τ32.1 5 ∧ τ32.1 5 ≤ 1500 := hT.1 5
                have v6 : 0 ≤ τ32.1 6 ∧ τ32.1 6 ≤ 30000 := hT.1 6
                have v7 : 0 ≤ τ32.1 7 ∧ τ32.1 7 ≤ 90000 := hT.1 7
                have v8 : 0 ≤ τ32.1 8 ∧ τ32.1 8 ≤ 20000 := hT.1 8
                have v9 : 0 ≤ τ32.1 9 ∧ τ32.1 9 ≤ 20000 := hT.1 9
                have v13 : 0 ≤ τ32.1 13 ∧ τ32.1 13 ≤ 1500 := hT.1 13
                have v16 : 0 ≤ τ32.1 16 ∧ τ32.1 16 ≤ 60000 := hT.1 16
                have v17 : 0 ≤ τ32.1 17 ∧ τ32.1 17 ≤ 60000 := hT.1 17
                have v18 : 0 ≤ τ32.1 18 ∧ τ32.1 18 ≤ 60000 := hT.1 18
                have v19 : (-1) ≤ τ32.1 19 ∧ τ32.1 19 ≤ 125 := hT.1 19
                have v20 : 0 ≤ τ32.1 20 ∧ τ32.1 20 ≤ 19 := hT.1 20
                have v22 : 0 ≤ τ32.1 22 ∧ τ32.1 22 ≤ 1499 := hT.1 22
                have a14_22 : 0 ≤ τ32.2.1 14 (τ32.1 22) ∧ τ32.2.1 14 (τ32.1 22) ≤ 30000 := hT.2 14 _
                have a15_22 : 0 ≤ τ32.2.1 15 (τ32.1 22) ∧ τ32.2.1 15 (τ32.1 22) ≤ 300 := hT.2 15 _
                have a18_22 : 0 ≤ τ32.2.1 18 (τ32.1 22) ∧ τ32.2.1 18 (τ32.1 22) ≤ 90000 := hT.2 18 _
                have a19_22 : 0 ≤ τ32.2.1 19 (τ32.1 22) ∧ τ32.2.1 19 (τ32.1 22) ≤ 60 := hT.2 19 _
                have a21_22 : 0 ≤ τ32.2.1 21 (τ32.1 22) ∧ τ32.2.1 21 (τ32.1 22) ≤ 20000 := hT.2 21 _
                have a22_22 : 0 ≤ τ32.2.1 22 (τ32.1 22) ∧ τ32.2.1 22 (τ32.1 22) ≤ 20000 := hT.2 22 _
                have a25_22 : 0 ≤ τ32.2.1 25 (τ32.1 22) ∧ τ32.2.1 25 (τ32.1 22) ≤ 20000 := hT.2 25 _
                have a26_22 : 0 ≤ τ32.2.1 26 (τ32.1 22) ∧ τ32.2.1 26 (τ32.1 22) ≤ 20000 := hT.2 26 _
                have av5 : σ.1 5 ≤ τ32.1 5 := ag.1 5 (by decide)
                have av6 : σ.1 6 ≤ τ32.1 6 := ag.1 6 (by decide)
                have av7 : σ.1 7 ≤ τ32.1 7 := ag.1 7 (by decide)
                have av8 : σ.1 8 ≤ τ32.1 8 := ag.1 8 (by decide)
                have av9 : σ.1 9 ≤ τ32.1 9 := ag.1 9 (by decide)
                have Y8 := j_eqt Y8 (j_eqw q30_12 (show σ.1 9 ≤ τ_15.2.1 25 (τ_15.1 22) from by omega))
                exact ⟨hT, (show (τ32.1 16) ≤ (τ32.1 0) from by (first | omega | (simp only [st_s] <;> omega) | assumption | omega)), (show (τ32.1 17) + (τ32.1 18) ≤ (τ32.1 0) from by (first | omega | (simp only [st_s] <;> omega) | assumption | omega)), (show ¬ (σ.1 20) = 0 → (τ32.1 20) = (σ.1 20) from by (first | omega | (simp only [st_s] <;> omega) | assumption | omega)), (show ca (τ32.2.1 12) ((τ32.1 3)) ≤ (τ32.1 4) from Y20), (show J_pa (τ32.2.1 21) (τ32.2.1 22) from PA), (show (τ32.1 13) ≤ (τ32.1 5) from by (first | omega | (simp only [st_s] <;> omega) | assumption | omega)), (show oc (τ32.2.1 7) ≤ (σ.1 5) + 1 from by (first | omega | (simp only [st_s] <;> omega) | assumption | omega)), (show (τ32.1 5) ≤ (σ.1 5) + 1 from by (first | omega | (simp only [st_s] <;> omega) | assumption | omega)), (show (τ32.1 20) = 0 → (τ32.1 7) ≤ 60 * (τ32.1 5) from by (first | omega | (simp only [st_s] <;> omega) | assumption | omega)), (show (τ32.1 20) = 0 → (τ32.1 5) = (σ.1 5) + 1 from by (first | omega | (simp only [st_s] <;> omega) | assumption | omega)), (show j_eq ((σ.1 9)) (σ.2.1 28) (τ32.2.1 28) from Y8), (show (τ32.1 20) = 0 → m_J σ → m_J τ32 from by (first | (intro hf; exfalso; omega) | (intro hf hJ; have e5 : σ.1 5 = τ25.1 22 := (by omega); exact m_J_e hJ ag hT0 Y8 (by omega) (by rw [e5] <;> omega) (by rw [e5] <;> omega) (by rw [e5] <;> omega) (by rw [e5] <;> omega) (by rw [e5] <;> omega) (by rw [e5] <;> omega) (by rw [e5] <;> omega) (by rw [e5] <;> omega) (by rw [e5] <;> omega) (by omega) (by rw [e5]; exact Y14)) | (intro hf hJ; have e5 : σ.1 5 = τ28.1 22 := (by omega); exact m_J_e hJ ag hT0 Y8 (by omega) (by rw [e5] <;> omega) (by rw [e5] <;> omega) (by rw [e5] <;> omega) (by rw [e5] <;> omega) (by rw [e5] <;> omega) (by rw [e5] <;> omega) (by rw [e5] <;> omega) (by rw [e5] <;> omega) (by rw [e5] <;> omega) (by omega) (by rw [e5]; exact Y14)) | (intro hf hJ; have e5 : σ.1 5 = τ32.1 22 := (by omega); exact m_J_e hJ ag hT0 Y8 (by omega) (by rw [e5] <;> omega) (by rw [e5] <;> omega) (by rw [e5] <;> omega) (by rw [e5] <;> omega) (by rw [e5] <;> omega) (by rw [e5] <;> omega) (by rw [e5] <;> omega) (by rw [e5] <;> omega) (by rw [e5] <;> omega) (by omega) (by rw [e5]; exact Y14)))), (show (σ.1 16) ≤ (τ32.1 16) from by (first | omega | (simp only [st_s] <;> omega) | assumption | omega)), ag⟩
              ·
                refine h106 _ _ ?_
                refine ⟨_, K_X13_readAssertion hT (show (τ_15.1 16) ≤ (τ_15.1 0) from by (first | omega | (simp only [st_s] <;> omega) | assumption | omega)) (show (τ_15.1 17) + (τ_15.1 18) ≤ (τ_15.1 0) from by (first | omega | (simp only [st_s] <;> omega) | assumption | omega)) (show oc (τ_15.2.1 6) < 4096 from by (first | omega | (simp only [st_s] <;> omega) | assumption | omega)) (show oc (τ_15.2.1 7) < 4096 from by (first | omega | (simp only [st_s] <;> omega) | assumption | omega)) (show 0 ≤ 1 from by (first | omega | (simp only [st_s] <;> omega) | assumption | omega)) (show 1 ≤ 1 from by (first | omega | (simp only [st_s] <;> omega) | assumption | omega)) (show τ_15.2.1 15 (τ_15.1 22) = 0 from by (first | omega | (simp only [st_s] <;> omega) | assumption | omega)) (show τ_15.2.1 26 (τ_15.1 22) = 0 from by (first | omega | (simp only [st_s] <;> omega) | assumption | omega)) (show (τ_15.1 22) = (τ_15.1 5) from by (first | omega | (simp only [st_s] <;> omega) | assumption | omega)) (show τ_15.2.1 14 (τ_15.1 22) + τ_15.2.1 15 (τ_15.1 22) = (τ_15.1 6) from Z1) (show τ_15.2.1 18 (τ_15.1 22) + τ_15.2.1 19 (τ_15.1 22) = (τ_15.1 7) from Z2) (show τ_15.2.1 21 (τ_15.1 22) + τ_15.2.1 22 (τ_15.1 22) = (τ_15.1 8) from Z3) (show τ_15.2.1 25 (τ_15.1 22) + τ_15.2.1 26 (τ_15.1 22) = (τ_15.1 9) from Z4) (show ca (τ_15.2.1 12) ((τ_15.1 3)) ≤ (τ_15.1 4) from Y20) (show J_pa (τ_15.2.1 21) (τ_15.2.1 22) from PA) (show (τ_15.1 7) ≤ 60 * (τ_15.1 22) + τ_15.2.1 19 (τ_15.1 22) from by (first | omega | (simp only [st_s] <;> omega) | assumption | omega)) (show (τ_15.1 5) < 1500 from by (first | omega | (simp only [st_s] <;> omega) | assumption | omega)), ?_⟩
                intro τ32 hn_τ32 hf_τ32 hq
                obtain ⟨hT, q30_1, q30_2, q30_3, q30_4, q30_5, q30_6, q30_7, q30_8, q30_9, q30_10, q30_11, q30_12, q30_13, q30_14, q30_15, q30_16⟩ := hq
                replace q30_1 : (τ32.1 16) ≤ (τ32.1 0) := q30_1
                replace q30_2 : (τ32.1 17) + (τ32.1 18) ≤ (τ32.1 0) := q30_2
                replace q30_3 : ¬ (τ_15.1 20) = 0 → (τ32.1 20) = (τ_15.1 20) := q30_3
                replace q30_4 : τ32.2.1 14 (τ32.1 22) + τ32.2.1 15 (τ32.1 22) = (τ32.1 6) := q30_4
                replace q30_5 : τ32.2.1 18 (τ32.1 22) + τ32.2.1 19 (τ32.1 22) = (τ32.1 7) := q30_5
                replace q30_6 : τ32.2.1 21 (τ32.1 22) + τ32.2.1 22 (τ32.1 22) = (τ32.1 8) := q30_6
                replace q30_7 : ca (τ32.2.1 12) ((τ32.1 3)) ≤ (τ32.1 4) := q30_7
                replace q30_8 : J_pa (τ32.2.1 21) (τ32.2.1 22) := q30_8
                replace q30_9 : (τ32.1 7) ≤ 60 * (τ32.1 22) + τ32.2.1 19 (τ32.1 22) := q30_9
                replace q30_10 : τ32.2.1 25 (τ32.1 22) + τ32.2.1 26 (τ32.1 22) = (τ32.1 9) := q30_10
                replace q30_11 : ca (τ32.2.1 28) ((τ32.1 9)) ≤ ca (τ32.2.1 28) (τ32.2.1 25 (τ32.1 22)) + 300 := q30_11
                replace q30_12 : j_eq (τ_15.2.1 25 (τ_15.1 22)) (τ_15.2.1 28) (τ32.2.1 28) := q30_12
                replace q30_13 : (τ32.1 20) = 0 → (τ32.1 5) = (τ_15.1 5) + 1 ∧ 1 ≤ τ32.2.1 15 (τ32.1 22) := q30_13
                replace q30_14 : (τ32.1 5) ≤ (τ_15.1 5) + 1 := q30_14
                replace q30_15 : (τ_15.1 16) ≤ (τ32.1 16) := q30_15
                replace q30_16 : m_ag τ_15 τ32 := q30_16
                replace ag : m_ag σ τ32 := ag_t ag q30_16 rfl
                have w0_τ32 : τ32.1 0 = τ_15.1 0 := hf_τ32.1 0 (by decide)
                have w3_τ32 : τ32.1 3 = τ_15.1 3 := hf_τ32.1 3 (by decide)
                have w13_τ32 : τ32.1 13 = τ_15.1 13 := hf_τ32.1 13 (by decide)
                have w22_τ32 : τ32.1 22 = τ_15.1 22 := hf_τ32.1 22 (by decide)
                have g6_τ32 : τ32.2.1 6 = τ_15.2.1 6 := hf_τ32.2.1 6 (by decide)
                have g7_τ32 : τ32.2.1 7 = τ_15.2.1 7 := hf_τ32.2.1 7 (by decide)
                have g14_τ32 : τ32.2.1 14 = τ_15.2.1 14 := hf_τ32.2.1 14 (by decide)
                have g18_τ32 : τ32.2.1 18 = τ_15.2.1 18 := hf_τ32.2.1 18 (by decide)
                have g21_τ32 : τ32.2.1 21 = τ_15.2.1 21 := hf_τ32.2.1 21 (by decide)
                have g25_τ32 : τ32.2.1 25 = τ_15.2.1 25 := hf_τ32.2.1 25 (by decide)
                first | (have o6_τ32 := congrArg oc g6_τ32) | skip
                first | (have o7_τ32 := congrArg oc g7_τ32) | skip
                have W0 : τ32.1 0 = σ.1 0 := by omega
                have W3 : τ32.1 3 = σ.1 3 := by omega
                have G6 : τ32.2.1 6 = σ.2.1 6 := (g6_τ32).trans G6
                have y14_22_τ32 : τ32.2.1 14 (τ32.1 22) = (τ_15.2.1 14) (τ_15.1 22) := by rw [g14_τ32, w22_τ32]
                have y18_22_τ32 : τ32.2.1 18 (τ32.1 22) = (τ_15.2.1 18) (τ_15.1 22) := by rw [g18_τ32, w22_τ32]
                have y21_22_τ32 : τ32.2.1 21 (τ32.1 22) = (τ_15.2.1 21) (τ_15.1 22) := by rw [g21_τ32, w22_τ32]
                have y25_22_τ32 : τ32.2.1 25 (τ32.1 22) = (τ_15.2.1 25) (τ_15.1 22) := by rw [g25_τ32, w22_τ32]
                have Z1 : τ32.2.1 14 (τ32.1 22) + τ32.2.1 15 (τ32.1 22) = (τ32.1 6) := q30_4
                have Z2 : τ32.2.1 18 (τ32.1 22) + τ32.2.1 19 (τ32.1 22) = (τ32.1 7) := q30_5
                have Z3 : τ32.2.1 21 (τ32.1 22) + τ32.2.1 22 (τ32.1 22) = (τ32.1 8) := q30_6
                have Z4 : τ32.2.1 25 (τ32.1 22) + τ32.2.1 26 (τ32.1 22) = (τ32.1 9) := q30_10
                have Y20 : ca (τ32.2.1 12) ((τ32.1 3)) ≤ (τ32.1 4) := q30_7
                have Y14 : ca (τ32.2.1 28) ((τ32.1 9)) ≤ ca (τ32.2.1 28) (τ32.2.1 25 (τ32.1 22)) + 300 := q30_11
                have PA : J_pa (τ32.2.1 21) (τ32.2.1 22) := q30_8
                have A6 : ∀ j, (-1) ≤ τ32.2.1 6 j ∧ τ32.2.1 6 j ≤ 999 := fun j => hT.2 6 j
                have A7 : ∀ j, (-1) ≤ τ32.2.1 7 j ∧ τ32.2.1 7 j ≤ 1499 := fun j => hT.2 7 j
                have A12 : ∀ j, 0 ≤ τ32.2.1 12 j ∧ τ32.2.1 12 j ≤ 1 := fun j => hT.2 12 j
                have A14 : ∀ j, 0 ≤ τ32.2.1 14 j ∧ τ32.2.1 14 j ≤ 30000 := fun j => hT.2 14 j
                have A15 : ∀ j, 0 ≤ τ32.2.1 15 j ∧ τ32.2.1 15 j ≤ 300 := fun j => hT.2 15 j
                have A18 : ∀ j, 0 ≤ τ32.2.1 18 j ∧ τ32.2.1 18 j ≤ 90000 := fun j => hT.2 18 j
                have A19 : ∀ j, 0 ≤ τ32.2.1 19 j ∧ τ32.2.1 19 j ≤ 60 := fun j => hT.2 19 j
                have A21 : ∀ j, 0 ≤ τ32.2.1 21 j ∧ τ32.2.1 21 j ≤ 20000 := fun j => hT.2 21 j
                have A22 : ∀ j, 0 ≤ τ32.2.1 22 j ∧ τ32.2.1 22 j ≤ 20000 := fun j => hT.2 22 j
                have A25 : ∀ j, 0 ≤ τ32.2.1 25 j ∧ τ32.2.1 25 j ≤ 20000 := fun j => hT.2 25 j
                have A26 : ∀ j, 0 ≤ τ32.2.1 26 j ∧ τ32.2.1 26 j ≤ 20000 := fun j => hT.2 26 j
                have A28 : ∀ j, 0 ≤ τ32.2.1 28 j ∧ τ32.2.1 28 j ≤ 1 := fun j => hT.2 28 j
                have v0 : 0 ≤ τ32.1 0 ∧ τ32.1 0 ≤ 60000 := hT.1 0
                have v3 : 0 ≤ τ32.1 3 ∧ τ32.1 3 ≤ 1000 := hT.1 3
                have v4 : 0 ≤ τ32.1 4 ∧ τ32.1 4 ≤ 100 := hT.1 4
                have v5 : 0 ≤ τ32.1 5 ∧ τ32.1 5 ≤ 1500 := hT.1 5
                have v6 : 0 ≤ τ32.1 6 ∧ τ32.1 6 ≤ 30000 := hT.1 6
                have v7 : 0 ≤ τ32.1 7 ∧ τ32.1 7 ≤ 90000 := hT.1 7
                have v8 : 0 ≤ τ32.1 8 ∧ τ32.1 8 ≤ 20000 := hT.1 8
                have v9 : 0 ≤ τ32.1 9 ∧ τ32.1 9 ≤ 20000 := hT.1 9
                have v13 : 0 ≤ τ32.1 13 ∧ τ32.1 13 ≤ 1500 := hT.1 13
                have v16 : 0 ≤ τ32.1 16 ∧ τ32.1 16 ≤ 60000 := hT.1 16
                have v17 : 0 ≤ τ32.1 17 ∧ τ32.1 17 ≤ 60000 := hT.1 17
                have v18 : 0 ≤ τ32.1 18 ∧ τ32.1 18 ≤ 60000 := hT.1 18
                have v19 : (-1) ≤ τ32.1 19 ∧ τ32.1 19 ≤ 125 := hT.1 19
                have v20 : 0 ≤ τ32.1 20 ∧ τ32.1 20 ≤ 19 := hT.1 20
                have v22 : 0 ≤ τ32.1 22 ∧ τ32.1 22 ≤ 1499 := hT.1 22
                have a14_22 : 0 ≤ τ32.2.1 14 (τ32.1 22) ∧ τ32.2.1 14 (τ32.1 22) ≤ 30000 := hT.2 14 _
                have a15_22 : 0 ≤ τ32.2.1 15 (τ32.1 22) ∧ τ32.2.1 15 (τ32.1 22) ≤ 300 := hT.2 15 _
                have a18_22 : 0 ≤ τ32.2.1 18 (τ32.1 22) ∧ τ32.2.1 18 (τ32.1 22) ≤ 90000 := hT.2 18 _
                have a19_22 : 0 ≤ τ32.2.1 19 (τ32.1 22) ∧ τ32.2.1 19 (τ32.1 22) ≤ 60 := hT.2 19 _
                have a21_22 : 0 ≤ τ32.2.1 21 (τ32.1 22) ∧ τ32.2.1 21 (τ32.1 22) ≤ 20000 := hT.2 21 _
                have a22_22 : 0 ≤ τ32.2.1 22 (τ32.1 22) ∧ τ32.2.1 22 (τ32.1 22) ≤ 20000 := hT.2 22 _
                have a25_22 : 0 ≤ τ32.2.1 25 (τ32.1 22) ∧ τ32.2.1 25 (τ32.1 22) ≤ 20000 := hT.2 25 _
                have a26_22 : 0 ≤ τ32.2.1 26 (τ32.1 22) ∧ τ32.2.1 26 (τ32.1 22) ≤ 20000 := hT.2 26 _
                have av5 : σ.1 5 ≤ τ32.1 5 := ag.1 5 (by decide)
                have av6 : σ.1 6 ≤ τ32.1 6 := ag.1 6 (by decide)
                have av7 : σ.1 7 ≤ τ32.1 7 := ag.1 7 (by decide)
                have av8 : σ.1 8 ≤ τ32.1 8 := ag.1 8 (by decide)
                have av9 : σ.1 9 ≤ τ32.1 9 := ag.1 9 (by decide)
                have Y8 := j_eqt Y8 (j_eqw q30_12 (show σ.1 9 ≤ τ_15.2.1 25 (τ_15.1 22) from by omega))
                exact ⟨hT, (show (τ32.1 16) ≤ (τ32.1 0) from by (first | omega | (simp only [st_s] <;> omega) | assumption | omega)), (show (τ32.1 17) + (τ32.1 18) ≤ (τ32.1 0) from by (first | omega | (simp only [st_s] <;> omega) | assumption | omega)), (show ¬ (σ.1 20) = 0 → (τ32.1 20) = (σ.1 20) from by (first | omega | (simp only [st_s] <;> omega) | assumption | omega)), (show ca (τ32.2.1 12) ((τ32.1 3)) ≤ (τ32.1 4) from Y20), (show J_pa (τ32.2.1 21) (τ32.2.1 22) from PA), (show (τ32.1 13) ≤ (τ32.1 5) from by (first | omega | (simp only [st_s] <;> omega) | assumption | omega)), (show oc (τ32.2.1 7) ≤ (σ.1 5) + 1 from by (first | omega | (simp only [st_s] <;> omega) | assumption | omega)), (show (τ32.1 5) ≤ (σ.1 5) + 1 from by (first | omega | (simp only [st_s] <;> omega) | assumption | omega)), (show (τ32.1 20) = 0 → (τ32.1 7) ≤ 60 * (τ32.1 5) from by (first | omega | (simp only [st_s] <;> omega) | assumption | omega)), (show (τ32.1 20) = 0 → (τ32.1 5) = (σ.1 5) + 1 from by (first | omega | (simp only [st_s] <;> omega) | assumption | omega)), (show j_eq ((σ.1 9)) (σ.2.1 28) (τ32.2.1 28) from Y8), (show (τ32.1 20) = 0 → m_J σ → m_J τ32 from by (first | (intro hf; exfalso; omega) | (intro hf hJ; have e5 : σ.1 5 = τ25.1 22 := (by omega); exact m_J_e hJ ag hT0 Y8 (by omega) (by rw [e5] <;> omega) (by rw [e5] <;> omega) (by rw [e5] <;> omega) (by rw [e5] <;> omega) (by rw [e5] <;> omega) (by rw [e5] <;> omega) (by rw [e5] <;> omega) (by rw [e5] <;> omega) (by rw [e5] <;> omega) (by omega) (by rw [e5]; exact Y14)) | (intro hf hJ; have e5 : σ.1 5 = τ28.1 22 := (by omega); exact m_J_e hJ ag hT0 Y8 (by omega) (by rw [e5] <;> omega) (by rw [e5] <;> omega) (by rw [e5] <;> omega) (by rw [e5] <;> omega) (by rw [e5] <;> omega) (by rw [e5] <;> omega) (by rw [e5] <;> omega) (by rw [e5] <;> omega) (by rw [e5] <;> omega) (by omega) (by rw [e5]; exact Y14)) | (intro hf hJ; have e5 : σ.1 5 = τ32.1 22 := (by omega); exact m_J_e hJ ag hT0 Y8 (by omega) (by rw [e5] <;> omega) (by rw [e5] <;> omega) (by rw [e5] <;> omega) (by rw [e5] <;> omega) (by rw [e5] <;> omega) (by rw [e5] <;> omega) (by rw [e5] <;> omega) (by rw [e5] <;> omega) (by rw [e5] <;> omega) (by omega) (by rw [e5]; exact Y14)))), (show (σ.1 16) ≤ (τ32.1 16) from by (first | omega | (simp only [st_s] <;> omega) | assumption | omega)), ag⟩
        ·
          refine ⟨_, K_X13_readSymbols hT (show (τ_15.1 16) ≤ (τ_15.1 0) from by (first | omega | (simp only [st_s] <;> omega) | assumption | omega)) (show (τ_15.1 17) + (τ_15.1 18) ≤ (τ_15.1 0) from by (first | omega | (simp only [st_s] <;> omega) | assumption | omega)) (show oc (τ_15.2.1 6) < 4096 from by (first | omega | (simp only [st_s] <;> omega) | assumption | omega)) (show oc (τ_15.2.1 7) < 4096 from by (first | omega | (simp only [st_s] <;> omega) | assumption | omega)) (show τ_15.2.1 15 (τ_15.1 22) = 0 from by (first | omega | (simp only [st_s] <;> omega) | assumption | omega)) (show (τ_15.1 22) = (τ_15.1 5) from by (first | omega | (simp only [st_s] <;> omega) | assumption | omega)) (show τ_15.2.1 14 (τ_15.1 22) + τ_15.2.1 15 (τ_15.1 22) = (τ_15.1 6) from Z1) (show ca (τ_15.2.1 12) ((τ_15.1 3)) ≤ (τ_15.1 4) from Y20), ?_⟩
          intro τ18 hn_τ18 hf_τ18 hq
          obtain ⟨hT, q16_1, q16_2, q16_3, q16_4, q16_5, q16_6, q16_7, q16_8⟩ := hq
          replace q16_1 : (τ18.1 16) ≤ (τ18.1 0) := q16_1
          replace q16_2 : (τ18.1 17) + (τ18.1 18) ≤ (τ18.1 0) := q16_2
          replace q16_3 : ¬ (τ_15.1 20) = 0 → (τ18.1 20) = (τ_15.1 20) := q16_3
          replace q16_4 : τ18.2.1 14 (τ18.1 22) + τ18.2.1 15 (τ18.1 22) = (τ18.1 6) := q16_4
          replace q16_5 : ca (τ18.2.1 12) ((τ18.1 3)) ≤ (τ18.1 4) := q16_5
          replace q16_6 : (τ18.1 20) = 0 → 1 ≤ τ18.2.1 15 (τ18.1 22) := q16_6
          replace q16_7 : (τ_15.1 16) ≤ (τ18.1 16) := q16_7
          replace q16_8 : m_ag τ_15 τ18 := q16_8
          replace ag : m_ag σ τ18 := ag_t ag q16_8 rfl
          have w0_τ18 : τ18.1 0 = τ_15.1 0 := hf_τ18.1 0 (by decide)
          have w3_τ18 : τ18.1 3 = τ_15.1 3 := hf_τ18.1 3 (by decide)
          have w5_τ18 : τ18.1 5 = τ_15.1 5 := hf_τ18.1 5 (by decide)
          have w7_τ18 : τ18.1 7 = τ_15.1 7 := hf_τ18.1 7 (by decide)
          have w8_τ18 : τ18.1 8 = τ_15.1 8 := hf_τ18.1 8 (by decide)
          have w9_τ18 : τ18.1 9 = τ_15.1 9 := hf_τ18.1 9 (by decide)
          have w13_τ18 : τ18.1 13 = τ_15.1 13 := hf_τ18.1 13 (by decide)
          have w22_τ18 : τ18.1 22 = τ_15.1 22 := hf_τ18.1 22 (by decide)
          have g6_τ18 : τ18.2.1 6 = τ_15.2.1 6 := hf_τ18.2.1 6 (by decide)
          have g7_τ18 : τ18.2.1 7 = τ_15.2.1 7 := hf_τ18.2.1 7 (by decide)
          have g14_τ18 : τ18.2.1 14 = τ_15.2.1 14 := hf_τ18.2.1 14 (by decide)
          have g18_τ18 : τ18.2.1 18 = τ_15.2.1 18 := hf_τ18.2.1 18 (by decide)
          have g19_τ18 : τ18.2.1 19 = τ_15.2.1 19 := hf_τ18.2.1 19 (by decide)
          have g21_τ18 : τ18.2.1 21 = τ_15.2.1 21 := hf_τ18.2.1 21 (by decide)
          have g22_τ18 : τ18.2.1 22 = τ_15.2.1 22 := hf_τ18.2.1 22 (by decide)
          have g25_τ18 : τ18.2.1 25 = τ_15.2.1 25 := hf_τ18.2.1 25 (by decide)
          have g26_τ18 : τ18.2.1 26 = τ_15.2.1 26 := hf_τ18.2.1 26 (by decide)
          have g28_τ18 : τ18.2.1 28 = τ_15.2.1 28 := hf_τ18.2.1 28 (by decide)
          first | (have o6_τ18 := congrArg oc g6_τ18) | skip
          first | (have o7_τ18 := congrArg oc g7_τ18) | skip
          have W0 : τ18.1 0 = σ.1 0 := by omega
          have W3 : τ18.1 3 = σ.1 3 := by omega
          have G6 : τ18.2.1 6 = σ.2.1 6 := (g6_τ18).trans G6
          have y14_22_τ18 : τ18.2.1 14 (τ18.1 22) = (τ_15.2.1 14) (τ_15.1 22) := by rw [g14_τ18, w22_τ18]
          have y18_22_τ18 : τ18.2.1 18 (τ18.1 22) = (τ_15.2.1 18) (τ_15.1 22) := by rw [g18_τ18, w22_τ18]
          have y19_22_τ18 : τ18.2.1 19 (τ18.1 22) = (τ_15.2.1 19) (τ_15.1 22) := by rw [g19_τ18, w22_τ18]
          have y21_22_τ18 : τ18.2.1 21 (τ18.1 22) = (τ_15.2.1 21) (τ_15.1 22) := by rw [g21_τ18, w22_τ18]
          have y22_22_τ18 : τ18.2.1 22 (τ18.1 22) = (τ_15.2.1 22) (τ_15.1 22) := by rw [g22_τ18, w22_τ18]
          have y25_22_τ18 : τ18.2.1 25 (τ18.1 22) = (τ_15.2.1 25) (τ_15.1 22) := by rw [g25_τ18, w22_τ18]
          have y26_22_τ18 : τ18.2.1 26 (τ18.1 22) = (τ_15.2.1 26) (τ_15.1 22) := by rw [g26_τ18, w22_τ18]
          have Z1 : τ18.2.1 14 (τ18.1 22) + τ18.2.1 15 (τ18.1 22) = (τ18.1 6) := q16_4
          have Z2 : τ18.2.1 18 (τ18.1 22) + τ18.2.1 19 (τ18.1 22) = (τ18.1 7) := by rw [show (τ18.2.1 18 (τ18.1 22) + τ18.2.1 19 (τ18.1 22) = (τ18.1 7)) = (τ_15.2.1 18 (τ_15.1 22) + τ_15.2.1 19 (τ_15.1 22) = (τ_15.1 7)) from by rw [w7_τ18, w22_τ18, g18_τ18, g19_τ18]]; exact Z2
          have Z3 : τ18.2.1 21 (τ18.1 22) + τ18.2.1 22 (τ18.1 22) = (τ18.1 8) := by rw [show (τ18.2.1 21 (τ18.1 22) + τ18.2.1 22 (τ18.1 22) = (τ18.1 8)) = (τ_15.2.1 21 (τ_15.1 22) + τ_15.2.1 22 (τ_15.1 22) = (τ_15.1 8)) from by rw [w8_τ18, w22_τ18, g21_τ18, g22_τ18]]; exact Z3
          have Z4 : τ18.2.1 25 (τ18.1 22) + τ18.2.1 26 (τ18.1 22) = (τ18.1 9) := by rw [show (τ18.2.1 25 (τ18.1 22) + τ18.2.1 26 (τ18.1 22) = (τ18.1 9)) = (τ_15.2.1 25 (τ_15.1 22) + τ_15.2.1 26 (τ_15.1 22) = (τ_15.1 9)) from by rw [w9_τ18, w22_τ18, g25_τ18, g26_τ18]]; exact Z4
          have Y20 : ca (τ18.2.1 12) ((τ18.1 3)) ≤ (τ18.1 4) := q16_5
          have Y8 : j_eq ((σ.1 9)) (σ.2.1 28) (τ18.2.1 28) := by rw [show (j_eq ((σ.1 9)) (σ.2.1 28) (τ18.2.1 28)) = (j_eq ((σ.1 9)) (σ.2.1 28) (τ_15.2.1 28)) from by rw [g28_τ18]]; exact Y8
          have Y14 : ca (τ18.2.1 28) ((τ18.1 9)) ≤ ca (τ18.2.1 28) (τ18.2.1 25 (τ18.1 22)) + 300 := by rw [show (ca (τ18.2.1 28) ((τ18.1 9)) ≤ ca (τ18.2.1 28) (τ18.2.1 25 (τ18.1 22)) + 300) = (ca (τ_15.2.1 28) ((τ_15.1 9)) ≤ ca (τ_15.2.1 28) (τ_15.2.1 25 (τ_15.1 22)) + 300) from by rw [w9_τ18, w22_τ18, g25_τ18, g28_τ18]]; exact Y14
          have PA : J_pa (τ18.2.1 21) (τ18.2.1 22) := by rw [show (J_pa (τ18.2.1 21) (τ18.2.1 22)) = (J_pa (τ_15.2.1 21) (τ_15.2.1 22)) from by rw [g21_τ18, g22_τ18]]; exact PA
          have A6 : ∀ j, (-1) ≤ τ18.2.1 6 j ∧ τ18.2.1 6 j ≤ 999 := fun j => hT.2 6 j
          have A7 : ∀ j, (-1) ≤ τ18.2.1 7 j ∧ τ18.2.1 7 j ≤ 1499 := fun j => hT.2 7 j
          have A12 : ∀ j, 0 ≤ τ18.2.1 12 j ∧ τ18.2.1 12 j ≤ 1 := fun j => hT.2 12 j
          have A14 : ∀ j, 0 ≤ τ18.2.1 14 j ∧ τ18.2.1 14 j ≤ 30000 := fun j => hT.2 14 j
          have A15 : ∀ j, 0 ≤ τ18.2.1 15 j ∧ τ18.2.1 15 j ≤ 300 := fun j => hT.2 15 j
          have A18 : ∀ j, 0 ≤ τ18.2.1 18 j ∧ τ18.2.1 18 j ≤ 90000 := fun j => hT.2 18 j
          have A19 : ∀ j, 0 ≤ τ18.2.1 19 j ∧ τ18.2.1 19 j ≤ 60 := fun j => hT.2 19 j
          have A21 : ∀ j, 0 ≤ τ18.2.1 21 j ∧ τ18.2.1 21 j ≤ 20000 := fun j => hT.2 21 j
          have A22 : ∀ j, 0 ≤ τ18.2.1 22 j ∧ τ18.2.1 22 j ≤ 20000 := fun j => hT.2 22 j
          have A25 : ∀ j, 0 ≤ τ18.2.1 25 j ∧ τ18.2.1 25 j ≤ 20000 := fun j => hT.2 25 j
          have A26 : ∀ j, 0 ≤ τ18.2.1 26 j ∧ τ18.2.1 26 j ≤ 20000 := fun j => hT.2 26 j
          have A28 : ∀ j, 0 ≤ τ18.2.1 28 j ∧ τ18.2.1 28 j ≤ 1 := fun j => hT.2 28 j
          have v0 : 0 ≤ τ18.1 0 ∧ τ18.1 0 ≤ 60000 := hT.1 0
          have v3 : 0 ≤ τ18.1 3 ∧ τ18.1 3 ≤ 1000 := hT.1 3
          have v4 : 0 ≤ τ18.1 4 ∧ τ18.1 4 ≤ 100 := hT.1 4
          have v5 : 0 ≤ τ18.1 5 ∧ τ18.1 5 ≤ 1500 := hT.1 5
          have v6 : 0 ≤ τ18.1 6 ∧ τ18.1 6 ≤ 30000 := hT.1 6
          have v7 : 0 ≤ τ18.1 7 ∧ τ18.1 7 ≤ 90000 := hT.1 7
          have v8 : 0 ≤ τ18.1 8 ∧ τ18.1 8 ≤ 20000 := hT.1 8
          have v9 : 0 ≤ τ18.1 9 ∧ τ18.1 9 ≤ 20000 := hT.1 9
          have v13 : 0 ≤ τ18.1 13 ∧ τ18.1 13 ≤ 1500 := hT.1 13
          have v16 : 0 ≤ τ18.1 16 ∧ τ18.1 16 ≤ 60000 := hT.1 16
          have v17 : 0 ≤ τ18.1 17 ∧ τ18.1 17 ≤ 60000 := hT.1 17
          have v18 : 0 ≤ τ18.1 18 ∧ τ18.1 18 ≤ 60000 := hT.1 18
          have v19 : (-1) ≤ τ18.1 19 ∧ τ18.1 19 ≤ 125 := hT.1 19
          have v20 : 0 ≤ τ18.1 20 ∧ τ18.1 20 ≤ 19 := hT.1 20
          have v22 : 0 ≤ τ18.1 22 ∧ τ18.1 22 ≤ 1499 := hT.1 22
          have a14_22 : 0 ≤ τ18.2.1 14 (τ18.1 22) ∧ τ18.2.1 14 (τ18.1 22) ≤ 30000 := hT.2 14 _
          have a15_22 : 0 ≤ τ18.2.1 15 (τ18.1 22) ∧ τ18.2.1 15 (τ18.1 22) ≤ 300 := hT.2 15 _
          have a18_22 : 0 ≤ τ18.2.1 18 (τ18.1 22) ∧ τ18.2.1 18 (τ18.1 22) ≤ 90000 := hT.2 18 _
          have a19_22 : 0 ≤ τ18.2.1 19 (τ18.1 22) ∧ τ18.2.1 19 (τ18.1 22) ≤ 60 := hT.2 19 _
          have a21_22 : 0 ≤ τ18.2.1 21 (τ18.1 22) ∧ τ18.2.1 21 (τ18.1 22) ≤ 20000 := hT.2 21 _
          have a22_22 : 0 ≤ τ18.2.1 22 (τ18.1 22) ∧ τ18.2.1 22 (τ18.1 22) ≤ 20000 := hT.2 22 _
          have a25_22 : 0 ≤ τ18.2.1 25 (τ18.1 22) ∧ τ18.2.1 25 (τ18.1 22) ≤ 20000 := hT.2 25 _
          have a26_22 : 0 ≤ τ18.2.1 26 (τ18.1 22) ∧ τ18.2.1 26 (τ18.1 22) ≤ 20000 := hT.2 26 _
          have av5 : σ.1 5 ≤ τ18.1 5 := ag.1 5 (by decide)
          have av6 : σ.1 6 ≤ τ18.1 6 := ag.1 6 (by decide)
          have av7 : σ.1 7 ≤ τ18.1 7 := ag.1 7 (by decide)
          have av8 : σ.1 8 ≤ τ18.1 8 := ag.1 8 (by decide)
          have av9 : σ.1 9 ≤ τ18.1 9 := ag.1 9 (by decide)
          refine ⟨fun c19 => ?_, fun c19 => ?_⟩
          ·
            exact ⟨hT, (show (τ18.1 16) ≤ (τ18.1 0) from by (first | omega | (simp only [st_s] <;> omega) | assumption | omega)), (show (τ18.1 17) + (τ18.1 18) ≤ (τ18.1 0) from by (first | omega | (simp only [st_s] <;> omega) | assumption | omega)), (show ¬ (σ.1 20) = 0 → (τ18.1 20) = (σ.1 20) from by (first | omega | (simp only [st_s] <;> omega) | assumption | omega)), (show ca (τ18.2.1 12) ((τ18.1 3)) ≤ (τ18.1 4) from Y20), (show J_pa (τ18.2.1 21) (τ18.2.1 22) from PA), (show (τ18.1 13) ≤ (τ18.1 5) from by (first | omega | (simp only [st_s] <;> omega) | assumption | omega)), (show oc (τ18.2.1 7) ≤ (σ.1 5) + 1 from by (first | omega | (simp only [st_s] <;> omega) | assumption | omega)), (show (τ18.1 5) ≤ (σ.1 5) + 1 from by (first | omega | (simp only [st_s] <;> omega) | assumption | omega)), (show (τ18.1 20) = 0 → (τ18.1 7) ≤ 60 * (τ18.1 5) from by (first | omega | (simp only [st_s] <;> omega) | assumption | omega)), (show (τ18.1 20) = 0 → (τ18.1 5) = (σ.1 5) + 1 from by (first | omega | (simp only [st_s] <;> omega) | assumption | omega)), (show j_eq ((σ.1 9)) (σ.2.1 28) (τ18.2.1 28) from Y8), (show (τ18.1 20) = 0 → m_J σ → m_J τ18 from by (first | (intro hf; exfalso; omega) | (intro hf hJ; have e5 : σ.1 5 = τ25.1 22 := (by omega); exact m_J_e hJ ag hT0 Y8 (by omega) (by rw [e5] <;> omega) (by rw [e5] <;> omega) (by rw [e5] <;> omega) (by rw [e5] <;> omega) (by rw [e5] <;> omega) (by rw [e5] <;> omega) (by rw [e5] <;> omega) (by rw [e5] <;> omega) (by rw [e5] <;> omega) (by omega) (by rw [e5]; exact Y14)) | (intro hf hJ; have e5 : σ.1 5 = τ28.1 22 := (by omega); exact m_J_e hJ ag hT0 Y8 (by omega) (by rw [e5] <;> omega) (by rw [e5] <;> omega) (by rw [e5] <;> omega) (by rw [e5] <;> omega) (by rw [e5] <;> omega) (by rw [e5] <;> omega) (by rw [e5] <;> omega) (by rw [e5] <;> omega) (by rw [e5] <;> omega) (by omega) (by rw [e5]; exact Y14)) | (intro hf hJ; have e5 : σ.1 5 = τ32.1 22 := (by omega); exact m_J_e hJ ag hT0 Y8 (by omega) (by rw [e5] <;> omega) (by rw [e5] <;> omega) (by rw [e5] <;> omega) (by rw [e5] <;> omega) (by rw [e5] <;> omega) (by rw [e5] <;> omega) (by rw [e5] <;> omega) (by rw [e5] <;> omega) (by rw [e5] <;> omega) (by omega) (by rw [e5]; exact Y14)))), (show (σ.1 16) ≤ (τ18.1 16) from by (first | omega | (simp only [st_s] <;> omega) | assumption | omega)), ag⟩
          ·
            refine ⟨_, K_X13_finish hT (show 0 ≤ 1 from by (first | omega | (simp only [st_s] <;> omega) | assumption | omega)) (show 1 ≤ 4 from by (first | omega | (simp only [st_s] <;> omega) | assumption | omega)) (show (τ18.1 5) < 1500 from by (first | omega | (simp only [st_s] <;> omega) | assumption | omega)) (show (τ18.1 22) = (τ18.1 5) from by (first | omega | (simp only [st_s] <;> omega) | assumption | omega)), ?_⟩
            intro τ22 hn_τ22 hf_τ22 hq
            obtain ⟨hT, q20_1, q20_2⟩ := hq
            replace q20_1 : (τ22.1 5) = (τ18.1 5) + 1 := q20_1
            replace q20_2 : m_ag τ18 τ22 := q20_2
            replace ag : m_ag σ τ22 := ag_t ag q20_2 rfl
            have w0_τ22 : τ22.1 0 = τ18.1 0 := hf_τ22.1 0 (by decide)
            have w3_τ22 : τ22.1 3 = τ18.1 3 := hf_τ22.1 3 (by decide)
            have w4_τ22 : τ22.1 4 = τ18.1 4 := hf_τ22.1 4 (by decide)
            have w6_τ22 : τ22.1 6 = τ18.1 6 := hf_τ22.1 6 (by decide)
            have w7_τ22 : τ22.1 7 = τ18.1 7 := hf_τ22.1 7 (by decide)
            have w8_τ22 : τ22.1 8 = τ18.1 8 := hf_τ22.1 8 (by decide)
            have w9_τ22 : τ22.1 9 = τ18.1 9 := hf_τ22.1 9 (by decide)
            have w13_τ22 : τ22.1 13 = τ18.1 13 := hf_τ22.1 13 (by decide)
            have w16_τ22 : τ22.1 16 = τ18.1 16 := hf_τ22.1 16 (by decide)
            have w17_τ22 : τ22.1 17 = τ18.1 17 := hf_τ22.1 17 (by decide)
            have w18_τ22 : τ22.1 18 = τ18.1 18 := hf_τ22.1 18 (by decide)
            have w19_τ22 : τ22.1 19 = τ18.1 19 := hf_τ22.1 19 (by decide)
            have w20_τ22 : τ22.1 20 = τ18.1 20 := hf_τ22.1 20 (by decide)
            have w22_τ22 : τ22.1 22 = τ18.1 22 := hf_τ22.1 22 (by decide)
            have g6_τ22 : τ22.2.1 6 = τ18.2.1 6 := hf_τ22.2.1 6 (by decide)
            have g7_τ22 : τ22.2.1 7 = τ18.2.1 7 := hf_τ22.2.1 7 (by decide)
            have g12_τ22 : τ22.2.1 12 = τ18.2.1 12 := hf_τ22.2.1 12 (by decide)
            have g14_τ22 : τ22.2.1 14 = τ18.2.1 14 := hf_τ22.2.1 14 (by decide)
            have g15_τ22 : τ22.2.1 15 = τ18.2.1 15 := hf_τ22.2.1 15 (by decide)
            have g18_τ22 : τ22.2.1 18 = τ18.2.1 18 := hf_τ22.2.1 18 (by decide)
            have g19_τ22 : τ22.2.1 19 = τ18.2.1 19 := hf_τ22.2.1 19 (by decide)
            have g21_τ22 : τ22.2.1 21 = τ18.2.1 21 := hf_τ22.2.1 21 (by decide)
            have g22_τ22 : τ22.2.1 22 = τ18.2.1 22 := hf_τ22.2.1 22 (by decide)
            have g25_τ22 : τ22.2.1 25 = τ18.2.1 25 := hf_τ22.2.1 25 (by decide)
            have g26_τ22 : τ22.2.1 26 = τ18.2.1 26 := hf_τ22.2.1 26 (by decide)
            have g28_τ22 : τ22.2.1 28 = τ18.2.1 28 := hf_τ22.2.1 28 (by decide)
            first | (have o6_τ22 := congrArg oc g6_τ22) | skip
            first | (have o7_τ22 := congrArg oc g7_τ22) | skip
            have W0 : τ22.1 0 = σ.1 0 := by omega
            have W3 : τ22.1 3 = σ.1 3 := by omega
            have G6 : τ22.2.1 6 = σ.2.1 6 := (g6_τ22).trans G6
            have y14_22_τ22 : τ22.2.1 14 (τ22.1 22) = (τ18.2.1 14) (τ18.1 22) := by rw [g14_τ22, w22_τ22]
            have y15_22_τ22 : τ22.2.1 15 (τ22.1 22) = (τ18.2.1 15) (τ18.1 22) := by rw [g15_τ22, w22_τ22]
            have y18_22_τ22 : τ22.2.1 18 (τ22.1 22) = (τ18.2.1 18) (τ18.1 22) := by rw [g18_τ22, w22_τ22]
            have y19_22_τ22 : τ22.2.1 19 (τ22.1 22) = (τ18.2.1 19) (τ18.1 22) := by rw [g19_τ22, w22_τ22]
            have y21_22_τ22 : τ22.2.1 21 (τ22.1 22) = (τ18.2.1 21) (τ18.1 22) := by rw [g21_τ22, w22_τ22]
            have y22_22_τ22 : τ22.2.1 22 (τ22.1 22) = (τ18.2.1 22) (τ18.1 22) := by rw [g22_τ22, w22_τ22]
            have y25_22_τ22 : τ22.2.1 25 (τ22.1 22) = (τ18.2.1 25) (τ18.1 22) := by rw [g25_τ22, w22_τ22]
            have y26_22_τ22 : τ22.2.1 26 (τ22.1 22) = (τ18.2.1 26) (τ18.1 22) := by rw [g26_τ22, w22_τ22]
            have Z1 : τ22.2.1 14 (τ22.1 22) + τ22.2.1 15 (τ22.1 22) = (τ22.1 6) := by rw [show (τ22.2.1 14 (τ22.1 22) + τ22.2.1 15 (τ22.1 22) = (τ22.1 6)) = (τ18.2.1 14 (τ18.1 22) + τ18.2.1 15 (τ18.1 22) = (τ18.1 6)) from by rw [w6_τ22, w22_τ22, g14_τ22, g15_τ22]]; exact Z1
            have Z2 : τ22.2.1 18 (τ22.1 22) + τ22.2.1 19 (τ22.1 22) = (τ22.1 7) := by rw [show (τ22.2.1 18 (τ22.1 22) + τ22.2.1 19 (τ22.1 22) = (τ22.1 7)) = (τ18.2.1 18 (τ18.1 22) + τ18.2.1 19 (τ18.1 22) = (τ18.1 7)) from by rw [w7_τ22, w22_τ22, g18_τ22, g19_τ22]]; exact Z2
            have Z3 : τ22.2.1 21 (τ22.1 22) + τ22.2.1 22 (τ22.1 22) = (τ22.1 8) := by rw [show (τ22.2.1 21 (τ22.1 22) + τ22.2.1 22 (τ22.1 22) = (τ22.1 8)) = (τ18.2.1 21 (τ18.1 22) + τ18.2.1 22 (τ18.1 22) = (τ18.1 8)) from by rw [w8_τ22, w22_τ22, g21_τ22, g22_τ22]]; exact Z3
            have Z4 : τ22.2.1 25 (τ22.1 22) + τ22.2.1 26 (τ22.1 22) = (τ22.1 9) := by rw [show (τ22.2.1 25 (τ22.1 22) + τ22.2.1 26 (τ22.1 22) = (τ22.1 9)) = (τ18.2.1 25 (τ18.1 22) + τ18.2.1 26 (τ18.1 22) = (τ18.1 9)) from by rw [w9_τ22, w22_τ22, g25_τ22, g26_τ22]]; exact Z4
            have Y20 : ca (τ22.2.1 12) ((τ22.1 3)) ≤ (τ22.1 4) := by rw [show (ca (τ22.2.1 12) ((τ22.1 3)) ≤ (τ22.1 4)) = (ca (τ18.2.1 12) ((τ18.1 3)) ≤ (τ18.1 4)) from by rw [w3_τ22, w4_τ22, g12_τ22]]; exact Y20
            have Y8 : j_eq ((σ.1 9)) (σ.2.1 28) (τ22.2.1 28) := by rw [show (j_eq ((σ.1 9)) (σ.2.1 28) (τ22.2.1 28)) = (j_eq ((σ.1 9)) (σ.2.1 28) (τ18.2.1 28)) from by rw [g28_τ22]]; exact Y8
            have Y14 : ca (τ22.2.1 28) ((τ22.1 9)) ≤ ca (τ22.2.1 28) (τ22.2.1 25 (τ22.1 22)) + 300 := by rw [show (ca (τ22.2.1 28) ((τ22.1 9)) ≤ ca (τ22.2.1 28) (τ22.2.1 25 (τ22.1 22)) + 300) = (ca (τ18.2.1 28) ((τ18.1 9)) ≤ ca (τ18.2.1 28) (τ18.2.1 25 (τ18.1 22)) + 300) from by rw [w9_τ22, w22_τ22, g25_τ22, g28_τ22]]; exact Y14
            have PA : J_pa (τ22.2.1 21) (τ22.2.1 22) := by rw [show (J_pa (τ22.2.1 21) (τ22.2.1 22)) = (J_pa (τ18.2.1 21) (τ18.2.1 22)) from by rw [g21_τ22, g22_τ22]]; exact PA
            have A6 : ∀ j, (-1) ≤ τ22.2.1 6 j ∧ τ22.2.1 6 j ≤ 999 := fun j => hT.2 6 j
            have A7 : ∀ j, (-1) ≤ τ22.2.1 7 j ∧ τ22.2.1 7 j ≤ 1499 := fun j => hT.2 7 j
            have A12 : ∀ j, 0 ≤ τ22.2.1 12 j ∧ τ22.2.1 12 j ≤ 1 := fun j => hT.2 12 j
            have A14 : ∀ j, 0 ≤ τ22.2.1 14 j ∧ τ22.2.1 14 j ≤ 30000 := fun j => hT.2 14 j
            have A15 : ∀ j, 0 ≤ τ22.2.1 15 j ∧ τ22.2.1 15 j ≤ 300 := fun j => hT.2 15 j
            have A18 : ∀ j, 0 ≤ τ22.2.1 18 j ∧ τ22.2.1 18 j ≤ 90000 := fun j => hT.2 18 j
            have A19 : ∀ j, 0 ≤ τ22.2.1 19 j ∧ τ22.2.1 19 j ≤ 60 := fun j => hT.2 19 j
            have A21 : ∀ j, 0 ≤ τ22.2.1 21 j ∧ τ22.2.1 21 j ≤ 20000 := fun j => hT.2 21 j
            have A22 : ∀ j, 0 ≤ τ22.2.1 22 j ∧ τ22.2.1 22 j ≤ 20000 := fun j => hT.2 22 j
            have A25 : ∀ j, 0 ≤ τ22.2.1 25 j ∧ τ22.2.1 25 j ≤ 20000 := fun j => hT.2 25 j
            have A26 : ∀ j, 0 ≤ τ22.2.1 26 j ∧ τ22.2.1 26 j ≤ 20000 := fun j => hT.2 26 j
            have A28 : ∀ j, 0 ≤ τ22.2.1 28 j ∧ τ22.2.1 28 j ≤ 1 := fun j => hT.2 28 j
            have v0 : 0 ≤ τ22.1 0 ∧ τ22.1 0 ≤ 60000 := hT.1 0
            have v3 : 0 ≤ τ22.1 3 ∧ τ22.1 3 ≤ 1000 := hT.1 3
            have v4 : 0 ≤ τ22.1 4 ∧ τ22.1 4 ≤ 100 := hT.1 4
            have v5 : 0 ≤ τ22.1 5 ∧ τ22.1 5 ≤ 1500 := hT.1 5
            have v6 : 0 ≤ τ22.1 6 ∧ τ22.1 6 ≤ 30000 := hT.1 6
            have v7 : 0 ≤ τ22.1 7 ∧ τ22.1 7 ≤ 90000 := hT.1 7
            have v8 : 0 ≤ τ22.1 8 ∧ τ22.1 8 ≤ 20000 := hT.1 8
            have v9 : 0 ≤ τ22.1 9 ∧ τ22.1 9 ≤ 20000 := hT.1 9
            have v13 : 0 ≤ τ22.1 13 ∧ τ22.1 13 ≤ 1500 := hT.1 13
            have v16 : 0 ≤ τ22.1 16 ∧ τ22.1 16 ≤ 60000 := hT.1 16
            have v17 : 0 ≤ τ22.1 17 ∧ τ22.1 17 ≤ 60000 := hT.1 17
            have v18 : 0 ≤ τ22.1 18 ∧ τ22.1 18 ≤ 60000 := hT.1 18
            have v19 : (-1) ≤ τ22.1 19 ∧ τ22.1 19 ≤ 125 := hT.1 19
            have v20 : 0 ≤ τ22.1 20 ∧ τ22.1 20 ≤ 19 := hT.1 20
            have v22 : 0 ≤ τ22.1 22 ∧ τ22.1 22 ≤ 1499 := hT.1 22
            have a14_22 : 0 ≤ τ22.2.1 14 (τ22.1 22) ∧ τ22.2.1 14 (τ22.1 22) ≤ 30000 := hT.2 14 _
            have a15_22 : 0 ≤ τ22.2.1 15 (τ22.1 22) ∧ τ22.2.1 15 (τ22.1 22) ≤ 300 := hT.2 15 _
            have a18_22 : 0 ≤ τ22.2.1 18 (τ22.1 22) ∧ τ22.2.1 18 (τ22.1 22) ≤ 90000 := hT.2 18 _
            have a19_22 : 0 ≤ τ22.2.1 19 (τ22.1 22) ∧ τ22.2.1 19 (τ22.1 22) ≤ 60 := hT.2 19 _
            have a21_22 : 0 ≤ τ22.2.1 21 (τ22.1 22) ∧ τ22.2.1 21 (τ22.1 22) ≤ 20000 := hT.2 21 _
            have a22_22 : 0 ≤ τ22.2.1 22 (τ22.1 22) ∧ τ22.2.1 22 (τ22.1 22) ≤ 20000 := hT.2 22 _
            have a25_22 : 0 ≤ τ22.2.1 25 (τ22.1 22) ∧ τ22.2.1 25 (τ22.1 22) ≤ 20000 := hT.2 25 _
            have a26_22 : 0 ≤ τ22.2.1 26 (τ22.1 22) ∧ τ22.2.1 26 (τ22.1 22) ≤ 20000 := hT.2 26 _
            have av5 : σ.1 5 ≤ τ22.1 5 := ag.1 5 (by decide)
            have av6 : σ.1 6 ≤ τ22.1 6 := ag.1 6 (by decide)
            have av7 : σ.1 7 ≤ τ22.1 7 := ag.1 7 (by decide)
            have av8 : σ.1 8 ≤ τ22.1 8 := ag.1 8 (by decide)
            have av9 : σ.1 9 ≤ τ22.1 9 := ag.1 9 (by decide)
            refine ⟨_, K_X13_activate hT (show (τ22.1 13) < 1500 from by (first | omega | (simp only [st_s] <;> omega) | assumption | omega)), ?_⟩
            intro τ25 hn_τ25 hf_τ25 hq
            obtain ⟨hT, q23_1⟩ := hq
            replace q23_1 : (τ25.1 13) = (τ22.1 13) + 1 := q23_1
            replace ag : m_ag σ τ25 := ag_r ag hf_τ25 rfl rfl
            have w0_τ25 : τ25.1 0 = τ22.1 0 := hf_τ25.1 0 (by decide)
            have w3_τ25 : τ25.1 3 = τ22.1 3 := hf_τ25.1 3 (by decide)
            have w4_τ25 : τ25.1 4 = τ22.1 4 := hf_τ25.1 4 (by decide)
            have w5_τ25 : τ25.1 5 = τ22.1 5 := hf_τ25.1 5 (by decide)
            have w6_τ25 : τ25.1 6 = τ22.1 6 := hf_τ25.1 6 (by decide)
            have w7_τ25 : τ25.1 7 = τ22.1 7 := hf_τ25.1 7 (by decide)
            have w8_τ25 : τ25.1 8 = τ22.1 8 := hf_τ25.1 8 (by decide)
            have w9_τ25 : τ25.1 9 = τ22.1 9 := hf_τ25.1 9 (by decide)
            have w16_τ25 : τ25.1 16 = τ22.1 16 := hf_τ25.1 16 (by decide)
            have w17_τ25 : τ25.1 17 = τ22.1 17 := hf_τ25.1 17 (by decide)
            have w18_τ25 : τ25.1 18 = τ22.1 18 := hf_τ25.1 18 (by decide)
            have w19_τ25 : τ25.1 19 = τ22.1 19 := hf_τ25.1 19 (by decide)
            have w20_τ25 : τ25.1 20 = τ22.1 20 := hf_τ25.1 20 (by decide)
            have w22_τ25 : τ25.1 22 = τ22.1 22 := hf_τ25.1 22 (by decide)
            have g6_τ25 : τ25.2.1 6 = τ22.2.1 6 := hf_τ25.2.1 6 (by decide)
            have g7_τ25 : τ25.2.1 7 = τ22.2.1 7 := hf_τ25.2.1 7 (by decide)
            have g12_τ25 : τ25.2.1 12 = τ22.2.1 12 := hf_τ25.2.1 12 (by decide)
            have g14_τ25 : τ25.2.1 14 = τ22.2.1 14 := hf_τ25.2.1 14 (by decide)
            have g15_τ25 : τ25.2.1 15 = τ22.2.1 15 := hf_τ25.2.1 15 (by decide)
            have g18_τ25 : τ25.2.1 18 = τ22.2.1 18 := hf_τ25.2.1 18 (by decide)
            have g19_τ25 : τ25.2.1 19 = τ22.2.1 19 := hf_τ25.2.1 19 (by decide)
            have g21_τ25 : τ25.2.1 21 = τ22.2.1 21 := hf_τ25.2.1 21 (by decide)
            have g22_τ25 : τ25.2.1 22 = τ22.2.1 22 := hf_τ25.2.1 22 (by decide)
            have g25_τ25 : τ25.2.1 25 = τ22.2.1 25 := hf_τ25.2.1 25 (by decide)
            have g26_τ25 : τ25.2.1 26 = τ22.2.1 26 := hf_τ25.2.1 26 (by decide)
            have g28_τ25 : τ25.2.1 28 = τ22.2.1 28 := hf_τ25.2.1 28 (by decide)
            first | (have o6_τ25 := congrArg oc g6_τ25) | skip
            first | (have o7_τ25 := congrArg oc g7_τ25) | skip
            have W0 : τ25.1 0 = σ.1 0 := by omega
            have W3 : τ25.1 3 = σ.1 3 := by omega
            have G6 : τ25.2.1 6 = σ.2.1 6 := (g6_τ25).trans G6
            have y14_22_τ25 : τ25.2.1 14 (τ25.1 22) = (τ22.2.1 14) (τ22.1 22) := by rw [g14_τ25, w22_τ25]
            have y15_22_τ25 : τ25.2.1 15 (τ25.1 22) = (τ22.2.1 15) (τ22.1 22) := by rw [g15_τ25, w22_τ25]
            have y18_22_τ25 : τ25.2.1 18 (τ25.1 22) = (τ22.2.1 18) (τ22.1 22) := by rw [g18_τ25, w22_τ25]
            have y19_22_τ25 : τ25.2.1 19 (τ25.1 22) = (τ22.2.1 19) (τ22.1 22) := by rw [g19_τ25, w22_τ25]
            have y21_22_τ25 : τ25.2.1 21 (τ25.1 22) = (τ22.2.1 21) (τ22.1 22) := by rw [g21_τ25, w22_τ25]
            have y22_22_τ25 : τ25.2.1 22 (τ25.1 22) = (τ22.2.1 22) (τ22.1 22) := by rw [g22_τ25, w22_τ25]
            have y25_22_τ25 : τ25.2.1 25 (τ25.1 22) = (τ22.2.1 25) (τ22.1 22) := by rw [g25_τ25, w22_τ25]
            have y26_22_τ25 : τ25.2.1 26 (τ25.1 22) = (τ22.2.1 26) (τ22.1 22) := by rw [g26_τ25, w22_τ25]
            have Z1 : τ25.2.1 14 (τ25.1 22) + τ25.2.1 15 (τ25.1 22) = (τ25.1 6) := by rw [show (τ25.2.1 14 (τ25.1 22) + τ25.2.1 15 (τ25.1 22) = (τ25.1 6)) = (τ22.2.1 14 (τ22.1 22) + τ22.2.1 15 (τ22.1 22) = (τ22.1 6)) from by rw [w6_τ25, w22_τ25, g14_τ25, g15_τ25]]; exact Z1
            have Z2 : τ25.2.1 18 (τ25.1 22) + τ25.2.1 19 (τ25.1 22) = (τ25.1 7) := by rw [show (τ25.2.1 18 (τ25.1 22) + τ25.2.1 19 (τ25.1 22) = (τ25.1 7)) = (τ22.2.1 18 (τ22.1 22) + τ22.2.1 19 (τ22.1 22) = (τ22.1 7)) from by rw [w7_τ25, w22_τ25, g18_τ25, g19_τ25]]; exact Z2
            have Z3 : τ25.2.1 21 (τ25.1 22) + τ25.2.1 22 (τ25.1 22) = (τ25.1 8) := by rw [show (τ25.2.1 21 (τ25.1 22) + τ25.2.1 22 (τ25.1 22) = (τ25.1 8)) = (τ22.2.1 21 (τ22.1 22) + τ22.2.1 22 (τ22.1 22) = (τ22.1 8)) from by rw [w8_τ25, w22_τ25, g21_τ25, g22_τ25]]; exact Z3
            have Z4 : τ25.2.1 25 (τ25.1 22) + τ25.2.1 26 (τ25.1 22) = (τ25.1 9) := by rw [show (τ25.2.1 25 (τ25.1 22) + τ25.2.1 26 (τ25.1 22) = (τ25.1 9)) = (τ22.2.1 25 (τ22.1 22) + τ22.2.1 26 (τ22.1 22) = (τ22.1 9)) from by rw [w9_τ25, w22_τ25, g25_τ25, g26_τ25]]; exact Z4
            have Y20 : ca (τ25.2.1 12) ((τ25.1 3)) ≤ (τ25.1 4) := by rw [show (ca (τ25.2.1 12) ((τ25.1 3)) ≤ (τ25.1 4)) = (ca (τ22.2.1 12) ((τ22.1 3)) ≤ (τ22.1 4)) from by rw [w3_τ25, w4_τ25, g12_τ25]]; exact Y20
            have Y8 : j_eq ((σ.1 9)) (σ.2.1 28) (τ25.2.1 28) := by rw [show (j_eq ((σ.1 9)) (σ.2.1 28) (τ25.2.1 28)) = (j_eq ((σ.1 9)) (σ.2.1 28) (τ22.2.1 28)) from by rw [g28_τ25]]; exact Y8
            have Y14 : ca (τ25.2.1 28) ((τ25.1 9)) ≤ ca (τ25.2.1 28) (τ25.2.1 25 (τ25.1 22)) + 300 := by rw [show (ca (τ25.2.1 28) ((τ25.1 9)) ≤ ca (τ25.2.1 28) (τ25.2.1 25 (τ25.1 22)) + 300) = (ca (τ22.2.1 28) ((τ22.1 9)) ≤ ca (τ22.2.1 28) (τ22.2.1 25 (τ22.1 22)) + 300) from by rw [w9_τ25, w22_τ25, g25_τ25, g28_τ25]]; exact Y14
            have PA : J_pa (τ25.2.1 21) (τ25.2.1 22) := by rw [show (J_pa (τ25.2.1 21) (τ25.2.1 22)) = (J_pa (τ22.2.1 21) (τ22.2.1 22)) from by rw [g21_τ25, g22_τ25]]; exact PA
            have A6 : ∀ j, (-1) ≤ τ25.2.1 6 j ∧ τ25.2.1 6 j ≤ 999 := fun j => hT.2 6 j
            have A7 : ∀ j, (-1) ≤ τ25.2.1 7 j ∧ τ25.2.1 7 j ≤ 1499 := fun j => hT.2 7 j
            have A12 : ∀ j, 0 ≤ τ25.2.1 12 j ∧ τ25.2.1 12 j ≤ 1 := fun j => hT.2 12 j
            have A14 : ∀ j, 0 ≤ τ25.2.1 14 j ∧ τ25.2.1 14 j ≤ 30000 := fun j => hT.2 14 j
            have A15 : ∀ j, 0 ≤ τ25.2.1 15 j ∧ τ25.2.1 15 j ≤ 300 := fun j => hT.2 15 j
            have A18 : ∀ j, 0 ≤ τ25.2.1 18 j ∧ τ25.2.1 18 j ≤ 90000 := fun j => hT.2 18 j
            have A19 : ∀ j, 0 ≤ τ25.2.1 19 j ∧ τ25.2.1 19 j ≤ 60 := fun j => hT.2 19 j
            have A21 : ∀ j, 0 ≤ τ25.2.1 21 j ∧ τ25.2.1 21 j ≤ 20000 := fun j => hT.2 21 j
            have A22 : ∀ j, 0 ≤ τ25.2.1 22 j ∧ τ25.2.1 22 j ≤ 20000 := fun j => hT.2 22 j
            have A25 : ∀ j, 0 ≤ τ25.2.1 25 j ∧ τ25.2.1 25 j ≤ 20000 := fun j => hT.2 25 j
            have A26 : ∀ j, 0 ≤ τ25.2.1 26 j ∧ τ25.2.1 26 j ≤ 20000 := fun j => hT.2 26 j
            have A28 : ∀ j, 0 ≤ τ25.2.1 28 j ∧ τ25.2.1 28 j ≤ 1 := fun j => hT.2 28 j
            have v0 : 0 ≤ τ25.1 0 ∧ τ25.1 0 ≤ 60000 := hT.1 0
            have v3 : 0 ≤ τ25.1 3 ∧ τ25.1 3 ≤ 1000 := hT.1 3
            have v4 : 0 ≤ τ25.1 4 ∧ τ25.1 4 ≤ 100 := hT.1 4
            have v5 : 0 ≤ τ25.1 5 ∧ τ25.1 5 ≤ 1500 := hT.1 5
            have v6 : 0 ≤ τ25.1 6 ∧ τ25.1 6 ≤ 30000 := hT.1 6
            have v7 : 0 ≤ τ25.1 7 ∧ τ25.1 7 ≤ 90000 := hT.1 7
            have v8 : 0 ≤ τ25.1 8 ∧ τ25.1 8 ≤ 20000 := hT.1 8
            have v9 : 0 ≤ τ25.1 9 ∧ τ25.1 9 ≤ 20000 := hT.1 9
            have v13 : 0 ≤ τ25.1 13 ∧ τ25.1 13 ≤ 1500 := hT.1 13
            have v16 : 0 ≤ τ25.1 16 ∧ τ25.1 16 ≤ 60000 := hT.1 16
            have v17 : 0 ≤ τ25.1 17 ∧ τ25.1 17 ≤ 60000 := hT.1 17
            have v18 : 0 ≤ τ25.1 18 ∧ τ25.1 18 ≤ 60000 := hT.1 18
            have v19 : (-1) ≤ τ25.1 19 ∧ τ25.1 19 ≤ 125 := hT.1 19
            have v20 : 0 ≤ τ25.1 20 ∧ τ25.1 20 ≤ 19 := hT.1 20
            have v22 : 0 ≤ τ25.1 22 ∧ τ25.1 22 ≤ 1499 := hT.1 22
            have a14_22 : 0 ≤ τ25.2.1 14 (τ25.1 22) ∧ τ25.2.1 14 (τ25.1 22) ≤ 30000 := hT.2 14 _
            have a15_22 : 0 ≤ τ25.2.1 15 (τ25.1 22) ∧ τ25.2.1 15 (τ25.1 22) ≤ 300 := hT.2 15 _
            have a18_22 : 0 ≤ τ25.2.1 18 (τ25.1 22) ∧ τ25.2.1 18 (τ25.1 22) ≤ 90000 := hT.2 18 _
            have a19_22 : 0 ≤ τ25.2.1 19 (τ25.1 22) ∧ τ25.2.1 19 (τ25.1 22) ≤ 60 := hT.2 19 _
            have a21_22 : 0 ≤ τ25.2.1 21 (τ25.1 22) ∧ τ25.2.1 21 (τ25.1 22) ≤ 20000 := hT.2 21 _
            have a22_22 : 0 ≤ τ25.2.1 22 (τ25.1 22) ∧ τ25.2.1 22 (τ25.1 22) ≤ 20000 := hT.2 22 _
            have a25_22 : 0 ≤ τ25.2.1 25 (τ25.1 22) ∧ τ25.2.1 25 (τ25.1 22) ≤ 20000 := hT.2 25 _
            have a26_22 : 0 ≤ τ25.2.1 26 (τ25.1 22) ∧ τ25.2.1 26 (τ25.1 22) ≤ 20000 := hT.2 26 _
            have av5 : σ.1 5 ≤ τ25.1 5 := ag.1 5 (by decide)
            have av6 : σ.1 6 ≤ τ25.1 6 := ag.1 6 (by decide)
            have av7 : σ.1 7 ≤ τ25.1 7 := ag.1 7 (by decide)
            have av8 : σ.1 8 ≤ τ25.1 8 := ag.1 8 (by decide)
            have av9 : σ.1 9 ≤ τ25.1 9 := ag.1 9 (by decide)
            exact ⟨hT, (show (τ25.1 16) ≤ (τ25.1 0) from by (first | omega | (simp only [st_s] <;> omega) | assumption | omega)), (show (τ25.1 17) + (τ25.1 18) ≤ (τ25.1 0) from by (first | omega | (simp only [st_s] <;> omega) | assumption | omega)), (show ¬ (σ.1 20) = 0 → (τ25.1 20) = (σ.1 20) from by (first | omega | (simp only [st_s] <;> omega) | assumption | omega)), (show ca (τ25.2.1 12) ((τ25.1 3)) ≤ (τ25.1 4) from Y20), (show J_pa (τ25.2.1 21) (τ25.2.1 22) from PA), (show (τ25.1 13) ≤ (τ25.1 5) from by (first | omega | (simp only [st_s] <;> omega) | assumption | omega)), (show oc (τ25.2.1 7) ≤ (σ.1 5) + 1 from by (first | omega | (simp only [st_s] <;> omega) | assumption | omega)), (show (τ25.1 5) ≤ (σ.1 5) + 1 from by (first | omega | (simp only [st_s] <;> omega) | assumption | omega)), (show (τ25.1 20) = 0 → (τ25.1 7) ≤ 60 * (τ25.1 5) from by (first | omega | (simp only [st_s] <;> omega) | assumption | omega)), (show (τ25.1 20) = 0 → (τ25.1 5) = (σ.1 5) + 1 from by (first | omega | (simp only [st_s] <;> omega) | assumption | omega)), (show j_eq ((σ.1 9)) (σ.2.1 28) (τ25.2.1 28) from Y8), (show (τ25.1 20) = 0 → m_J σ → m_J τ25 from by (first | (intro hf; exfalso; omega) | (intro hf hJ; have e5 : σ.1 5 = τ25.1 22 := (by omega); exact m_J_e hJ ag hT0 Y8 (by omega) (by rw [e5] <;> omega) (by rw [e5] <;> omega) (by rw [e5] <;> omega) (by rw [e5] <;> omega) (by rw [e5] <;> omega) (by rw [e5] <;> omega) (by rw [e5] <;> omega) (by rw [e5] <;> omega) (by rw [e5] <;> omega) (by omega) (by rw [e5]; exact Y14)) | (intro hf hJ; have e5 : σ.1 5 = τ28.1 22 := (by omega); exact m_J_e hJ ag hT0 Y8 (by omega) (by rw [e5] <;> omega) (by rw [e5] <;> omega) (by rw [e5] <;> omega) (by rw [e5] <;> omega) (by rw [e5] <;> omega) (by rw [e5] <;> omega) (by rw [e5] <;> omega) (by rw [e5] <;> omega) (by rw [e5] <;> omega) (by omega) (by rw [e5]; exact Y14)) | (intro hf hJ; have e5 : σ.1 5 = τ32.1 22 := (by omega); exact m_J_e hJ ag hT0 Y8 (by omega) (by rw [e5] <;> omega) (by rw [e5] <;> omega) (by rw [e5] <;> omega) (by rw [e5] <;> omega) (by rw [e5] <;> omega) (by rw [e5] <;> omega) (by rw [e5] <;> omega) (by rw [e5] <;> omega) (by rw [e5] <;> omega) (by omega) (by rw [e5]; exact Y14)))), (show (σ.1 16) ≤ (τ25.1 16) from by (first | omega | (simp only [st_s] <;> omega) | assumption | omega)), ag⟩
      ·
        have w3 := i15_8 (by omega)
        have w4 := i15_9 (by omega)
        obtain ⟨n1, n2, n3, n4, n5, n6⟩ := w3
        obtain ⟨n7, n8, n9, n10⟩ := w4
        have Z1 : τ_15.2.1 14 (τ_15.1 22) + τ_15.2.1 15 (τ_15.1 22) = τ_15.1 6 := by omega
        have Z2 : τ_15.2.1 18 (τ_15.1 22) + τ_15.2.1 19 (τ_15.1 22) = τ_15.1 7 := by omega
        have Z3 : τ_15.2.1 21 (τ_15.1 22) + τ_15.2.1 22 (τ_15.1 22) = τ_15.1 8 := by omega
        have Z4 : τ_15.2.1 25 (τ_15.1 22) + τ_15.2.1 26 (τ_15.1 22) = τ_15.1 9 := by omega
        have Y14 : ca (τ_15.2.1 28) (τ_15.1 9) ≤ ca (τ_15.2.1 28) (τ_15.2.1 25 (τ_15.1 22)) + 300 := by rw [show τ_15.2.1 25 (τ_15.1 22) = τ_15.1 9 from by omega]; omega
        refine ⟨_, K_X13_readFloating hT (show (τ_15.1 16) ≤ (τ_15.1 0) from by (first | omega | (simp only [st_s] <;> omega) | assumption | omega)) (show (τ_15.1 17) + (τ_15.1 18) ≤ (τ_15.1 0) from by (first | omega | (simp only [st_s] <;> omega) | assumption | omega)) (show oc (τ_15.2.1 6) < 4096 from by (first | omega | (simp only [st_s] <;> omega) | assumption | omega)) (show oc (τ_15.2.1 7) < 4096 from by (first | omega | (simp only [st_s] <;> omega) | assumption | omega)) (show τ_15.2.1 15 (τ_15.1 22) = 0 from by (first | omega | (simp only [st_s] <;> omega) | assumption | omega)) (show (τ_15.1 22) = (τ_15.1 5) from by (first | omega | (simp only [st_s] <;> omega) | assumption | omega)) (show τ_15.2.1 14 (τ_15.1 22) + τ_15.2.1 15 (τ_15.1 22) = (τ_15.1 6) from Z1) (show ca (τ_15.2.1 12) ((τ_15.1 3)) ≤ (τ_15.1 4) from Y20) (show (τ_15.1 5) < 1500 from by (first | omega | (simp only [st_s] <;> omega) | assumption | omega)) (show (τ_15.1 13) ≤ (τ_15.1 5) from by (first | omega | (simp only [st_s] <;> omega) | assumption | omega)), ?_⟩
        intro τ28 hn_τ28 hf_τ28 hq
        obtain ⟨hT, q26_1, q26_2, q26_3, q26_4, q26_5, q26_6, q26_7, q26_8, q26_9, q26_10⟩ := hq
        replace q26_1 : (τ28.1 16) ≤ (τ28.1 0) := q26_1
        replace q26_2 : (τ28.1 17) + (τ28.1 18) ≤ (τ28.1 0) := q26_2
        replace q26_3 : ¬ (τ_15.1 20) = 0 → (τ28.1 20) = (τ_15.1 20) := q26_3
        replace q26_4 : τ28.2.1 14 (τ28.1 22) + τ28.2.1 15 (τ28.1 22) = (τ28.1 6) := q26_4
        replace q26_5 : ca (τ28.2.1 12) ((τ28.1 3)) ≤ (τ28.1 4) := q26_5
        replace q26_6 : (τ28.1 13) ≤ (τ28.1 5) := q26_6
        replace q26_7 : (τ28.1 20) = 0 → (τ28.1 5) = (τ_15.1 5) + 1 ∧ 2 ≤ τ28.2.1 15 (τ28.1 22) := q26_7
        replace q26_8 : (τ28.1 5) ≤ (τ_15.1 5) + 1 := q26_8
        replace q26_9 : (τ_15.1 16) ≤ (τ28.1 16) := q26_9
        replace q26_10 : m_ag τ_15 τ28 := q26_10
        replace ag : m_ag σ τ28 := ag_t ag q26_10 rfl
        have w0_τ28 : τ28.1 0 = τ_15.1 0 := hf_τ28.1 0 (by decide)
        have w3_τ28 : τ28.1 3 = τ_15.1 3 := hf_τ28.1 3 (by decide)
        have w7_τ28 : τ28.1 7 = τ_15.1 7 := hf_τ28.1 7 (by decide)
        have w8_τ28 : τ28.1 8 = τ_15.1 8 := hf_τ28.1 8 (by decide)
        have w9_τ28 : τ28.1 9 = τ_15.1 9 := hf_τ28.1 9 (by decide)
        have w22_τ28 : τ28.1 22 = τ_15.1 22 := hf_τ28.1 22 (by decide)
        have g6_τ28 : τ28.2.1 6 = τ_15.2.1 6 := hf_τ28.2.1 6 (by decide)
        have g7_τ28 : τ28.2.1 7 = τ_15.2.1 7 := hf_τ28.2.1 7 (by decide)
        have g14_τ28 : τ28.2.1 14 = τ_15.2.1 14 := hf_τ28.2.1 14 (by decide)
        have g18_τ28 : τ28.2.1 18 = τ_15.2.1 18 := hf_τ28.2.1 18 (by decide)
        have g19_τ28 : τ28.2.1 19 = τ_15.2.1 19 := hf_τ28.2.1 19 (by decide)
        have g21_τ28 : τ28.2.1 21 = τ_15.2.1 21 := hf_τ28.2.1 21 (by decide)
        have g22_τ28 : τ28.2.1 22 = τ_15.2.1 22 := hf_τ28.2.1 22 (by decide)
        have g25_τ28 : τ28.2.1 25 = τ_15.2.1 25 := hf_τ28.2.1 25 (by decide)
        have g26_τ28 : τ28.2.1 26 = τ_15.2.1 26 := hf_τ28.2.1 26 (by decide)
        have g28_τ28 : τ28.2.1 28 = τ_15.2.1 28 := hf_τ28.2.1 28 (by decide)
        first | (have o6_τ28 := congrArg oc g6_τ28) | skip
        first | (have o7_τ28 := congrArg oc g7_τ28) | skip
        have W0 : τ28.1 0 = σ.1 0 := by omega
        have W3 : τ28.1 3 = σ.1 3 := by omega
        have G6 : τ28.2.1 6 = σ.2.1 6 := (g6_τ28).trans G6
        have y14_22_τ28 : τ28.2.1 14 (τ28.1 22) = (τ_15.2.1 14) (τ_15.1 22) := by rw [g14_τ28, w22_τ28]
        have y18_22_τ28 : τ28.2.1 18 (τ28.1 22) = (τ_15.2.1 18) (τ_15.1 22) := by rw [g18_τ28, w22_τ28]
        have y19_22_τ28 : τ28.2.1 19 (τ28.1 22) = (τ_15.2.1 19) (τ_15.1 22) := by rw [g19_τ28, w22_τ28]
        have y21_22_τ28 : τ28.2.1 21 (τ28.1 22) = (τ_15.2.1 21) (τ_15.1 22) := by rw [g21_τ28, w22_τ28]
        have y22_22_τ28 : τ28.2.1 22 (τ28.1 22) = (τ_15.2.1 22) (τ_15.1 22) := by rw [g22_τ28, w22_τ28]
        have y25_22_τ28 : τ28.2.1 25 (τ28.1 22) = (τ_15.2.1 25) (τ_15.1 22) := by rw [g25_τ28, w22_τ28]
        have y26_22_τ28 : τ28.2.1 26 (τ28.1 22) = (τ_15.2.1 26) (τ_15.1 22) := by rw [g26_τ28, w22_τ28]
        have Z1 : τ28.2.1 14 (τ28.1 22) + τ28.2.1 15 (τ28.1 22) = (τ28.1 6) := q26_4
        have Z2 : τ28.2.1 18 (τ28.1 22) + τ28.2.1 19 (τ28.1 22) = (τ28.1 7) := by rw [show (τ28.2.1 18 (τ28.1 22) + τ28.2.1 19 (τ28.1 22) = (τ28.1 7)) = (τ_15.2.1 18 (τ_15.1 22) + τ_15.2.1 19 (τ_15.1 22) = (τ_15.1 7)) from by rw [w7_τ28, w22_τ28, g18_τ28, g19_τ28]]; exact Z2
        have Z3 : τ28.2.1 21 (τ28.1 22) + τ28.2.1 22 (τ28.1 22) = (τ28.1 8) := by rw [show (τ28.2.1 21 (τ28.1 22) + τ28.2.1 22 (τ28.1 22) = (τ28.1 8)) = (τ_15.2.1 21 (τ_15.1 22) + τ_15.2.1 22 (τ_15.1 22) = (τ_15.1 8)) from by rw [w8_τ28, w22_τ28, g21_τ28, g22_τ28]]; exact Z3
        have Z4 : τ28.2.1 25 (τ28.1 22) + τ28.2.1 26 (τ28.1 22) = (τ28.1 9) := by rw [show (τ28.2.1 25 (τ28.1 22) + τ28.2.1 26 (τ28.1 22) = (τ28.1 9)) = (τ_15.2.1 25 (τ_15.1 22) + τ_15.2.1 26 (τ_15.1 22) = (τ_15.1 9)) from by rw [w9_τ28, w22_τ28, g25_τ28, g26_τ28]]; exact Z4
        have Y20 : ca (τ28.2.1 12) ((τ28.1 3)) ≤ (τ28.1 4) := q26_5
        have Y8 : j_eq ((σ.1 9)) (σ.2.1 28) (τ28.2.1 28) := by rw [show (j_eq ((σ.1 9)) (σ.2.1 28) (τ28.2.1 28)) = (j_eq ((σ.1 9)) (σ.2.1 28) (τ_15.2.1 28)) from by rw [g28_τ28]]; exact Y8
        have Y14 : ca (τ28.2.1 28) ((τ28.1 9)) ≤ ca (τ28.2.1 28) (τ28.2.1 25 (τ28.1 22)) + 300 := by rw [show (ca (τ28.2.1 28) ((τ28.1 9)) ≤ ca (τ28.2.1 28) (τ28.2.1 25 (τ28.1 22)) + 300) = (ca (τ_15.2.1 28) ((τ_15.1 9)) ≤ ca (τ_15.2.1 28) (τ_15.2.1 25 (τ_15.1 22)) + 300) from by rw [w9_τ28, w22_τ28, g25_τ28, g28_τ28]]; exact Y14
        have PA : J_pa (τ28.2.1 21) (τ28.2.1 22) := by rw [show (J_pa (τ28.2.1 21) (τ28.2.1 22)) = (J_pa (τ_15.2.1 21) (τ_15.2.1 22)) from by rw [g21_τ28, g22_τ28]]; exact PA
        have A6 : ∀ j, (-1) ≤ τ28.2.1 6 j ∧ τ28.2.1 6 j ≤ 999 := fun j => hT.2 6 j
        have A7 : ∀ j, (-1) ≤ τ28.2.1 7 j ∧ τ28.2.1 7 j ≤ 1499 := fun j => hT.2 7 j
        have A12 : ∀ j, 0 ≤ τ28.2.1 12 j ∧ τ28.2.1 12 j ≤ 1 := fun j => hT.2 12 j
        have A14 : ∀ j, 0 ≤ τ28.2.1 14 j ∧ τ28.2.1 14 j ≤ 30000 := fun j => hT.2 14 j
        have A15 : ∀ j, 0 ≤ τ28.2.1 15 j ∧ τ28.2.1 15 j ≤ 300 := fun j => hT.2 15 j
        have A18 : ∀ j, 0 ≤ τ28.2.1 18 j ∧ τ28.2.1 18 j ≤ 90000 := fun j => hT.2 18 j
        have A19 : ∀ j, 0 ≤ τ28.2.1 19 j ∧ τ28.2.1 19 j ≤ 60 := fun j => hT.2 19 j
        have A21 : ∀ j, 0 ≤ τ28.2.1 21 j ∧ τ28.2.1 21 j ≤ 20000 := fun j => hT.2 21 j
        have A22 : ∀ j, 0 ≤ τ28.2.1 22 j ∧ τ28.2.1 22 j ≤ 20000 := fun j => hT.2 22 j
        have A25 : ∀ j, 0 ≤ τ28.2.1 25 j ∧ τ28.2.1 25 j ≤ 20000 := fun j => hT.2 25 j
        have A26 : ∀ j, 0 ≤ τ28.2.1 26 j ∧ τ28.2.1 26 j ≤ 20000 := fun j => hT.2 26 j
        have A28 : ∀ j, 0 ≤ τ28.2.1 28 j ∧ τ28.2.1 28 j ≤ 1 := fun j => hT.2 28 j
        have v0 : 0 ≤ τ28.1 0 ∧ τ28.1 0 ≤ 60000 := hT.1 0
        have v3 : 0 ≤ τ28.1 3 ∧ τ28.1 3 ≤ 1000 := hT.1 3
        have v4 : 0 ≤ τ28.1 4 ∧ τ28.1 4 ≤ 100 := hT.1 4
        have v5 : 0 ≤ τ28.1 5 ∧ τ28.1 5 ≤ 1500 := hT.1 5
        have v6 : 0 ≤ τ28.1 6 ∧ τ28.1 6 ≤ 30000 := hT.1 6
        have v7 : 0 ≤ τ28.1 7 ∧ τ28.1 7 ≤ 90000 := hT.1 7
        have v8 : 0 ≤ τ28.1 8 ∧ τ28.1 8 ≤ 20000 := hT.1 8
        have v9 : 0 ≤ τ28.1 9 ∧ τ28.1 9 ≤ 20000 := hT.1 9
        have v13 : 0 ≤ τ28.1 13 ∧ τ28.1 13 ≤ 1500 := hT.1 13
        have v16 : 0 ≤ τ28.1 16 ∧ τ28.1 16 ≤ 60000 := hT.1 16
        have v17 : 0 ≤ τ28.1 17 ∧ τ28.1 17 ≤ 60000 := hT.1 17
        have v18 : 0 ≤ τ28.1 18 ∧ τ28.1 18 ≤ 60000 := hT.1 18
        have v19 : (-1) ≤ τ28.1 19 ∧ τ28.1 19 ≤ 125 := hT.1 19
        have v20 : 0 ≤ τ28.1 20 ∧ τ28.1 20 ≤ 19 := hT.1 20
        have v22 : 0 ≤ τ28.1 22 ∧ τ28.1 22 ≤ 1499 := hT.1 22
        have a14_22 : 0 ≤ τ28.2.1 14 (τ28.1 22) ∧ τ28.2.1 14 (τ28.1 22) ≤ 30000 := hT.2 14 _
        have a15_22 : 0 ≤ τ28.2.1 15 (τ28.1 22) ∧ τ28.2.1 15 (τ28.1 22) ≤ 300 := hT.2 15 _
        have a18_22 : 0 ≤ τ28.2.1 18 (τ28.1 22) ∧ τ28.2.1 18 (τ28.1 22) ≤ 90000 := hT.2 18 _
        have a19_22 : 0 ≤ τ28.2.1 19 (τ28.1 22) ∧ τ28.2.1 19 (τ28.1 22) ≤ 60 := hT.2 19 _
        have a21_22 : 0 ≤ τ28.2.1 21 (τ28.1 22) ∧ τ28.2.1 21 (τ28.1 22) ≤ 20000 := hT.2 21 _
        have a22_22 : 0 ≤ τ28.2.1 22 (τ28.1 22) ∧ τ28.2.1 22 (τ28.1 22) ≤ 20000 := hT.2 22 _
        have a25_22 : 0 ≤ τ28.2.1 25 (τ28.1 22) ∧ τ28.2.1 25 (τ28.1 22) ≤ 20000 := hT.2 25 _
        have a26_22 : 0 ≤ τ28.2.1 26 (τ28.1 22) ∧ τ28.2.1 26 (τ28.1 22) ≤ 20000 := hT.2 26 _
        have av5 : σ.1 5 ≤ τ28.1 5 := ag.1 5 (by decide)
        have av6 : σ.1 6 ≤ τ28.1 6 := ag.1 6 (by decide)
        have av7 : σ.1 7 ≤ τ28.1 7 := ag.1 7 (by decide)
        have av8 : σ.1 8 ≤ τ28.1 8 := ag.1 8 (by decide)
        have av9 : σ.1 9 ≤ τ28.1 9 := ag.1 9 (by decide)
        exact ⟨hT, (show (τ28.1 16) ≤ (τ28.1 0) from by (first | omega | (simp only [st_s] <;> omega) | assumption | omega)), (show (τ28.1 17) + (τ28.1 18) ≤ (τ28.1 0) from by (first | omega | (simp only [st_s] <;> omega) | assumption | omega)), (show ¬ (σ.1 20) = 0 → (τ28.1 20) = (σ.1 20) from by (first | omega | (simp only [st_s] <;> omega) | assumption | omega)), (show ca (τ28.2.1 12) ((τ28.1 3)) ≤ (τ28.1 4) from Y20), (show J_pa (τ28.2.1 21) (τ28.2.1 22) from PA), (show (τ28.1 13) ≤ (τ28.1 5) from by (first | omega | (simp only [st_s] <;> omega) | assumption | omega)), (show oc (τ28.2.1 7) ≤ (σ.1 5) + 1 from by (first | omega | (simp only [st_s] <;> omega) | assumption | omega)), (show (τ28.1 5) ≤ (σ.1 5) + 1 from by (first | omega | (simp only [st_s] <;> omega) | assumption | omega)), (show (τ28.1 20) = 0 → (τ28.1 7) ≤ 60 * (τ28.1 5) from by (first | omega | (simp only [st_s] <;> omega) | assumption | omega)), (show (τ28.1 20) = 0 → (τ28.1 5) = (σ.1 5) + 1 from by (first | omega | (simp only [st_s] <;> omega) | assumption | omega)), (show j_eq ((σ.1 9)) (σ.2.1 28) (τ28.2.1 28) from Y8), (show (τ28.1 20) = 0 → m_J σ → m_J τ28 from by (first | (intro hf; exfalso; omega) | (intro hf hJ; have e5 : σ.1 5 = τ25.1 22 := (by omega); exact m_J_e hJ ag hT0 Y8 (by omega) (by rw [e5] <;> omega) (by rw [e5] <;> omega) (by rw [e5] <;> omega) (by rw [e5] <;> omega) (by rw [e5] <;> omega) (by rw [e5] <;> omega) (by rw [e5] <;> omega) (by rw [e5] <;> omega) (by rw [e5] <;> omega) (by omega) (by rw [e5]; exact Y14)) | (intro hf hJ; have e5 : σ.1 5 = τ28.1 22 := (by omega); exact m_J_e hJ ag hT0 Y8 (by omega) (by rw [e5] <;> omega) (by rw [e5] <;> omega) (by rw [e5] <;> omega) (by rw [e5] <;> omega) (by rw [e5] <;> omega) (by rw [e5] <;> omega) (by rw [e5] <;> omega) (by rw [e5] <;> omega) (by rw [e5] <;> omega) (by omega) (by rw [e5]; exact Y14)) | (intro hf hJ; have e5 : σ.1 5 = τ32.1 22 := (by omega); exact m_J_e hJ ag hT0 Y8 (by omega) (by rw [e5] <;> omega) (by rw [e5] <;> omega) (by rw [e5] <;> omega) (by rw [e5] <;> omega) (by rw [e5] <;> omega) (by rw [e5] <;> omega) (by rw [e5] <;> omega) (by rw [e5] <;> omega) (by rw [e5] <;> omega) (by omega) (by rw [e5]; exact Y14)))), (show (σ.1 16) ≤ (τ28.1 16) from by (first | omega | (simp only [st_s] <;> omega) | assumption | omega)), ag⟩
    ·
      exact ⟨hT, (show (τ_15.1 16) ≤ (τ_15.1 0) from by (first | omega | (simp only [st_s] <;> omega) | assumption | omega)), (show (τ_15.1 17) + (τ_15.1 18) ≤ (τ_15.1 0) from by (first | omega | (simp only [st_s] <;> omega) | assumption | omega)), (show ¬ (σ.1 20) = 0 → (τ_15.1 20) = (σ.1 20) from by (first | omega | (simp only [st_s] <;> omega) | assumption | omega)), (show ca (τ_15.2.1 12) ((τ_15.1 3)) ≤ (τ_15.1 4) from Y20), (show J_pa (τ_15.2.1 21) (τ_15.2.1 22) from PA), (show (τ_15.1 13) ≤ (τ_15.1 5) from by (first | omega | (simp only [st_s] <;> omega) | assumption | omega)), (show oc (τ_15.2.1 7) ≤ (σ.1 5) + 1 from by (first | omega | (simp only [st_s] <;> omega) | assumption | omega)), (show (τ_15.1 5) ≤ (σ.1 5) + 1 from by (first | omega | (simp only [st_s] <;> omega) | assumption | omega)), (show (τ_15.1 20) = 0 → (τ_15.1 7) ≤ 60 * (τ_15.1 5) from by (first | omega | (simp only [st_s] <;> omega) | assumption | omega)), (show (τ_15.1 20) = 0 → (τ_15.1 5) = (σ.1 5) + 1 from by (first | omega | (simp only [st_s] <;> omega) | assumption | omega)), (show j_eq ((σ.1 9)) (σ.2.1 28) (τ_15.2.1 28) from Y8), (show (τ_15.1 20) = 0 → m_J σ → m_J τ_15 from by (first | (intro hf; exfalso; omega) | (intro hf hJ; have e5 : σ.1 5 = τ25.1 22 := (by omega); exact m_J_e hJ ag hT0 Y8 (by omega) (by rw [e5] <;> omega) (by rw [e5] <;> omega) (by rw [e5] <;> omega) (by rw [e5] <;> omega) (by rw [e5] <;> omega) (by rw [e5] <;> omega) (by rw [e5] <;> omega) (by rw [e5] <;> omega) (by rw [e5] <;> omega) (by omega) (by rw [e5]; exact Y14)) | (intro hf hJ; have e5 : σ.1 5 = τ28.1 22 := (by omega); exact m_J_e hJ ag hT0 Y8 (by omega) (by rw [e5] <;> omega) (by rw [e5] <;> omega) (by rw [e5] <;> omega) (by rw [e5] <;> omega) (by rw [e5] <;> omega) (by rw [e5] <;> omega) (by rw [e5] <;> omega) (by rw [e5] <;> omega) (by rw [e5] <;> omega) (by omega) (by rw [e5]; exact Y14)) | (intro hf hJ; have e5 : σ.1 5 = τ32.1 22 := (by omega); exact m_J_e hJ ag hT0 Y8 (by omega) (by rw [e5] <;> omega) (by rw [e5] <;> omega) (by rw [e5] <;> omega) (by rw [e5] <;> omega) (by rw [e5] <;> omega) (by rw [e5] <;> omega) (by rw [e5] <;> omega) (by rw [e5] <;> omega) (by rw [e5] <;> omega) (by omega) (by rw [e5]; exact Y14)))), (show (σ.1 16) ≤ (τ_15.1 16) from by (first | omega | (simp only [st_s] <;> omega) | assumption | omega)), ag⟩
  refine ⟨_, K2_X13_readLabel hT (show (σ.1 17) + (σ.1 18) ≤ (σ.1 0) from by (first | omega | (simp only [st_s] <;> omega) | assumption | omega)) (show oc (σ.2.1 6) ≤ (σ.1 3) from by (first | omega | (simp only [st_s] <;> omega) | assumption | omega)) (show oc (σ.2.1 7) ≤ (σ.1 5) from by (first | omega | (simp only [st_s] <;> omega) | assumption | omega)) (show J_pa (σ.2.1 21) (σ.2.1 22) from PA), ?_⟩
  intro τ3 hn_τ3 hf_τ3 hq
  obtain ⟨hT, q1_1, q1_2, q1_3, q1_4, q1_5, q1_6⟩ := hq
  replace q1_1 : (τ3.1 20) = 0 → (τ3.1 22) = (σ.1 5) ∧ τ3.2.1 15 (τ3.1 22) = 0 ∧ τ3.2.1 19 (τ3.1 22) = 0 ∧ τ3.2.1 22 (τ3.1 22) = 0 ∧ τ3.2.1 26 (τ3.1 22) = 0 ∧ (σ.1 5) < 1500 := q1_1
  replace q1_2 : (τ3.1 20) = 0 → τ3.2.1 14 (τ3.1 22) = (σ.1 6) ∧ τ3.2.1 18 (τ3.1 22) = (σ.1 7) ∧ τ3.2.1 21 (τ3.1 22) = (σ.1 8) ∧ τ3.2.1 25 (τ3.1 22) = (σ.1 9) := q1_2
  replace q1_3 : oc (τ3.2.1 7) ≤ (σ.1 5) + 1 := q1_3
  replace q1_4 : ¬ (σ.1 20) = 0 → (τ3.1 20) = (σ.1 20) := q1_4
  replace q1_5 : J_pa (τ3.2.1 21) (τ3.2.1 22) := q1_5
  replace q1_6 : m_ag σ τ3 := q1_6
  replace ag : m_ag σ τ3 := ag_t ag q1_6 rfl
  have w0_τ3 : τ3.1 0 = σ.1 0 := hf_τ3.1 0 (by decide)
  have w3_τ3 : τ3.1 3 = σ.1 3 := hf_τ3.1 3 (by decide)
  have w4_τ3 : τ3.1 4 = σ.1 4 := hf_τ3.1 4 (by decide)
  have w5_τ3 : τ3.1 5 = σ.1 5 := hf_τ3.1 5 (by decide)
  have w6_τ3 : τ3.1 6 = σ.1 6 := hf_τ3.1 6 (by decide)
  have w7_τ3 : τ3.1 7 = σ.1 7 := hf_τ3.1 7 (by decide)
  have w8_τ3 : τ3.1 8 = σ.1 8 := hf_τ3.1 8 (by decide)
  have w9_τ3 : τ3.1 9 = σ.1 9 := hf_τ3.1 9 (by decide)
  have w13_τ3 : τ3.1 13 = σ.1 13 := hf_τ3.1 13 (by decide)
  have w16_τ3 : τ3.1 16 = σ.1 16 := hf_τ3.1 16 (by decide)
  have w17_τ3 : τ3.1 17 = σ.1 17 := hf_τ3.1 17 (by decide)
  have w18_τ3 : τ3.1 18 = σ.1 18 := hf_τ3.1 18 (by decide)
  have w19_τ3 : τ3.1 19 = σ.1 19 := hf_τ3.1 19 (by decide)
  have g6_τ3 : τ3.2.1 6 = σ.2.1 6 := hf_τ3.2.1 6 (by decide)
  have g12_τ3 : τ3.2.1 12 = σ.2.1 12 := hf_τ3.2.1 12 (by decide)
  have g28_τ3 : τ3.2.1 28 = σ.2.1 28 := hf_τ3.2.1 28 (by decide)
  first | (have o6_τ3 := congrArg oc g6_τ3) | skip
  first | (have o7_τ3 := congrArg oc g7_τ3) | skip
  have W0 : τ3.1 0 = σ.1 0 := by omega
  have W3 : τ3.1 3 = σ.1 3 := by omega
  have G6 : τ3.2.1 6 = σ.2.1 6 := (g6_τ3).trans G6
  have Y20 : ca (τ3.2.1 12) ((τ3.1 3)) ≤ (τ3.1 4) := by rw [show (ca (τ3.2.1 12) ((τ3.1 3)) ≤ (τ3.1 4)) = (ca (σ.2.1 12) ((σ.1 3)) ≤ (σ.1 4)) from by rw [w3_τ3, w4_τ3, g12_τ3]]; exact Y20
  have Y8 : j_eq ((σ.1 9)) (σ.2.1 28) (τ3.2.1 28) := by rw [show (j_eq ((σ.1 9)) (σ.2.1 28) (τ3.2.1 28)) = (j_eq ((σ.1 9)) (σ.2.1 28) (σ.2.1 28)) from by rw [g28_τ3]]; exact Y8
  have PA : J_pa (τ3.2.1 21) (τ3.2.1 22) := q1_5
  have A6 : ∀ j, (-1) ≤ τ3.2.1 6 j ∧ τ3.2.1 6 j ≤ 999 := fun j => hT.2 6 j
  have A7 : ∀ j, (-1) ≤ τ3.2.1 7 j ∧ τ3.2.1 7 j ≤ 1499 := fun j => hT.2 7 j
  have A12 : ∀ j, 0 ≤ τ3.2.1 12 j ∧ τ3.2.1 12 j ≤ 1 := fun j => hT.2 12 j
  have A14 : ∀ j, 0 ≤ τ3.2.1 14 j ∧ τ3.2.1 14 j ≤ 30000 := fun j => hT.2 14 j
  have A15 : ∀ j, 0 ≤ τ3.2.1 15 j ∧ τ3.2.1 15 j ≤ 300 := fun j => hT.2 15 j
  have A18 : ∀ j, 0 ≤ τ3.2.1 18 j ∧ τ3.2.1 18 j ≤ 90000 := fun j => hT.2 18 j
  have A19 : ∀ j, 0 ≤ τ3.2.1 19 j ∧ τ3.2.1 19 j ≤ 60 := fun j => hT.2 19 j
  have A21 : ∀ j, 0 ≤ τ3.2.1 21 j ∧ τ3.2.1 21 j ≤ 20000 := fun j => hT.2 21 j
  have A22 : ∀ j, 0 ≤ τ3.2.1 22 j ∧ τ3.2.1 22 j ≤ 20000 := fun j => hT.2 22 j
  have A25 : ∀ j, 0 ≤ τ3.2.1 25 j ∧ τ3.2.1 25 j ≤ 20000 := fun j => hT.2 25 j
  have A26 : ∀ j, 0 ≤ τ3.2.1 26 j ∧ τ3.2.1 26 j ≤ 20000 := fun j => hT.2 26 j
  have A28 : ∀ j, 0 ≤ τ3.2.1 28 j ∧ τ3.2.1 28 j ≤ 1 := fun j => hT.2 28 j
  have v0 : 0 ≤ τ3.1 0 ∧ τ3.1 0 ≤ 60000 := hT.1 0
  have v3 : 0 ≤ τ3.1 3 ∧ τ3.1 3 ≤ 1000 := hT.1 3
  have v4 : 0 ≤ τ3.1 4 ∧ τ3.1 4 ≤ 100 := hT.1 4
  have v5 : 0 ≤ τ3.1 5 ∧ τ3.1 5 ≤ 1500 := hT.1 5
  have v6 : 0 ≤ τ3.1 6 ∧ τ3.1 6 ≤ 30000 := hT.1 6
  have v7 : 0 ≤ τ3.1 7 ∧ τ3.1 7 ≤ 90000 := hT.1 7
  have v8 : 0 ≤ τ3.1 8 ∧ τ3.1 8 ≤ 20000 := hT.1 8
  have v9 : 0 ≤ τ3.1 9 ∧ τ3.1 9 ≤ 20000 := hT.1 9
  have v13 : 0 ≤ τ3.1 13 ∧ τ3.1 13 ≤ 1500 := hT.1 13
  have v16 : 0 ≤ τ3.1 16 ∧ τ3.1 16 ≤ 60000 := hT.1 16
  have v17 : 0 ≤ τ3.1 17 ∧ τ3.1 17 ≤ 60000 := hT.1 17
  have v18 : 0 ≤ τ3.1 18 ∧ τ3.1 18 ≤ 60000 := hT.1 18
  have v19 : (-1) ≤ τ3.1 19 ∧ τ3.1 19 ≤ 125 := hT.1 19
  have v20 : 0 ≤ τ3.1 20 ∧ τ3.1 20 ≤ 19 := hT.1 20
  have v22 : 0 ≤ τ3.1 22 ∧ τ3.1 22 ≤ 1499 := hT.1 22
  have a14_22 : 0 ≤ τ3.2.1 14 (τ3.1 22) ∧ τ3.2.1 14 (τ3.1 22) ≤ 30000 := hT.2 14 _
  have a15_22 : 0 ≤ τ3.2.1 15 (τ3.1 22) ∧ τ3.2.1 15 (τ3.1 22) ≤ 300 := hT.2 15 _
  have a18_22 : 0 ≤ τ3.2.1 18 (τ3.1 22) ∧ τ3.2.1 18 (τ3.1 22) ≤ 90000 := hT.2 18 _
  have a19_22 : 0 ≤ τ3.2.1 19 (τ3.1 22) ∧ τ3.2.1 19 (τ3.1 22) ≤ 60 := hT.2 19 _
  have a21_22 : 0 ≤ τ3.2.1 21 (τ3.1 22) ∧ τ3.2.1 21 (τ3.1 22) ≤ 20000 := hT.2 21 _
  have a22_22 : 0 ≤ τ3.2.1 22 (τ3.1 22) ∧ τ3.2.1 22 (τ3.1 22) ≤ 20000 := hT.2 22 _
  have a25_22 : 0 ≤ τ3.2.1 25 (τ3.1 22) ∧ τ3.2.1 25 (τ3.1 22) ≤ 20000 := hT.2 25 _
  have a26_22 : 0 ≤ τ3.2.1 26 (τ3.1 22) ∧ τ3.2.1 26 (τ3.1 22) ≤ 20000 := hT.2 26 _
  have av5 : σ.1 5 ≤ τ3.1 5 := ag.1 5 (by decide)
  have av6 : σ.1 6 ≤ τ3.1 6 := ag.1 6 (by decide)
  have av7 : σ.1 7 ≤ τ3.1 7 := ag.1 7 (by decide)
  have av8 : σ.1 8 ≤ τ3.1 8 := ag.1 8 (by decide)
  have av9 : σ.1 9 ≤ τ3.1 9 := ag.1 9 (by decide)
  refine ⟨fun c4 => ?_, fun c4 => ?_⟩
  ·
    exact l_15 _ hT ag (show τ3.1 0 = σ.1 0 from by omega) (show τ3.1 3 = σ.1 3 from by omega) G6 (show (τ3.1 16) ≤ (τ3.1 0) from by (first | omega | (simp only [st_s] <;> omega) | assumption | omega)) (show (τ3.1 17) + (τ3.1 18) ≤ (τ3.1 0) from by (first | omega | (simp only [st_s] <;> omega) | assumption | omega)) (show oc (τ3.2.1 6) < 4096 from by (first | omega | (simp only [st_s] <;> omega) | assumption | omega)) (show oc (τ3.2.1 7) ≤ (σ.1 5) + 1 from by (first | omega | (simp only [st_s] <;> omega) | assumption | omega)) (show ¬ (σ.1 20) = 0 → (τ3.1 20) = (σ.1 20) from by (first | omega | (simp only [st_s] <;> omega) | assumption | omega)) (show ca (τ3.2.1 12) ((τ3.1 3)) ≤ (τ3.1 4) from Y20) (show J_pa (τ3.2.1 21) (τ3.2.1 22) from PA) (show (τ3.1 20) = 0 → (τ3.1 22) = (τ3.1 5) ∧ τ3.2.1 15 (τ3.1 22) = 0 ∧ τ3.2.1 19 (τ3.1 22) = 0 ∧ τ3.2.1 22 (τ3.1 22) = 0 ∧ τ3.2.1 26 (τ3.1 22) = 0 ∧ (τ3.1 5) < 1500 from by (first | omega | (simp only [st_s] <;> omega) | assumption | omega)) (show (τ3.1 20) = 0 → τ3.2.1 14 (τ3.1 22) = (τ3.1 6) ∧ τ3.2.1 18 (τ3.1 22) = (τ3.1 7) ∧ τ3.2.1 21 (τ3.1 22) = (τ3.1 8) ∧ τ3.2.1 25 (τ3.1 22) = (τ3.1 9) from by (first | omega | (simp only [st_s] <;> omega) | assumption | omega)) (show (τ3.1 5) = (σ.1 5) from by (first | omega | (simp only [st_s] <;> omega) | assumption | omega)) (show (τ3.1 6) = (σ.1 6) ∧ (τ3.1 7) = (σ.1 7) ∧ (τ3.1 8) = (σ.1 8) ∧ (τ3.1 9) = (σ.1 9) ∧ (τ3.1 13) = (σ.1 13) from by (first | omega | (simp only [st_s] <;> omega) | assumption | omega)) (show j_eq ((σ.1 9)) (σ.2.1 28) (τ3.2.1 28) from Y8) (show (σ.1 16) ≤ (τ3.1 16) from by (first | omega | (simp only [st_s] <;> omega) | assumption | omega))
  ·
    refine ⟨_, K_X13_next hT (show (τ3.1 16) ≤ (τ3.1 0) from by (first | omega | (simp only [st_s] <;> omega) | assumption | omega)), ?_⟩
    intro τ7 hn_τ7 hf_τ7 hq
    obtain ⟨hT, q5_1, q5_2, q5_3, q5_4, q5_5⟩ := hq
    replace q5_1 : (τ7.1 16) ≤ (τ7.1 0) := q5_1
    replace q5_2 : (τ7.1 17) + (τ7.1 18) ≤ (τ7.1 0) := q5_2
    replace q5_3 : (τ3.1 16) ≤ (τ7.1 16) := q5_3
    replace q5_4 : ¬ (τ3.1 20) = 0 → (τ7.1 20) = (τ3.1 20) := q5_4
    replace q5_5 : (τ7.1 20) = 0 → ¬ (τ7.1 19) = 0 → (τ3.1 16) < (τ7.1 16) ∧ 0 < (τ7.1 18) := q5_5
    replace ag : m_ag σ τ7 := ag_r ag hf_τ7 rfl rfl
    have w0_τ7 : τ7.1 0 = τ3.1 0 := hf_τ7.1 0 (by decide)
    have w3_τ7 : τ7.1 3 = τ3.1 3 := hf_τ7.1 3 (by decide)
    have w4_τ7 : τ7.1 4 = τ3.1 4 := hf_τ7.1 4 (by decide)
    have w5_τ7 : τ7.1 5 = τ3.1 5 := hf_τ7.1 5 (by decide)
    have w6_τ7 : τ7.1 6 = τ3.1 6 := hf_τ7.1 6 (by decide)
    have w7_τ7 : τ7.1 7 = τ3.1 7 := hf_τ7.1 7 (by decide)
    have w8_τ7 : τ7.1 8 = τ3.1 8 := hf_τ7.1 8 (by decide)
    have w9_τ7 : τ7.1 9 = τ3.1 9 := hf_τ7.1 9 (by decide)
    have w13_τ7 : τ7.1 13 = τ3.1 13 := hf_τ7.1 13 (by decide)
    have w22_τ7 : τ7.1 22 = τ3.1 22 := hf_τ7.1 22 (by decide)
    have g6_τ7 : τ7.2.1 6 = τ3.2.1 6 := hf_τ7.2.1 6 (by decide)
    have g7_τ7 : τ7.2.1 7 = τ3.2.1 7 := hf_τ7.2.1 7 (by decide)
    have g12_τ7 : τ7.2.1 12 = τ3.2.1 12 := hf_τ7.2.1 12 (by decide)
    have g14_τ7 : τ7.2.1 14 = τ3.2.1 14 := hf_τ7.2.1 14 (by decide)
    have g15_τ7 : τ7.2.1 15 = τ3.2.1 15 := hf_τ7.2.1 15 (by decide)
    have g18_τ7 : τ7.2.1 18 = τ3.2.1 18 := hf_τ7.2.1 18 (by decide)
    have g19_τ7 : τ7.2.1 19 = τ3.2.1 19 := hf_τ7.2.1 19 (by decide)
    have g21_τ7 : τ7.2.1 21 = τ3.2.1 21 := hf_τ7.2.1 21 (by decide)
    have g22_τ7 : τ7.2.1 22 = τ3.2.1 22 := hf_τ7.2.1 22 (by decide)
    have g25_τ7 : τ7.2.1 25 = τ3.2.1 25 := hf_τ7.2.1 25 (by decide)
    have g26_τ7 : τ7.2.1 26 = τ3.2.1 26 := hf_τ7.2.1 26 (by decide)
    have g28_τ7 : τ7.2.1 28 = τ3.2.1 28 := hf_τ7.2.1 28 (by decide)
    first | (have o6_τ7 := congrArg oc g6_τ7) | skip
    first | (have o7_τ7 := congrArg oc g7_τ7) | skip
    have W0 : τ7.1 0 = σ.1 0 := by omega
    have W3 : τ7.1 3 = σ.1 3 := by omega
    have G6 : τ7.2.1 6 = σ.2.1 6 := (g6_τ7).trans G6
    have y14_22_τ7 : τ7.2.1 14 (τ7.1 22) = (τ3.2.1 14) (τ3.1 22) := by rw [g14_τ7, w22_τ7]
    have y15_22_τ7 : τ7.2.1 15 (τ7.1 22) = (τ3.2.1 15) (τ3.1 22) := by rw [g15_τ7, w22_τ7]
    have y18_22_τ7 : τ7.2.1 18 (τ7.1 22) = (τ3.2.1 18) (τ3.1 22) := by rw [g18_τ7, w22_τ7]
    have y19_22_τ7 : τ7.2.1 19 (τ7.1 22) = (τ3.2.1 19) (τ3.1 22) := by rw [g19_τ7, w22_τ7]
    have y21_22_τ7 : τ7.2.1 21 (τ7.1 22) = (τ3.2.1 21) (τ3.1 22) := by rw [g21_τ7, w22_τ7]
    have y22_22_τ7 : τ7.2.1 22 (τ7.1 22) = (τ3.2.1 22) (τ3.1 22) := by rw [g22_τ7, w22_τ7]
    have y25_22_τ7 : τ7.2.1 25 (τ7.1 22) = (τ3.2.1 25) (τ3.1 22) := by rw [g25_τ7, w22_τ7]
    have y26_22_τ7 : τ7.2.1 26 (τ7.1 22) = (τ3.2.1 26) (τ3.1 22) := by rw [g26_τ7, w22_τ7]
    have Y20 : ca (τ7.2.1 12) ((τ7.1 3)) ≤ (τ7.1 4) := by rw [show (ca (τ7.2.1 12) ((τ7.1 3)) ≤ (τ7.1 4)) = (ca (τ3.2.1 12) ((τ3.1 3)) ≤ (τ3.1 4)) from by rw [w3_τ7, w4_τ7, g12_τ7]]; exact Y20
    have Y8 : j_eq ((σ.1 9)) (σ.2.1 28) (τ7.2.1 28) := by rw [show (j_eq ((σ.1 9)) (σ.2.1 28) (τ7.2.1 28)) = (j_eq ((σ.1 9)) (σ.2.1 28) (τ3.2.1 28)) from by rw [g28_τ7]]; exact Y8
    have PA : J_pa (τ7.2.1 21) (τ7.2.1 22) := by rw [show (J_pa (τ7.2.1 21) (τ7.2.1 22)) = (J_pa (τ3.2.1 21) (τ3.2.1 22)) from by rw [g21_τ7, g22_τ7]]; exact PA
    have A6 : ∀ j, (-1) ≤ τ7.2.1 6 j ∧ τ7.2.1 6 j ≤ 999 := fun j => hT.2 6 j
    have A7 : ∀ j, (-1) ≤ τ7.2.1 7 j ∧ τ7.2.1 7 j ≤ 1499 := fun j => hT.2 7 j
    have A12 : ∀ j, 0 ≤ τ7.2.1 12 j ∧ τ7.2.1 12 j ≤ 1 := fun j => hT.2 12 j
    have A14 : ∀ j, 0 ≤ τ7.2.1 14 j ∧ τ7.2.1 14 j ≤ 30000 := fun j => hT.2 14 j
    have A15 : ∀ j, 0 ≤ τ7.2.1 15 j ∧ τ7.2.1 15 j ≤ 300 := fun j => hT.2 15 j
    have A18 : ∀ j, 0 ≤ τ7.2.1 18 j ∧ τ7.2.1 18 j ≤ 90000 := fun j => hT.2 18 j
    have A19 : ∀ j, 0 ≤ τ7.2.1 19 j ∧ τ7.2.1 19 j ≤ 60 := fun j => hT.2 19 j
    have A21 : ∀ j, 0 ≤ τ7.2.1 21 j ∧ τ7.2.1 21 j ≤ 20000 := fun j => hT.2 21 j
    have A22 : ∀ j, 0 ≤ τ7.2.1 22 j ∧ τ7.2.1 22 j ≤ 20000 := fun j => hT.2 22 j
    have A25 : ∀ j, 0 ≤ τ7.2.1 25 j ∧ τ7.2.1 25 j ≤ 20000 := fun j => hT.2 25 j
    have A26 : ∀ j, 0 ≤ τ7.2.1 26 j ∧ τ7.2.1 26 j ≤ 20000 := fun j => hT.2 26 j
    have A28 : ∀ j, 0 ≤ τ7.2.1 28 j ∧ τ7.2.1 28 j ≤ 1 := fun j => hT.2 28 j
    have v0 : 0 ≤ τ7.1 0 ∧ τ7.1 0 ≤ 60000 := hT.1 0
    have v3 : 0 ≤ τ7.1 3 ∧ τ7.1 3 ≤ 1000 := hT.1 3
    have v4 : 0 ≤ τ7.1 4 ∧ τ7.1 4 ≤ 100 := hT.1 4
    have v5 : 0 ≤ τ7.1 5 ∧ τ7.1 5 ≤ 1500 := hT.1 5
    have v6 : 0 ≤ τ7.1 6 ∧ τ7.1 6 ≤ 30000 := hT.1 6
    have v7 : 0 ≤ τ7.1 7 ∧ τ7.1 7 ≤ 90000 := hT.1 7
    have v8 : 0 ≤ τ7.1 8 ∧ τ7.1 8 ≤ 20000 := hT.1 8
    have v9 : 0 ≤ τ7.1 9 ∧ τ7.1 9 ≤ 20000 := hT.1 9
    have v13 : 0 ≤ τ7.1 13 ∧ τ7.1 13 ≤ 1500 := hT.1 13
    have v16 : 0 ≤ τ7.1 16 ∧ τ7.1 16 ≤ 60000 := hT.1 16
    have v17 : 0 ≤ τ7.1 17 ∧ τ7.1 17 ≤ 60000 := hT.1 17
    have v18 : 0 ≤ τ7.1 18 ∧ τ7.1 18 ≤ 60000 := hT.1 18
    have v19 : (-1) ≤ τ7.1 19 ∧ τ7.1 19 ≤ 125 := hT.1 19
    have v20 : 0 ≤ τ7.1 20 ∧ τ7.1 20 ≤ 19 := hT.1 20
    have v22 : 0 ≤ τ7.1 22 ∧ τ7.1 22 ≤ 1499 := hT.1 22
    have a14_22 : 0 ≤ τ7.2.1 14 (τ7.1 22) ∧ τ7.2.1 14 (τ7.1 22) ≤ 30000 := hT.2 14 _
    have a15_22 : 0 ≤ τ7.2.1 15 (τ7.1 22) ∧ τ7.2.1 15 (τ7.1 22) ≤ 300 := hT.2 15 _
    have a18_22 : 0 ≤ τ7.2.1 18 (τ7.1 22) ∧ τ7.2.1 18 (τ7.1 22) ≤ 90000 := hT.2 18 _
    have a19_22 : 0 ≤ τ7.2.1 19 (τ7.1 22) ∧ τ7.2.1 19 (τ7.1 22) ≤ 60 := hT.2 19 _
    have a21_22 : 0 ≤ τ7.2.1 21 (τ7.1 22) ∧ τ7.2.1 21 (τ7.1 22) ≤ 20000 := hT.2 21 _
    have a22_22 : 0 ≤ τ7.2.1 22 (τ7.1 22) ∧ τ7.2.1 22 (τ7.1 22) ≤ 20000 := hT.2 22 _
    have a25_22 : 0 ≤ τ7.2.1 25 (τ7.1 22) ∧ τ7.2.1 25 (τ7.1 22) ≤ 20000 := hT.2 25 _
    have a26_22 : 0 ≤ τ7.2.1 26 (τ7.1 22) ∧ τ7.2.1 26 (τ7.1 22) ≤ 20000 := hT.2 26 _
    have av5 : σ.1 5 ≤ τ7.1 5 := ag.1 5 (by decide)
    have av6 : σ.1 6 ≤ τ7.1 6 := ag.1 6 (by decide)
    have av7 : σ.1 7 ≤ τ7.1 7 := ag.1 7 (by decide)
    have av8 : σ.1 8 ≤ τ7.1 8 := ag.1 8 (by decide)
    have av9 : σ.1 9 ≤ τ7.1 9 := ag.1 9 (by decide)
    exact l_15 _ hT ag (show τ7.1 0 = σ.1 0 from by omega) (show τ7.1 3 = σ.1 3 from by omega) G6 (show (τ7.1 16) ≤ (τ7.1 0) from by (first | omega | (simp only [st_s] <;> omega) | assumption | omega)) (show (τ7.1 17) + (τ7.1 18) ≤ (τ7.1 0) from by (first | omega | (simp only [st_s] <;> omega) | assumption | omega)) (show oc (τ7.2.1 6) < 4096 from by (first | omega | (simp only [st_s] <;> omega) | assumption | omega)) (show oc (τ7.2.1 7) ≤ (σ.1 5) + 1 from by (first | omega | (simp only [st_s] <;> omega) | assumption | omega)) (show ¬ (σ.1 20) = 0 → (τ7.1 20) = (σ.1 20) from by (first | omega | (simp only [st_s] <;> omega) | assumption | omega)) (show ca (τ7.2.1 12) ((τ7.1 3)) ≤ (τ7.1 4) from Y20) (show J_pa (τ7.2.1 21) (τ7.2.1 22) from PA) (show (τ7.1 20) = 0 → (τ7.1 22) = (τ7.1 5) ∧ τ7.2.1 15 (τ7.1 22) = 0 ∧ τ7.2.1 19 (τ7.1 22) = 0 ∧ τ7.2.1 22 (τ7.1 22) = 0 ∧ τ7.2.1 26 (τ7.1 22) = 0 ∧ (τ7.1 5) < 1500 from by (first | omega | (simp only [st_s] <;> omega) | assumption | omega)) (show (τ7.1 20) = 0 → τ7.2.1 14 (τ7.1 22) = (τ7.1 6) ∧ τ7.2.1 18 (τ7.1 22) = (τ7.1 7) ∧ τ7.2.1 21 (τ7.1 22) = (τ7.1 8) ∧ τ7.2.1 25 (τ7.1 22) = (τ7.1 9) from by (first | omega | (simp only [st_s] <;> omega) | assumption | omega)) (show (τ7.1 5) = (σ.1 5) from by (first | omega | (simp only [st_s] <;> omega) | assumption | omega)) (show (τ7.1 6) = (σ.1 6) ∧ (τ7.1 7) = (σ.1 7) ∧ (τ7.1 8) = (σ.1 8) ∧ (τ7.1 9) = (σ.1 9) ∧ (τ7.1 13) = (σ.1 13) from by (first | omega | (simp only [st_s] <;> omega) | assumption | omega)) (show j_eq ((σ.1 9)) (σ.2.1 28) (τ7.2.1 28) from Y8) (show (σ.1 16) ≤ (τ7.1 16) from by (first | omega | (simp only [st_s] <;> omega) | assumption | omega))
set_option maxHeartbeats 1000000 in
theorem K_X13_readScope {n1 : Int} {σ : S0} (hT : m_T σ) (p1 : 0 ≤ n1) (p2 : n1 ≤ 1) (p3 : (σ.1 17) + (σ.1 18) ≤ (σ.1 0)) (p4 : (σ.1 12) ≤ ca (σ.2.1 9) (σ.1 3)) : W_X13_readScope n1 σ (fun (τ : S0) => (m_T τ) ∧ (¬ (σ.1 20) = 0 → (τ.1 20) = (σ.1 20)) ∧ ((τ.1 12) ≤ ca (τ.2.1 9) (τ.1 3)) ∧ ((τ.1 13) ≤ (σ.1 13))) := by
  have A9 : ∀ j, 0 ≤ σ.2.1 9 j ∧ σ.2.1 9 j ≤ 1 := fun j => hT.2 9 j
  have v0 : 0 ≤ σ.1 0 ∧ σ.1 0 ≤ 60000 := hT.1 0
  have v3 : 0 ≤ σ.1 3 ∧ σ.1 3 ≤ 1000 := hT.1 3
  have v12 : 0 ≤ σ.1 12 ∧ σ.1 12 ≤ 1000 := hT.1 12
  have v13 : 0 ≤ σ.1 13 ∧ σ.1 13 ≤ 1500 := hT.1 13
  have v14 : 0 ≤ σ.1 14 ∧ σ.1 14 ≤ 1000 := hT.1 14
  have v15 : 0 ≤ σ.1 15 ∧ σ.1 15 ≤ 50 := hT.1 15
  have v17 : 0 ≤ σ.1 17 ∧ σ.1 17 ≤ 60000 := hT.1 17
  have v18 : 0 ≤ σ.1 18 ∧ σ.1 18 ≤ 60000 := hT.1 18
  have v20 : 0 ≤ σ.1 20 ∧ σ.1 20 ≤ 19 := hT.1 20
  have W0 : σ.1 0 = σ.1 0 := rfl
  have W3 : σ.1 3 = σ.1 3 := rfl
  have W17 : σ.1 17 = σ.1 17 := rfl
  have W18 : σ.1 18 = σ.1 18 := rfl
  intro P21 h21
  refine ⟨fun c1 => ?_, fun c1 => ?_⟩
  ·
    refine h21 _ _ ?_
    refine ⟨fun c6 => ?_, fun c6 => ?_⟩
    ·
      refine ⟨fun c7 => ?_, fun c7 => ?_⟩
      ·
        refine ⟨(⟨by (first | omega | (simp only [st_s] <;> omega) | assumption | omega), by (first | omega | (simp only [st_s] <;> omega) | assumption | omega)⟩ : rg (σ.1 15 - 1)), ?_⟩
        replace hT := mT_v (i := 15) hT (show 0 ≤ (σ.1 15 - 1) ∧ (σ.1 15 - 1) ≤ 50 from by (first | omega | (simp only [st_s] <;> omega) | assumption | omega))
        refine ⟨(show 0 ≤ (σ.1 15 - 1) ∧ (σ.1 15 - 1) < 51 from by (first | omega | (simp only [st_s] <;> omega) | assumption | omega)), ?_⟩
        intro x10 r_x10 e_x10
        have b_x10 : 0 ≤ x10 ∧ x10 ≤ 1000 := by rw [e_x10]; exact hT.2 34 _
        intro x11 r_x11 e_x11
        have b_x11 : 0 ≤ x11 ∧ x11 ≤ 1500 := by rw [e_x11]; exact hT.2 35 _
        intro x12 r_x12 e_x12
        have b_x12 : 0 ≤ x12 ∧ x12 ≤ 1000 := by rw [e_x12]; exact hT.2 36 _
        refine ⟨_, K_X13_dropTo hT (show 0 ≤ x10 from by (first | omega | (simp only [st_s] <;> omega) | assumption | omega)) (show 0 ≤ x11 from by (first | omega | (simp only [st_s] <;> omega) | assumption | omega)) (show 0 ≤ x12 from by (first | omega | (simp only [st_s] <;> omega) | assumption | omega)) (show (σ.1 12) ≤ ca (σ.2.1 9) (σ.1 3) from by (first | omega | (simp only [st_s] <;> omega) | assumption | omega)), ?_⟩
        intro τ15 hn_τ15 hf_τ15 hq
        obtain ⟨hT, q13_1, q13_2, q13_3, q13_4, q13_5, q13_6, q13_7⟩ := hq
        replace q13_1 : x10 ≤ (σ.1 12) → (τ15.1 12) = x10 := q13_1
        replace q13_2 : x11 ≤ (σ.1 13) → (τ15.1 13) = x11 := q13_2
        replace q13_3 : x12 ≤ (σ.1 14) → (τ15.1 14) = x12 := q13_3
        replace q13_4 : (τ15.1 12) ≤ (σ.1 12) := q13_4
        replace q13_5 : (τ15.1 13) ≤ (σ.1 13) := q13_5
        replace q13_6 : (τ15.1 14) ≤ (σ.1 14) := q13_6
        replace q13_7 : (τ15.1 12) ≤ ca (τ15.2.1 9) (τ15.1 3) := q13_7
        have w0_τ15 : τ15.1 0 = σ.1 0 := hf_τ15.1 0 (by decide)
        have w3_τ15 : τ15.1 3 = σ.1 3 := hf_τ15.1 3 (by decide)
        have w15_τ15 : τ15.1 15 = (σ.1 15 - 1) := hf_τ15.1 15 (by decide)
        have w17_τ15 : τ15.1 17 = σ.1 17 := hf_τ15.1 17 (by decide)
        have w18_τ15 : τ15.1 18 = σ.1 18 := hf_τ15.1 18 (by decide)
        have w20_τ15 : τ15.1 20 = σ.1 20 := hf_τ15.1 20 (by decide)
        first | (have ca_τ15 := congr (congrArg ca g9_τ15) w3_τ15) | skip
        have W0 : τ15.1 0 = σ.1 0 := by omega
        have W3 : τ15.1 3 = σ.1 3 := by omega
        have W17 : τ15.1 17 = σ.1 17 := by omega
        have W18 : τ15.1 18 = σ.1 18 := by omega
        have A9 : ∀ j, 0 ≤ τ15.2.1 9 j ∧ τ15.2.1 9 j ≤ 1 := fun j => hT.2 9 j
        have v0 : 0 ≤ τ15.1 0 ∧ τ15.1 0 ≤ 60000 := hT.1 0
        have v3 : 0 ≤ τ15.1 3 ∧ τ15.1 3 ≤ 1000 := hT.1 3
        have v12 : 0 ≤ τ15.1 12 ∧ τ15.1 12 ≤ 1000 := hT.1 12
        have v13 : 0 ≤ τ15.1 13 ∧ τ15.1 13 ≤ 1500 := hT.1 13
        have v14 : 0 ≤ τ15.1 14 ∧ τ15.1 14 ≤ 1000 := hT.1 14
        have v15 : 0 ≤ τ15.1 15 ∧ τ15.1 15 ≤ 50 := hT.1 15
        have v17 : 0 ≤ τ15.1 17 ∧ τ15.1 17 ≤ 60000 := hT.1 17
        have v18 : 0 ≤ τ15.1 18 ∧ τ15.1 18 ≤ 60000 := hT.1 18
        have v20 : 0 ≤ τ15.1 20 ∧ τ15.1 20 ≤ 19 := hT.1 20
        exact ⟨hT, (show ¬ (σ.1 20) = 0 → (τ15.1 20) = (σ.1 20) from by (first | omega | (simp only [st_s] <;> omega) | assumption | omega)), (show (τ15.1 12) ≤ ca (τ15.2.1 9) (τ15.1 3) from by (first | omega | (simp only [st_s] <;> omega) | assumption | omega)), (show (τ15.1 13) ≤ (σ.1 13) from by (first | omega | (simp only [st_s] <;> omega) | assumption | omega))⟩
      ·
        refine ⟨_, K_X13_failHere hT (show 0 ≤ 4 from by (first | omega | (simp only [st_s] <;> omega) | assumption | omega)) (show 4 ≤ 19 from by (first | omega | (simp only [st_s] <;> omega) | assumption | omega)), ?_⟩
        intro τ18 hn_τ18 hf_τ18 hq
        obtain ⟨hT, q16_1, q16_2⟩ := hq
        replace q16_1 : ¬ (σ.1 20) = 0 → (τ18.1 20) = (σ.1 20) := q16_1
        replace q16_2 : (σ.1 20) = 0 → (τ18.1 20) = 4 := q16_2
        have w0_τ18 : τ18.1 0 = σ.1 0 := hf_τ18.1 0 (by decide)
        have w3_τ18 : τ18.1 3 = σ.1 3 := hf_τ18.1 3 (by decide)
        have w12_τ18 : τ18.1 12 = σ.1 12 := hf_τ18.1 12 (by decide)
        have w13_τ18 : τ18.1 13 = σ.1 13 := hf_τ18.1 13 (by decide)
        have w14_τ18 : τ18.1 14 = σ.1 14 := hf_τ18.1 14 (by decide)
        have w15_τ18 : τ18.1 15 = σ.1 15 := hf_τ18.1 15 (by decide)
        have w17_τ18 : τ18.1 17 = σ.1 17 := hf_τ18.1 17 (by decide)
        have w18_τ18 : τ18.1 18 = σ.1 18 := hf_τ18.1 18 (by decide)
        have g9_τ18 : τ18.2.1 9 = σ.2.1 9 := hf_τ18.2.1 9 (by decide)
        first | (have ca_τ18 := congr (congrArg ca g9_τ18) w3_τ18) | skip
        have W0 : τ18.1 0 = σ.1 0 := by omega
        have W3 : τ18.1 3 = σ.1 3 := by omega
        have W17 : τ18.1 17 = σ.1 17 := by omega
        have W18 : τ18.1 18 = σ.1 18 := by omega
        have A9 : ∀ j, 0 ≤ τ18.2.1 9 j ∧ τ18.2.1 9 j ≤ 1 := fun j => hT.2 9 j
        have v0 : 0 ≤ τ18.1 0 ∧ τ18.1 0 ≤ 60000 := hT.1 0
        have v3 : 0 ≤ τ18.1 3 ∧ τ18.1 3 ≤ 1000 := hT.1 3
        have v12 : 0 ≤ τ18.1 12 ∧ τ18.1 12 ≤ 1000 := hT.1 12
        have v13 : 0 ≤ τ18.1 13 ∧ τ18.1 13 ≤ 1500 := hT.1 13
        have v14 : 0 ≤ τ18.1 14 ∧ τ18.1 14 ≤ 1000 := hT.1 14
        have v15 : 0 ≤ τ18.1 15 ∧ τ18.1 15 ≤ 50 := hT.1 15
        have v17 : 0 ≤ τ18.1 17 ∧ τ18.1 17 ≤ 60000 := hT.1 17
        have v18 : 0 ≤ τ18.1 18 ∧ τ18.1 18 ≤ 60000 := hT.1 18
        have v20 : 0 ≤ τ18.1 20 ∧ τ18.1 20 ≤ 19 := hT.1 20
        exact ⟨hT, (show ¬ (σ.1 20) = 0 → (τ18.1 20) = (σ.1 20) from by (first | omega | (simp only [st_s] <;> omega) | assumption | omega)), (show (τ18.1 12) ≤ ca (τ18.2.1 9) (τ18.1 3) from by (first | omega | (simp only [st_s] <;> omega) | assumption | omega)), (show (τ18.1 13) ≤ (σ.1 13) from by (first | omega | (simp only [st_s] <;> omega) | assumption | omega))⟩
    ·
      refine ⟨(show 0 ≤ σ.1 15 ∧ σ.1 15 < 51 from by (first | omega | (simp only [st_s] <;> omega) | assumption | omega)), ?_⟩
      replace hT := mT_a (k := 34) (j := (σ.1 15)) hT (show (0 : Int) ≤ (σ.1 12) ∧ (σ.1 12) ≤ 1000 from by (first | omega | (simp only [st_s] <;> omega) | assumption | omega))
      replace hT := mT_a (k := 35) (j := (σ.1 15)) hT (show (0 : Int) ≤ (σ.1 13) ∧ (σ.1 13) ≤ 1500 from by (first | omega | (simp only [st_s] <;> omega) | assumption | omega))
      replace hT := mT_a (k := 36) (j := (σ.1 15)) hT (show (0 : Int) ≤ (σ.1 14) ∧ (σ.1 14) ≤ 1000 from by (first | omega | (simp only [st_s] <;> omega) | assumption | omega))
      refine ⟨(⟨by (first | omega | (simp only [st_s] <;> omega) | assumption | omega), by (first | omega | (simp only [st_s] <;> omega) | assumption | omega)⟩ : rg (σ.1 15 + 1)), ?_⟩
      replace hT := mT_v (i := 15) hT (show 0 ≤ (σ.1 15 + 1) ∧ (σ.1 15 + 1) ≤ 50 from by (first | omega | (simp only [st_s] <;> omega) | assumption | omega))
      exact ⟨hT, (show ¬ (σ.1 20) = 0 → (σ.1 20) = (σ.1 20) from by (first | omega | (simp only [st_s] <;> omega) | assumption | omega)), (show (σ.1 12) ≤ ca (σ.2.1 9) (σ.1 3) from by (first | omega | (simp only [st_s] <;> omega) | assumption | omega)), (show (σ.1 13) ≤ (σ.1 13) from by (first | omega | (simp only [st_s] <;> omega) | assumption | omega))⟩
  ·
    refine ⟨fun c2 => ?_, fun c2 => ?_⟩
    ·
      refine h21 _ _ ?_
      refine ⟨fun c6 => ?_, fun c6 => ?_⟩
      ·
        refine ⟨fun c7 => ?_, fun c7 => ?_⟩
        ·
          refine ⟨(⟨by (first | omega | (simp only [st_s] <;> omega) | assumption | omega), by (first | omega | (simp only [st_s] <;> omega) | assumption | omega)⟩ : rg (σ.1 15 - 1)), ?_⟩
          replace hT := mT_v (i := 15) hT (show 0 ≤ (σ.1 15 - 1) ∧ (σ.1 15 - 1) ≤ 50 from by (first | omega | (simp only [st_s] <;> omega) | assumption | omega))
          refine ⟨(show 0 ≤ (σ.1 15 - 1) ∧ (σ.1 15 - 1) < 51 from by (first | omega | (simp only [st_s] <;> omega) | assumption | omega)), ?_⟩
          intro x10 r_x10 e_x10
          have b_x10 : 0 ≤ x10 ∧ x10 ≤ 1000 := by rw [e_x10]; exact hT.2 34 _
          intro x11 r_x11 e_x11
          have b_x11 : 0 ≤ x11 ∧ x11 ≤ 1500 := by rw [e_x11]; exact hT.2 35 _
          intro x12 r_x12 e_x12
          have b_x12 : 0 ≤ x12 ∧ x12 ≤ 1000 := by rw [e_x12]; exact hT.2 36 _
          refine ⟨_, K_X13_dropTo hT (show 0 ≤ x10 from by (first | omega | (simp only [st_s] <;> omega) | assumption | omega)) (show 0 ≤ x11 from by (first | omega | (simp only [st_s] <;> omega) | assumption | omega)) (show 0 ≤ x12 from by (first | omega | (simp only [st_s] <;> omega) | assumption | omega)) (show (σ.1 12) ≤ ca (σ.2.1 9) (σ.1 3) from by (first | omega | (simp only [st_s] <;> omega) | assumption | omega)), ?_⟩
          intro τ15 hn_τ15 hf_τ15 hq
          obtain ⟨hT, q13_1, q13_2, q13_3, q13_4, q13_5, q13_6, q13_7⟩ := hq
          replace q13_1 : x10 ≤ (σ.1 12) → (τ15.1 12) = x10 := q13_1
          replace q13_2 : x11 ≤ (σ.1 13) → (τ15.1 13) = x11 := q13_2
          replace q13_3 : x12 ≤ (σ.1 14) → (τ15.1 14) = x12 := q13_3
          replace q13_4 : (τ15.1 12) ≤ (σ.1 12) := q13_4
          replace q13_5 : (τ15.1 13) ≤ (σ.1 13) := q13_5
          replace q13_6 : (τ15.1 14) ≤ (σ.1 14) := q13_6
          replace q13_7 : (τ15.1 12) ≤ ca (τ15.2.1 9) (τ15.1 3) := q13_7
          have w0_τ15 : τ15.1 0 = σ.1 0 := hf_τ15.1 0 (by decide)
          have w3_τ15 : τ15.1 3 = σ.1 3 := hf_τ15.1 3 (by decide)
          have w15_τ15 : τ15.1 15 = (σ.1 15 - 1) := hf_τ15.1 15 (by decide)
          have w17_τ15 : τ15.1 17 = σ.1 17 := hf_τ15.1 17 (by decide)
          have w18_τ15 : τ15.1 18 = σ.1 18 := hf_τ15.1 18 (by decide)
          have w20_τ15 : τ15.1 20 = σ.1 20 := hf_τ15.1 20 (by decide)
          first | (have ca_τ15 := congr (congrArg ca g9_τ15) w3_τ15) | skip
          have W0 : τ15.1 0 = σ.1 0 := by omega
          have W3 : τ15.1 3 = σ.1 3 := by omega
          have W17 : τ15.1 17 = σ.1 17 := by omega
          have W18 : τ15.1 18 = σ.1 18 := by omega
          have A9 : ∀ j, 0 ≤ τ15.2.1 9 j ∧ τ15.2.1 9 j ≤ 1 := fun j => hT.2 9 j
          have v0 : 0 ≤ τ15.1 0 ∧ τ15.1 0 ≤ 60000 := hT.1 0
          have v3 : 0 ≤ τ15.1 3 ∧ τ15.1 3 ≤ 1000 := hT.1 3
          have v12 : 0 ≤ τ15.1 12 ∧ τ15.1 12 ≤ 1000 := hT.1 12
          have v13 : 0 ≤ τ15.1 13 ∧ τ15.1 13 ≤ 1500 := hT.1 13
          have v14 : 0 ≤ τ15.1 14 ∧ τ15.1 14 ≤ 1000 := hT.1 14
          have v15 : 0 ≤ τ15.1 15 ∧ τ15.1 15 ≤ 50 := hT.1 15
          have v17 : 0 ≤ τ15.1 17 ∧ τ15.1 17 ≤ 60000 := hT.1 17
          have v18 : 0 ≤ τ15.1 18 ∧ τ15.1 18 ≤ 60000 := hT.1 18
          have v20 : 0 ≤ τ15.1 20 ∧ τ15.1 20 ≤ 19 := hT.1 20
          exact ⟨hT, (show ¬ (σ.1 20) = 0 → (τ15.1 20) = (σ.1 20) from by (first | omega | (simp only [st_s] <;> omega) | assumption | omega)), (show (τ15.1 12) ≤ ca (τ15.2.1 9) (τ15.1 3) from by (first | omega | (simp only [st_s] <;> omega) | assumption | omega)), (show (τ15.1 13) ≤ (σ.1 13) from by (first | omega | (simp only [st_s] <;> omega) | assumption | omega))⟩
        ·
          refine ⟨_, K_X13_failHere hT (show 0 ≤ 4 from by (first | omega | (simp only [st_s] <;> omega) | assumption | omega)) (show 4 ≤ 19 from by (first | omega | (simp only [st_s] <;> omega) | assumption | omega)), ?_⟩
          intro τ18 hn_τ18 hf_τ18 hq
          obtain ⟨hT, q16_1, q16_2⟩ := hq
          replace q16_1 : ¬ (σ.1 20) = 0 → (τ18.1 20) = (σ.1 20) := q16_1
          replace q16_2 : (σ.1 20) = 0 → (τ18.1 20) = 4 := q16_2
          have w0_τ18 : τ18.1 0 = σ.1 0 := hf_τ18.1 0 (by decide)
          have w3_τ18 : τ18.1 3 = σ.1 3 := hf_τ18.1 3 (by decide)
          have w12_τ18 : τ18.1 12 = σ.1 12 := hf_τ18.1 12 (by decide)
          have w13_τ18 : τ18.1 13 = σ.1 13 := hf_τ18.1 13 (by decide)
          have w14_τ18 : τ18.1 14 = σ.1 14 := hf_τ18.1 14 (by decide)
          have w15_τ18 : τ18.1 15 = σ.1 15 := hf_τ18.1 15 (by decide)
          have w17_τ18 : τ18.1 17 = σ.1 17 := hf_τ18.1 17 (by decide)
          have w18_τ18 : τ18.1 18 = σ.1 18 := hf_τ18.1 18 (by decide)
          have g9_τ18 : τ18.2.1 9 = σ.2.1 9 := hf_τ18.2.1 9 (by decide)
          first | (have ca_τ18 := congr (congrArg ca g9_τ18) w3_τ18) | skip
          have W0 : τ18.1 0 = σ.1 0 := by omega
          have W3 : τ18.1 3 = σ.1 3 := by omega
          have W17 : τ18.1 17 = σ.1 17 := by omega
          have W18 : τ18.1 18 = σ.1 18 := by omega
          have A9 : ∀ j, 0 ≤ τ18.2.1 9 j ∧ τ18.2.1 9 j ≤ 1 := fun j => hT.2 9 j
          have v0 : 0 ≤ τ18.1 0 ∧ τ18.1 0 ≤ 60000 := hT.1 0
          have v3 : 0 ≤ τ18.1 3 ∧ τ18.1 3 ≤ 1000 := hT.1 3
          have v12 : 0 ≤ τ18.1 12 ∧ τ18.1 12 ≤ 1000 := hT.1 12
          have v13 : 0 ≤ τ18.1 13 ∧ τ18.1 13 ≤ 1500 := hT.1 13
          have v14 : 0 ≤ τ18.1 14 ∧ τ18.1 14 ≤ 1000 := hT.1 14
          have v15 : 0 ≤ τ18.1 15 ∧ τ18.1 15 ≤ 50 := hT.1 15
          have v17 : 0 ≤ τ18.1 17 ∧ τ18.1 17 ≤ 60000 := hT.1 17
          have v18 : 0 ≤ τ18.1 18 ∧ τ18.1 18 ≤ 60000 := hT.1 18
          have v20 : 0 ≤ τ18.1 20 ∧ τ18.1 20 ≤ 19 := hT.1 20
          exact ⟨hT, (show ¬ (σ.1 20) = 0 → (τ18.1 20) = (σ.1 20) from by (first | omega | (simp only [st_s] <;> omega) | assumption | omega)), (show (τ18.1 12) ≤ ca (τ18.2.1 9) (τ18.1 3) from by (first | omega | (simp only [st_s] <;> omega) | assumption | omega)), (show (τ18.1 13) ≤ (σ.1 13) from by (first | omega | (simp only [st_s] <;> omega) | assumption | omega))⟩
      ·
        refine ⟨(show 0 ≤ σ.1 15 ∧ σ.1 15 < 51 from by (first | omega | (simp only [st_s] <;> omega) | assumption | omega)), ?_⟩
        replace hT := mT_a (k := 34) (j := (σ.1 15)) hT (show (0 : Int) ≤ (σ.1 12) ∧ (σ.1 12) ≤ 1000 from by (first | omega | (simp only [st_s] <;> omega) | assumption | omega))
        replace hT := mT_a (k := 35) (j := (σ.1 15)) hT (show (0 : Int) ≤ (σ.1 13) ∧ (σ.1 13) ≤ 1500 from by (first | omega | (simp only [st_s] <;> omega) | assumption | omega))
        replace hT := mT_a (k := 36) (j := (σ.1 15)) hT (show (0 : Int) ≤ (σ.1 14) ∧ (σ.1 14) ≤ 1000 from by (first | omega | (simp only [st_s] <;> omega) | assumption | omega))
        refine ⟨(⟨by (first | omega | (simp only [st_s] <;> omega) | assumption | omega), by (first | omega | (simp only [st_s] <;> omega) | assumption | omega)⟩ : rg (σ.1 15 + 1)), ?_⟩
        replace hT := mT_v (i := 15) hT (show 0 ≤ (σ.1 15 + 1) ∧ (σ.1 15 + 1) ≤ 50 from by (first | omega | (simp only [st_s] <;> omega) | assumption | omega))
        exact ⟨hT, (show ¬ (σ.1 20) = 0 → (σ.1 20) = (σ.1 20) from by (first | omega | (simp only [st_s] <;> omega) | assumption | omega)), (show (σ.1 12) ≤ ca (σ.2.1 9) (σ.1 3) from by (first | omega | (simp only [st_s] <;> omega) | assumption | omega)), (show (σ.1 13) ≤ (σ.1 13) from by (first | omega | (simp only [st_s] <;> omega) | assumption | omega))⟩
    ·
      refine ⟨_, K_X13_failHere hT (show 0 ≤ 5 from by (first | omega | (simp only [st_s] <;> omega) | assumption | omega)) (show 5 ≤ 19 from by (first | omega | (simp only [st_s] <;> omega) | assumption | omega)), ?_⟩
      intro τ5 hn_τ5 hf_τ5 hq
      obtain ⟨hT, q3_1, q3_2⟩ := hq
      replace q3_1 : ¬ (σ.1 20) = 0 → (τ5.1 20) = (σ.1 20) := q3_1
      replace q3_2 : (σ.1 20) = 0 → (τ5.1 20) = 5 := q3_2
      have w0_τ5 : τ5.1 0 = σ.1 0 := hf_τ5.1 0 (by decide)
      have w3_τ5 : τ5.1 3 = σ.1 3 := hf_τ5.1 3 (by decide)
      have w12_τ5 : τ5.1 12 = σ.1 12 := hf_τ5.1 12 (by decide)
      have w13_τ5 : τ5.1 13 = σ.1 13 := hf_τ5.1 13 (by decide)
      have w14_τ5 : τ5.1 14 = σ.1 14 := hf_τ5.1 14 (by decide)
      have w15_τ5 : τ5.1 15 = σ.1 15 := hf_τ5.1 15 (by decide)
      have w17_τ5 : τ5.1 17 = σ.1 17 := hf_τ5.1 17 (by decide)
      have w18_τ5 : τ5.1 18 = σ.1 18 := hf_τ5.1 18 (by decide)
      have g9_τ5 : τ5.2.1 9 = σ.2.1 9 := hf_τ5.2.1 9 (by decide)
      first | (have ca_τ5 := congr (congrArg ca g9_τ5) w3_τ5) | skip
      have W0 : τ5.1 0 = σ.1 0 := by omega
      have W3 : τ5.1 3 = σ.1 3 := by omega
      have W17 : τ5.1 17 = σ.1 17 := by omega
      have W18 : τ5.1 18 = σ.1 18 := by omega
      have A9 : ∀ j, 0 ≤ τ5.2.1 9 j ∧ τ5.2.1 9 j ≤ 1 := fun j => hT.2 9 j
      have v0 : 0 ≤ τ5.1 0 ∧ τ5.1 0 ≤ 60000 := hT.1 0
      have v3 : 0 ≤ τ5.1 3 ∧ τ5.1 3 ≤ 1000 := hT.1 3
      have v12 : 0 ≤ τ5.1 12 ∧ τ5.1 12 ≤ 1000 := hT.1 12
      have v13 : 0 ≤ τ5.1 13 ∧ τ5.1 13 ≤ 1500 := hT.1 13
      have v14 : 0 ≤ τ5.1 14 ∧ τ5.1 14 ≤ 1000 := hT.1 14
      have v15 : 0 ≤ τ5.1 15 ∧ τ5.1 15 ≤ 50 := hT.1 15
      have v17 : 0 ≤ τ5.1 17 ∧ τ5.1 17 ≤ 60000 := hT.1 17
      have v18 : 0 ≤ τ5.1 18 ∧ τ5.1 18 ≤ 60000 := hT.1 18
      have v20 : 0 ≤ τ5.1 20 ∧ τ5.1 20 ≤ 19 := hT.1 20
      exact ⟨hT, (show ¬ (σ.1 20) = 0 → (τ5.1 20) = (σ.1 20) from by (first | omega | (simp only [st_s] <;> omega) | assumption | omega)), (show (τ5.1 12) ≤ ca (τ5.2.1 9) (τ5.1 3) from by (first | omega | (simp only [st_s] <;> omega) | assumption | omega)), (show (τ5.1 13) ≤ (σ.1 13) from by (first | omega | (simp only [st_s] <;> omega) | assumption | omega))⟩
set_option maxHeartbeats 1000000 in
theorem K_X13_readStatement {σ : S0} (hT : m_T σ) (p1 : (σ.1 17) + (σ.1 18) ≤ (σ.1 0)) (p2 : (σ.1 16) ≤ (σ.1 0)) (p3 : oc (σ.2.1 6) ≤ (σ.1 3)) (p4 : oc (σ.2.1 7) ≤ (σ.1 5)) (p5 : (σ.1 12) ≤ ca (σ.2.1 9) (σ.1 3)) (p6 : j_l2 (σ.2.1 6) (σ.1 3)) (p7 : ca (σ.2.1 12) ((σ.1 3)) ≤ (σ.1 4)) (p8 : J_pa (σ.2.1 21) (σ.2.1 22)) (p9 : (σ.1 7) ≤ 60 * (σ.1 5)) (p10 : (σ.1 13) ≤ (σ.1 5)) : W_X13_readStatement σ (fun (τ : S0) => (m_T τ) ∧ ((τ.1 16) ≤ (τ.1 0)) ∧ ((τ.1 17) + (τ.1 18) ≤ (τ.1 0)) ∧ (¬ (σ.1 20) = 0 → (τ.1 20) = (σ.1 20)) ∧ (oc (τ.2.1 6) ≤ (τ.1 3)) ∧ ((τ.1 12) ≤ ca (τ.2.1 9) (τ.1 3)) ∧ (j_l2 (τ.2.1 6) (τ.1 3)) ∧ (ca (τ.2.1 12) ((τ.1 3)) ≤ (τ.1 4)) ∧ (J_pa (τ.2.1 21) (τ.2.1 22)) ∧ ((τ.1 13) ≤ (τ.1 5)) ∧ ((τ.1 20) = 0 → oc (τ.2.1 7) ≤ (τ.1 5)) ∧ ((τ.1 20) = 0 → (τ.1 7) ≤ 60 * (τ.1 5)) ∧ (j_eq ((σ.1 9)) (σ.2.1 28) (τ.2.1 28)) ∧ ((τ.1 20) = 0 → m_J σ → m_J τ) ∧ ((σ.1 5) ≤ (τ.1 5)) ∧ ((σ.1 16) ≤ (τ.1 16)) ∧ (m_ag σ τ)) := by
  have A6 : ∀ j, (-1) ≤ σ.2.1 6 j ∧ σ.2.1 6 j ≤ 999 := fun j => hT.2 6 j
  have A7 : ∀ j, (-1) ≤ σ.2.1 7 j ∧ σ.2.1 7 j ≤ 1499 := fun j => hT.2 7 j
  have A9 : ∀ j, 0 ≤ σ.2.1 9 j ∧ σ.2.1 9 j ≤ 1 := fun j => hT.2 9 j
  have A12 : ∀ j, 0 ≤ σ.2.1 12 j ∧ σ.2.1 12 j ≤ 1 := fun j => hT.2 12 j
  have A21 : ∀ j, 0 ≤ σ.2.1 21 j ∧ σ.2.1 21 j ≤ 20000 := fun j => hT.2 21 j
  have A22 : ∀ j, 0 ≤ σ.2.1 22 j ∧ σ.2.1 22 j ≤ 20000 := fun j => hT.2 22 j
  have A28 : ∀ j, 0 ≤ σ.2.1 28 j ∧ σ.2.1 28 j ≤ 1 := fun j => hT.2 28 j
  have v0 : 0 ≤ σ.1 0 ∧ σ.1 0 ≤ 60000 := hT.1 0
  have v3 : 0 ≤ σ.1 3 ∧ σ.1 3 ≤ 1000 := hT.1 3
  have v4 : 0 ≤ σ.1 4 ∧ σ.1 4 ≤ 100 := hT.1 4
  have v5 : 0 ≤ σ.1 5 ∧ σ.1 5 ≤ 1500 := hT.1 5
  have v6 : 0 ≤ σ.1 6 ∧ σ.1 6 ≤ 30000 := hT.1 6
  have v7 : 0 ≤ σ.1 7 ∧ σ.1 7 ≤ 90000 := hT.1 7
  have v8 : 0 ≤ σ.1 8 ∧ σ.1 8 ≤ 20000 := hT.1 8
  have v9 : 0 ≤ σ.1 9 ∧ σ.1 9 ≤ 20000 := hT.1 9
  have v12 : 0 ≤ σ.1 12 ∧ σ.1 12 ≤ 1000 := hT.1 12
  have v13 : 0 ≤ σ.1 13 ∧ σ.1 13 ≤ 1500 := hT.1 13
  have v15 : 0 ≤ σ.1 15 ∧ σ.1 15 ≤ 50 := hT.1 15
  have v16 : 0 ≤ σ.1 16 ∧ σ.1 16 ≤ 60000 := hT.1 16
  have v17 : 0 ≤ σ.1 17 ∧ σ.1 17 ≤ 60000 := hT.1 17
  have v18 : 0 ≤ σ.1 18 ∧ σ.1 18 ≤ 60000 := hT.1 18
  have v19 : (-1) ≤ σ.1 19 ∧ σ.1 19 ≤ 125 := hT.1 19
  have v20 : 0 ≤ σ.1 20 ∧ σ.1 20 ≤ 19 := hT.1 20
  have W0 : σ.1 0 = σ.1 0 := rfl
  have ag : m_ag σ σ := ag_0 σ
  intro P99 P114 h99 h114
  have hT0 := hT
  have Y8 := j_eq0 (σ.1 9) (σ.2.1 28)
  have Y20 : ca (σ.2.1 12) ((σ.1 3)) ≤ (σ.1 4) := p7
  have Y1 : j_l2 (σ.2.1 6) (σ.1 3) := p6
  have PA : J_pa (σ.2.1 21) (σ.2.1 22) := p8
  have PA_0 := PA
  have Y1_0 := Y1
  have Y20_0 := Y20
  have Y8_0 := Y8
  refine ⟨fun c1 => ?_, fun c1 => ?_⟩
  ·
    refine ⟨fun c2 => ?_, fun c2 => ?_⟩
    ·
      refine ⟨fun c3 => ?_, fun c3 => ?_⟩
      ·
        refine ⟨fun c4 => ?_, fun c4 => ?_⟩
        ·
          refine ⟨fun c5 => ?_, fun c5 => ?_⟩
          ·
            refine h99 _ ?_
            refine ⟨fun c26 => ?_, fun c26 => ?_⟩
            ·
              refine h114 _ _ ?_
              refine ⟨_, K_X13_readScope hT (show 0 ≤ 0 from by (first | omega | (simp only [st_s] <;> omega) | assumption | omega)) (show 0 ≤ 1 from by (first | omega | (simp only [st_s] <;> omega) | assumption | omega)) (show (σ.1 17) + (σ.1 18) ≤ (σ.1 0) from by (first | omega | (simp only [st_s] <;> omega) | assumption | omega)) (show (σ.1 12) ≤ ca (σ.2.1 9) (σ.1 3) from by (first | omega | (simp only [st_s] <;> omega) | assumption | omega)), ?_⟩
              intro τ29 hn_τ29 hf_τ29 hq
              obtain ⟨hT, q27_1, q27_2, q27_3⟩ := hq
              replace q27_1 : ¬ (σ.1 20) = 0 → (τ29.1 20) = (σ.1 20) := q27_1
              replace q27_2 : (τ29.1 12) ≤ ca (τ29.2.1 9) (τ29.1 3) := q27_2
              replace q27_3 : (τ29.1 13) ≤ (σ.1 13) := q27_3
              replace ag : m_ag σ τ29 := ag_r ag hf_τ29 rfl rfl
              have w0_τ29 : τ29.1 0 = σ.1 0 := hf_τ29.1 0 (by decide)
              have w3_τ29 : τ29.1 3 = σ.1 3 := hf_τ29.1 3 (by decide)
              have w4_τ29 : τ29.1 4 = σ.1 4 := hf_τ29.1 4 (by decide)
              have w5_τ29 : τ29.1 5 = σ.1 5 := hf_τ29.1 5 (by decide)
              have w6_τ29 : τ29.1 6 = σ.1 6 := hf_τ29.1 6 (by decide)
              have w7_τ29 : τ29.1 7 = σ.1 7 := hf_τ29.1 7 (by decide)
              have w8_τ29 : τ29.1 8 = σ.1 8 := hf_τ29.1 8 (by decide)
              have w9_τ29 : τ29.1 9 = σ.1 9 := hf_τ29.1 9 (by decide)
              have w16_τ29 : τ29.1 16 = σ.1 16 := hf_τ29.1 16 (by decide)
              have w17_τ29 : τ29.1 17 = σ.1 17 := hf_τ29.1 17 (by decide)
              have w18_τ29 : τ29.1 18 = σ.1 18 := hf_τ29.1 18 (by decide)
              have w19_τ29 : τ29.1 19 = σ.1 19 := hf_τ29.1 19 (by decide)
              have g6_τ29 : τ29.2.1 6 = σ.2.1 6 := hf_τ29.2.1 6 (by decide)
              have g7_τ29 : τ29.2.1 7 = σ.2.1 7 := hf_τ29.2.1 7 (by decide)
              have g12_τ29 : τ29.2.1 12 = σ.2.1 12 := hf_τ29.2.1 12 (by decide)
              have g21_τ29 : τ29.2.1 21 = σ.2.1 21 := hf_τ29.2.1 21 (by decide)
              have g22_τ29 : τ29.2.1 22 = σ.2.1 22 := hf_τ29.2.1 22 (by decide)
              have g28_τ29 : τ29.2.1 28 = σ.2.1 28 := hf_τ29.2.1 28 (by decide)
              first | (have ca_τ29 := congr (congrArg ca g9_τ29) w3_τ29) | skip
              first | (have o6_τ29 := congrArg oc g6_τ29) | skip
              first | (have o7_τ29 := congrArg oc g7_τ29) | skip
              have W0 : τ29.1 0 = σ.1 0 := by omega
              have Y20 : ca (τ29.2.1 12) ((τ29.1 3)) ≤ (τ29.1 4) := by rw [show (ca (τ29.2.1 12) ((τ29.1 3)) ≤ (τ29.1 4)) = (ca (σ.2.1 12) ((σ.1 3)) ≤ (σ.1 4)) from by rw [w3_τ29, w4_τ29, g12_τ29]]; exact Y20
              have Y8 : j_eq ((σ.1 9)) (σ.2.1 28) (τ29.2.1 28) := by rw [show (j_eq ((σ.1 9)) (σ.2.1 28) (τ29.2.1 28)) = (j_eq ((σ.1 9)) (σ.2.1 28) (σ.2.1 28)) from by rw [g28_τ29]]; exact Y8
              have Y1 : j_l2 (τ29.2.1 6) (τ29.1 3) := by rw [show (j_l2 (τ29.2.1 6) (τ29.1 3)) = (j_l2 (σ.2.1 6) (σ.1 3)) from by rw [w3_τ29, g6_τ29]]; exact Y1
              have PA : J_pa (τ29.2.1 21) (τ29.2.1 22) := by rw [show (J_pa (τ29.2.1 21) (τ29.2.1 22)) = (J_pa (σ.2.1 21) (σ.2.1 22)) from by rw [g21_τ29, g22_τ29]]; exact PA
              have A6 : ∀ j, (-1) ≤ τ29.2.1 6 j ∧ τ29.2.1 6 j ≤ 999 := fun j => hT.2 6 j
              have A7 : ∀ j, (-1) ≤ τ29.2.1 7 j ∧ τ29.2.1 7 j ≤ 1499 := fun j => hT.2 7 j
              have A9 : ∀ j, 0 ≤ τ29.2.1 9 j ∧ τ29.2.1 9 j ≤ 1 := fun j => hT.2 9 j
              have A12 : ∀ j, 0 ≤ τ29.2.1 12 j ∧ τ29.2.1 12 j ≤ 1 := fun j => hT.2 12 j
              have A21 : ∀ j, 0 ≤ τ29.2.1 21 j ∧ τ29.2.1 21 j ≤ 20000 := fun j => hT.2 21 j
              have A22 : ∀ j, 0 ≤ τ29.2.1 22 j ∧ τ29.2.1 22 j ≤ 20000 := fun j => hT.2 22 j
              have A28 : ∀ j, 0 ≤ τ29.2.1 28 j ∧ τ29.2.1 28 j ≤ 1 := fun j => hT.2 28 j
              have v0 : 0 ≤ τ29.1 0 ∧ τ29.1 0 ≤ 60000 := hT.1 0
              have v3 : 0 ≤ τ29.1 3 ∧ τ29.1 3 ≤ 1000 := hT.1 3
              have v4 : 0 ≤ τ29.1 4 ∧ τ29.1 4 ≤ 100 := hT.1 4
              have v5 : 0 ≤ τ29.1 5 ∧ τ29.1 5 ≤ 1500 := hT.1 5
              have v6 : 0 ≤ τ29.1 6 ∧ τ29.1 6 ≤ 30000 := hT.1 6
              have v7 : 0 ≤ τ29.1 7 ∧ τ29.1 7 ≤ 90000 := hT.1 7
              have v8 : 0 ≤ τ29.1 8 ∧ τ29.1 8 ≤ 20000 := hT.1 8
              have v9 : 0 ≤ τ29.1 9 ∧ τ29.1 9 ≤ 20000 := hT.1 9
              have v12 : 0 ≤ τ29.1 12 ∧ τ29.1 12 ≤ 1000 := hT.1 12
              have v13 : 0 ≤ τ29.1 13 ∧ τ29.1 13 ≤ 1500 := hT.1 13
              have v15 : 0 ≤ τ29.1 15 ∧ τ29.1 15 ≤ 50 := hT.1 15
              have v16 : 0 ≤ τ29.1 16 ∧ τ29.1 16 ≤ 60000 := hT.1 16
              have v17 : 0 ≤ τ29.1 17 ∧ τ29.1 17 ≤ 60000 := hT.1 17
              have v18 : 0 ≤ τ29.1 18 ∧ τ29.1 18 ≤ 60000 := hT.1 18
              have v19 : (-1) ≤ τ29.1 19 ∧ τ29.1 19 ≤ 125 := hT.1 19
              have v20 : 0 ≤ τ29.1 20 ∧ τ29.1 20 ≤ 19 := hT.1 20
              have av3 : σ.1 3 ≤ τ29.1 3 := ag.1 3 (by decide)
              have av5 : σ.1 5 ≤ τ29.1 5 := ag.1 5 (by decide)
              have av6 : σ.1 6 ≤ τ29.1 6 := ag.1 6 (by decide)
              have av7 : σ.1 7 ≤ τ29.1 7 := ag.1 7 (by decide)
              have av8 : σ.1 8 ≤ τ29.1 8 := ag.1 8 (by decide)
              have av9 : σ.1 9 ≤ τ29.1 9 := ag.1 9 (by decide)
              exact ⟨hT, (show (τ29.1 16) ≤ (τ29.1 0) from by (first | omega | (simp only [st_s] <;> omega) | assumption | omega)), (show (τ29.1 17) + (τ29.1 18) ≤ (τ29.1 0) from by (first | omega | (simp only [st_s] <;> omega) | assumption | omega)), (show ¬ (σ.1 20) = 0 → (τ29.1 20) = (σ.1 20) from by (first | omega | (simp only [st_s] <;> omega) | assumption | omega)), (show oc (τ29.2.1 6) ≤ (τ29.1 3) from by (first | omega | (simp only [st_s] <;> omega) | assumption | omega)), (show (τ29.1 12) ≤ ca (τ29.2.1 9) (τ29.1 3) from by (first | omega | (simp only [st_s] <;> omega) | assumption | omega)), (show j_l2 (τ29.2.1 6) (τ29.1 3) from Y1), (show ca (τ29.2.1 12) ((τ29.1 3)) ≤ (τ29.1 4) from Y20), (show J_pa (τ29.2.1 21) (τ29.2.1 22) from PA), (show (τ29.1 13) ≤ (τ29.1 5) from by (first | omega | (simp only [st_s] <;> omega) | assumption | omega)), (show (τ29.1 20) = 0 → oc (τ29.2.1 7) ≤ (τ29.1 5) from by (first | omega | (simp only [st_s] <;> omega) | assumption | omega)), (show (τ29.1 20) = 0 → (τ29.1 7) ≤ 60 * (τ29.1 5) from by (first | omega | (simp only [st_s] <;> omega) | assumption | omega)), (show j_eq ((σ.1 9)) (σ.2.1 28) (τ29.2.1 28) from Y8), (show (τ29.1 20) = 0 → m_J σ → m_J τ29 from by (first | (intro hf; exfalso; omega) | (intro hf hJ; first | exact q23_12 hf hJ | exact m_J_f hJ hf_τ12 rfl rfl | exact m_J_f hJ hf_τ15 rfl rfl | exact m_J_f hJ hf_τ19 rfl rfl | exact m_J_f hJ hf_τ29 rfl rfl))), (show (σ.1 5) ≤ (τ29.1 5) from by (first | omega | (simp only [st_s] <;> omega) | assumption | omega)), (show (σ.1 16) ≤ (τ29.1 16) from by (first | omega | (simp only [st_s] <;> omega) | assumption | omega)), ag⟩
            ·
              refine h114 _ _ ?_
              refine ⟨_, K_X13_readScope hT (show 0 ≤ 1 from by (first | omega | (simp only [st_s] <;> omega) | assumption | omega)) (show 1 ≤ 1 from by (first | omega | (simp only [st_s] <;> omega) | assumption | omega)) (show (σ.1 17) + (σ.1 18) ≤ (σ.1 0) from by (first | omega | (simp only [st_s] <;> omega) | assumption | omega)) (show (σ.1 12) ≤ ca (σ.2.1 9) (σ.1 3) from by (first | omega | (simp only [st_s] <;> omega) | assumption | omega)), ?_⟩
              intro τ29 hn_τ29 hf_τ29 hq
              obtain ⟨hT, q27_1, q27_2, q27_3⟩ := hq
              replace q27_1 : ¬ (σ.1 20) = 0 → (τ29.1 20) = (σ.1 20) := q27_1
              replace q27_2 : (τ29.1 12) ≤ ca (τ29.2.1 9) (τ29.1 3) := q27_2
              replace q27_3 : (τ29.1 13) ≤ (σ.1 13) := q27_3
              replace ag : m_ag σ τ29 := ag_r ag hf_τ29 rfl rfl
              have w0_τ29 : τ29.1 0 = σ.1 0 := hf_τ29.1 0 (by decide)
              have w3_τ29 : τ29.1 3 = σ.1 3 := hf_τ29.1 3 (by decide)
              have w4_τ29 : τ29.1 4 = σ.1 4 := hf_τ29.1 4 (by decide)
              have w5_τ29 : τ29.1 5 = σ.1 5 := hf_τ29.1 5 (by decide)
              have w6_τ29 : τ29.1 6 = σ.1 6 := hf_τ29.1 6 (by decide)
              have w7_τ29 : τ29.1 7 = σ.1 7 := hf_τ29.1 7 (by decide)
              have w8_τ29 : τ29.1 8 = σ.1 8 := hf_τ29.1 8 (by decide)
              have w9_τ29 : τ29.1 9 = σ.1 9 := hf_τ29.1 9 (by decide)
              have w16_τ29 : τ29.1 16 = σ.1 16 := hf_τ29.1 16 (by decide)
              have w17_τ29 : τ29.1 17 = σ.1 17 := hf_τ29.1 17 (by decide)
              have w18_τ29 : τ29.1 18 = σ.1 18 := hf_τ29.1 18 (by decide)
              have w19_τ29 : τ29.1 19 = σ.1 19 := hf_τ29.1 19 (by decide)
              have g6_τ29 : τ29.2.1 6 = σ.2.1 6 := hf_τ29.2.1 6 (by decide)
              have g7_τ29 : τ29.2.1 7 = σ.2.1 7 := hf_τ29.2.1 7 (by decide)
              have g12_τ29 : τ29.2.1 12 = σ.2.1 12 := hf_τ29.2.1 12 (by decide)
              have g21_τ29 : τ29.2.1 21 = σ.2.1 21 := hf_τ29.2.1 21 (by decide)
              have g22_τ29 : τ29.2.1 22 = σ.2.1 22 := hf_τ29.2.1 22 (by decide)
              have g28_τ29 : τ29.2.1 28 = σ.2.1 28 := hf_τ29.2.1 28 (by decide)
              first | (have ca_τ29 := congr (congrArg ca g9_τ29) w3_τ29) | skip
              first | (have o6_τ29 := congrArg oc g6_τ29) | skip
              first | (have o7_τ29 := congrArg oc g7_τ29) | skip
              have W0 : τ29.1 0 = σ.1 0 := by omega
              have Y20 : ca (τ29.2.1 12) ((τ29.1 3)) ≤ (τ29.1 4) := by rw [show (ca (τ29.2.1 12) ((τ29.1 3)) ≤ (τ29.1 4)) = (ca (σ.2.1 12) ((σ.1 3)) ≤ (σ.1 4)) from by rw [w3_τ29, w4_τ29, g12_τ29]]; exact Y20
              have Y8 : j_eq ((σ.1 9)) (σ.2.1 28) (τ29.2.1 28) := by rw [show (j_eq ((σ.1 9)) (σ.2.1 28) (τ29.2.1 28)) = (j_eq ((σ.1 9)) (σ.2.1 28) (σ.2.1 28)) from by rw [g28_τ29]]; exact Y8
              have Y1 : j_l2 (τ29.2.1 6) (τ29.1 3) := by rw [show (j_l2 (τ29.2.1 6) (τ29.1 3)) = (j_l2 (σ.2.1 6) (σ.1 3)) from by rw [w3_τ29, g6_τ29]]; exact Y1
              have PA : J_pa (τ29.2.1 21) (τ29.2.1 22) := by rw [show (J_pa (τ29.2.1 21) (τ29.2.1 22)) = (J_pa (σ.2.1 21) (σ.2.1 22)) from by rw [g21_τ29, g22_τ29]]; exact PA
              have A6 : ∀ j, (-1) ≤ τ29.2.1 6 j ∧ τ29.2.1 6 j ≤ 999 := fun j => hT.2 6 j
              have A7 : ∀ j, (-1) ≤ τ29.2.1 7 j ∧ τ29.2.1 7 j ≤ 1499 := fun j => hT.2 7 j
              have A9 : ∀ j, 0 ≤ τ29.2.1 9 j ∧ τ29.2.1 9 j ≤ 1 := fun j => hT.2 9 j
              have A12 : ∀ j, 0 ≤ τ29.2.1 12 j ∧ τ29.2.1 12 j ≤ 1 := fun j => hT.2 12 j
              have A21 : ∀ j, 0 ≤ τ29.2.1 21 j ∧ τ29.2.1 21 j ≤ 20000 := fun j => hT.2 21 j
              have A22 : ∀ j, 0 ≤ τ29.2.1 22 j ∧ τ29.2.1 22 j ≤ 20000 := fun j => hT.2 22 j
              have A28 : ∀ j, 0 ≤ τ29.2.1 28 j ∧ τ29.2.1 28 j ≤ 1 := fun j => hT.2 28 j
              have v0 : 0 ≤ τ29.1 0 ∧ τ29.1 0 ≤ 60000 := hT.1 0
              have v3 : 0 ≤ τ29.1 3 ∧ τ29.1 3 ≤ 1000 := hT.1 3
              have v4 : 0 ≤ τ29.1 4 ∧ τ29.1 4 ≤ 100 := hT.1 4
              have v5 : 0 ≤ τ29.1 5 ∧ τ29.1 5 ≤ 1500 := hT.1 5
              have v6 : 0 ≤ τ29.1 6 ∧ τ29.1 6 ≤ 30000 := hT.1 6
              have v7 : 0 ≤ τ29.1 7 ∧ τ29.1 7 ≤ 90000 := hT.1 7
              have v8 : 0 ≤ τ29.1 8 ∧ τ29.1 8 ≤ 20000 := hT.1 8
              have v9 : 0 ≤ τ29.1 9 ∧ τ29.1 9 ≤ 20000 := hT.1 9
              have v12 : 0 ≤ τ29.1 12 ∧ τ29.1 12 ≤ 1000 := hT.1 12
              have v13 : 0 ≤ τ29.1 13 ∧ τ29.1 13 ≤ 1500 := hT.1 13
              have v15 : 0 ≤ τ29.1 15 ∧ τ29.1 15 ≤ 50 := hT.1 15
              have v16 : 0 ≤ τ29.1 16 ∧ τ29.1 16 ≤ 60000 := hT.1 16
              have v17 : 0 ≤ τ29.1 17 ∧ τ29.1 17 ≤ 60000 := hT.1 17
              have v18 : 0 ≤ τ29.1 18 ∧ τ29.1 18 ≤ 60000 := hT.1 18
              have v19 : (-1) ≤ τ29.1 19 ∧ τ29.1 19 ≤ 125 := hT.1 19
              have v20 : 0 ≤ τ29.1 20 ∧ τ29.1 20 ≤ 19 := hT.1 20
              have av3 : σ.1 3 ≤ τ29.1 3 := ag.1 3 (by decide)
              have av5 : σ.1 5 ≤ τ29.1 5 := ag.1 5 (by decide)
              have av6 : σ.1 6 ≤ τ29.1 6 := ag.1 6 (by decide)
              have av7 : σ.1 7 ≤ τ29.1 7 := ag.1 7 (by decide)
              have av8 : σ.1 8 ≤ τ29.1 8 := ag.1 8 (by decide)
              have av9 : σ.1 9 ≤ τ29.1 9 := ag.1 9 (by decide)
              exact ⟨hT, (show (τ29.1 16) ≤ (τ29.1 0) from by (first | omega | (simp only [st_s] <;> omega) | assumption | omega)), (show (τ29.1 17) + (τ29.1 18) ≤ (τ29.1 0) from by (first | omega | (simp only [st_s] <;> omega) | assumption | omega)), (show ¬ (σ.1 20) = 0 → (τ29.1 20) = (σ.1 20) from by (first | omega | (simp only [st_s] <;> omega) | assumption | omega)), (show oc (τ29.2.1 6) ≤ (τ29.1 3) from by (first | omega | (simp only [st_s] <;> omega) | assumption | omega)), (show (τ29.1 12) ≤ ca (τ29.2.1 9) (τ29.1 3) from by (first | omega | (simp only [st_s] <;> omega) | assumption | omega)), (show j_l2 (τ29.2.1 6) (τ29.1 3) from Y1), (show ca (τ29.2.1 12) ((τ29.1 3)) ≤ (τ29.1 4) from Y20), (show J_pa (τ29.2.1 21) (τ29.2.1 22) from PA), (show (τ29.1 13) ≤ (τ29.1 5) from by (first | omega | (simp only [st_s] <;> omega) | assumption | omega)), (show (τ29.1 20) = 0 → oc (τ29.2.1 7) ≤ (τ29.1 5) from by (first | omega | (simp only [st_s] <;> omega) | assumption | omega)), (show (τ29.1 20) = 0 → (τ29.1 7) ≤ 60 * (τ29.1 5) from by (first | omega | (simp only [st_s] <;> omega) | assumption | omega)), (show j_eq ((σ.1 9)) (σ.2.1 28) (τ29.2.1 28) from Y8), (show (τ29.1 20) = 0 → m_J σ → m_J τ29 from by (first | (intro hf; exfalso; omega) | (intro hf hJ; first | exact q23_12 hf hJ | exact m_J_f hJ hf_τ12 rfl rfl | exact m_J_f hJ hf_τ15 rfl rfl | exact m_J_f hJ hf_τ19 rfl rfl | exact m_J_f hJ hf_τ29 rfl rfl))), (show (σ.1 5) ≤ (τ29.1 5) from by (first | omega | (simp only [st_s] <;> omega) | assumption | omega)), (show (σ.1 16) ≤ (τ29.1 16) from by (first | omega | (simp only [st_s] <;> omega) | assumption | omega)), ag⟩
          ·
            refine ⟨fun c6 => ?_, fun c6 => ?_⟩
            ·
              refine ⟨_, K_X13_failHere hT (show 0 ≤ 4 from by (first | omega | (simp only [st_s] <;> omega) | assumption | omega)) (show 4 ≤ 19 from by (first | omega | (simp only [st_s] <;> omega) | assumption | omega)), ?_⟩
              intro τ9 hn_τ9 hf_τ9 hq
              obtain ⟨hT, q7_1, q7_2⟩ := hq
              replace q7_1 : ¬ (σ.1 20) = 0 → (τ9.1 20) = (σ.1 20) := q7_1
              replace q7_2 : (σ.1 20) = 0 → (τ9.1 20) = 4 := q7_2
              replace ag : m_ag σ τ9 := ag_r ag hf_τ9 rfl rfl
              have w0_τ9 : τ9.1 0 = σ.1 0 := hf_τ9.1 0 (by decide)
              have w3_τ9 : τ9.1 3 = σ.1 3 := hf_τ9.1 3 (by decide)
              have w4_τ9 : τ9.1 4 = σ.1 4 := hf_τ9.1 4 (by decide)
              have w5_τ9 : τ9.1 5 = σ.1 5 := hf_τ9.1 5 (by decide)
              have w6_τ9 : τ9.1 6 = σ.1 6 := hf_τ9.1 6 (by decide)
              have w7_τ9 : τ9.1 7 = σ.1 7 := hf_τ9.1 7 (by decide)
              have w8_τ9 : τ9.1 8 = σ.1 8 := hf_τ9.1 8 (by decide)
              have w9_τ9 : τ9.1 9 = σ.1 9 := hf_τ9.1 9 (by decide)
              have w12_τ9 : τ9.1 12 = σ.1 12 := hf_τ9.1 12 (by decide)
              have w13_τ9 : τ9.1 13 = σ.1 13 := hf_τ9.1 13 (by decide)
              have w15_τ9 : τ9.1 15 = σ.1 15 := hf_τ9.1 15 (by decide)
              have w16_τ9 : τ9.1 16 = σ.1 16 := hf_τ9.1 16 (by decide)
              have w17_τ9 : τ9.1 17 = σ.1 17 := hf_τ9.1 17 (by decide)
              have w18_τ9 : τ9.1 18 = σ.1 18 := hf_τ9.1 18 (by decide)
              have w19_τ9 : τ9.1 19 = σ.1 19 := hf_τ9.1 19 (by decide)
              have g6_τ9 : τ9.2.1 6 = σ.2.1 6 := hf_τ9.2.1 6 (by decide)
              have g7_τ9 : τ9.2.1 7 = σ.2.1 7 := hf_τ9.2.1 7 (by decide)
              have g9_τ9 : τ9.2.1 9 = σ.2.1 9 := hf_τ9.2.1 9 (by decide)
              have g12_τ9 : τ9.2.1 12 = σ.2.1 12 := hf_τ9.2.1 12 (by decide)
              have g21_τ9 : τ9.2.1 21 = σ.2.1 21 := hf_τ9.2.1 21 (by decide)
              have g22_τ9 : τ9.2.1 22 = σ.2.1 22 := hf_τ9.2.1 22 (by decide)
              have g28_τ9 : τ9.2.1 28 = σ.2.1 28 := hf_τ9.2.1 28 (by decide)
              first | (have ca_τ9 := congr (congrArg ca g9_τ9) w3_τ9) | skip
              first | (have o6_τ9 := congrArg oc g6_τ9) | skip
              first | (have o7_τ9 := congrArg oc g7_τ9) | skip
              have W0 : τ9.1 0 = σ.1 0 := by omega
              have Y20 : ca (τ9.2.1 12) ((τ9.1 3)) ≤ (τ9.1 4) := by rw [show (ca (τ9.2.1 12) ((τ9.1 3)) ≤ (τ9.1 4)) = (ca (σ.2.1 12) ((σ.1 3)) ≤ (σ.1 4)) from by rw [w3_τ9, w4_τ9, g12_τ9]]; exact Y20
              have Y8 : j_eq ((σ.1 9)) (σ.2.1 28) (τ9.2.1 28) := by rw [show (j_eq ((σ.1 9)) (σ.2.1 28) (τ9.2.1 28)) = (j_eq ((σ.1 9)) (σ.2.1 28) (σ.2.1 28)) from by rw [g28_τ9]]; exact Y8
              have Y1 : j_l2 (τ9.2.1 6) (τ9.1 3) := by rw [show (j_l2 (τ9.2.1 6) (τ9.1 3)) = (j_l2 (σ.2.1 6) (σ.1 3)) from by rw [w3_τ9, g6_τ9]]; exact Y1
              have PA : J_pa (τ9.2.1 21) (τ9.2.1 22) := by rw [show (J_pa (τ9.2.1 21) (τ9.2.1 22)) = (J_pa (σ.2.1 21) (σ.2.1 22)) from by rw [g21_τ9, g22_τ9]]; exact PA
              have A6 : ∀ j, (-1) ≤ τ9.2.1 6 j ∧ τ9.2.1 6 j ≤ 999 := fun j => hT.2 6 j
              have A7 : ∀ j, (-1) ≤ τ9.2.1 7 j ∧ τ9.2.1 7 j ≤ 1499 := fun j => hT.2 7 j
              have A9 : ∀ j, 0 ≤ τ9.2.1 9 j ∧ τ9.2.1 9 j ≤ 1 := fun j => hT.2 9 j
              have A12 : ∀ j, 0 ≤ τ9.2.1 12 j ∧ τ9.2.1 12 j ≤ 1 := fun j => hT.2 12 j
              have A21 : ∀ j, 0 ≤ τ9.2.1 21 j ∧ τ9.2.1 21 j ≤ 20000 := fun j => hT.2 21 j
              have A22 : ∀ j, 0 ≤ τ9.2.1 22 j ∧ τ9.2.1 22 j ≤ 20000 := fun j => hT.2 22 j
              have A28 : ∀ j, 0 ≤ τ9.2.1 28 j ∧ τ9.2.1 28 j ≤ 1 := fun j => hT.2 28 j
              have v0 : 0 ≤ τ9.1 0 ∧ τ9.1 0 ≤ 60000 := hT.1 0
              have v3 : 0 ≤ τ9.1 3 ∧ τ9.1 3 ≤ 1000 := hT.1 3
              have v4 : 0 ≤ τ9.1 4 ∧ τ9.1 4 ≤ 100 := hT.1 4
              have v5 : 0 ≤ τ9.1 5 ∧ τ9.1 5 ≤ 1500 := hT.1 5
              have v6 : 0 ≤ τ9.1 6 ∧ τ9.1 6 ≤ 30000 := hT.1 6
              have v7 : 0 ≤ τ9.1 7 ∧ τ9.1 7 ≤ 90000 := hT.1 7
              have v8 : 0 ≤ τ9.1 8 ∧ τ9.1 8 ≤ 20000 := hT.1 8
              have v9 : 0 ≤ τ9.1 9 ∧ τ9.1 9 ≤ 20000 := hT.1 9
              have v12 : 0 ≤ τ9.1 12 ∧ τ9.1 12 ≤ 1000 := hT.1 12
              have v13 : 0 ≤ τ9.1 13 ∧ τ9.1 13 ≤ 1500 := hT.1 13
              have v15 : 0 ≤ τ9.1 15 ∧ τ9.1 15 ≤ 50 := hT.1 15
              have v16 : 0 ≤ τ9.1 16 ∧ τ9.1 16 ≤ 60000 := hT.1 16
              have v17 : 0 ≤ τ9.1 17 ∧ τ9.1 17 ≤ 60000 := hT.1 17
              have v18 : 0 ≤ τ9.1 18 ∧ τ9.1 18 ≤ 60000 := hT.1 18
              have v19 : (-1) ≤ τ9.1 19 ∧ τ9.1 19 ≤ 125 := hT.1 19
              have v20 : 0 ≤ τ9.1 20 ∧ τ9.1 20 ≤ 19 := hT.1 20
              have av3 : σ.1 3 ≤ τ9.1 3 := ag.1 3 (by decide)
              have av5 : σ.1 5 ≤ τ9.1 5 := ag.1 5 (by decide)
              have av6 : σ.1 6 ≤ τ9.1 6 := ag.1 6 (by decide)
              have av7 : σ.1 7 ≤ τ9.1 7 := ag.1 7 (by decide)
              have av8 : σ.1 8 ≤ τ9.1 8 := ag.1 8 (by decide)
              have av9 : σ.1 9 ≤ τ9.1 9 := ag.1 9 (by decide)
              exact ⟨hT, (show (τ9.1 16) ≤ (τ9.1 0) from by (first | omega | (simp only [st_s] <;> omega) | assumption | omega)), (show (τ9.1 17) + (τ9.1 18) ≤ (τ9.1 0) from by (first | omega | (simp only [st_s] <;> omega) | assumption | omega)), (show ¬ (σ.1 20) = 0 → (τ9.1 20) = (σ.1 20) from by (first | omega | (simp only [st_s] <;> omega) | assumption | omega)), (show oc (τ9.2.1 6) ≤ (τ9.1 3) from by (first | omega | (simp only [st_s] <;> omega) | assumption | omega)), (show (τ9.1 12) ≤ ca (τ9.2.1 9) (τ9.1 3) from by (first | omega | (simp only [st_s] <;> omega) | assumption | omega)), (show j_l2 (τ9.2.1 6) (τ9.1 3) from Y1), (show ca (τ9.2.1 12) ((τ9.1 3)) ≤ (τ9.1 4) from Y20), (show J_pa (τ9.2.1 21) (τ9.2.1 22) from PA), (show (τ9.1 13) ≤ (τ9.1 5) from by (first | omega | (simp only [st_s] <;> omega) | assumption | omega)), (show (τ9.1 20) = 0 → oc (τ9.2.1 7) ≤ (τ9.1 5) from by (first | omega | (simp only [st_s] <;> omega) | assumption | omega)), (show (τ9.1 20) = 0 → (τ9.1 7) ≤ 60 * (τ9.1 5) from by (first | omega | (simp only [st_s] <;> omega) | assumption | omega)), (show j_eq ((σ.1 9)) (σ.2.1 28) (τ9.2.1 28) from Y8), (show (τ9.1 20) = 0 → m_J σ → m_J τ9 from by (first | (intro hf; exfalso; omega) | (intro hf hJ; first | exact q23_12 hf hJ | exact m_J_f hJ hf_τ12 rfl rfl | exact m_J_f hJ hf_τ15 rfl rfl | exact m_J_f hJ hf_τ19 rfl rfl | exact m_J_f hJ hf_τ29 rfl rfl))), (show (σ.1 5) ≤ (τ9.1 5) from by (first | omega | (simp only [st_s] <;> omega) | assumption | omega)), (show (σ.1 16) ≤ (τ9.1 16) from by (first | omega | (simp only [st_s] <;> omega) | assumption | omega)), ag⟩
            ·
              refine h99 _ ?_
              refine ⟨fun c26 => ?_, fun c26 => ?_⟩
              ·
                refine h114 _ _ ?_
                refine ⟨_, K_X13_readScope hT (show 0 ≤ 0 from by (first | omega | (simp only [st_s] <;> omega) | assumption | omega)) (show 0 ≤ 1 from by (first | omega | (simp only [st_s] <;> omega) | assumption | omega)) (show (σ.1 17) + (σ.1 18) ≤ (σ.1 0) from by (first | omega | (simp only [st_s] <;> omega) | assumption | omega)) (show (σ.1 12) ≤ ca (σ.2.1 9) (σ.1 3) from by (first | omega | (simp only [st_s] <;> omega) | assumption | omega)), ?_⟩
                intro τ29 hn_τ29 hf_τ29 hq
                obtain ⟨hT, q27_1, q27_2, q27_3⟩ := hq
                replace q27_1 : ¬ (σ.1 20) = 0 → (τ29.1 20) = (σ.1 20) := q27_1
                replace q27_2 : (τ29.1 12) ≤ ca (τ29.2.1 9) (τ29.1 3) := q27_2
                replace q27_3 : (τ29.1 13) ≤ (σ.1 13) := q27_3
                replace ag : m_ag σ τ29 := ag_r ag hf_τ29 rfl rfl
                have w0_τ29 : τ29.1 0 = σ.1 0 := hf_τ29.1 0 (by decide)
                have w3_τ29 : τ29.1 3 = σ.1 3 := hf_τ29.1 3 (by decide)
                have w4_τ29 : τ29.1 4 = σ.1 4 := hf_τ29.1 4 (by decide)
                have w5_τ29 : τ29.1 5 = σ.1 5 := hf_τ29.1 5 (by decide)
                have w6_τ29 : τ29.1 6 = σ.1 6 := hf_τ29.1 6 (by decide)
                have w7_τ29 : τ29.1 7 = σ.1 7 := hf_τ29.1 7 (by decide)
                have w8_τ29 : τ29.1 8 = σ.1 8 := hf_τ29.1 8 (by decide)
                have w9_τ29 : τ29.1 9 = σ.1 9 := hf_τ29.1 9 (by decide)
                have w16_τ29 : τ29.1 16 = σ.1 16 := hf_τ29.1 16 (by decide)
                have w17_τ29 : τ29.1 17 = σ.1 17 := hf_τ29.1 17 (by decide)
                have w18_τ29 : τ29.1 18 = σ.1 18 := hf_τ29.1 18 (by decide)
                have w19_τ29 : τ29.1 19 = σ.1 19 := hf_τ29.1 19 (by decide)
                have g6_τ29 : τ29.2.1 6 = σ.2.1 6 := hf_τ29.2.1 6 (by decide)
                have g7_τ29 : τ29.2.1 7 = σ.2.1 7 := hf_τ29.2.1 7 (by decide)
                have g12_τ29 : τ29.2.1 12 = σ.2.1 12 := hf_τ29.2.1 12 (by decide)
                have g21_τ29 : τ29.2.1 21 = σ.2.1 21 := hf_τ29.2.1 21 (by decide)
                have g22_τ29 : τ29.2.1 22 = σ.2.1 22 := hf_τ29.2.1 22 (by decide)
                have g28_τ29 : τ29.2.1 28 = σ.2.1 28 := hf_τ29.2.1 28 (by decide)
                first | (have ca_τ29 := congr (congrArg ca g9_τ29) w3_τ29) | skip
                first | (have o6_τ29 := congrArg oc g6_τ29) | skip
                first | (have o7_τ29 := congrArg oc g7_τ29) | skip
                have W0 : τ29.1 0 = σ.1 0 := by omega
                have Y20 : ca (τ29.2.1 12) ((τ29.1 3)) ≤ (τ29.1 4) := by rw [show (ca (τ29.2.1 12) ((τ29.1 3)) ≤ (τ29.1 4)) = (ca (σ.2.1 12) ((σ.1 3)) ≤ (σ.1 4)) from by rw [w3_τ29, w4_τ29, g12_τ29]]; exact Y20
                have Y8 : j_eq ((σ.1 9)) (σ.2.1 28) (τ29.2.1 28) := by rw [show (j_eq ((σ.1 9)) (σ.2.1 28) (τ29.2.1 28)) = (j_eq ((σ.1 9)) (σ.2.1 28) (σ.2.1 28)) from by rw [g28_τ29]]; exact Y8
                have Y1 : j_l2 (τ29.2.1 6) (τ29.1 3) := by rw [show (j_l2 (τ29.2.1 6) (τ29.1 3)) = (j_l2 (σ.2.1 6) (σ.1 3)) from by rw [w3_τ29, g6_τ29]]; exact Y1
                have PA : J_pa (τ29.2.1 21) (τ29.2.1 22) := by rw [show (J_pa (τ29.2.1 21) (τ29.2.1 22)) = (J_pa (σ.2.1 21) (σ.2.1 22)) from by rw [g21_τ29, g22_τ29]]; exact PA
                have A6 : ∀ j, (-1) ≤ τ29.2.1 6 j ∧ τ29.2.1 6 j ≤ 999 := fun j => hT.2 6 j
                have A7 : ∀ j, (-1) ≤ τ29.2.1 7 j ∧ τ29.2.1 7 j ≤ 1499 := fun j => hT.2 7 j
                have A9 : ∀ j, 0 ≤ τ29.2.1 9 j ∧ τ29.2.1 9 j ≤ 1 := fun j => hT.2 9 j
                have A12 : ∀ j, 0 ≤ τ29.2.1 12 j ∧ τ29.2.1 12 j ≤ 1 := fun j => hT.2 12 j
                have A21 : ∀ j, 0 ≤ τ29.2.1 21 j ∧ τ29.2.1 21 j ≤ 20000 := fun j => hT.2 21 j
                have A22 : ∀ j, 0 ≤ τ29.2.1 22 j ∧ τ29.2.1 22 j ≤ 20000 := fun j => hT.2 22 j
                have A28 : ∀ j, 0 ≤ τ29.2.1 28 j ∧ τ29.2.1 28 j ≤ 1 := fun j => hT.2 28 j
                have v0 : 0 ≤ τ29.1 0 ∧ τ29.1 0 ≤ 60000 := hT.1 0
                have v3 : 0 ≤ τ29.1 3 ∧ τ29.1 3 ≤ 1000 := hT.1 3
                have v4 : 0 ≤ τ29.1 4 ∧ τ29.1 4 ≤ 100 := hT.1 4
                have v5 : 0 ≤ τ29.1 5 ∧ τ29.1 5 ≤ 1500 := hT.1 5
                have v6 : 0 ≤ τ29.1 6 ∧ τ29.1 6 ≤ 30000 := hT.1 6
                have v7 : 0 ≤ τ29.1 7 ∧ τ29.1 7 ≤ 90000 := hT.1 7
                have v8 : 0 ≤ τ29.1 8 ∧ τ29.1 8 ≤ 20000 := hT.1 8
                have v9 : 0 ≤ τ29.1 9 ∧ τ29.1 9 ≤ 20000 := hT.1 9
                have v12 : 0 ≤ τ29.1 12 ∧ τ29.1 12 ≤ 1000 := hT.1 12
                have v13 : 0 ≤ τ29.1 13 ∧ τ29.1 13 ≤ 1500 := hT.1 13
                have v15 : 0 ≤ τ29.1 15 ∧ τ29.1 15 ≤ 50 := hT.1 15
                have v16 : 0 ≤ τ29.1 16 ∧ τ29.1 16 ≤ 60000 := hT.1 16
                have v17 : 0 ≤ τ29.1 17 ∧ τ29.1 17 ≤ 60000 := hT.1 17
                have v18 : 0 ≤ τ29.1 18 ∧ τ29.1 18 ≤ 60000 := hT.1 18
                have v19 : (-1) ≤ τ29.1 19 ∧ τ29.1 19 ≤ 125 := hT.1 19
                have v20 : 0 ≤ τ29.1 20 ∧ τ29.1 20 ≤ 19 := hT.1 20
                have av3 : σ.1 3 ≤ τ29.1 3 := ag.1 3 (by decide)
                have av5 : σ.1 5 ≤ τ29.1 5 := ag.1 5 (by decide)
                have av6 : σ.1 6 ≤ τ29.1 6 := ag.1 6 (by decide)
                have av7 : σ.1 7 ≤ τ29.1 7 := ag.1 7 (by decide)
                have av8 : σ.1 8 ≤ τ29.1 8 := ag.1 8 (by decide)
                have av9 : σ.1 9 ≤ τ29.1 9 := ag.1 9 (by decide)
                exact ⟨hT, (show (τ29.1 16) ≤ (τ29.1 0) from by (first | omega | (simp only [st_s] <;> omega) | assumption | omega)), (show (τ29.1 17) + (τ29.1 18) ≤ (τ29.1 0) from by (first | omega | (simp only [st_s] <;> omega) | assumption | omega)), (show ¬ (σ.1 20) = 0 → (τ29.1 20) = (σ.1 20) from by (first | omega | (simp only [st_s] <;> omega) | assumption | omega)), (show oc (τ29.2.1 6) ≤ (τ29.1 3) from by (first | omega | (simp only [st_s] <;> omega) | assumption | omega)), (show (τ29.1 12) ≤ ca (τ29.2.1 9) (τ29.1 3) from by (first | omega | (simp only [st_s] <;> omega) | assumption | omega)), (show j_l2 (τ29.2.1 6) (τ29.1 3) from Y1), (show ca (τ29.2.1 12) ((τ29.1 3)) ≤ (τ29.1 4) from Y20), (show J_pa (τ29.2.1 21) (τ29.2.1 22) from PA), (show (τ29.1 13) ≤ (τ29.1 5) from by (first | omega | (simp only [st_s] <;> omega) | assumption | omega)), (show (τ29.1 20) = 0 → oc (τ29.2.1 7) ≤ (τ29.1 5) from by (first | omega | (simp only [st_s] <;> omega) | assumption | omega)), (show (τ29.1 20) = 0 → (τ29.1 7) ≤ 60 * (τ29.1 5) from by (first | omega | (simp only [st_s] <;> omega) | assumption | omega)), (show j_eq ((σ.1 9)) (σ.2.1 28) (τ29.2.1 28) from Y8), (show (τ29.1 20) = 0 → m_J σ → m_J τ29 from by (first | (intro hf; exfalso; omega) | (intro hf hJ; first | exact q23_12 hf hJ | exact m_J_f hJ hf_τ12 rfl rfl | exact m_J_f hJ hf_τ15 rfl rfl | exact m_J_f hJ hf_τ19 rfl rfl | exact m_J_f hJ hf_τ29 rfl rfl))), (show (σ.1 5) ≤ (τ29.1 5) from by (first | omega | (simp only [st_s] <;> omega) | assumption | omega)), (show (σ.1 16) ≤ (τ29.1 16) from by (first | omega | (simp only [st_s] <;> omega) | assumption | omega)), ag⟩
              ·
                refine h114 _ _ ?_
                refine ⟨_, K_X13_readScope hT (show 0 ≤ 1 from by (first | omega | (simp only [st_s] <;> omega) | assumption | omega)) (show 1 ≤ 1 from by (first | omega | (simp only [st_s] <;> omega) | assumption | omega)) (show (σ.1 17) + (σ.1 18) ≤ (σ.1 0) from by (first | omega | (simp only [st_s] <;> omega) | assumption | omega)) (show (σ.1 12) ≤ ca (σ.2.1 9) (σ.1 3) from by (first | omega | (simp only [st_s] <;> omega) | assumption | omega)), ?_⟩
                intro τ29 hn_τ29 hf_τ29 hq
                obtain ⟨hT, q27_1, q27_2, q27_3⟩ := hq
                replace q27_1 : ¬ (σ.1 20) = 0 → (τ29.1 20) = (σ.1 20) := q27_1
                replace q27_2 : (τ29.1 12) ≤ ca (τ29.2.1 9) (τ29.1 3) := q27_2
                replace q27_3 : (τ29.1 13) ≤ (σ.1 13) := q27_3
                replace ag : m_ag σ τ29 := ag_r ag hf_τ29 rfl rfl
                have w0_τ29 : τ29.1 0 = σ.1 0 := hf_τ29.1 0 (by decide)
                have w3_τ29 : τ29.1 3 = σ.1 3 := hf_τ29.1 3 (by decide)
                have w4_τ29 : τ29.1 4 = σ.1 4 := hf_τ29.1 4 (by decide)
                have w5_τ29 : τ29.1 5 = σ.1 5 := hf_τ29.1 5 (by decide)
                have w6_τ29 : τ29.1 6 = σ.1 6 := hf_τ29.1 6 (by decide)
                have w7_τ29 : τ29.1 7 = σ.1 7 := hf_τ29.1 7 (by decide)
                have w8_τ29 : τ29.1 8 = σ.1 8 := hf_τ29.1 8 (by decide)
                have w9_τ29 : τ29.1 9 = σ.1 9 := hf_τ29.1 9 (by decide)
                have w16_τ29 : τ29.1 16 = σ.1 16 := hf_τ29.1 16 (by decide)
                have w17_τ29 : τ29.1 17 = σ.1 17 := hf_τ29.1 17 (by decide)
                have w18_τ29 : τ29.1 18 = σ.1 18 := hf_τ29.1 18 (by decide)
                have w19_τ29 : τ29.1 19 = σ.1 19 := hf_τ29.1 19 (by decide)
                have g6_τ29 : τ29.2.1 6 = σ.2.1 6 := hf_τ29.2.1 6 (by decide)
                have g7_τ29 : τ29.2.1 7 = σ.2.1 7 := hf_τ29.2.1 7 (by decide)
                have g12_τ29 : τ29.2.1 12 = σ.2.1 12 := hf_τ29.2.1 12 (by decide)
                have g21_τ29 : τ29.2.1 21 = σ.2.1 21 := hf_τ29.2.1 21 (by decide)
                have g22_τ29 : τ29.2.1 22 = σ.2.1 22 := hf_τ29.2.1 22 (by decide)
                have g28_τ29 : τ29.2.1 28 = σ.2.1 28 := hf_τ29.2.1 28 (by decide)
                first | (have ca_τ29 := congr (congrArg ca g9_τ29) w3_τ29) | skip
                first | (have o6_τ29 := congrArg oc g6_τ29) | skip
                first | (have o7_τ29 := congrArg oc g7_τ29) | skip
                have W0 : τ29.1 0 = σ.1 0 := by omega
                have Y20 : ca (τ29.2.1 12) ((τ29.1 3)) ≤ (τ29.1 4) := by rw [show (ca (τ29.2.1 12) ((τ29.1 3)) ≤ (τ29.1 4)) = (ca (σ.2.1 12) ((σ.1 3)) ≤ (σ.1 4)) from by rw [w3_τ29, w4_τ29, g12_τ29]]; exact Y20
                have Y8 : j_eq ((σ.1 9)) (σ.2.1 28) (τ29.2.1 28) := by rw [show (j_eq ((σ.1 9)) (σ.2.1 28) (τ29.2.1 28)) = (j_eq ((σ.1 9)) (σ.2.1 28) (σ.2.1 28)) from by rw [g28_τ29]]; exact Y8
                have Y1 : j_l2 (τ29.2.1 6) (τ29.1 3) := by rw [show (j_l2 (τ29.2.1 6) (τ29.1 3)) = (j_l2 (σ.2.1 6) (σ.1 3)) from by rw [w3_τ29, g6_τ29]]; exact Y1
                have PA : J_pa (τ29.2.1 21) (τ29.2.1 22) := by rw [show (J_pa (τ29.2.1 21) (τ29.2.1 22)) = (J_pa (σ.2.1 21) (σ.2.1 22)) from by rw [g21_τ29, g22_τ29]]; exact PA
                have A6 : ∀ j, (-1) ≤ τ29.2.1 6 j ∧ τ29.2.1 6 j ≤ 999 := fun j => hT.2 6 j
                have A7 : ∀ j, (-1) ≤ τ29.2.1 7 j ∧ τ29.2.1 7 j ≤ 1499 := fun j => hT.2 7 j
                have A9 : ∀ j, 0 ≤ τ29.2.1 9 j ∧ τ29.2.1 9 j ≤ 1 := fun j => hT.2 9 j
                have A12 : ∀ j, 0 ≤ τ29.2.1 12 j ∧ τ29.2.1 12 j ≤ 1 := fun j => hT.2 12 j
                have A21 : ∀ j, 0 ≤ τ29.2.1 21 j ∧ τ29.2.1 21 j ≤ 20000 := fun j => hT.2 21 j
                have A22 : ∀ j, 0 ≤ τ29.2.1 22 j ∧ τ29.2.1 22 j ≤ 20000 := fun j => hT.2 22 j
                have A28 : ∀ j, 0 ≤ τ29.2.1 28 j ∧ τ29.2.1 28 j ≤ 1 := fun j => hT.2 28 j
                have v0 : 0 ≤ τ29.1 0 ∧ τ29.1 0 ≤ 60000 := hT.1 0
                have v3 : 0 ≤ τ29.1 3 ∧ τ29.1 3 ≤ 1000 := hT.1 3
                have v4 : 0 ≤ τ29.1 4 ∧ τ29.1 4 ≤ 100 := hT.1 4
                have v5 : 0 ≤ τ29.1 5 ∧ τ29.1 5 ≤ 1500 := hT.1 5
                have v6 : 0 ≤ τ29.1 6 ∧ τ29.1 6 ≤ 30000 := hT.1 6
                have v7 : 0 ≤ τ29.1 7 ∧ τ29.1 7 ≤ 90000 := hT.1 7
                have v8 : 0 ≤ τ29.1 8 ∧ τ29.1 8 ≤ 20000 := hT.1 8
                have v9 : 0 ≤ τ29.1 9 ∧ τ29.1 9 ≤ 20000 := hT.1 9
                have v12 : 0 ≤ τ29.1 12 ∧ τ29.1 12 ≤ 1000 := hT.1 12
                have v13 : 0 ≤ τ29.1 13 ∧ τ29.1 13 ≤ 1500 := hT.1 13
                have v15 : 0 ≤ τ29.1 15 ∧ τ29.1 15 ≤ 50 := hT.1 15
                have v16 : 0 ≤ τ29.1 16 ∧ τ29.1 16 ≤ 60000 := hT.1 16
                have v17 : 0 ≤ τ29.1 17 ∧ τ29.1 17 ≤ 60000 := hT.1 17
                have v18 : 0 ≤ τ29.1 18 ∧ τ29.1 18 ≤ 60000 := hT.1 18
                have v19 : (-1) ≤ τ29.1 19 ∧ τ29.1 19 ≤ 125 := hT.1 19
                have v20 : 0 ≤ τ29.1 20 ∧ τ29.1 20 ≤ 19 := hT.1 20
                have av3 : σ.1 3 ≤ τ29.1 3 := ag.1 3 (by decide)
                have av5 : σ.1 5 ≤ τ29.1 5 := ag.1 5 (by decide)
                have av6 : σ.1 6 ≤ τ29.1 6 := ag.1 6 (by decide)
                have av7 : σ.1 7 ≤ τ29.1 7 := ag.1 7 (by decide)
                have av8 : σ.1 8 ≤ τ29.1 8 := ag.1 8 (by decide)
                have av9 : σ.1 9 ≤ τ29.1 9 := ag.1 9 (by decide)
                exact ⟨hT, (show (τ29.1 16) ≤ (τ29.1 0) from by (first | omega | (simp only [st_s] <;> omega) | assumption | omega)), (show (τ29.1 17) + (τ29.1 18) ≤ (τ29.1 0) from by (first | omega | (simp only [st_s] <;> omega) | assumption | omega)), (show ¬ (σ.1 20) = 0 → (τ29.1 20) = (σ.1 20) from by (first | omega | (simp only [st_s] <;> omega) | assumption | omega)), (show oc (τ29.2.1 6) ≤ (τ29.1 3) from by (first | omega | (simp only [st_s] <;> omega) | assumption | omega)), (show (τ29.1 12) ≤ ca (τ29.2.1 9) (τ29.1 3) from by (first | omega | (simp only [st_s] <;> omega) | assumption | omega)), (show j_l2 (τ29.2.1 6) (τ29.1 3) from Y1), (show ca (τ29.2.1 12) ((τ29.1 3)) ≤ (τ29.1 4) from Y20), (show J_pa (τ29.2.1 21) (τ29.2.1 22) from PA), (show (τ29.1 13) ≤ (τ29.1 5) from by (first | omega | (simp only [st_s] <;> omega) | assumption | omega)), (show (τ29.1 20) = 0 → oc (τ29.2.1 7) ≤ (τ29.1 5) from by (first | omega | (simp only [st_s] <;> omega) | assumption | omega)), (show (τ29.1 20) = 0 → (τ29.1 7) ≤ 60 * (τ29.1 5) from by (first | omega | (simp only [st_s] <;> omega) | assumption | omega)), (show j_eq ((σ.1 9)) (σ.2.1 28) (τ29.2.1 28) from Y8), (show (τ29.1 20) = 0 → m_J σ → m_J τ29 from by (first | (intro hf; exfalso; omega) | (intro hf hJ; first | exact q23_12 hf hJ | exact m_J_f hJ hf_τ12 rfl rfl | exact m_J_f hJ hf_τ15 rfl rfl | exact m_J_f hJ hf_τ19 rfl rfl | exact m_J_f hJ hf_τ29 rfl rfl))), (show (σ.1 5) ≤ (τ29.1 5) from by (first | omega | (simp only [st_s] <;> omega) | assumption | omega)), (show (σ.1 16) ≤ (τ29.1 16) from by (first | omega | (simp only [st_s] <;> omega) | assumption | omega)), ag⟩
        ·
          refine ⟨_, K_X13_readApart hT (show (σ.1 16) ≤ (σ.1 0) from by (first | omega | (simp only [st_s] <;> omega) | assumption | omega)) (show oc (σ.2.1 6) < 4096 from by (first | omega | (simp only [st_s] <;> omega) | assumption | omega)) (show oc (σ.2.1 7) < 4096 from by (first | omega | (simp only [st_s] <;> omega) | assumption | omega)), ?_⟩
          intro τ12 hn_τ12 hf_τ12 hq
          obtain ⟨hT, q10_1, q10_2, q10_3, q10_4⟩ := hq
          replace q10_1 : (τ12.1 16) ≤ (τ12.1 0) := q10_1
          replace q10_2 : (τ12.1 17) + (τ12.1 18) ≤ (τ12.1 0) := q10_2
          replace q10_3 : ¬ (σ.1 20) = 0 → (τ12.1 20) = (σ.1 20) := q10_3
          replace q10_4 : (σ.1 16) ≤ (τ12.1 16) := q10_4
          replace ag : m_ag σ τ12 := ag_r ag hf_τ12 rfl rfl
          have w0_τ12 : τ12.1 0 = σ.1 0 := hf_τ12.1 0 (by decide)
          have w3_τ12 : τ12.1 3 = σ.1 3 := hf_τ12.1 3 (by decide)
          have w4_τ12 : τ12.1 4 = σ.1 4 := hf_τ12.1 4 (by decide)
          have w5_τ12 : τ12.1 5 = σ.1 5 := hf_τ12.1 5 (by decide)
          have w6_τ12 : τ12.1 6 = σ.1 6 := hf_τ12.1 6 (by decide)
          have w7_τ12 : τ12.1 7 = σ.1 7 := hf_τ12.1 7 (by decide)
          have w8_τ12 : τ12.1 8 = σ.1 8 := hf_τ12.1 8 (by decide)
          have w9_τ12 : τ12.1 9 = σ.1 9 := hf_τ12.1 9 (by decide)
          have w12_τ12 : τ12.1 12 = σ.1 12 := hf_τ12.1 12 (by decide)
          have w13_τ12 : τ12.1 13 = σ.1 13 := hf_τ12.1 13 (by decide)
          have w15_τ12 : τ12.1 15 = σ.1 15 := hf_τ12.1 15 (by decide)
          have g6_τ12 : τ12.2.1 6 = σ.2.1 6 := hf_τ12.2.1 6 (by decide)
          have g7_τ12 : τ12.2.1 7 = σ.2.1 7 := hf_τ12.2.1 7 (by decide)
          have g9_τ12 : τ12.2.1 9 = σ.2.1 9 := hf_τ12.2.1 9 (by decide)
          have g12_τ12 : τ12.2.1 12 = σ.2.1 12 := hf_τ12.2.1 12 (by decide)
          have g21_τ12 : τ12.2.1 21 = σ.2.1 21 := hf_τ12.2.1 21 (by decide)
          have g22_τ12 : τ12.2.1 22 = σ.2.1 22 := hf_τ12.2.1 22 (by decide)
          have g28_τ12 : τ12.2.1 28 = σ.2.1 28 := hf_τ12.2.1 28 (by decide)
          first | (have ca_τ12 := congr (congrArg ca g9_τ12) w3_τ12) | skip
          first | (have o6_τ12 := congrArg oc g6_τ12) | skip
          first | (have o7_τ12 := congrArg oc g7_τ12) | skip
          have W0 : τ12.1 0 = σ.1 0 := by omega
          have Y20 : ca (τ12.2.1 12) ((τ12.1 3)) ≤ (τ12.1 4) := by rw [show (ca (τ12.2.1 12) ((τ12.1 3)) ≤ (τ12.1 4)) = (ca (σ.2.1 12) ((σ.1 3)) ≤ (σ.1 4)) from by rw [w3_τ12, w4_τ12, g12_τ12]]; exact Y20
          have Y8 : j_eq ((σ.1 9)) (σ.2.1 28) (τ12.2.1 28) := by rw [show (j_eq ((σ.1 9)) (σ.2.1 28) (τ12.2.1 28)) = (j_eq ((σ.1 9)) (σ.2.1 28) (σ.2.1 28)) from by rw [g28_τ12]]; exact Y8
          have Y1 : j_l2 (τ12.2.1 6) (τ12.1 3) := by rw [show (j_l2 (τ12.2.1 6) (τ12.1 3)) = (j_l2 (σ.2.1 6) (σ.1 3)) from by rw [w3_τ12, g6_τ12]]; exact Y1
          have PA : J_pa (τ12.2.1 21) (τ12.2.1 22) := by rw [show (J_pa (τ12.2.1 21) (τ12.2.1 22)) = (J_pa (σ.2.1 21) (σ.2.1 22)) from by rw [g21_τ12, g22_τ12]]; exact PA
          have A6 : ∀ j, (-1) ≤ τ12.2.1 6 j ∧ τ12.2.1 6 j ≤ 999 := fun j => hT.2 6 j
          have A7 : ∀ j, (-1) ≤ τ12.2.1 7 j ∧ τ12.2.1 7 j ≤ 1499 := fun j => hT.2 7 j
          have A9 : ∀ j, 0 ≤ τ12.2.1 9 j ∧ τ12.2.1 9 j ≤ 1 := fun j => hT.2 9 j
          have A12 : ∀ j, 0 ≤ τ12.2.1 12 j ∧ τ12.2.1 12 j ≤ 1 := fun j => hT.2 12 j
          have A21 : ∀ j, 0 ≤ τ12.2.1 21 j ∧ τ12.2.1 21 j ≤ 20000 := fun j => hT.2 21 j
          have A22 : ∀ j, 0 ≤ τ12.2.1 22 j ∧ τ12.2.1 22 j ≤ 20000 := fun j => hT.2 22 j
          have A28 : ∀ j, 0 ≤ τ12.2.1 28 j ∧ τ12.2.1 28 j ≤ 1 := fun j => hT.2 28 j
          have v0 : 0 ≤ τ12.1 0 ∧ τ12.1 0 ≤ 60000 := hT.1 0
          have v3 : 0 ≤ τ12.1 3 ∧ τ12.1 3 ≤ 1000 := hT.1 3
          have v4 : 0 ≤ τ12.1 4 ∧ τ12.1 4 ≤ 100 := hT.1 4
          have v5 : 0 ≤ τ12.1 5 ∧ τ12.1 5 ≤ 1500 := hT.1 5
          have v6 : 0 ≤ τ12.1 6 ∧ τ12.1 6 ≤ 30000 := hT.1 6
          have v7 : 0 ≤ τ12.1 7 ∧ τ12.1 7 ≤ 90000 := hT.1 7
          have v8 : 0 ≤ τ12.1 8 ∧ τ12.1 8 ≤ 20000 := hT.1 8
          have v9 : 0 ≤ τ12.1 9 ∧ τ12.1 9 ≤ 20000 := hT.1 9
          have v12 : 0 ≤ τ12.1 12 ∧ τ12.1 12 ≤ 1000 := hT.1 12
          have v13 : 0 ≤ τ12.1 13 ∧ τ12.1 13 ≤ 1500 := hT.1 13
          have v15 : 0 ≤ τ12.1 15 ∧ τ12.1 15 ≤ 50 := hT.1 15
          have v16 : 0 ≤ τ12.1 16 ∧ τ12.1 16 ≤ 60000 := hT.1 16
          have v17 : 0 ≤ τ12.1 17 ∧ τ12.1 17 ≤ 60000 := hT.1 17
          have v18 : 0 ≤ τ12.1 18 ∧ τ12.1 18 ≤ 60000 := hT.1 18
          have v19 : (-1) ≤ τ12.1 19 ∧ τ12.1 19 ≤ 125 := hT.1 19
          have v20 : 0 ≤ τ12.1 20 ∧ τ12.1 20 ≤ 19 := hT.1 20
          have av3 : σ.1 3 ≤ τ12.1 3 := ag.1 3 (by decide)
          have av5 : σ.1 5 ≤ τ12.1 5 := ag.1 5 (by decide)
          have av6 : σ.1 6 ≤ τ12.1 6 := ag.1 6 (by decide)
          have av7 : σ.1 7 ≤ τ12.1 7 := ag.1 7 (by decide)
          have av8 : σ.1 8 ≤ τ12.1 8 := ag.1 8 (by decide)
          have av9 : σ.1 9 ≤ τ12.1 9 := ag.1 9 (by decide)
          exact ⟨hT, (show (τ12.1 16) ≤ (τ12.1 0) from by (first | omega | (simp only [st_s] <;> omega) | assumption | omega)), (show (τ12.1 17) + (τ12.1 18) ≤ (τ12.1 0) from by (first | omega | (simp only [st_s] <;> omega) | assumption | omega)), (show ¬ (σ.1 20) = 0 → (τ12.1 20) = (σ.1 20) from by (first | omega | (simp only [st_s] <;> omega) | assumption | omega)), (show oc (τ12.2.1 6) ≤ (τ12.1 3) from by (first | omega | (simp only [st_s] <;> omega) | assumption | omega)), (show (τ12.1 12) ≤ ca (τ12.2.1 9) (τ12.1 3) from by (first | omega | (simp only [st_s] <;> omega) | assumption | omega)), (show j_l2 (τ12.2.1 6) (τ12.1 3) from Y1), (show ca (τ12.2.1 12) ((τ12.1 3)) ≤ (τ12.1 4) from Y20), (show J_pa (τ12.2.1 21) (τ12.2.1 22) from PA), (show (τ12.1 13) ≤ (τ12.1 5) from by (first | omega | (simp only [st_s] <;> omega) | assumption | omega)), (show (τ12.1 20) = 0 → oc (τ12.2.1 7) ≤ (τ12.1 5) from by (first | omega | (simp only [st_s] <;> omega) | assumption | omega)), (show (τ12.1 20) = 0 → (τ12.1 7) ≤ 60 * (τ12.1 5) from by (first | omega | (simp only [st_s] <;> omega) | assumption | omega)), (show j_eq ((σ.1 9)) (σ.2.1 28) (τ12.2.1 28) from Y8), (show (τ12.1 20) = 0 → m_J σ → m_J τ12 from by (first | (intro hf; exfalso; omega) | (intro hf hJ; first | exact q23_12 hf hJ | exact m_J_f hJ hf_τ12 rfl rfl | exact m_J_f hJ hf_τ15 rfl rfl | exact m_J_f hJ hf_τ19 rfl rfl | exact m_J_f hJ hf_τ29 rfl rfl))), (show (σ.1 5) ≤ (τ12.1 5) from by (first | omega | (simp only [st_s] <;> omega) | assumption | omega)), (show (σ.1 16) ≤ (τ12.1 16) from by (first | omega | (simp only [st_s] <;> omega) | assumption | omega)), ag⟩
      ·
        refine ⟨_, K_X13_readDeclared hT (show 0 ≤ 1 ∧ 1 ≤ 1 from by (first | omega | (simp only [st_s] <;> omega) | assumption | omega)) (show (σ.1 16) ≤ (σ.1 0) from by (first | omega | (simp only [st_s] <;> omega) | assumption | omega)) (show oc (σ.2.1 6) ≤ (σ.1 3) from by (first | omega | (simp only [st_s] <;> omega) | assumption | omega)) (show oc (σ.2.1 7) < 4096 from by (first | omega | (simp only [st_s] <;> omega) | assumption | omega)) (show (σ.1 12) ≤ ca (σ.2.1 9) (σ.1 3) from by (first | omega | (simp only [st_s] <;> omega) | assumption | omega)) (show j_l2 (σ.2.1 6) (σ.1 3) from Y1) (show ca (σ.2.1 12) ((σ.1 3)) ≤ (σ.1 4) from Y20), ?_⟩
        intro τ15 hn_τ15 hf_τ15 hq
        obtain ⟨hT, q13_1, q13_2, q13_3, q13_4, q13_5, q13_6, q13_7, q13_8, q13_9⟩ := hq
        replace q13_1 : oc (τ15.2.1 6) ≤ (τ15.1 3) := q13_1
        replace q13_2 : (τ15.1 12) ≤ ca (τ15.2.1 9) (τ15.1 3) := q13_2
        replace q13_3 : (τ15.1 16) ≤ (τ15.1 0) := q13_3
        replace q13_4 : ¬ (σ.1 20) = 0 → (τ15.1 20) = (σ.1 20) := q13_4
        replace q13_5 : j_l2 (τ15.2.1 6) (τ15.1 3) := q13_5
        replace q13_6 : ca (τ15.2.1 12) ((τ15.1 3)) ≤ (τ15.1 4) := q13_6
        replace q13_7 : (τ15.1 17) + (τ15.1 18) ≤ (τ15.1 0) := q13_7
        replace q13_8 : (σ.1 16) ≤ (τ15.1 16) := q13_8
        replace q13_9 : m_ag σ τ15 := q13_9
        replace ag : m_ag σ τ15 := ag_t ag q13_9 rfl
        have w0_τ15 : τ15.1 0 = σ.1 0 := hf_τ15.1 0 (by decide)
        have w4_τ15 : τ15.1 4 = σ.1 4 := hf_τ15.1 4 (by decide)
        have w5_τ15 : τ15.1 5 = σ.1 5 := hf_τ15.1 5 (by decide)
        have w6_τ15 : τ15.1 6 = σ.1 6 := hf_τ15.1 6 (by decide)
        have w7_τ15 : τ15.1 7 = σ.1 7 := hf_τ15.1 7 (by decide)
        have w8_τ15 : τ15.1 8 = σ.1 8 := hf_τ15.1 8 (by decide)
        have w9_τ15 : τ15.1 9 = σ.1 9 := hf_τ15.1 9 (by decide)
        have w13_τ15 : τ15.1 13 = σ.1 13 := hf_τ15.1 13 (by decide)
        have w15_τ15 : τ15.1 15 = σ.1 15 := hf_τ15.1 15 (by decide)
        have g7_τ15 : τ15.2.1 7 = σ.2.1 7 := hf_τ15.2.1 7 (by decide)
        have g21_τ15 : τ15.2.1 21 = σ.2.1 21 := hf_τ15.2.1 21 (by decide)
        have g22_τ15 : τ15.2.1 22 = σ.2.1 22 := hf_τ15.2.1 22 (by decide)
        have g28_τ15 : τ15.2.1 28 = σ.2.1 28 := hf_τ15.2.1 28 (by decide)
        first | (have ca_τ15 := congr (congrArg ca g9_τ15) w3_τ15) | skip
        first | (have o6_τ15 := congrArg oc g6_τ15) | skip
        first | (have o7_τ15 := congrArg oc g7_τ15) | skip
        have W0 : τ15.1 0 = σ.1 0 := by omega
        have Y20 : ca (τ15.2.1 12) ((τ15.1 3)) ≤ (τ15.1 4) := q13_6
        have Y8 : j_eq ((σ.1 9)) (σ.2.1 28) (τ15.2.1 28) := by rw [show (j_eq ((σ.1 9)) (σ.2.1 28) (τ15.2.1 28)) = (j_eq ((σ.1 9)) (σ.2.1 28) (σ.2.1 28)) from by rw [g28_τ15]]; exact Y8
        have Y1 : j_l2 (τ15.2.1 6) (τ15.1 3) := q13_5
        have PA : J_pa (τ15.2.1 21) (τ15.2.1 22) := by rw [show (J_pa (τ15.2.1 21) (τ15.2.1 22)) = (J_pa (σ.2.1 21) (σ.2.1 22)) from by rw [g21_τ15, g22_τ15]]; exact PA
        have A6 : ∀ j, (-1) ≤ τ15.2.1 6 j ∧ τ15.2.1 6 j ≤ 999 := fun j => hT.2 6 j
        have A7 : ∀ j, (-1) ≤ τ15.2.1 7 j ∧ τ15.2.1 7 j ≤ 1499 := fun j => hT.2 7 j
        have A9 : ∀ j, 0 ≤ τ15.2.1 9 j ∧ τ15.2.1 9 j ≤ 1 := fun j => hT.2 9 j
        have A12 : ∀ j, 0 ≤ τ15.2.1 12 j ∧ τ15.2.1 12 j ≤ 1 := fun j => hT.2 12 j
        have A21 : ∀ j, 0 ≤ τ15.2.1 21 j ∧ τ15.2.1 21 j ≤ 20000 := fun j => hT.2 21 j
        have A22 : ∀ j, 0 ≤ τ15.2.1 22 j ∧ τ15.2.1 22 j ≤ 20000 := fun j => hT.2 22 j
        have A28 : ∀ j, 0 ≤ τ15.2.1 28 j ∧ τ15.2.1 28 j ≤ 1 := fun j => hT.2 28 j
        have v0 : 0 ≤ τ15.1 0 ∧ τ15.1 0 ≤ 60000 := hT.1 0
        have v3 : 0 ≤ τ15.1 3 ∧ τ15.1 3 ≤ 1000 := hT.1 3
        have v4 : 0 ≤ τ15.1 4 ∧ τ15.1 4 ≤ 100 := hT.1 4
        have v5 : 0 ≤ τ15.1 5 ∧ τ15.1 5 ≤ 1500 := hT.1 5
        have v6 : 0 ≤ τ15.1 6 ∧ τ15.1 6 ≤ 30000 := hT.1 6
        have v7 : 0 ≤ τ15.1 7 ∧ τ15.1 7 ≤ 90000 := hT.1 7
        have v8 : 0 ≤ τ15.1 8 ∧ τ15.1 8 ≤ 20000 := hT.1 8
        have v9 : 0 ≤ τ15.1 9 ∧ τ15.1 9 ≤ 20000 := hT.1 9
        have v12 : 0 ≤ τ15.1 12 ∧ τ15.1 12 ≤ 1000 := hT.1 12
        have v13 : 0 ≤ τ15.1 13 ∧ τ15.1 13 ≤ 1500 := hT.1 13
        have v15 : 0 ≤ τ15.1 15 ∧ τ15.1 15 ≤ 50 := hT.1 15
        have v16 : 0 ≤ τ15.1 16 ∧ τ15.1 16 ≤ 60000 := hT.1 16
        have v17 : 0 ≤ τ15.1 17 ∧ τ15.1 17 ≤ 60000 := hT.1 17
        have v18 : 0 ≤ τ15.1 18 ∧ τ15.1 18 ≤ 60000 := hT.1 18
        have v19 : (-1) ≤ τ15.1 19 ∧ τ15.1 19 ≤ 125 := hT.1 19
        have v20 : 0 ≤ τ15.1 20 ∧ τ15.1 20 ≤ 19 := hT.1 20
        have av3 : σ.1 3 ≤ τ15.1 3 := ag.1 3 (by decide)
        have av5 : σ.1 5 ≤ τ15.1 5 := ag.1 5 (by decide)
        have av6 : σ.1 6 ≤ τ15.1 6 := ag.1 6 (by decide)
        have av7 : σ.1 7 ≤ τ15.1 7 := ag.1 7 (by decide)
        have av8 : σ.1 8 ≤ τ15.1 8 := ag.1 8 (by decide)
        have av9 : σ.1 9 ≤ τ15.1 9 := ag.1 9 (by decide)
        exact ⟨hT, (show (τ15.1 16) ≤ (τ15.1 0) from by (first | omega | (simp only [st_s] <;> omega) | assumption | omega)), (show (τ15.1 17) + (τ15.1 18) ≤ (τ15.1 0) from by (first | omega | (simp only [st_s] <;> omega) | assumption | omega)), (show ¬ (σ.1 20) = 0 → (τ15.1 20) = (σ.1 20) from by (first | omega | (simp only [st_s] <;> omega) | assumption | omega)), (show oc (τ15.2.1 6) ≤ (τ15.1 3) from by (first | omega | (simp only [st_s] <;> omega) | assumption | omega)), (show (τ15.1 12) ≤ ca (τ15.2.1 9) (τ15.1 3) from by (first | omega | (simp only [st_s] <;> omega) | assumption | omega)), (show j_l2 (τ15.2.1 6) (τ15.1 3) from Y1), (show ca (τ15.2.1 12) ((τ15.1 3)) ≤ (τ15.1 4) from Y20), (show J_pa (τ15.2.1 21) (τ15.2.1 22) from PA), (show (τ15.1 13) ≤ (τ15.1 5) from by (first | omega | (simp only [st_s] <;> omega) | assumption | omega)), (show (τ15.1 20) = 0 → oc (τ15.2.1 7) ≤ (τ15.1 5) from by (first | omega | (simp only [st_s] <;> omega) | assumption | omega)), (show (τ15.1 20) = 0 → (τ15.1 7) ≤ 60 * (τ15.1 5) from by (first | omega | (simp only [st_s] <;> omega) | assumption | omega)), (show j_eq ((σ.1 9)) (σ.2.1 28) (τ15.2.1 28) from Y8), (show (τ15.1 20) = 0 → m_J σ → m_J τ15 from by (first | (intro hf; exfalso; omega) | (intro hf hJ; first | exact q23_12 hf hJ | exact m_J_f hJ hf_τ12 rfl rfl | exact m_J_f hJ hf_τ15 rfl rfl | exact m_J_f hJ hf_τ19 rfl rfl | exact m_J_f hJ hf_τ29 rfl rfl))), (show (σ.1 5) ≤ (τ15.1 5) from by (first | omega | (simp only [st_s] <;> omega) | assumption | omega)), (show (σ.1 16) ≤ (τ15.1 16) from by (first | omega | (simp only [st_s] <;> omega) | assumption | omega)), ag⟩
    ·
      refine ⟨fun c16 => ?_, fun c16 => ?_⟩
      ·
        refine ⟨_, K_X13_readDeclared hT (show 0 ≤ 0 ∧ 0 ≤ 1 from by (first | omega | (simp only [st_s] <;> omega) | assumption | omega)) (show (σ.1 16) ≤ (σ.1 0) from by (first | omega | (simp only [st_s] <;> omega) | assumption | omega)) (show oc (σ.2.1 6) ≤ (σ.1 3) from by (first | omega | (simp only [st_s] <;> omega) | assumption | omega)) (show oc (σ.2.1 7) < 4096 from by (first | omega | (simp only [st_s] <;> omega) | assumption | omega)) (show (σ.1 12) ≤ ca (σ.2.1 9) (σ.1 3) from by (first | omega | (simp only [st_s] <;> omega) | assumption | omega)) (show j_l2 (σ.2.1 6) (σ.1 3) from Y1) (show ca (σ.2.1 12) ((σ.1 3)) ≤ (σ.1 4) from Y20), ?_⟩
        intro τ19 hn_τ19 hf_τ19 hq
        obtain ⟨hT, q17_1, q17_2, q17_3, q17_4, q17_5, q17_6, q17_7, q17_8, q17_9⟩ := hq
        replace q17_1 : oc (τ19.2.1 6) ≤ (τ19.1 3) := q17_1
        replace q17_2 : (τ19.1 12) ≤ ca (τ19.2.1 9) (τ19.1 3) := q17_2
        replace q17_3 : (τ19.1 16) ≤ (τ19.1 0) := q17_3
        replace q17_4 : ¬ (σ.1 20) = 0 → (τ19.1 20) = (σ.1 20) := q17_4
        replace q17_5 : j_l2 (τ19.2.1 6) (τ19.1 3) := q17_5
        replace q17_6 : ca (τ19.2.1 12) ((τ19.1 3)) ≤ (τ19.1 4) := q17_6
        replace q17_7 : (τ19.1 17) + (τ19.1 18) ≤ (τ19.1 0) := q17_7
        replace q17_8 : (σ.1 16) ≤ (τ19.1 16) := q17_8
        replace q17_9 : m_ag σ τ19 := q17_9
        replace ag : m_ag σ τ19 := ag_t ag q17_9 rfl
        have w0_τ19 : τ19.1 0 = σ.1 0 := hf_τ19.1 0 (by decide)
        have w4_τ19 : τ19.1 4 = σ.1 4 := hf_τ19.1 4 (by decide)
        have w5_τ19 : τ19.1 5 = σ.1 5 := hf_τ19.1 5 (by decide)
        have w6_τ19 : τ19.1 6 = σ.1 6 := hf_τ19.1 6 (by decide)
        have w7_τ19 : τ19.1 7 = σ.1 7 := hf_τ19.1 7 (by decide)
        have w8_τ19 : τ19.1 8 = σ.1 8 := hf_τ19.1 8 (by decide)
        have w9_τ19 : τ19.1 9 = σ.1 9 := hf_τ19.1 9 (by decide)
        have w13_τ19 : τ19.1 13 = σ.1 13 := hf_τ19.1 13 (by decide)
        have w15_τ19 : τ19.1 15 = σ.1 15 := hf_τ19.1 15 (by decide)
        have g7_τ19 : τ19.2.1 7 = σ.2.1 7 := hf_τ19.2.1 7 (by decide)
        have g21_τ19 : τ19.2.1 21 = σ.2.1 21 := hf_τ19.2.1 21 (by decide)
        have g22_τ19 : τ19.2.1 22 = σ.2.1 22 := hf_τ19.2.1 22 (by decide)
        have g28_τ19 : τ19.2.1 28 = σ.2.1 28 := hf_τ19.2.1 28 (by decide)
        first | (have ca_τ19 := congr (congrArg ca g9_τ19) w3_τ19) | skip
        first | (have o6_τ19 := congrArg oc g6_τ19) | skip
        first | (have o7_τ19 := congrArg oc g7_τ19) | skip
        have W0 : τ19.1 0 = σ.1 0 := by omega
        have Y20 : ca (τ19.2.1 12) ((τ19.1 3)) ≤ (τ19.1 4) := q17_6
        have Y8 : j_eq ((σ.1 9)) (σ.2.1 28) (τ19.2.1 28) := by rw [show (j_eq ((σ.1 9)) (σ.2.1 28) (τ19.2.1 28)) = (j_eq ((σ.1 9)) (σ.2.1 28) (σ.2.1 28)) from by rw [g28_τ19]]; exact Y8
        have Y1 : j_l2 (τ19.2.1 6) (τ19.1 3) := q17_5
        have PA : J_pa (τ19.2.1 21) (τ19.2.1 22) := by rw [show (J_pa (τ19.2.1 21) (τ19.2.1 22)) = (J_pa (σ.2.1 21) (σ.2.1 22)) from by rw [g21_τ19, g22_τ19]]; exact PA
        have A6 : ∀ j, (-1) ≤ τ19.2.1 6 j ∧ τ19.2.1 6 j ≤ 999 := fun j => hT.2 6 j
        have A7 : ∀ j, (-1) ≤ τ19.2.1 7 j ∧ τ19.2.1 7 j ≤ 1499 := fun j => hT.2 7 j
        have A9 : ∀ j, 0 ≤ τ19.2.1 9 j ∧ τ19.2.1 9 j ≤ 1 := fun j => hT.2 9 j
        have A12 : ∀ j, 0 ≤ τ19.2.1 12 j ∧ τ19.2.1 12 j ≤ 1 := fun j => hT.2 12 j
        have A21 : ∀ j, 0 ≤ τ19.2.1 21 j ∧ τ19.2.1 21 j ≤ 20000 := fun j => hT.2 21 j
        have A22 : ∀ j, 0 ≤ τ19.2.1 22 j ∧ τ19.2.1 22 j ≤ 20000 := fun j => hT.2 22 j
        have A28 : ∀ j, 0 ≤ τ19.2.1 28 j ∧ τ19.2.1 28 j ≤ 1 := fun j => hT.2 28 j
        have v0 : 0 ≤ τ19.1 0 ∧ τ19.1 0 ≤ 60000 := hT.1 0
        have v3 : 0 ≤ τ19.1 3 ∧ τ19.1 3 ≤ 1000 := hT.1 3
        have v4 : 0 ≤ τ19.1 4 ∧ τ19.1 4 ≤ 100 := hT.1 4
        have v5 : 0 ≤ τ19.1 5 ∧ τ19.1 5 ≤ 1500 := hT.1 5
        have v6 : 0 ≤ τ19.1 6 ∧ τ19.1 6 ≤ 30000 := hT.1 6
        have v7 : 0 ≤ τ19.1 7 ∧ τ19.1 7 ≤ 90000 := hT.1 7
        have v8 : 0 ≤ τ19.1 8 ∧ τ19.1 8 ≤ 20000 := hT.1 8
        have v9 : 0 ≤ τ19.1 9 ∧ τ19.1 9 ≤ 20000 := hT.1 9
        have v12 : 0 ≤ τ19.1 12 ∧ τ19.1 12 ≤ 1000 := hT.1 12
        have v13 : 0 ≤ τ19.1 13 ∧ τ19.1 13 ≤ 1500 := hT.1 13
        have v15 : 0 ≤ τ19.1 15 ∧ τ19.1 15 ≤ 50 := hT.1 15
        have v16 : 0 ≤ τ19.1 16 ∧ τ19.1 16 ≤ 60000 := hT.1 16
        have v17 : 0 ≤ τ19.1 17 ∧ τ19.1 17 ≤ 60000 := hT.1 17
        have v18 : 0 ≤ τ19.1 18 ∧ τ19.1 18 ≤ 60000 := hT.1 18
        have v19 : (-1) ≤ τ19.1 19 ∧ τ19.1 19 ≤ 125 := hT.1 19
        have v20 : 0 ≤ τ19.1 20 ∧ τ19.1 20 ≤ 19 := hT.1 20
        have av3 : σ.1 3 ≤ τ19.1 3 := ag.1 3 (by decide)
        have av5 : σ.1 5 ≤ τ19.1 5 := ag.1 5 (by decide)
        have av6 : σ.1 6 ≤ τ19.1 6 := ag.1 6 (by decide)
        have av7 : σ.1 7 ≤ τ19.1 7 := ag.1 7 (by decide)
        have av8 : σ.1 8 ≤ τ19.1 8 := ag.1 8 (by decide)
        have av9 : σ.1 9 ≤ τ19.1 9 := ag.1 9 (by decide)
        exact ⟨hT, (show (τ19.1 16) ≤ (τ19.1 0) from by (first | omega | (simp only [st_s] <;> omega) | assumption | omega)), (show (τ19.1 17) + (τ19.1 18) ≤ (τ19.1 0) from by (first | omega | (simp only [st_s] <;> omega) | assumption | omega)), (show ¬ (σ.1 20) = 0 → (τ19.1 20) = (σ.1 20) from by (first | omega | (simp only [st_s] <;> omega) | assumption | omega)), (show oc (τ19.2.1 6) ≤ (τ19.1 3) from by (first | omega | (simp only [st_s] <;> omega) | assumption | omega)), (show (τ19.1 12) ≤ ca (τ19.2.1 9) (τ19.1 3) from by (first | omega | (simp only [st_s] <;> omega) | assumption | omega)), (show j_l2 (τ19.2.1 6) (τ19.1 3) from Y1), (show ca (τ19.2.1 12) ((τ19.1 3)) ≤ (τ19.1 4) from Y20), (show J_pa (τ19.2.1 21) (τ19.2.1 22) from PA), (show (τ19.1 13) ≤ (τ19.1 5) from by (first | omega | (simp only [st_s] <;> omega) | assumption | omega)), (show (τ19.1 20) = 0 → oc (τ19.2.1 7) ≤ (τ19.1 5) from by (first | omega | (simp only [st_s] <;> omega) | assumption | omega)), (show (τ19.1 20) = 0 → (τ19.1 7) ≤ 60 * (τ19.1 5) from by (first | omega | (simp only [st_s] <;> omega) | assumption | omega)), (show j_eq ((σ.1 9)) (σ.2.1 28) (τ19.2.1 28) from Y8), (show (τ19.1 20) = 0 → m_J σ → m_J τ19 from by (first | (intro hf; exfalso; omega) | (intro hf hJ; first | exact q23_12 hf hJ | exact m_J_f hJ hf_τ12 rfl rfl | exact m_J_f hJ hf_τ15 rfl rfl | exact m_J_f hJ hf_τ19 rfl rfl | exact m_J_f hJ hf_τ29 rfl rfl))), (show (σ.1 5) ≤ (τ19.1 5) from by (first | omega | (simp only [st_s] <;> omega) | assumption | omega)), (show (σ.1 16) ≤ (τ19.1 16) from by (first | omega | (simp only [st_s] <;> omega) | assumption | omega)), ag⟩
      ·
        refine ⟨_, K_X13_failHere hT (show 0 ≤ 8 from by (first | omega | (simp only [st_s] <;> omega) | assumption | omega)) (show 8 ≤ 19 from by (first | omega | (simp only [st_s] <;> omega) | assumption | omega)), ?_⟩
        intro τ22 hn_τ22 hf_τ22 hq
        obtain ⟨hT, q20_1, q20_2⟩ := hq
        replace q20_1 : ¬ (σ.1 20) = 0 → (τ22.1 20) = (σ.1 20) := q20_1
        replace q20_2 : (σ.1 20) = 0 → (τ22.1 20) = 8 := q20_2
        replace ag : m_ag σ τ22 := ag_r ag hf_τ22 rfl rfl
        have w0_τ22 : τ22.1 0 = σ.1 0 := hf_τ22.1 0 (by decide)
        have w3_τ22 : τ22.1 3 = σ.1 3 := hf_τ22.1 3 (by decide)
        have w4_τ22 : τ22.1 4 = σ.1 4 := hf_τ22.1 4 (by decide)
        have w5_τ22 : τ22.1 5 = σ.1 5 := hf_τ22.1 5 (by decide)
        have w6_τ22 : τ22.1 6 = σ.1 6 := hf_τ22.1 6 (by decide)
        have w7_τ22 : τ22.1 7 = σ.1 7 := hf_τ22.1 7 (by decide)
        have w8_τ22 : τ22.1 8 = σ.1 8 := hf_τ22.1 8 (by decide)
        have w9_τ22 : τ22.1 9 = σ.1 9 := hf_τ22.1 9 (by decide)
        have w12_τ22 : τ22.1 12 = σ.1 12 := hf_τ22.1 12 (by decide)
        have w13_τ22 : τ22.1 13 = σ.1 13 := hf_τ22.1 13 (by decide)
        have w15_τ22 : τ22.1 15 = σ.1 15 := hf_τ22.1 15 (by decide)
        have w16_τ22 : τ22.1 16 = σ.1 16 := hf_τ22.1 16 (by decide)
        have w17_τ22 : τ22.1 17 = σ.1 17 := hf_τ22.1 17 (by decide)
        have w18_τ22 : τ22.1 18 = σ.1 18 := hf_τ22.1 18 (by decide)
        have w19_τ22 : τ22.1 19 = σ.1 19 := hf_τ22.1 19 (by decide)
        have g6_τ22 : τ22.2.1 6 = σ.2.1 6 := hf_τ22.2.1 6 (by decide)
        have g7_τ22 : τ22.2.1 7 = σ.2.1 7 := hf_τ22.2.1 7 (by decide)
        have g9_τ22 : τ22.2.1 9 = σ.2.1 9 := hf_τ22.2.1 9 (by decide)
        have g12_τ22 : τ22.2.1 12 = σ.2.1 12 := hf_τ22.2.1 12 (by decide)
        have g21_τ22 : τ22.2.1 21 = σ.2.1 21 := hf_τ22.2.1 21 (by decide)
        have g22_τ22 : τ22.2.1 22 = σ.2.1 22 := hf_τ22.2.1 22 (by decide)
        have g28_τ22 : τ22.2.1 28 = σ.2.1 28 := hf_τ22.2.1 28 (by decide)
        first | (have ca_τ22 := congr (congrArg ca g9_τ22) w3_τ22) | skip
        first | (have o6_τ22 := congrArg oc g6_τ22) | skip
        first | (have o7_τ22 := congrArg oc g7_τ22) | skip
        have W0 : τ22.1 0 = σ.1 0 := by omega
        have Y20 : ca (τ22.2.1 12) ((τ22.1 3)) ≤ (τ22.1 4) := by rw [show (ca (τ22.2.1 12) ((τ22.1 3)) ≤ (τ22.1 4)) = (ca (σ.2.1 12) ((σ.1 3)) ≤ (σ.1 4)) from by rw [w3_τ22, w4_τ22, g12_τ22]]; exact Y20
        have Y8 : j_eq ((σ.1 9)) (σ.2.1 28) (τ22.2.1 28) := by rw [show (j_eq ((σ.1 9)) (σ.2.1 28) (τ22.2.1 28)) = (j_eq ((σ.1 9)) (σ.2.1 28) (σ.2.1 28)) from by rw [g28_τ22]]; exact Y8
        have Y1 : j_l2 (τ22.2.1 6) (τ22.1 3) := by rw [show (j_l2 (τ22.2.1 6) (τ22.1 3)) = (j_l2 (σ.2.1 6) (σ.1 3)) from by rw [w3_τ22, g6_τ22]]; exact Y1
        have PA : J_pa (τ22.2.1 21) (τ22.2.1 22) := by rw [show (J_pa (τ22.2.1 21) (τ22.2.1 22)) = (J_pa (σ.2.1 21) (σ.2.1 22)) from by rw [g21_τ22, g22_τ22]]; exact PA
        have A6 : ∀ j, (-1) ≤ τ22.2.1 6 j ∧ τ22.2.1 6 j ≤ 999 := fun j => hT.2 6 j
        have A7 : ∀ j, (-1) ≤ τ22.2.1 7 j ∧ τ22.2.1 7 j ≤ 1499 := fun j => hT.2 7 j
        have A9 : ∀ j, 0 ≤ τ22.2.1 9 j ∧ τ22.2.1 9 j ≤ 1 := fun j => hT.2 9 j
        have A12 : ∀ j, 0 ≤ τ22.2.1 12 j ∧ τ22.2.1 12 j ≤ 1 := fun j => hT.2 12 j
        have A21 : ∀ j, 0 ≤ τ22.2.1 21 j ∧ τ22.2.1 21 j ≤ 20000 := fun j => hT.2 21 j
        have A22 : ∀ j, 0 ≤ τ22.2.1 22 j ∧ τ22.2.1 22 j ≤ 20000 := fun j => hT.2 22 j
        have A28 : ∀ j, 0 ≤ τ22.2.1 28 j ∧ τ22.2.1 28 j ≤ 1 := fun j => hT.2 28 j
        have v0 : 0 ≤ τ22.1 0 ∧ τ22.1 0 ≤ 60000 := hT.1 0
        have v3 : 0 ≤ τ22.1 3 ∧ τ22.1 3 ≤ 1000 := hT.1 3
        have v4 : 0 ≤ τ22.1 4 ∧ τ22.1 4 ≤ 100 := hT.1 4
        have v5 : 0 ≤ τ22.1 5 ∧ τ22.1 5 ≤ 1500 := hT.1 5
        have v6 : 0 ≤ τ22.1 6 ∧ τ22.1 6 ≤ 30000 := hT.1 6
        have v7 : 0 ≤ τ22.1 7 ∧ τ22.1 7 ≤ 90000 := hT.1 7
        have v8 : 0 ≤ τ22.1 8 ∧ τ22.1 8 ≤ 20000 := hT.1 8
        have v9 : 0 ≤ τ22.1 9 ∧ τ22.1 9 ≤ 20000 := hT.1 9
        have v12 : 0 ≤ τ22.1 12 ∧ τ22.1 12 ≤ 1000 := hT.1 12
        have v13 : 0 ≤ τ22.1 13 ∧ τ22.1 13 ≤ 1500 := hT.1 13
        have v15 : 0 ≤ τ22.1 15 ∧ τ22.1 15 ≤ 50 := hT.1 15
        have v16 : 0 ≤ τ22.1 16 ∧ τ22.1 16 ≤ 60000 := hT.1 16
        have v17 : 0 ≤ τ22.1 17 ∧ τ22.1 17 ≤ 60000 := hT.1 17
        have v18 : 0 ≤ τ22.1 18 ∧ τ22.1 18 ≤ 60000 := hT.1 18
        have v19 : (-1) ≤ τ22.1 19 ∧ τ22.1 19 ≤ 125 := hT.1 19
        have v20 : 0 ≤ τ22.1 20 ∧ τ22.1 20 ≤ 19 := hT.1 20
        have av3 : σ.1 3 ≤ τ22.1 3 := ag.1 3 (by decide)
        have av5 : σ.1 5 ≤ τ22.1 5 := ag.1 5 (by decide)
        have av6 : σ.1 6 ≤ τ22.1 6 := ag.1 6 (by decide)
        have av7 : σ.1 7 ≤ τ22.1 7 := ag.1 7 (by decide)
        have av8 : σ.1 8 ≤ τ22.1 8 := ag.1 8 (by decide)
        have av9 : σ.1 9 ≤ τ22.1 9 := ag.1 9 (by decide)
        exact ⟨hT, (show (τ22.1 16) ≤ (τ22.1 0) from by (first | omega | (simp only [st_s] <;> omega) | assumption | omega)), (show (τ22.1 17) + (τ22.1 18) ≤ (τ22.1 0) from by (first | omega | (simp only [st_s] <;> omega) | assumption | omega)), (show ¬ (σ.1 20) = 0 → (τ22.1 20) = (σ.1 20) from by (first | omega | (simp only [st_s] <;> omega) | assumption | omega)), (show oc (τ22.2.1 6) ≤ (τ22.1 3) from by (first | omega | (simp only [st_s] <;> omega) | assumption | omega)), (show (τ22.1 12) ≤ ca (τ22.2.1 9) (τ22.1 3) from by (first | omega | (simp only [st_s] <;> omega) | assumption | omega)), (show j_l2 (τ22.2.1 6) (τ22.1 3) from Y1), (show ca (τ22.2.1 12) ((τ22.1 3)) ≤ (τ22.1 4) from Y20), (show J_pa (τ22.2.1 21) (τ22.2.1 22) from PA), (show (τ22.1 13) ≤ (τ22.1 5) from by (first | omega | (simp only [st_s] <;> omega) | assumption | omega)), (show (τ22.1 20) = 0 → oc (τ22.2.1 7) ≤ (τ22.1 5) from by (first | omega | (simp only [st_s] <;> omega) | assumption | omega)), (show (τ22.1 20) = 0 → (τ22.1 7) ≤ 60 * (τ22.1 5) from by (first | omega | (simp only [st_s] <;> omega) | assumption | omega)), (show j_eq ((σ.1 9)) (σ.2.1 28) (τ22.2.1 28) from Y8), (show (τ22.1 20) = 0 → m_J σ → m_J τ22 from by (first | (intro hf; exfalso; omega) | (intro hf hJ; first | exact q23_12 hf hJ | exact m_J_f hJ hf_τ12 rfl rfl | exact m_J_f hJ hf_τ15 rfl rfl | exact m_J_f hJ hf_τ19 rfl rfl | exact m_J_f hJ hf_τ29 rfl rfl))), (show (σ.1 5) ≤ (τ22.1 5) from by (first | omega | (simp only [st_s] <;> omega) | assumption | omega)), (show (σ.1 16) ≤ (τ22.1 16) from by (first | omega | (simp only [st_s] <;> omega) | assumption | omega)), ag⟩
  ·
    refine ⟨_, K_X13_readLabelled hT (show (σ.1 16) ≤ (σ.1 0) from by (first | omega | (simp only [st_s] <;> omega) | assumption | omega)) (show (σ.1 17) + (σ.1 18) ≤ (σ.1 0) from by (first | omega | (simp only [st_s] <;> omega) | assumption | omega)) (show oc (σ.2.1 6) < 4096 from by (first | omega | (simp only [st_s] <;> omega) | assumption | omega)) (show oc (σ.2.1 7) < 4096 from by (first | omega | (simp only [st_s] <;> omega) | assumption | omega)) (show oc (σ.2.1 6) ≤ (σ.1 3) from by (first | omega | (simp only [st_s] <;> omega) | assumption | omega)) (show oc (σ.2.1 7) ≤ (σ.1 5) from by (first | omega | (simp only [st_s] <;> omega) | assumption | omega)) (show ca (σ.2.1 12) ((σ.1 3)) ≤ (σ.1 4) from Y20) (show J_pa (σ.2.1 21) (σ.2.1 22) from PA) (show (σ.1 7) ≤ 60 * (σ.1 5) from by (first | omega | (simp only [st_s] <;> omega) | assumption | omega)) (show (σ.1 13) ≤ (σ.1 5) from by (first | omega | (simp only [st_s] <;> omega) | assumption | omega)), ?_⟩
    intro τ25 hn_τ25 hf_τ25 hq
    obtain ⟨hT, q23_1, q23_2, q23_3, q23_4, q23_5, q23_6, q23_7, q23_8, q23_9, q23_10, q23_11, q23_12, q23_13, q23_14⟩ := hq
    replace q23_1 : (τ25.1 16) ≤ (τ25.1 0) := q23_1
    replace q23_2 : (τ25.1 17) + (τ25.1 18) ≤ (τ25.1 0) := q23_2
    replace q23_3 : ¬ (σ.1 20) = 0 → (τ25.1 20) = (σ.1 20) := q23_3
    replace q23_4 : ca (τ25.2.1 12) ((τ25.1 3)) ≤ (τ25.1 4) := q23_4
    replace q23_5 : J_pa (τ25.2.1 21) (τ25.2.1 22) := q23_5
    replace q23_6 : (τ25.1 13) ≤ (τ25.1 5) := q23_6
    replace q23_7 : oc (τ25.2.1 7) ≤ (σ.1 5) + 1 := q23_7
    replace q23_8 : (τ25.1 5) ≤ (σ.1 5) + 1 := q23_8
    replace q23_9 : (τ25.1 20) = 0 → (τ25.1 7) ≤ 60 * (τ25.1 5) := q23_9
    replace q23_10 : (τ25.1 20) = 0 → (τ25.1 5) = (σ.1 5) + 1 := q23_10
    replace q23_11 : j_eq ((σ.1 9)) (σ.2.1 28) (τ25.2.1 28) := q23_11
    replace q23_12 : (τ25.1 20) = 0 → m_J σ → m_J τ25 := q23_12
    replace q23_13 : (σ.1 16) ≤ (τ25.1 16) := q23_13
    replace q23_14 : m_ag σ τ25 := q23_14
    replace ag : m_ag σ τ25 := ag_t ag q23_14 rfl
    have w0_τ25 : τ25.1 0 = σ.1 0 := hf_τ25.1 0 (by decide)
    have w3_τ25 : τ25.1 3 = σ.1 3 := hf_τ25.1 3 (by decide)
    have w12_τ25 : τ25.1 12 = σ.1 12 := hf_τ25.1 12 (by decide)
    have w15_τ25 : τ25.1 15 = σ.1 15 := hf_τ25.1 15 (by decide)
    have g6_τ25 : τ25.2.1 6 = σ.2.1 6 := hf_τ25.2.1 6 (by decide)
    have g9_τ25 : τ25.2.1 9 = σ.2.1 9 := hf_τ25.2.1 9 (by decide)
    first | (have ca_τ25 := congr (congrArg ca g9_τ25) w3_τ25) | skip
    first | (have o6_τ25 := congrArg oc g6_τ25) | skip
    first | (have o7_τ25 := congrArg oc g7_τ25) | skip
    have W0 : τ25.1 0 = σ.1 0 := by omega
    have Y20 : ca (τ25.2.1 12) ((τ25.1 3)) ≤ (τ25.1 4) := q23_4
    have Y1 : j_l2 (τ25.2.1 6) (τ25.1 3) := by rw [show (j_l2 (τ25.2.1 6) (τ25.1 3)) = (j_l2 (σ.2.1 6) (σ.1 3)) from by rw [w3_τ25, g6_τ25]]; exact Y1
    have PA : J_pa (τ25.2.1 21) (τ25.2.1 22) := q23_5
    have A6 : ∀ j, (-1) ≤ τ25.2.1 6 j ∧ τ25.2.1 6 j ≤ 999 := fun j => hT.2 6 j
    have A7 : ∀ j, (-1) ≤ τ25.2.1 7 j ∧ τ25.2.1 7 j ≤ 1499 := fun j => hT.2 7 j
    have A9 : ∀ j, 0 ≤ τ25.2.1 9 j ∧ τ25.2.1 9 j ≤ 1 := fun j => hT.2 9 j
    have A12 : ∀ j, 0 ≤ τ25.2.1 12 j ∧ τ25.2.1 12 j ≤ 1 := fun j => hT.2 12 j
    have A21 : ∀ j, 0 ≤ τ25.2.1 21 j ∧ τ25.2.1 21 j ≤ 20000 := fun j => hT.2 21 j
    have A22 : ∀ j, 0 ≤ τ25.2.1 22 j ∧ τ25.2.1 22 j ≤ 20000 := fun j => hT.2 22 j
    have A28 : ∀ j, 0 ≤ τ25.2.1 28 j ∧ τ25.2.1 28 j ≤ 1 := fun j => hT.2 28 j
    have v0 : 0 ≤ τ25.1 0 ∧ τ25.1 0 ≤ 60000 := hT.1 0
    have v3 : 0 ≤ τ25.1 3 ∧ τ25.1 3 ≤ 1000 := hT.1 3
    have v4 : 0 ≤ τ25.1 4 ∧ τ25.1 4 ≤ 100 := hT.1 4
    have v5 : 0 ≤ τ25.1 5 ∧ τ25.1 5 ≤ 1500 := hT.1 5
    have v6 : 0 ≤ τ25.1 6 ∧ τ25.1 6 ≤ 30000 := hT.1 6
    have v7 : 0 ≤ τ25.1 7 ∧ τ25.1 7 ≤ 90000 := hT.1 7
    have v8 : 0 ≤ τ25.1 8 ∧ τ25.1 8 ≤ 20000 := hT.1 8
    have v9 : 0 ≤ τ25.1 9 ∧ τ25.1 9 ≤ 20000 := hT.1 9
    have v12 : 0 ≤ τ25.1 12 ∧ τ25.1 12 ≤ 1000 := hT.1 12
    have v13 : 0 ≤ τ25.1 13 ∧ τ25.1 13 ≤ 1500 := hT.1 13
    have v15 : 0 ≤ τ25.1 15 ∧ τ25.1 15 ≤ 50 := hT.1 15
    have v16 : 0 ≤ τ25.1 16 ∧ τ25.1 16 ≤ 60000 := hT.1 16
    have v17 : 0 ≤ τ25.1 17 ∧ τ25.1 17 ≤ 60000 := hT.1 17
    have v18 : 0 ≤ τ25.1 18 ∧ τ25.1 18 ≤ 60000 := hT.1 18
    have v19 : (-1) ≤ τ25.1 19 ∧ τ25.1 19 ≤ 125 := hT.1 19
    have v20 : 0 ≤ τ25.1 20 ∧ τ25.1 20 ≤ 19 := hT.1 20
    have av3 : σ.1 3 ≤ τ25.1 3 := ag.1 3 (by decide)
    have av5 : σ.1 5 ≤ τ25.1 5 := ag.1 5 (by decide)
    have av6 : σ.1 6 ≤ τ25.1 6 := ag.1 6 (by decide)
    have av7 : σ.1 7 ≤ τ25.1 7 := ag.1 7 (by decide)
    have av8 : σ.1 8 ≤ τ25.1 8 := ag.1 8 (by decide)
    have av9 : σ.1 9 ≤ τ25.1 9 := ag.1 9 (by decide)
    have Y8 := q23_11
    exact ⟨hT, (show (τ25.1 16) ≤ (τ25.1 0) from by (first | omega | (simp only [st_s] <;> omega) | assumption | omega)), (show (τ25.1 17) + (τ25.1 18) ≤ (τ25.1 0) from by (first | omega | (simp only [st_s] <;> omega) | assumption | omega)), (show ¬ (σ.1 20) = 0 → (τ25.1 20) = (σ.1 20) from by (first | omega | (simp only [st_s] <;> omega) | assumption | omega)), (show oc (τ25.2.1 6) ≤ (τ25.1 3) from by (first | omega | (simp only [st_s] <;> omega) | assumption | omega)), (show (τ25.1 12) ≤ ca (τ25.2.1 9) (τ25.1 3) from by (first | omega | (simp only [st_s] <;> omega) | assumption | omega)), (show j_l2 (τ25.2.1 6) (τ25.1 3) from Y1), (show ca (τ25.2.1 12) ((τ25.1 3)) ≤ (τ25.1 4) from Y20), (show J_pa (τ25.2.1 21) (τ25.2.1 22) from PA), (show (τ25.1 13) ≤ (τ25.1 5) from by (first | omega | (simp only [st_s] <;> omega) | assumption | omega)), (show (τ25.1 20) = 0 → oc (τ25.2.1 7) ≤ (τ25.1 5) from by (first | omega | (simp only [st_s] <;> omega) | assumption | omega)), (show (τ25.1 20) = 0 → (τ25.1 7) ≤ 60 * (τ25.1 5) from by (first | omega | (simp only [st_s] <;> omega) | assumption | omega)), (show j_eq ((σ.1 9)) (σ.2.1 28) (τ25.2.1 28) from Y8), (show (τ25.1 20) = 0 → m_J σ → m_J τ25 from by (first | (intro hf; exfalso; omega) | (intro hf hJ; first | exact q23_12 hf hJ | exact m_J_f hJ hf_τ12 rfl rfl | exact m_J_f hJ hf_τ15 rfl rfl | exact m_J_f hJ hf_τ19 rfl rfl | exact m_J_f hJ hf_τ29 rfl rfl))), (show (σ.1 5) ≤ (τ25.1 5) from by (first | omega | (simp only [st_s] <;> omega) | assumption | omega)), (show (σ.1 16) ≤ (τ25.1 16) from by (first | omega | (simp only [st_s] <;> omega) | assumption | omega)), ag⟩
set_option maxHeartbeats 1000000 in
theorem K_X13_noteAll {σ : S0} (hT : m_T σ) : W_X13_noteAll σ (fun (τ : S0) => (m_T τ) ∧ (j_e0 (σ.1 3) (σ.2.1 8) (τ.2.1 51)) ∧ (j_e0 (σ.1 3) (σ.2.1 9) (τ.2.1 52)) ∧ (j_e0 (σ.1 3) (σ.2.1 12) (τ.2.1 53)) ∧ (j_e0 (σ.1 3) (σ.2.1 10) (τ.2.1 54)) ∧ (j_e0 (σ.1 3) (σ.2.1 11) (τ.2.1 55))) := by
  have A8 : ∀ j, 0 ≤ σ.2.1 8 j ∧ σ.2.1 8 j ≤ 1 := fun j => hT.2 8 j
  have A9 : ∀ j, 0 ≤ σ.2.1 9 j ∧ σ.2.1 9 j ≤ 1 := fun j => hT.2 9 j
  have A10 : ∀ j, (-1) ≤ σ.2.1 10 j ∧ σ.2.1 10 j ≤ 999 := fun j => hT.2 10 j
  have A11 : ∀ j, (-1) ≤ σ.2.1 11 j ∧ σ.2.1 11 j ≤ 1499 := fun j => hT.2 11 j
  have A12 : ∀ j, 0 ≤ σ.2.1 12 j ∧ σ.2.1 12 j ≤ 1 := fun j => hT.2 12 j
  have v3 : 0 ≤ σ.1 3 ∧ σ.1 3 ≤ 1000 := hT.1 3
  have W3 : σ.1 3 = σ.1 3 := rfl
  have G8 : σ.2.1 8 = σ.2.1 8 := rfl
  have G9 : σ.2.1 9 = σ.2.1 9 := rfl
  have G10 : σ.2.1 10 = σ.2.1 10 := rfl
  have G11 : σ.2.1 11 = σ.2.1 11 := rfl
  have G12 : σ.2.1 12 = σ.2.1 12 := rfl
  intro P2 h2
  have l_2 : ∀ (m_2 : Nat) (u1_2 : Int) (τ_2 : S0), 1001 - u1_2 < (m_2 : Int) → (m_T τ_2) → (τ_2.1 3 = σ.1 3) → (τ_2.2.1 8 = σ.2.1 8) → (τ_2.2.1 9 = σ.2.1 9) → (τ_2.2.1 10 = σ.2.1 10) → (τ_2.2.1 11 = σ.2.1 11) → (τ_2.2.1 12 = σ.2.1 12) → (0 ≤ u1_2 ∧ u1_2 ≤ (σ.1 3)) → (j_e0 u1_2 (σ.2.1 8) (τ_2.2.1 51)) → (j_e0 u1_2 (σ.2.1 9) (τ_2.2.1 52)) → (j_e0 u1_2 (σ.2.1 12) (τ_2.2.1 53)) → (j_e0 u1_2 (σ.2.1 10) (τ_2.2.1 54)) → (j_e0 u1_2 (σ.2.1 11) (τ_2.2.1 55)) → P2 u1_2 τ_2 := by
    intro m_2
    induction m_2 with
    | zero =>
      intro u1_2 τ_2 hm hT W3 G8 G9 G10 G11 G12 i2_1 i2_2 i2_3 i2_4 i2_5 i2_6
      have A8 : ∀ j, 0 ≤ τ_2.2.1 8 j ∧ τ_2.2.1 8 j ≤ 1 := fun j => hT.2 8 j
      have A9 : ∀ j, 0 ≤ τ_2.2.1 9 j ∧ τ_2.2.1 9 j ≤ 1 := fun j => hT.2 9 j
      have A10 : ∀ j, (-1) ≤ τ_2.2.1 10 j ∧ τ_2.2.1 10 j ≤ 999 := fun j => hT.2 10 j
      have A11 : ∀ j, (-1) ≤ τ_2.2.1 11 j ∧ τ_2.2.1 11 j ≤ 1499 := fun j => hT.2 11 j
      have A12 : ∀ j, 0 ≤ τ_2.2.1 12 j ∧ τ_2.2.1 12 j ≤ 1 := fun j => hT.2 12 j
      have v3 : 0 ≤ τ_2.1 3 ∧ τ_2.1 3 ≤ 1000 := hT.1 3
      exfalso; (first | omega | (simp only [st_s] <;> omega) | assumption | omega)
    | succ m_2 ih_2 =>
      intro u1_2 τ_2 hm_2 hT W3 G8 G9 G10 G11 G12 i2_1 i2_2 i2_3 i2_4 i2_5 i2_6
      have A8 : ∀ j, 0 ≤ τ_2.2.1 8 j ∧ τ_2.2.1 8 j ≤ 1 := fun j => hT.2 8 j
      have A9 : ∀ j, 0 ≤ τ_2.2.1 9 j ∧ τ_2.2.1 9 j ≤ 1 := fun j => hT.2 9 j
      have A10 : ∀ j, (-1) ≤ τ_2.2.1 10 j ∧ τ_2.2.1 10 j ≤ 999 := fun j => hT.2 10 j
      have A11 : ∀ j, (-1) ≤ τ_2.2.1 11 j ∧ τ_2.2.1 11 j ≤ 1499 := fun j => hT.2 11 j
      have A12 : ∀ j, 0 ≤ τ_2.2.1 12 j ∧ τ_2.2.1 12 j ≤ 1 := fun j => hT.2 12 j
      have v3 : 0 ≤ τ_2.1 3 ∧ τ_2.1 3 ≤ 1000 := hT.1 3
      have ca_τ_2 := congr (congrArg ca G9) W3
      refine h2 u1_2 τ_2 ?_
      refine ⟨fun c1 => ?_, fun c1 => ?_⟩
      ·
        exact ⟨hT, (show j_e0 (σ.1 3) (σ.2.1 8) (τ_2.2.1 51) from by exact j_e0w i2_2 (by omega)), (show j_e0 (σ.1 3) (σ.2.1 9) (τ_2.2.1 52) from by exact j_e0w i2_3 (by omega)), (show j_e0 (σ.1 3) (σ.2.1 12) (τ_2.2.1 53) from by exact j_e0w i2_4 (by omega)), (show j_e0 (σ.1 3) (σ.2.1 10) (τ_2.2.1 54) from by exact j_e0w i2_5 (by omega)), (show j_e0 (σ.1 3) (σ.2.1 11) (τ_2.2.1 55) from by exact j_e0w i2_6 (by omega))⟩
      ·
        refine ⟨(show 0 ≤ u1_2 ∧ u1_2 < 1001 from by (first | omega | (simp only [st_s] <;> omega) | assumption | omega)), ?_⟩
        intro x3 r_x3 e_x3
        have b_x3 : 0 ≤ x3 ∧ x3 ≤ 1 := by rw [e_x3]; exact hT.2 8 _
        refine ⟨(show 0 ≤ x3 ∧ x3 ≤ 1 from by (first | omega | (simp only [st_s] <;> omega) | assumption | omega)), ?_⟩
        replace hT := mT_a (k := 51) (j := u1_2) hT (show (0 : Int) ≤ x3 ∧ x3 ≤ 1 from by (first | omega | (simp only [st_s] <;> omega) | assumption | omega))
        intro x5 r_x5 e_x5
        have b_x5 : 0 ≤ x5 ∧ x5 ≤ 1 := by rw [e_x5]; exact hT.2 9 _
        refine ⟨(show 0 ≤ x5 ∧ x5 ≤ 1 from by (first | omega | (simp only [st_s] <;> omega) | assumption | omega)), ?_⟩
        replace hT := mT_a (k := 52) (j := u1_2) hT (show (0 : Int) ≤ x5 ∧ x5 ≤ 1 from by (first | omega | (simp only [st_s] <;> omega) | assumption | omega))
        intro x7 r_x7 e_x7
        have b_x7 : 0 ≤ x7 ∧ x7 ≤ 1 := by rw [e_x7]; exact hT.2 12 _
        refine ⟨(show 0 ≤ x7 ∧ x7 ≤ 1 from by (first | omega | (simp only [st_s] <;> omega) | assumption | omega)), ?_⟩
        replace hT := mT_a (k := 53) (j := u1_2) hT (show (0 : Int) ≤ x7 ∧ x7 ≤ 1 from by (first | omega | (simp only [st_s] <;> omega) | assumption | omega))
        intro x9 r_x9 e_x9
        have b_x9 : (-1) ≤ x9 ∧ x9 ≤ 999 := by rw [e_x9]; exact hT.2 10 _
        replace hT := mT_a (k := 54) (j := u1_2) hT (show (-1 : Int) ≤ x9 ∧ x9 ≤ 999 from by (first | omega | (simp only [st_s] <;> omega) | assumption | omega))
        intro x10 r_x10 e_x10
        have b_x10 : (-1) ≤ x10 ∧ x10 ≤ 1499 := by rw [e_x10]; exact hT.2 11 _
        replace hT := mT_a (k := 55) (j := u1_2) hT (show (-1 : Int) ≤ x10 ∧ x10 ≤ 1499 from by (first | omega | (simp only [st_s] <;> omega) | assumption | omega))
        refine ⟨(⟨by (first | omega | (simp only [st_s] <;> omega) | assumption | omega), by (first | omega | (simp only [st_s] <;> omega) | assumption | omega)⟩ : rg (u1_2 + 1)), ?_⟩
        exact ih_2 _ _ (show (1001 - (u1_2 + 1) : Int) < ((m_2 : Nat) : Int) from by ((first | omega | (simp only [st_s] <;> omega) | assumption | omega))) hT (show τ_2.1 3 = σ.1 3 from by omega) G8 G9 G10 G11 G12 (show 0 ≤ (u1_2 + 1) ∧ (u1_2 + 1) ≤ (σ.1 3) from by (first | omega | (simp only [st_s] <;> omega) | assumption | omega)) (show j_e0 (u1_2 + 1) (σ.2.1 8) ((st (τ_2.2.1 51) u1_2 x3)) from by (first | (intro j h0 hj; exfalso; omega) | (rw [e_x3, G8]; exact j_e0p i2_2))) (show j_e0 (u1_2 + 1) (σ.2.1 9) ((st (τ_2.2.1 52) u1_2 x5)) from by (first | (intro j h0 hj; exfalso; omega) | (rw [e_x5, G9]; exact j_e0p i2_3))) (show j_e0 (u1_2 + 1) (σ.2.1 12) ((st (τ_2.2.1 53) u1_2 x7)) from by (first | (intro j h0 hj; exfalso; omega) | (rw [e_x7, G12]; exact j_e0p i2_4))) (show j_e0 (u1_2 + 1) (σ.2.1 10) ((st (τ_2.2.1 54) u1_2 x9)) from by (first | (intro j h0 hj; exfalso; omega) | (rw [e_x9, G10]; exact j_e0p i2_5))) (show j_e0 (u1_2 + 1) (σ.2.1 11) ((st (τ_2.2.1 55) u1_2 x10)) from by (first | (intro j h0 hj; exfalso; omega) | (rw [e_x10, G11]; exact j_e0p i2_6)))
  exact l_2 ((1001 - 0 : Int).toNat + 1) _ _ (show (1001 - 0 : Int) < (((1001 - 0 : Int).toNat + 1 : Nat) : Int) from by ((first | omega | (simp only [st_s] <;> omega) | assumption | omega))) hT (show σ.1 3 = σ.1 3 from by omega) G8 G9 G10 G11 G12 (show 0 ≤ 0 ∧ 0 ≤ (σ.1 3) from by (first | omega | (simp only [st_s] <;> omega) | assumption | omega)) (show j_e0 0 (σ.2.1 8) (σ.2.1 51) from by (first | (intro j h0 hj; exfalso; omega) | (rw [e_x3, G8]; exact j_e0p i2_2))) (show j_e0 0 (σ.2.1 9) (σ.2.1 52) from by (first | (intro j h0 hj; exfalso; omega) | (rw [e_x5, G9]; exact j_e0p i2_3))) (show j_e0 0 (σ.2.1 12) (σ.2.1 53) from by (first | (intro j h0 hj; exfalso; omega) | (rw [e_x7, G12]; exact j_e0p i2_4))) (show j_e0 0 (σ.2.1 10) (σ.2.1 54) from by (first | (intro j h0 hj; exfalso; omega) | (rw [e_x9, G10]; exact j_e0p i2_5))) (show j_e0 0 (σ.2.1 11) (σ.2.1 55) from by (first | (intro j h0 hj; exfalso; omega) | (rw [e_x10, G11]; exact j_e0p i2_6)))
set_option maxHeartbeats 1000000 in
theorem K_X13_forgetText {n1 : Int} {n2 : Int} {n3 : Int} {n4 : Int} {n5 : Int} {n6 : Int} {σ : S0} (hT : m_T σ) (p1 : 0 ≤ n1) (p2 : n1 ≤ 1000) (p3 : 0 ≤ n2) (p4 : n2 ≤ 1500) (p5 : 0 ≤ n3) (p6 : n3 ≤ 30000) (p7 : 0 ≤ n4) (p8 : 0 ≤ n5) (p9 : n5 ≤ n2) (p10 : 0 ≤ n6) (p11 : (σ.1 12) ≤ ca (σ.2.1 9) (σ.1 3)) (p12 : ca (σ.2.1 53) n1 ≤ 100) (p13 : n4 ≤ ca (σ.2.1 52) n1) (p14 : ¬ n2 = 0 → σ.2.1 14 (n2 - 1) + σ.2.1 15 (n2 - 1) ≤ 30000 ∧ σ.2.1 18 (n2 - 1) + σ.2.1 19 (n2 - 1) ≤ 60 * n2 ∧ σ.2.1 21 (n2 - 1) + σ.2.1 22 (n2 - 1) ≤ 20000 ∧ σ.2.1 25 (n2 - 1) + σ.2.1 26 (n2 - 1) ≤ 20000) : W_X13_forgetText n1 n2 n3 n4 n5 n6 σ (fun (τ : S0) => (m_T τ) ∧ ((τ.1 3) = n1) ∧ ((τ.1 5) = n2) ∧ (oc (τ.2.1 6) ≤ (τ.1 3)) ∧ (oc (τ.2.1 7) ≤ (τ.1 5)) ∧ ((τ.1 12) ≤ ca (τ.2.1 9) (τ.1 3)) ∧ (j_l2 (τ.2.1 6) (τ.1 3)) ∧ (ca (τ.2.1 12) ((τ.1 3)) ≤ (τ.1 4)) ∧ ((τ.1 13) ≤ (τ.1 5)) ∧ ((τ.1 7) ≤ 60 * (τ.1 5)) ∧ ((n2 = 0 ∨ (τ.1 6) = σ.2.1 14 (n2 - 1) + σ.2.1 15 (n2 - 1))) ∧ ((n2 = 0 ∨ (τ.1 7) = σ.2.1 18 (n2 - 1) + σ.2.1 19 (n2 - 1)) ∧ (τ.1 7) ≤ 60 * n2) ∧ ((n2 = 0 ∨ (τ.1 8) = σ.2.1 21 (n2 - 1) + σ.2.1 22 (n2 - 1))) ∧ ((n2 = 0 ∨ (τ.1 9) = σ.2.1 25 (n2 - 1) + σ.2.1 26 (n2 - 1)))) := by
  have A6 : ∀ j, (-1) ≤ σ.2.1 6 j ∧ σ.2.1 6 j ≤ 999 := fun j => hT.2 6 j
  have A7 : ∀ j, (-1) ≤ σ.2.1 7 j ∧ σ.2.1 7 j ≤ 1499 := fun j => hT.2 7 j
  have A9 : ∀ j, 0 ≤ σ.2.1 9 j ∧ σ.2.1 9 j ≤ 1 := fun j => hT.2 9 j
  have A12 : ∀ j, 0 ≤ σ.2.1 12 j ∧ σ.2.1 12 j ≤ 1 := fun j => hT.2 12 j
  have A14 : ∀ j, 0 ≤ σ.2.1 14 j ∧ σ.2.1 14 j ≤ 30000 := fun j => hT.2 14 j
  have A15 : ∀ j, 0 ≤ σ.2.1 15 j ∧ σ.2.1 15 j ≤ 300 := fun j => hT.2 15 j
  have A18 : ∀ j, 0 ≤ σ.2.1 18 j ∧ σ.2.1 18 j ≤ 90000 := fun j => hT.2 18 j
  have A19 : ∀ j, 0 ≤ σ.2.1 19 j ∧ σ.2.1 19 j ≤ 60 := fun j => hT.2 19 j
  have A21 : ∀ j, 0 ≤ σ.2.1 21 j ∧ σ.2.1 21 j ≤ 20000 := fun j => hT.2 21 j
  have A22 : ∀ j, 0 ≤ σ.2.1 22 j ∧ σ.2.1 22 j ≤ 20000 := fun j => hT.2 22 j
  have A25 : ∀ j, 0 ≤ σ.2.1 25 j ∧ σ.2.1 25 j ≤ 20000 := fun j => hT.2 25 j
  have A26 : ∀ j, 0 ≤ σ.2.1 26 j ∧ σ.2.1 26 j ≤ 20000 := fun j => hT.2 26 j
  have A51 : ∀ j, 0 ≤ σ.2.1 51 j ∧ σ.2.1 51 j ≤ 1 := fun j => hT.2 51 j
  have A52 : ∀ j, 0 ≤ σ.2.1 52 j ∧ σ.2.1 52 j ≤ 1 := fun j => hT.2 52 j
  have A53 : ∀ j, 0 ≤ σ.2.1 53 j ∧ σ.2.1 53 j ≤ 1 := fun j => hT.2 53 j
  have v3 : 0 ≤ σ.1 3 ∧ σ.1 3 ≤ 1000 := hT.1 3
  have v4 : 0 ≤ σ.1 4 ∧ σ.1 4 ≤ 100 := hT.1 4
  have v5 : 0 ≤ σ.1 5 ∧ σ.1 5 ≤ 1500 := hT.1 5
  have v6 : 0 ≤ σ.1 6 ∧ σ.1 6 ≤ 30000 := hT.1 6
  have v7 : 0 ≤ σ.1 7 ∧ σ.1 7 ≤ 90000 := hT.1 7
  have v8 : 0 ≤ σ.1 8 ∧ σ.1 8 ≤ 20000 := hT.1 8
  have v9 : 0 ≤ σ.1 9 ∧ σ.1 9 ≤ 20000 := hT.1 9
  have v10 : (-1) ≤ σ.1 10 ∧ σ.1 10 ≤ 999 := hT.1 10
  have v11 : (-1) ≤ σ.1 11 ∧ σ.1 11 ≤ 999 := hT.1 11
  have v12 : 0 ≤ σ.1 12 ∧ σ.1 12 ≤ 1000 := hT.1 12
  have v13 : 0 ≤ σ.1 13 ∧ σ.1 13 ≤ 1500 := hT.1 13
  have v14 : 0 ≤ σ.1 14 ∧ σ.1 14 ≤ 1000 := hT.1 14
  have G14 : σ.2.1 14 = σ.2.1 14 := rfl
  have G15 : σ.2.1 15 = σ.2.1 15 := rfl
  have G18 : σ.2.1 18 = σ.2.1 18 := rfl
  have G19 : σ.2.1 19 = σ.2.1 19 := rfl
  have G21 : σ.2.1 21 = σ.2.1 21 := rfl
  have G22 : σ.2.1 22 = σ.2.1 22 := rfl
  have G25 : σ.2.1 25 = σ.2.1 25 := rfl
  have G26 : σ.2.1 26 = σ.2.1 26 := rfl
  have G51 : σ.2.1 51 = σ.2.1 51 := rfl
  have G52 : σ.2.1 52 = σ.2.1 52 := rfl
  have G53 : σ.2.1 53 = σ.2.1 53 := rfl
  intro P60 P98 P136 P174 P185 P284 P314 P337 P347 P371 h60 h98 h136 h174 h185 h284 h314 h337 h347 h371
  have l_371 : ∀ (m_371 : Nat) (u7_371 : Int) (τ_371 : S0), 1501 - u7_371 < (m_371 : Int) → (m_T τ_371) → (τ_371.2.1 14 = σ.2.1 14) → (τ_371.2.1 15 = σ.2.1 15) → (τ_371.2.1 18 = σ.2.1 18) → (τ_371.2.1 19 = σ.2.1 19) → (τ_371.2.1 21 = σ.2.1 21) → (τ_371.2.1 22 = σ.2.1 22) → (τ_371.2.1 25 = σ.2.1 25) → (τ_371.2.1 26 = σ.2.1 26) → (τ_371.2.1 51 = σ.2.1 51) → (τ_371.2.1 52 = σ.2.1 52) → (τ_371.2.1 53 = σ.2.1 53) → ((τ_371.1 3) = n1) → ((τ_371.1 5) = n2) → ((τ_371.1 12) ≤ n4) → ((τ_371.1 13) ≤ n5) → (n2 = 0 ∨ (τ_371.1 6) = σ.2.1 14 (n2 - 1) + σ.2.1 15 (n2 - 1)) → ((n2 = 0 ∨ (τ_371.1 7) = σ.2.1 18 (n2 - 1) + σ.2.1 19 (n2 - 1)) ∧ (τ_371.1 7) ≤ 60 * n2) → (n2 = 0 ∨ (τ_371.1 8) = σ.2.1 21 (n2 - 1) + σ.2.1 22 (n2 - 1)) → (n2 = 0 ∨ (τ_371.1 9) = σ.2.1 25 (n2 - 1) + σ.2.1 26 (n2 - 1)) → (0 ≤ u7_371 ∧ u7_371 ≤ n2) → ((τ_371.1 4) = ca (σ.2.1 53) n1) → (j_e0 n1 (σ.2.1 53) (τ_371.2.1 12)) → (j_e0 n1 (σ.2.1 52) (τ_371.2.1 9)) → (oc (τ_371.2.1 6) ≤ n1) → (j_l2 (τ_371.2.1 6) n1) → (oc (τ_371.2.1 7) ≤ u7_371) → P371 u7_371 τ_371 := by
    intro m_371
    induction m_371 with
    | zero =>
      intro u7_371 τ_371 hm hT G14 G15 G18 G19 G21 G22 G25 G26 G51 G52 G53 i371_1 i371_2 i371_3 i371_4 i371_5 i371_6 i371_7 i371_8 i371_9 i371_10 i371_11 i371_12 i371_13 i371_14 i371_15
      have A6 : ∀ j, (-1) ≤ τ_371.2.1 6 j ∧ τ_371.2.1 6 j ≤ 999 := fun j => hT.2 6 j
      have A7 : ∀ j, (-1) ≤ τ_371.2.1 7 j ∧ τ_371.2.1 7 j ≤ 1499 := fun j => hT.2 7 j
      have A9 : ∀ j, 0 ≤ τ_371.2.1 9 j ∧ τ_371.2.1 9 j ≤ 1 := fun j => hT.2 9 j
      have A12 : ∀ j, 0 ≤ τ_371.2.1 12 j ∧ τ_371.2.1 12 j ≤ 1 := fun j => hT.2 12 j
      have A14 : ∀ j, 0 ≤ τ_371.2.1 14 j ∧ τ_371.2.1 14 j ≤ 30000 := fun j => hT.2 14 j
      have A15 : ∀ j, 0 ≤ τ_371.2.1 15 j ∧ τ_371.2.1 15 j ≤ 300 := fun j => hT.2 15 j
      have A18 : ∀ j, 0 ≤ τ_371.2.1 18 j ∧ τ_371.2.1 18 j ≤ 90000 := fun j => hT.2 18 j
      have A19 : ∀ j, 0 ≤ τ_371.2.1 19 j ∧ τ_371.2.1 19 j ≤ 60 := fun j => hT.2 19 j
      have A21 : ∀ j, 0 ≤ τ_371.2.1 21 j ∧ τ_371.2.1 21 j ≤ 20000 := fun j => hT.2 21 j
      have A22 : ∀ j, 0 ≤ τ_371.2.1 22 j ∧ τ_371.2.1 22 j ≤ 20000 := fun j => hT.2 22 j
      have A25 : ∀ j, 0 ≤ τ_371.2.1 25 j ∧ τ_371.2.1 25 j ≤ 20000 := fun j => hT.2 25 j
      have A26 : ∀ j, 0 ≤ τ_371.2.1 26 j ∧ τ_371.2.1 26 j ≤ 20000 := fun j => hT.2 26 j
      have A51 : ∀ j, 0 ≤ τ_371.2.1 51 j ∧ τ_371.2.1 51 j ≤ 1 := fun j => hT.2 51 j
      have A52 : ∀ j, 0 ≤ τ_371.2.1 52 j ∧ τ_371.2.1 52 j ≤ 1 := fun j => hT.2 52 j
      have A53 : ∀ j, 0 ≤ τ_371.2.1 53 j ∧ τ_371.2.1 53 j ≤ 1 := fun j => hT.2 53 j
      have v3 : 0 ≤ τ_371.1 3 ∧ τ_371.1 3 ≤ 1000 := hT.1 3
      have v4 : 0 ≤ τ_371.1 4 ∧ τ_371.1 4 ≤ 100 := hT.1 4
      have v5 : 0 ≤ τ_371.1 5 ∧ τ_371.1 5 ≤ 1500 := hT.1 5
      have v6 : 0 ≤ τ_371.1 6 ∧ τ_371.1 6 ≤ 30000 := hT.1 6
      have v7 : 0 ≤ τ_371.1 7 ∧ τ_371.1 7 ≤ 90000 := hT.1 7
      have v8 : 0 ≤ τ_371.1 8 ∧ τ_371.1 8 ≤ 20000 := hT.1 8
      have v9 : 0 ≤ τ_371.1 9 ∧ τ_371.1 9 ≤ 20000 := hT.1 9
      have v10 : (-1) ≤ τ_371.1 10 ∧ τ_371.1 10 ≤ 999 := hT.1 10
      have v11 : (-1) ≤ τ_371.1 11 ∧ τ_371.1 11 ≤ 999 := hT.1 11
      have v12 : 0 ≤ τ_371.1 12 ∧ τ_371.1 12 ≤ 1000 := hT.1 12
      have v13 : 0 ≤ τ_371.1 13 ∧ τ_371.1 13 ≤ 1500 := hT.1 13
      have v14 : 0 ≤ τ_371.1 14 ∧ τ_371.1 14 ≤ 1000 := hT.1 14
      exfalso; (first | omega | (simp only [st_s] <;> omega) | assumption | omega)
    | succ m_371 ih_371 =>
      intro u7_371 τ_371 hm_371 hT G14 G15 G18 G19 G21 G22 G25 G26 G51 G52 G53 i371_1 i371_2 i371_3 i371_4 i371_5 i371_6 i371_7 i371_8 i371_9 i371_10 i371_11 i371_12 i371_13 i371_14 i371_15
      have A6 : ∀ j, (-1) ≤ τ_371.2.1 6 j ∧ τ_371.2.1 6 j ≤ 999 := fun j => hT.2 6 j
      have A7 : ∀ j, (-1) ≤ τ_371.2.1 7 j ∧ τ_371.2.1 7 j ≤ 1499 := fun j => hT.2 7 j
      have A9 : ∀ j, 0 ≤ τ_371.2.1 9 j ∧ τ_371.2.1 9 j ≤ 1 := fun j => hT.2 9 j
      have A12 : ∀ j, 0 ≤ τ_371.2.1 12 j ∧ τ_371.2.1 12 j ≤ 1 := fun j => hT.2 12 j
      have A14 : ∀ j, 0 ≤ τ_371.2.1 14 j ∧ τ_371.2.1 14 j ≤ 30000 := fun j => hT.2 14 j
      have A15 : ∀ j, 0 ≤ τ_371.2.1 15 j ∧ τ_371.2.1 15 j ≤ 300 := fun j => hT.2 15 j
      have A18 : ∀ j, 0 ≤ τ_371.2.1 18 j ∧ τ_371.2.1 18 j ≤ 90000 := fun j => hT.2 18 j
      have A19 : ∀ j, 0 ≤ τ_371.2.1 19 j ∧ τ_371.2.1 19 j ≤ 60 := fun j => hT.2 19 j
      have A21 : ∀ j, 0 ≤ τ_371.2.1 21 j ∧ τ_371.2.1 21 j ≤ 20000 := fun j => hT.2 21 j
      have A22 : ∀ j, 0 ≤ τ_371.2.1 22 j ∧ τ_371.2.1 22 j ≤ 20000 := fun j => hT.2 22 j
      have A25 : ∀ j, 0 ≤ τ_371.2.1 25 j ∧ τ_371.2.1 25 j ≤ 20000 := fun j => hT.2 25 j
      have A26 : ∀ j, 0 ≤ τ_371.2.1 26 j ∧ τ_371.2.1 26 j ≤ 20000 := fun j => hT.2 26 j
      have A51 : ∀ j, 0 ≤ τ_371.2.1 51 j ∧ τ_371.2.1 51 j ≤ 1 := fun j => hT.2 51 j
      have A52 : ∀ j, 0 ≤ τ_371.2.1 52 j ∧ τ_371.2.1 52 j ≤ 1 := fun j => hT.2 52 j
      have A53 : ∀ j, 0 ≤ τ_371.2.1 53 j ∧ τ_371.2.1 53 j ≤ 1 := fun j => hT.2 53 j
      have v3 : 0 ≤ τ_371.1 3 ∧ τ_371.1 3 ≤ 1000 := hT.1 3
      have v4 : 0 ≤ τ_371.1 4 ∧ τ_371.1 4 ≤ 100 := hT.1 4
      have v5 : 0 ≤ τ_371.1 5 ∧ τ_371.1 5 ≤ 1500 := hT.1 5
      have v6 : 0 ≤ τ_371.1 6 ∧ τ_371.1 6 ≤ 30000 := hT.1 6
      have v7 : 0 ≤ τ_371.1 7 ∧ τ_371.1 7 ≤ 90000 := hT.1 7
      have v8 : 0 ≤ τ_371.1 8 ∧ τ_371.1 8 ≤ 20000 := hT.1 8
      have v9 : 0 ≤ τ_371.1 9 ∧ τ_371.1 9 ≤ 20000 := hT.1 9
      have v10 : (-1) ≤ τ_371.1 10 ∧ τ_371.1 10 ≤ 999 := hT.1 10
      have v11 : (-1) ≤ τ_371.1 11 ∧ τ_371.1 11 ≤ 999 := hT.1 11
      have v12 : 0 ≤ τ_371.1 12 ∧ τ_371.1 12 ≤ 1000 := hT.1 12
      have v13 : 0 ≤ τ_371.1 13 ∧ τ_371.1 13 ≤ 1500 := hT.1 13
      have v14 : 0 ≤ τ_371.1 14 ∧ τ_371.1 14 ≤ 1000 := hT.1 14
      refine h371 u7_371 τ_371 ?_
      refine ⟨fun c48 => ?_, fun c48 => ?_⟩
      ·
        exact ⟨hT, (show (τ_371.1 3) = n1 from by (first | omega | (simp only [st_s] <;> omega) | assumption | omega)), (show (τ_371.1 5) = n2 from by (first | omega | (simp only [st_s] <;> omega) | assumption | omega)), (show oc (τ_371.2.1 6) ≤ (τ_371.1 3) from by (first | omega | (simp only [st_s] <;> omega) | assumption | omega)), (show oc (τ_371.2.1 7) ≤ (τ_371.1 5) from by (first | omega | (simp only [st_s] <;> omega) | assumption | omega)), (show (τ_371.1 12) ≤ ca (τ_371.2.1 9) (τ_371.1 3) from by (rw [i371_1, ca_e0 i371_12 (Int.le_refl _)]; omega)), (show j_l2 (τ_371.2.1 6) (τ_371.1 3) from by (rw [i371_1]; assumption)), (show ca (τ_371.2.1 12) ((τ_371.1 3)) ≤ (τ_371.1 4) from by (rw [i371_1, ca_e0 i371_11 (Int.le_refl _)]; omega)), (show (τ_371.1 13) ≤ (τ_371.1 5) from by (first | omega | (simp only [st_s] <;> omega) | assumption | omega)), (show (τ_371.1 7) ≤ 60 * (τ_371.1 5) from by (first | omega | (simp only [st_s] <;> omega) | assumption | omega)), (show (n2 = 0 ∨ (τ_371.1 6) = σ.2.1 14 (n2 - 1) + σ.2.1 15 (n2 - 1)) from by (first | omega | (simp only [st_s] <;> omega) | assumption | omega)), (show (n2 = 0 ∨ (τ_371.1 7) = σ.2.1 18 (n2 - 1) + σ.2.1 19 (n2 - 1)) ∧ (τ_371.1 7) ≤ 60 * n2 from by (first | omega | (simp only [st_s] <;> omega) | assumption | omega)), (show (n2 = 0 ∨ (τ_371.1 8) = σ.2.1 21 (n2 - 1) + σ.2.1 22 (n2 - 1)) from by (first | omega | (simp only [st_s] <;> omega) | assumption | omega)), (show (n2 = 0 ∨ (τ_371.1 9) = σ.2.1 25 (n2 - 1) + σ.2.1 26 (n2 - 1)) from by (first | omega | (simp only [st_s] <;> omega) | assumption | omega))⟩
      ·
        refine ⟨_, K_X13_keepLabel hT (show 0 ≤ u7_371 from by (first | omega | (simp only [st_s] <;> omega) | assumption | omega)) (show u7_371 < 1500 from by (first | omega | (simp only [st_s] <;> omega) | assumption | omega)) (show oc (τ_371.2.1 7) < 4096 from by (first | omega | (simp only [st_s] <;> omega) | assumption | omega)), ?_⟩
        intro τ51 hn_τ51 hf_τ51 hq
        obtain ⟨hT, q49_1, q49_2⟩ := hq
        replace q49_1 : oc (τ51.2.1 7) ≤ oc (τ_371.2.1 7) + 1 := q49_1
        replace q49_2 : ∃ e : Int, τ51.2.1 7 = st (τ_371.2.1 7) e u7_371 := q49_2
        have w3_τ51 : τ51.1 3 = τ_371.1 3 := hf_τ51.1 3 (by decide)
        have w4_τ51 : τ51.1 4 = τ_371.1 4 := hf_τ51.1 4 (by decide)
        have w5_τ51 : τ51.1 5 = τ_371.1 5 := hf_τ51.1 5 (by decide)
        have w6_τ51 : τ51.1 6 = τ_371.1 6 := hf_τ51.1 6 (by decide)
        have w7_τ51 : τ51.1 7 = τ_371.1 7 := hf_τ51.1 7 (by decide)
        have w8_τ51 : τ51.1 8 = τ_371.1 8 := hf_τ51.1 8 (by decide)
        have w9_τ51 : τ51.1 9 = τ_371.1 9 := hf_τ51.1 9 (by decide)
        have w10_τ51 : τ51.1 10 = τ_371.1 10 := hf_τ51.1 10 (by decide)
        have w11_τ51 : τ51.1 11 = τ_371.1 11 := hf_τ51.1 11 (by decide)
        have w12_τ51 : τ51.1 12 = τ_371.1 12 := hf_τ51.1 12 (by decide)
        have w13_τ51 : τ51.1 13 = τ_371.1 13 := hf_τ51.1 13 (by decide)
        have w14_τ51 : τ51.1 14 = τ_371.1 14 := hf_τ51.1 14 (by decide)
        have g6_τ51 : τ51.2.1 6 = τ_371.2.1 6 := hf_τ51.2.1 6 (by decide)
        have g9_τ51 : τ51.2.1 9 = τ_371.2.1 9 := hf_τ51.2.1 9 (by decide)
        have g12_τ51 : τ51.2.1 12 = τ_371.2.1 12 := hf_τ51.2.1 12 (by decide)
        have g14_τ51 : τ51.2.1 14 = τ_371.2.1 14 := hf_τ51.2.1 14 (by decide)
        have g15_τ51 : τ51.2.1 15 = τ_371.2.1 15 := hf_τ51.2.1 15 (by decide)
        have g18_τ51 : τ51.2.1 18 = τ_371.2.1 18 := hf_τ51.2.1 18 (by decide)
        have g19_τ51 : τ51.2.1 19 = τ_371.2.1 19 := hf_τ51.2.1 19 (by decide)
        have g21_τ51 : τ51.2.1 21 = τ_371.2.1 21 := hf_τ51.2.1 21 (by decide)
        have g22_τ51 : τ51.2.1 22 = τ_371.2.1 22 := hf_τ51.2.1 22 (by decide)
        have g25_τ51 : τ51.2.1 25 = τ_371.2.1 25 := hf_τ51.2.1 25 (by decide)
        have g26_τ51 : τ51.2.1 26 = τ_371.2.1 26 := hf_τ51.2.1 26 (by decide)
        have g51_τ51 : τ51.2.1 51 = τ_371.2.1 51 := hf_τ51.2.1 51 (by decide)
        have g52_τ51 : τ51.2.1 52 = τ_371.2.1 52 := hf_τ51.2.1 52 (by decide)
        have g53_τ51 : τ51.2.1 53 = τ_371.2.1 53 := hf_τ51.2.1 53 (by decide)
        first | (have ca_τ51 := congr (congrArg ca g9_τ51) w3_τ51) | skip
        first | (have o6_τ51 := congrArg oc g6_τ51) | skip
        first | (have o7_τ51 := congrArg oc g7_τ51) | skip
        have G14 : τ51.2.1 14 = σ.2.1 14 := (g14_τ51).trans G14
        have G15 : τ51.2.1 15 = σ.2.1 15 := (g15_τ51).trans G15
        have G18 : τ51.2.1 18 = σ.2.1 18 := (g18_τ51).trans G18
        have G19 : τ51.2.1 19 = σ.2.1 19 := (g19_τ51).trans G19
        have G21 : τ51.2.1 21 = σ.2.1 21 := (g21_τ51).trans G21
        have G22 : τ51.2.1 22 = σ.2.1 22 := (g22_τ51).trans G22
        have G25 : τ51.2.1 25 = σ.2.1 25 := (g25_τ51).trans G25
        have G26 : τ51.2.1 26 = σ.2.1 26 := (g26_τ51).trans G26
        have G51 : τ51.2.1 51 = σ.2.1 51 := (g51_τ51).trans G51
        have G52 : τ51.2.1 52 = σ.2.1 52 := (g52_τ51).trans G52
        have G53 : τ51.2.1 53 = σ.2.1 53 := (g53_τ51).trans G53
        have A6 : ∀ j, (-1) ≤ τ51.2.1 6 j ∧ τ51.2.1 6 j ≤ 999 := fun j => hT.2 6 j
        have A7 : ∀ j, (-1) ≤ τ51.2.1 7 j ∧ τ51.2.1 7 j ≤ 1499 := fun j => hT.2 7 j
        have A9 : ∀ j, 0 ≤ τ51.2.1 9 j ∧ τ51.2.1 9 j ≤ 1 := fun j => hT.2 9 j
        have A12 : ∀ j, 0 ≤ τ51.2.1 12 j ∧ τ51.2.1 12 j ≤ 1 := fun j => hT.2 12 j
        have A14 : ∀ j, 0 ≤ τ51.2.1 14 j ∧ τ51.2.1 14 j ≤ 30000 := fun j => hT.2 14 j
        have A15 : ∀ j, 0 ≤ τ51.2.1 15 j ∧ τ51.2.1 15 j ≤ 300 := fun j => hT.2 15 j
        have A18 : ∀ j, 0 ≤ τ51.2.1 18 j ∧ τ51.2.1 18 j ≤ 90000 := fun j => hT.2 18 j
        have A19 : ∀ j, 0 ≤ τ51.2.1 19 j ∧ τ51.2.1 19 j ≤ 60 := fun j => hT.2 19 j
        have A21 : ∀ j, 0 ≤ τ51.2.1 21 j ∧ τ51.2.1 21 j ≤ 20000 := fun j => hT.2 21 j
        have A22 : ∀ j, 0 ≤ τ51.2.1 22 j ∧ τ51.2.1 22 j ≤ 20000 := fun j => hT.2 22 j
        have A25 : ∀ j, 0 ≤ τ51.2.1 25 j ∧ τ51.2.1 25 j ≤ 20000 := fun j => hT.2 25 j
        have A26 : ∀ j, 0 ≤ τ51.2.1 26 j ∧ τ51.2.1 26 j ≤ 20000 := fun j => hT.2 26 j
        have A51 : ∀ j, 0 ≤ τ51.2.1 51 j ∧ τ51.2.1 51 j ≤ 1 := fun j => hT.2 51 j
        have A52 : ∀ j, 0 ≤ τ51.2.1 52 j ∧ τ51.2.1 52 j ≤ 1 := fun j => hT.2 52 j
        have A53 : ∀ j, 0 ≤ τ51.2.1 53 j ∧ τ51.2.1 53 j ≤ 1 := fun j => hT.2 53 j
        have v3 : 0 ≤ τ51.1 3 ∧ τ51.1 3 ≤ 1000 := hT.1 3
        have v4 : 0 ≤ τ51.1 4 ∧ τ51.1 4 ≤ 100 := hT.1 4
        have v5 : 0 ≤ τ51.1 5 ∧ τ51.1 5 ≤ 1500 := hT.1 5
        have v6 : 0 ≤ τ51.1 6 ∧ τ51.1 6 ≤ 30000 := hT.1 6
        have v7 : 0 ≤ τ51.1 7 ∧ τ51.1 7 ≤ 90000 := hT.1 7
        have v8 : 0 ≤ τ51.1 8 ∧ τ51.1 8 ≤ 20000 := hT.1 8
        have v9 : 0 ≤ τ51.1 9 ∧ τ51.1 9 ≤ 20000 := hT.1 9
        have v10 : (-1) ≤ τ51.1 10 ∧ τ51.1 10 ≤ 999 := hT.1 10
        have v11 : (-1) ≤ τ51.1 11 ∧ τ51.1 11 ≤ 999 := hT.1 11
        have v12 : 0 ≤ τ51.1 12 ∧ τ51.1 12 ≤ 1000 := hT.1 12
        have v13 : 0 ≤ τ51.1 13 ∧ τ51.1 13 ≤ 1500 := hT.1 13
        have v14 : 0 ≤ τ51.1 14 ∧ τ51.1 14 ≤ 1000 := hT.1 14
        refine ⟨(⟨by (first | omega | (simp only [st_s] <;> omega) | assumption | omega), by (first | omega | (simp only [st_s] <;> omega) | assumption | omega)⟩ : rg (u7_371 + 1)), ?_⟩
        exact ih_371 _ _ (show (1501 - (u7_371 + 1) : Int) < ((m_371 : Nat) : Int) from by ((first | omega | (simp only [st_s] <;> omega) | assumption | omega))) hT G14 G15 G18 G19 G21 G22 G25 G26 G51 G52 G53 (show (τ51.1 3) = n1 from by (first | omega | (simp only [st_s] <;> omega) | assumption | omega)) (show (τ51.1 5) = n2 from by (first | omega | (simp only [st_s] <;> omega) | assumption | omega)) (show (τ51.1 12) ≤ n4 from by (first | omega | (simp only [st_s] <;> omega) | assumption | omega)) (show (τ51.1 13) ≤ n5 from by (first | omega | (simp only [st_s] <;> omega) | assumption | omega)) (show (n2 = 0 ∨ (τ51.1 6) = σ.2.1 14 (n2 - 1) + σ.2.1 15 (n2 - 1)) from by (first | omega | (simp only [st_s] <;> omega) | assumption | omega)) (show (n2 = 0 ∨ (τ51.1 7) = σ.2.1 18 (n2 - 1) + σ.2.1 19 (n2 - 1)) ∧ (τ51.1 7) ≤ 60 * n2 from by (first | omega | (simp only [st_s] <;> omega) | assumption | omega)) (show (n2 = 0 ∨ (τ51.1 8) = σ.2.1 21 (n2 - 1) + σ.2.1 22 (n2 - 1)) from by (first | omega | (simp only [st_s] <;> omega) | assumption | omega)) (show (n2 = 0 ∨ (τ51.1 9) = σ.2.1 25 (n2 - 1) + σ.2.1 26 (n2 - 1)) from by (first | omega | (simp only [st_s] <;> omega) | assumption | omega)) (show 0 ≤ (u7_371 + 1) ∧ (u7_371 + 1) ≤ n2 from by (first | omega | (simp only [st_s] <;> omega) | assumption | omega)) (show (τ51.1 4) = ca (σ.2.1 53) n1 from by (first | omega | (simp only [st_s] <;> omega) | assumption | omega)) (show j_e0 n1 (σ.2.1 53) (τ51.2.1 12) from by (first | assumption | (rw [g12_τ51]; assumption))) (show j_e0 n1 (σ.2.1 52) (τ51.2.1 9) from by (first | assumption | (rw [g9_τ51]; assumption))) (show oc (τ51.2.1 6) ≤ n1 from by (first | omega | (simp only [st_s] <;> omega) | assumption | omega)) (show j_l2 (τ51.2.1 6) n1 from by (first | assumption | (rw [g6_τ51]; assumption))) (show oc (τ51.2.1 7) ≤ (u7_371 + 1) from by (first | omega | (simp only [st_s] <;> omega) | assumption | omega))
  have l_347 : ∀ (m_347 : Nat) (u7_347 : Int) (τ_347 : S0), 1001 - u7_347 < (m_347 : Int) → (m_T τ_347) → (τ_347.2.1 14 = σ.2.1 14) → (τ_347.2.1 15 = σ.2.1 15) → (τ_347.2.1 18 = σ.2.1 18) → (τ_347.2.1 19 = σ.2.1 19) → (τ_347.2.1 21 = σ.2.1 21) → (τ_347.2.1 22 = σ.2.1 22) → (τ_347.2.1 25 = σ.2.1 25) → (τ_347.2.1 26 = σ.2.1 26) → (τ_347.2.1 51 = σ.2.1 51) → (τ_347.2.1 52 = σ.2.1 52) → (τ_347.2.1 53 = σ.2.1 53) → ((τ_347.1 3) = n1) → ((τ_347.1 5) = n2) → ((τ_347.1 12) ≤ n4) → ((τ_347.1 13) ≤ n5) → (n2 = 0 ∨ (τ_347.1 6) = σ.2.1 14 (n2 - 1) + σ.2.1 15 (n2 - 1)) → ((n2 = 0 ∨ (τ_347.1 7) = σ.2.1 18 (n2 - 1) + σ.2.1 19 (n2 - 1)) ∧ (τ_347.1 7) ≤ 60 * n2) → (n2 = 0 ∨ (τ_347.1 8) = σ.2.1 21 (n2 - 1) + σ.2.1 22 (n2 - 1)) → (n2 = 0 ∨ (τ_347.1 9) = σ.2.1 25 (n2 - 1) + σ.2.1 26 (n2 - 1)) → (0 ≤ u7_347 ∧ u7_347 ≤ n1) → ((τ_347.1 4) = ca (σ.2.1 53) n1) → (j_e0 n1 (σ.2.1 53) (τ_347.2.1 12)) → (j_e0 n1 (σ.2.1 52) (τ_347.2.1 9)) → (oc (τ_347.2.1 6) ≤ u7_347) → (j_l2 (τ_347.2.1 6) n1) → (oc (τ_347.2.1 7) = 0) → P347 u7_347 τ_347 := by
    intro m_347
    induction m_347 with
    | zero =>
      intro u7_347 τ_347 hm hT G14 G15 G18 G19 G21 G22 G25 G26 G51 G52 G53 i347_1 i347_2 i347_3 i347_4 i347_5 i347_6 i347_7 i347_8 i347_9 i347_10 i347_11 i347_12 i347_13 i347_14 i347_15
      have A6 : ∀ j, (-1) ≤ τ_347.2.1 6 j ∧ τ_347.2.1 6 j ≤ 999 := fun j => hT.2 6 j
      have A7 : ∀ j, (-1) ≤ τ_347.2.1 7 j ∧ τ_347.2.1 7 j ≤ 1499 := fun j => hT.2 7 j
      have A9 : ∀ j, 0 ≤ τ_347.2.1 9 j ∧ τ_347.2.1 9 j ≤ 1 := fun j => hT.2 9 j
      have A12 : ∀ j, 0 ≤ τ_347.2.1 12 j ∧ τ_347.2.1 12 j ≤ 1 := fun j => hT.2 12 j
      have A14 : ∀ j, 0 ≤ τ_347.2.1 14 j ∧ τ_347.2.1 14 j ≤ 30000 := fun j => hT.2 14 j
      have A15 : ∀ j, 0 ≤ τ_347.2.1 15 j ∧ τ_347.2.1 15 j ≤ 300 := fun j => hT.2 15 j
      have A18 : ∀ j, 0 ≤ τ_347.2.1 18 j ∧ τ_347.2.1 18 j ≤ 90000 := fun j => hT.2 18 j
      have A19 : ∀ j, 0 ≤ τ_347.2.1 19 j ∧ τ_347.2.1 19 j ≤ 60 := fun j => hT.2 19 j
      have A21 : ∀ j, 0 ≤ τ_347.2.1 21 j ∧ τ_347.2.1 21 j ≤ 20000 := fun j => hT.2 21 j
      have A22 : ∀ j, 0 ≤ τ_347.2.1 22 j ∧ τ_347.2.1 22 j ≤ 20000 := fun j => hT.2 22 j
      have A25 : ∀ j, 0 ≤ τ_347.2.1 25 j ∧ τ_347.2.1 25 j ≤ 20000 := fun j => hT.2 25 j
      have A26 : ∀ j, 0 ≤ τ_347.2.1 26 j ∧ τ_347.2.1 26 j ≤ 20000 := fun j => hT.2 26 j
      have A51 : ∀ j, 0 ≤ τ_347.2.1 51 j ∧ τ_347.2.1 51 j ≤ 1 := fun j => hT.2 51 j
      have A52 : ∀ j, 0 ≤ τ_347.2.1 52 j ∧ τ_347.2.1 52 j ≤ 1 := fun j => hT.2 52 j
      have A53 : ∀ j, 0 ≤ τ_347.2.1 53 j ∧ τ_347.2.1 53 j ≤ 1 := fun j => hT.2 53 j
      have v3 : 0 ≤ τ_347.1 3 ∧ τ_347.1 3 ≤ 1000 := hT.1 3
      have v4 : 0 ≤ τ_347.1 4 ∧ τ_347.1 4 ≤ 100 := hT.1 4
      have v5 : 0 ≤ τ_347.1 5 ∧ τ_347.1 5 ≤ 1500 := hT.1 5
      have v6 : 0 ≤ τ_347.1 6 ∧ τ_347.1 6 ≤ 30000 := hT.1 6
      have v7 : 0 ≤ τ_347.1 7 ∧ τ_347.1 7 ≤ 90000 := hT.1 7
      have v8 : 0 ≤ τ_347.1 8 ∧ τ_347.1 8 ≤ 20000 := hT.1 8
      have v9 : 0 ≤ τ_347.1 9 ∧ τ_347.1 9 ≤ 20000 := hT.1 9
      have v10 : (-1) ≤ τ_347.1 10 ∧ τ_347.1 10 ≤ 999 := hT.1 10
      have v11 : (-1) ≤ τ_347.1 11 ∧ τ_347.1 11 ≤ 999 := hT.1 11
      have v12 : 0 ≤ τ_347.1 12 ∧ τ_347.1 12 ≤ 1000 := hT.1 12
      have v13 : 0 ≤ τ_347.1 13 ∧ τ_347.1 13 ≤ 1500 := hT.1 13
      have v14 : 0 ≤ τ_347.1 14 ∧ τ_347.1 14 ≤ 1000 := hT.1 14
      exfalso; (first | omega | (simp only [st_s] <;> omega) | assumption | omega)
    | succ m_347 ih_347 =>
      intro u7_347 τ_347 hm_347 hT G14 G15 G18 G19 G21 G22 G25 G26 G51 G52 G53 i347_1 i347_2 i347_3 i347_4 i347_5 i347_6 i347_7 i347_8 i347_9 i347_10 i347_11 i347_12 i347_13 i347_14 i347_15
      have A6 : ∀ j, (-1) ≤ τ_347.2.1 6 j ∧ τ_347.2.1 6 j ≤ 999 := fun j => hT.2 6 j
      have A7 : ∀ j, (-1) ≤ τ_347.2.1 7 j ∧ τ_347.2.1 7 j ≤ 1499 := fun j => hT.2 7 j
      have A9 : ∀ j, 0 ≤ τ_347.2.1 9 j ∧ τ_347.2.1 9 j ≤ 1 := fun j => hT.2 9 j
      have A12 : ∀ j, 0 ≤ τ_347.2.1 12 j ∧ τ_347.2.1 12 j ≤ 1 := fun j => hT.2 12 j
      have A14 : ∀ j, 0 ≤ τ_347.2.1 14 j ∧ τ_347.2.1 14 j ≤ 30000 := fun j => hT.2 14 j
      have A15 : ∀ j, 0 ≤ τ_347.2.1 15 j ∧ τ_347.2.1 15 j ≤ 300 := fun j => hT.2 15 j
      have A18 : ∀ j, 0 ≤ τ_347.2.1 18 j ∧ τ_347.2.1 18 j ≤ 90000 := fun j => hT.2 18 j
      have A19 : ∀ j, 0 ≤ τ_347.2.1 19 j ∧ τ_347.2.1 19 j ≤ 60 := fun j => hT.2 19 j
      have A21 : ∀ j, 0 ≤ τ_347.2.1 21 j ∧ τ_347.2.1 21 j ≤ 20000 := fun j => hT.2 21 j
      have A22 : ∀ j, 0 ≤ τ_347.2.1 22 j ∧ τ_347.2.1 22 j ≤ 20000 := fun j => hT.2 22 j
      have A25 : ∀ j, 0 ≤ τ_347.2.1 25 j ∧ τ_347.2.1 25 j ≤ 20000 := fun j => hT.2 25 j
      have A26 : ∀ j, 0 ≤ τ_347.2.1 26 j ∧ τ_347.2.1 26 j ≤ 20000 := fun j => hT.2 26 j
      have A51 : ∀ j, 0 ≤ τ_347.2.1 51 j ∧ τ_347.2.1 51 j ≤ 1 := fun j => hT.2 51 j
      have A52 : ∀ j, 0 ≤ τ_347.2.1 52 j ∧ τ_347.2.1 52 j ≤ 1 := fun j => hT.2 52 j
      have A53 : ∀ j, 0 ≤ τ_347.2.1 53 j ∧ τ_347.2.1 53 j ≤ 1 := fun j => hT.2 53 j
      have v3 : 0 ≤ τ_347.1 3 ∧ τ_347.1 3 ≤ 1000 := hT.1 3
      have v4 : 0 ≤ τ_347.1 4 ∧ τ_347.1 4 ≤ 100 := hT.1 4
      have v5 : 0 ≤ τ_347.1 5 ∧ τ_347.1 5 ≤ 1500 := hT.1 5
      have v6 : 0 ≤ τ_347.1 6 ∧ τ_347.1 6 ≤ 30000 := hT.1 6
      have v7 : 0 ≤ τ_347.1 7 ∧ τ_347.1 7 ≤ 90000 := hT.1 7
      have v8 : 0 ≤ τ_347.1 8 ∧ τ_347.1 8 ≤ 20000 := hT.1 8
      have v9 : 0 ≤ τ_347.1 9 ∧ τ_347.1 9 ≤ 20000 := hT.1 9
      have v10 : (-1) ≤ τ_347.1 10 ∧ τ_347.1 10 ≤ 999 := hT.1 10
      have v11 : (-1) ≤ τ_347.1 11 ∧ τ_347.1 11 ≤ 999 := hT.1 11
      have v12 : 0 ≤ τ_347.1 12 ∧ τ_347.1 12 ≤ 1000 := hT.1 12
      have v13 : 0 ≤ τ_347.1 13 ∧ τ_347.1 13 ≤ 1500 := hT.1 13
      have v14 : 0 ≤ τ_347.1 14 ∧ τ_347.1 14 ≤ 1000 := hT.1 14
      refine h347 u7_347 τ_347 ?_
      refine ⟨fun c43 => ?_, fun c43 => ?_⟩
      ·
        exact l_371 ((1501 - 0 : Int).toNat + 1) _ _ (show (1501 - 0 : Int) < (((1501 - 0 : Int).toNat + 1 : Nat) : Int) from by ((first | omega | (simp only [st_s] <;> omega) | assumption | omega))) hT G14 G15 G18 G19 G21 G22 G25 G26 G51 G52 G53 (show (τ_347.1 3) = n1 from by (first | omega | (simp only [st_s] <;> omega) | assumption | omega)) (show (τ_347.1 5) = n2 from by (first | omega | (simp only [st_s] <;> omega) | assumption | omega)) (show (τ_347.1 12) ≤ n4 from by (first | omega | (simp only [st_s] <;> omega) | assumption | omega)) (show (τ_347.1 13) ≤ n5 from by (first | omega | (simp only [st_s] <;> omega) | assumption | omega)) (show (n2 = 0 ∨ (τ_347.1 6) = σ.2.1 14 (n2 - 1) + σ.2.1 15 (n2 - 1)) from by (first | omega | (simp only [st_s] <;> omega) | assumption | omega)) (show (n2 = 0 ∨ (τ_347.1 7) = σ.2.1 18 (n2 - 1) + σ.2.1 19 (n2 - 1)) ∧ (τ_347.1 7) ≤ 60 * n2 from by (first | omega | (simp only [st_s] <;> omega) | assumption | omega)) (show (n2 = 0 ∨ (τ_347.1 8) = σ.2.1 21 (n2 - 1) + σ.2.1 22 (n2 - 1)) from by (first | omega | (simp only [st_s] <;> omega) | assumption | omega)) (show (n2 = 0 ∨ (τ_347.1 9) = σ.2.1 25 (n2 - 1) + σ.2.1 26 (n2 - 1)) from by (first | omega | (simp only [st_s] <;> omega) | assumption | omega)) (show 0 ≤ 0 ∧ 0 ≤ n2 from by (first | omega | (simp only [st_s] <;> omega) | assumption | omega)) (show (τ_347.1 4) = ca (σ.2.1 53) n1 from by (first | omega | (simp only [st_s] <;> omega) | assumption | omega)) (show j_e0 n1 (σ.2.1 53) (τ_347.2.1 12) from by (first | assumption | (rw [g12_τ51]; assumption))) (show j_e0 n1 (σ.2.1 52) (τ_347.2.1 9) from by (first | assumption | (rw [g9_τ51]; assumption))) (show oc (τ_347.2.1 6) ≤ n1 from by (first | omega | (simp only [st_s] <;> omega) | assumption | omega)) (show j_l2 (τ_347.2.1 6) n1 from by (first | assumption | (rw [g6_τ51]; assumption))) (show oc (τ_347.2.1 7) ≤ 0 from by (first | omega | (simp only [st_s] <;> omega) | assumption | omega))
      ·
        refine ⟨_, K_X13_keepSymbol hT (show 0 ≤ u7_347 from by (first | omega | (simp only [st_s] <;> omega) | assumption | omega)) (show u7_347 < 1000 from by (first | omega | (simp only [st_s] <;> omega) | assumption | omega)) (show oc (τ_347.2.1 6) < 4096 from by (first | omega | (simp only [st_s] <;> omega) | assumption | omega)), ?_⟩
        intro τ46 hn_τ46 hf_τ46 hq
        obtain ⟨hT, q44_1, q44_2⟩ := hq
        replace q44_1 : oc (τ46.2.1 6) ≤ oc (τ_347.2.1 6) + 1 := q44_1
        replace q44_2 : ∃ e : Int, τ46.2.1 6 = st (τ_347.2.1 6) e u7_347 := q44_2
        have w3_τ46 : τ46.1 3 = τ_347.1 3 := hf_τ46.1 3 (by decide)
        have w4_τ46 : τ46.1 4 = τ_347.1 4 := hf_τ46.1 4 (by decide)
        have w5_τ46 : τ46.1 5 = τ_347.1 5 := hf_τ46.1 5 (by decide)
        have w6_τ46 : τ46.1 6 = τ_347.1 6 := hf_τ46.1 6 (by decide)
        have w7_τ46 : τ46.1 7 = τ_347.1 7 := hf_τ46.1 7 (by decide)
        have w8_τ46 : τ46.1 8 = τ_347.1 8 := hf_τ46.1 8 (by decide)
        have w9_τ46 : τ46.1 9 = τ_347.1 9 := hf_τ46.1 9 (by decide)
        have w10_τ46 : τ46.1 10 = τ_347.1 10 := hf_τ46.1 10 (by decide)
        have w11_τ46 : τ46.1 11 = τ_347.1 11 := hf_τ46.1 11 (by decide)
        have w12_τ46 : τ46.1 12 = τ_347.1 12 := hf_τ46.1 12 (by decide)
        have w13_τ46 : τ46.1 13 = τ_347.1 13 := hf_τ46.1 13 (by decide)
        have w14_τ46 : τ46.1 14 = τ_347.1 14 := hf_τ46.1 14 (by decide)
        have g7_τ46 : τ46.2.1 7 = τ_347.2.1 7 := hf_τ46.2.1 7 (by decide)
        have g9_τ46 : τ46.2.1 9 = τ_347.2.1 9 := hf_τ46.2.1 9 (by decide)
        have g12_τ46 : τ46.2.1 12 = τ_347.2.1 12 := hf_τ46.2.1 12 (by decide)
        have g14_τ46 : τ46.2.1 14 = τ_347.2.1 14 := hf_τ46.2.1 14 (by decide)
        have g15_τ46 : τ46.2.1 15 = τ_347.2.1 15 := hf_τ46.2.1 15 (by decide)
        have g18_τ46 : τ46.2.1 18 = τ_347.2.1 18 := hf_τ46.2.1 18 (by decide)
        have g19_τ46 : τ46.2.1 19 = τ_347.2.1 19 := hf_τ46.2.1 19 (by decide)
        have g21_τ46 : τ46.2.1 21 = τ_347.2.1 21 := hf_τ46.2.1 21 (by decide)
        have g22_τ46 : τ46.2.1 22 = τ_347.2.1 22 := hf_τ46.2.1 22 (by decide)
        have g25_τ46 : τ46.2.1 25 = τ_347.2.1 25 := hf_τ46.2.1 25 (by decide)
        have g26_τ46 : τ46.2.1 26 = τ_347.2.1 26 := hf_τ46.2.1 26 (by decide)
        have g51_τ46 : τ46.2.1 51 = τ_347.2.1 51 := hf_τ46.2.1 51 (by decide)
        have g52_τ46 : τ46.2.1 52 = τ_347.2.1 52 := hf_τ46.2.1 52 (by decide)
        have g53_τ46 : τ46.2.1 53 = τ_347.2.1 53 := hf_τ46.2.1 53 (by decide)
        first | (have ca_τ46 := congr (congrArg ca g9_τ46) w3_τ46) | skip
        first | (have o6_τ46 := congrArg oc g6_τ46) | skip
        first | (have o7_τ46 := congrArg oc g7_τ46) | skip
        have G14 : τ46.2.1 14 = σ.2.1 14 := (g14_τ46).trans G14
        have G15 : τ46.2.1 15 = σ.2.1 15 := (g15_τ46).trans G15
        have G18 : τ46.2.1 18 = σ.2.1 18 := (g18_τ46).trans G18
        have G19 : τ46.2.1 19 = σ.2.1 19 := (g19_τ46).trans G19
        have G21 : τ46.2.1 21 = σ.2.1 21 := (g21_τ46).trans G21
        have G22 : τ46.2.1 22 = σ.2.1 22 := (g22_τ46).trans G22
        have G25 : τ46.2.1 25 = σ.2.1 25 := (g25_τ46).trans G25
        have G26 : τ46.2.1 26 = σ.2.1 26 := (g26_τ46).trans G26
        have G51 : τ46.2.1 51 = σ.2.1 51 := (g51_τ46).trans G51
        have G52 : τ46.2.1 52 = σ.2.1 52 := (g52_τ46).trans G52
        have G53 : τ46.2.1 53 = σ.2.1 53 := (g53_τ46).trans G53
        have A6 : ∀ j, (-1) ≤ τ46.2.1 6 j ∧ τ46.2.1 6 j ≤ 999 := fun j => hT.2 6 j
        have A7 : ∀ j, (-1) ≤ τ46.2.1 7 j ∧ τ46.2.1 7 j ≤ 1499 := fun j => hT.2 7 j
        have A9 : ∀ j, 0 ≤ τ46.2.1 9 j ∧ τ46.2.1 9 j ≤ 1 := fun j => hT.2 9 j
        have A12 : ∀ j, 0 ≤ τ46.2.1 12 j ∧ τ46.2.1 12 j ≤ 1 := fun j => hT.2 12 j
        have A14 : ∀ j, 0 ≤ τ46.2.1 14 j ∧ τ46.2.1 14 j ≤ 30000 := fun j => hT.2 14 j
        have A15 : ∀ j, 0 ≤ τ46.2.1 15 j ∧ τ46.2.1 15 j ≤ 300 := fun j => hT.2 15 j
        have A18 : ∀ j, 0 ≤ τ46.2.1 18 j ∧ τ46.2.1 18 j ≤ 90000 := fun j => hT.2 18 j
        have A19 : ∀ j, 0 ≤ τ46.2.1 19 j ∧ τ46.2.1 19 j ≤ 60 := fun j => hT.2 19 j
        have A21 : ∀ j, 0 ≤ τ46.2.1 21 j ∧ τ46.2.1 21 j ≤ 20000 := fun j => hT.2 21 j
        have A22 : ∀ j, 0 ≤ τ46.2.1 22 j ∧ τ46.2.1 22 j ≤ 20000 := fun j => hT.2 22 j
        have A25 : ∀ j, 0 ≤ τ46.2.1 25 j ∧ τ46.2.1 25 j ≤ 20000 := fun j => hT.2 25 j
        have A26 : ∀ j, 0 ≤ τ46.2.1 26 j ∧ τ46.2.1 26 j ≤ 20000 := fun j => hT.2 26 j
        have A51 : ∀ j, 0 ≤ τ46.2.1 51 j ∧ τ46.2.1 51 j ≤ 1 := fun j => hT.2 51 j
        have A52 : ∀ j, 0 ≤ τ46.2.1 52 j ∧ τ46.2.1 52 j ≤ 1 := fun j => hT.2 52 j
        have A53 : ∀ j, 0 ≤ τ46.2.1 53 j ∧ τ46.2.1 53 j ≤ 1 := fun j => hT.2 53 j
        have v3 : 0 ≤ τ46.1 3 ∧ τ46.1 3 ≤ 1000 := hT.1 3
        have v4 : 0 ≤ τ46.1 4 ∧ τ46.1 4 ≤ 100 := hT.1 4
        have v5 : 0 ≤ τ46.1 5 ∧ τ46.1 5 ≤ 1500 := hT.1 5
        have v6 : 0 ≤ τ46.1 6 ∧ τ46.1 6 ≤ 30000 := hT.1 6
        have v7 : 0 ≤ τ46.1 7 ∧ τ46.1 7 ≤ 90000 := hT.1 7
        have v8 : 0 ≤ τ46.1 8 ∧ τ46.1 8 ≤ 20000 := hT.1 8
        have v9 : 0 ≤ τ46.1 9 ∧ τ46.1 9 ≤ 20000 := hT.1 9
        have v10 : (-1) ≤ τ46.1 10 ∧ τ46.1 10 ≤ 999 := hT.1 10
        have v11 : (-1) ≤ τ46.1 11 ∧ τ46.1 11 ≤ 999 := hT.1 11
        have v12 : 0 ≤ τ46.1 12 ∧ τ46.1 12 ≤ 1000 := hT.1 12
        have v13 : 0 ≤ τ46.1 13 ∧ τ46.1 13 ≤ 1500 := hT.1 13
        have v14 : 0 ≤ τ46.1 14 ∧ τ46.1 14 ≤ 1000 := hT.1 14
        refine ⟨(⟨by (first | omega | (simp only [st_s] <;> omega) | assumption | omega), by (first | omega | (simp only [st_s] <;> omega) | assumption | omega)⟩ : rg (u7_347 + 1)), ?_⟩
        exact ih_347 _ _ (show (1001 - (u7_347 + 1) : Int) < ((m_347 : Nat) : Int) from by ((first | omega | (simp only [st_s] <;> omega) | assumption | omega))) hT G14 G15 G18 G19 G21 G22 G25 G26 G51 G52 G53 (show (τ46.1 3) = n1 from by (first | omega | (simp only [st_s] <;> omega) | assumption | omega)) (show (τ46.1 5) = n2 from by (first | omega | (simp only [st_s] <;> omega) | assumption | omega)) (show (τ46.1 12) ≤ n4 from by (first | omega | (simp only [st_s] <;> omega) | assumption | omega)) (show (τ46.1 13) ≤ n5 from by (first | omega | (simp only [st_s] <;> omega) | assumption | omega)) (show (n2 = 0 ∨ (τ46.1 6) = σ.2.1 14 (n2 - 1) + σ.2.1 15 (n2 - 1)) from by (first | omega | (simp only [st_s] <;> omega) | assumption | omega)) (show (n2 = 0 ∨ (τ46.1 7) = σ.2.1 18 (n2 - 1) + σ.2.1 19 (n2 - 1)) ∧ (τ46.1 7) ≤ 60 * n2 from by (first | omega | (simp only [st_s] <;> omega) | assumption | omega)) (show (n2 = 0 ∨ (τ46.1 8) = σ.2.1 21 (n2 - 1) + σ.2.1 22 (n2 - 1)) from by (first | omega | (simp only [st_s] <;> omega) | assumption | omega)) (show (n2 = 0 ∨ (τ46.1 9) = σ.2.1 25 (n2 - 1) + σ.2.1 26 (n2 - 1)) from by (first | omega | (simp only [st_s] <;> omega) | assumption | omega)) (show 0 ≤ (u7_347 + 1) ∧ (u7_347 + 1) ≤ n1 from by (first | omega | (simp only [st_s] <;> omega) | assumption | omega)) (show (τ46.1 4) = ca (σ.2.1 53) n1 from by (first | omega | (rw [show n1 = u7_185 from by omega]; omega))) (show j_e0 n1 (σ.2.1 53) (τ46.2.1 12) from by (first | (rw [g12_τ46]; assumption) | (rw [g12_τ42, g12_τ_337]; exact j_e0w i185_11 (by omega)))) (show j_e0 n1 (σ.2.1 52) (τ46.2.1 9) from by (first | (rw [g9_τ46]; assumption) | (rw [g9_τ42, g9_τ_337]; exact j_e0w i185_12 (by omega)))) (show oc (τ46.2.1 6) ≤ (u7_347 + 1) from by (first | omega | (have := oc_0 q40_1; omega))) (show j_l2 (τ46.2.1 6) n1 from by (first | (have q9 := q44_2; obtain ⟨e, he⟩ := q9; rw [he]; exact j_l2s i347_14 (Int.le_refl _) (by omega)) | (intro e h0 h1; rw [q40_1 e h0 h1]; omega))) (show oc (τ46.2.1 7) = 0 from by (first | omega | exact oc_0 q40_2))
  have l_185 : ∀ (m_185 : Nat) (u7_185 : Int) (τ_185 : S0), 1001 - u7_185 < (m_185 : Int) → (m_T τ_185) → (τ_185.2.1 14 = σ.2.1 14) → (τ_185.2.1 15 = σ.2.1 15) → (τ_185.2.1 18 = σ.2.1 18) → (τ_185.2.1 19 = σ.2.1 19) → (τ_185.2.1 21 = σ.2.1 21) → (τ_185.2.1 22 = σ.2.1 22) → (τ_185.2.1 25 = σ.2.1 25) → (τ_185.2.1 26 = σ.2.1 26) → (τ_185.2.1 51 = σ.2.1 51) → (τ_185.2.1 52 = σ.2.1 52) → (τ_185.2.1 53 = σ.2.1 53) → ((τ_185.1 3) = n1) → ((τ_185.1 5) = n2) → ((τ_185.1 12) ≤ n4) → ((τ_185.1 13) ≤ n5) → (n2 = 0 ∨ (τ_185.1 6) = σ.2.1 14 (n2 - 1) + σ.2.1 15 (n2 - 1)) → ((n2 = 0 ∨ (τ_185.1 7) = σ.2.1 18 (n2 - 1) + σ.2.1 19 (n2 - 1)) ∧ (τ_185.1 7) ≤ 60 * n2) → (n2 = 0 ∨ (τ_185.1 8) = σ.2.1 21 (n2 - 1) + σ.2.1 22 (n2 - 1)) → (n2 = 0 ∨ (τ_185.1 9) = σ.2.1 25 (n2 - 1) + σ.2.1 26 (n2 - 1)) → (0 ≤ u7_185 ∧ u7_185 ≤ n1) → ((τ_185.1 4) = ca (σ.2.1 53) u7_185) → (j_e0 u7_185 (σ.2.1 53) (τ_185.2.1 12)) → (j_e0 u7_185 (σ.2.1 52) (τ_185.2.1 9)) → P185 u7_185 τ_185 := by
    intro m_185
    induction m_185 with
    | zero =>
      intro u7_185 τ_185 hm hT G14 G15 G18 G19 G21 G22 G25 G26 G51 G52 G53 i185_1 i185_2 i185_3 i185_4 i185_5 i185_6 i185_7 i185_8 i185_9 i185_10 i185_11 i185_12
      have A6 : ∀ j, (-1) ≤ τ_185.2.1 6 j ∧ τ_185.2.1 6 j ≤ 999 := fun j => hT.2 6 j
      have A7 : ∀ j, (-1) ≤ τ_185.2.1 7 j ∧ τ_185.2.1 7 j ≤ 1499 := fun j => hT.2 7 j
      have A9 : ∀ j, 0 ≤ τ_185.2.1 9 j ∧ τ_185.2.1 9 j ≤ 1 := fun j => hT.2 9 j
      have A12 : ∀ j, 0 ≤ τ_185.2.1 12 j ∧ τ_185.2.1 12 j ≤ 1 := fun j => hT.2 12 j
      have A14 : ∀ j, 0 ≤ τ_185.2.1 14 j ∧ τ_185.2.1 14 j ≤ 30000 := fun j => hT.2 14 j
      have A15 : ∀ j, 0 ≤ τ_185.2.1 15 j ∧ τ_185.2.1 15 j ≤ 300 := fun j => hT.2 15 j
      have A18 : ∀ j, 0 ≤ τ_185.2.1 18 j ∧ τ_185.2.1 18 j ≤ 90000 := fun j => hT.2 18 j
      have A19 : ∀ j, 0 ≤ τ_185.2.1 19 j ∧ τ_185.2.1 19 j ≤ 60 := fun j => hT.2 19 j
      have A21 : ∀ j, 0 ≤ τ_185.2.1 21 j ∧ τ_185.2.1 21 j ≤ 20000 := fun j => hT.2 21 j
      have A22 : ∀ j, 0 ≤ τ_185.2.1 22 j ∧ τ_185.2.1 22 j ≤ 20000 := fun j => hT.2 22 j
      have A25 : ∀ j, 0 ≤ τ_185.2.1 25 j ∧ τ_185.2.1 25 j ≤ 20000 := fun j => hT.2 25 j
      have A26 : ∀ j, 0 ≤ τ_185.2.1 26 j ∧ τ_185.2.1 26 j ≤ 20000 := fun j => hT.2 26 j
      have A51 : ∀ j, 0 ≤ τ_185.2.1 51 j ∧ τ_185.2.1 51 j ≤ 1 := fun j => hT.2 51 j
      have A52 : ∀ j, 0 ≤ τ_185.2.1 52 j ∧ τ_185.2.1 52 j ≤ 1 := fun j => hT.2 52 j
      have A53 : ∀ j, 0 ≤ τ_185.2.1 53 j ∧ τ_185.2.1 53 j ≤ 1 := fun j => hT.2 53 j
      have v3 : 0 ≤ τ_185.1 3 ∧ τ_185.1 3 ≤ 1000 := hT.1 3
      have v4 : 0 ≤ τ_185.1 4 ∧ τ_185.1 4 ≤ 100 := hT.1 4
      have v5 : 0 ≤ τ_185.1 5 ∧ τ_185.1 5 ≤ 1500 := hT.1 5
      have v6 : 0 ≤ τ_185.1 6 ∧ τ_185.1 6 ≤ 30000 := hT.1 6
      have v7 : 0 ≤ τ_185.1 7 ∧ τ_185.1 7 ≤ 90000 := hT.1 7
      have v8 : 0 ≤ τ_185.1 8 ∧ τ_185.1 8 ≤ 20000 := hT.1 8
      have v9 : 0 ≤ τ_185.1 9 ∧ τ_185.1 9 ≤ 20000 := hT.1 9
      have v10 : (-1) ≤ τ_185.1 10 ∧ τ_185.1 10 ≤ 999 := hT.1 10
      have v11 : (-1) ≤ τ_185.1 11 ∧ τ_185.1 11 ≤ 999 := hT.1 11
      have v12 : 0 ≤ τ_185.1 12 ∧ τ_185.1 12 ≤ 1000 := hT.1 12
      have v13 : 0 ≤ τ_185.1 13 ∧ τ_185.1 13 ≤ 1500 := hT.1 13
      have v14 : 0 ≤ τ_185.1 14 ∧ τ_185.1 14 ≤ 1000 := hT.1 14
      exfalso; (first | omega | (simp only [st_s] <;> omega) | assumption | omega)
    | succ m_185 ih_185 =>
      intro u7_185 τ_185 hm_185 hT G14 G15 G18 G19 G21 G22 G25 G26 G51 G52 G53 i185_1 i185_2 i185_3 i185_4 i185_5 i185_6 i185_7 i185_8 i185_9 i185_10 i185_11 i185_12
      have A6 : ∀ j, (-1) ≤ τ_185.2.1 6 j ∧ τ_185.2.1 6 j ≤ 999 := fun j => hT.2 6 j
      have A7 : ∀ j, (-1) ≤ τ_185.2.1 7 j ∧ τ_185.2.1 7 j ≤ 1499 := fun j => hT.2 7 j
      have A9 : ∀ j, 0 ≤ τ_185.2.1 9 j ∧ τ_185.2.1 9 j ≤ 1 := fun j => hT.2 9 j
      have A12 : ∀ j, 0 ≤ τ_185.2.1 12 j ∧ τ_185.2.1 12 j ≤ 1 := fun j => hT.2 12 j
      have A14 : ∀ j, 0 ≤ τ_185.2.1 14 j ∧ τ_185.2.1 14 j ≤ 30000 := fun j => hT.2 14 j
      have A15 : ∀ j, 0 ≤ τ_185.2.1 15 j ∧ τ_185.2.1 15 j ≤ 300 := fun j => hT.2 15 j
      have A18 : ∀ j, 0 ≤ τ_185.2.1 18 j ∧ τ_185.2.1 18 j ≤ 90000 := fun j => hT.2 18 j
      have A19 : ∀ j, 0 ≤ τ_185.2.1 19 j ∧ τ_185.2.1 19 j ≤ 60 := fun j => hT.2 19 j
      have A21 : ∀ j, 0 ≤ τ_185.2.1 21 j ∧ τ_185.2.1 21 j ≤ 20000 := fun j => hT.2 21 j
      have A22 : ∀ j, 0 ≤ τ_185.2.1 22 j ∧ τ_185.2.1 22 j ≤ 20000 := fun j => hT.2 22 j
      have A25 : ∀ j, 0 ≤ τ_185.2.1 25 j ∧ τ_185.2.1 25 j ≤ 20000 := fun j => hT.2 25 j
      have A26 : ∀ j, 0 ≤ τ_185.2.1 26 j ∧ τ_185.2.1 26 j ≤ 20000 := fun j => hT.2 26 j
      have A51 : ∀ j, 0 ≤ τ_185.2.1 51 j ∧ τ_185.2.1 51 j ≤ 1 := fun j => hT.2 51 j
      have A52 : ∀ j, 0 ≤ τ_185.2.1 52 j ∧ τ_185.2.1 52 j ≤ 1 := fun j => hT.2 52 j
      have A53 : ∀ j, 0 ≤ τ_185.2.1 53 j ∧ τ_185.2.1 53 j ≤ 1 := fun j => hT.2 53 j
      have v3 : 0 ≤ τ_185.1 3 ∧ τ_185.1 3 ≤ 1000 := hT.1 3
      have v4 : 0 ≤ τ_185.1 4 ∧ τ_185.1 4 ≤ 100 := hT.1 4
      have v5 : 0 ≤ τ_185.1 5 ∧ τ_185.1 5 ≤ 1500 := hT.1 5
      have v6 : 0 ≤ τ_185.1 6 ∧ τ_185.1 6 ≤ 30000 := hT.1 6
      have v7 : 0 ≤ τ_185.1 7 ∧ τ_185.1 7 ≤ 90000 := hT.1 7
      have v8 : 0 ≤ τ_185.1 8 ∧ τ_185.1 8 ≤ 20000 := hT.1 8
      have v9 : 0 ≤ τ_185.1 9 ∧ τ_185.1 9 ≤ 20000 := hT.1 9
      have v10 : (-1) ≤ τ_185.1 10 ∧ τ_185.1 10 ≤ 999 := hT.1 10
      have v11 : (-1) ≤ τ_185.1 11 ∧ τ_185.1 11 ≤ 999 := hT.1 11
      have v12 : 0 ≤ τ_185.1 12 ∧ τ_185.1 12 ≤ 1000 := hT.1 12
      have v13 : 0 ≤ τ_185.1 13 ∧ τ_185.1 13 ≤ 1500 := hT.1 13
      have v14 : 0 ≤ τ_185.1 14 ∧ τ_185.1 14 ≤ 1000 := hT.1 14
      have l_284 : ∀ (u7_284 : Int) (k1_284 : Int) (k2_284 : Int) (τ_284 : S0), (m_T τ_284) → (τ_284.2.1 14 = σ.2.1 14) → (τ_284.2.1 15 = σ.2.1 15) → (τ_284.2.1 18 = σ.2.1 18) → (τ_284.2.1 19 = σ.2.1 19) → (τ_284.2.1 21 = σ.2.1 21) → (τ_284.2.1 22 = σ.2.1 22) → (τ_284.2.1 25 = σ.2.1 25) → (τ_284.2.1 26 = σ.2.1 26) → (τ_284.2.1 51 = σ.2.1 51) → (τ_284.2.1 52 = σ.2.1 52) → (τ_284.2.1 53 = σ.2.1 53) → ((τ_284.1 3) = n1) → ((τ_284.1 5) = n2) → ((τ_284.1 12) ≤ n4) → ((τ_284.1 13) ≤ n5) → (n2 = 0 ∨ (τ_284.1 6) = σ.2.1 14 (n2 - 1) + σ.2.1 15 (n2 - 1)) → ((n2 = 0 ∨ (τ_284.1 7) = σ.2.1 18 (n2 - 1) + σ.2.1 19 (n2 - 1)) ∧ (τ_284.1 7) ≤ 60 * n2) → (n2 = 0 ∨ (τ_284.1 8) = σ.2.1 21 (n2 - 1) + σ.2.1 22 (n2 - 1)) → (n2 = 0 ∨ (τ_284.1 9) = σ.2.1 25 (n2 - 1) + σ.2.1 26 (n2 - 1)) → (0 ≤ u7_284 ∧ u7_284 < n1) → ((σ.2.1 53 u7_284 = 0 ∧ k2_284 = 0) ∨ (¬ σ.2.1 53 u7_284 = 0 ∧ k2_284 = 1)) → (k1_284 = ca (σ.2.1 53) u7_284) → ((τ_284.1 4) = ca (σ.2.1 53) u7_284) → (j_e0 (u7_284 + 1) (σ.2.1 53) (τ_284.2.1 12)) → (j_e0 (u7_284 + 1) (σ.2.1 52) (τ_284.2.1 9)) → (u7_284 + (m_185 : Int) ≥ 1001) → P284 u7_284 k1_284 k2_284 τ_284 := by
        intro u7_284 k1_284 k2_284 τ_284 hT G14 G15 G18 G19 G21 G22 G25 G26 G51 G52 G53 i284_1 i284_2 i284_3 i284_4 i284_5 i284_6 i284_7 i284_8 i284_9 i284_10 i284_11 i284_12 i284_13 i284_14 i284_15
        have A6 : ∀ j, (-1) ≤ τ_284.2.1 6 j ∧ τ_284.2.1 6 j ≤ 999 := fun j => hT.2 6 j
        have A7 : ∀ j, (-1) ≤ τ_284.2.1 7 j ∧ τ_284.2.1 7 j ≤ 1499 := fun j => hT.2 7 j
        have A9 : ∀ j, 0 ≤ τ_284.2.1 9 j ∧ τ_284.2.1 9 j ≤ 1 := fun j => hT.2 9 j
        have A12 : ∀ j, 0 ≤ τ_284.2.1 12 j ∧ τ_284.2.1 12 j ≤ 1 := fun j => hT.2 12 j
        have A14 : ∀ j, 0 ≤ τ_284.2.1 14 j ∧ τ_284.2.1 14 j ≤ 30000 := fun j => hT.2 14 j
        have A15 : ∀ j, 0 ≤ τ_284.2.1 15 j ∧ τ_284.2.1 15 j ≤ 300 := fun j => hT.2 15 j
        have A18 : ∀ j, 0 ≤ τ_284.2.1 18 j ∧ τ_284.2.1 18 j ≤ 90000 := fun j => hT.2 18 j
        have A19 : ∀ j, 0 ≤ τ_284.2.1 19 j ∧ τ_284.2.1 19 j ≤ 60 := fun j => hT.2 19 j
        have A21 : ∀ j, 0 ≤ τ_284.2.1 21 j ∧ τ_284.2.1 21 j ≤ 20000 := fun j => hT.2 21 j
        have A22 : ∀ j, 0 ≤ τ_284.2.1 22 j ∧ τ_284.2.1 22 j ≤ 20000 := fun j => hT.2 22 j
        have A25 : ∀ j, 0 ≤ τ_284.2.1 25 j ∧ τ_284.2.1 25 j ≤ 20000 := fun j => hT.2 25 j
        have A26 : ∀ j, 0 ≤ τ_284.2.1 26 j ∧ τ_284.2.1 26 j ≤ 20000 := fun j => hT.2 26 j
        have A51 : ∀ j, 0 ≤ τ_284.2.1 51 j ∧ τ_284.2.1 51 j ≤ 1 := fun j => hT.2 51 j
        have A52 : ∀ j, 0 ≤ τ_284.2.1 52 j ∧ τ_284.2.1 52 j ≤ 1 := fun j => hT.2 52 j
        have A53 : ∀ j, 0 ≤ τ_284.2.1 53 j ∧ τ_284.2.1 53 j ≤ 1 := fun j => hT.2 53 j
        have v3 : 0 ≤ τ_284.1 3 ∧ τ_284.1 3 ≤ 1000 := hT.1 3
        have v4 : 0 ≤ τ_284.1 4 ∧ τ_284.1 4 ≤ 100 := hT.1 4
        have v5 : 0 ≤ τ_284.1 5 ∧ τ_284.1 5 ≤ 1500 := hT.1 5
        have v6 : 0 ≤ τ_284.1 6 ∧ τ_284.1 6 ≤ 30000 := hT.1 6
        have v7 : 0 ≤ τ_284.1 7 ∧ τ_284.1 7 ≤ 90000 := hT.1 7
        have v8 : 0 ≤ τ_284.1 8 ∧ τ_284.1 8 ≤ 20000 := hT.1 8
        have v9 : 0 ≤ τ_284.1 9 ∧ τ_284.1 9 ≤ 20000 := hT.1 9
        have v10 : (-1) ≤ τ_284.1 10 ∧ τ_284.1 10 ≤ 999 := hT.1 10
        have v11 : (-1) ≤ τ_284.1 11 ∧ τ_284.1 11 ≤ 999 := hT.1 11
        have v12 : 0 ≤ τ_284.1 12 ∧ τ_284.1 12 ≤ 1000 := hT.1 12
        have v13 : 0 ≤ τ_284.1 13 ∧ τ_284.1 13 ≤ 1500 := hT.1 13
        have v14 : 0 ≤ τ_284.1 14 ∧ τ_284.1 14 ≤ 1000 := hT.1 14
        have cu := ca_u (σ.2.1 53) (n := u7_284) (by omega)
        have cm := ca_m (σ.2.1 53) (n := u7_284 + 1) (m := n1) (by omega) (by omega)
        refine h284 u7_284 k1_284 k2_284 τ_284 ?_
        refine ⟨(⟨by (first | omega | (simp only [st_s] <;> omega) | assumption | omega), by (first | omega | (simp only [st_s] <;> omega) | assumption | omega)⟩ : rg (k1_284 + k2_284)), ?_⟩
        replace hT := mT_v (i := 4) hT (show 0 ≤ (k1_284 + k2_284) ∧ (k1_284 + k2_284) ≤ 100 from by (first | omega | (simp only [st_s] <;> omega) | assumption | omega))
        refine ⟨(⟨by (first | omega | (simp only [st_s] <;> omega) | assumption | omega), by (first | omega | (simp only [st_s] <;> omega) | assumption | omega)⟩ : rg (u7_284 + 1)), ?_⟩
        exact ih_185 _ _ (show (1001 - (u7_284 + 1) : Int) < ((m_185 : Nat) : Int) from by ((first | omega | (simp only [st_s] <;> omega) | assumption | omega))) hT G14 G15 G18 G19 G21 G22 G25 G26 G51 G52 G53 (show (τ_284.1 3) = n1 from by (first | omega | (simp only [st_s] <;> omega) | assumption | omega)) (show (τ_284.1 5) = n2 from by (first | omega | (simp only [st_s] <;> omega) | assumption | omega)) (show (τ_284.1 12) ≤ n4 from by (first | omega | (simp only [st_s] <;> omega) | assumption | omega)) (show (τ_284.1 13) ≤ n5 from by (first | omega | (simp only [st_s] <;> omega) | assumption | omega)) (show (n2 = 0 ∨ (τ_284.1 6) = σ.2.1 14 (n2 - 1) + σ.2.1 15 (n2 - 1)) from by (first | omega | (simp only [st_s] <;> omega) | assumption | omega)) (show (n2 = 0 ∨ (τ_284.1 7) = σ.2.1 18 (n2 - 1) + σ.2.1 19 (n2 - 1)) ∧ (τ_284.1 7) ≤ 60 * n2 from by (first | omega | (simp only [st_s] <;> omega) | assumption | omega)) (show (n2 = 0 ∨ (τ_284.1 8) = σ.2.1 21 (n2 - 1) + σ.2.1 22 (n2 - 1)) from by (first | omega | (simp only [st_s] <;> omega) | assumption | omega)) (show (n2 = 0 ∨ (τ_284.1 9) = σ.2.1 25 (n2 - 1) + σ.2.1 26 (n2 - 1)) from by (first | omega | (simp only [st_s] <;> omega) | assumption | omega)) (show 0 ≤ (u7_284 + 1) ∧ (u7_284 + 1) ≤ n1 from by (first | omega | (simp only [st_s] <;> omega) | assumption | omega)) (show ((k1_284 + k2_284)) = ca (σ.2.1 53) (u7_284 + 1) from by (first | rfl | omega)) (show j_e0 (u7_284 + 1) (σ.2.1 53) (τ_284.2.1 12) from by (first | assumption | (intro j h0 h1; exfalso; omega))) (show j_e0 (u7_284 + 1) (σ.2.1 52) (τ_284.2.1 9) from by (first | assumption | (intro j h0 h1; exfalso; omega)))
      refine h185 u7_185 τ_185 ?_
      refine ⟨fun c24 => ?_, fun c24 => ?_⟩
      ·
        refine ⟨fun c25 => ?_, fun c25 => ?_⟩
        ·
          refine h314 _ _ ?_
          replace hT := mT_v (i := 10) hT (show (-1) ≤ (τ_185.1 10) ∧ (τ_185.1 10) ≤ 999 from by (first | omega | (simp only [st_s] <;> omega) | assumption | omega))
          refine ⟨fun c37 => ?_, fun c37 => ?_⟩
          ·
            obtain ⟨τ_337, e_τ_337⟩ : ∃ z : S0, z = s_v τ_185 10 (τ_185.1 10) := ⟨_, rfl⟩
            rw [← e_τ_337]
            replace hT : m_T τ_337 := by rw [e_τ_337]; exact hT
            have w3_τ_337 : τ_337.1 3 = τ_185.1 3 := by rw [e_τ_337]; rfl
            have w4_τ_337 : τ_337.1 4 = τ_185.1 4 := by rw [e_τ_337]; rfl
            have w5_τ_337 : τ_337.1 5 = τ_185.1 5 := by rw [e_τ_337]; rfl
            have w6_τ_337 : τ_337.1 6 = τ_185.1 6 := by rw [e_τ_337]; rfl
            have w7_τ_337 : τ_337.1 7 = τ_185.1 7 := by rw [e_τ_337]; rfl
            have w8_τ_337 : τ_337.1 8 = τ_185.1 8 := by rw [e_τ_337]; rfl
            have w9_τ_337 : τ_337.1 9 = τ_185.1 9 := by rw [e_τ_337]; rfl
            have w10_τ_337 : τ_337.1 10 = (τ_185.1 10) := by rw [e_τ_337]; rfl
            have w11_τ_337 : τ_337.1 11 = τ_185.1 11 := by rw [e_τ_337]; rfl
            have w12_τ_337 : τ_337.1 12 = τ_185.1 12 := by rw [e_τ_337]; rfl
            have w13_τ_337 : τ_337.1 13 = τ_185.1 13 := by rw [e_τ_337]; rfl
            have w14_τ_337 : τ_337.1 14 = τ_185.1 14 := by rw [e_τ_337]; rfl
            have g6_τ_337 : τ_337.2.1 6 = τ_185.2.1 6 := by rw [e_τ_337]; rfl
            have g7_τ_337 : τ_337.2.1 7 = τ_185.2.1 7 := by rw [e_τ_337]; rfl
            have g9_τ_337 : τ_337.2.1 9 = τ_185.2.1 9 := by rw [e_τ_337]; rfl
            have g12_τ_337 : τ_337.2.1 12 = τ_185.2.1 12 := by rw [e_τ_337]; rfl
            have g14_τ_337 : τ_337.2.1 14 = τ_185.2.1 14 := by rw [e_τ_337]; rfl
            have g15_τ_337 : τ_337.2.1 15 = τ_185.2.1 15 := by rw [e_τ_337]; rfl
            have g18_τ_337 : τ_337.2.1 18 = τ_185.2.1 18 := by rw [e_τ_337]; rfl
            have g19_τ_337 : τ_337.2.1 19 = τ_185.2.1 19 := by rw [e_τ_337]; rfl
            have g21_τ_337 : τ_337.2.1 21 = τ_185.2.1 21 := by rw [e_τ_337]; rfl
            have g22_τ_337 : τ_337.2.1 22 = τ_185.2.1 22 := by rw [e_τ_337]; rfl
            have g25_τ_337 : τ_337.2.1 25 = τ_185.2.1 25 := by rw [e_τ_337]; rfl
            have g26_τ_337 : τ_337.2.1 26 = τ_185.2.1 26 := by rw [e_τ_337]; rfl
            have g51_τ_337 : τ_337.2.1 51 = τ_185.2.1 51 := by rw [e_τ_337]; rfl
            have g52_τ_337 : τ_337.2.1 52 = τ_185.2.1 52 := by rw [e_τ_337]; rfl
            have g53_τ_337 : τ_337.2.1 53 = τ_185.2.1 53 := by rw [e_τ_337]; rfl
            first | (have ca_τ_337 := congr (congrArg ca g9_τ_337) w3_τ_337) | skip
            first | (have o6_τ_337 := congrArg oc g6_τ_337) | skip
            first | (have o7_τ_337 := congrArg oc g7_τ_337) | skip
            have G14 : τ_337.2.1 14 = σ.2.1 14 := (g14_τ_337).trans G14
            have G15 : τ_337.2.1 15 = σ.2.1 15 := (g15_τ_337).trans G15
            have G18 : τ_337.2.1 18 = σ.2.1 18 := (g18_τ_337).trans G18
            have G19 : τ_337.2.1 19 = σ.2.1 19 := (g19_τ_337).trans G19
            have G21 : τ_337.2.1 21 = σ.2.1 21 := (g21_τ_337).trans G21
            have G22 : τ_337.2.1 22 = σ.2.1 22 := (g22_τ_337).trans G22
            have G25 : τ_337.2.1 25 = σ.2.1 25 := (g25_τ_337).trans G25
            have G26 : τ_337.2.1 26 = σ.2.1 26 := (g26_τ_337).trans G26
            have G51 : τ_337.2.1 51 = σ.2.1 51 := (g51_τ_337).trans G51
            have G52 : τ_337.2.1 52 = σ.2.1 52 := (g52_τ_337).trans G52
            have G53 : τ_337.2.1 53 = σ.2.1 53 := (g53_τ_337).trans G53
            have A6 : ∀ j, (-1) ≤ τ_337.2.1 6 j ∧ τ_337.2.1 6 j ≤ 999 := fun j => hT.2 6 j
            have A7 : ∀ j, (-1) ≤ τ_337.2.1 7 j ∧ τ_337.2.1 7 j ≤ 1499 := fun j => hT.2 7 j
            have A9 : ∀ j, 0 ≤ τ_337.2.1 9 j ∧ τ_337.2.1 9 j ≤ 1 := fun j => hT.2 9 j
            have A12 : ∀ j, 0 ≤ τ_337.2.1 12 j ∧ τ_337.2.1 12 j ≤ 1 := fun j => hT.2 12 j
            have A14 : ∀ j, 0 ≤ τ_337.2.1 14 j ∧ τ_337.2.1 14 j ≤ 30000 := fun j => hT.2 14 j
            have A15 : ∀ j, 0 ≤ τ_337.2.1 15 j ∧ τ_337.2.1 15 j ≤ 300 := fun j => hT.2 15 j
            have A18 : ∀ j, 0 ≤ τ_337.2.1 18 j ∧ τ_337.2.1 18 j ≤ 90000 := fun j => hT.2 18 j
            have A19 : ∀ j, 0 ≤ τ_337.2.1 19 j ∧ τ_337.2.1 19 j ≤ 60 := fun j => hT.2 19 j
            have A21 : ∀ j, 0 ≤ τ_337.2.1 21 j ∧ τ_337.2.1 21 j ≤ 20000 := fun j => hT.2 21 j
            have A22 : ∀ j, 0 ≤ τ_337.2.1 22 j ∧ τ_337.2.1 22 j ≤ 20000 := fun j => hT.2 22 j
            have A25 : ∀ j, 0 ≤ τ_337.2.1 25 j ∧ τ_337.2.1 25 j ≤ 20000 := fun j => hT.2 25 j
            have A26 : ∀ j, 0 ≤ τ_337.2.1 26 j ∧ τ_337.2.1 26 j ≤ 20000 := fun j => hT.2 26 j
            have A51 : ∀ j, 0 ≤ τ_337.2.1 51 j ∧ τ_337.2.1 51 j ≤ 1 := fun j => hT.2 51 j
            have A52 : ∀ j, 0 ≤ τ_337.2.1 52 j ∧ τ_337.2.1 52 j ≤ 1 := fun j => hT.2 52 j
            have A53 : ∀ j, 0 ≤ τ_337.2.1 53 j ∧ τ_337.2.1 53 j ≤ 1 := fun j => hT.2 53 j
            have v3 : 0 ≤ τ_337.1 3 ∧ τ_337.1 3 ≤ 1000 := hT.1 3
            have v4 : 0 ≤ τ_337.1 4 ∧ τ_337.1 4 ≤ 100 := hT.1 4
            have v5 : 0 ≤ τ_337.1 5 ∧ τ_337.1 5 ≤ 1500 := hT.1 5
            have v6 : 0 ≤ τ_337.1 6 ∧ τ_337.1 6 ≤ 30000 := hT.1 6
            have v7 : 0 ≤ τ_337.1 7 ∧ τ_337.1 7 ≤ 90000 := hT.1 7
            have v8 : 0 ≤ τ_337.1 8 ∧ τ_337.1 8 ≤ 20000 := hT.1 8
            have v9 : 0 ≤ τ_337.1 9 ∧ τ_337.1 9 ≤ 20000 := hT.1 9
            have v10 : (-1) ≤ τ_337.1 10 ∧ τ_337.1 10 ≤ 999 := hT.1 10
            have v11 : (-1) ≤ τ_337.1 11 ∧ τ_337.1 11 ≤ 999 := hT.1 11
            have v12 : 0 ≤ τ_337.1 12 ∧ τ_337.1 12 ≤ 1000 := hT.1 12
            have v13 : 0 ≤ τ_337.1 13 ∧ τ_337.1 13 ≤ 1500 := hT.1 13
            have v14 : 0 ≤ τ_337.1 14 ∧ τ_337.1 14 ≤ 1000 := hT.1 14
            refine h337 _ _ ?_
            replace hT := mT_v (i := 11) hT (show (-1) ≤ (τ_185.1 11) ∧ (τ_185.1 11) ≤ 999 from by (first | omega | (simp only [st_s] <;> omega) | assumption | omega))
            refine ⟨_, K2_X13_clearTables hT, ?_⟩
            intro τ42 hn_τ42 hf_τ42 hq
            obtain ⟨hT, q40_1, q40_2⟩ := hq
            replace q40_1 : ∀ e : Int, 0 ≤ e → e < 4096 → τ42.2.1 6 e = -1 := q40_1
            replace q40_2 : ∀ e : Int, 0 ≤ e → e < 4096 → τ42.2.1 7 e = -1 := q40_2
            have w3_τ42 : τ42.1 3 = τ_337.1 3 := hf_τ42.1 3 (by decide)
            have w4_τ42 : τ42.1 4 = τ_337.1 4 := hf_τ42.1 4 (by decide)
            have w5_τ42 : τ42.1 5 = τ_337.1 5 := hf_τ42.1 5 (by decide)
            have w6_τ42 : τ42.1 6 = τ_337.1 6 := hf_τ42.1 6 (by decide)
            have w7_τ42 : τ42.1 7 = τ_337.1 7 := hf_τ42.1 7 (by decide)
            have w8_τ42 : τ42.1 8 = τ_337.1 8 := hf_τ42.1 8 (by decide)
            have w9_τ42 : τ42.1 9 = τ_337.1 9 := hf_τ42.1 9 (by decide)
            have w10_τ42 : τ42.1 10 = τ_337.1 10 := hf_τ42.1 10 (by decide)
            have w11_τ42 : τ42.1 11 = (τ_185.1 11) := hf_τ42.1 11 (by decide)
            have w12_τ42 : τ42.1 12 = τ_337.1 12 := hf_τ42.1 12 (by decide)
            have w13_τ42 : τ42.1 13 = τ_337.1 13 := hf_τ42.1 13 (by decide)
            have w14_τ42 : τ42.1 14 = τ_337.1 14 := hf_τ42.1 14 (by decide)
            have g9_τ42 : τ42.2.1 9 = τ_337.2.1 9 := hf_τ42.2.1 9 (by decide)
            have g12_τ42 : τ42.2.1 12 = τ_337.2.1 12 := hf_τ42.2.1 12 (by decide)
            have g14_τ42 : τ42.2.1 14 = τ_337.2.1 14 := hf_τ42.2.1 14 (by decide)
            have g15_τ42 : τ42.2.1 15 = τ_337.2.1 15 := hf_τ42.2.1 15 (by decide)
            have g18_τ42 : τ42.2.1 18 = τ_337.2.1 18 := hf_τ42.2.1 18 (by decide)
            have g19_τ42 : τ42.2.1 19 = τ_337.2.1 19 := hf_τ42.2.1 19 (by decide)
            have g21_τ42 : τ42.2.1 21 = τ_337.2.1 21 := hf_τ42.2.1 21 (by decide)
            have g22_τ42 : τ42.2.1 22 = τ_337.2.1 22 := hf_τ42.2.1 22 (by decide)
            have g25_τ42 : τ42.2.1 25 = τ_337.2.1 25 := hf_τ42.2.1 25 (by decide)
            have g26_τ42 : τ42.2.1 26 = τ_337.2.1 26 := hf_τ42.2.1 26 (by decide)
            have g51_τ42 : τ42.2.1 51 = τ_337.2.1 51 := hf_τ42.2.1 51 (by decide)
            have g52_τ42 : τ42.2.1 52 = τ_337.2.1 52 := hf_τ42.2.1 52 (by decide)
            have g53_τ42 : τ42.2.1 53 = τ_337.2.1 53 := hf_τ42.2.1 53 (by decide)
            first | (have ca_τ42 := congr (congrArg ca g9_τ42) w3_τ42) | skip
            first | (have o6_τ42 := congrArg oc g6_τ42) | skip
            first | (have o7_τ42 := congrArg oc g7_τ42) | skip
            have G14 : τ42.2.1 14 = σ.2.1 14 := (g14_τ42).trans G14
            have G15 : τ42.2.1 15 = σ.2.1 15 := (g15_τ42).trans G15
            have G18 : τ42.2.1 18 = σ.2.1 18 := (g18_τ42).trans G18
            have G19 : τ42.2.1 19 = σ.2.1 19 := (g19_τ42).trans G19
            have G21 : τ42.2.1 21 = σ.2.1 21 := (g21_τ42).trans G21
            have G22 : τ42.2.1 22 = σ.2.1 22 := (g22_τ42).trans G22
            have G25 : τ42.2.1 25 = σ.2.1 25 := (g25_τ42).trans G25
            have G26 : τ42.2.1 26 = σ.2.1 26 := (g26_τ42).trans G26
            have G51 : τ42.2.1 51 = σ.2.1 51 := (g51_τ42).trans G51
            have G52 : τ42.2.1 52 = σ.2.1 52 := (g52_τ42).trans G52
            have G53 : τ42.2.1 53 = σ.2.1 53 := (g53_τ42).trans G53
            have A6 : ∀ j, (-1) ≤ τ42.2.1 6 j ∧ τ42.2.1 6 j ≤ 999 := fun j => hT.2 6 j
            have A7 : ∀ j, (-1) ≤ τ42.2.1 7 j ∧ τ42.2.1 7 j ≤ 1499 := fun j => hT.2 7 j
            have A9 : ∀ j, 0 ≤ τ42.2.1 9 j ∧ τ42.2.1 9 j ≤ 1 := fun j => hT.2 9 j
            have A12 : ∀ j, 0 ≤ τ42.2.1 12 j ∧ τ42.2.1 12 j ≤ 1 := fun j => hT.2 12 j
            have A14 : ∀ j, 0 ≤ τ42.2.1 14 j ∧ τ42.2.1 14 j ≤ 30000 := fun j => hT.2 14 j
            have A15 : ∀ j, 0 ≤ τ42.2.1 15 j ∧ τ42.2.1 15 j ≤ 300 := fun j => hT.2 15 j
            have A18 : ∀ j, 0 ≤ τ42.2.1 18 j ∧ τ42.2.1 18 j ≤ 90000 := fun j => hT.2 18 j
            have A19 : ∀ j, 0 ≤ τ42.2.1 19 j ∧ τ42.2.1 19 j ≤ 60 := fun j => hT.2 19 j
            have A21 : ∀ j, 0 ≤ τ42.2.1 21 j ∧ τ42.2.1 21 j ≤ 20000 := fun j => hT.2 21 j
            have A22 : ∀ j, 0 ≤ τ42.2.1 22 j ∧ τ42.2.1 22 j ≤ 20000 := fun j => hT.2 22 j
            have A25 : ∀ j, 0 ≤ τ42.2.1 25 j ∧ τ42.2.1 25 j ≤ 20000 := fun j => hT.2 25 j
            have A26 : ∀ j, 0 ≤ τ42.2.1 26 j ∧ τ42.2.1 26 j ≤ 20000 := fun j => hT.2 26 j
            have A51 : ∀ j, 0 ≤ τ42.2.1 51 j ∧ τ42.2.1 51 j ≤ 1 := fun j => hT.2 51 j
            have A52 : ∀ j, 0 ≤ τ42.2.1 52 j ∧ τ42.2.1 52 j ≤ 1 := fun j => hT.2 52 j
            have A53 : ∀ j, 0 ≤ τ42.2.1 53 j ∧ τ42.2.1 53 j ≤ 1 := fun j => hT.2 53 j
            have v3 : 0 ≤ τ42.1 3 ∧ τ42.1 3 ≤ 1000 := hT.1 3
            have v4 : 0 ≤ τ42.1 4 ∧ τ42.1 4 ≤ 100 := hT.1 4
            have v5 : 0 ≤ τ42.1 5 ∧ τ42.1 5 ≤ 1500 := hT.1 5
            have v6 : 0 ≤ τ42.1 6 ∧ τ42.1 6 ≤ 30000 := hT.1 6
            have v7 : 0 ≤ τ42.1 7 ∧ τ42.1 7 ≤ 90000 := hT.1 7
            have v8 : 0 ≤ τ42.1 8 ∧ τ42.1 8 ≤ 20000 := hT.1 8
            have v9 : 0 ≤ τ42.1 9 ∧ τ42.1 9 ≤ 20000 := hT.1 9
            have v10 : (-1) ≤ τ42.1 10 ∧ τ42.1 10 ≤ 999 := hT.1 10
            have v11 : (-1) ≤ τ42.1 11 ∧ τ42.1 11 ≤ 999 := hT.1 11
            have v12 : 0 ≤ τ42.1 12 ∧ τ42.1 12 ≤ 1000 := hT.1 12
            have v13 : 0 ≤ τ42.1 13 ∧ τ42.1 13 ≤ 1500 := hT.1 13
            have v14 : 0 ≤ τ42.1 14 ∧ τ42.1 14 ≤ 1000 := hT.1 14
            exact l_347 ((1001 - 0 : Int).toNat + 1) _ _ (show (1001 - 0 : Int) < (((1001 - 0 : Int).toNat + 1 : Nat) : Int) from by ((first | omega | (simp only [st_s] <;> omega) | assumption | omega))) hT G14 G15 G18 G19 G21 G22 G25 G26 G51 G52 G53 (show (τ42.1 3) = n1 from by (first | omega | (simp only [st_s] <;> omega) | assumption | omega)) (show (τ42.1 5) = n2 from by (first | omega | (simp only [st_s] <;> omega) | assumption | omega)) (show (τ42.1 12) ≤ n4 from by (first | omega | (simp only [st_s] <;> omega) | assumption | omega)) (show (τ42.1 13) ≤ n5 from by (first | omega | (simp only [st_s] <;> omega) | assumption | omega)) (show (n2 = 0 ∨ (τ42.1 6) = σ.2.1 14 (n2 - 1) + σ.2.1 15 (n2 - 1)) from by (first | omega | (simp only [st_s] <;> omega) | assumption | omega)) (show (n2 = 0 ∨ (τ42.1 7) = σ.2.1 18 (n2 - 1) + σ.2.1 19 (n2 - 1)) ∧ (τ42.1 7) ≤ 60 * n2 from by (first | omega | (simp only [st_s] <;> omega) | assumption | omega)) (show (n2 = 0 ∨ (τ42.1 8) = σ.2.1 21 (n2 - 1) + σ.2.1 22 (n2 - 1)) from by (first | omega | (simp only [st_s] <;> omega) | assumption | omega)) (show (n2 = 0 ∨ (τ42.1 9) = σ.2.1 25 (n2 - 1) + σ.2.1 26 (n2 - 1)) from by (first | omega | (simp only [st_s] <;> omega) | assumption | omega)) (show 0 ≤ 0 ∧ 0 ≤ n1 from by (first | omega | (simp only [st_s] <;> omega) | assumption | omega)) (show (τ42.1 4) = ca (σ.2.1 53) n1 from by (first | omega | (rw [show n1 = u7_185 from by omega]; omega))) (show j_e0 n1 (σ.2.1 53) (τ42.2.1 12) from by (first | (rw [g12_τ46]; assumption) | (rw [g12_τ42, g12_τ_337]; exact j_e0w i185_11 (by omega)))) (show j_e0 n1 (σ.2.1 52) (τ42.2.1 9) from by (first | (rw [g9_τ46]; assumption) | (rw [g9_τ42, g9_τ_337]; exact j_e0w i185_12 (by omega)))) (show oc (τ42.2.1 6) ≤ 0 from by (first | omega | (have := oc_0 q40_1; omega))) (show j_l2 (τ42.2.1 6) n1 from by (first | (have q9 := q44_2; obtain ⟨e, he⟩ := q9; rw [he]; exact j_l2s i347_14 (Int.le_refl _) (by omega)) | (intro e h0 h1; rw [q40_1 e h0 h1]; omega))) (show oc (τ42.2.1 7) = 0 from by (first | omega | exact oc_0 q40_2))
          ·
            obtain ⟨τ_337, e_τ_337⟩ : ∃ z : S0, z = s_v τ_185 10 (τ_185.1 10) := ⟨_, rfl⟩
            rw [← e_τ_337]
            replace hT : m_T τ_337 := by rw [e_τ_337]; exact hT
            have w3_τ_337 : τ_337.1 3 = τ_185.1 3 := by rw [e_τ_337]; rfl
            have w4_τ_337 : τ_337.1 4 = τ_185.1 4 := by rw [e_τ_337]; rfl
            have w5_τ_337 : τ_337.1 5 = τ_185.1 5 := by rw [e_τ_337]; rfl
            have w6_τ_337 : τ_337.1 6 = τ_185.1 6 := by rw [e_τ_337]; rfl
            have w7_τ_337 : τ_337.1 7 = τ_185.1 7 := by rw [e_τ_337]; rfl
            have w8_τ_337 : τ_337.1 8 = τ_185.1 8 := by rw [e_τ_337]; rfl
            have w9_τ_337 : τ_337.1 9 = τ_185.1 9 := by rw [e_τ_337]; rfl
            have w10_τ_337 : τ_337.1 10 = (τ_185.1 10) := by rw [e_τ_337]; rfl
            have w11_τ_337 : τ_337.1 11 = τ_185.1 11 := by rw [e_τ_337]; rfl
            have w12_τ_337 : τ_337.1 12 = τ_185.1 12 := by rw [e_τ_337]; rfl
            have w13_τ_337 : τ_337.1 13 = τ_185.1 13 := by rw [e_τ_337]; rfl
            have w14_τ_337 : τ_337.1 14 = τ_185.1 14 := by rw [e_τ_337]; rfl
            have g6_τ_337 : τ_337.2.1 6 = τ_185.2.1 6 := by rw [e_τ_337]; rfl
            have g7_τ_337 : τ_337.2.1 7 = τ_185.2.1 7 := by rw [e_τ_337]; rfl
            have g9_τ_337 : τ_337.2.1 9 = τ_185.2.1 9 := by rw [e_τ_337]; rfl
            have g12_τ_337 : τ_337.2.1 12 = τ_185.2.1 12 := by rw [e_τ_337]; rfl
            have g14_τ_337 : τ_337.2.1 14 = τ_185.2.1 14 := by rw [e_τ_337]; rfl
            have g15_τ_337 : τ_337.2.1 15 = τ_185.2.1 15 := by rw [e_τ_337]; rfl
            have g18_τ_337 : τ_337.2.1 18 = τ_185.2.1 18 := by rw [e_τ_337]; rfl
            have g19_τ_337 : τ_337.2.1 19 = τ_185.2.1 19 := by rw [e_τ_337]; rfl
            have g21_τ_337 : τ_337.2.1 21 = τ_185.2.1 21 := by rw [e_τ_337]; rfl
            have g22_τ_337 : τ_337.2.1 22 = τ_185.2.1 22 := by rw [e_τ_337]; rfl
            have g25_τ_337 : τ_337.2.1 25 = τ_185.2.1 25 := by rw [e_τ_337]; rfl
            have g26_τ_337 : τ_337.2.1 26 = τ_185.2.1 26 := by rw [e_τ_337]; rfl
            have g51_τ_337 : τ_337.2.1 51 = τ_185.2.1 51 := by rw [e_τ_337]; rfl
            have g52_τ_337 : τ_337.2.1 52 = τ_185.2.1 52 := by rw [e_τ_337]; rfl
            have g53_τ_337 : τ_337.2.1 53 = τ_185.2.1 53 := by rw [e_τ_337]; rfl
            first | (have ca_τ_337 := congr (congrArg ca g9_τ_337) w3_τ_337) | skip
            first | (have o6_τ_337 := congrArg oc g6_τ_337) | skip
            first | (have o7_τ_337 := congrArg oc g7_τ_337) | skip
            have G14 : τ_337.2.1 14 = σ.2.1 14 := (g14_τ_337).trans G14
            have G15 : τ_337.2.1 15 = σ.2.1 15 := (g15_τ_337).trans G15
            have G18 : τ_337.2.1 18 = σ.2.1 18 := (g18_τ_337).trans G18
            have G19 : τ_337.2.1 19 = σ.2.1 19 := (g19_τ_337).trans G19
            have G21 : τ_337.2.1 21 = σ.2.1 21 := (g21_τ_337).trans G21
            have G22 : τ_337.2.1 22 = σ.2.1 22 := (g22_τ_337).trans G22
            have G25 : τ_337.2.1 25 = σ.2.1 25 := (g25_τ_337).trans G25
            have G26 : τ_337.2.1 26 = σ.2.1 26 := (g26_τ_337).trans G26
            have G51 : τ_337.2.1 51 = σ.2.1 51 := (g51_τ_337).trans G51
            have G52 : τ_337.2.1 52 = σ.2.1 52 := (g52_τ_337).trans G52
            have G53 : τ_337.2.1 53 = σ.2.1 53 := (g53_τ_337).trans G53
            have A6 : ∀ j, (-1) ≤ τ_337.2.1 6 j ∧ τ_337.2.1 6 j ≤ 999 := fun j => hT.2 6 j
            have A7 : ∀ j, (-1) ≤ τ_337.2.1 7 j ∧ τ_337.2.1 7 j ≤ 1499 := fun j => hT.2 7 j
            have A9 : ∀ j, 0 ≤ τ_337.2.1 9 j ∧ τ_337.2.1 9 j ≤ 1 := fun j => hT.2 9 j
            have A12 : ∀ j, 0 ≤ τ_337.2.1 12 j ∧ τ_337.2.1 12 j ≤ 1 := fun j => hT.2 12 j
            have A14 : ∀ j, 0 ≤ τ_337.2.1 14 j ∧ τ_337.2.1 14 j ≤ 30000 := fun j => hT.2 14 j
            have A15 : ∀ j, 0 ≤ τ_337.2.1 15 j ∧ τ_337.2.1 15 j ≤ 300 := fun j => hT.2 15 j
            have A18 : ∀ j, 0 ≤ τ_337.2.1 18 j ∧ τ_337.2.1 18 j ≤ 90000 := fun j => hT.2 18 j
            have A19 : ∀ j, 0 ≤ τ_337.2.1 19 j ∧ τ_337.2.1 19 j ≤ 60 := fun j => hT.2 19 j
            have A21 : ∀ j, 0 ≤ τ_337.2.1 21 j ∧ τ_337.2.1 21 j ≤ 20000 := fun j => hT.2 21 j
            have A22 : ∀ j, 0 ≤ τ_337.2.1 22 j ∧ τ_337.2.1 22 j ≤ 20000 := fun j => hT.2 22 j
            have A25 : ∀ j, 0 ≤ τ_337.2.1 25 j ∧ τ_337.2.1 25 j ≤ 20000 := fun j => hT.2 25 j
            have A26 : ∀ j, 0 ≤ τ_337.2.1 26 j ∧ τ_337.2.1 26 j ≤ 20000 := fun j => hT.2 26 j
            have A51 : ∀ j, 0 ≤ τ_337.2.1 51 j ∧ τ_337.2.1 51 j ≤ 1 := fun j => hT.2 51 j
            have A52 : ∀ j, 0 ≤ τ_337.2.1 52 j ∧ τ_337.2.1 52 j ≤ 1 := fun j => hT.2 52 j
            have A53 : ∀ j, 0 ≤ τ_337.2.1 53 j ∧ τ_337.2.1 53 j ≤ 1 := fun j => hT.2 53 j
            have v3 : 0 ≤ τ_337.1 3 ∧ τ_337.1 3 ≤ 1000 := hT.1 3
            have v4 : 0 ≤ τ_337.1 4 ∧ τ_337.1 4 ≤ 100 := hT.1 4
            have v5 : 0 ≤ τ_337.1 5 ∧ τ_337.1 5 ≤ 1500 := hT.1 5
            have v6 : 0 ≤ τ_337.1 6 ∧ τ_337.1 6 ≤ 30000 := hT.1 6
            have v7 : 0 ≤ τ_337.1 7 ∧ τ_337.1 7 ≤ 90000 := hT.1 7
            have v8 : 0 ≤ τ_337.1 8 ∧ τ_337.1 8 ≤ 20000 := hT.1 8
            have v9 : 0 ≤ τ_337.1 9 ∧ τ_337.1 9 ≤ 20000 := hT.1 9
            have v10 : (-1) ≤ τ_337.1 10 ∧ τ_337.1 10 ≤ 999 := hT.1 10
            have v11 : (-1) ≤ τ_337.1 11 ∧ τ_337.1 11 ≤ 999 := hT.1 11
            have v12 : 0 ≤ τ_337.1 12 ∧ τ_337.1 12 ≤ 1000 := hT.1 12
            have v13 : 0 ≤ τ_337.1 13 ∧ τ_337.1 13 ≤ 1500 := hT.1 13
            have v14 : 0 ≤ τ_337.1 14 ∧ τ_337.1 14 ≤ 1000 := hT.1 14
            refine h337 _ _ ?_
            replace hT := mT_v (i := 11) hT (show (-1 : Int) ≤ (-1) ∧ (-1) ≤ 999 from by (first | omega | (simp only [st_s] <;> omega) | assumption | omega))
            refine ⟨_, K2_X13_clearTables hT, ?_⟩
            intro τ42 hn_τ42 hf_τ42 hq
            obtain ⟨hT, q40_1, q40_2⟩ := hq
            replace q40_1 : ∀ e : Int, 0 ≤ e → e < 4096 → τ42.2.1 6 e = -1 := q40_1
            replace q40_2 : ∀ e : Int, 0 ≤ e → e < 4096 → τ42.2.1 7 e = -1 := q40_2
            have w3_τ42 : τ42.1 3 = τ_337.1 3 := hf_τ42.1 3 (by decide)
            have w4_τ42 : τ42.1 4 = τ_337.1 4 := hf_τ42.1 4 (by decide)
            have w5_τ42 : τ42.1 5 = τ_337.1 5 := hf_τ42.1 5 (by decide)
            have w6_τ42 : τ42.1 6 = τ_337.1 6 := hf_τ42.1 6 (by decide)
            have w7_τ42 : τ42.1 7 = τ_337.1 7 := hf_τ42.1 7 (by decide)
            have w8_τ42 : τ42.1 8 = τ_337.1 8 := hf_τ42.1 8 (by decide)
            have w9_τ42 : τ42.1 9 = τ_337.1 9 := hf_τ42.1 9 (by decide)
            have w10_τ42 : τ42.1 10 = τ_337.1 10 := hf_τ42.1 10 (by decide)
            have w11_τ42 : τ42.1 11 = (-1) := hf_τ42.1 11 (by decide)
            have w12_τ42 : τ42.1 12 = τ_337.1 12 := hf_τ42.1 12 (by decide)
            have w13_τ42 : τ42.1 13 = τ_337.1 13 := hf_τ42.1 13 (by decide)
            have w14_τ42 : τ42.1 14 = τ_337.1 14 := hf_τ42.1 14 (by decide)
            have g9_τ42 : τ42.2.1 9 = τ_337.2.1 9 := hf_τ42.2.1 9 (by decide)
            have g12_τ42 : τ42.2.1 12 = τ_337.2.1 12 := hf_τ42.2.1 12 (by decide)
            have g14_τ42 : τ42.2.1 14 = τ_337.2.1 14 := hf_τ42.2.1 14 (by decide)
            have g15_τ42 : τ42.2.1 15 = τ_337.2.1 15 := hf_τ42.2.1 15 (by decide)
            have g18_τ42 : τ42.2.1 18 = τ_337.2.1 18 := hf_τ42.2.1 18 (by decide)
            have g19_τ42 : τ42.2.1 19 = τ_337.2.1 19 := hf_τ42.2.1 19 (by decide)
            have g21_τ42 : τ42.2.1 21 = τ_337.2.1 21 := hf_τ42.2.1 21 (by decide)
            have g22_τ42 : τ42.2.1 22 = τ_337.2.1 22 := hf_τ42.2.1 22 (by decide)
            have g25_τ42 : τ42.2.1 25 = τ_337.2.1 25 := hf_τ42.2.1 25 (by decide)
            have g26_τ42 : τ42.2.1 26 = τ_337.2.1 26 := hf_τ42.2.1 26 (by decide)
            have g51_τ42 : τ42.2.1 51 = τ_337.2.1 51 := hf_τ42.2.1 51 (by decide)
            have g52_τ42 : τ42.2.1 52 = τ_337.2.1 52 := hf_τ42.2.1 52 (by decide)
            have g53_τ42 : τ42.2.1 53 = τ_337.2.1 53 := hf_τ42.2.1 53 (by decide)
            first | (have ca_τ42 := congr (congrArg ca g9_τ42) w3_τ42) | skip
            first | (have o6_τ42 := congrArg oc g6_τ42) | skip
            first | (have o7_τ42 := congrArg oc g7_τ42) | skip
            have G14 : τ42.2.1 14 = σ.2.1 14 := (g14_τ42).trans G14
            have G15 : τ42.2.1 15 = σ.2.1 15 := (g15_τ42).trans G15
            have G18 : τ42.2.1 18 = σ.2.1 18 := (g18_τ42).trans G18
            have G19 : τ42.2.1 19 = σ.2.1 19 := (g19_τ42).trans G19
            have G21 : τ42.2.1 21 = σ.2.1 21 := (g21_τ42).trans G21
            have G22 : τ42.2.1 22 = σ.2.1 22 := (g22_τ42).trans G22
            have G25 : τ42.2.1 25 = σ.2.1 25 := (g25_τ42).trans G25
            have G26 : τ42.2.1 26 = σ.2.1 26 := (g26_τ42).trans G26
            have G51 : τ42.2.1 51 = σ.2.1 51 := (g51_τ42).trans G51
            have G52 : τ42.2.1 52 = σ.2.1 52 := (g52_τ42).trans G52
            have G53 : τ42.2.1 53 = σ.2.1 53 := (g53_τ42).trans G53
            have A6 : ∀ j, (-1) ≤ τ42.2.1 6 j ∧ τ42.2.1 6 j ≤ 999 := fun j => hT.2 6 j
            have A7 : ∀ j, (-1) ≤ τ42.2.1 7 j ∧ τ42.2.1 7 j ≤ 1499 := fun j => hT.2 7 j
            have A9 : ∀ j, 0 ≤ τ42.2.1 9 j ∧ τ42.2.1 9 j ≤ 1 := fun j => hT.2 9 j
            have A12 : ∀ j, 0 ≤ τ42.2.1 12 j ∧ τ42.2.1 12 j ≤ 1 := fun j => hT.2 12 j
            have A14 : ∀ j, 0 ≤ τ42.2.1 14 j ∧ τ42.2.1 14 j ≤ 30000 := fun j => hT.2 14 j
            have A15 : ∀ j, 0 ≤ τ42.2.1 15 j ∧ τ42.2.1 15 j ≤ 300 := fun j => hT.2 15 j
            have A18 : ∀ j, 0 ≤ τ42.2.1 18 j ∧ τ42.2.1 18 j ≤ 90000 := fun j => hT.2 18 j
            have A19 : ∀ j, 0 ≤ τ42.2.1 19 j ∧ τ42.2.1 19 j ≤ 60 := fun j => hT.2 19 j
            have A21 : ∀ j, 0 ≤ τ42.2.1 21 j ∧ τ42.2.1 21 j ≤ 20000 := fun j => hT.2 21 j
            have A22 : ∀ j, 0 ≤ τ42.2.1 22 j ∧ τ42.2.1 22 j ≤ 20000 := fun j => hT.2 22 j
            have A25 : ∀ j, 0 ≤ τ42.2.1 25 j ∧ τ42.2.1 25 j ≤ 20000 := fun j => hT.2 25 j
            have A26 : ∀ j, 0 ≤ τ42.2.1 26 j ∧ τ42.2.1 26 j ≤ 20000 := fun j => hT.2 26 j
            have A51 : ∀ j, 0 ≤ τ42.2.1 51 j ∧ τ42.2.1 51 j ≤ 1 := fun j => hT.2 51 j
            have A52 : ∀ j, 0 ≤ τ42.2.1 52 j ∧ τ42.2.1 52 j ≤ 1 := fun j => hT.2 52 j
            have A53 : ∀ j, 0 ≤ τ42.2.1 53 j ∧ τ42.2.1 53 j ≤ 1 := fun j => hT.2 53 j
            have v3 : 0 ≤ τ42.1 3 ∧ τ42.1 3 ≤ 1000 := hT.1 3
            have v4 : 0 ≤ τ42.1 4 ∧ τ42.1 4 ≤ 100 := hT.1 4
            have v5 : 0 ≤ τ42.1 5 ∧ τ42.1 5 ≤ 1500 := hT.1 5
            have v6 : 0 ≤ τ42.1 6 ∧ τ42.1 6 ≤ 30000 := hT.1 6
            have v7 : 0 ≤ τ42.1 7 ∧ τ42.1 7 ≤ 90000 := hT.1 7
            have v8 : 0 ≤ τ42.1 8 ∧ τ42.1 8 ≤ 20000 := hT.1 8
            have v9 : 0 ≤ τ42.1 9 ∧ τ42.1 9 ≤ 20000 := hT.1 9
            have v10 : (-1) ≤ τ42.1 10 ∧ τ42.1 10 ≤ 999 := hT.1 10
            have v11 : (-1) ≤ τ42.1 11 ∧ τ42.1 11 ≤ 999 := hT.1 11
            have v12 : 0 ≤ τ42.1 12 ∧ τ42.1 12 ≤ 1000 := hT.1 12
            have v13 : 0 ≤ τ42.1 13 ∧ τ42.1 13 ≤ 1500 := hT.1 13
            have v14 : 0 ≤ τ42.1 14 ∧ τ42.1 14 ≤ 1000 := hT.1 14
            exact l_347 ((1001 - 0 : Int).toNat + 1) _ _ (show (1001 - 0 : Int) < (((1001 - 0 : Int).toNat + 1 : Nat) : Int) from by ((first | omega | (simp only [st_s] <;> omega) | assumption | omega))) hT G14 G15 G18 G19 G21 G22 G25 G26 G51 G52 G53 (show (τ42.1 3) = n1 from by (first | omega | (simp only [st_s] <;> omega) | assumption | omega)) (show (τ42.1 5) = n2 from by (first | omega | (simp only [st_s] <;> omega) | assumption | omega)) (show (τ42.1 12) ≤ n4 from by (first | omega | (simp only [st_s] <;> omega) | assumption | omega)) (show (τ42.1 13) ≤ n5 from by (first | omega | (simp only [st_s] <;> omega) | assumption | omega)) (show (n2 = 0 ∨ (τ42.1 6) = σ.2.1 14 (n2 - 1) + σ.2.1 15 (n2 - 1)) from by (first | omega | (simp only [st_s] <;> omega) | assumption | omega)) (show (n2 = 0 ∨ (τ42.1 7) = σ.2.1 18 (n2 - 1) + σ.2.1 19 (n2 - 1)) ∧ (τ42.1 7) ≤ 60 * n2 from by (first | omega | (simp only [st_s] <;> omega) | assumption | omega)) (show (n2 = 0 ∨ (τ42.1 8) = σ.2.1 21 (n2 - 1) + σ.2.1 22 (n2 - 1)) from by (first | omega | (simp only [st_s] <;> omega) | assumption | omega)) (show (n2 = 0 ∨ (τ42.1 9) = σ.2.1 25 (n2 - 1) + σ.2.1 26 (n2 - 1)) from by (first | omega | (simp only [st_s] <;> omega) | assumption | omega)) (show 0 ≤ 0 ∧ 0 ≤ n1 from by (first | omega | (simp only [st_s] <;> omega) | assumption | omega)) (show (τ42.1 4) = ca (σ.2.1 53) n1 from by (first | omega | (rw [show n1 = u7_185 from by omega]; omega))) (show j_e0 n1 (σ.2.1 53) (τ42.2.1 12) from by (first | (rw [g12_τ46]; assumption) | (rw [g12_τ42, g12_τ_337]; exact j_e0w i185_11 (by omega)))) (show j_e0 n1 (σ.2.1 52) (τ42.2.1 9) from by (first | (rw [g9_τ46]; assumption) | (rw [g9_τ42, g9_τ_337]; exact j_e0w i185_12 (by omega)))) (show oc (τ42.2.1 6) ≤ 0 from by (first | omega | (have := oc_0 q40_1; omega))) (show j_l2 (τ42.2.1 6) n1 from by (first | (have q9 := q44_2; obtain ⟨e, he⟩ := q9; rw [he]; exact j_l2s i347_14 (Int.le_refl _) (by omega)) | (intro e h0 h1; rw [q40_1 e h0 h1]; omega))) (show oc (τ42.2.1 7) = 0 from by (first | omega | exact oc_0 q40_2))
        ·
          refine h314 _ _ ?_
          replace hT := mT_v (i := 10) hT (show (-1 : Int) ≤ (-1) ∧ (-1) ≤ 999 from by (first | omega | (simp only [st_s] <;> omega) | assumption | omega))
          refine ⟨fun c37 => ?_, fun c37 => ?_⟩
          ·
            obtain ⟨τ_337, e_τ_337⟩ : ∃ z : S0, z = s_v τ_185 10 (-1) := ⟨_, rfl⟩
            rw [← e_τ_337]
            replace hT : m_T τ_337 := by rw [e_τ_337]; exact hT
            have w3_τ_337 : τ_337.1 3 = τ_185.1 3 := by rw [e_τ_337]; rfl
            have w4_τ_337 : τ_337.1 4 = τ_185.1 4 := by rw [e_τ_337]; rfl
            have w5_τ_337 : τ_337.1 5 = τ_185.1 5 := by rw [e_τ_337]; rfl
            have w6_τ_337 : τ_337.1 6 = τ_185.1 6 := by rw [e_τ_337]; rfl
            have w7_τ_337 : τ_337.1 7 = τ_185.1 7 := by rw [e_τ_337]; rfl
            have w8_τ_337 : τ_337.1 8 = τ_185.1 8 := by rw [e_τ_337]; rfl
            have w9_τ_337 : τ_337.1 9 = τ_185.1 9 := by rw [e_τ_337]; rfl
            have w10_τ_337 : τ_337.1 10 = (-1) := by rw [e_τ_337]; rfl
            have w11_τ_337 : τ_337.1 11 = τ_185.1 11 := by rw [e_τ_337]; rfl
            have w12_τ_337 : τ_337.1 12 = τ_185.1 12 := by rw [e_τ_337]; rfl
            have w13_τ_337 : τ_337.1 13 = τ_185.1 13 := by rw [e_τ_337]; rfl
            have w14_τ_337 : τ_337.1 14 = τ_185.1 14 := by rw [e_τ_337]; rfl
            have g6_τ_337 : τ_337.2.1 6 = τ_185.2.1 6 := by rw [e_τ_337]; rfl
            have g7_τ_337 : τ_337.2.1 7 = τ_185.2.1 7 := by rw [e_τ_337]; rfl
            have g9_τ_337 : τ_337.2.1 9 = τ_185.2.1 9 := by rw [e_τ_337]; rfl
            have g12_τ_337 : τ_337.2.1 12 = τ_185.2.1 12 := by rw [e_τ_337]; rfl
            have g14_τ_337 : τ_337.2.1 14 = τ_185.2.1 14 := by rw [e_τ_337]; rfl
            have g15_τ_337 : τ_337.2.1 15 = τ_185.2.1 15 := by rw [e_τ_337]; rfl
            have g18_τ_337 : τ_337.2.1 18 = τ_185.2.1 18 := by rw [e_τ_337]; rfl
            have g19_τ_337 : τ_337.2.1 19 = τ_185.2.1 19 := by rw [e_τ_337]; rfl
            have g21_τ_337 : τ_337.2.1 21 = τ_185.2.1 21 := by rw [e_τ_337]; rfl
            have g22_τ_337 : τ_337.2.1 22 = τ_185.2.1 22 := by rw [e_τ_337]; rfl
            have g25_τ_337 : τ_337.2.1 25 = τ_185.2.1 25 := by rw [e_τ_337]; rfl
            have g26_τ_337 : τ_337.2.1 26 = τ_185.2.1 26 := by rw [e_τ_337]; rfl
            have g51_τ_337 : τ_337.2.1 51 = τ_185.2.1 51 := by rw [e_τ_337]; rfl
            have g52_τ_337 : τ_337.2.1 52 = τ_185.2.1 52 := by rw [e_τ_337]; rfl
            have g53_τ_337 : τ_337.2.1 53 = τ_185.2.1 53 := by rw [e_τ_337]; rfl
            first | (have ca_τ_337 := congr (congrArg ca g9_τ_337) w3_τ_337) | skip
            first | (have o6_τ_337 := congrArg oc g6_τ_337) | skip
            first | (have o7_τ_337 := congrArg oc g7_τ_337) | skip
            have G14 : τ_337.2.1 14 = σ.2.1 14 := (g14_τ_337).trans G14
            have G15 : τ_337.2.1 15 = σ.2.1 15 := (g15_τ_337).trans G15
            have G18 : τ_337.2.1 18 = σ.2.1 18 := (g18_τ_337).trans G18
            have G19 : τ_337.2.1 19 = σ.2.1 19 := (g19_τ_337).trans G19
            have G21 : τ_337.2.1 21 = σ.2.1 21 := (g21_τ_337).trans G21
            have G22 : τ_337.2.1 22 = σ.2.1 22 := (g22_τ_337).trans G22
            have G25 : τ_337.2.1 25 = σ.2.1 25 := (g25_τ_337).trans G25
            have G26 : τ_337.2.1 26 = σ.2.1 26 := (g26_τ_337).trans G26
            have G51 : τ_337.2.1 51 = σ.2.1 51 := (g51_τ_337).trans G51
            have G52 : τ_337.2.1 52 = σ.2.1 52 := (g52_τ_337).trans G52
            have G53 : τ_337.2.1 53 = σ.2.1 53 := (g53_τ_337).trans G53
            have A6 : ∀ j, (-1) ≤ τ_337.2.1 6 j ∧ τ_337.2.1 6 j ≤ 999 := fun j => hT.2 6 j
            have A7 : ∀ j, (-1) ≤ τ_337.2.1 7 j ∧ τ_337.2.1 7 j ≤ 1499 := fun j => hT.2 7 j
            have A9 : ∀ j, 0 ≤ τ_337.2.1 9 j ∧ τ_337.2.1 9 j ≤ 1 := fun j => hT.2 9 j
            have A12 : ∀ j, 0 ≤ τ_337.2.1 12 j ∧ τ_337.2.1 12 j ≤ 1 := fun j => hT.2 12 j
            have A14 : ∀ j, 0 ≤ τ_337.2.1 14 j ∧ τ_337.2.1 14 j ≤ 30000 := fun j => hT.2 14 j
            have A15 : ∀ j, 0 ≤ τ_337.2.1 15 j ∧ τ_337.2.1 15 j ≤ 300 := fun j => hT.2 15 j
            have A18 : ∀ j, 0 ≤ τ_337.2.1 18 j ∧ τ_337.2.1 18 j ≤ 90000 := fun j => hT.2 18 j
            have A19 : ∀ j, 0 ≤ τ_337.2.1 19 j ∧ τ_337.2.1 19 j ≤ 60 := fun j => hT.2 19 j
            have A21 : ∀ j, 0 ≤ τ_337.2.1 21 j ∧ τ_337.2.1 21 j ≤ 20000 := fun j => hT.2 21 j
            have A22 : ∀ j, 0 ≤ τ_337.2.1 22 j ∧ τ_337.2.1 22 j ≤ 20000 := fun j => hT.2 22 j
            have A25 : ∀ j, 0 ≤ τ_337.2.1 25 j ∧ τ_337.2.1 25 j ≤ 20000 := fun j => hT.2 25 j
            have A26 : ∀ j, 0 ≤ τ_337.2.1 26 j ∧ τ_337.2.1 26 j ≤ 20000 := fun j => hT.2 26 j
            have A51 : ∀ j, 0 ≤ τ_337.2.1 51 j ∧ τ_337.2.1 51 j ≤ 1 := fun j => hT.2 51 j
            have A52 : ∀ j, 0 ≤ τ_337.2.1 52 j ∧ τ_337.2.1 52 j ≤ 1 := fun j => hT.2 52 j
            have A53 : ∀ j, 0 ≤ τ_337.2.1 53 j ∧ τ_337.2.1 53 j ≤ 1 := fun j => hT.2 53 j
            have v3 : 0 ≤ τ_337.1 3 ∧ τ_337.1 3 ≤ 1000 := hT.1 3
            have v4 : 0 ≤ τ_337.1 4 ∧ τ_337.1 4 ≤ 100 := hT.1 4
            have v5 : 0 ≤ τ_337.1 5 ∧ τ_337.1 5 ≤ 1500 := hT.1 5
            have v6 : 0 ≤ τ_337.1 6 ∧ τ_337.1 6 ≤ 30000 := hT.1 6
            have v7 : 0 ≤ τ_337.1 7 ∧ τ_337.1 7 ≤ 90000 := hT.1 7
            have v8 : 0 ≤ τ_337.1 8 ∧ τ_337.1 8 ≤ 20000 := hT.1 8
            have v9 : 0 ≤ τ_337.1 9 ∧ τ_337.1 9 ≤ 20000 := hT.1 9
            have v10 : (-1) ≤ τ_337.1 10 ∧ τ_337.1 10 ≤ 999 := hT.1 10
            have v11 : (-1) ≤ τ_337.1 11 ∧ τ_337.1 11 ≤ 999 := hT.1 11
            have v12 : 0 ≤ τ_337.1 12 ∧ τ_337.1 12 ≤ 1000 := hT.1 12
            have v13 : 0 ≤ τ_337.1 13 ∧ τ_337.1 13 ≤ 1500 := hT.1 13
            have v14 : 0 ≤ τ_337.1 14 ∧ τ_337.1 14 ≤ 1000 := hT.1 14
            refine h337 _ _ ?_
            replace hT := mT_v (i := 11) hT (show (-1) ≤ (τ_185.1 11) ∧ (τ_185.1 11) ≤ 999 from by (first | omega | (simp only [st_s] <;> omega) | assumption | omega))
            refine ⟨_, K2_X13_clearTables hT, ?_⟩
            intro τ42 hn_τ42 hf_τ42 hq
            obtain ⟨hT, q40_1, q40_2⟩ := hq
            replace q40_1 : ∀ e : Int, 0 ≤ e → e < 4096 → τ42.2.1 6 e = -1 := q40_1
            replace q40_2 : ∀ e : Int, 0 ≤ e → e < 4096 → τ42.2.1 7 e = -1 := q40_2
            have w3_τ42 : τ42.1 3 = τ_337.1 3 := hf_τ42.1 3 (by decide)
            have w4_τ42 : τ42.1 4 = τ_337.1 4 := hf_τ42.1 4 (by decide)
            have w5_τ42 : τ42.1 5 = τ_337.1 5 := hf_τ42.1 5 (by decide)
            have w6_τ42 : τ42.1 6 = τ_337.1 6 := hf_τ42.1 6 (by decide)
            have w7_τ42 : τ42.1 7 = τ_337.1 7 := hf_τ42.1 7 (by decide)
            have w8_τ42 : τ42.1 8 = τ_337.1 8 := hf_τ42.1 8 (by decide)
            have w9_τ42 : τ42.1 9 = τ_337.1 9 := hf_τ42.1 9 (by decide)
            have w10_τ42 : τ42.1 10 = τ_337.1 10 := hf_τ42.1 10 (by decide)
            have w11_τ42 : τ42.1 11 = (τ_185.1 11) := hf_τ42.1 11 (by decide)
            have w12_τ42 : τ42.1 12 = τ_337.1 12 := hf_τ42.1 12 (by decide)
            have w13_τ42 : τ42.1 13 = τ_337.1 13 := hf_τ42.1 13 (by decide)
            have w14_τ42 : τ42.1 14 = τ_337.1 14 := hf_τ42.1 14 (by decide)
            have g9_τ42 : τ42.2.1 9 = τ_337.2.1 9 := hf_τ42.2.1 9 (by decide)
            have g12_τ42 : τ42.2.1 12 = τ_337.2.1 12 := hf_τ42.2.1 12 (by decide)
            have g14_τ42 : τ42.2.1 14 = τ_337.2.1 14 := hf_τ42.2.1 14 (by decide)
            have g15_τ42 : τ42.2.1 15 = τ_337.2.1 15 := hf_τ42.2.1 15 (by decide)
            have g18_τ42 : τ42.2.1 18 = τ_337.2.1 18 := hf_τ42.2.1 18 (by decide)
            have g19_τ42 : τ42.2.1 19 = τ_337.2.1 19 := hf_τ42.2.1 19 (by decide)
            have g21_τ42 : τ42.2.1 21 = τ_337.2.1 21 := hf_τ42.2.1 21 (by decide)
            have g22_τ42 : τ42.2.1 22 = τ_337.2.1 22 := hf_τ42.2.1 22 (by decide)
            have g25_τ42 : τ42.2.1 25 = τ_337.2.1 25 := hf_τ42.2.1 25 (by decide)
            have g26_τ42 : τ42.2.1 26 = τ_337.2.1 26 := hf_τ42.2.1 26 (by decide)
            have g51_τ42 : τ42.2.1 51 = τ_337.2.1 51 := hf_τ42.2.1 51 (by decide)
            have g52_τ42 : τ42.2.1 52 = τ_337.2.1 52 := hf_τ42.2.1 52 (by decide)
            have g53_τ42 : τ42.2.1 53 = τ_337.2.1 53 := hf_τ42.2.1 53 (by decide)
            first | (have ca_τ42 := congr (congrArg ca g9_τ42) w3_τ42) | skip
            first | (have o6_τ42 := congrArg oc g6_τ42) | skip
            first | (have o7_τ42 := congrArg oc g7_τ42) | skip
            have G14 : τ42.2.1 14 = σ.2.1 14 := (g14_τ42).trans G14
            have G15 : τ42.2.1 15 = σ.2.1 15 := (g15_τ42).trans G15
            have G18 : τ42.2.1 18 = σ.2.1 18 := (g18_τ42).trans G18
            have G19 : τ42.2.1 19 = σ.2.1 19 := (g19_τ42).trans G19
            have G21 : τ42.2.1 21 = σ.2.1 21 := (g21_τ42).trans G21
            have G22 : τ42.2.1 22 = σ.2.1 22 := (g22_τ42).trans G22
            have G25 : τ42.2.1 25 = σ.2.1 25 := (g25_τ42).trans G25
            have G26 : τ42.2.1 26 = σ.2.1 26 := (g26_τ42).trans G26
            have G51 : τ42.2.1 51 = σ.2.1 51 := (g51_τ42).trans G51
            have G52 : τ42.2.1 52 = σ.2.1 52 := (g52_τ42).trans G52
            have G53 : τ42.2.1 53 = σ.2.1 53 := (g53_τ42).trans G53
            have A6 : ∀ j, (-1) ≤ τ42.2.1 6 j ∧ τ42.2.1 6 j ≤ 999 := fun j => hT.2 6 j
            have A7 : ∀ j, (-1) ≤ τ42.2.1 7 j ∧ τ42.2.1 7 j ≤ 1499 := fun j => hT.2 7 j
            have A9 : ∀ j, 0 ≤ τ42.2.1 9 j ∧ τ42.2.1 9 j ≤ 1 := fun j => hT.2 9 j
            have A12 : ∀ j, 0 ≤ τ42.2.1 12 j ∧ τ42.2.1 12 j ≤ 1 := fun j => hT.2 12 j
            have A14 : ∀ j, 0 ≤ τ42.2.1 14 j ∧ τ42.2.1 14 j ≤ 30000 := fun j => hT.2 14 j
            have A15 : ∀ j, 0 ≤ τ42.2.1 15 j ∧ τ42.2.1 15 j ≤ 300 := fun j => hT.2 15 j
            have A18 : ∀ j, 0 ≤ τ42.2.1 18 j ∧ τ42.2.1 18 j ≤ 90000 := fun j => hT.2 18 j
            have A19 : ∀ j, 0 ≤ τ42.2.1 19 j ∧ τ42.2.1 19 j ≤ 60 := fun j => hT.2 19 j
            have A21 : ∀ j, 0 ≤ τ42.2.1 21 j ∧ τ42.2.1 21 j ≤ 20000 := fun j => hT.2 21 j
            have A22 : ∀ j, 0 ≤ τ42.2.1 22 j ∧ τ42.2.1 22 j ≤ 20000 := fun j => hT.2 22 j
            have A25 : ∀ j, 0 ≤ τ42.2.1 25 j ∧ τ42.2.1 25 j ≤ 20000 := fun j => hT.2 25 j
            have A26 : ∀ j, 0 ≤ τ42.2.1 26 j ∧ τ42.2.1 26 j ≤ 20000 := fun j => hT.2 26 j
            have A51 : ∀ j, 0 ≤ τ42.2.1 51 j ∧ τ42.2.1 51 j ≤ 1 := fun j => hT.2 51 j
            have A52 : ∀ j, 0 ≤ τ42.2.1 52 j ∧ τ42.2.1 52 j ≤ 1 := fun j => hT.2 52 j
            have A53 : ∀ j, 0 ≤ τ42.2.1 53 j ∧ τ42.2.1 53 j ≤ 1 := fun j => hT.2 53 j
            have v3 : 0 ≤ τ42.1 3 ∧ τ42.1 3 ≤ 1000 := hT.1 3
            have v4 : 0 ≤ τ42.1 4 ∧ τ42.1 4 ≤ 100 := hT.1 4
            have v5 : 0 ≤ τ42.1 5 ∧ τ42.1 5 ≤ 1500 := hT.1 5
            have v6 : 0 ≤ τ42.1 6 ∧ τ42.1 6 ≤ 30000 := hT.1 6
            have v7 : 0 ≤ τ42.1 7 ∧ τ42.1 7 ≤ 90000 := hT.1 7
            have v8 : 0 ≤ τ42.1 8 ∧ τ42.1 8 ≤ 20000 := hT.1 8
            have v9 : 0 ≤ τ42.1 9 ∧ τ42.1 9 ≤ 20000 := hT.1 9
            have v10 : (-1) ≤ τ42.1 10 ∧ τ42.1 10 ≤ 999 := hT.1 10
            have v11 : (-1) ≤ τ42.1 11 ∧ τ42.1 11 ≤ 999 := hT.1 11
            have v12 : 0 ≤ τ42.1 12 ∧ τ42.1 12 ≤ 1000 := hT.1 12
            have v13 : 0 ≤ τ42.1 13 ∧ τ42.1 13 ≤ 1500 := hT.1 13
            have v14 : 0 ≤ τ42.1 14 ∧ τ42.1 14 ≤ 1000 := hT.1 14
            exact l_347 ((1001 - 0 : Int).toNat + 1) _ _ (show (1001 - 0 : Int) < (((1001 - 0 : Int).toNat + 1 : Nat) : Int) from by ((first | omega | (simp only [st_s] <;> omega) | assumption | omega))) hT G14 G15 G18 G19 G21 G22 G25 G26 G51 G52 G53 (show (τ42.1 3) = n1 from by (first | omega | (simp only [st_s] <;> omega) | assumption | omega)) (show (τ42.1 5) = n2 from by (first | omega | (simp only [st_s] <;> omega) | assumption | omega)) (show (τ42.1 12) ≤ n4 from by (first | omega | (simp only [st_s] <;> omega) | assumption | omega)) (show (τ42.1 13) ≤ n5 from by (first | omega | (simp only [st_s] <;> omega) | assumption | omega)) (show (n2 = 0 ∨ (τ42.1 6) = σ.2.1 14 (n2 - 1) + σ.2.1 15 (n2 - 1)) from by (first | omega | (simp only [st_s] <;> omega) | assumption | omega)) (show (n2 = 0 ∨ (τ42.1 7) = σ.2.1 18 (n2 - 1) + σ.2.1 19 (n2 - 1)) ∧ (τ42.1 7) ≤ 60 * n2 from by (first | omega | (simp only [st_s] <;> omega) | assumption | omega)) (show (n2 = 0 ∨ (τ42.1 8) = σ.2.1 21 (n2 - 1) + σ.2.1 22 (n2 - 1)) from by (first | omega | (simp only [st_s] <;> omega) | assumption | omega)) (show (n2 = 0 ∨ (τ42.1 9) = σ.2.1 25 (n2 - 1) + σ.2.1 26 (n2 - 1)) from by (first | omega | (simp only [st_s] <;> omega) | assumption | omega)) (show 0 ≤ 0 ∧ 0 ≤ n1 from by (first | omega | (simp only [st_s] <;> omega) | assumption | omega)) (show (τ42.1 4) = ca (σ.2.1 53) n1 from by (first | omega | (rw [show n1 = u7_185 from by omega]; omega))) (show j_e0 n1 (σ.2.1 53) (τ42.2.1 12) from by (first | (rw [g12_τ46]; assumption) | (rw [g12_τ42, g12_τ_337]; exact j_e0w i185_11 (by omega)))) (show j_e0 n1 (σ.2.1 52) (τ42.2.1 9) from by (first | (rw [g9_τ46]; assumption) | (rw [g9_τ42, g9_τ_337]; exact j_e0w i185_12 (by omega)))) (show oc (τ42.2.1 6) ≤ 0 from by (first | omega | (have := oc_0 q40_1; omega))) (show j_l2 (τ42.2.1 6) n1 from by (first | (have q9 := q44_2; obtain ⟨e, he⟩ := q9; rw [he]; exact j_l2s i347_14 (Int.le_refl _) (by omega)) | (intro e h0 h1; rw [q40_1 e h0 h1]; omega))) (show oc (τ42.2.1 7) = 0 from by (first | omega | exact oc_0 q40_2))
          ·
            obtain ⟨τ_337, e_τ_337⟩ : ∃ z : S0, z = s_v τ_185 10 (-1) := ⟨_, rfl⟩
            rw [← e_τ_337]
            replace hT : m_T τ_337 := by rw [e_τ_337]; exact hT
            have w3_τ_337 : τ_337.1 3 = τ_185.1 3 := by rw [e_τ_337]; rfl
            have w4_τ_337 : τ_337.1 4 = τ_185.1 4 := by rw [e_τ_337]; rfl
            have w5_τ_337 : τ_337.1 5 = τ_185.1 5 := by rw [e_τ_337]; rfl
            have w6_τ_337 : τ_337.1 6 = τ_185.1 6 := by rw [e_τ_337]; rfl
            have w7_τ_337 : τ_337.1 7 = τ_185.1 7 := by rw [e_τ_337]; rfl
            have w8_τ_337 : τ_337.1 8 = τ_185.1 8 := by rw [e_τ_337]; rfl
            have w9_τ_337 : τ_337.1 9 = τ_185.1 9 := by rw [e_τ_337]; rfl
            have w10_τ_337 : τ_337.1 10 = (-1) := by rw [e_τ_337]; rfl
            have w11_τ_337 : τ_337.1 11 = τ_185.1 11 := by rw [e_τ_337]; rfl
            have w12_τ_337 : τ_337.1 12 = τ_185.1 12 := by rw [e_τ_337]; rfl
            have w13_τ_337 : τ_337.1 13 = τ_185.1 13 := by rw [e_τ_337]; rfl
            have w14_τ_337 : τ_337.1 14 = τ_185.1 14 := by rw [e_τ_337]; rfl
            have g6_τ_337 : τ_337.2.1 6 = τ_185.2.1 6 := by rw [e_τ_337]; rfl
            have g7_τ_337 : τ_337.2.1 7 = τ_185.2.1 7 := by rw [e_τ_337]; rfl
            have g9_τ_337 : τ_337.2.1 9 = τ_185.2.1 9 := by rw [e_τ_337]; rfl
            have g12_τ_337 : τ_337.2.1 12 = τ_185.2.1 12 := by rw [e_τ_337]; rfl
            have g14_τ_337 : τ_337.2.1 14 = τ_185.2.1 14 := by rw [e_τ_337]; rfl
            have g15_τ_337 : τ_337.2.1 15 = τ_185.2.1 15 := by rw [e_τ_337]; rfl
            have g18_τ_337 : τ_337.2.1 18 = τ_185.2.1 18 := by rw [e_τ_337]; rfl
            have g19_τ_337 : τ_337.2.1 19 = τ_185.2.1 19 := by rw [e_τ_337]; rfl
            have g21_τ_337 : τ_337.2.1 21 = τ_185.2.1 21 := by rw [e_τ_337]; rfl
            have g22_τ_337 : τ_337.2.1 22 = τ_185.2.1 22 := by rw [e_τ_337]; rfl
            have g25_τ_337 : τ_337.2.1 25 = τ_185.2.1 25 := by rw [e_τ_337]; rfl
            have g26_τ_337 : τ_337.2.1 26 = τ_185.2.1 26 := by rw [e_τ_337]; rfl
            have g51_τ_337 : τ_337.2.1 51 = τ_185.2.1 51 := by rw [e_τ_337]; rfl
            have g52_τ_337 : τ_337.2.1 52 = τ_185.2.1 52 := by rw [e_τ_337]; rfl
            have g53_τ_337 : τ_337.2.1 53 = τ_185.2.1 53 := by rw [e_τ_337]; rfl
            first | (have ca_τ_337 := congr (congrArg ca g9_τ_337) w3_τ_337) | skip
            first | (have o6_τ_337 := congrArg oc g6_τ_337) | skip
            first | (have o7_τ_337 := congrArg oc g7_τ_337) | skip
            have G14 : τ_337.2.1 14 = σ.2.1 14 := (g14_τ_337).trans G14
            have G15 : τ_337.2.1 15 = σ.2.1 15 := (g15_τ_337).trans G15
            have G18 : τ_337.2.1 18 = σ.2.1 18 := (g18_τ_337).trans G18
            have G19 : τ_337.2.1 19 = σ.2.1 19 := (g19_τ_337).trans G19
            have G21 : τ_337.2.1 21 = σ.2.1 21 := (g21_τ_337).trans G21
            have G22 : τ_337.2.1 22 = σ.2.1 22 := (g22_τ_337).trans G22
            have G25 : τ_337.2.1 25 = σ.2.1 25 := (g25_τ_337).trans G25
            have G26 : τ_337.2.1 26 = σ.2.1 26 := (g26_τ_337).trans G26
            have G51 : τ_337.2.1 51 = σ.2.1 51 := (g51_τ_337).trans G51
            have G52 : τ_337.2.1 52 = σ.2.1 52 := (g52_τ_337).trans G52
            have G53 : τ_337.2.1 53 = σ.2.1 53 := (g53_τ_337).trans G53
            have A6 : ∀ j, (-1) ≤ τ_337.2.1 6 j ∧ τ_337.2.1 6 j ≤ 999 := fun j => hT.2 6 j
            have A7 : ∀ j, (-1) ≤ τ_337.2.1 7 j ∧ τ_337.2.1 7 j ≤ 1499 := fun j => hT.2 7 j
            have A9 : ∀ j, 0 ≤ τ_337.2.1 9 j ∧ τ_337.2.1 9 j ≤ 1 := fun j => hT.2 9 j
            have A12 : ∀ j, 0 ≤ τ_337.2.1 12 j ∧ τ_337.2.1 12 j ≤ 1 := fun j => hT.2 12 j
            have A14 : ∀ j, 0 ≤ τ_337.2.1 14 j ∧ τ_337.2.1 14 j ≤ 30000 := fun j => hT.2 14 j
            have A15 : ∀ j, 0 ≤ τ_337.2.1 15 j ∧ τ_337.2.1 15 j ≤ 300 := fun j => hT.2 15 j
            have A18 : ∀ j, 0 ≤ τ_337.2.1 18 j ∧ τ_337.2.1 18 j ≤ 90000 := fun j => hT.2 18 j
            have A19 : ∀ j, 0 ≤ τ_337.2.1 19 j ∧ τ_337.2.1 19 j ≤ 60 := fun j => hT.2 19 j
            have A21 : ∀ j, 0 ≤ τ_337.2.1 21 j ∧ τ_337.2.1 21 j ≤ 20000 := fun j => hT.2 21 j
            have A22 : ∀ j, 0 ≤ τ_337.2.1 22 j ∧ τ_337.2.1 22 j ≤ 20000 := fun j => hT.2 22 j
            have A25 : ∀ j, 0 ≤ τ_337.2.1 25 j ∧ τ_337.2.1 25 j ≤ 20000 := fun j => hT.2 25 j
            have A26 : ∀ j, 0 ≤ τ_337.2.1 26 j ∧ τ_337.2.1 26 j ≤ 20000 := fun j => hT.2 26 j
            have A51 : ∀ j, 0 ≤ τ_337.2.1 51 j ∧ τ_337.2.1 51 j ≤ 1 := fun j => hT.2 51 j
            have A52 : ∀ j, 0 ≤ τ_337.2.1 52 j ∧ τ_337.2.1 52 j ≤ 1 := fun j => hT.2 52 j
            have A53 : ∀ j, 0 ≤ τ_337.2.1 53 j ∧ τ_337.2.1 53 j ≤ 1 := fun j => hT.2 53 j
            have v3 : 0 ≤ τ_337.1 3 ∧ τ_337.1 3 ≤ 1000 := hT.1 3
            have v4 : 0 ≤ τ_337.1 4 ∧ τ_337.1 4 ≤ 100 := hT.1 4
            have v5 : 0 ≤ τ_337.1 5 ∧ τ_337.1 5 ≤ 1500 := hT.1 5
            have v6 : 0 ≤ τ_337.1 6 ∧ τ_337.1 6 ≤ 30000 := hT.1 6
            have v7 : 0 ≤ τ_337.1 7 ∧ τ_337.1 7 ≤ 90000 := hT.1 7
            have v8 : 0 ≤ τ_337.1 8 ∧ τ_337.1 8 ≤ 20000 := hT.1 8
            have v9 : 0 ≤ τ_337.1 9 ∧ τ_337.1 9 ≤ 20000 := hT.1 9
            have v10 : (-1) ≤ τ_337.1 10 ∧ τ_337.1 10 ≤ 999 := hT.1 10
            have v11 : (-1) ≤ τ_337.1 11 ∧ τ_337.1 11 ≤ 999 := hT.1 11
            have v12 : 0 ≤ τ_337.1 12 ∧ τ_337.1 12 ≤ 1000 := hT.1 12
            have v13 : 0 ≤ τ_337.1 13 ∧ τ_337.1 13 ≤ 1500 := hT.1 13
            have v14 : 0 ≤ τ_337.1 14 ∧ τ_337.1 14 ≤ 1000 := hT.1 14
            refine h337 _ _ ?_
            replace hT := mT_v (i := 11) hT (show (-1 : Int) ≤ (-1) ∧ (-1) ≤ 999 from by (first | omega | (simp only [st_s] <;> omega) | assumption | omega))
            refine ⟨_, K2_X13_clearTables hT, ?_⟩
            intro τ42 hn_τ42 hf_τ42 hq
            obtain ⟨hT, q40_1, q40_2⟩ := hq
            replace q40_1 : ∀ e : Int, 0 ≤ e → e < 4096 → τ42.2.1 6 e = -1 := q40_1
            replace q40_2 : ∀ e : Int, 0 ≤ e → e < 4096 → τ42.2.1 7 e = -1 := q40_2
            have w3_τ42 : τ42.1 3 = τ_337.1 3 := hf_τ42.1 3 (by decide)
            have w4_τ42 : τ42.1 4 = τ_337.1 4 := hf_τ42.1 4 (by decide)
            have w5_τ42 : τ42.1 5 = τ_337.1 5 := hf_τ42.1 5 (by decide)
            have w6_τ42 : τ42.1 6 = τ_337.1 6 := hf_τ42.1 6 (by decide)
            have w7_τ42 : τ42.1 7 = τ_337.1 7 := hf_τ42.1 7 (by decide)
            have w8_τ42 : τ42.1 8 = τ_337.1 8 := hf_τ42.1 8 (by decide)
            have w9_τ42 : τ42.1 9 = τ_337.1 9 := hf_τ42.1 9 (by decide)
            have w10_τ42 : τ42.1 10 = τ_337.1 10 := hf_τ42.1 10 (by decide)
            have w11_τ42 : τ42.1 11 = (-1) := hf_τ42.1 11 (by decide)
            have w12_τ42 : τ42.1 12 = τ_337.1 12 := hf_τ42.1 12 (by decide)
            have w13_τ42 : τ42.1 13 = τ_337.1 13 := hf_τ42.1 13 (by decide)
            have w14_τ42 : τ42.1 14 = τ_337.1 14 := hf_τ42.1 14 (by decide)
            have g9_τ42 : τ42.2.1 9 = τ_337.2.1 9 := hf_τ42.2.1 9 (by decide)
            have g12_τ42 : τ42.2.1 12 = τ_337.2.1 12 := hf_τ42.2.1 12 (by decide)
            have g14_τ42 : τ42.2.1 14 = τ_337.2.1 14 := hf_τ42.2.1 14 (by decide)
            have g15_τ42 : τ42.2.1 15 = τ_337.2.1 15 := hf_τ42.2.1 15 (by decide)
            have g18_τ42 : τ42.2.1 18 = τ_337.2.1 18 := hf_τ42.2.1 18 (by decide)
            have g19_τ42 : τ42.2.1 19 = τ_337.2.1 19 := hf_τ42.2.1 19 (by decide)
            have g21_τ42 : τ42.2.1 21 = τ_337.2.1 21 := hf_τ42.2.1 21 (by decide)
            have g22_τ42 : τ42.2.1 22 = τ_337.2.1 22 := hf_τ42.2.1 22 (by decide)
            have g25_τ42 : τ42.2.1 25 = τ_337.2.1 25 := hf_τ42.2.1 25 (by decide)
            have g26_τ42 : τ42.2.1 26 = τ_337.2.1 26 := hf_τ42.2.1 26 (by decide)
            have g51_τ42 : τ42.2.1 51 = τ_337.2.1 51 := hf_τ42.2.1 51 (by decide)
            have g52_τ42 : τ42.2.1 52 = τ_337.2.1 52 := hf_τ42.2.1 52 (by decide)
            have g53_τ42 : τ42.2.1 53 = τ_337.2.1 53 := hf_τ42.2.1 53 (by decide)
            first | (have ca_τ42 := congr (congrArg ca g9_τ42) w3_τ42) | skip
            first | (have o6_τ42 := congrArg oc g6_τ42) | skip
            first | (have o7_τ42 := congrArg oc g7_τ42) | skip
            have G14 : τ42.2.1 14 = σ.2.1 14 := (g14_τ42).trans G14
            have G15 : τ42.2.1 15 = σ.2.1 15 := (g15_τ42).trans G15
            have G18 : τ42.2.1 18 = σ.2.1 18 := (g18_τ42).trans G18
            have G19 : τ42.2.1 19 = σ.2.1 19 := (g19_τ42).trans G19
            have G21 : τ42.2.1 21 = σ.2.1 21 := (g21_τ42).trans G21
            have G22 : τ42.2.1 22 = σ.2.1 22 := (g22_τ42).trans G22
            have G25 : τ42.2.1 25 = σ.2.1 25 := (g25_τ42).trans G25
            have G26 : τ42.2.1 26 = σ.2.1 26 := (g26_τ42).trans G26
            have G51 : τ42.2.1 51 = σ.2.1 51 := (g51_τ42).trans G51
            have G52 : τ42.2.1 52 = σ.2.1 52 := (g52_τ42).trans G52
            have G53 : τ42.2.1 53 = σ.2.1 53 := (g53_τ42).trans G53
            have A6 : ∀ j, (-1) ≤ τ42.2.1 6 j ∧ τ42.2.1 6 j ≤ 999 := fun j => hT.2 6 j
            have A7 : ∀ j, (-1) ≤ τ42.2.1 7 j ∧ τ42.2.1 7 j ≤ 1499 := fun j => hT.2 7 j
            have A9 : ∀ j, 0 ≤ τ42.2.1 9 j ∧ τ42.2.1 9 j ≤ 1 := fun j => hT.2 9 j
            have A12 : ∀ j, 0 ≤ τ42.2.1 12 j ∧ τ42.2.1 12 j ≤ 1 := fun j => hT.2 12 j
            have A14 : ∀ j, 0 ≤ τ42.2.1 14 j ∧ τ42.2.1 14 j ≤ 30000 := fun j => hT.2 14 j
            have A15 : ∀ j, 0 ≤ τ42.2.1 15 j ∧ τ42.2.1 15 j ≤ 300 := fun j => hT.2 15 j
            have A18 : ∀ j, 0 ≤ τ42.2.1 18 j ∧ τ42.2.1 18 j ≤ 90000 := fun j => hT.2 18 j
            have A19 : ∀ j, 0 ≤ τ42.2.1 19 j ∧ τ42.2.1 19 j ≤ 60 := fun j => hT.2 19 j
            have A21 : ∀ j, 0 ≤ τ42.2.1 21 j ∧ τ42.2.1 21 j ≤ 20000 := fun j => hT.2 21 j
            have A22 : ∀ j, 0 ≤ τ42.2.1 22 j ∧ τ42.2.1 22 j ≤ 20000 := fun j => hT.2 22 j
            have A25 : ∀ j, 0 ≤ τ42.2.1 25 j ∧ τ42.2.1 25 j ≤ 20000 := fun j => hT.2 25 j
            have A26 : ∀ j, 0 ≤ τ42.2.1 26 j ∧ τ42.2.1 26 j ≤ 20000 := fun j => hT.2 26 j
            have A51 : ∀ j, 0 ≤ τ42.2.1 51 j ∧ τ42.2.1 51 j ≤ 1 := fun j => hT.2 51 j
            have A52 : ∀ j, 0 ≤ τ42.2.1 52 j ∧ τ42.2.1 52 j ≤ 1 := fun j => hT.2 52 j
            have A53 : ∀ j, 0 ≤ τ42.2.1 53 j ∧ τ42.2.1 53 j ≤ 1 := fun j => hT.2 53 j
            have v3 : 0 ≤ τ42.1 3 ∧ τ42.1 3 ≤ 1000 := hT.1 3
            have v4 : 0 ≤ τ42.1 4 ∧ τ42.1 4 ≤ 100 := hT.1 4
            have v5 : 0 ≤ τ42.1 5 ∧ τ42.1 5 ≤ 1500 := hT.1 5
            have v6 : 0 ≤ τ42.1 6 ∧ τ42.1 6 ≤ 30000 := hT.1 6
            have v7 : 0 ≤ τ42.1 7 ∧ τ42.1 7 ≤ 90000 := hT.1 7
            have v8 : 0 ≤ τ42.1 8 ∧ τ42.1 8 ≤ 20000 := hT.1 8
            have v9 : 0 ≤ τ42.1 9 ∧ τ42.1 9 ≤ 20000 := hT.1 9
            have v10 : (-1) ≤ τ42.1 10 ∧ τ42.1 10 ≤ 999 := hT.1 10
            have v11 : (-1) ≤ τ42.1 11 ∧ τ42.1 11 ≤ 999 := hT.1 11
            have v12 : 0 ≤ τ42.1 12 ∧ τ42.1 12 ≤ 1000 := hT.1 12
            have v13 : 0 ≤ τ42.1 13 ∧ τ42.1 13 ≤ 1500 := hT.1 13
            have v14 : 0 ≤ τ42.1 14 ∧ τ42.1 14 ≤ 1000 := hT.1 14
            exact l_347 ((1001 - 0 : Int).toNat + 1) _ _ (show (1001 - 0 : Int) < (((1001 - 0 : Int).toNat + 1 : Nat) : Int) from by ((first | omega | (simp only [st_s] <;> omega) | assumption | omega))) hT G14 G15 G18 G19 G21 G22 G25 G26 G51 G52 G53 (show (τ42.1 3) = n1 from by (first | omega | (simp only [st_s] <;> omega) | assumption | omega)) (show (τ42.1 5) = n2 from by (first | omega | (simp only [st_s] <;> omega) | assumption | omega)) (show (τ42.1 12) ≤ n4 from by (first | omega | (simp only [st_s] <;> omega) | assumption | omega)) (show (τ42.1 13) ≤ n5 from by (first | omega | (simp only [st_s] <;> omega) | assumption | omega)) (show (n2 = 0 ∨ (τ42.1 6) = σ.2.1 14 (n2 - 1) + σ.2.1 15 (n2 - 1)) from by (first | omega | (simp only [st_s] <;> omega) | assumption | omega)) (show (n2 = 0 ∨ (τ42.1 7) = σ.2.1 18 (n2 - 1) + σ.2.1 19 (n2 - 1)) ∧ (τ42.1 7) ≤ 60 * n2 from by (first | omega | (simp only [st_s] <;> omega) | assumption | omega)) (show (n2 = 0 ∨ (τ42.1 8) = σ.2.1 21 (n2 - 1) + σ.2.1 22 (n2 - 1)) from by (first | omega | (simp only [st_s] <;> omega) | assumption | omega)) (show (n2 = 0 ∨ (τ42.1 9) = σ.2.1 25 (n2 - 1) + σ.2.1 26 (n2 - 1)) from by (first | omega | (simp only [st_s] <;> omega) | assumption | omega)) (show 0 ≤ 0 ∧ 0 ≤ n1 from by (first | omega | (simp only [st_s] <;> omega) | assumption | omega)) (show (τ42.1 4) = ca (σ.2.1 53) n1 from by (first | omega | (rw [show n1 = u7_185 from by omega]; omega))) (show j_e0 n1 (σ.2.1 53) (τ42.2.1 12) from by (first | (rw [g12_τ46]; assumption) | (rw [g12_τ42, g12_τ_337]; exact j_e0w i185_11 (by omega)))) (show j_e0 n1 (σ.2.1 52) (τ42.2.1 9) from by (first | (rw [g9_τ46]; assumption) | (rw [g9_τ42, g9_τ_337]; exact j_e0w i185_12 (by omega)))) (show oc (τ42.2.1 6) ≤ 0 from by (first | omega | (have := oc_0 q40_1; omega))) (show j_l2 (τ42.2.1 6) n1 from by (first | (have q9 := q44_2; obtain ⟨e, he⟩ := q9; rw [he]; exact j_l2s i347_14 (Int.le_refl _) (by omega)) | (intro e h0 h1; rw [q40_1 e h0 h1]; omega))) (show oc (τ42.2.1 7) = 0 from by (first | omega | exact oc_0 q40_2))
      ·
        refine ⟨(show 0 ≤ u7_185 ∧ u7_185 < 1001 from by (first | omega | (simp only [st_s] <;> omega) | assumption | omega)), ?_⟩
        intro x27 r_x27 e_x27
        have b_x27 : 0 ≤ x27 ∧ x27 ≤ 1 := by rw [e_x27]; exact hT.2 51 _
        refine ⟨(show 0 ≤ x27 ∧ x27 ≤ 1 from by (first | omega | (simp only [st_s] <;> omega) | assumption | omega)), ?_⟩
        replace hT := mT_a (k := 8) (j := u7_185) hT (show (0 : Int) ≤ x27 ∧ x27 ≤ 1 from by (first | omega | (simp only [st_s] <;> omega) | assumption | omega))
        intro x29 r_x29 e_x29
        have b_x29 : 0 ≤ x29 ∧ x29 ≤ 1 := by rw [e_x29]; exact hT.2 52 _
        refine ⟨(show 0 ≤ x29 ∧ x29 ≤ 1 from by (first | omega | (simp only [st_s] <;> omega) | assumption | omega)), ?_⟩
        replace hT := mT_a (k := 9) (j := u7_185) hT (show (0 : Int) ≤ x29 ∧ x29 ≤ 1 from by (first | omega | (simp only [st_s] <;> omega) | assumption | omega))
        intro x31 r_x31 e_x31
        have b_x31 : 0 ≤ x31 ∧ x31 ≤ 1 := by rw [e_x31]; exact hT.2 53 _
        refine ⟨(show 0 ≤ x31 ∧ x31 ≤ 1 from by (first | omega | (simp only [st_s] <;> omega) | assumption | omega)), ?_⟩
        replace hT := mT_a (k := 12) (j := u7_185) hT (show (0 : Int) ≤ x31 ∧ x31 ≤ 1 from by (first | omega | (simp only [st_s] <;> omega) | assumption | omega))
        intro x33 r_x33 e_x33
        have b_x33 : (-1) ≤ x33 ∧ x33 ≤ 999 := by rw [e_x33]; exact hT.2 54 _
        replace hT := mT_a (k := 10) (j := u7_185) hT (show (-1 : Int) ≤ x33 ∧ x33 ≤ 999 from by (first | omega | (simp only [st_s] <;> omega) | assumption | omega))
        intro x34 r_x34 e_x34
        have b_x34 : (-1) ≤ x34 ∧ x34 ≤ 1499 := by rw [e_x34]; exact hT.2 55 _
        replace hT := mT_a (k := 11) (j := u7_185) hT (show (-1 : Int) ≤ x34 ∧ x34 ≤ 1499 from by (first | omega | (simp only [st_s] <;> omega) | assumption | omega))
        intro x35 r_x35 e_x35
        have b_x35 : 0 ≤ x35 ∧ x35 ≤ 1 := by rw [e_x35]; exact hT.2 12 _
        refine ⟨fun c36 => ?_, fun c36 => ?_⟩
        ·
          rw [st_s] at e_x35
          rw [G53] at e_x31
          rw [G52] at e_x29
          exact l_284 _ _ _ _ hT G14 G15 G18 G19 G21 G22 G25 G26 G51 G52 G53 (show (τ_185.1 3) = n1 from by (first | omega | (simp only [st_s] <;> omega) | assumption | omega)) (show (τ_185.1 5) = n2 from by (first | omega | (simp only [st_s] <;> omega) | assumption | omega)) (show (τ_185.1 12) ≤ n4 from by (first | omega | (simp only [st_s] <;> omega) | assumption | omega)) (show (τ_185.1 13) ≤ n5 from by (first | omega | (simp only [st_s] <;> omega) | assumption | omega)) (show (n2 = 0 ∨ (τ_185.1 6) = σ.2.1 14 (n2 - 1) + σ.2.1 15 (n2 - 1)) from by (first | omega | (simp only [st_s] <;> omega) | assumption | omega)) (show (n2 = 0 ∨ (τ_185.1 7) = σ.2.1 18 (n2 - 1) + σ.2.1 19 (n2 - 1)) ∧ (τ_185.1 7) ≤ 60 * n2 from by (first | omega | (simp only [st_s] <;> omega) | assumption | omega)) (show (n2 = 0 ∨ (τ_185.1 8) = σ.2.1 21 (n2 - 1) + σ.2.1 22 (n2 - 1)) from by (first | omega | (simp only [st_s] <;> omega) | assumption | omega)) (show (n2 = 0 ∨ (τ_185.1 9) = σ.2.1 25 (n2 - 1) + σ.2.1 26 (n2 - 1)) from by (first | omega | (simp only [st_s] <;> omega) | assumption | omega)) (show 0 ≤ u7_185 ∧ u7_185 < n1 from by (first | omega | (simp only [st_s] <;> omega) | assumption | omega)) (show (σ.2.1 53 u7_185 = 0 ∧ 0 = 0) ∨ (¬ σ.2.1 53 u7_185 = 0 ∧ 0 = 1) from by (first | omega | (simp only [st_s] <;> omega) | assumption | omega)) (show (τ_185.1 4) = ca (σ.2.1 53) u7_185 from by (first | omega | (simp only [st_s] <;> omega) | assumption | omega)) (show (τ_185.1 4) = ca (σ.2.1 53) u7_185 from by (first | omega | (simp only [st_s] <;> omega) | assumption | omega)) (show j_e0 (u7_185 + 1) (σ.2.1 53) ((st (τ_185.2.1 12) u7_185 x31)) from by (rw [e_x31]; exact j_e0p i185_11)) (show j_e0 (u7_185 + 1) (σ.2.1 52) ((st (τ_185.2.1 9) u7_185 x29)) from by (rw [e_x29]; exact j_e0p i185_12)) (show u7_185 + (m_185 : Int) ≥ 1001 from by (first | omega | (simp only [st_s] <;> omega) | assumption | omega))
        ·
          rw [st_s] at e_x35
          rw [G53] at e_x31
          rw [G52] at e_x29
          exact l_284 _ _ _ _ hT G14 G15 G18 G19 G21 G22 G25 G26 G51 G52 G53 (show (τ_185.1 3) = n1 from by (first | omega | (simp only [st_s] <;> omega) | assumption | omega)) (show (τ_185.1 5) = n2 from by (first | omega | (simp only [st_s] <;> omega) | assumption | omega)) (show (τ_185.1 12) ≤ n4 from by (first | omega | (simp only [st_s] <;> omega) | assumption | omega)) (show (τ_185.1 13) ≤ n5 from by (first | omega | (simp only [st_s] <;> omega) | assumption | omega)) (show (n2 = 0 ∨ (τ_185.1 6) = σ.2.1 14 (n2 - 1) + σ.2.1 15 (n2 - 1)) from by (first | omega | (simp only [st_s] <;> omega) | assumption | omega)) (show (n2 = 0 ∨ (τ_185.1 7) = σ.2.1 18 (n2 - 1) + σ.2.1 19 (n2 - 1)) ∧ (τ_185.1 7) ≤ 60 * n2 from by (first | omega | (simp only [st_s] <;> omega) | assumption | omega)) (show (n2 = 0 ∨ (τ_185.1 8) = σ.2.1 21 (n2 - 1) + σ.2.1 22 (n2 - 1)) from by (first | omega | (simp only [st_s] <;> omega) | assumption | omega)) (show (n2 = 0 ∨ (τ_185.1 9) = σ.2.1 25 (n2 - 1) + σ.2.1 26 (n2 - 1)) from by (first | omega | (simp only [st_s] <;> omega) | assumption | omega)) (show 0 ≤ u7_185 ∧ u7_185 < n1 from by (first | omega | (simp only [st_s] <;> omega) | assumption | omega)) (show (σ.2.1 53 u7_185 = 0 ∧ 1 = 0) ∨ (¬ σ.2.1 53 u7_185 = 0 ∧ 1 = 1) from by (first | omega | (simp only [st_s] <;> omega) | assumption | omega)) (show (τ_185.1 4) = ca (σ.2.1 53) u7_185 from by (first | omega | (simp only [st_s] <;> omega) | assumption | omega)) (show (τ_185.1 4) = ca (σ.2.1 53) u7_185 from by (first | omega | (simp only [st_s] <;> omega) | assumption | omega)) (show j_e0 (u7_185 + 1) (σ.2.1 53) ((st (τ_185.2.1 12) u7_185 x31)) from by (rw [e_x31]; exact j_e0p i185_11)) (show j_e0 (u7_185 + 1) (σ.2.1 52) ((st (τ_185.2.1 9) u7_185 x29)) from by (rw [e_x29]; exact j_e0p i185_12)) (show u7_185 + (m_185 : Int) ≥ 1001 from by (first | omega | (simp only [st_s] <;> omega) | assumption | omega))
  have l_174 : ∀ (k1_174 : Int) (τ_174 : S0), (m_T τ_174) → (τ_174.2.1 14 = σ.2.1 14) → (τ_174.2.1 15 = σ.2.1 15) → (τ_174.2.1 18 = σ.2.1 18) → (τ_174.2.1 19 = σ.2.1 19) → (τ_174.2.1 21 = σ.2.1 21) → (τ_174.2.1 22 = σ.2.1 22) → (τ_174.2.1 25 = σ.2.1 25) → (τ_174.2.1 26 = σ.2.1 26) → (τ_174.2.1 51 = σ.2.1 51) → (τ_174.2.1 52 = σ.2.1 52) → (τ_174.2.1 53 = σ.2.1 53) → ((τ_174.1 3) = n1) → ((τ_174.1 5) = n2) → ((τ_174.1 12) ≤ n4) → ((τ_174.1 13) ≤ n5) → (n2 = 0 ∨ (τ_174.1 6) = σ.2.1 14 (n2 - 1) + σ.2.1 15 (n2 - 1)) → ((n2 = 0 ∨ (τ_174.1 7) = σ.2.1 18 (n2 - 1) + σ.2.1 19 (n2 - 1)) ∧ (τ_174.1 7) ≤ 60 * n2) → (n2 = 0 ∨ (τ_174.1 8) = σ.2.1 21 (n2 - 1) + σ.2.1 22 (n2 - 1)) → (n2 = 0 ∨ k1_174 = σ.2.1 25 (n2 - 1) + σ.2.1 26 (n2 - 1)) → (0 ≤ k1_174) → (k1_174 ≤ 20000) → P174 k1_174 τ_174 := by
    intro k1_174 τ_174 hT G14 G15 G18 G19 G21 G22 G25 G26 G51 G52 G53 i174_1 i174_2 i174_3 i174_4 i174_5 i174_6 i174_7 i174_8 i174_9 i174_10
    have A6 : ∀ j, (-1) ≤ τ_174.2.1 6 j ∧ τ_174.2.1 6 j ≤ 999 := fun j => hT.2 6 j
    have A7 : ∀ j, (-1) ≤ τ_174.2.1 7 j ∧ τ_174.2.1 7 j ≤ 1499 := fun j => hT.2 7 j
    have A9 : ∀ j, 0 ≤ τ_174.2.1 9 j ∧ τ_174.2.1 9 j ≤ 1 := fun j => hT.2 9 j
    have A12 : ∀ j, 0 ≤ τ_174.2.1 12 j ∧ τ_174.2.1 12 j ≤ 1 := fun j => hT.2 12 j
    have A14 : ∀ j, 0 ≤ τ_174.2.1 14 j ∧ τ_174.2.1 14 j ≤ 30000 := fun j => hT.2 14 j
    have A15 : ∀ j, 0 ≤ τ_174.2.1 15 j ∧ τ_174.2.1 15 j ≤ 300 := fun j => hT.2 15 j
    have A18 : ∀ j, 0 ≤ τ_174.2.1 18 j ∧ τ_174.2.1 18 j ≤ 90000 := fun j => hT.2 18 j
    have A19 : ∀ j, 0 ≤ τ_174.2.1 19 j ∧ τ_174.2.1 19 j ≤ 60 := fun j => hT.2 19 j
    have A21 : ∀ j, 0 ≤ τ_174.2.1 21 j ∧ τ_174.2.1 21 j ≤ 20000 := fun j => hT.2 21 j
    have A22 : ∀ j, 0 ≤ τ_174.2.1 22 j ∧ τ_174.2.1 22 j ≤ 20000 := fun j => hT.2 22 j
    have A25 : ∀ j, 0 ≤ τ_174.2.1 25 j ∧ τ_174.2.1 25 j ≤ 20000 := fun j => hT.2 25 j
    have A26 : ∀ j, 0 ≤ τ_174.2.1 26 j ∧ τ_174.2.1 26 j ≤ 20000 := fun j => hT.2 26 j
    have A51 : ∀ j, 0 ≤ τ_174.2.1 51 j ∧ τ_174.2.1 51 j ≤ 1 := fun j => hT.2 51 j
    have A52 : ∀ j, 0 ≤ τ_174.2.1 52 j ∧ τ_174.2.1 52 j ≤ 1 := fun j => hT.2 52 j
    have A53 : ∀ j, 0 ≤ τ_174.2.1 53 j ∧ τ_174.2.1 53 j ≤ 1 := fun j => hT.2 53 j
    have v3 : 0 ≤ τ_174.1 3 ∧ τ_174.1 3 ≤ 1000 := hT.1 3
    have v4 : 0 ≤ τ_174.1 4 ∧ τ_174.1 4 ≤ 100 := hT.1 4
    have v5 : 0 ≤ τ_174.1 5 ∧ τ_174.1 5 ≤ 1500 := hT.1 5
    have v6 : 0 ≤ τ_174.1 6 ∧ τ_174.1 6 ≤ 30000 := hT.1 6
    have v7 : 0 ≤ τ_174.1 7 ∧ τ_174.1 7 ≤ 90000 := hT.1 7
    have v8 : 0 ≤ τ_174.1 8 ∧ τ_174.1 8 ≤ 20000 := hT.1 8
    have v9 : 0 ≤ τ_174.1 9 ∧ τ_174.1 9 ≤ 20000 := hT.1 9
    have v10 : (-1) ≤ τ_174.1 10 ∧ τ_174.1 10 ≤ 999 := hT.1 10
    have v11 : (-1) ≤ τ_174.1 11 ∧ τ_174.1 11 ≤ 999 := hT.1 11
    have v12 : 0 ≤ τ_174.1 12 ∧ τ_174.1 12 ≤ 1000 := hT.1 12
    have v13 : 0 ≤ τ_174.1 13 ∧ τ_174.1 13 ≤ 1500 := hT.1 13
    have v14 : 0 ≤ τ_174.1 14 ∧ τ_174.1 14 ≤ 1000 := hT.1 14
    refine h174 k1_174 τ_174 ?_
    replace hT := mT_v (i := 9) hT (show 0 ≤ k1_174 ∧ k1_174 ≤ 20000 from by (first | omega | (simp only [st_s] <;> omega) | assumption | omega))
    replace hT := mT_v (i := 4) hT (show (0 : Int) ≤ 0 ∧ 0 ≤ 100 from by (first | omega | (simp only [st_s] <;> omega) | assumption | omega))
    exact l_185 ((1001 - 0 : Int).toNat + 1) _ _ (show (1001 - 0 : Int) < (((1001 - 0 : Int).toNat + 1 : Nat) : Int) from by ((first | omega | (simp only [st_s] <;> omega) | assumption | omega))) hT G14 G15 G18 G19 G21 G22 G25 G26 G51 G52 G53 (show (τ_174.1 3) = n1 from by (first | omega | (simp only [st_s] <;> omega) | assumption | omega)) (show (τ_174.1 5) = n2 from by (first | omega | (simp only [st_s] <;> omega) | assumption | omega)) (show (τ_174.1 12) ≤ n4 from by (first | omega | (simp only [st_s] <;> omega) | assumption | omega)) (show (τ_174.1 13) ≤ n5 from by (first | omega | (simp only [st_s] <;> omega) | assumption | omega)) (show (n2 = 0 ∨ (τ_174.1 6) = σ.2.1 14 (n2 - 1) + σ.2.1 15 (n2 - 1)) from by (first | omega | (simp only [st_s] <;> omega) | assumption | omega)) (show (n2 = 0 ∨ (τ_174.1 7) = σ.2.1 18 (n2 - 1) + σ.2.1 19 (n2 - 1)) ∧ (τ_174.1 7) ≤ 60 * n2 from by (first | omega | (simp only [st_s] <;> omega) | assumption | omega)) (show (n2 = 0 ∨ (τ_174.1 8) = σ.2.1 21 (n2 - 1) + σ.2.1 22 (n2 - 1)) from by (first | omega | (simp only [st_s] <;> omega) | assumption | omega)) (show (n2 = 0 ∨ (k1_174) = σ.2.1 25 (n2 - 1) + σ.2.1 26 (n2 - 1)) from by (first | omega | (simp only [st_s] <;> omega) | assumption | omega)) (show 0 ≤ 0 ∧ 0 ≤ n1 from by (first | omega | (simp only [st_s] <;> omega) | assumption | omega)) (show ((0 : Int)) = ca (σ.2.1 53) 0 from by (first | rfl | omega)) (show j_e0 0 (σ.2.1 53) (τ_174.2.1 12) from by (first | assumption | (intro j h0 h1; exfalso; omega))) (show j_e0 0 (σ.2.1 52) (τ_174.2.1 9) from by (first | assumption | (intro j h0 h1; exfalso; omega)))
  have l_136 : ∀ (k1_136 : Int) (τ_136 : S0), (m_T τ_136) → (τ_136.2.1 14 = σ.2.1 14) → (τ_136.2.1 15 = σ.2.1 15) → (τ_136.2.1 18 = σ.2.1 18) → (τ_136.2.1 19 = σ.2.1 19) → (τ_136.2.1 21 = σ.2.1 21) → (τ_136.2.1 22 = σ.2.1 22) → (τ_136.2.1 25 = σ.2.1 25) → (τ_136.2.1 26 = σ.2.1 26) → (τ_136.2.1 51 = σ.2.1 51) → (τ_136.2.1 52 = σ.2.1 52) → (τ_136.2.1 53 = σ.2.1 53) → ((τ_136.1 3) = n1) → ((τ_136.1 5) = n2) → ((τ_136.1 12) ≤ n4) → ((τ_136.1 13) ≤ n5) → (n2 = 0 ∨ (τ_136.1 6) = σ.2.1 14 (n2 - 1) + σ.2.1 15 (n2 - 1)) → ((n2 = 0 ∨ (τ_136.1 7) = σ.2.1 18 (n2 - 1) + σ.2.1 19 (n2 - 1)) ∧ (τ_136.1 7) ≤ 60 * n2) → (n2 = 0 ∨ k1_136 = σ.2.1 21 (n2 - 1) + σ.2.1 22 (n2 - 1)) → (0 ≤ k1_136) → (k1_136 ≤ 20000) → P136 k1_136 τ_136 := by
    intro k1_136 τ_136 hT G14 G15 G18 G19 G21 G22 G25 G26 G51 G52 G53 i136_1 i136_2 i136_3 i136_4 i136_5 i136_6 i136_7 i136_8 i136_9
    have A6 : ∀ j, (-1) ≤ τ_136.2.1 6 j ∧ τ_136.2.1 6 j ≤ 999 := fun j => hT.2 6 j
    have A7 : ∀ j, (-1) ≤ τ_136.2.1 7 j ∧ τ_136.2.1 7 j ≤ 1499 := fun j => hT.2 7 j
    have A9 : ∀ j, 0 ≤ τ_136.2.1 9 j ∧ τ_136.2.1 9 j ≤ 1 := fun j => hT.2 9 j
    have A12 : ∀ j, 0 ≤ τ_136.2.1 12 j ∧ τ_136.2.1 12 j ≤ 1 := fun j => hT.2 12 j
    have A14 : ∀ j, 0 ≤ τ_136.2.1 14 j ∧ τ_136.2.1 14 j ≤ 30000 := fun j => hT.2 14 j
    have A15 : ∀ j, 0 ≤ τ_136.2.1 15 j ∧ τ_136.2.1 15 j ≤ 300 := fun j => hT.2 15 j
    have A18 : ∀ j, 0 ≤ τ_136.2.1 18 j ∧ τ_136.2.1 18 j ≤ 90000 := fun j => hT.2 18 j
    have A19 : ∀ j, 0 ≤ τ_136.2.1 19 j ∧ τ_136.2.1 19 j ≤ 60 := fun j => hT.2 19 j
    have A21 : ∀ j, 0 ≤ τ_136.2.1 21 j ∧ τ_136.2.1 21 j ≤ 20000 := fun j => hT.2 21 j
    have A22 : ∀ j, 0 ≤ τ_136.2.1 22 j ∧ τ_136.2.1 22 j ≤ 20000 := fun j => hT.2 22 j
    have A25 : ∀ j, 0 ≤ τ_136.2.1 25 j ∧ τ_136.2.1 25 j ≤ 20000 := fun j => hT.2 25 j
    have A26 : ∀ j, 0 ≤ τ_136.2.1 26 j ∧ τ_136.2.1 26 j ≤ 20000 := fun j => hT.2 26 j
    have A51 : ∀ j, 0 ≤ τ_136.2.1 51 j ∧ τ_136.2.1 51 j ≤ 1 := fun j => hT.2 51 j
    have A52 : ∀ j, 0 ≤ τ_136.2.1 52 j ∧ τ_136.2.1 52 j ≤ 1 := fun j => hT.2 52 j
    have A53 : ∀ j, 0 ≤ τ_136.2.1 53 j ∧ τ_136.2.1 53 j ≤ 1 := fun j => hT.2 53 j
    have v3 : 0 ≤ τ_136.1 3 ∧ τ_136.1 3 ≤ 1000 := hT.1 3
    have v4 : 0 ≤ τ_136.1 4 ∧ τ_136.1 4 ≤ 100 := hT.1 4
    have v5 : 0 ≤ τ_136.1 5 ∧ τ_136.1 5 ≤ 1500 := hT.1 5
    have v6 : 0 ≤ τ_136.1 6 ∧ τ_136.1 6 ≤ 30000 := hT.1 6
    have v7 : 0 ≤ τ_136.1 7 ∧ τ_136.1 7 ≤ 90000 := hT.1 7
    have v8 : 0 ≤ τ_136.1 8 ∧ τ_136.1 8 ≤ 20000 := hT.1 8
    have v9 : 0 ≤ τ_136.1 9 ∧ τ_136.1 9 ≤ 20000 := hT.1 9
    have v10 : (-1) ≤ τ_136.1 10 ∧ τ_136.1 10 ≤ 999 := hT.1 10
    have v11 : (-1) ≤ τ_136.1 11 ∧ τ_136.1 11 ≤ 999 := hT.1 11
    have v12 : 0 ≤ τ_136.1 12 ∧ τ_136.1 12 ≤ 1000 := hT.1 12
    have v13 : 0 ≤ τ_136.1 13 ∧ τ_136.1 13 ≤ 1500 := hT.1 13
    have v14 : 0 ≤ τ_136.1 14 ∧ τ_136.1 14 ≤ 1000 := hT.1 14
    refine h136 k1_136 τ_136 ?_
    replace hT := mT_v (i := 8) hT (show 0 ≤ k1_136 ∧ k1_136 ≤ 20000 from by (first | omega | (simp only [st_s] <;> omega) | assumption | omega))
    refine ⟨fun c19 => ?_, fun c19 => ?_⟩
    ·
      refine ⟨(show 0 ≤ (τ_136.1 5 - 1) ∧ (τ_136.1 5 - 1) < 1501 from by (first | omega | (simp only [st_s] <;> omega) | assumption | omega)), ?_⟩
      intro x21 r_x21 e_x21
      have b_x21 : 0 ≤ x21 ∧ x21 ≤ 20000 := by rw [e_x21]; exact hT.2 25 _
      intro x22 r_x22 e_x22
      have b_x22 : 0 ≤ x22 ∧ x22 ≤ 20000 := by rw [e_x22]; exact hT.2 26 _
      rw [G25, i136_2] at e_x21
      rw [G26, i136_2] at e_x22
      refine ⟨(⟨by (first | omega | (simp only [st_s] <;> omega) | assumption | omega), by (first | omega | (simp only [st_s] <;> omega) | assumption | omega)⟩ : rg (x21 + x22)), ?_⟩
      exact l_174 _ _ hT G14 G15 G18 G19 G21 G22 G25 G26 G51 G52 G53 (show (τ_136.1 3) = n1 from by (first | omega | (simp only [st_s] <;> omega) | assumption | omega)) (show (τ_136.1 5) = n2 from by (first | omega | (simp only [st_s] <;> omega) | assumption | omega)) (show (τ_136.1 12) ≤ n4 from by (first | omega | (simp only [st_s] <;> omega) | assumption | omega)) (show (τ_136.1 13) ≤ n5 from by (first | omega | (simp only [st_s] <;> omega) | assumption | omega)) (show (n2 = 0 ∨ (τ_136.1 6) = σ.2.1 14 (n2 - 1) + σ.2.1 15 (n2 - 1)) from by (first | omega | (simp only [st_s] <;> omega) | assumption | omega)) (show (n2 = 0 ∨ (τ_136.1 7) = σ.2.1 18 (n2 - 1) + σ.2.1 19 (n2 - 1)) ∧ (τ_136.1 7) ≤ 60 * n2 from by (first | omega | (simp only [st_s] <;> omega) | assumption | omega)) (show (n2 = 0 ∨ (k1_136) = σ.2.1 21 (n2 - 1) + σ.2.1 22 (n2 - 1)) from by (first | omega | (simp only [st_s] <;> omega) | assumption | omega)) (show (n2 = 0 ∨ (x21 + x22) = σ.2.1 25 (n2 - 1) + σ.2.1 26 (n2 - 1)) from by (first | omega | (simp only [st_s] <;> omega) | assumption | omega)) (show 0 ≤ (x21 + x22) from by (first | omega | (simp only [st_s] <;> omega) | assumption | omega)) (show (x21 + x22) ≤ 20000 from by (first | omega | (simp only [st_s] <;> omega) | assumption | omega))
    ·
      exact l_174 _ _ hT G14 G15 G18 G19 G21 G22 G25 G26 G51 G52 G53 (show (τ_136.1 3) = n1 from by (first | omega | (simp only [st_s] <;> omega) | assumption | omega)) (show (τ_136.1 5) = n2 from by (first | omega | (simp only [st_s] <;> omega) | assumption | omega)) (show (τ_136.1 12) ≤ n4 from by (first | omega | (simp only [st_s] <;> omega) | assumption | omega)) (show (τ_136.1 13) ≤ n5 from by (first | omega | (simp only [st_s] <;> omega) | assumption | omega)) (show (n2 = 0 ∨ (τ_136.1 6) = σ.2.1 14 (n2 - 1) + σ.2.1 15 (n2 - 1)) from by (first | omega | (simp only [st_s] <;> omega) | assumption | omega)) (show (n2 = 0 ∨ (τ_136.1 7) = σ.2.1 18 (n2 - 1) + σ.2.1 19 (n2 - 1)) ∧ (τ_136.1 7) ≤ 60 * n2 from by (first | omega | (simp only [st_s] <;> omega) | assumption | omega)) (show (n2 = 0 ∨ (k1_136) = σ.2.1 21 (n2 - 1) + σ.2.1 22 (n2 - 1)) from by (first | omega | (simp only [st_s] <;> omega) | assumption | omega)) (show (n2 = 0 ∨ 0 = σ.2.1 25 (n2 - 1) + σ.2.1 26 (n2 - 1)) from by (first | omega | (simp only [st_s] <;> omega) | assumption | omega)) (show 0 ≤ 0 from by (first | omega | (simp only [st_s] <;> omega) | assumption | omega)) (show 0 ≤ 20000 from by (first | omega | (simp only [st_s] <;> omega) | assumption | omega))
  have l_98 : ∀ (k1_98 : Int) (τ_98 : S0), (m_T τ_98) → (τ_98.2.1 14 = σ.2.1 14) → (τ_98.2.1 15 = σ.2.1 15) → (τ_98.2.1 18 = σ.2.1 18) → (τ_98.2.1 19 = σ.2.1 19) → (τ_98.2.1 21 = σ.2.1 21) → (τ_98.2.1 22 = σ.2.1 22) → (τ_98.2.1 25 = σ.2.1 25) → (τ_98.2.1 26 = σ.2.1 26) → (τ_98.2.1 51 = σ.2.1 51) → (τ_98.2.1 52 = σ.2.1 52) → (τ_98.2.1 53 = σ.2.1 53) → ((τ_98.1 3) = n1) → ((τ_98.1 5) = n2) → ((τ_98.1 12) ≤ n4) → ((τ_98.1 13) ≤ n5) → (n2 = 0 ∨ (τ_98.1 6) = σ.2.1 14 (n2 - 1) + σ.2.1 15 (n2 - 1)) → ((n2 = 0 ∨ k1_98 = σ.2.1 18 (n2 - 1) + σ.2.1 19 (n2 - 1)) ∧ k1_98 ≤ 60 * n2) → (0 ≤ k1_98) → (k1_98 ≤ 90000) → P98 k1_98 τ_98 := by
    intro k1_98 τ_98 hT G14 G15 G18 G19 G21 G22 G25 G26 G51 G52 G53 i98_1 i98_2 i98_3 i98_4 i98_5 i98_6 i98_7 i98_8
    have A6 : ∀ j, (-1) ≤ τ_98.2.1 6 j ∧ τ_98.2.1 6 j ≤ 999 := fun j => hT.2 6 j
    have A7 : ∀ j, (-1) ≤ τ_98.2.1 7 j ∧ τ_98.2.1 7 j ≤ 1499 := fun j => hT.2 7 j
    have A9 : ∀ j, 0 ≤ τ_98.2.1 9 j ∧ τ_98.2.1 9 j ≤ 1 := fun j => hT.2 9 j
    have A12 : ∀ j, 0 ≤ τ_98.2.1 12 j ∧ τ_98.2.1 12 j ≤ 1 := fun j => hT.2 12 j
    have A14 : ∀ j, 0 ≤ τ_98.2.1 14 j ∧ τ_98.2.1 14 j ≤ 30000 := fun j => hT.2 14 j
    have A15 : ∀ j, 0 ≤ τ_98.2.1 15 j ∧ τ_98.2.1 15 j ≤ 300 := fun j => hT.2 15 j
    have A18 : ∀ j, 0 ≤ τ_98.2.1 18 j ∧ τ_98.2.1 18 j ≤ 90000 := fun j => hT.2 18 j
    have A19 : ∀ j, 0 ≤ τ_98.2.1 19 j ∧ τ_98.2.1 19 j ≤ 60 := fun j => hT.2 19 j
    have A21 : ∀ j, 0 ≤ τ_98.2.1 21 j ∧ τ_98.2.1 21 j ≤ 20000 := fun j => hT.2 21 j
    have A22 : ∀ j, 0 ≤ τ_98.2.1 22 j ∧ τ_98.2.1 22 j ≤ 20000 := fun j => hT.2 22 j
    have A25 : ∀ j, 0 ≤ τ_98.2.1 25 j ∧ τ_98.2.1 25 j ≤ 20000 := fun j => hT.2 25 j
    have A26 : ∀ j, 0 ≤ τ_98.2.1 26 j ∧ τ_98.2.1 26 j ≤ 20000 := fun j => hT.2 26 j
    have A51 : ∀ j, 0 ≤ τ_98.2.1 51 j ∧ τ_98.2.1 51 j ≤ 1 := fun j => hT.2 51 j
    have A52 : ∀ j, 0 ≤ τ_98.2.1 52 j ∧ τ_98.2.1 52 j ≤ 1 := fun j => hT.2 52 j
    have A53 : ∀ j, 0 ≤ τ_98.2.1 53 j ∧ τ_98.2.1 53 j ≤ 1 := fun j => hT.2 53 j
    have v3 : 0 ≤ τ_98.1 3 ∧ τ_98.1 3 ≤ 1000 := hT.1 3
    have v4 : 0 ≤ τ_98.1 4 ∧ τ_98.1 4 ≤ 100 := hT.1 4
    have v5 : 0 ≤ τ_98.1 5 ∧ τ_98.1 5 ≤ 1500 := hT.1 5
    have v6 : 0 ≤ τ_98.1 6 ∧ τ_98.1 6 ≤ 30000 := hT.1 6
    have v7 : 0 ≤ τ_98.1 7 ∧ τ_98.1 7 ≤ 90000 := hT.1 7
    have v8 : 0 ≤ τ_98.1 8 ∧ τ_98.1 8 ≤ 20000 := hT.1 8
    have v9 : 0 ≤ τ_98.1 9 ∧ τ_98.1 9 ≤ 20000 := hT.1 9
    have v10 : (-1) ≤ τ_98.1 10 ∧ τ_98.1 10 ≤ 999 := hT.1 10
    have v11 : (-1) ≤ τ_98.1 11 ∧ τ_98.1 11 ≤ 999 := hT.1 11
    have v12 : 0 ≤ τ_98.1 12 ∧ τ_98.1 12 ≤ 1000 := hT.1 12
    have v13 : 0 ≤ τ_98.1 13 ∧ τ_98.1 13 ≤ 1500 := hT.1 13
    have v14 : 0 ≤ τ_98.1 14 ∧ τ_98.1 14 ≤ 1000 := hT.1 14
    refine h98 k1_98 τ_98 ?_
    replace hT := mT_v (i := 7) hT (show 0 ≤ k1_98 ∧ k1_98 ≤ 90000 from by (first | omega | (simp only [st_s] <;> omega) | assumption | omega))
    refine ⟨fun c14 => ?_, fun c14 => ?_⟩
    ·
      refine ⟨(show 0 ≤ (τ_98.1 5 - 1) ∧ (τ_98.1 5 - 1) < 1501 from by (first | omega | (simp only [st_s] <;> omega) | assumption | omega)), ?_⟩
      intro x16 r_x16 e_x16
      have b_x16 : 0 ≤ x16 ∧ x16 ≤ 20000 := by rw [e_x16]; exact hT.2 21 _
      intro x17 r_x17 e_x17
      have b_x17 : 0 ≤ x17 ∧ x17 ≤ 20000 := by rw [e_x17]; exact hT.2 22 _
      rw [G21, i98_2] at e_x16
      rw [G22, i98_2] at e_x17
      refine ⟨(⟨by (first | omega | (simp only [st_s] <;> omega) | assumption | omega), by (first | omega | (simp only [st_s] <;> omega) | assumption | omega)⟩ : rg (x16 + x17)), ?_⟩
      exact l_136 _ _ hT G14 G15 G18 G19 G21 G22 G25 G26 G51 G52 G53 (show (τ_98.1 3) = n1 from by (first | omega | (simp only [st_s] <;> omega) | assumption | omega)) (show (τ_98.1 5) = n2 from by (first | omega | (simp only [st_s] <;> omega) | assumption | omega)) (show (τ_98.1 12) ≤ n4 from by (first | omega | (simp only [st_s] <;> omega) | assumption | omega)) (show (τ_98.1 13) ≤ n5 from by (first | omega | (simp only [st_s] <;> omega) | assumption | omega)) (show (n2 = 0 ∨ (τ_98.1 6) = σ.2.1 14 (n2 - 1) + σ.2.1 15 (n2 - 1)) from by (first | omega | (simp only [st_s] <;> omega) | assumption | omega)) (show (n2 = 0 ∨ (k1_98) = σ.2.1 18 (n2 - 1) + σ.2.1 19 (n2 - 1)) ∧ (k1_98) ≤ 60 * n2 from by (first | omega | (simp only [st_s] <;> omega) | assumption | omega)) (show (n2 = 0 ∨ (x16 + x17) = σ.2.1 21 (n2 - 1) + σ.2.1 22 (n2 - 1)) from by (first | omega | (simp only [st_s] <;> omega) | assumption | omega)) (show 0 ≤ (x16 + x17) from by (first | omega | (simp only [st_s] <;> omega) | assumption | omega)) (show (x16 + x17) ≤ 20000 from by (first | omega | (simp only [st_s] <;> omega) | assumption | omega))
    ·
      exact l_136 _ _ hT G14 G15 G18 G19 G21 G22 G25 G26 G51 G52 G53 (show (τ_98.1 3) = n1 from by (first | omega | (simp only [st_s] <;> omega) | assumption | omega)) (show (τ_98.1 5) = n2 from by (first | omega | (simp only [st_s] <;> omega) | assumption | omega)) (show (τ_98.1 12) ≤ n4 from by (first | omega | (simp only [st_s] <;> omega) | assumption | omega)) (show (τ_98.1 13) ≤ n5 from by (first | omega | (simp only [st_s] <;> omega) | assumption | omega)) (show (n2 = 0 ∨ (τ_98.1 6) = σ.2.1 14 (n2 - 1) + σ.2.1 15 (n2 - 1)) from by (first | omega | (simp only [st_s] <;> omega) | assumption | omega)) (show (n2 = 0 ∨ (k1_98) = σ.2.1 18 (n2 - 1) + σ.2.1 19 (n2 - 1)) ∧ (k1_98) ≤ 60 * n2 from by (first | omega | (simp only [st_s] <;> omega) | assumption | omega)) (show (n2 = 0 ∨ 0 = σ.2.1 21 (n2 - 1) + σ.2.1 22 (n2 - 1)) from by (first | omega | (simp only [st_s] <;> omega) | assumption | omega)) (show 0 ≤ 0 from by (first | omega | (simp only [st_s] <;> omega) | assumption | omega)) (show 0 ≤ 20000 from by (first | omega | (simp only [st_s] <;> omega) | assumption | omega))
  have l_60 : ∀ (k1_60 : Int) (τ_60 : S0), (m_T τ_60) → (τ_60.2.1 14 = σ.2.1 14) → (τ_60.2.1 15 = σ.2.1 15) → (τ_60.2.1 18 = σ.2.1 18) → (τ_60.2.1 19 = σ.2.1 19) → (τ_60.2.1 21 = σ.2.1 21) → (τ_60.2.1 22 = σ.2.1 22) → (τ_60.2.1 25 = σ.2.1 25) → (τ_60.2.1 26 = σ.2.1 26) → (τ_60.2.1 51 = σ.2.1 51) → (τ_60.2.1 52 = σ.2.1 52) → (τ_60.2.1 53 = σ.2.1 53) → ((τ_60.1 3) = n1) → ((τ_60.1 5) = n2) → ((τ_60.1 12) ≤ n4) → ((τ_60.1 13) ≤ n5) → (n2 = 0 ∨ k1_60 = σ.2.1 14 (n2 - 1) + σ.2.1 15 (n2 - 1)) → (0 ≤ k1_60) → (k1_60 ≤ 30000) → P60 k1_60 τ_60 := by
    intro k1_60 τ_60 hT G14 G15 G18 G19 G21 G22 G25 G26 G51 G52 G53 i60_1 i60_2 i60_3 i60_4 i60_5 i60_6 i60_7
    have A6 : ∀ j, (-1) ≤ τ_60.2.1 6 j ∧ τ_60.2.1 6 j ≤ 999 := fun j => hT.2 6 j
    have A7 : ∀ j, (-1) ≤ τ_60.2.1 7 j ∧ τ_60.2.1 7 j ≤ 1499 := fun j => hT.2 7 j
    have A9 : ∀ j, 0 ≤ τ_60.2.1 9 j ∧ τ_60.2.1 9 j ≤ 1 := fun j => hT.2 9 j
    have A12 : ∀ j, 0 ≤ τ_60.2.1 12 j ∧ τ_60.2.1 12 j ≤ 1 := fun j => hT.2 12 j
    have A14 : ∀ j, 0 ≤ τ_60.2.1 14 j ∧ τ_60.2.1 14 j ≤ 30000 := fun j => hT.2 14 j
    have A15 : ∀ j, 0 ≤ τ_60.2.1 15 j ∧ τ_60.2.1 15 j ≤ 300 := fun j => hT.2 15 j
    have A18 : ∀ j, 0 ≤ τ_60.2.1 18 j ∧ τ_60.2.1 18 j ≤ 90000 := fun j => hT.2 18 j
    have A19 : ∀ j, 0 ≤ τ_60.2.1 19 j ∧ τ_60.2.1 19 j ≤ 60 := fun j => hT.2 19 j
    have A21 : ∀ j, 0 ≤ τ_60.2.1 21 j ∧ τ_60.2.1 21 j ≤ 20000 := fun j => hT.2 21 j
    have A22 : ∀ j, 0 ≤ τ_60.2.1 22 j ∧ τ_60.2.1 22 j ≤ 20000 := fun j => hT.2 22 j
    have A25 : ∀ j, 0 ≤ τ_60.2.1 25 j ∧ τ_60.2.1 25 j ≤ 20000 := fun j => hT.2 25 j
    have A26 : ∀ j, 0 ≤ τ_60.2.1 26 j ∧ τ_60.2.1 26 j ≤ 20000 := fun j => hT.2 26 j
    have A51 : ∀ j, 0 ≤ τ_60.2.1 51 j ∧ τ_60.2.1 51 j ≤ 1 := fun j => hT.2 51 j
    have A52 : ∀ j, 0 ≤ τ_60.2.1 52 j ∧ τ_60.2.1 52 j ≤ 1 := fun j => hT.2 52 j
    have A53 : ∀ j, 0 ≤ τ_60.2.1 53 j ∧ τ_60.2.1 53 j ≤ 1 := fun j => hT.2 53 j
    have v3 : 0 ≤ τ_60.1 3 ∧ τ_60.1 3 ≤ 1000 := hT.1 3
    have v4 : 0 ≤ τ_60.1 4 ∧ τ_60.1 4 ≤ 100 := hT.1 4
    have v5 : 0 ≤ τ_60.1 5 ∧ τ_60.1 5 ≤ 1500 := hT.1 5
    have v6 : 0 ≤ τ_60.1 6 ∧ τ_60.1 6 ≤ 30000 := hT.1 6
    have v7 : 0 ≤ τ_60.1 7 ∧ τ_60.1 7 ≤ 90000 := hT.1 7
    have v8 : 0 ≤ τ_60.1 8 ∧ τ_60.1 8 ≤ 20000 := hT.1 8
    have v9 : 0 ≤ τ_60.1 9 ∧ τ_60.1 9 ≤ 20000 := hT.1 9
    have v10 : (-1) ≤ τ_60.1 10 ∧ τ_60.1 10 ≤ 999 := hT.1 10
    have v11 : (-1) ≤ τ_60.1 11 ∧ τ_60.1 11 ≤ 999 := hT.1 11
    have v12 : 0 ≤ τ_60.1 12 ∧ τ_60.1 12 ≤ 1000 := hT.1 12
    have v13 : 0 ≤ τ_60.1 13 ∧ τ_60.1 13 ≤ 1500 := hT.1 13
    have v14 : 0 ≤ τ_60.1 14 ∧ τ_60.1 14 ≤ 1000 := hT.1 14
    refine h60 k1_60 τ_60 ?_
    replace hT := mT_v (i := 6) hT (show 0 ≤ k1_60 ∧ k1_60 ≤ 30000 from by (first | omega | (simp only [st_s] <;> omega) | assumption | omega))
    refine ⟨fun c9 => ?_, fun c9 => ?_⟩
    ·
      refine ⟨(show 0 ≤ (τ_60.1 5 - 1) ∧ (τ_60.1 5 - 1) < 1501 from by (first | omega | (simp only [st_s] <;> omega) | assumption | omega)), ?_⟩
      intro x11 r_x11 e_x11
      have b_x11 : 0 ≤ x11 ∧ x11 ≤ 90000 := by rw [e_x11]; exact hT.2 18 _
      intro x12 r_x12 e_x12
      have b_x12 : 0 ≤ x12 ∧ x12 ≤ 60 := by rw [e_x12]; exact hT.2 19 _
      rw [G18, i60_2] at e_x11
      rw [G19, i60_2] at e_x12
      refine ⟨(⟨by (first | omega | (simp only [st_s] <;> omega) | assumption | omega), by (first | omega | (simp only [st_s] <;> omega) | assumption | omega)⟩ : rg (x11 + x12)), ?_⟩
      exact l_98 _ _ hT G14 G15 G18 G19 G21 G22 G25 G26 G51 G52 G53 (show (τ_60.1 3) = n1 from by (first | omega | (simp only [st_s] <;> omega) | assumption | omega)) (show (τ_60.1 5) = n2 from by (first | omega | (simp only [st_s] <;> omega) | assumption | omega)) (show (τ_60.1 12) ≤ n4 from by (first | omega | (simp only [st_s] <;> omega) | assumption | omega)) (show (τ_60.1 13) ≤ n5 from by (first | omega | (simp only [st_s] <;> omega) | assumption | omega)) (show (n2 = 0 ∨ (k1_60) = σ.2.1 14 (n2 - 1) + σ.2.1 15 (n2 - 1)) from by (first | omega | (simp only [st_s] <;> omega) | assumption | omega)) (show (n2 = 0 ∨ (x11 + x12) = σ.2.1 18 (n2 - 1) + σ.2.1 19 (n2 - 1)) ∧ (x11 + x12) ≤ 60 * n2 from by (first | omega | (simp only [st_s] <;> omega) | assumption | omega)) (show 0 ≤ (x11 + x12) from by (first | omega | (simp only [st_s] <;> omega) | assumption | omega)) (show (x11 + x12) ≤ 90000 from by (first | omega | (simp only [st_s] <;> omega) | assumption | omega))
    ·
      exact l_98 _ _ hT G14 G15 G18 G19 G21 G22 G25 G26 G51 G52 G53 (show (τ_60.1 3) = n1 from by (first | omega | (simp only [st_s] <;> omega) | assumption | omega)) (show (τ_60.1 5) = n2 from by (first | omega | (simp only [st_s] <;> omega) | assumption | omega)) (show (τ_60.1 12) ≤ n4 from by (first | omega | (simp only [st_s] <;> omega) | assumption | omega)) (show (τ_60.1 13) ≤ n5 from by (first | omega | (simp only [st_s] <;> omega) | assumption | omega)) (show (n2 = 0 ∨ (k1_60) = σ.2.1 14 (n2 - 1) + σ.2.1 15 (n2 - 1)) from by (first | omega | (simp only [st_s] <;> omega) | assumption | omega)) (show (n2 = 0 ∨ 0 = σ.2.1 18 (n2 - 1) + σ.2.1 19 (n2 - 1)) ∧ 0 ≤ 60 * n2 from by (first | omega | (simp only [st_s] <;> omega) | assumption | omega)) (show 0 ≤ 0 from by (first | omega | (simp only [st_s] <;> omega) | assumption | omega)) (show 0 ≤ 90000 from by (first | omega | (simp only [st_s] <;> omega) | assumption | omega))
  refine ⟨_, K_X13_dropTo hT (show 0 ≤ n4 from by (first | omega | (simp only [st_s] <;> omega) | assumption | omega)) (show 0 ≤ n5 from by (first | omega | (simp only [st_s] <;> omega) | assumption | omega)) (show 0 ≤ n6 from by (first | omega | (simp only [st_s] <;> omega) | assumption | omega)) (show (σ.1 12) ≤ ca (σ.2.1 9) (σ.1 3) from by (first | omega | (simp only [st_s] <;> omega) | assumption | omega)), ?_⟩
  intro τ3 hn_τ3 hf_τ3 hq
  obtain ⟨hT, q1_1, q1_2, q1_3, q1_4, q1_5, q1_6, q1_7⟩ := hq
  replace q1_1 : n4 ≤ (σ.1 12) → (τ3.1 12) = n4 := q1_1
  replace q1_2 : n5 ≤ (σ.1 13) → (τ3.1 13) = n5 := q1_2
  replace q1_3 : n6 ≤ (σ.1 14) → (τ3.1 14) = n6 := q1_3
  replace q1_4 : (τ3.1 12) ≤ (σ.1 12) := q1_4
  replace q1_5 : (τ3.1 13) ≤ (σ.1 13) := q1_5
  replace q1_6 : (τ3.1 14) ≤ (σ.1 14) := q1_6
  replace q1_7 : (τ3.1 12) ≤ ca (τ3.2.1 9) (τ3.1 3) := q1_7
  have w3_τ3 : τ3.1 3 = σ.1 3 := hf_τ3.1 3 (by decide)
  have w4_τ3 : τ3.1 4 = σ.1 4 := hf_τ3.1 4 (by decide)
  have w5_τ3 : τ3.1 5 = σ.1 5 := hf_τ3.1 5 (by decide)
  have w6_τ3 : τ3.1 6 = σ.1 6 := hf_τ3.1 6 (by decide)
  have w7_τ3 : τ3.1 7 = σ.1 7 := hf_τ3.1 7 (by decide)
  have w8_τ3 : τ3.1 8 = σ.1 8 := hf_τ3.1 8 (by decide)
  have w9_τ3 : τ3.1 9 = σ.1 9 := hf_τ3.1 9 (by decide)
  have w10_τ3 : τ3.1 10 = σ.1 10 := hf_τ3.1 10 (by decide)
  have w11_τ3 : τ3.1 11 = σ.1 11 := hf_τ3.1 11 (by decide)
  have g6_τ3 : τ3.2.1 6 = σ.2.1 6 := hf_τ3.2.1 6 (by decide)
  have g7_τ3 : τ3.2.1 7 = σ.2.1 7 := hf_τ3.2.1 7 (by decide)
  have g12_τ3 : τ3.2.1 12 = σ.2.1 12 := hf_τ3.2.1 12 (by decide)
  have g14_τ3 : τ3.2.1 14 = σ.2.1 14 := hf_τ3.2.1 14 (by decide)
  have g15_τ3 : τ3.2.1 15 = σ.2.1 15 := hf_τ3.2.1 15 (by decide)
  have g18_τ3 : τ3.2.1 18 = σ.2.1 18 := hf_τ3.2.1 18 (by decide)
  have g19_τ3 : τ3.2.1 19 = σ.2.1 19 := hf_τ3.2.1 19 (by decide)
  have g21_τ3 : τ3.2.1 21 = σ.2.1 21 := hf_τ3.2.1 21 (by decide)
  have g22_τ3 : τ3.2.1 22 = σ.2.1 22 := hf_τ3.2.1 22 (by decide)
  have g25_τ3 : τ3.2.1 25 = σ.2.1 25 := hf_τ3.2.1 25 (by decide)
  have g26_τ3 : τ3.2.1 26 = σ.2.1 26 := hf_τ3.2.1 26 (by decide)
  have g51_τ3 : τ3.2.1 51 = σ.2.1 51 := hf_τ3.2.1 51 (by decide)
  have g52_τ3 : τ3.2.1 52 = σ.2.1 52 := hf_τ3.2.1 52 (by decide)
  have g53_τ3 : τ3.2.1 53 = σ.2.1 53 := hf_τ3.2.1 53 (by decide)
  first | (have ca_τ3 := congr (congrArg ca g9_τ3) w3_τ3) | skip
  first | (have o6_τ3 := congrArg oc g6_τ3) | skip
  first | (have o7_τ3 := congrArg oc g7_τ3) | skip
  have G14 : τ3.2.1 14 = σ.2.1 14 := (g14_τ3).trans G14
  have G15 : τ3.2.1 15 = σ.2.1 15 := (g15_τ3).trans G15
  have G18 : τ3.2.1 18 = σ.2.1 18 := (g18_τ3).trans G18
  have G19 : τ3.2.1 19 = σ.2.1 19 := (g19_τ3).trans G19
  have G21 : τ3.2.1 21 = σ.2.1 21 := (g21_τ3).trans G21
  have G22 : τ3.2.1 22 = σ.2.1 22 := (g22_τ3).trans G22
  have G25 : τ3.2.1 25 = σ.2.1 25 := (g25_τ3).trans G25
  have G26 : τ3.2.1 26 = σ.2.1 26 := (g26_τ3).trans G26
  have G51 : τ3.2.1 51 = σ.2.1 51 := (g51_τ3).trans G51
  have G52 : τ3.2.1 52 = σ.2.1 52 := (g52_τ3).trans G52
  have G53 : τ3.2.1 53 = σ.2.1 53 := (g53_τ3).trans G53
  have A6 : ∀ j, (-1) ≤ τ3.2.1 6 j ∧ τ3.2.1 6 j ≤ 999 := fun j => hT.2 6 j
  have A7 : ∀ j, (-1) ≤ τ3.2.1 7 j ∧ τ3.2.1 7 j ≤ 1499 := fun j => hT.2 7 j
  have A9 : ∀ j, 0 ≤ τ3.2.1 9 j ∧ τ3.2.1 9 j ≤ 1 := fun j => hT.2 9 j
  have A12 : ∀ j, 0 ≤ τ3.2.1 12 j ∧ τ3.2.1 12 j ≤ 1 := fun j => hT.2 12 j
  have A14 : ∀ j, 0 ≤ τ3.2.1 14 j ∧ τ3.2.1 14 j ≤ 30000 := fun j => hT.2 14 j
  have A15 : ∀ j, 0 ≤ τ3.2.1 15 j ∧ τ3.2.1 15 j ≤ 300 := fun j => hT.2 15 j
  have A18 : ∀ j, 0 ≤ τ3.2.1 18 j ∧ τ3.2.1 18 j ≤ 90000 := fun j => hT.2 18 j
  have A19 : ∀ j, 0 ≤ τ3.2.1 19 j ∧ τ3.2.1 19 j ≤ 60 := fun j => hT.2 19 j
  have A21 : ∀ j, 0 ≤ τ3.2.1 21 j ∧ τ3.2.1 21 j ≤ 20000 := fun j => hT.2 21 j
  have A22 : ∀ j, 0 ≤ τ3.2.1 22 j ∧ τ3.2.1 22 j ≤ 20000 := fun j => hT.2 22 j
  have A25 : ∀ j, 0 ≤ τ3.2.1 25 j ∧ τ3.2.1 25 j ≤ 20000 := fun j => hT.2 25 j
  have A26 : ∀ j, 0 ≤ τ3.2.1 26 j ∧ τ3.2.1 26 j ≤ 20000 := fun j => hT.2 26 j
  have A51 : ∀ j, 0 ≤ τ3.2.1 51 j ∧ τ3.2.1 51 j ≤ 1 := fun j => hT.2 51 j
  have A52 : ∀ j, 0 ≤ τ3.2.1 52 j ∧ τ3.2.1 52 j ≤ 1 := fun j => hT.2 52 j
  have A53 : ∀ j, 0 ≤ τ3.2.1 53 j ∧ τ3.2.1 53 j ≤ 1 := fun j => hT.2 53 j
  have v3 : 0 ≤ τ3.1 3 ∧ τ3.1 3 ≤ 1000 := hT.1 3
  have v4 : 0 ≤ τ3.1 4 ∧ τ3.1 4 ≤ 100 := hT.1 4
  have v5 : 0 ≤ τ3.1 5 ∧ τ3.1 5 ≤ 1500 := hT.1 5
  have v6 : 0 ≤ τ3.1 6 ∧ τ3.1 6 ≤ 30000 := hT.1 6
  have v7 : 0 ≤ τ3.1 7 ∧ τ3.1 7 ≤ 90000 := hT.1 7
  have v8 : 0 ≤ τ3.1 8 ∧ τ3.1 8 ≤ 20000 := hT.1 8
  have v9 : 0 ≤ τ3.1 9 ∧ τ3.1 9 ≤ 20000 := hT.1 9
  have v10 : (-1) ≤ τ3.1 10 ∧ τ3.1 10 ≤ 999 := hT.1 10
  have v11 : (-1) ≤ τ3.1 11 ∧ τ3.1 11 ≤ 999 := hT.1 11
  have v12 : 0 ≤ τ3.1 12 ∧ τ3.1 12 ≤ 1000 := hT.1 12
  have v13 : 0 ≤ τ3.1 13 ∧ τ3.1 13 ≤ 1500 := hT.1 13
  have v14 : 0 ≤ τ3.1 14 ∧ τ3.1 14 ≤ 1000 := hT.1 14
  replace hT := mT_v (i := 3) hT (show 0 ≤ n1 ∧ n1 ≤ 1000 from by (first | omega | (simp only [st_s] <;> omega) | assumption | omega))
  replace hT := mT_v (i := 5) hT (show 0 ≤ n2 ∧ n2 ≤ 1500 from by (first | omega | (simp only [st_s] <;> omega) | assumption | omega))
  replace hT := mT_v (i := 2) hT (show 0 ≤ n3 ∧ n3 ≤ 30000 from by (first | omega | (simp only [st_s] <;> omega) | assumption | omega))
  refine ⟨fun c4 => ?_, fun c4 => ?_⟩
  ·
    refine ⟨(show 0 ≤ (n2 - 1) ∧ (n2 - 1) < 1501 from by (first | omega | (simp only [st_s] <;> omega) | assumption | omega)), ?_⟩
    intro x6 r_x6 e_x6
    have b_x6 : 0 ≤ x6 ∧ x6 ≤ 30000 := by rw [e_x6]; exact hT.2 14 _
    intro x7 r_x7 e_x7
    have b_x7 : 0 ≤ x7 ∧ x7 ≤ 300 := by rw [e_x7]; exact hT.2 15 _
    rw [G14] at e_x6
    rw [G15] at e_x7
    refine ⟨(⟨by (first | omega | (simp only [st_s] <;> omega) | assumption | omega), by (first | omega | (simp only [st_s] <;> omega) | assumption | omega)⟩ : rg (x6 + x7)), ?_⟩
    exact l_60 _ _ hT G14 G15 G18 G19 G21 G22 G25 G26 G51 G52 G53 (show (n1) = n1 from by (first | omega | (simp only [st_s] <;> omega) | assumption | omega)) (show (n2) = n2 from by (first | omega | (simp only [st_s] <;> omega) | assumption | omega)) (show (τ3.1 12) ≤ n4 from by (first | omega | (simp only [st_s] <;> omega) | assumption | omega)) (show (τ3.1 13) ≤ n5 from by (first | omega | (simp only [st_s] <;> omega) | assumption | omega)) (show (n2 = 0 ∨ (x6 + x7) = σ.2.1 14 (n2 - 1) + σ.2.1 15 (n2 - 1)) from by (first | omega | (simp only [st_s] <;> omega) | assumption | omega)) (show 0 ≤ (x6 + x7) from by (first | omega | (simp only [st_s] <;> omega) | assumption | omega)) (show (x6 + x7) ≤ 30000 from by (first | omega | (simp only [st_s] <;> omega) | assumption | omega))
  ·
    exact l_60 _ _ hT G14 G15 G18 G19 G21 G22 G25 G26 G51 G52 G53 (show (n1) = n1 from by (first | omega | (simp only [st_s] <;> omega) | assumption | omega)) (show (n2) = n2 from by (first | omega | (simp only [st_s] <;> omega) | assumption | omega)) (show (τ3.1 12) ≤ n4 from by (first | omega | (simp only [st_s] <;> omega) | assumption | omega)) (show (τ3.1 13) ≤ n5 from by (first | omega | (simp only [st_s] <;> omega) | assumption | omega)) (show (n2 = 0 ∨ 0 = σ.2.1 14 (n2 - 1) + σ.2.1 15 (n2 - 1)) from by (first | omega | (simp only [st_s] <;> omega) | assumption | omega)) (show 0 ≤ 0 from by (first | omega | (simp only [st_s] <;> omega) | assumption | omega)) (show 0 ≤ 30000 from by (first | omega | (simp only [st_s] <;> omega) | assumption | omega))
set_option maxHeartbeats 1000000 in
theorem K_X13_forgetTrees {n1 : Int} {σ : S0} (hT : m_T σ) (p1 : 0 ≤ n1) (p2 : n1 ≤ 1500) : W_X13_forgetTrees n1 σ (fun (τ : S0) => (m_T τ) ∧ ((τ.1 38) = 0) ∧ ((τ.1 49) = 0)) := by
  have v38 : 0 ≤ σ.1 38 ∧ σ.1 38 ≤ 1500 := hT.1 38
  have v49 : 0 ≤ σ.1 49 ∧ σ.1 49 ≤ 1 := hT.1 49
  intro P7 P36 h7 h36
  have l_36 : ∀ (m_36 : Nat) (u2_36 : Int) (τ_36 : S0), 1501 - u2_36 < (m_36 : Int) → (m_T τ_36) → (0 ≤ u2_36) → (u2_36 ≤ 1500) → ((τ_36.1 49) = 0) → P36 u2_36 τ_36 := by
    intro m_36
    induction m_36 with
    | zero =>
      intro u2_36 τ_36 hm hT i36_1 i36_2 i36_3
      have v38 : 0 ≤ τ_36.1 38 ∧ τ_36.1 38 ≤ 1500 := hT.1 38
      have v49 : 0 ≤ τ_36.1 49 ∧ τ_36.1 49 ≤ 1 := hT.1 49
      exfalso; (first | omega | (simp only [st_s] <;> omega) | assumption | omega)
    | succ m_36 ih_36 =>
      intro u2_36 τ_36 hm_36 hT i36_1 i36_2 i36_3
      have v38 : 0 ≤ τ_36.1 38 ∧ τ_36.1 38 ≤ 1500 := hT.1 38
      have v49 : 0 ≤ τ_36.1 49 ∧ τ_36.1 49 ≤ 1 := hT.1 49
      refine h36 u2_36 τ_36 ?_
      refine ⟨fun c4 => ?_, fun c4 => ?_⟩
      ·
        replace hT := mT_v (i := 38) hT (show (0 : Int) ≤ 0 ∧ 0 ≤ 1500 from by (first | omega | (simp only [st_s] <;> omega) | assumption | omega))
        exact ⟨hT, (show ((0 : Int)) = 0 from by (first | omega | (simp only [st_s] <;> omega) | assumption | omega)), (show (τ_36.1 49) = 0 from by (first | omega | (simp only [st_s] <;> omega) | assumption | omega))⟩
      ·
        refine ⟨(show 0 ≤ u2_36 ∧ u2_36 < 1501 from by (first | omega | (simp only [st_s] <;> omega) | assumption | omega)), ?_⟩
        replace hT := mT_a (k := 95) (j := u2_36) hT (show (-9 : Int) ≤ (-9) ∧ (-9) ≤ 1499 from by (first | omega | (simp only [st_s] <;> omega) | assumption | omega))
        refine ⟨(⟨by (first | omega | (simp only [st_s] <;> omega) | assumption | omega), by (first | omega | (simp only [st_s] <;> omega) | assumption | omega)⟩ : rg (u2_36 + 1)), ?_⟩
        exact ih_36 _ _ (show (1501 - (u2_36 + 1) : Int) < ((m_36 : Nat) : Int) from by ((first | omega | (simp only [st_s] <;> omega) | assumption | omega))) hT (show 0 ≤ (u2_36 + 1) from by (first | omega | (simp only [st_s] <;> omega) | assumption | omega)) (show (u2_36 + 1) ≤ 1500 from by (first | omega | (simp only [st_s] <;> omega) | assumption | omega)) (show (τ_36.1 49) = 0 from by (first | omega | (simp only [st_s] <;> omega) | assumption | omega))
  have l_7 : ∀ (m_7 : Nat) (u2_7 : Int) (τ_7 : S0), 1501 - u2_7 < (m_7 : Int) → (m_T τ_7) → (0 ≤ u2_7) → (u2_7 ≤ 1500) → ((τ_7.1 49) = 0) → P7 u2_7 τ_7 := by
    intro m_7
    induction m_7 with
    | zero =>
      intro u2_7 τ_7 hm hT i7_1 i7_2 i7_3
      have v38 : 0 ≤ τ_7.1 38 ∧ τ_7.1 38 ≤ 1500 := hT.1 38
      have v49 : 0 ≤ τ_7.1 49 ∧ τ_7.1 49 ≤ 1 := hT.1 49
      exfalso; (first | omega | (simp only [st_s] <;> omega) | assumption | omega)
    | succ m_7 ih_7 =>
      intro u2_7 τ_7 hm_7 hT i7_1 i7_2 i7_3
      have v38 : 0 ≤ τ_7.1 38 ∧ τ_7.1 38 ≤ 1500 := hT.1 38
      have v49 : 0 ≤ τ_7.1 49 ∧ τ_7.1 49 ≤ 1 := hT.1 49
      refine h7 u2_7 τ_7 ?_
      refine ⟨fun c1 => ?_, fun c1 => ?_⟩
      ·
        exact l_36 ((1501 - 0 : Int).toNat + 1) _ _ (show (1501 - 0 : Int) < (((1501 - 0 : Int).toNat + 1 : Nat) : Int) from by ((first | omega | (simp only [st_s] <;> omega) | assumption | omega))) hT (show 0 ≤ 0 from by (first | omega | (simp only [st_s] <;> omega) | assumption | omega)) (show 0 ≤ 1500 from by (first | omega | (simp only [st_s] <;> omega) | assumption | omega)) (show (τ_7.1 49) = 0 from by (first | omega | (simp only [st_s] <;> omega) | assumption | omega))
      ·
        refine ⟨(show 0 ≤ u2_7 ∧ u2_7 < 1501 from by (first | omega | (simp only [st_s] <;> omega) | assumption | omega)), ?_⟩
        replace hT := mT_a (k := 94) (j := u2_7) hT (show (-1 : Int) ≤ (-1) ∧ (-1) ≤ 2 from by (first | omega | (simp only [st_s] <;> omega) | assumption | omega))
        replace hT := mT_a (k := 96) (j := u2_7) hT (show (0 : Int) ≤ 0 ∧ 0 ≤ 1 from by (first | omega | (simp only [st_s] <;> omega) | assumption | omega))
        refine ⟨(⟨by (first | omega | (simp only [st_s] <;> omega) | assumption | omega), by (first | omega | (simp only [st_s] <;> omega) | assumption | omega)⟩ : rg (u2_7 + 1)), ?_⟩
        exact ih_7 _ _ (show (1501 - (u2_7 + 1) : Int) < ((m_7 : Nat) : Int) from by ((first | omega | (simp only [st_s] <;> omega) | assumption | omega))) hT (show 0 ≤ (u2_7 + 1) from by (first | omega | (simp only [st_s] <;> omega) | assumption | omega)) (show (u2_7 + 1) ≤ 1500 from by (first | omega | (simp only [st_s] <;> omega) | assumption | omega)) (show (τ_7.1 49) = 0 from by (first | omega | (simp only [st_s] <;> omega) | assumption | omega))
  replace hT := mT_v (i := 49) hT (show (0 : Int) ≤ 0 ∧ 0 ≤ 1 from by (first | omega | (simp only [st_s] <;> omega) | assumption | omega))
  exact l_7 ((1501 - n1 : Int).toNat + 1) _ _ (show (1501 - n1 : Int) < (((1501 - n1 : Int).toNat + 1 : Nat) : Int) from by ((first | omega | (simp only [st_s] <;> omega) | assumption | omega))) hT (show 0 ≤ n1 from by (first | omega | (simp only [st_s] <;> omega) | assumption | omega)) (show n1 ≤ 1500 from by (first | omega | (simp only [st_s] <;> omega) | assumption | omega)) (show ((0 : Int)) = 0 from by (first | omega | (simp only [st_s] <;> omega) | assumption | omega))
