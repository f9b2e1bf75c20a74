-- pure: the model reads symbols, makes frames, reads floating hypotheses
theorem n_mk0_w {a b u sy : Int} {kd tx ah mk : Int → Int} (h : n_mk0 a b u sy kd tx ah mk) : n_mk0 a b (u + 1) sy kd tx ah mk := ⟨h.1, h.2.elim (fun ⟨k, k0, k1, k2⟩ => Or.inl ⟨k, k0, by omega, k2⟩) Or.inr⟩
theorem n_mk0_a {a b u sy : Int} {kd tx ah mk mk' : Int → Int} (h : n_mk0 a b u sy kd tx ah mk) (g : ∀ s : Int, ¬ mk s = 0 → ¬ mk' s = 0) (u0 : 0 ≤ u) (z : kd (ah u) = 1) : n_mk0 a b (u + 1) sy kd tx ah mk' := ⟨fun p p0 p1 => g _ (h.1 p p0 p1), Or.inl ⟨u, u0, by omega, z⟩⟩
def n_N0 (a sy : Int) (iv bg tx fl : Int → Int) : Prop := iv (tx a) = 0 ∧ fl a = -1 ∧ tx a < sy ∧ ¬ bg (tx a) = 0
theorem n_N0_e {a b sy : Int} {iv fo bg tx fl tx' fl' : Int → Int} {x y c : Int} (h : n_N a b sy iv fo bg tx fl) (e1 : tx' = st tx c x) (e2 : fl' = st fl c y) (l : a < c) : n_N0 a sy iv bg tx' fl' := by
  unfold n_N0
  rw [e1, e2, st_n _ _ (by omega), st_n _ _ (by omega)]
  exact h.1.2
theorem n_A_f {n s sy x : Int} {iv ty bg kd ta ts tx fl ty' kd' : Int → Int} (h : n_N0 (ta n) sy iv bg tx fl) (t2 : ts n = 2) (t3 : tx (ta n + 1) = s) (t4 : fl (ta n + 1) = n) (s0 : 0 ≤ s) (s1 : s < sy) (s2 : ¬ iv s = 0) (n0 : 0 ≤ n) (ek : kd' = st kd n 0) (et : ty' = st ty s x) (ex : x = tx (ta n)) : n_A n sy iv ty' bg kd' ta ts tx fl := by
  obtain ⟨h1, h2, h3, h4⟩ := h
  rw [ek, et]
  refine ⟨⟨by omega, by omega, h1, h4⟩, fun _ => ⟨t2, t4, by rw [t3]; exact s2, by rw [t3, st_s]; exact ex⟩, fun p p0 p1 => ?_⟩
  rcases (by omega : p = ta n ∨ p = ta n + 1) with q | q
  · rw [q]; exact ⟨h3, Or.inl ⟨h1, h2⟩⟩
  · rw [q]; exact ⟨by rw [t3]; exact s1, Or.inr ⟨by rw [t3]; exact s2, by omega, by omega, by rw [t4, st_s], by rw [t4]⟩⟩
set_option maxHeartbeats 6000000 in
theorem K3_X13_readSymbols {n1 : Int} {σ : S0} (hT : m_T σ) (p1 : (σ.1 16) ≤ (σ.1 0)) (p2 : (σ.1 17) + (σ.1 18) ≤ (σ.1 0)) (p3 : oc (σ.2.1 6) < 4096) (p4 : oc (σ.2.1 7) < 4096) (p5 : σ.2.1 15 (σ.1 22) = 0) (p6 : (σ.1 22) = (σ.1 5)) (p7 : σ.2.1 14 (σ.1 22) + σ.2.1 15 (σ.1 22) = (σ.1 6)) (p8 : ca (σ.2.1 12) ((σ.1 3)) ≤ (σ.1 4)) (p9 : j_l2 (σ.2.1 6) (σ.1 3)) : W_X13_readSymbols n1 σ (fun (τ : S0) => (m_T τ) ∧ ((τ.1 16) ≤ (τ.1 0)) ∧ ((τ.1 17) + (τ.1 18) ≤ (τ.1 0)) ∧ (¬ (σ.1 20) = 0 → (τ.1 20) = (σ.1 20)) ∧ (τ.2.1 14 (τ.1 22) + τ.2.1 15 (τ.1 22) = (τ.1 6)) ∧ (ca (τ.2.1 12) ((τ.1 3)) ≤ (τ.1 4)) ∧ ((τ.1 20) = 0 → 1 ≤ τ.2.1 15 (τ.1 22)) ∧ ((σ.1 16) ≤ (τ.1 16)) ∧ (m_ag σ τ) ∧ ((τ.1 20) = 0 → n_N (τ.2.1 14 (τ.1 22)) (τ.2.1 14 (τ.1 22) + τ.2.1 15 (τ.1 22)) (σ.1 3) (σ.2.1 8) (σ.2.1 11) (τ.2.1 12) (τ.2.1 16) (τ.2.1 17)) ∧ (n_rl σ τ)) := by
  have A6 : ∀ j, (-1) ≤ σ.2.1 6 j ∧ σ.2.1 6 j ≤ 999 := fun j => hT.2 6 j
  have A7 : ∀ j, (-1) ≤ σ.2.1 7 j ∧ σ.2.1 7 j ≤ 1499 := fun j => hT.2 7 j
  have A8 : ∀ j, 0 ≤ σ.2.1 8 j ∧ σ.2.1 8 j ≤ 1 := fun j => hT.2 8 j
  have A10 : ∀ j, (-1) ≤ σ.2.1 10 j ∧ σ.2.1 10 j ≤ 999 := fun j => hT.2 10 j
  have A11 : ∀ j, (-1) ≤ σ.2.1 11 j ∧ σ.2.1 11 j ≤ 1499 := fun j => hT.2 11 j
  have A12 : ∀ j, 0 ≤ σ.2.1 12 j ∧ σ.2.1 12 j ≤ 1 := fun j => hT.2 12 j
  have A14 : ∀ j, 0 ≤ σ.2.1 14 j ∧ σ.2.1 14 j ≤ 30000 := fun j => hT.2 14 j
  have A15 : ∀ j, 0 ≤ σ.2.1 15 j ∧ σ.2.1 15 j ≤ 300 := fun j => hT.2 15 j
  have A16 : ∀ j, 0 ≤ σ.2.1 16 j ∧ σ.2.1 16 j ≤ 999 := fun j => hT.2 16 j
  have A17 : ∀ j, (-1) ≤ σ.2.1 17 j ∧ σ.2.1 17 j ≤ 1499 := fun j => hT.2 17 j
  have v0 : 0 ≤ σ.1 0 ∧ σ.1 0 ≤ 60000 := hT.1 0
  have v3 : 0 ≤ σ.1 3 ∧ σ.1 3 ≤ 1000 := hT.1 3
  have v4 : 0 ≤ σ.1 4 ∧ σ.1 4 ≤ 100 := hT.1 4
  have v5 : 0 ≤ σ.1 5 ∧ σ.1 5 ≤ 1500 := hT.1 5
  have v6 : 0 ≤ σ.1 6 ∧ σ.1 6 ≤ 30000 := hT.1 6
  have v7 : 0 ≤ σ.1 7 ∧ σ.1 7 ≤ 90000 := hT.1 7
  have v8 : 0 ≤ σ.1 8 ∧ σ.1 8 ≤ 20000 := hT.1 8
  have v9 : 0 ≤ σ.1 9 ∧ σ.1 9 ≤ 20000 := hT.1 9
  have v10 : (-1) ≤ σ.1 10 ∧ σ.1 10 ≤ 999 := hT.1 10
  have v11 : (-1) ≤ σ.1 11 ∧ σ.1 11 ≤ 999 := hT.1 11
  have v16 : 0 ≤ σ.1 16 ∧ σ.1 16 ≤ 60000 := hT.1 16
  have v17 : 0 ≤ σ.1 17 ∧ σ.1 17 ≤ 60000 := hT.1 17
  have v18 : 0 ≤ σ.1 18 ∧ σ.1 18 ≤ 60000 := hT.1 18
  have v19 : (-1) ≤ σ.1 19 ∧ σ.1 19 ≤ 125 := hT.1 19
  have v20 : 0 ≤ σ.1 20 ∧ σ.1 20 ≤ 19 := hT.1 20
  have v22 : 0 ≤ σ.1 22 ∧ σ.1 22 ≤ 1499 := hT.1 22
  have a14_22 : 0 ≤ σ.2.1 14 (σ.1 22) ∧ σ.2.1 14 (σ.1 22) ≤ 30000 := hT.2 14 _
  have a15_22 : 0 ≤ σ.2.1 15 (σ.1 22) ∧ σ.2.1 15 (σ.1 22) ≤ 300 := hT.2 15 _
  have W0 : σ.1 0 = σ.1 0 := rfl
  have W3 : σ.1 3 = σ.1 3 := rfl
  have W5 : σ.1 5 = σ.1 5 := rfl
  have W7 : σ.1 7 = σ.1 7 := rfl
  have W8 : σ.1 8 = σ.1 8 := rfl
  have W9 : σ.1 9 = σ.1 9 := rfl
  have W10 : σ.1 10 = σ.1 10 := rfl
  have W11 : σ.1 11 = σ.1 11 := rfl
  have W22 : σ.1 22 = σ.1 22 := rfl
  have G6 : σ.2.1 6 = σ.2.1 6 := rfl
  have G7 : σ.2.1 7 = σ.2.1 7 := rfl
  have G8 : σ.2.1 8 = σ.2.1 8 := rfl
  have G10 : σ.2.1 10 = σ.2.1 10 := rfl
  have G11 : σ.2.1 11 = σ.2.1 11 := rfl
  have G14 : σ.2.1 14 = σ.2.1 14 := rfl
  have ag : m_ag σ σ := ag_0 σ
  intro P15 P26 P85 P116 P125 P153 P174 h15 h26 h85 h116 h125 h153 h174
  have Z1 : σ.2.1 14 (σ.1 22) + σ.2.1 15 (σ.1 22) = (σ.1 6) := p7
  have Y20 : ca (σ.2.1 12) ((σ.1 3)) ≤ (σ.1 4) := p8
  have Y1 : j_l2 (σ.2.1 6) (σ.1 3) := p9
  have STt : j_l2 (σ.2.1 6) (σ.1 3) := p9
  have STt_0 := STt
  have Y1_0 := Y1
  have Y20_0 := Y20
  have Z1_0 := Z1
  have l_26 : ∀ (m_26 : Nat) (τ_26 : S0), 3 * ((τ_26.1 0) - (τ_26.1 16)) + z_0 ((τ_26.1 20)) + 1 - z_0 ((τ_26.1 19)) < (m_26 : Int) → (m_T τ_26) → (m_ag σ τ_26) → (τ_26.1 0 = σ.1 0) → (τ_26.1 3 = σ.1 3) → (τ_26.1 5 = σ.1 5) → (τ_26.1 7 = σ.1 7) → (τ_26.1 8 = σ.1 8) → (τ_26.1 9 = σ.1 9) → (τ_26.1 10 = σ.1 10) → (τ_26.1 11 = σ.1 11) → (τ_26.1 22 = σ.1 22) → (τ_26.2.1 6 = σ.2.1 6) → (τ_26.2.1 7 = σ.2.1 7) → (τ_26.2.1 8 = σ.2.1 8) → (τ_26.2.1 10 = σ.2.1 10) → (τ_26.2.1 11 = σ.2.1 11) → (τ_26.2.1 14 = σ.2.1 14) → ((τ_26.1 16) ≤ (τ_26.1 0)) → ((τ_26.1 17) + (τ_26.1 18) ≤ (τ_26.1 0)) → (oc (τ_26.2.1 6) < 4096) → (oc (τ_26.2.1 7) < 4096) → (¬ (σ.1 20) = 0 → (τ_26.1 20) = (σ.1 20)) → (τ_26.2.1 14 (τ_26.1 22) + τ_26.2.1 15 (τ_26.1 22) = (τ_26.1 6)) → (ca (τ_26.2.1 12) ((τ_26.1 3)) ≤ (τ_26.1 4)) → ((τ_26.1 20) = 0 → 1 ≤ τ_26.2.1 15 (τ_26.1 22)) → ((σ.1 16) ≤ (τ_26.1 16)) → ((τ_26.1 20) = 0 → n_N (τ_26.2.1 14 (τ_26.1 22)) (τ_26.2.1 14 (τ_26.1 22) + τ_26.2.1 15 (τ_26.1 22)) (σ.1 3) (σ.2.1 8) (σ.2.1 11) (τ_26.2.1 12) (τ_26.2.1 16) (τ_26.2.1 17)) → (n_rl σ τ_26) → P26 n1 τ_26 := by
    intro m_26
    induction m_26 with
    | zero =>
      intro τ_26 hm hT ag W0 W3 W5 W7 W8 W9 W10 W11 W22 G6 G7 G8 G10 G11 G14 i26_1 i26_2 i26_3 i26_4 i26_5 i26_6 i26_7 i26_8 i26_9 i26_10 i26_11
      have A6 : ∀ j, (-1) ≤ τ_26.2.1 6 j ∧ τ_26.2.1 6 j ≤ 999 := fun j => hT.2 6 j
      have A7 : ∀ j, (-1) ≤ τ_26.2.1 7 j ∧ τ_26.2.1 7 j ≤ 1499 := fun j => hT.2 7 j
      have A8 : ∀ j, 0 ≤ τ_26.2.1 8 j ∧ τ_26.2.1 8 j ≤ 1 := fun j => hT.2 8 j
      have A10 : ∀ j, (-1) ≤ τ_26.2.1 10 j ∧ τ_26.2.1 10 j ≤ 999 := fun j => hT.2 10 j
      have A11 : ∀ j, (-1) ≤ τ_26.2.1 11 j ∧ τ_26.2.1 11 j ≤ 1499 := fun j => hT.2 11 j
      have A12 : ∀ j, 0 ≤ τ_26.2.1 12 j ∧ τ_26.2.1 12 j ≤ 1 := fun j => hT.2 12 j
      have A14 : ∀ j, 0 ≤ τ_26.2.1 14 j ∧ τ_26.2.1 14 j ≤ 30000 := fun j => hT.2 14 j
      have A15 : ∀ j, 0 ≤ τ_26.2.1 15 j ∧ τ_26.2.1 15 j ≤ 300 := fun j => hT.2 15 j
      have A16 : ∀ j, 0 ≤ τ_26.2.1 16 j ∧ τ_26.2.1 16 j ≤ 999 := fun j => hT.2 16 j
      have A17 : ∀ j, (-1) ≤ τ_26.2.1 17 j ∧ τ_26.2.1 17 j ≤ 1499 := fun j => hT.2 17 j
      have v0 : 0 ≤ τ_26.1 0 ∧ τ_26.1 0 ≤ 60000 := hT.1 0
      have v3 : 0 ≤ τ_26.1 3 ∧ τ_26.1 3 ≤ 1000 := hT.1 3
      have v4 : 0 ≤ τ_26.1 4 ∧ τ_26.1 4 ≤ 100 := hT.1 4
      have v5 : 0 ≤ τ_26.1 5 ∧ τ_26.1 5 ≤ 1500 := hT.1 5
      have v6 : 0 ≤ τ_26.1 6 ∧ τ_26.1 6 ≤ 30000 := hT.1 6
      have v7 : 0 ≤ τ_26.1 7 ∧ τ_26.1 7 ≤ 90000 := hT.1 7
      have v8 : 0 ≤ τ_26.1 8 ∧ τ_26.1 8 ≤ 20000 := hT.1 8
      have v9 : 0 ≤ τ_26.1 9 ∧ τ_26.1 9 ≤ 20000 := hT.1 9
      have v10 : (-1) ≤ τ_26.1 10 ∧ τ_26.1 10 ≤ 999 := hT.1 10
      have v11 : (-1) ≤ τ_26.1 11 ∧ τ_26.1 11 ≤ 999 := hT.1 11
      have v16 : 0 ≤ τ_26.1 16 ∧ τ_26.1 16 ≤ 60000 := hT.1 16
      have v17 : 0 ≤ τ_26.1 17 ∧ τ_26.1 17 ≤ 60000 := hT.1 17
      have v18 : 0 ≤ τ_26.1 18 ∧ τ_26.1 18 ≤ 60000 := hT.1 18
      have v19 : (-1) ≤ τ_26.1 19 ∧ τ_26.1 19 ≤ 125 := hT.1 19
      have v20 : 0 ≤ τ_26.1 20 ∧ τ_26.1 20 ≤ 19 := hT.1 20
      have v22 : 0 ≤ τ_26.1 22 ∧ τ_26.1 22 ≤ 1499 := hT.1 22
      have a14_22 : 0 ≤ τ_26.2.1 14 (τ_26.1 22) ∧ τ_26.2.1 14 (τ_26.1 22) ≤ 30000 := hT.2 14 _
      have a15_22 : 0 ≤ τ_26.2.1 15 (τ_26.1 22) ∧ τ_26.2.1 15 (τ_26.1 22) ≤ 300 := hT.2 15 _
      have av6 : σ.1 6 ≤ τ_26.1 6 := ag.1 6 (by decide)
      have zz0 := z_e ((τ_26.1 20))
      have zz1 := z_e ((τ_26.1 19))
      exfalso; (first | omega | (simp only [st_s] <;> omega) | assumption | omega | fail)
    | succ m_26 ih_26 =>
      intro τ_26 hm_26 hT ag W0 W3 W5 W7 W8 W9 W10 W11 W22 G6 G7 G8 G10 G11 G14 i26_1 i26_2 i26_3 i26_4 i26_5 i26_6 i26_7 i26_8 i26_9 i26_10 i26_11
      have A6 : ∀ j, (-1) ≤ τ_26.2.1 6 j ∧ τ_26.2.1 6 j ≤ 999 := fun j => hT.2 6 j
      have A7 : ∀ j, (-1) ≤ τ_26.2.1 7 j ∧ τ_26.2.1 7 j ≤ 1499 := fun j => hT.2 7 j
      have A8 : ∀ j, 0 ≤ τ_26.2.1 8 j ∧ τ_26.2.1 8 j ≤ 1 := fun j => hT.2 8 j
      have A10 : ∀ j, (-1) ≤ τ_26.2.1 10 j ∧ τ_26.2.1 10 j ≤ 999 := fun j => hT.2 10 j
      have A11 : ∀ j, (-1) ≤ τ_26.2.1 11 j ∧ τ_26.2.1 11 j ≤ 1499 := fun j => hT.2 11 j
      have A12 : ∀ j, 0 ≤ τ_26.2.1 12 j ∧ τ_26.2.1 12 j ≤ 1 := fun j => hT.2 12 j
      have A14 : ∀ j, 0 ≤ τ_26.2.1 14 j ∧ τ_26.2.1 14 j ≤ 30000 := fun j => hT.2 14 j
      have A15 : ∀ j, 0 ≤ τ_26.2.1 15 j ∧ τ_26.2.1 15 j ≤ 300 := fun j => hT.2 15 j
      have A16 : ∀ j, 0 ≤ τ_26.2.1 16 j ∧ τ_26.2.1 16 j ≤ 999 := fun j => hT.2 16 j
      have A17 : ∀ j, (-1) ≤ τ_26.2.1 17 j ∧ τ_26.2.1 17 j ≤ 1499 := fun j => hT.2 17 j
      have v0 : 0 ≤ τ_26.1 0 ∧ τ_26.1 0 ≤ 60000 := hT.1 0
      have v3 : 0 ≤ τ_26.1 3 ∧ τ_26.1 3 ≤ 1000 := hT.1 3
      have v4 : 0 ≤ τ_26.1 4 ∧ τ_26.1 4 ≤ 100 := hT.1 4
      have v5 : 0 ≤ τ_26.1 5 ∧ τ_26.1 5 ≤ 1500 := hT.1 5
      have v6 : 0 ≤ τ_26.1 6 ∧ τ_26.1 6 ≤ 30000 := hT.1 6
      have v7 : 0 ≤ τ_26.1 7 ∧ τ_26.1 7 ≤ 90000 := hT.1 7
      have v8 : 0 ≤ τ_26.1 8 ∧ τ_26.1 8 ≤ 20000 := hT.1 8
      have v9 : 0 ≤ τ_26.1 9 ∧ τ_26.1 9 ≤ 20000 := hT.1 9
      have v10 : (-1) ≤ τ_26.1 10 ∧ τ_26.1 10 ≤ 999 := hT.1 10
      have v11 : (-1) ≤ τ_26.1 11 ∧ τ_26.1 11 ≤ 999 := hT.1 11
      have v16 : 0 ≤ τ_26.1 16 ∧ τ_26.1 16 ≤ 60000 := hT.1 16
      have v17 : 0 ≤ τ_26.1 17 ∧ τ_26.1 17 ≤ 60000 := hT.1 17
      have v18 : 0 ≤ τ_26.1 18 ∧ τ_26.1 18 ≤ 60000 := hT.1 18
      have v19 : (-1) ≤ τ_26.1 19 ∧ τ_26.1 19 ≤ 125 := hT.1 19
      have v20 : 0 ≤ τ_26.1 20 ∧ τ_26.1 20 ≤ 19 := hT.1 20
      have v22 : 0 ≤ τ_26.1 22 ∧ τ_26.1 22 ≤ 1499 := hT.1 22
      have a14_22 : 0 ≤ τ_26.2.1 14 (τ_26.1 22) ∧ τ_26.2.1 14 (τ_26.1 22) ≤ 30000 := hT.2 14 _
      have a15_22 : 0 ≤ τ_26.2.1 15 (τ_26.1 22) ∧ τ_26.2.1 15 (τ_26.1 22) ≤ 300 := hT.2 15 _
      have av6 : σ.1 6 ≤ τ_26.1 6 := ag.1 6 (by decide)
      have zy26_0 := z_e ((τ_26.1 20))
      have zy26_1 := z_e ((τ_26.1 19))
      have y14_22_τ_26 : τ_26.2.1 14 (τ_26.1 22) = σ.2.1 14 (σ.1 22) := by rw [G14, W22]
      have o6_τ_26 := congrArg oc G6
      have o7_τ_26 := congrArg oc G7
      have Z1 : τ_26.2.1 14 (τ_26.1 22) + τ_26.2.1 15 (τ_26.1 22) = (τ_26.1 6) := i26_6
      have Y20 : ca (τ_26.2.1 12) ((τ_26.1 3)) ≤ (τ_26.1 4) := i26_7
      have Y1 : j_l2 (τ_26.2.1 6) (τ_26.1 3) := by rw [show (j_l2 (τ_26.2.1 6) (τ_26.1 3)) = (j_l2 (σ.2.1 6) (σ.1 3)) from by rw [W3, G6]]; exact Y1_0
      have STt : j_l2 (τ_26.2.1 6) (τ_26.1 3) := by rw [show (j_l2 (τ_26.2.1 6) (τ_26.1 3)) = (j_l2 (σ.2.1 6) (σ.1 3)) from by rw [W3, G6]]; exact STt_0
      refine h26 n1 τ_26 ?_
      refine ⟨fun c12 => ?_, fun c12 => ?_⟩
      ·
        exact ⟨hT, (show (τ_26.1 16) ≤ (τ_26.1 0) from by (first | omega | (simp only [st_s] <;> omega) | assumption | omega | fail)), (show (τ_26.1 17) + (τ_26.1 18) ≤ (τ_26.1 0) from by (first | omega | (simp only [st_s] <;> omega) | assumption | omega | fail)), (show ¬ (σ.1 20) = 0 → (τ_26.1 20) = (σ.1 20) from by (first | omega | (simp only [st_s] <;> omega) | assumption | omega | fail)), (show τ_26.2.1 14 (τ_26.1 22) + τ_26.2.1 15 (τ_26.1 22) = (τ_26.1 6) from Z1), (show ca (τ_26.2.1 12) ((τ_26.1 3)) ≤ (τ_26.1 4) from Y20), (show (τ_26.1 20) = 0 → 1 ≤ τ_26.2.1 15 (τ_26.1 22) from by (first | omega | (simp only [st_s] <;> omega) | assumption | omega | fail)), (show (σ.1 16) ≤ (τ_26.1 16) from by (first | omega | (simp only [st_s] <;> omega) | assumption | omega | fail)), ag, (show (τ_26.1 20) = 0 → n_N (τ_26.2.1 14 (τ_26.1 22)) (τ_26.2.1 14 (τ_26.1 22) + τ_26.2.1 15 (τ_26.1 22)) (σ.1 3) (σ.2.1 8) (σ.2.1 11) (τ_26.2.1 12) (τ_26.2.1 16) (τ_26.2.1 17) from by (first | exact i26_10 | (intro z; exfalso; omega) | fail)), (show n_rl σ τ_26 from by (first | exact i26_11 | exact n_rl_r (i26_11) hf_τ30 rfl rfl | fail))⟩
      ·
        refine ⟨fun c13 => ?_, fun c13 => ?_⟩
        ·
          exact ⟨hT, (show (τ_26.1 16) ≤ (τ_26.1 0) from by (first | omega | (simp only [st_s] <;> omega) | assumption | omega | fail)), (show (τ_26.1 17) + (τ_26.1 18) ≤ (τ_26.1 0) from by (first | omega | (simp only [st_s] <;> omega) | assumption | omega | fail)), (show ¬ (σ.1 20) = 0 → (τ_26.1 20) = (σ.1 20) from by (first | omega | (simp only [st_s] <;> omega) | assumption | omega | fail)), (show τ_26.2.1 14 (τ_26.1 22) + τ_26.2.1 15 (τ_26.1 22) = (τ_26.1 6) from Z1), (show ca (τ_26.2.1 12) ((τ_26.1 3)) ≤ (τ_26.1 4) from Y20), (show (τ_26.1 20) = 0 → 1 ≤ τ_26.2.1 15 (τ_26.1 22) from by (first | omega | (simp only [st_s] <;> omega) | assumption | omega | fail)), (show (σ.1 16) ≤ (τ_26.1 16) from by (first | omega | (simp only [st_s] <;> omega) | assumption | omega | fail)), ag, (show (τ_26.1 20) = 0 → n_N (τ_26.2.1 14 (τ_26.1 22)) (τ_26.2.1 14 (τ_26.1 22) + τ_26.2.1 15 (τ_26.1 22)) (σ.1 3) (σ.2.1 8) (σ.2.1 11) (τ_26.2.1 12) (τ_26.2.1 16) (τ_26.2.1 17) from by (first | exact i26_10 | (intro z; exfalso; omega) | fail)), (show n_rl σ τ_26 from by (first | exact i26_11 | exact n_rl_r (i26_11) hf_τ30 rfl rfl | fail))⟩
        ·
          refine ⟨fun c14 => ?_, fun c14 => ?_⟩
          ·
            refine ⟨_, K_X13_symbolHere hT (show (τ_26.1 17) + (τ_26.1 18) ≤ 60000 from by (first | omega | (simp only [st_s] <;> omega) | assumption | omega | fail)) (show oc (τ_26.2.1 6) < 4096 from by (first | omega | (simp only [st_s] <;> omega) | assumption | omega | fail)), ?_⟩
            intro x16 r_x16 hq
            obtain ⟨q15_1, q15_2⟩ := hq
            replace q15_1 : -1 ≤ x16 ∧ x16 ≤ 999 := q15_1
            replace q15_2 : x16 = -1 ∨ ∃ e : Int, (0 ≤ e ∧ e < 4096) ∧ x16 = τ_26.2.1 6 e := q15_2
            have x3lt : ¬ x16 = -1 → x16 < σ.1 3 := fun z => by (have q := q15_2.resolve_left z; obtain ⟨e, e1, e2⟩ := q; rw [e2, G6]; have w := p9 e e1.1 e1.2; omega)
            clear q15_2
            refine ⟨(show 0 ≤ τ_26.1 22 ∧ τ_26.1 22 < 1501 from by (first | omega | (simp only [st_s] <;> omega) | assumption | omega | fail)), ?_⟩
            intro x19 r_x19 e_x19
            have b_x19 : 0 ≤ x19 ∧ x19 ≤ 300 := by rw [e_x19]; exact hT.2 15 _
            refine ⟨fun c20 => ?_, fun c20 => ?_⟩
            ·
              refine h85 _ _ ?_
              refine ⟨_, K_X13_failHere hT (show 0 ≤ (5 : Int) from by (first | omega | (simp only [st_s] <;> omega) | assumption | omega | fail)) (show (5 : Int) ≤ 19 from by (first | omega | (simp only [st_s] <;> omega) | assumption | omega | fail)), ?_⟩
              intro τ33 hn_τ33 hf_τ33 hq
              obtain ⟨hT, q31_1, q31_2⟩ := hq
              replace q31_1 : ¬ (τ_26.1 20) = 0 → (τ33.1 20) = (τ_26.1 20) := q31_1
              replace q31_2 : (τ_26.1 20) = 0 → (τ33.1 20) = (5 : Int) := q31_2
              replace ag : m_ag σ τ33 := ag_r ag hf_τ33 rfl rfl
              have w0_τ33 : τ33.1 0 = τ_26.1 0 := hf_τ33.1 0 (by decide)
              have w3_τ33 : τ33.1 3 = τ_26.1 3 := hf_τ33.1 3 (by decide)
              have w4_τ33 : τ33.1 4 = τ_26.1 4 := hf_τ33.1 4 (by decide)
              have w5_τ33 : τ33.1 5 = τ_26.1 5 := hf_τ33.1 5 (by decide)
              have w6_τ33 : τ33.1 6 = τ_26.1 6 := hf_τ33.1 6 (by decide)
              have w7_τ33 : τ33.1 7 = τ_26.1 7 := hf_τ33.1 7 (by decide)
              have w8_τ33 : τ33.1 8 = τ_26.1 8 := hf_τ33.1 8 (by decide)
              have w9_τ33 : τ33.1 9 = τ_26.1 9 := hf_τ33.1 9 (by decide)
              have w10_τ33 : τ33.1 10 = τ_26.1 10 := hf_τ33.1 10 (by decide)
              have w11_τ33 : τ33.1 11 = τ_26.1 11 := hf_τ33.1 11 (by decide)
              have w16_τ33 : τ33.1 16 = τ_26.1 16 := hf_τ33.1 16 (by decide)
              have w17_τ33 : τ33.1 17 = τ_26.1 17 := hf_τ33.1 17 (by decide)
              have w18_τ33 : τ33.1 18 = τ_26.1 18 := hf_τ33.1 18 (by decide)
              have w19_τ33 : τ33.1 19 = τ_26.1 19 := hf_τ33.1 19 (by decide)
              have w22_τ33 : τ33.1 22 = τ_26.1 22 := hf_τ33.1 22 (by decide)
              have g6_τ33 : τ33.2.1 6 = τ_26.2.1 6 := hf_τ33.2.1 6 (by decide)
              have g7_τ33 : τ33.2.1 7 = τ_26.2.1 7 := hf_τ33.2.1 7 (by decide)
              have g8_τ33 : τ33.2.1 8 = τ_26.2.1 8 := hf_τ33.2.1 8 (by decide)
              have g10_τ33 : τ33.2.1 10 = τ_26.2.1 10 := hf_τ33.2.1 10 (by decide)
              have g11_τ33 : τ33.2.1 11 = τ_26.2.1 11 := hf_τ33.2.1 11 (by decide)
              have g12_τ33 : τ33.2.1 12 = τ_26.2.1 12 := hf_τ33.2.1 12 (by decide)
              have g14_τ33 : τ33.2.1 14 = τ_26.2.1 14 := hf_τ33.2.1 14 (by decide)
              have g15_τ33 : τ33.2.1 15 = τ_26.2.1 15 := hf_τ33.2.1 15 (by decide)
              have g16_τ33 : τ33.2.1 16 = τ_26.2.1 16 := hf_τ33.2.1 16 (by decide)
              have g17_τ33 : τ33.2.1 17 = τ_26.2.1 17 := hf_τ33.2.1 17 (by decide)
              first | (have o6_τ33 := congrArg oc g6_τ33) | skip
              first | (have o7_τ33 := congrArg oc g7_τ33) | skip
              have W0 : τ33.1 0 = σ.1 0 := by first | exact w0_τ33.trans W0 | omega
              have W3 : τ33.1 3 = σ.1 3 := by first | exact w3_τ33.trans W3 | omega
              have W5 : τ33.1 5 = σ.1 5 := by first | exact w5_τ33.trans W5 | omega
              have W7 : τ33.1 7 = σ.1 7 := by first | exact w7_τ33.trans W7 | omega
              have W8 : τ33.1 8 = σ.1 8 := by first | exact w8_τ33.trans W8 | omega
              have W9 : τ33.1 9 = σ.1 9 := by first | exact w9_τ33.trans W9 | omega
              have W10 : τ33.1 10 = σ.1 10 := by first | exact w10_τ33.trans W10 | omega
              have W11 : τ33.1 11 = σ.1 11 := by first | exact w11_τ33.trans W11 | omega
              have W22 : τ33.1 22 = σ.1 22 := by first | exact w22_τ33.trans W22 | omega
              have G6 : τ33.2.1 6 = σ.2.1 6 := (g6_τ33).trans G6
              have G7 : τ33.2.1 7 = σ.2.1 7 := (g7_τ33).trans G7
              have G8 : τ33.2.1 8 = σ.2.1 8 := (g8_τ33).trans G8
              have G10 : τ33.2.1 10 = σ.2.1 10 := (g10_τ33).trans G10
              have G11 : τ33.2.1 11 = σ.2.1 11 := (g11_τ33).trans G11
              have G14 : τ33.2.1 14 = σ.2.1 14 := (g14_τ33).trans G14
              have y14_22_τ33 : τ33.2.1 14 (τ33.1 22) = (τ_26.2.1 14) (τ_26.1 22) := by rw [g14_τ33, w22_τ33]
              have y15_22_τ33 : τ33.2.1 15 (τ33.1 22) = (τ_26.2.1 15) (τ_26.1 22) := by rw [g15_τ33, w22_τ33]
              have Z1 : τ33.2.1 14 (τ33.1 22) + τ33.2.1 15 (τ33.1 22) = (τ33.1 6) := by rw [show (τ33.2.1 14 (τ33.1 22) + τ33.2.1 15 (τ33.1 22) = (τ33.1 6)) = (τ_26.2.1 14 (τ_26.1 22) + τ_26.2.1 15 (τ_26.1 22) = (τ_26.1 6)) from by rw [w6_τ33, w22_τ33, g14_τ33, g15_τ33]]; exact Z1
              have Y20 : ca (τ33.2.1 12) ((τ33.1 3)) ≤ (τ33.1 4) := by rw [show (ca (τ33.2.1 12) ((τ33.1 3)) ≤ (τ33.1 4)) = (ca (τ_26.2.1 12) ((τ_26.1 3)) ≤ (τ_26.1 4)) from by rw [w3_τ33, w4_τ33, g12_τ33]]; exact Y20
              have Y1 : j_l2 (τ33.2.1 6) (τ33.1 3) := by rw [show (j_l2 (τ33.2.1 6) (τ33.1 3)) = (j_l2 (τ_26.2.1 6) (τ_26.1 3)) from by rw [w3_τ33, g6_τ33]]; exact Y1
              have STt : j_l2 (τ33.2.1 6) (τ33.1 3) := by rw [show (j_l2 (τ33.2.1 6) (τ33.1 3)) = (j_l2 (τ_26.2.1 6) (τ_26.1 3)) from by rw [w3_τ33, g6_τ33]]; exact STt
              have A6 : ∀ j, (-1) ≤ τ33.2.1 6 j ∧ τ33.2.1 6 j ≤ 999 := fun j => hT.2 6 j
              have A7 : ∀ j, (-1) ≤ τ33.2.1 7 j ∧ τ33.2.1 7 j ≤ 1499 := fun j => hT.2 7 j
              have A8 : ∀ j, 0 ≤ τ33.2.1 8 j ∧ τ33.2.1 8 j ≤ 1 := fun j => hT.2 8 j
              have A10 : ∀ j, (-1) ≤ τ33.2.1 10 j ∧ τ33.2.1 10 j ≤ 999 := fun j => hT.2 10 j
              have A11 : ∀ j, (-1) ≤ τ33.2.1 11 j ∧ τ33.2.1 11 j ≤ 1499 := fun j => hT.2 11 j
              have A12 : ∀ j, 0 ≤ τ33.2.1 12 j ∧ τ33.2.1 12 j ≤ 1 := fun j => hT.2 12 j
              have A14 : ∀ j, 0 ≤ τ33.2.1 14 j ∧ τ33.2.1 14 j ≤ 30000 := fun j => hT.2 14 j
              have A15 : ∀ j, 0 ≤ τ33.2.1 15 j ∧ τ33.2.1 15 j ≤ 300 := fun j => hT.2 15 j
              have A16 : ∀ j, 0 ≤ τ33.2.1 16 j ∧ τ33.2.1 16 j ≤ 999 := fun j => hT.2 16 j
              have A17 : ∀ j, (-1) ≤ τ33.2.1 17 j ∧ τ33.2.1 17 j ≤ 1499 := fun j => hT.2 17 j
              have v0 : 0 ≤ τ33.1 0 ∧ τ33.1 0 ≤ 60000 := hT.1 0
              have v3 : 0 ≤ τ33.1 3 ∧ τ33.1 3 ≤ 1000 := hT.1 3
              have v4 : 0 ≤ τ33.1 4 ∧ τ33.1 4 ≤ 100 := hT.1 4
              have v5 : 0 ≤ τ33.1 5 ∧ τ33.1 5 ≤ 1500 := hT.1 5
              have v6 : 0 ≤ τ33.1 6 ∧ τ33.1 6 ≤ 30000 := hT.1 6
              have v7 : 0 ≤ τ33.1 7 ∧ τ33.1 7 ≤ 90000 := hT.1 7
              have v8 : 0 ≤ τ33.1 8 ∧ τ33.1 8 ≤ 20000 := hT.1 8
              have v9 : 0 ≤ τ33.1 9 ∧ τ33.1 9 ≤ 20000 := hT.1 9
              have v10 : (-1) ≤ τ33.1 10 ∧ τ33.1 10 ≤ 999 := hT.1 10
              have v11 : (-1) ≤ τ33.1 11 ∧ τ33.1 11 ≤ 999 := hT.1 11
              have v16 : 0 ≤ τ33.1 16 ∧ τ33.1 16 ≤ 60000 := hT.1 16
              have v17 : 0 ≤ τ33.1 17 ∧ τ33.1 17 ≤ 60000 := hT.1 17
              have v18 : 0 ≤ τ33.1 18 ∧ τ33.1 18 ≤ 60000 := hT.1 18
              have v19 : (-1) ≤ τ33.1 19 ∧ τ33.1 19 ≤ 125 := hT.1 19
              have v20 : 0 ≤ τ33.1 20 ∧ τ33.1 20 ≤ 19 := hT.1 20
              have v22 : 0 ≤ τ33.1 22 ∧ τ33.1 22 ≤ 1499 := hT.1 22
              have a14_22 : 0 ≤ τ33.2.1 14 (τ33.1 22) ∧ τ33.2.1 14 (τ33.1 22) ≤ 30000 := hT.2 14 _
              have a15_22 : 0 ≤ τ33.2.1 15 (τ33.1 22) ∧ τ33.2.1 15 (τ33.1 22) ≤ 300 := hT.2 15 _
              have av6 : σ.1 6 ≤ τ33.1 6 := ag.1 6 (by decide)
              exact ih_26 _ (show (3 * ((τ33.1 0) - (τ33.1 16)) + z_0 ((τ33.1 20)) + 1 - z_0 ((τ33.1 19)) : Int) < ((m_26 : Nat) : Int) from by (have zz0 := z_e ((τ33.1 20)); have zz1 := z_e ((τ33.1 19)); (first | omega | (simp only [st_s] <;> omega) | assumption | omega | fail))) hT ag (show τ33.1 0 = σ.1 0 from by first | exact W0 | omega) (show τ33.1 3 = σ.1 3 from by first | exact W3 | omega) (show τ33.1 5 = σ.1 5 from by first | exact W5 | omega) (show τ33.1 7 = σ.1 7 from by first | exact W7 | omega) (show τ33.1 8 = σ.1 8 from by first | exact W8 | omega) (show τ33.1 9 = σ.1 9 from by first | exact W9 | omega) (show τ33.1 10 = σ.1 10 from by first | exact W10 | omega) (show τ33.1 11 = σ.1 11 from by first | exact W11 | omega) (show τ33.1 22 = σ.1 22 from by first | exact W22 | omega) G6 G7 G8 G10 G11 G14 (show (τ33.1 16) ≤ (τ33.1 0) from by (first | omega | (simp only [st_s] <;> omega) | assumption | omega | fail)) (show (τ33.1 17) + (τ33.1 18) ≤ (τ33.1 0) from by (first | omega | (simp only [st_s] <;> omega) | assumption | omega | fail)) (show oc (τ33.2.1 6) < 4096 from by (first | omega | (simp only [st_s] <;> omega) | assumption | omega | fail)) (show oc (τ33.2.1 7) < 4096 from by (first | omega | (simp only [st_s] <;> omega) | assumption | omega | fail)) (show ¬ (σ.1 20) = 0 → (τ33.1 20) = (σ.1 20) from by (first | omega | (simp only [st_s] <;> omega) | assumption | omega | fail)) (show τ33.2.1 14 (τ33.1 22) + τ33.2.1 15 (τ33.1 22) = (τ33.1 6) from Z1) (show ca (τ33.2.1 12) ((τ33.1 3)) ≤ (τ33.1 4) from Y20) (show (τ33.1 20) = 0 → 1 ≤ τ33.2.1 15 (τ33.1 22) from by (first | omega | (simp only [st_s] <;> omega) | assumption | omega | fail)) (show (σ.1 16) ≤ (τ33.1 16) from by (first | omega | (simp only [st_s] <;> omega) | assumption | omega | fail)) (show (τ33.1 20) = 0 → n_N (τ33.2.1 14 (τ33.1 22)) (τ33.2.1 14 (τ33.1 22) + τ33.2.1 15 (τ33.1 22)) (σ.1 3) (σ.2.1 8) (σ.2.1 11) (τ33.2.1 12) (τ33.2.1 16) (τ33.2.1 17) from by (intro z; first | (exfalso; omega) | exact r57 (by omega) | (rw [g14_τ11, g15_τ11, g12_τ11, g16_τ11, g17_τ11, w22_τ11]; exact r57 (by omega)) | exact nn3)) (show n_rl σ τ33 from by (first | exact n_rl_h hf_τ3 rfl rfl | exact n_rl_t (n_rl_h hf_τ3 rfl rfl) q5_8 | exact n_rl_r (n_rl_h hf_τ3 rfl rfl) hf_τ11 rfl rfl | exact n_rl_r (n_rl_t (n_rl_h hf_τ3 rfl rfl) q5_8) hf_τ11 rfl rfl | exact n_rl_r (i26_11) hf_τ33 rfl rfl | exact n_rl_r (i26_11) hf_τ36 rfl rfl | exact n_rl_r (i26_11) hf_τ44 rfl rfl | exact n_rl_r (n_rl_r (i26_11) hf_τ51 rfl rfl) hf_τ54 rfl rfl | fail))
            ·
              refine ⟨fun c21 => ?_, fun c21 => ?_⟩
              ·
                refine ⟨fun c22 => ?_, fun c22 => ?_⟩
                ·
                  refine h116 _ _ ?_
                  refine ⟨_, K_X13_failHere hT (show 0 ≤ (9 : Int) from by (first | omega | (simp only [st_s] <;> omega) | assumption | omega | fail)) (show (9 : Int) ≤ 19 from by (first | omega | (simp only [st_s] <;> omega) | assumption | omega | fail)), ?_⟩
                  intro τ36 hn_τ36 hf_τ36 hq
                  obtain ⟨hT, q34_1, q34_2⟩ := hq
                  replace q34_1 : ¬ (τ_26.1 20) = 0 → (τ36.1 20) = (τ_26.1 20) := q34_1
                  replace q34_2 : (τ_26.1 20) = 0 → (τ36.1 20) = (9 : Int) := q34_2
                  replace ag : m_ag σ τ36 := ag_r ag hf_τ36 rfl rfl
                  have w0_τ36 : τ36.1 0 = τ_26.1 0 := hf_τ36.1 0 (by decide)
                  have w3_τ36 : τ36.1 3 = τ_26.1 3 := hf_τ36.1 3 (by decide)
                  have w4_τ36 : τ36.1 4 = τ_26.1 4 := hf_τ36.1 4 (by decide)
                  have w5_τ36 : τ36.1 5 = τ_26.1 5 := hf_τ36.1 5 (by decide)
                  have w6_τ36 : τ36.1 6 = τ_26.1 6 := hf_τ36.1 6 (by decide)
                  have w7_τ36 : τ36.1 7 = τ_26.1 7 := hf_τ36.1 7 (by decide)
                  have w8_τ36 : τ36.1 8 = τ_26.1 8 := hf_τ36.1 8 (by decide)
                  have w9_τ36 : τ36.1 9 = τ_26.1 9 := hf_τ36.1 9 (by decide)
                  have w10_τ36 : τ36.1 10 = τ_26.1 10 := hf_τ36.1 10 (by decide)
                  have w11_τ36 : τ36.1 11 = τ_26.1 11 := hf_τ36.1 11 (by decide)
                  have w16_τ36 : τ36.1 16 = τ_26.1 16 := hf_τ36.1 16 (by decide)
                  have w17_τ36 : τ36.1 17 = τ_26.1 17 := hf_τ36.1 17 (by decide)
                  have w18_τ36 : τ36.1 18 = τ_26.1 18 := hf_τ36.1 18 (by decide)
                  have w19_τ36 : τ36.1 19 = τ_26.1 19 := hf_τ36.1 19 (by decide)
                  have w22_τ36 : τ36.1 22 = τ_26.1 22 := hf_τ36.1 22 (by decide)
                  have g6_τ36 : τ36.2.1 6 = τ_26.2.1 6 := hf_τ36.2.1 6 (by decide)
                  have g7_τ36 : τ36.2.1 7 = τ_26.2.1 7 := hf_τ36.2.1 7 (by decide)
                  have g8_τ36 : τ36.2.1 8 = τ_26.2.1 8 := hf_τ36.2.1 8 (by decide)
                  have g10_τ36 : τ36.2.1 10 = τ_26.2.1 10 := hf_τ36.2.1 10 (by decide)
                  have g11_τ36 : τ36.2.1 11 = τ_26.2.1 11 := hf_τ36.2.1 11 (by decide)
                  have g12_τ36 : τ36.2.1 12 = τ_26.2.1 12 := hf_τ36.2.1 12 (by decide)
                  have g14_τ36 : τ36.2.1 14 = τ_26.2.1 14 := hf_τ36.2.1 14 (by decide)
                  have g15_τ36 : τ36.2.1 15 = τ_26.2.1 15 := hf_τ36.2.1 15 (by decide)
                  have g16_τ36 : τ36.2.1 16 = τ_26.2.1 16 := hf_τ36.2.1 16 (by decide)
                  have g17_τ36 : τ36.2.1 17 = τ_26.2.1 17 := hf_τ36.2.1 17 (by decide)
                  first | (have o6_τ36 := congrArg oc g6_τ36) | skip
                  first | (have o7_τ36 := congrArg oc g7_τ36) | skip
                  have W0 : τ36.1 0 = σ.1 0 := by first | exact w0_τ36.trans W0 | omega
                  have W3 : τ36.1 3 = σ.1 3 := by first | exact w3_τ36.trans W3 | omega
                  have W5 : τ36.1 5 = σ.1 5 := by first | exact w5_τ36.trans W5 | omega
                  have W7 : τ36.1 7 = σ.1 7 := by first | exact w7_τ36.trans W7 | omega
                  have W8 : τ36.1 8 = σ.1 8 := by first | exact w8_τ36.trans W8 | omega
                  have W9 : τ36.1 9 = σ.1 9 := by first | exact w9_τ36.trans W9 | omega
                  have W10 : τ36.1 10 = σ.1 10 := by first | exact w10_τ36.trans W10 | omega
                  have W11 : τ36.1 11 = σ.1 11 := by first | exact w11_τ36.trans W11 | omega
                  have W22 : τ36.1 22 = σ.1 22 := by first | exact w22_τ36.trans W22 | omega
                  have G6 : τ36.2.1 6 = σ.2.1 6 := (g6_τ36).trans G6
                  have G7 : τ36.2.1 7 = σ.2.1 7 := (g7_τ36).trans G7
                  have G8 : τ36.2.1 8 = σ.2.1 8 := (g8_τ36).trans G8
                  have G10 : τ36.2.1 10 = σ.2.1 10 := (g10_τ36).trans G10
                  have G11 : τ36.2.1 11 = σ.2.1 11 := (g11_τ36).trans G11
                  have G14 : τ36.2.1 14 = σ.2.1 14 := (g14_τ36).trans G14
                  have y14_22_τ36 : τ36.2.1 14 (τ36.1 22) = (τ_26.2.1 14) (τ_26.1 22) := by rw [g14_τ36, w22_τ36]
                  have y15_22_τ36 : τ36.2.1 15 (τ36.1 22) = (τ_26.2.1 15) (τ_26.1 22) := by rw [g15_τ36, w22_τ36]
                  have Z1 : τ36.2.1 14 (τ36.1 22) + τ36.2.1 15 (τ36.1 22) = (τ36.1 6) := by rw [show (τ36.2.1 14 (τ36.1 22) + τ36.2.1 15 (τ36.1 22) = (τ36.1 6)) = (τ_26.2.1 14 (τ_26.1 22) + τ_26.2.1 15 (τ_26.1 22) = (τ_26.1 6)) from by rw [w6_τ36, w22_τ36, g14_τ36, g15_τ36]]; exact Z1
                  have Y20 : ca (τ36.2.1 12) ((τ36.1 3)) ≤ (τ36.1 4) := by rw [show (ca (τ36.2.1 12) ((τ36.1 3)) ≤ (τ36.1 4)) = (ca (τ_26.2.1 12) ((τ_26.1 3)) ≤ (τ_26.1 4)) from by rw [w3_τ36, w4_τ36, g12_τ36]]; exact Y20
                  have Y1 : j_l2 (τ36.2.1 6) (τ36.1 3) := by rw [show (j_l2 (τ36.2.1 6) (τ36.1 3)) = (j_l2 (τ_26.2.1 6) (τ_26.1 3)) from by rw [w3_τ36, g6_τ36]]; exact Y1
                  have STt : j_l2 (τ36.2.1 6) (τ36.1 3) := by rw [show (j_l2 (τ36.2.1 6) (τ36.1 3)) = (j_l2 (τ_26.2.1 6) (τ_26.1 3)) from by rw [w3_τ36, g6_τ36]]; exact STt
                  have A6 : ∀ j, (-1) ≤ τ36.2.1 6 j ∧ τ36.2.1 6 j ≤ 999 := fun j => hT.2 6 j
                  have A7 : ∀ j, (-1) ≤ τ36.2.1 7 j ∧ τ36.2.1 7 j ≤ 1499 := fun j => hT.2 7 j
                  have A8 : ∀ j, 0 ≤ τ36.2.1 8 j ∧ τ36.2.1 8 j ≤ 1 := fun j => hT.2 8 j
                  have A10 : ∀ j, (-1) ≤ τ36.2.1 10 j ∧ τ36.2.1 10 j ≤ 999 := fun j => hT.2 10 j
                  have A11 : ∀ j, (-1) ≤ τ36.2.1 11 j ∧ τ36.2.1 11 j ≤ 1499 := fun j => hT.2 11 j
                  have A12 : ∀ j, 0 ≤ τ36.2.1 12 j ∧ τ36.2.1 12 j ≤ 1 := fun j => hT.2 12 j
                  have A14 : ∀ j, 0 ≤ τ36.2.1 14 j ∧ τ36.2.1 14 j ≤ 30000 := fun j => hT.2 14 j
                  have A15 : ∀ j, 0 ≤ τ36.2.1 15 j ∧ τ36.2.1 15 j ≤ 300 := fun j => hT.2 15 j
                  have A16 : ∀ j, 0 ≤ τ36.2.1 16 j ∧ τ36.2.1 16 j ≤ 999 := fun j => hT.2 16 j
                  have A17 : ∀ j, (-1) ≤ τ36.2.1 17 j ∧ τ36.2.1 17 j ≤ 1499 := fun j => hT.2 17 j
                  have v0 : 0 ≤ τ36.1 0 ∧ τ36.1 0 ≤ 60000 := hT.1 0
                  have v3 : 0 ≤ τ36.1 3 ∧ τ36.1 3 ≤ 1000 := hT.1 3
                  have v4 : 0 ≤ τ36.1 4 ∧ τ36.1 4 ≤ 100 := hT.1 4
                  have v5 : 0 ≤ τ36.1 5 ∧ τ36.1 5 ≤ 1500 := hT.1 5
                  have v6 : 0 ≤ τ36.1 6 ∧ τ36.1 6 ≤ 30000 := hT.1 6
                  have v7 : 0 ≤ τ36.1 7 ∧ τ36.1 7 ≤ 90000 := hT.1 7
                  have v8 : 0 ≤ τ36.1 8 ∧ τ36.1 8 ≤ 20000 := hT.1 8
                  have v9 : 0 ≤ τ36.1 9 ∧ τ36.1 9 ≤ 20000 := hT.1 9
                  have v10 : (-1) ≤ τ36.1 10 ∧ τ36.1 10 ≤ 999 := hT.1 10
                  have v11 : (-1) ≤ τ36.1 11 ∧ τ36.1 11 ≤ 999 := hT.1 11
                  have v16 : 0 ≤ τ36.1 16 ∧ τ36.1 16 ≤ 60000 := hT.1 16
                  have v17 : 0 ≤ τ36.1 17 ∧ τ36.1 17 ≤ 60000 := hT.1 17
                  have v18 : 0 ≤ τ36.1 18 ∧ τ36.1 18 ≤ 60000 := hT.1 18
                  have v19 : (-1) ≤ τ36.1 19 ∧ τ36.1 19 ≤ 125 := hT.1 19
                  have v20 : 0 ≤ τ36.1 20 ∧ τ36.1 20 ≤ 19 := hT.1 20
                  have v22 : 0 ≤ τ36.1 22 ∧ τ36.1 22 ≤ 1499 := hT.1 22
                  have a14_22 : 0 ≤ τ36.2.1 14 (τ36.1 22) ∧ τ36.2.1 14 (τ36.1 22) ≤ 30000 := hT.2 14 _
                  have a15_22 : 0 ≤ τ36.2.1 15 (τ36.1 22) ∧ τ36.2.1 15 (τ36.1 22) ≤ 300 := hT.2 15 _
                  have av6 : σ.1 6 ≤ τ36.1 6 := ag.1 6 (by decide)
                  exact ih_26 _ (show (3 * ((τ36.1 0) - (τ36.1 16)) + z_0 ((τ36.1 20)) + 1 - z_0 ((τ36.1 19)) : Int) < ((m_26 : Nat) : Int) from by (have zz0 := z_e ((τ36.1 20)); have zz1 := z_e ((τ36.1 19)); (first | omega | (simp only [st_s] <;> omega) | assumption | omega | fail))) hT ag (show τ36.1 0 = σ.1 0 from by first | exact W0 | omega) (show τ36.1 3 = σ.1 3 from by first | exact W3 | omega) (show τ36.1 5 = σ.1 5 from by first | exact W5 | omega) (show τ36.1 7 = σ.1 7 from by first | exact W7 | omega) (show τ36.1 8 = σ.1 8 from by first | exact W8 | omega) (show τ36.1 9 = σ.1 9 from by first | exact W9 | omega) (show τ36.1 10 = σ.1 10 from by first | exact W10 | omega) (show τ36.1 11 = σ.1 11 from by first | exact W11 | omega) (show τ36.1 22 = σ.1 22 from by first | exact W22 | omega) G6 G7 G8 G10 G11 G14 (show (τ36.1 16) ≤ (τ36.1 0) from by (first | omega | (simp only [st_s] <;> omega) | assumption | omega | fail)) (show (τ36.1 17) + (τ36.1 18) ≤ (τ36.1 0) from by (first | omega | (simp only [st_s] <;> omega) | assumption | omega | fail)) (show oc (τ36.2.1 6) < 4096 from by (first | omega | (simp only [st_s] <;> omega) | assumption | omega | fail)) (show oc (τ36.2.1 7) < 4096 from by (first | omega | (simp only [st_s] <;> omega) | assumption | omega | fail)) (show ¬ (σ.1 20) = 0 → (τ36.1 20) = (σ.1 20) from by (first | omega | (simp only [st_s] <;> omega) | assumption | omega | fail)) (show τ36.2.1 14 (τ36.1 22) + τ36.2.1 15 (τ36.1 22) = (τ36.1 6) from Z1) (show ca (τ36.2.1 12) ((τ36.1 3)) ≤ (τ36.1 4) from Y20) (show (τ36.1 20) = 0 → 1 ≤ τ36.2.1 15 (τ36.1 22) from by (first | omega | (simp only [st_s] <;> omega) | assumption | omega | fail)) (show (σ.1 16) ≤ (τ36.1 16) from by (first | omega | (simp only [st_s] <;> omega) | assumption | omega | fail)) (show (τ36.1 20) = 0 → n_N (τ36.2.1 14 (τ36.1 22)) (τ36.2.1 14 (τ36.1 22) + τ36.2.1 15 (τ36.1 22)) (σ.1 3) (σ.2.1 8) (σ.2.1 11) (τ36.2.1 12) (τ36.2.1 16) (τ36.2.1 17) from by (intro z; first | (exfalso; omega) | exact r57 (by omega) | (rw [g14_τ11, g15_τ11, g12_τ11, g16_τ11, g17_τ11, w22_τ11]; exact r57 (by omega)) | exact nn3)) (show n_rl σ τ36 from by (first | exact n_rl_h hf_τ3 rfl rfl | exact n_rl_t (n_rl_h hf_τ3 rfl rfl) q5_8 | exact n_rl_r (n_rl_h hf_τ3 rfl rfl) hf_τ11 rfl rfl | exact n_rl_r (n_rl_t (n_rl_h hf_τ3 rfl rfl) q5_8) hf_τ11 rfl rfl | exact n_rl_r (i26_11) hf_τ33 rfl rfl | exact n_rl_r (i26_11) hf_τ36 rfl rfl | exact n_rl_r (i26_11) hf_τ44 rfl rfl | exact n_rl_r (n_rl_r (i26_11) hf_τ51 rfl rfl) hf_τ54 rfl rfl | fail))
                ·
                  refine ⟨(show 0 ≤ x16 ∧ x16 < 1001 from by (first | omega | (simp only [st_s] <;> omega) | assumption | omega | fail)), ?_⟩
                  intro x24 r_x24 e_x24
                  have b_x24 : 0 ≤ x24 ∧ x24 ≤ 1 := by rw [e_x24]; exact hT.2 8 _
                  refine ⟨fun c25 => ?_, fun c25 => ?_⟩
                  ·
                    refine h125 _ _ _ ?_
                    refine ⟨(show 0 ≤ x16 ∧ x16 < 1001 from by (first | omega | (simp only [st_s] <;> omega) | assumption | omega | fail)), ?_⟩
                    intro x38 r_x38 e_x38
                    have b_x38 : 0 ≤ x38 ∧ x38 ≤ 1 := by rw [e_x38]; exact hT.2 8 _
                    refine ⟨fun c39 => ?_, fun c39 => ?_⟩
                    ·
                      refine h153 _ _ _ ?_
                      refine ⟨(show 0 ≤ x16 ∧ x16 < 1001 from by (first | omega | (simp only [st_s] <;> omega) | assumption | omega | fail)), ?_⟩
                      intro x46 r_x46 e_x46
                      have b_x46 : 0 ≤ x46 ∧ x46 ≤ 1 := by rw [e_x46]; exact hT.2 8 _
                      refine ⟨fun c47 => ?_, fun c47 => ?_⟩
                      ·
                        refine h174 _ _ _ _ ?_
                        have nn := i26_10 (by omega)
                        refine ⟨_, K3_X13_addSymbol hT (show 0 ≤ x16 from by (first | omega | (simp only [st_s] <;> omega) | assumption | omega | fail)) (show x16 < 1000 from by (first | omega | (simp only [st_s] <;> omega) | assumption | omega | fail)) (show -1 ≤ (-1 : Int) from by (first | omega | (simp only [st_s] <;> omega) | assumption | omega | fail)) (show (-1 : Int) ≤ 1499 from by (first | omega | (simp only [st_s] <;> omega) | assumption | omega | fail)) (show (τ_26.1 6) < 30000 from by (first | omega | (simp only [st_s] <;> omega) | assumption | omega | fail)) (show τ_26.2.1 15 (τ_26.1 22) < 300 from by (rw [← e_x19]; omega)) (show (τ_26.1 22) = (τ_26.1 5) from by (first | omega | (simp only [st_s] <;> omega) | assumption | omega | fail)), ?_⟩
                        intro τ51 hn_τ51 hf_τ51 hq
                        obtain ⟨hT, q49_1, q49_2, q49_3, q49_4, q49_5⟩ := hq
                        replace q49_1 : (τ51.1 6) = (τ_26.1 6) + 1 := q49_1
                        replace q49_2 : τ51.2.1 15 (τ51.1 22) = τ_26.2.1 15 (τ_26.1 22) + 1 := q49_2
                        replace q49_3 : m_ag τ_26 τ51 := q49_3
                        replace q49_4 : τ51.2.1 16 = st (τ_26.2.1 16) (τ_26.1 6) x16 := q49_4
                        replace q49_5 : τ51.2.1 17 = st (τ_26.2.1 17) (τ_26.1 6) (-1 : Int) := q49_5
                        replace ag : m_ag σ τ51 := ag_t ag q49_3 rfl
                        have w0_τ51 : τ51.1 0 = τ_26.1 0 := hf_τ51.1 0 (by decide)
                        have w3_τ51 : τ51.1 3 = τ_26.1 3 := hf_τ51.1 3 (by decide)
                        have w4_τ51 : τ51.1 4 = τ_26.1 4 := hf_τ51.1 4 (by decide)
                        have w5_τ51 : τ51.1 5 = τ_26.1 5 := hf_τ51.1 5 (by decide)
                        have w7_τ51 : τ51.1 7 = τ_26.1 7 := hf_τ51.1 7 (by decide)
                        have w8_τ51 : τ51.1 8 = τ_26.1 8 := hf_τ51.1 8 (by decide)
                        have w9_τ51 : τ51.1 9 = τ_26.1 9 := hf_τ51.1 9 (by decide)
                        have w10_τ51 : τ51.1 10 = τ_26.1 10 := hf_τ51.1 10 (by decide)
                        have w11_τ51 : τ51.1 11 = τ_26.1 11 := hf_τ51.1 11 (by decide)
                        have w16_τ51 : τ51.1 16 = τ_26.1 16 := hf_τ51.1 16 (by decide)
                        have w17_τ51 : τ51.1 17 = τ_26.1 17 := hf_τ51.1 17 (by decide)
                        have w18_τ51 : τ51.1 18 = τ_26.1 18 := hf_τ51.1 18 (by decide)
                        have w19_τ51 : τ51.1 19 = τ_26.1 19 := hf_τ51.1 19 (by decide)
                        have w20_τ51 : τ51.1 20 = τ_26.1 20 := hf_τ51.1 20 (by decide)
                        have w22_τ51 : τ51.1 22 = τ_26.1 22 := hf_τ51.1 22 (by decide)
                        have g6_τ51 : τ51.2.1 6 = τ_26.2.1 6 := hf_τ51.2.1 6 (by decide)
                        have g7_τ51 : τ51.2.1 7 = τ_26.2.1 7 := hf_τ51.2.1 7 (by decide)
                        have g8_τ51 : τ51.2.1 8 = τ_26.2.1 8 := hf_τ51.2.1 8 (by decide)
                        have g10_τ51 : τ51.2.1 10 = τ_26.2.1 10 := hf_τ51.2.1 10 (by decide)
                        have g11_τ51 : τ51.2.1 11 = τ_26.2.1 11 := hf_τ51.2.1 11 (by decide)
                        have g12_τ51 : τ51.2.1 12 = τ_26.2.1 12 := hf_τ51.2.1 12 (by decide)
                        have g14_τ51 : τ51.2.1 14 = τ_26.2.1 14 := hf_τ51.2.1 14 (by decide)
                        first | (have o6_τ51 := congrArg oc g6_τ51) | skip
                        first | (have o7_τ51 := congrArg oc g7_τ51) | skip
                        have W0 : τ51.1 0 = σ.1 0 := by first | exact w0_τ51.trans W0 | omega
                        have W3 : τ51.1 3 = σ.1 3 := by first | exact w3_τ51.trans W3 | omega
                        have W5 : τ51.1 5 = σ.1 5 := by first | exact w5_τ51.trans W5 | omega
                        have W7 : τ51.1 7 = σ.1 7 := by first | exact w7_τ51.trans W7 | omega
                        have W8 : τ51.1 8 = σ.1 8 := by first | exact w8_τ51.trans W8 | omega
                        have W9 : τ51.1 9 = σ.1 9 := by first | exact w9_τ51.trans W9 | omega
                        have W10 : τ51.1 10 = σ.1 10 := by first | exact w10_τ51.trans W10 | omega
                        have W11 : τ51.1 11 = σ.1 11 := by first | exact w11_τ51.trans W11 | omega
                        have W22 : τ51.1 22 = σ.1 22 := by first | exact w22_τ51.trans W22 | omega
                        have G6 : τ51.2.1 6 = σ.2.1 6 := (g6_τ51).trans G6
                        have G7 : τ51.2.1 7 = σ.2.1 7 := (g7_τ51).trans G7
                        have G8 : τ51.2.1 8 = σ.2.1 8 := (g8_τ51).trans G8
                        have G10 : τ51.2.1 10 = σ.2.1 10 := (g10_τ51).trans G10
                        have G11 : τ51.2.1 11 = σ.2.1 11 := (g11_τ51).trans G11
                        have G14 : τ51.2.1 14 = σ.2.1 14 := (g14_τ51).trans G14
                        have y14_22_τ51 : τ51.2.1 14 (τ51.1 22) = (τ_26.2.1 14) (τ_26.1 22) := by rw [g14_τ51, w22_τ51]
                        have Y20 : ca (τ51.2.1 12) ((τ51.1 3)) ≤ (τ51.1 4) := by rw [show (ca (τ51.2.1 12) ((τ51.1 3)) ≤ (τ51.1 4)) = (ca (τ_26.2.1 12) ((τ_26.1 3)) ≤ (τ_26.1 4)) from by rw [w3_τ51, w4_τ51, g12_τ51]]; exact Y20
                        have Y1 : j_l2 (τ51.2.1 6) (τ51.1 3) := by rw [show (j_l2 (τ51.2.1 6) (τ51.1 3)) = (j_l2 (τ_26.2.1 6) (τ_26.1 3)) from by rw [w3_τ51, g6_τ51]]; exact Y1
                        have STt : j_l2 (τ51.2.1 6) (τ51.1 3) := by rw [show (j_l2 (τ51.2.1 6) (τ51.1 3)) = (j_l2 (τ_26.2.1 6) (τ_26.1 3)) from by rw [w3_τ51, g6_τ51]]; exact STt
                        have A6 : ∀ j, (-1) ≤ τ51.2.1 6 j ∧ τ51.2.1 6 j ≤ 999 := fun j => hT.2 6 j
                        have A7 : ∀ j, (-1) ≤ τ51.2.1 7 j ∧ τ51.2.1 7 j ≤ 1499 := fun j => hT.2 7 j
                        have A8 : ∀ j, 0 ≤ τ51.2.1 8 j ∧ τ51.2.1 8 j ≤ 1 := fun j => hT.2 8 j
                        have A10 : ∀ j, (-1) ≤ τ51.2.1 10 j ∧ τ51.2.1 10 j ≤ 999 := fun j => hT.2 10 j
                        have A11 : ∀ j, (-1) ≤ τ51.2.1 11 j ∧ τ51.2.1 11 j ≤ 1499 := fun j => hT.2 11 j
                        have A12 : ∀ j, 0 ≤ τ51.2.1 12 j ∧ τ51.2.1 12 j ≤ 1 := fun j => hT.2 12 j
                        have A14 : ∀ j, 0 ≤ τ51.2.1 14 j ∧ τ51.2.1 14 j ≤ 30000 := fun j => hT.2 14 j
                        have A15 : ∀ j, 0 ≤ τ51.2.1 15 j ∧ τ51.2.1 15 j ≤ 300 := fun j => hT.2 15 j
                        have A16 : ∀ j, 0 ≤ τ51.2.1 16 j ∧ τ51.2.1 16 j ≤ 999 := fun j => hT.2 16 j
                        have A17 : ∀ j, (-1) ≤ τ51.2.1 17 j ∧ τ51.2.1 17 j ≤ 1499 := fun j => hT.2 17 j
                        have v0 : 0 ≤ τ51.1 0 ∧ τ51.1 0 ≤ 60000 := hT.1 0
                        have v3 : 0 ≤ τ51.1 3 ∧ τ51.1 3 ≤ 1000 := hT.1 3
                        have v4 : 0 ≤ τ51.1 4 ∧ τ51.1 4 ≤ 100 := hT.1 4
                        have v5 : 0 ≤ τ51.1 5 ∧ τ51.1 5 ≤ 1500 := hT.1 5
                        have v6 : 0 ≤ τ51.1 6 ∧ τ51.1 6 ≤ 30000 := hT.1 6
                        have v7 : 0 ≤ τ51.1 7 ∧ τ51.1 7 ≤ 90000 := hT.1 7
                        have v8 : 0 ≤ τ51.1 8 ∧ τ51.1 8 ≤ 20000 := hT.1 8
                        have v9 : 0 ≤ τ51.1 9 ∧ τ51.1 9 ≤ 20000 := hT.1 9
                        have v10 : (-1) ≤ τ51.1 10 ∧ τ51.1 10 ≤ 999 := hT.1 10
                        have v11 : (-1) ≤ τ51.1 11 ∧ τ51.1 11 ≤ 999 := hT.1 11
                        have v16 : 0 ≤ τ51.1 16 ∧ τ51.1 16 ≤ 60000 := hT.1 16
                        have v17 : 0 ≤ τ51.1 17 ∧ τ51.1 17 ≤ 60000 := hT.1 17
                        have v18 : 0 ≤ τ51.1 18 ∧ τ51.1 18 ≤ 60000 := hT.1 18
                        have v19 : (-1) ≤ τ51.1 19 ∧ τ51.1 19 ≤ 125 := hT.1 19
                        have v20 : 0 ≤ τ51.1 20 ∧ τ51.1 20 ≤ 19 := hT.1 20
                        have v22 : 0 ≤ τ51.1 22 ∧ τ51.1 22 ≤ 1499 := hT.1 22
                        have a14_22 : 0 ≤ τ51.2.1 14 (τ51.1 22) ∧ τ51.2.1 14 (τ51.1 22) ≤ 30000 := hT.2 14 _
                        have a15_22 : 0 ≤ τ51.2.1 15 (τ51.1 22) ∧ τ51.2.1 15 (τ51.1 22) ≤ 300 := hT.2 15 _
                        have av6 : σ.1 6 ≤ τ51.1 6 := ag.1 6 (by decide)
                        have Z1 : τ51.2.1 14 (τ51.1 22) + τ51.2.1 15 (τ51.1 22) = τ51.1 6 := by omega
                        have nn2 := n_N_a nn (show τ51.2.1 16 = st (τ_26.2.1 16) (τ_26.2.1 14 (τ_26.1 22) + τ_26.2.1 15 (τ_26.1 22)) x16 from by rw [q49_4, show τ_26.2.1 14 (τ_26.1 22) + τ_26.2.1 15 (τ_26.1 22) = τ_26.1 6 from by omega]) (show τ51.2.1 17 = st (τ_26.2.1 17) (τ_26.2.1 14 (τ_26.1 22) + τ_26.2.1 15 (τ_26.1 22)) (-1) from by rw [q49_5, show τ_26.2.1 14 (τ_26.1 22) + τ_26.2.1 15 (τ_26.1 22) = τ_26.1 6 from by omega]) (x3lt (by omega)) (by first | exact Or.inl ⟨by rw [← G8, g8_τ51, ← e_x46]; assumption, rfl⟩ | exact Or.inr ⟨by rw [← G8, g8_τ51, ← e_x46]; assumption, by omega, by rw [← G11, g11_τ51, ← e_x48]⟩ | (exfalso; omega))
                        refine ⟨_, K_X13_next hT (show (τ51.1 16) ≤ (τ51.1 0) from by (first | omega | (simp only [st_s] <;> omega) | assumption | omega | fail)), ?_⟩
                        intro τ54 hn_τ54 hf_τ54 hq
                        obtain ⟨hT, q52_1, q52_2, q52_3, q52_4, q52_5⟩ := hq
                        replace q52_1 : (τ54.1 16) ≤ (τ54.1 0) := q52_1
                        replace q52_2 : (τ54.1 17) + (τ54.1 18) ≤ (τ54.1 0) := q52_2
                        replace q52_3 : (τ51.1 16) ≤ (τ54.1 16) := q52_3
                        replace q52_4 : ¬ (τ51.1 20) = 0 → (τ54.1 20) = (τ51.1 20) := q52_4
                        replace q52_5 : (τ54.1 20) = 0 → ¬ (τ54.1 19) = 0 → (τ51.1 16) < (τ54.1 16) ∧ 0 < (τ54.1 18) := q52_5
                        replace ag : m_ag σ τ54 := ag_r ag hf_τ54 rfl rfl
                        have w0_τ54 : τ54.1 0 = τ51.1 0 := hf_τ54.1 0 (by decide)
                        have w3_τ54 : τ54.1 3 = τ51.1 3 := hf_τ54.1 3 (by decide)
                        have w4_τ54 : τ54.1 4 = τ51.1 4 := hf_τ54.1 4 (by decide)
                        have w5_τ54 : τ54.1 5 = τ51.1 5 := hf_τ54.1 5 (by decide)
                        have w6_τ54 : τ54.1 6 = τ51.1 6 := hf_τ54.1 6 (by decide)
                        have w7_τ54 : τ54.1 7 = τ51.1 7 := hf_τ54.1 7 (by decide)
                        have w8_τ54 : τ54.1 8 = τ51.1 8 := hf_τ54.1 8 (by decide)
                        have w9_τ54 : τ54.1 9 = τ51.1 9 := hf_τ54.1 9 (by decide)
                        have w10_τ54 : τ54.1 10 = τ51.1 10 := hf_τ54.1 10 (by decide)
                        have w11_τ54 : τ54.1 11 = τ51.1 11 := hf_τ54.1 11 (by decide)
                        have w22_τ54 : τ54.1 22 = τ51.1 22 := hf_τ54.1 22 (by decide)
                        have g6_τ54 : τ54.2.1 6 = τ51.2.1 6 := hf_τ54.2.1 6 (by decide)
                        have g7_τ54 : τ54.2.1 7 = τ51.2.1 7 := hf_τ54.2.1 7 (by decide)
                        have g8_τ54 : τ54.2.1 8 = τ51.2.1 8 := hf_τ54.2.1 8 (by decide)
                        have g10_τ54 : τ54.2.1 10 = τ51.2.1 10 := hf_τ54.2.1 10 (by decide)
                        have g11_τ54 : τ54.2.1 11 = τ51.2.1 11 := hf_τ54.2.1 11 (by decide)
                        have g12_τ54 : τ54.2.1 12 = τ51.2.1 12 := hf_τ54.2.1 12 (by decide)
                        have g14_τ54 : τ54.2.1 14 = τ51.2.1 14 := hf_τ54.2.1 14 (by decide)
                        have g15_τ54 : τ54.2.1 15 = τ51.2.1 15 := hf_τ54.2.1 15 (by decide)
                        have g16_τ54 : τ54.2.1 16 = τ51.2.1 16 := hf_τ54.2.1 16 (by decide)
                        have g17_τ54 : τ54.2.1 17 = τ51.2.1 17 := hf_τ54.2.1 17 (by decide)
                        first | (have o6_τ54 := congrArg oc g6_τ54) | skip
                        first | (have o7_τ54 := congrArg oc g7_τ54) | skip
                        have W0 : τ54.1 0 = σ.1 0 := by first | exact w0_τ54.trans W0 | omega
                        have W3 : τ54.1 3 = σ.1 3 := by first | exact w3_τ54.trans W3 | omega
                        have W5 : τ54.1 5 = σ.1 5 := by first | exact w5_τ54.trans W5 | omega
                        have W7 : τ54.1 7 = σ.1 7 := by first | exact w7_τ54.trans W7 | omega
                        have W8 : τ54.1 8 = σ.1 8 := by first | exact w8_τ54.trans W8 | omega
                        have W9 : τ54.1 9 = σ.1 9 := by first | exact w9_τ54.trans W9 | omega
                        have W10 : τ54.1 10 = σ.1 10 := by first | exact w10_τ54.trans W10 | omega
                        have W11 : τ54.1 11 = σ.1 11 := by first | exact w11_τ54.trans W11 | omega
                        have W22 : τ54.1 22 = σ.1 22 := by first | exact w22_τ54.trans W22 | omega
                        have G6 : τ54.2.1 6 = σ.2.1 6 := (g6_τ54).trans G6
                        have G7 : τ54.2.1 7 = σ.2.1 7 := (g7_τ54).trans G7
                        have G8 : τ54.2.1 8 = σ.2.1 8 := (g8_τ54).trans G8
                        have G10 : τ54.2.1 10 = σ.2.1 10 := (g10_τ54).trans G10
                        have G11 : τ54.2.1 11 = σ.2.1 11 := (g11_τ54).trans G11
                        have G14 : τ54.2.1 14 = σ.2.1 14 := (g14_τ54).trans G14
                        have y14_22_τ54 : τ54.2.1 14 (τ54.1 22) = (τ51.2.1 14) (τ51.1 22) := by rw [g14_τ54, w22_τ54]
                        have y15_22_τ54 : τ54.2.1 15 (τ54.1 22) = (τ51.2.1 15) (τ51.1 22) := by rw [g15_τ54, w22_τ54]
                        have Z1 : τ54.2.1 14 (τ54.1 22) + τ54.2.1 15 (τ54.1 22) = (τ54.1 6) := by rw [show (τ54.2.1 14 (τ54.1 22) + τ54.2.1 15 (τ54.1 22) = (τ54.1 6)) = (τ51.2.1 14 (τ51.1 22) + τ51.2.1 15 (τ51.1 22) = (τ51.1 6)) from by rw [w6_τ54, w22_τ54, g14_τ54, g15_τ54]]; exact Z1
                        have Y20 : ca (τ54.2.1 12) ((τ54.1 3)) ≤ (τ54.1 4) := by rw [show (ca (τ54.2.1 12) ((τ54.1 3)) ≤ (τ54.1 4)) = (ca (τ51.2.1 12) ((τ51.1 3)) ≤ (τ51.1 4)) from by rw [w3_τ54, w4_τ54, g12_τ54]]; exact Y20
                        have Y1 : j_l2 (τ54.2.1 6) (τ54.1 3) := by rw [show (j_l2 (τ54.2.1 6) (τ54.1 3)) = (j_l2 (τ51.2.1 6) (τ51.1 3)) from by rw [w3_τ54, g6_τ54]]; exact Y1
                        have STt : j_l2 (τ54.2.1 6) (τ54.1 3) := by rw [show (j_l2 (τ54.2.1 6) (τ54.1 3)) = (j_l2 (τ51.2.1 6) (τ51.1 3)) from by rw [w3_τ54, g6_τ54]]; exact STt
                        have A6 : ∀ j, (-1) ≤ τ54.2.1 6 j ∧ τ54.2.1 6 j ≤ 999 := fun j => hT.2 6 j
                        have A7 : ∀ j, (-1) ≤ τ54.2.1 7 j ∧ τ54.2.1 7 j ≤ 1499 := fun j => hT.2 7 j
                        have A8 : ∀ j, 0 ≤ τ54.2.1 8 j ∧ τ54.2.1 8 j ≤ 1 := fun j => hT.2 8 j
                        have A10 : ∀ j, (-1) ≤ τ54.2.1 10 j ∧ τ54.2.1 10 j ≤ 999 := fun j => hT.2 10 j
                        have A11 : ∀ j, (-1) ≤ τ54.2.1 11 j ∧ τ54.2.1 11 j ≤ 1499 := fun j => hT.2 11 j
                        have A12 : ∀ j, 0 ≤ τ54.2.1 12 j ∧ τ54.2.1 12 j ≤ 1 := fun j => hT.2 12 j
                        have A14 : ∀ j, 0 ≤ τ54.2.1 14 j ∧ τ54.2.1 14 j ≤ 30000 := fun j => hT.2 14 j
                        have A15 : ∀ j, 0 ≤ τ54.2.1 15 j ∧ τ54.2.1 15 j ≤ 300 := fun j => hT.2 15 j
                        have A16 : ∀ j, 0 ≤ τ54.2.1 16 j ∧ τ54.2.1 16 j ≤ 999 := fun j => hT.2 16 j
                        have A17 : ∀ j, (-1) ≤ τ54.2.1 17 j ∧ τ54.2.1 17 j ≤ 1499 := fun j => hT.2 17 j
                        have v0 : 0 ≤ τ54.1 0 ∧ τ54.1 0 ≤ 60000 := hT.1 0
                        have v3 : 0 ≤ τ54.1 3 ∧ τ54.1 3 ≤ 1000 := hT.1 3
                        have v4 : 0 ≤ τ54.1 4 ∧ τ54.1 4 ≤ 100 := hT.1 4
                        have v5 : 0 ≤ τ54.1 5 ∧ τ54.1 5 ≤ 1500 := hT.1 5
                        have v6 : 0 ≤ τ54.1 6 ∧ τ54.1 6 ≤ 30000 := hT.1 6
                        have v7 : 0 ≤ τ54.1 7 ∧ τ54.1 7 ≤ 90000 := hT.1 7
                        have v8 : 0 ≤ τ54.1 8 ∧ τ54.1 8 ≤ 20000 := hT.1 8
                        have v9 : 0 ≤ τ54.1 9 ∧ τ54.1 9 ≤ 20000 := hT.1 9
                        have v10 : (-1) ≤ τ54.1 10 ∧ τ54.1 10 ≤ 999 := hT.1 10
                        have v11 : (-1) ≤ τ54.1 11 ∧ τ54.1 11 ≤ 999 := hT.1 11
                        have v16 : 0 ≤ τ54.1 16 ∧ τ54.1 16 ≤ 60000 := hT.1 16
                        have v17 : 0 ≤ τ54.1 17 ∧ τ54.1 17 ≤ 60000 := hT.1 17
                        have v18 : 0 ≤ τ54.1 18 ∧ τ54.1 18 ≤ 60000 := hT.1 18
                        have v19 : (-1) ≤ τ54.1 19 ∧ τ54.1 19 ≤ 125 := hT.1 19
                        have v20 : 0 ≤ τ54.1 20 ∧ τ54.1 20 ≤ 19 := hT.1 20
                        have v22 : 0 ≤ τ54.1 22 ∧ τ54.1 22 ≤ 1499 := hT.1 22
                        have a14_22 : 0 ≤ τ54.2.1 14 (τ54.1 22) ∧ τ54.2.1 14 (τ54.1 22) ≤ 30000 := hT.2 14 _
                        have a15_22 : 0 ≤ τ54.2.1 15 (τ54.1 22) ∧ τ54.2.1 15 (τ54.1 22) ≤ 300 := hT.2 15 _
                        have av6 : σ.1 6 ≤ τ54.1 6 := ag.1 6 (by decide)
                        have nn3 : n_N (τ54.2.1 14 (τ54.1 22)) (τ54.2.1 14 (τ54.1 22) + τ54.2.1 15 (τ54.1 22)) (σ.1 3) (σ.2.1 8) (σ.2.1 11) (τ54.2.1 12) (τ54.2.1 16) (τ54.2.1 17) := by (rw [g14_τ54, g15_τ54, g12_τ54, g16_τ54, g17_τ54, w22_τ54, g14_τ51, g12_τ51, show τ51.1 22 = τ_26.1 22 from by omega, show τ51.2.1 15 (τ_26.1 22) = τ_26.2.1 15 (τ_26.1 22) + 1 from by (have w := q49_2; rw [show τ51.1 22 = τ_26.1 22 from by omega] at w; exact w), show τ_26.2.1 14 (τ_26.1 22) + (τ_26.2.1 15 (τ_26.1 22) + 1) = τ_26.2.1 14 (τ_26.1 22) + τ_26.2.1 15 (τ_26.1 22) + 1 from by omega]; exact nn2)
                        exact ih_26 _ (show (3 * ((τ54.1 0) - (τ54.1 16)) + z_0 ((τ54.1 20)) + 1 - z_0 ((τ54.1 19)) : Int) < ((m_26 : Nat) : Int) from by (have zz0 := z_e ((τ54.1 20)); have zz1 := z_e ((τ54.1 19)); (first | omega | (simp only [st_s] <;> omega) | assumption | omega | fail))) hT ag (show τ54.1 0 = σ.1 0 from by first | exact W0 | omega) (show τ54.1 3 = σ.1 3 from by first | exact W3 | omega) (show τ54.1 5 = σ.1 5 from by first | exact W5 | omega) (show τ54.1 7 = σ.1 7 from by first | exact W7 | omega) (show τ54.1 8 = σ.1 8 from by first | exact W8 | omega) (show τ54.1 9 = σ.1 9 from by first | exact W9 | omega) (show τ54.1 10 = σ.1 10 from by first | exact W10 | omega) (show τ54.1 11 = σ.1 11 from by first | exact W11 | omega) (show τ54.1 22 = σ.1 22 from by first | exact W22 | omega) G6 G7 G8 G10 G11 G14 (show (τ54.1 16) ≤ (τ54.1 0) from by (first | omega | (simp only [st_s] <;> omega) | assumption | omega | fail)) (show (τ54.1 17) + (τ54.1 18) ≤ (τ54.1 0) from by (first | omega | (simp only [st_s] <;> omega) | assumption | omega | fail)) (show oc (τ54.2.1 6) < 4096 from by (first | omega | (simp only [st_s] <;> omega) | assumption | omega | fail)) (show oc (τ54.2.1 7) < 4096 from by (first | omega | (simp only [st_s] <;> omega) | assumption | omega | fail)) (show ¬ (σ.1 20) = 0 → (τ54.1 20) = (σ.1 20) from by (first | omega | (simp only [st_s] <;> omega) | assumption | omega | fail)) (show τ54.2.1 14 (τ54.1 22) + τ54.2.1 15 (τ54.1 22) = (τ54.1 6) from Z1) (show ca (τ54.2.1 12) ((τ54.1 3)) ≤ (τ54.1 4) from Y20) (show (τ54.1 20) = 0 → 1 ≤ τ54.2.1 15 (τ54.1 22) from by (first | omega | (simp only [st_s] <;> omega) | assumption | omega | fail)) (show (σ.1 16) ≤ (τ54.1 16) from by (first | omega | (simp only [st_s] <;> omega) | assumption | omega | fail)) (show (τ54.1 20) = 0 → n_N (τ54.2.1 14 (τ54.1 22)) (τ54.2.1 14 (τ54.1 22) + τ54.2.1 15 (τ54.1 22)) (σ.1 3) (σ.2.1 8) (σ.2.1 11) (τ54.2.1 12) (τ54.2.1 16) (τ54.2.1 17) from by (intro z; first | (exfalso; omega) | exact r57 (by omega) | (rw [g14_τ11, g15_τ11, g12_τ11, g16_τ11, g17_τ11, w22_τ11]; exact r57 (by omega)) | exact nn3)) (show n_rl σ τ54 from by (first | exact n_rl_h hf_τ3 rfl rfl | exact n_rl_t (n_rl_h hf_τ3 rfl rfl) q5_8 | exact n_rl_r (n_rl_h hf_τ3 rfl rfl) hf_τ11 rfl rfl | exact n_rl_r (n_rl_t (n_rl_h hf_τ3 rfl rfl) q5_8) hf_τ11 rfl rfl | exact n_rl_r (i26_11) hf_τ33 rfl rfl | exact n_rl_r (i26_11) hf_τ36 rfl rfl | exact n_rl_r (i26_11) hf_τ44 rfl rfl | exact n_rl_r (n_rl_r (i26_11) hf_τ51 rfl rfl) hf_τ54 rfl rfl | fail))
                      ·
                        intro x48 r_x48 e_x48
                        have b_x48 : (-1) ≤ x48 ∧ x48 ≤ 1499 := by rw [e_x48]; exact hT.2 11 _
                        refine h174 _ _ _ _ ?_
                        have nn := i26_10 (by omega)
                        refine ⟨_, K3_X13_addSymbol hT (show 0 ≤ x16 from by (first | omega | (simp only [st_s] <;> omega) | assumption | omega | fail)) (show x16 < 1000 from by (first | omega | (simp only [st_s] <;> omega) | assumption | omega | fail)) (show -1 ≤ x48 from by (first | omega | (simp only [st_s] <;> omega) | assumption | omega | fail)) (show x48 ≤ 1499 from by (first | omega | (simp only [st_s] <;> omega) | assumption | omega | fail)) (show (τ_26.1 6) < 30000 from by (first | omega | (simp only [st_s] <;> omega) | assumption | omega | fail)) (show τ_26.2.1 15 (τ_26.1 22) < 300 from by (rw [← e_x19]; omega)) (show (τ_26.1 22) = (τ_26.1 5) from by (first | omega | (simp only [st_s] <;> omega) | assumption | omega | fail)), ?_⟩
                        intro τ51 hn_τ51 hf_τ51 hq
                        obtain ⟨hT, q49_1, q49_2, q49_3, q49_4, q49_5⟩ := hq
                        replace q49_1 : (τ51.1 6) = (τ_26.1 6) + 1 := q49_1
                        replace q49_2 : τ51.2.1 15 (τ51.1 22) = τ_26.2.1 15 (τ_26.1 22) + 1 := q49_2
                        replace q49_3 : m_ag τ_26 τ51 := q49_3
                        replace q49_4 : τ51.2.1 16 = st (τ_26.2.1 16) (τ_26.1 6) x16 := q49_4
                        replace q49_5 : τ51.2.1 17 = st (τ_26.2.1 17) (τ_26.1 6) x48 := q49_5
                        replace ag : m_ag σ τ51 := ag_t ag q49_3 rfl
                        have w0_τ51 : τ51.1 0 = τ_26.1 0 := hf_τ51.1 0 (by decide)
                        have w3_τ51 : τ51.1 3 = τ_26.1 3 := hf_τ51.1 3 (by decide)
                        have w4_τ51 : τ51.1 4 = τ_26.1 4 := hf_τ51.1 4 (by decide)
                        have w5_τ51 : τ51.1 5 = τ_26.1 5 := hf_τ51.1 5 (by decide)
                        have w7_τ51 : τ51.1 7 = τ_26.1 7 := hf_τ51.1 7 (by decide)
                        have w8_τ51 : τ51.1 8 = τ_26.1 8 := hf_τ51.1 8 (by decide)
                        have w9_τ51 : τ51.1 9 = τ_26.1 9 := hf_τ51.1 9 (by decide)
                        have w10_τ51 : τ51.1 10 = τ_26.1 10 := hf_τ51.1 10 (by decide)
                        have w11_τ51 : τ51.1 11 = τ_26.1 11 := hf_τ51.1 11 (by decide)
                        have w16_τ51 : τ51.1 16 = τ_26.1 16 := hf_τ51.1 16 (by decide)
                        have w17_τ51 : τ51.1 17 = τ_26.1 17 := hf_τ51.1 17 (by decide)
                        have w18_τ51 : τ51.1 18 = τ_26.1 18 := hf_τ51.1 18 (by decide)
                        have w19_τ51 : τ51.1 19 = τ_26.1 19 := hf_τ51.1 19 (by decide)
                        have w20_τ51 : τ51.1 20 = τ_26.1 20 := hf_τ51.1 20 (by decide)
                        have w22_τ51 : τ51.1 22 = τ_26.1 22 := hf_τ51.1 22 (by decide)
                        have g6_τ51 : τ51.2.1 6 = τ_26.2.1 6 := hf_τ51.2.1 6 (by decide)
                        have g7_τ51 : τ51.2.1 7 = τ_26.2.1 7 := hf_τ51.2.1 7 (by decide)
                        have g8_τ51 : τ51.2.1 8 = τ_26.2.1 8 := hf_τ51.2.1 8 (by decide)
                        have g10_τ51 : τ51.2.1 10 = τ_26.2.1 10 := hf_τ51.2.1 10 (by decide)
                        have g11_τ51 : τ51.2.1 11 = τ_26.2.1 11 := hf_τ51.2.1 11 (by decide)
                        have g12_τ51 : τ51.2.1 12 = τ_26.2.1 12 := hf_τ51.2.1 12 (by decide)
                        have g14_τ51 : τ51.2.1 14 = τ_26.2.1 14 := hf_τ51.2.1 14 (by decide)
                        first | (have o6_τ51 := congrArg oc g6_τ51) | skip
                        first | (have o7_τ51 := congrArg oc g7_τ51) | skip
                        have W0 : τ51.1 0 = σ.1 0 := by first | exact w0_τ51.trans W0 | omega
                        have W3 : τ51.1 3 = σ.1 3 := by first | exact w3_τ51.trans W3 | omega
                        have W5 : τ51.1 5 = σ.1 5 := by first | exact w5_τ51.trans W5 | omega
                        have W7 : τ51.1 7 = σ.1 7 := by first | exact w7_τ51.trans W7 | omega
                        have W8 : τ51.1 8 = σ.1 8 := by first | exact w8_τ51.trans W8 | omega
                        have W9 : τ51.1 9 = σ.1 9 := by first | exact w9_τ51.trans W9 | omega
                        have W10 : τ51.1 10 = σ.1 10 := by first | exact w10_τ51.trans W10 | omega
                        have W11 : τ51.1 11 = σ.1 11 := by first | exact w11_τ51.trans W11 | omega
                        have W22 : τ51.1 22 = σ.1 22 := by first | exact w22_τ51.trans W22 | omega
                        have G6 : τ51.2.1 6 = σ.2.1 6 := (g6_τ51).trans G6
                        have G7 : τ51.2.1 7 = σ.2.1 7 := (g7_τ51).trans G7
                        have G8 : τ51.2.1 8 = σ.2.1 8 := (g8_τ51).trans G8
                        have G10 : τ51.2.1 10 = σ.2.1 10 := (g10_τ51).trans G10
                        have G11 : τ51.2.1 11 = σ.2.1 11 := (g11_τ51).trans G11
                        have G14 : τ51.2.1 14 = σ.2.1 14 := (g14_τ51).trans G14
                        have y14_22_τ51 : τ51.2.1 14 (τ51.1 22) = (τ_26.2.1 14) (τ_26.1 22) := by rw [g14_τ51, w22_τ51]
                        have Y20 : ca (τ51.2.1 12) ((τ51.1 3)) ≤ (τ51.1 4) := by rw [show (ca (τ51.2.1 12) ((τ51.1 3)) ≤ (τ51.1 4)) = (ca (τ_26.2.1 12) ((τ_26.1 3)) ≤ (τ_26.1 4)) from by rw [w3_τ51, w4_τ51, g12_τ51]]; exact Y20
                        have Y1 : j_l2 (τ51.2.1 6) (τ51.1 3) := by rw [show (j_l2 (τ51.2.1 6) (τ51.1 3)) = (j_l2 (τ_26.2.1 6) (τ_26.1 3)) from by rw [w3_τ51, g6_τ51]]; exact Y1
                        have STt : j_l2 (τ51.2.1 6) (τ51.1 3) := by rw [show (j_l2 (τ51.2.1 6) (τ51.1 3)) = (j_l2 (τ_26.2.1 6) (τ_26.1 3)) from by rw [w3_τ51, g6_τ51]]; exact STt
                        have A6 : ∀ j, (-1) ≤ τ51.2.1 6 j ∧ τ51.2.1 6 j ≤ 999 := fun j => hT.2 6 j
                        have A7 : ∀ j, (-1) ≤ τ51.2.1 7 j ∧ τ51.2.1 7 j ≤ 1499 := fun j => hT.2 7 j
                        have A8 : ∀ j, 0 ≤ τ51.2.1 8 j ∧ τ51.2.1 8 j ≤ 1 := fun j => hT.2 8 j
                        have A10 : ∀ j, (-1) ≤ τ51.2.1 10 j ∧ τ51.2.1 10 j ≤ 999 := fun j => hT.2 10 j
                        have A11 : ∀ j, (-1) ≤ τ51.2.1 11 j ∧ τ51.2.1 11 j ≤ 1499 := fun j => hT.2 11 j
                        have A12 : ∀ j, 0 ≤ τ51.2.1 12 j ∧ τ51.2.1 12 j ≤ 1 := fun j => hT.2 12 j
                        have A14 : ∀ j, 0 ≤ τ51.2.1 14 j ∧ τ51.2.1 14 j ≤ 30000 := fun j => hT.2 14 j
                        have A15 : ∀ j, 0 ≤ τ51.2.1 15 j ∧ τ51.2.1 15 j ≤ 300 := fun j => hT.2 15 j
                        have A16 : ∀ j, 0 ≤ τ51.2.1 16 j ∧ τ51.2.1 16 j ≤ 999 := fun j => hT.2 16 j
                        have A17 : ∀ j, (-1) ≤ τ51.2.1 17 j ∧ τ51.2.1 17 j ≤ 1499 := fun j => hT.2 17 j
                        have v0 : 0 ≤ τ51.1 0 ∧ τ51.1 0 ≤ 60000 := hT.1 0
                        have v3 : 0 ≤ τ51.1 3 ∧ τ51.1 3 ≤ 1000 := hT.1 3
                        have v4 : 0 ≤ τ51.1 4 ∧ τ51.1 4 ≤ 100 := hT.1 4
                        have v5 : 0 ≤ τ51.1 5 ∧ τ51.1 5 ≤ 1500 := hT.1 5
                        have v6 : 0 ≤ τ51.1 6 ∧ τ51.1 6 ≤ 30000 := hT.1 6
                        have v7 : 0 ≤ τ51.1 7 ∧ τ51.1 7 ≤ 90000 := hT.1 7
                        have v8 : 0 ≤ τ51.1 8 ∧ τ51.1 8 ≤ 20000 := hT.1 8
                        have v9 : 0 ≤ τ51.1 9 ∧ τ51.1 9 ≤ 20000 := hT.1 9
                        have v10 : (-1) ≤ τ51.1 10 ∧ τ51.1 10 ≤ 999 := hT.1 10
                        have v11 : (-1) ≤ τ51.1 11 ∧ τ51.1 11 ≤ 999 := hT.1 11
                        have v16 : 0 ≤ τ51.1 16 ∧ τ51.1 16 ≤ 60000 := hT.1 16
                        have v17 : 0 ≤ τ51.1 17 ∧ τ51.1 17 ≤ 60000 := hT.1 17
                        have v18 : 0 ≤ τ51.1 18 ∧ τ51.1 18 ≤ 60000 := hT.1 18
                        have v19 : (-1) ≤ τ51.1 19 ∧ τ51.1 19 ≤ 125 := hT.1 19
                        have v20 : 0 ≤ τ51.1 20 ∧ τ51.1 20 ≤ 19 := hT.1 20
                        have v22 : 0 ≤ τ51.1 22 ∧ τ51.1 22 ≤ 1499 := hT.1 22
                        have a14_22 : 0 ≤ τ51.2.1 14 (τ51.1 22) ∧ τ51.2.1 14 (τ51.1 22) ≤ 30000 := hT.2 14 _
                        have a15_22 : 0 ≤ τ51.2.1 15 (τ51.1 22) ∧ τ51.2.1 15 (τ51.1 22) ≤ 300 := hT.2 15 _
                        have av6 : σ.1 6 ≤ τ51.1 6 := ag.1 6 (by decide)
                        have Z1 : τ51.2.1 14 (τ51.1 22) + τ51.2.1 15 (τ51.1 22) = τ51.1 6 := by omega
                        have nn2 := n_N_a nn (show τ51.2.1 16 = st (τ_26.2.1 16) (τ_26.2.1 14 (τ_26.1 22) + τ_26.2.1 15 (τ_26.1 22)) x16 from by rw [q49_4, show τ_26.2.1 14 (τ_26.1 22) + τ_26.2.1 15 (τ_26.1 22) = τ_26.1 6 from by omega]) (show τ51.2.1 17 = st (τ_26.2.1 17) (τ_26.2.1 14 (τ_26.1 22) + τ_26.2.1 15 (τ_26.1 22)) x48 from by rw [q49_5, show τ_26.2.1 14 (τ_26.1 22) + τ_26.2.1 15 (τ_26.1 22) = τ_26.1 6 from by omega]) (x3lt (by omega)) (by first | exact Or.inl ⟨by rw [← G8, g8_τ51, ← e_x46]; assumption, rfl⟩ | exact Or.inr ⟨by rw [← G8, g8_τ51, ← e_x46]; assumption, by omega, by rw [← G11, g11_τ51, ← e_x48]⟩ | (exfalso; omega))
                        refine ⟨_, K_X13_next hT (show (τ51.1 16) ≤ (τ51.1 0) from by (first | omega | (simp only [st_s] <;> omega) | assumption | omega | fail)), ?_⟩
                        intro τ54 hn_τ54 hf_τ54 hq
                        obtain ⟨hT, q52_1, q52_2, q52_3, q52_4, q52_5⟩ := hq
                        replace q52_1 : (τ54.1 16) ≤ (τ54.1 0) := q52_1
                        replace q52_2 : (τ54.1 17) + (τ54.1 18) ≤ (τ54.1 0) := q52_2
                        replace q52_3 : (τ51.1 16) ≤ (τ54.1 16) := q52_3
                        replace q52_4 : ¬ (τ51.1 20) = 0 → (τ54.1 20) = (τ51.1 20) := q52_4
                        replace q52_5 : (τ54.1 20) = 0 → ¬ (τ54.1 19) = 0 → (τ51.1 16) < (τ54.1 16) ∧ 0 < (τ54.1 18) := q52_5
                        replace ag : m_ag σ τ54 := ag_r ag hf_τ54 rfl rfl
                        have w0_τ54 : τ54.1 0 = τ51.1 0 := hf_τ54.1 0 (by decide)
                        have w3_τ54 : τ54.1 3 = τ51.1 3 := hf_τ54.1 3 (by decide)
                        have w4_τ54 : τ54.1 4 = τ51.1 4 := hf_τ54.1 4 (by decide)
                        have w5_τ54 : τ54.1 5 = τ51.1 5 := hf_τ54.1 5 (by decide)
                        have w6_τ54 : τ54.1 6 = τ51.1 6 := hf_τ54.1 6 (by decide)
                        have w7_τ54 : τ54.1 7 = τ51.1 7 := hf_τ54.1 7 (by decide)
                        have w8_τ54 : τ54.1 8 = τ51.1 8 := hf_τ54.1 8 (by decide)
                        have w9_τ54 : τ54.1 9 = τ51.1 9 := hf_τ54.1 9 (by decide)
                        have w10_τ54 : τ54.1 10 = τ51.1 10 := hf_τ54.1 10 (by decide)
                        have w11_τ54 : τ54.1 11 = τ51.1 11 := hf_τ54.1 11 (by decide)
                        have w22_τ54 : τ54.1 22 = τ51.1 22 := hf_τ54.1 22 (by decide)
                        have g6_τ54 : τ54.2.1 6 = τ51.2.1 6 := hf_τ54.2.1 6 (by decide)
                        have g7_τ54 : τ54.2.1 7 = τ51.2.1 7 := hf_τ54.2.1 7 (by decide)
                        have g8_τ54 : τ54.2.1 8 = τ51.2.1 8 := hf_τ54.2.1 8 (by decide)
                        have g10_τ54 : τ54.2.1 10 = τ51.2.1 10 := hf_τ54.2.1 10 (by decide)
                        have g11_τ54 : τ54.2.1 11 = τ51.2.1 11 := hf_τ54.2.1 11 (by decide)
                        have g12_τ54 : τ54.2.1 12 = τ51.2.1 12 := hf_τ54.2.1 12 (by decide)
                        have g14_τ54 : τ54.2.1 14 = τ51.2.1 14 := hf_τ54.2.1 14 (by decide)
                        have g15_τ54 : τ54.2.1 15 = τ51.2.1 15 := hf_τ54.2.1 15 (by decide)
                        have g16_τ54 : τ54.2.1 16 = τ51.2.1 16 := hf_τ54.2.1 16 (by decide)
                        have g17_τ54 : τ54.2.1 17 = τ51.2.1 17 := hf_τ54.2.1 17 (by decide)
                        first | (have o6_τ54 := congrArg oc g6_τ54) | skip
                        first | (have o7_τ54 := congrArg oc g7_τ54) | skip
                        have W0 : τ54.1 0 = σ.1 0 := by first | exact w0_τ54.trans W0 | omega
                        have W3 : τ54.1 3 = σ.1 3 := by first | exact w3_τ54.trans W3 | omega
                        have W5 : τ54.1 5 = σ.1 5 := by first | exact w5_τ54.trans W5 | omega
                        have W7 : τ54.1 7 = σ.1 7 := by first | exact w7_τ54.trans W7 | omega
                        have W8 : τ54.1 8 = σ.1 8 := by first | exact w8_τ54.trans W8 | omega
                        have W9 : τ54.1 9 = σ.1 9 := by first | exact w9_τ54.trans W9 | omega
                        have W10 : τ54.1 10 = σ.1 10 := by first | exact w10_τ54.trans W10 | omega
                        have W11 : τ54.1 11 = σ.1 11 := by first | exact w11_τ54.trans W11 | omega
                        have W22 : τ54.1 22 = σ.1 22 := by first | exact w22_τ54.trans W22 | omega
                        have G6 : τ54.2.1 6 = σ.2.1 6 := (g6_τ54).trans G6
                        have G7 : τ54.2.1 7 = σ.2.1 7 := (g7_τ54).trans G7
                        have G8 : τ54.2.1 8 = σ.2.1 8 := (g8_τ54).trans G8
                        have G10 : τ54.2.1 10 = σ.2.1 10 := (g10_τ54).trans G10
                        have G11 : τ54.2.1 11 = σ.2.1 11 := (g11_τ54).trans G11
                        have G14 : τ54.2.1 14 = σ.2.1 14 := (g14_τ54).trans G14
                        have y14_22_τ54 : τ54.2.1 14 (τ54.1 22) = (τ51.2.1 14) (τ51.1 22) := by rw [g14_τ54, w22_τ54]
                        have y15_22_τ54 : τ54.2.1 15 (τ54.1 22) = (τ51.2.1 15) (τ51.1 22) := by rw [g15_τ54, w22_τ54]
                        have Z1 : τ54.2.1 14 (τ54.1 22) + τ54.2.1 15 (τ54.1 22) = (τ54.1 6) := by rw [show (τ54.2.1 14 (τ54.1 22) + τ54.2.1 15 (τ54.1 22) = (τ54.1 6)) = (τ51.2.1 14 (τ51.1 22) + τ51.2.1 15 (τ51.1 22) = (τ51.1 6)) from by rw [w6_τ54, w22_τ54, g14_τ54, g15_τ54]]; exact Z1
                        have Y20 : ca (τ54.2.1 12) ((τ54.1 3)) ≤ (τ54.1 4) := by rw [show (ca (τ54.2.1 12) ((τ54.1 3)) ≤ (τ54.1 4)) = (ca (τ51.2.1 12) ((τ51.1 3)) ≤ (τ51.1 4)) from by rw [w3_τ54, w4_τ54, g12_τ54]]; exact Y20
                        have Y1 : j_l2 (τ54.2.1 6) (τ54.1 3) := by rw [show (j_l2 (τ54.2.1 6) (τ54.1 3)) = (j_l2 (τ51.2.1 6) (τ51.1 3)) from by rw [w3_τ54, g6_τ54]]; exact Y1
                        have STt : j_l2 (τ54.2.1 6) (τ54.1 3) := by rw [show (j_l2 (τ54.2.1 6) (τ54.1 3)) = (j_l2 (τ51.2.1 6) (τ51.1 3)) from by rw [w3_τ54, g6_τ54]]; exact STt
                        have A6 : ∀ j, (-1) ≤ τ54.2.1 6 j ∧ τ54.2.1 6 j ≤ 999 := fun j => hT.2 6 j
                        have A7 : ∀ j, (-1) ≤ τ54.2.1 7 j ∧ τ54.2.1 7 j ≤ 1499 := fun j => hT.2 7 j
                        have A8 : ∀ j, 0 ≤ τ54.2.1 8 j ∧ τ54.2.1 8 j ≤ 1 := fun j => hT.2 8 j
                        have A10 : ∀ j, (-1) ≤ τ54.2.1 10 j ∧ τ54.2.1 10 j ≤ 999 := fun j => hT.2 10 j
                        have A11 : ∀ j, (-1) ≤ τ54.2.1 11 j ∧ τ54.2.1 11 j ≤ 1499 := fun j => hT.2 11 j
                        have A12 : ∀ j, 0 ≤ τ54.2.1 12 j ∧ τ54.2.1 12 j ≤ 1 := fun j => hT.2 12 j
                        have A14 : ∀ j, 0 ≤ τ54.2.1 14 j ∧ τ54.2.1 14 j ≤ 30000 := fun j => hT.2 14 j
                        have A15 : ∀ j, 0 ≤ τ54.2.1 15 j ∧ τ54.2.1 15 j ≤ 300 := fun j => hT.2 15 j
                        have A16 : ∀ j, 0 ≤ τ54.2.1 16 j ∧ τ54.2.1 16 j ≤ 999 := fun j => hT.2 16 j
                        have A17 : ∀ j, (-1) ≤ τ54.2.1 17 j ∧ τ54.2.1 17 j ≤ 1499 := fun j => hT.2 17 j
                        have v0 : 0 ≤ τ54.1 0 ∧ τ54.1 0 ≤ 60000 := hT.1 0
                        have v3 : 0 ≤ τ54.1 3 ∧ τ54.1 3 ≤ 1000 := hT.1 3
                        have v4 : 0 ≤ τ54.1 4 ∧ τ54.1 4 ≤ 100 := hT.1 4
                        have v5 : 0 ≤ τ54.1 5 ∧ τ54.1 5 ≤ 1500 := hT.1 5
                        have v6 : 0 ≤ τ54.1 6 ∧ τ54.1 6 ≤ 30000 := hT.1 6
                        have v7 : 0 ≤ τ54.1 7 ∧ τ54.1 7 ≤ 90000 := hT.1 7
                        have v8 : 0 ≤ τ54.1 8 ∧ τ54.1 8 ≤ 20000 := hT.1 8
                        have v9 : 0 ≤ τ54.1 9 ∧ τ54.1 9 ≤ 20000 := hT.1 9
                        have v10 : (-1) ≤ τ54.1 10 ∧ τ54.1 10 ≤ 999 := hT.1 10
                        have v11 : (-1) ≤ τ54.1 11 ∧ τ54.1 11 ≤ 999 := hT.1 11
                        have v16 : 0 ≤ τ54.1 16 ∧ τ54.1 16 ≤ 60000 := hT.1 16
                        have v17 : 0 ≤ τ54.1 17 ∧ τ54.1 17 ≤ 60000 := hT.1 17
                        have v18 : 0 ≤ τ54.1 18 ∧ τ54.1 18 ≤ 60000 := hT.1 18
                        have v19 : (-1) ≤ τ54.1 19 ∧ τ54.1 19 ≤ 125 := hT.1 19
                        have v20 : 0 ≤ τ54.1 20 ∧ τ54.1 20 ≤ 19 := hT.1 20
                        have v22 : 0 ≤ τ54.1 22 ∧ τ54.1 22 ≤ 1499 := hT.1 22
                        have a14_22 : 0 ≤ τ54.2.1 14 (τ54.1 22) ∧ τ54.2.1 14 (τ54.1 22) ≤ 30000 := hT.2 14 _
                        have a15_22 : 0 ≤ τ54.2.1 15 (τ54.1 22) ∧ τ54.2.1 15 (τ54.1 22) ≤ 300 := hT.2 15 _
                        have av6 : σ.1 6 ≤ τ54.1 6 := ag.1 6 (by decide)
                        have nn3 : n_N (τ54.2.1 14 (τ54.1 22)) (τ54.2.1 14 (τ54.1 22) + τ54.2.1 15 (τ54.1 22)) (σ.1 3) (σ.2.1 8) (σ.2.1 11) (τ54.2.1 12) (τ54.2.1 16) (τ54.2.1 17) := by (rw [g14_τ54, g15_τ54, g12_τ54, g16_τ54, g17_τ54, w22_τ54, g14_τ51, g12_τ51, show τ51.1 22 = τ_26.1 22 from by omega, show τ51.2.1 15 (τ_26.1 22) = τ_26.2.1 15 (τ_26.1 22) + 1 from by (have w := q49_2; rw [show τ51.1 22 = τ_26.1 22 from by omega] at w; exact w), show τ_26.2.1 14 (τ_26.1 22) + (τ_26.2.1 15 (τ_26.1 22) + 1) = τ_26.2.1 14 (τ_26.1 22) + τ_26.2.1 15 (τ_26.1 22) + 1 from by omega]; exact nn2)
                        exact ih_26 _ (show (3 * ((τ54.1 0) - (τ54.1 16)) + z_0 ((τ54.1 20)) + 1 - z_0 ((τ54.1 19)) : Int) < ((m_26 : Nat) : Int) from by (have zz0 := z_e ((τ54.1 20)); have zz1 := z_e ((τ54.1 19)); (first | omega | (simp only [st_s] <;> omega) | assumption | omega | fail))) hT ag (show τ54.1 0 = σ.1 0 from by first | exact W0 | omega) (show τ54.1 3 = σ.1 3 from by first | exact W3 | omega) (show τ54.1 5 = σ.1 5 from by first | exact W5 | omega) (show τ54.1 7 = σ.1 7 from by first | exact W7 | omega) (show τ54.1 8 = σ.1 8 from by first | exact W8 | omega) (show τ54.1 9 = σ.1 9 from by first | exact W9 | omega) (show τ54.1 10 = σ.1 10 from by first | exact W10 | omega) (show τ54.1 11 = σ.1 11 from by first | exact W11 | omega) (show τ54.1 22 = σ.1 22 from by first | exact W22 | omega) G6 G7 G8 G10 G11 G14 (show (τ54.1 16) ≤ (τ54.1 0) from by (first | omega | (simp only [st_s] <;> omega) | assumption | omega | fail)) (show (τ54.1 17) + (τ54.1 18) ≤ (τ54.1 0) from by (first | omega | (simp only [st_s] <;> omega) | assumption | omega | fail)) (show oc (τ54.2.1 6) < 4096 from by (first | omega | (simp only [st_s] <;> omega) | assumption | omega | fail)) (show oc (τ54.2.1 7) < 4096 from by (first | omega | (simp only [st_s] <;> omega) | assumption | omega | fail)) (show ¬ (σ.1 20) = 0 → (τ54.1 20) = (σ.1 20) from by (first | omega | (simp only [st_s] <;> omega) | assumption | omega | fail)) (show τ54.2.1 14 (τ54.1 22) + τ54.2.1 15 (τ54.1 22) = (τ54.1 6) from Z1) (show ca (τ54.2.1 12) ((τ54.1 3)) ≤ (τ54.1 4) from Y20) (show (τ54.1 20) = 0 → 1 ≤ τ54.2.1 15 (τ54.1 22) from by (first | omega | (simp only [st_s] <;> omega) | assumption | omega | fail)) (show (σ.1 16) ≤ (τ54.1 16) from by (first | omega | (simp only [st_s] <;> omega) | assumption | omega | fail)) (show (τ54.1 20) = 0 → n_N (τ54.2.1 14 (τ54.1 22)) (τ54.2.1 14 (τ54.1 22) + τ54.2.1 15 (τ54.1 22)) (σ.1 3) (σ.2.1 8) (σ.2.1 11) (τ54.2.1 12) (τ54.2.1 16) (τ54.2.1 17) from by (intro z; first | (exfalso; omega) | exact r57 (by omega) | (rw [g14_τ11, g15_τ11, g12_τ11, g16_τ11, g17_τ11, w22_τ11]; exact r57 (by omega)) | exact nn3)) (show n_rl σ τ54 from by (first | exact n_rl_h hf_τ3 rfl rfl | exact n_rl_t (n_rl_h hf_τ3 rfl rfl) q5_8 | exact n_rl_r (n_rl_h hf_τ3 rfl rfl) hf_τ11 rfl rfl | exact n_rl_r (n_rl_t (n_rl_h hf_τ3 rfl rfl) q5_8) hf_τ11 rfl rfl | exact n_rl_r (i26_11) hf_τ33 rfl rfl | exact n_rl_r (i26_11) hf_τ36 rfl rfl | exact n_rl_r (i26_11) hf_τ44 rfl rfl | exact n_rl_r (n_rl_r (i26_11) hf_τ51 rfl rfl) hf_τ54 rfl rfl | fail))
                    ·
                      intro x40 r_x40 e_x40
                      have b_x40 : (-1) ≤ x40 ∧ x40 ≤ 1499 := by rw [e_x40]; exact hT.2 11 _
                      refine ⟨fun c41 => ?_, fun c41 => ?_⟩
                      ·
                        refine h153 _ _ _ ?_
                        refine ⟨(show 0 ≤ x16 ∧ x16 < 1001 from by (first | omega | (simp only [st_s] <;> omega) | assumption | omega | fail)), ?_⟩
                        intro x46 r_x46 e_x46
                        have b_x46 : 0 ≤ x46 ∧ x46 ≤ 1 := by rw [e_x46]; exact hT.2 8 _
                        refine ⟨fun c47 => ?_, fun c47 => ?_⟩
                        ·
                          refine h174 _ _ _ _ ?_
                          have nn := i26_10 (by omega)
                          refine ⟨_, K3_X13_addSymbol hT (show 0 ≤ x16 from by (first | omega | (simp only [st_s] <;> omega) | assumption | omega | fail)) (show x16 < 1000 from by (first | omega | (simp only [st_s] <;> omega) | assumption | omega | fail)) (show -1 ≤ (-1 : Int) from by (first | omega | (simp only [st_s] <;> omega) | assumption | omega | fail)) (show (-1 : Int) ≤ 1499 from by (first | omega | (simp only [st_s] <;> omega) | assumption | omega | fail)) (show (τ_26.1 6) < 30000 from by (first | omega | (simp only [st_s] <;> omega) | assumption | omega | fail)) (show τ_26.2.1 15 (τ_26.1 22) < 300 from by (rw [← e_x19]; omega)) (show (τ_26.1 22) = (τ_26.1 5) from by (first | omega | (simp only [st_s] <;> omega) | assumption | omega | fail)), ?_⟩
                          intro τ51 hn_τ51 hf_τ51 hq
                          obtain ⟨hT, q49_1, q49_2, q49_3, q49_4, q49_5⟩ := hq
                          replace q49_1 : (τ51.1 6) = (τ_26.1 6) + 1 := q49_1
                          replace q49_2 : τ51.2.1 15 (τ51.1 22) = τ_26.2.1 15 (τ_26.1 22) + 1 := q49_2
                          replace q49_3 : m_ag τ_26 τ51 := q49_3
                          replace q49_4 : τ51.2.1 16 = st (τ_26.2.1 16) (τ_26.1 6) x16 := q49_4
                          replace q49_5 : τ51.2.1 17 = st (τ_26.2.1 17) (τ_26.1 6) (-1 : Int) := q49_5
                          replace ag : m_ag σ τ51 := ag_t ag q49_3 rfl
                          have w0_τ51 : τ51.1 0 = τ_26.1 0 := hf_τ51.1 0 (by decide)
                          have w3_τ51 : τ51.1 3 = τ_26.1 3 := hf_τ51.1 3 (by decide)
                          have w4_τ51 : τ51.1 4 = τ_26.1 4 := hf_τ51.1 4 (by decide)
                          have w5_τ51 : τ51.1 5 = τ_26.1 5 := hf_τ51.1 5 (by decide)
                          have w7_τ51 : τ51.1 7 = τ_26.1 7 := hf_τ51.1 7 (by decide)
                          have w8_τ51 : τ51.1 8 = τ_26.1 8 := hf_τ51.1 8 (by decide)
                          have w9_τ51 : τ51.1 9 = τ_26.1 9 := hf_τ51.1 9 (by decide)
                          have w10_τ51 : τ51.1 10 = τ_26.1 10 := hf_τ51.1 10 (by decide)
                          have w11_τ51 : τ51.1 11 = τ_26.1 11 := hf_τ51.1 11 (by decide)
                          have w16_τ51 : τ51.1 16 = τ_26.1 16 := hf_τ51.1 16 (by decide)
                          have w17_τ51 : τ51.1 17 = τ_26.1 17 := hf_τ51.1 17 (by decide)
                          have w18_τ51 : τ51.1 18 = τ_26.1 18 := hf_τ51.1 18 (by decide)
                          have w19_τ51 : τ51.1 19 = τ_26.1 19 := hf_τ51.1 19 (by decide)
                          have w20_τ51 : τ51.1 20 = τ_26.1 20 := hf_τ51.1 20 (by decide)
                          have w22_τ51 : τ51.1 22 = τ_26.1 22 := hf_τ51.1 22 (by decide)
                          have g6_τ51 : τ51.2.1 6 = τ_26.2.1 6 := hf_τ51.2.1 6 (by decide)
                          have g7_τ51 : τ51.2.1 7 = τ_26.2.1 7 := hf_τ51.2.1 7 (by decide)
                          have g8_τ51 : τ51.2.1 8 = τ_26.2.1 8 := hf_τ51.2.1 8 (by decide)
                          have g10_τ51 : τ51.2.1 10 = τ_26.2.1 10 := hf_τ51.2.1 10 (by decide)
                          have g11_τ51 : τ51.2.1 11 = τ_26.2.1 11 := hf_τ51.2.1 11 (by decide)
                          have g12_τ51 : τ51.2.1 12 = τ_26.2.1 12 := hf_τ51.2.1 12 (by decide)
                          have g14_τ51 : τ51.2.1 14 = τ_26.2.1 14 := hf_τ51.2.1 14 (by decide)
                          first | (have o6_τ51 := congrArg oc g6_τ51) | skip
                          first | (have o7_τ51 := congrArg oc g7_τ51) | skip
                          have W0 : τ51.1 0 = σ.1 0 := by first | exact w0_τ51.trans W0 | omega
                          have W3 : τ51.1 3 = σ.1 3 := by first | exact w3_τ51.trans W3 | omega
                          have W5 : τ51.1 5 = σ.1 5 := by first | exact w5_τ51.trans W5 | omega
                          have W7 : τ51.1 7 = σ.1 7 := by first | exact w7_τ51.trans W7 | omega
                          have W8 : τ51.1 8 = σ.1 8 := by first | exact w8_τ51.trans W8 | omega
                          have W9 : τ51.1 9 = σ.1 9 := by first | exact w9_τ51.trans W9 | omega
                          have W10 : τ51.1 10 = σ.1 10 := by first | exact w10_τ51.trans W10 | omega
                          have W11 : τ51.1 11 = σ.1 11 := by first | exact w11_τ51.trans W11 | omega
                          have W22 : τ51.1 22 = σ.1 22 := by first | exact w22_τ51.trans W22 | omega
                          have G6 : τ51.2.1 6 = σ.2.1 6 := (g6_τ51).trans G6
                          have G7 : τ51.2.1 7 = σ.2.1 7 := (g7_τ51).trans G7
                          have G8 : τ51.2.1 8 = σ.2.1 8 := (g8_τ51).trans G8
                          have G10 : τ51.2.1 10 = σ.2.1 10 := (g10_τ51).trans G10
                          have G11 : τ51.2.1 11 = σ.2.1 11 := (g11_τ51).trans G11
                          have G14 : τ51.2.1 14 = σ.2.1 14 := (g14_τ51).trans G14
                          have y14_22_τ51 : τ51.2.1 14 (τ51.1 22) = (τ_26.2.1 14) (τ_26.1 22) := by rw [g14_τ51, w22_τ51]
                          have Y20 : ca (τ51.2.1 12) ((τ51.1 3)) ≤ (τ51.1 4) := by rw [show (ca (τ51.2.1 12) ((τ51.1 3)) ≤ (τ51.1 4)) = (ca (τ_26.2.1 12) ((τ_26.1 3)) ≤ (τ_26.1 4)) from by rw [w3_τ51, w4_τ51, g12_τ51]]; exact Y20
                          have Y1 : j_l2 (τ51.2.1 6) (τ51.1 3) := by rw [show (j_l2 (τ51.2.1 6) (τ51.1 3)) = (j_l2 (τ_26.2.1 6) (τ_26.1 3)) from by rw [w3_τ51, g6_τ51]]; exact Y1
                          have STt : j_l2 (τ51.2.1 6) (τ51.1 3) := by rw [show (j_l2 (τ51.2.1 6) (τ51.1 3)) = (j_l2 (τ_26.2.1 6) (τ_26.1 3)) from by rw [w3_τ51, g6_τ51]]; exact STt
                          have A6 : ∀ j, (-1) ≤ τ51.2.1 6 j ∧ τ51.2.1 6 j ≤ 999 := fun j => hT.2 6 j
                          have A7 : ∀ j, (-1) ≤ τ51.2.1 7 j ∧ τ51.2.1 7 j ≤ 1499 := fun j => hT.2 7 j
                          have A8 : ∀ j, 0 ≤ τ51.2.1 8 j ∧ τ51.2.1 8 j ≤ 1 := fun j => hT.2 8 j
                          have A10 : ∀ j, (-1) ≤ τ51.2.1 10 j ∧ τ51.2.1 10 j ≤ 999 := fun j => hT.2 10 j
                          have A11 : ∀ j, (-1) ≤ τ51.2.1 11 j ∧ τ51.2.1 11 j ≤ 1499 := fun j => hT.2 11 j
                          have A12 : ∀ j, 0 ≤ τ51.2.1 12 j ∧ τ51.2.1 12 j ≤ 1 := fun j => hT.2 12 j
                          have A14 : ∀ j, 0 ≤ τ51.2.1 14 j ∧ τ51.2.1 14 j ≤ 30000 := fun j => hT.2 14 j
                          have A15 : ∀ j, 0 ≤ τ51.2.1 15 j ∧ τ51.2.1 15 j ≤ 300 := fun j => hT.2 15 j
                          have A16 : ∀ j, 0 ≤ τ51.2.1 16 j ∧ τ51.2.1 16 j ≤ 999 := fun j => hT.2 16 j
                          have A17 : ∀ j, (-1) ≤ τ51.2.1 17 j ∧ τ51.2.1 17 j ≤ 1499 := fun j => hT.2 17 j
                          have v0 : 0 ≤ τ51.1 0 ∧ τ51.1 0 ≤ 60000 := hT.1 0
                          have v3 : 0 ≤ τ51.1 3 ∧ τ51.1 3 ≤ 1000 := hT.1 3
                          have v4 : 0 ≤ τ51.1 4 ∧ τ51.1 4 ≤ 100 := hT.1 4
                          have v5 : 0 ≤ τ51.1 5 ∧ τ51.1 5 ≤ 1500 := hT.1 5
                          have v6 : 0 ≤ τ51.1 6 ∧ τ51.1 6 ≤ 30000 := hT.1 6
                          have v7 : 0 ≤ τ51.1 7 ∧ τ51.1 7 ≤ 90000 := hT.1 7
                          have v8 : 0 ≤ τ51.1 8 ∧ τ51.1 8 ≤ 20000 := hT.1 8
                          have v9 : 0 ≤ τ51.1 9 ∧ τ51.1 9 ≤ 20000 := hT.1 9
                          have v10 : (-1) ≤ τ51.1 10 ∧ τ51.1 10 ≤ 999 := hT.1 10
                          have v11 : (-1) ≤ τ51.1 11 ∧ τ51.1 11 ≤ 999 := hT.1 11
                          have v16 : 0 ≤ τ51.1 16 ∧ τ51.1 16 ≤ 60000 := hT.1 16
                          have v17 : 0 ≤ τ51.1 17 ∧ τ51.1 17 ≤ 60000 := hT.1 17
                          have v18 : 0 ≤ τ51.1 18 ∧ τ51.1 18 ≤ 60000 := hT.1 18
                          have v19 : (-1) ≤ τ51.1 19 ∧ τ51.1 19 ≤ 125 := hT.1 19
                          have v20 : 0 ≤ τ51.1 20 ∧ τ51.1 20 ≤ 19 := hT.1 20
                          have v22 : 0 ≤ τ51.1 22 ∧ τ51.1 22 ≤ 1499 := hT.1 22
                          have a14_22 : 0 ≤ τ51.2.1 14 (τ51.1 22) ∧ τ51.2.1 14 (τ51.1 22) ≤ 30000 := hT.2 14 _
                          have a15_22 : 0 ≤ τ51.2.1 15 (τ51.1 22) ∧ τ51.2.1 15 (τ51.1 22) ≤ 300 := hT.2 15 _
                          have av6 : σ.1 6 ≤ τ51.1 6 := ag.1 6 (by decide)
                          have Z1 : τ51.2.1 14 (τ51.1 22) + τ51.2.1 15 (τ51.1 22) = τ51.1 6 := by omega
                          have nn2 := n_N_a nn (show τ51.2.1 16 = st (τ_26.2.1 16) (τ_26.2.1 14 (τ_26.1 22) + τ_26.2.1 15 (τ_26.1 22)) x16 from by rw [q49_4, show τ_26.2.1 14 (τ_26.1 22) + τ_26.2.1 15 (τ_26.1 22) = τ_26.1 6 from by omega]) (show τ51.2.1 17 = st (τ_26.2.1 17) (τ_26.2.1 14 (τ_26.1 22) + τ_26.2.1 15 (τ_26.1 22)) (-1) from by rw [q49_5, show τ_26.2.1 14 (τ_26.1 22) + τ_26.2.1 15 (τ_26.1 22) = τ_26.1 6 from by omega]) (x3lt (by omega)) (by first | exact Or.inl ⟨by rw [← G8, g8_τ51, ← e_x46]; assumption, rfl⟩ | exact Or.inr ⟨by rw [← G8, g8_τ51, ← e_x46]; assumption, by omega, by rw [← G11, g11_τ51, ← e_x48]⟩ | (exfalso; omega))
                          refine ⟨_, K_X13_next hT (show (τ51.1 16) ≤ (τ51.1 0) from by (first | omega | (simp only [st_s] <;> omega) | assumption | omega | fail)), ?_⟩
                          intro τ54 hn_τ54 hf_τ54 hq
                          obtain ⟨hT, q52_1, q52_2, q52_3, q52_4, q52_5⟩ := hq
                          replace q52_1 : (τ54.1 16) ≤ (τ54.1 0) := q52_1
                          replace q52_2 : (τ54.1 17) + (τ54.1 18) ≤ (τ54.1 0) := q52_2
                          replace q52_3 : (τ51.1 16) ≤ (τ54.1 16) := q52_3
                          replace q52_4 : ¬ (τ51.1 20) = 0 → (τ54.1 20) = (τ51.1 20) := q52_4
                          replace q52_5 : (τ54.1 20) = 0 → ¬ (τ54.1 19) = 0 → (τ51.1 16) < (τ54.1 16) ∧ 0 < (τ54.1 18) := q52_5
                          replace ag : m_ag σ τ54 := ag_r ag hf_τ54 rfl rfl
                          have w0_τ54 : τ54.1 0 = τ51.1 0 := hf_τ54.1 0 (by decide)
                          have w3_τ54 : τ54.1 3 = τ51.1 3 := hf_τ54.1 3 (by decide)
                          have w4_τ54 : τ54.1 4 = τ51.1 4 := hf_τ54.1 4 (by decide)
                          have w5_τ54 : τ54.1 5 = τ51.1 5 := hf_τ54.1 5 (by decide)
                          have w6_τ54 : τ54.1 6 = τ51.1 6 := hf_τ54.1 6 (by decide)
                          have w7_τ54 : τ54.1 7 = τ51.1 7 := hf_τ54.1 7 (by decide)
                          have w8_τ54 : τ54.1 8 = τ51.1 8 := hf_τ54.1 8 (by decide)
                          have w9_τ54 : τ54.1 9 = τ51.1 9 := hf_τ54.1 9 (by decide)
                          have w10_τ54 : τ54.1 10 = τ51.1 10 := hf_τ54.1 10 (by decide)
                          have w11_τ54 : τ54.1 11 = τ51.1 11 := hf_τ54.1 11 (by decide)
                          have w22_τ54 : τ54.1 22 = τ51.1 22 := hf_τ54.1 22 (by decide)
                          have g6_τ54 : τ54.2.1 6 = τ51.2.1 6 := hf_τ54.2.1 6 (by decide)
                          have g7_τ54 : τ54.2.1 7 = τ51.2.1 7 := hf_τ54.2.1 7 (by decide)
                          have g8_τ54 : τ54.2.1 8 = τ51.2.1 8 := hf_τ54.2.1 8 (by decide)
                          have g10_τ54 : τ54.2.1 10 = τ51.2.1 10 := hf_τ54.2.1 10 (by decide)
                          have g11_τ54 : τ54.2.1 11 = τ51.2.1 11 := hf_τ54.2.1 11 (by decide)
                          have g12_τ54 : τ54.2.1 12 = τ51.2.1 12 := hf_τ54.2.1 12 (by decide)
                          have g14_τ54 : τ54.2.1 14 = τ51.2.1 14 := hf_τ54.2.1 14 (by decide)
                          have g15_τ54 : τ54.2.1 15 = τ51.2.1 15 := hf_τ54.2.1 15 (by decide)
                          have g16_τ54 : τ54.2.1 16 = τ51.2.1 16 := hf_τ54.2.1 16 (by decide)
                          have g17_τ54 : τ54.2.1 17 = τ51.2.1 17 := hf_τ54.2.1 17 (by decide)
                          first | (have o6_τ54 := congrArg oc g6_τ54) | skip
                          first | (have o7_τ54 := congrArg oc g7_τ54) | skip
                          have W0 : τ54.1 0 = σ.1 0 := by first | exact w0_τ54.trans W0 | omega
                          have W3 : τ54.1 3 = σ.1 3 := by first | exact w3_τ54.trans W3 | omega
                          have W5 : τ54.1 5 = σ.1 5 := by first | exact w5_τ54.trans W5 | omega
                          have W7 : τ54.1 7 = σ.1 7 := by first | exact w7_τ54.trans W7 | omega
                          have W8 : τ54.1 8 = σ.1 8 := by first | exact w8_τ54.trans W8 | omega
                          have W9 : τ54.1 9 = σ.1 9 := by first | exact w9_τ54.trans W9 | omega
                          have W10 : τ54.1 10 = σ.1 10 := by first | exact w10_τ54.trans W10 | omega
                          have W11 : τ54.1 11 = σ.1 11 := by first | exact w11_τ54.trans W11 | omega
                          have W22 : τ54.1 22 = σ.1 22 := by first | exact w22_τ54.trans W22 | omega
                          have G6 : τ54.2.1 6 = σ.2.1 6 := (g6_τ54).trans G6
                          have G7 : τ54.2.1 7 = σ.2.1 7 := (g7_τ54).trans G7
                          have G8 : τ54.2.1 8 = σ.2.1 8 := (g8_τ54).trans G8
                          have G10 : τ54.2.1 10 = σ.2.1 10 := (g10_τ54).trans G10
                          have G11 : τ54.2.1 11 = σ.2.1 11 := (g11_τ54).trans G11
                          have G14 : τ54.2.1 14 = σ.2.1 14 := (g14_τ54).trans G14
                          have y14_22_τ54 : τ54.2.1 14 (τ54.1 22) = (τ51.2.1 14) (τ51.1 22) := by rw [g14_τ54, w22_τ54]
                          have y15_22_τ54 : τ54.2.1 15 (τ54.1 22) = (τ51.2.1 15) (τ51.1 22) := by rw [g15_τ54, w22_τ54]
                          have Z1 : τ54.2.1 14 (τ54.1 22) + τ54.2.1 15 (τ54.1 22) = (τ54.1 6) := by rw [show (τ54.2.1 14 (τ54.1 22) + τ54.2.1 15 (τ54.1 22) = (τ54.1 6)) = (τ51.2.1 14 (τ51.1 22) + τ51.2.1 15 (τ51.1 22) = (τ51.1 6)) from by rw [w6_τ54, w22_τ54, g14_τ54, g15_τ54]]; exact Z1
                          have Y20 : ca (τ54.2.1 12) ((τ54.1 3)) ≤ (τ54.1 4) := by rw [show (ca (τ54.2.1 12) ((τ54.1 3)) ≤ (τ54.1 4)) = (ca (τ51.2.1 12) ((τ51.1 3)) ≤ (τ51.1 4)) from by rw [w3_τ54, w4_τ54, g12_τ54]]; exact Y20
                          have Y1 : j_l2 (τ54.2.1 6) (τ54.1 3) := by rw [show (j_l2 (τ54.2.1 6) (τ54.1 3)) = (j_l2 (τ51.2.1 6) (τ51.1 3)) from by rw [w3_τ54, g6_τ54]]; exact Y1
                          have STt : j_l2 (τ54.2.1 6) (τ54.1 3) := by rw [show (j_l2 (τ54.2.1 6) (τ54.1 3)) = (j_l2 (τ51.2.1 6) (τ51.1 3)) from by rw [w3_τ54, g6_τ54]]; exact STt
                          have A6 : ∀ j, (-1) ≤ τ54.2.1 6 j ∧ τ54.2.1 6 j ≤ 999 := fun j => hT.2 6 j
                          have A7 : ∀ j, (-1) ≤ τ54.2.1 7 j ∧ τ54.2.1 7 j ≤ 1499 := fun j => hT.2 7 j
                          have A8 : ∀ j, 0 ≤ τ54.2.1 8 j ∧ τ54.2.1 8 j ≤ 1 := fun j => hT.2 8 j
                          have A10 : ∀ j, (-1) ≤ τ54.2.1 10 j ∧ τ54.2.1 10 j ≤ 999 := fun j => hT.2 10 j
                          have A11 : ∀ j, (-1) ≤ τ54.2.1 11 j ∧ τ54.2.1 11 j ≤ 1499 := fun j => hT.2 11 j
                          have A12 : ∀ j, 0 ≤ τ54.2.1 12 j ∧ τ54.2.1 12 j ≤ 1 := fun j => hT.2 12 j
                          have A14 : ∀ j, 0 ≤ τ54.2.1 14 j ∧ τ54.2.1 14 j ≤ 30000 := fun j => hT.2 14 j
                          have A15 : ∀ j, 0 ≤ τ54.2.1 15 j ∧ τ54.2.1 15 j ≤ 300 := fun j => hT.2 15 j
                          have A16 : ∀ j, 0 ≤ τ54.2.1 16 j ∧ τ54.2.1 16 j ≤ 999 := fun j => hT.2 16 j
                          have A17 : ∀ j, (-1) ≤ τ54.2.1 17 j ∧ τ54.2.1 17 j ≤ 1499 := fun j => hT.2 17 j
                          have v0 : 0 ≤ τ54.1 0 ∧ τ54.1 0 ≤ 60000 := hT.1 0
                          have v3 : 0 ≤ τ54.1 3 ∧ τ54.1 3 ≤ 1000 := hT.1 3
                          have v4 : 0 ≤ τ54.1 4 ∧ τ54.1 4 ≤ 100 := hT.1 4
                          have v5 : 0 ≤ τ54.1 5 ∧ τ54.1 5 ≤ 1500 := hT.1 5
                          have v6 : 0 ≤ τ54.1 6 ∧ τ54.1 6 ≤ 30000 := hT.1 6
                          have v7 : 0 ≤ τ54.1 7 ∧ τ54.1 7 ≤ 90000 := hT.1 7
                          have v8 : 0 ≤ τ54.1 8 ∧ τ54.1 8 ≤ 20000 := hT.1 8
                          have v9 : 0 ≤ τ54.1 9 ∧ τ54.1 9 ≤ 20000 := hT.1 9
                          have v10 : (-1) ≤ τ54.1 10 ∧ τ54.1 10 ≤ 999 := hT.1 10
                          have v11 : (-1) ≤ τ54.1 11 ∧ τ54.1 11 ≤ 999 := hT.1 11
                          have v16 : 0 ≤ τ54.1 16 ∧ τ54.1 16 ≤ 60000 := hT.1 16
                          have v17 : 0 ≤ τ54.1 17 ∧ τ54.1 17 ≤ 60000 := hT.1 17
                          have v18 : 0 ≤ τ54.1 18 ∧ τ54.1 18 ≤ 60000 := hT.1 18
                          have v19 : (-1) ≤ τ54.1 19 ∧ τ54.1 19 ≤ 125 := hT.1 19
                          have v20 : 0 ≤ τ54.1 20 ∧ τ54.1 20 ≤ 19 := hT.1 20
                          have v22 : 0 ≤ τ54.1 22 ∧ τ54.1 22 ≤ 1499 := hT.1 22
                          have a14_22 : 0 ≤ τ54.2.1 14 (τ54.1 22) ∧ τ54.2.1 14 (τ54.1 22) ≤ 30000 := hT.2 14 _
                          have a15_22 : 0 ≤ τ54.2.1 15 (τ54.1 22) ∧ τ54.2.1 15 (τ54.1 22) ≤ 300 := hT.2 15 _
                          have av6 : σ.1 6 ≤ τ54.1 6 := ag.1 6 (by decide)
                          have nn3 : n_N (τ54.2.1 14 (τ54.1 22)) (τ54.2.1 14 (τ54.1 22) + τ54.2.1 15 (τ54.1 22)) (σ.1 3) (σ.2.1 8) (σ.2.1 11) (τ54.2.1 12) (τ54.2.1 16) (τ54.2.1 17) := by (rw [g14_τ54, g15_τ54, g12_τ54, g16_τ54, g17_τ54, w22_τ54, g14_τ51, g12_τ51, show τ51.1 22 = τ_26.1 22 from by omega, show τ51.2.1 15 (τ_26.1 22) = τ_26.2.1 15 (τ_26.1 22) + 1 from by (have w := q49_2; rw [show τ51.1 22 = τ_26.1 22 from by omega] at w; exact w), show τ_26.2.1 14 (τ_26.1 22) + (τ_26.2.1 15 (τ_26.1 22) + 1) = τ_26.2.1 14 (τ_26.1 22) + τ_26.2.1 15 (τ_26.1 22) + 1 from by omega]; exact nn2)
                          exact ih_26 _ (show (3 * ((τ54.1 0) - (τ54.1 16)) + z_0 ((τ54.1 20)) + 1 - z_0 ((τ54.1 19)) : Int) < ((m_26 : Nat) : Int) from by (have zz0 := z_e ((τ54.1 20)); have zz1 := z_e ((τ54.1 19)); (first | omega | (simp only [st_s] <;> omega) | assumption | omega | fail))) hT ag (show τ54.1 0 = σ.1 0 from by first | exact W0 | omega) (show τ54.1 3 = σ.1 3 from by first | exact W3 | omega) (show τ54.1 5 = σ.1 5 from by first | exact W5 | omega) (show τ54.1 7 = σ.1 7 from by first | exact W7 | omega) (show τ54.1 8 = σ.1 8 from by first | exact W8 | omega) (show τ54.1 9 = σ.1 9 from by first | exact W9 | omega) (show τ54.1 10 = σ.1 10 from by first | exact W10 | omega) (show τ54.1 11 = σ.1 11 from by first | exact W11 | omega) (show τ54.1 22 = σ.1 22 from by first | exact W22 | omega) G6 G7 G8 G10 G11 G14 (show (τ54.1 16) ≤ (τ54.1 0) from by (first | omega | (simp only [st_s] <;> omega) | assumption | omega | fail)) (show (τ54.1 17) + (τ54.1 18) ≤ (τ54.1 0) from by (first | omega | (simp only [st_s] <;> omega) | assumption | omega | fail)) (show oc (τ54.2.1 6) < 4096 from by (first | omega | (simp only [st_s] <;> omega) | assumption | omega | fail)) (show oc (τ54.2.1 7) < 4096 from by (first | omega | (simp only [st_s] <;> omega) | assumption | omega | fail)) (show ¬ (σ.1 20) = 0 → (τ54.1 20) = (σ.1 20) from by (first | omega | (simp only [st_s] <;> omega) | assumption | omega | fail)) (show τ54.2.1 14 (τ54.1 22) + τ54.2.1 15 (τ54.1 22) = (τ54.1 6) from Z1) (show ca (τ54.2.1 12) ((τ54.1 3)) ≤ (τ54.1 4) from Y20) (show (τ54.1 20) = 0 → 1 ≤ τ54.2.1 15 (τ54.1 22) from by (first | omega | (simp only [st_s] <;> omega) | assumption | omega | fail)) (show (σ.1 16) ≤ (τ54.1 16) from by (first | omega | (simp only [st_s] <;> omega) | assumption | omega | fail)) (show (τ54.1 20) = 0 → n_N (τ54.2.1 14 (τ54.1 22)) (τ54.2.1 14 (τ54.1 22) + τ54.2.1 15 (τ54.1 22)) (σ.1 3) (σ.2.1 8) (σ.2.1 11) (τ54.2.1 12) (τ54.2.1 16) (τ54.2.1 17) from by (intro z; first | (exfalso; omega) | exact r57 (by omega) | (rw [g14_τ11, g15_τ11, g12_τ11, g16_τ11, g17_τ11, w22_τ11]; exact r57 (by omega)) | exact nn3)) (show n_rl σ τ54 from by (first | exact n_rl_h hf_τ3 rfl rfl | exact n_rl_t (n_rl_h hf_τ3 rfl rfl) q5_8 | exact n_rl_r (n_rl_h hf_τ3 rfl rfl) hf_τ11 rfl rfl | exact n_rl_r (n_rl_t (n_rl_h hf_τ3 rfl rfl) q5_8) hf_τ11 rfl rfl | exact n_rl_r (i26_11) hf_τ33 rfl rfl | exact n_rl_r (i26_11) hf_τ36 rfl rfl | exact n_rl_r (i26_11) hf_τ44 rfl rfl | exact n_rl_r (n_rl_r (i26_11) hf_τ51 rfl rfl) hf_τ54 rfl rfl | fail))
                        ·
                          intro x48 r_x48 e_x48
                          have b_x48 : (-1) ≤ x48 ∧ x48 ≤ 1499 := by rw [e_x48]; exact hT.2 11 _
                          refine h174 _ _ _ _ ?_
                          have nn := i26_10 (by omega)
                          refine ⟨_, K3_X13_addSymbol hT (show 0 ≤ x16 from by (first | omega | (simp only [st_s] <;> omega) | assumption | omega | fail)) (show x16 < 1000 from by (first | omega | (simp only [st_s] <;> omega) | assumption | omega | fail)) (show -1 ≤ x48 from by (first | omega | (simp only [st_s] <;> omega) | assumption | omega | fail)) (show x48 ≤ 1499 from by (first | omega | (simp only [st_s] <;> omega) | assumption | omega | fail)) (show (τ_26.1 6) < 30000 from by (first | omega | (simp only [st_s] <;> omega) | assumption | omega | fail)) (show τ_26.2.1 15 (τ_26.1 22) < 300 from by (rw [← e_x19]; omega)) (show (τ_26.1 22) = (τ_26.1 5) from by (first | omega | (simp only [st_s] <;> omega) | assumption | omega | fail)), ?_⟩
                          intro τ51 hn_τ51 hf_τ51 hq
                          obtain ⟨hT, q49_1, q49_2, q49_3, q49_4, q49_5⟩ := hq
                          replace q49_1 : (τ51.1 6) = (τ_26.1 6) + 1 := q49_1
                          replace q49_2 : τ51.2.1 15 (τ51.1 22) = τ_26.2.1 15 (τ_26.1 22) + 1 := q49_2
                          replace q49_3 : m_ag τ_26 τ51 := q49_3
                          replace q49_4 : τ51.2.1 16 = st (τ_26.2.1 16) (τ_26.1 6) x16 := q49_4
                          replace q49_5 : τ51.2.1 17 = st (τ_26.2.1 17) (τ_26.1 6) x48 := q49_5
                          replace ag : m_ag σ τ51 := ag_t ag q49_3 rfl
                          have w0_τ51 : τ51.1 0 = τ_26.1 0 := hf_τ51.1 0 (by decide)
                          have w3_τ51 : τ51.1 3 = τ_26.1 3 := hf_τ51.1 3 (by decide)
                          have w4_τ51 : τ51.1 4 = τ_26.1 4 := hf_τ51.1 4 (by decide)
                          have w5_τ51 : τ51.1 5 = τ_26.1 5 := hf_τ51.1 5 (by decide)
                          have w7_τ51 : τ51.1 7 = τ_26.1 7 := hf_τ51.1 7 (by decide)
                          have w8_τ51 : τ51.1 8 = τ_26.1 8 := hf_τ51.1 8 (by decide)
                          have w9_τ51 : τ51.1 9 = τ_26.1 9 := hf_τ51.1 9 (by decide)
                          have w10_τ51 : τ51.1 10 = τ_26.1 10 := hf_τ51.1 10 (by decide)
                          have w11_τ51 : τ51.1 11 = τ_26.1 11 := hf_τ51.1 11 (by decide)
                          have w16_τ51 : τ51.1 16 = τ_26.1 16 := hf_τ51.1 16 (by decide)
                          have w17_τ51 : τ51.1 17 = τ_26.1 17 := hf_τ51.1 17 (by decide)
                          have w18_τ51 : τ51.1 18 = τ_26.1 18 := hf_τ51.1 18 (by decide)
                          have w19_τ51 : τ51.1 19 = τ_26.1 19 := hf_τ51.1 19 (by decide)
                          have w20_τ51 : τ51.1 20 = τ_26.1 20 := hf_τ51.1 20 (by decide)
                          have w22_τ51 : τ51.1 22 = τ_26.1 22 := hf_τ51.1 22 (by decide)
                          have g6_τ51 : τ51.2.1 6 = τ_26.2.1 6 := hf_τ51.2.1 6 (by decide)
                          have g7_τ51 : τ51.2.1 7 = τ_26.2.1 7 := hf_τ51.2.1 7 (by decide)
                          have g8_τ51 : τ51.2.1 8 = τ_26.2.1 8 := hf_τ51.2.1 8 (by decide)
                          have g10_τ51 : τ51.2.1 10 = τ_26.2.1 10 := hf_τ51.2.1 10 (by decide)
                          have g11_τ51 : τ51.2.1 11 = τ_26.2.1 11 := hf_τ51.2.1 11 (by decide)
                          have g12_τ51 : τ51.2.1 12 = τ_26.2.1 12 := hf_τ51.2.1 12 (by decide)
                          have g14_τ51 : τ51.2.1 14 = τ_26.2.1 14 := hf_τ51.2.1 14 (by decide)
                          first | (have o6_τ51 := congrArg oc g6_τ51) | skip
                          first | (have o7_τ51 := congrArg oc g7_τ51) | skip
                          have W0 : τ51.1 0 = σ.1 0 := by first | exact w0_τ51.trans W0 | omega
                          have W3 : τ51.1 3 = σ.1 3 := by first | exact w3_τ51.trans W3 | omega
                          have W5 : τ51.1 5 = σ.1 5 := by first | exact w5_τ51.trans W5 | omega
                          have W7 : τ51.1 7 = σ.1 7 := by first | exact w7_τ51.trans W7 | omega
                          have W8 : τ51.1 8 = σ.1 8 := by first | exact w8_τ51.trans W8 | omega
                          have W9 : τ51.1 9 = σ.1 9 := by first | exact w9_τ51.trans W9 | omega
                          have W10 : τ51.1 10 = σ.1 10 := by first | exact w10_τ51.trans W10 | omega
                          have W11 : τ51.1 11 = σ.1 11 := by first | exact w11_τ51.trans W11 | omega
                          have W22 : τ51.1 22 = σ.1 22 := by first | exact w22_τ51.trans W22 | omega
                          have G6 : τ51.2.1 6 = σ.2.1 6 := (g6_τ51).trans G6
                          have G7 : τ51.2.1 7 = σ.2.1 7 := (g7_τ51).trans G7
                          have G8 : τ51.2.1 8 = σ.2.1 8 := (g8_τ51).trans G8
                          have G10 : τ51.2.1 10 = σ.2.1 10 := (g10_τ51).trans G10
                          have G11 : τ51.2.1 11 = σ.2.1 11 := (g11_τ51).trans G11
                          have G14 : τ51.2.1 14 = σ.2.1 14 := (g14_τ51).trans G14
                          have y14_22_τ51 : τ51.2.1 14 (τ51.1 22) = (τ_26.2.1 14) (τ_26.1 22) := by rw [g14_τ51, w22_τ51]
                          have Y20 : ca (τ51.2.1 12) ((τ51.1 3)) ≤ (τ51.1 4) := by rw [show (ca (τ51.2.1 12) ((τ51.1 3)) ≤ (τ51.1 4)) = (ca (τ_26.2.1 12) ((τ_26.1 3)) ≤ (τ_26.1 4)) from by rw [w3_τ51, w4_τ51, g12_τ51]]; exact Y20
                          have Y1 : j_l2 (τ51.2.1 6) (τ51.1 3) := by rw [show (j_l2 (τ51.2.1 6) (τ51.1 3)) = (j_l2 (τ_26.2.1 6) (τ_26.1 3)) from by rw [w3_τ51, g6_τ51]]; exact Y1
                          have STt : j_l2 (τ51.2.1 6) (τ51.1 3) := by rw [show (j_l2 (τ51.2.1 6) (τ51.1 3)) = (j_l2 (τ_26.2.1 6) (τ_26.1 3)) from by rw [w3_τ51, g6_τ51]]; exact STt
                          have A6 : ∀ j, (-1) ≤ τ51.2.1 6 j ∧ τ51.2.1 6 j ≤ 999 := fun j => hT.2 6 j
                          have A7 : ∀ j, (-1) ≤ τ51.2.1 7 j ∧ τ51.2.1 7 j ≤ 1499 := fun j => hT.2 7 j
                          have A8 : ∀ j, 0 ≤ τ51.2.1 8 j ∧ τ51.2.1 8 j ≤ 1 := fun j => hT.2 8 j
                          have A10 : ∀ j, (-1) ≤ τ51.2.1 10 j ∧ τ51.2.1 10 j ≤ 999 := fun j => hT.2 10 j
                          have A11 : ∀ j, (-1) ≤ τ51.2.1 11 j ∧ τ51.2.1 11 j ≤ 1499 := fun j => hT.2 11 j
                          have A12 : ∀ j, 0 ≤ τ51.2.1 12 j ∧ τ51.2.1 12 j ≤ 1 := fun j => hT.2 12 j
                          have A14 : ∀ j, 0 ≤ τ51.2.1 14 j ∧ τ51.2.1 14 j ≤ 30000 := fun j => hT.2 14 j
                          have A15 : ∀ j, 0 ≤ τ51.2.1 15 j ∧ τ51.2.1 15 j ≤ 300 := fun j => hT.2 15 j
                          have A16 : ∀ j, 0 ≤ τ51.2.1 16 j ∧ τ51.2.1 16 j ≤ 999 := fun j => hT.2 16 j
                          have A17 : ∀ j, (-1) ≤ τ51.2.1 17 j ∧ τ51.2.1 17 j ≤ 1499 := fun j => hT.2 17 j
                          have v0 : 0 ≤ τ51.1 0 ∧ τ51.1 0 ≤ 60000 := hT.1 0
                          have v3 : 0 ≤ τ51.1 3 ∧ τ51.1 3 ≤ 1000 := hT.1 3
                          have v4 : 0 ≤ τ51.1 4 ∧ τ51.1 4 ≤ 100 := hT.1 4
                          have v5 : 0 ≤ τ51.1 5 ∧ τ51.1 5 ≤ 1500 := hT.1 5
                          have v6 : 0 ≤ τ51.1 6 ∧ τ51.1 6 ≤ 30000 := hT.1 6
                          have v7 : 0 ≤ τ51.1 7 ∧ τ51.1 7 ≤ 90000 := hT.1 7
                          have v8 : 0 ≤ τ51.1 8 ∧ τ51.1 8 ≤ 20000 := hT.1 8
                          have v9 : 0 ≤ τ51.1 9 ∧ τ51.1 9 ≤ 20000 := hT.1 9
                          have v10 : (-1) ≤ τ51.1 10 ∧ τ51.1 10 ≤ 999 := hT.1 10
                          have v11 : (-1) ≤ τ51.1 11 ∧ τ51.1 11 ≤ 999 := hT.1 11
                          have v16 : 0 ≤ τ51.1 16 ∧ τ51.1 16 ≤ 60000 := hT.1 16
                          have v17 : 0 ≤ τ51.1 17 ∧ τ51.1 17 ≤ 60000 := hT.1 17
                          have v18 : 0 ≤ τ51.1 18 ∧ τ51.1 18 ≤ 60000 := hT.1 18
                          have v19 : (-1) ≤ τ51.1 19 ∧ τ51.1 19 ≤ 125 := hT.1 19
                          have v20 : 0 ≤ τ51.1 20 ∧ τ51.1 20 ≤ 19 := hT.1 20
                          have v22 : 0 ≤ τ51.1 22 ∧ τ51.1 22 ≤ 1499 := hT.1 22
                          have a14_22 : 0 ≤ τ51.2.1 14 (τ51.1 22) ∧ τ51.2.1 14 (τ51.1 22) ≤ 30000 := hT.2 14 _
                          have a15_22 : 0 ≤ τ51.2.1 15 (τ51.1 22) ∧ τ51.2.1 15 (τ51.1 22) ≤ 300 := hT.2 15 _
                          have av6 : σ.1 6 ≤ τ51.1 6 := ag.1 6 (by decide)
                          have Z1 : τ51.2.1 14 (τ51.1 22) + τ51.2.1 15 (τ51.1 22) = τ51.1 6 := by omega
                          have nn2 := n_N_a nn (show τ51.2.1 16 = st (τ_26.2.1 16) (τ_26.2.1 14 (τ_26.1 22) + τ_26.2.1 15 (τ_26.1 22)) x16 from by rw [q49_4, show τ_26.2.1 14 (τ_26.1 22) + τ_26.2.1 15 (τ_26.1 22) = τ_26.1 6 from by omega]) (show τ51.2.1 17 = st (τ_26.2.1 17) (τ_26.2.1 14 (τ_26.1 22) + τ_26.2.1 15 (τ_26.1 22)) x48 from by rw [q49_5, show τ_26.2.1 14 (τ_26.1 22) + τ_26.2.1 15 (τ_26.1 22) = τ_26.1 6 from by omega]) (x3lt (by omega)) (by first | exact Or.inl ⟨by rw [← G8, g8_τ51, ← e_x46]; assumption, rfl⟩ | exact Or.inr ⟨by rw [← G8, g8_τ51, ← e_x46]; assumption, by omega, by rw [← G11, g11_τ51, ← e_x48]⟩ | (exfalso; omega))
                          refine ⟨_, K_X13_next hT (show (τ51.1 16) ≤ (τ51.1 0) from by (first | omega | (simp only [st_s] <;> omega) | assumption | omega | fail)), ?_⟩
                          intro τ54 hn_τ54 hf_τ54 hq
                          obtain ⟨hT, q52_1, q52_2, q52_3, q52_4, q52_5⟩ := hq
                          replace q52_1 : (τ54.1 16) ≤ (τ54.1 0) := q52_1
                          replace q52_2 : (τ54.1 17) + (τ54.1 18) ≤ (τ54.1 0) := q52_2
                          replace q52_3 : (τ51.1 16) ≤ (τ54.1 16) := q52_3
                          replace q52_4 : ¬ (τ51.1 20) = 0 → (τ54.1 20) = (τ51.1 20) := q52_4
                          replace q52_5 : (τ54.1 20) = 0 → ¬ (τ54.1 19) = 0 → (τ51.1 16) < (τ54.1 16) ∧ 0 < (τ54.1 18) := q52_5
                          replace ag : m_ag σ τ54 := ag_r ag hf_τ54 rfl rfl
                          have w0_τ54 : τ54.1 0 = τ51.1 0 := hf_τ54.1 0 (by decide)
                          have w3_τ54 : τ54.1 3 = τ51.1 3 := hf_τ54.1 3 (by decide)
                          have w4_τ54 : τ54.1 4 = τ51.1 4 := hf_τ54.1 4 (by decide)
                          have w5_τ54 : τ54.1 5 = τ51.1 5 := hf_τ54.1 5 (by decide)
                          have w6_τ54 : τ54.1 6 = τ51.1 6 := hf_τ54.1 6 (by decide)
                          have w7_τ54 : τ54.1 7 = τ51.1 7 := hf_τ54.1 7 (by decide)
                          have w8_τ54 : τ54.1 8 = τ51.1 8 := hf_τ54.1 8 (by decide)
                          have w9_τ54 : τ54.1 9 = τ51.1 9 := hf_τ54.1 9 (by decide)
                          have w10_τ54 : τ54.1 10 = τ51.1 10 := hf_τ54.1 10 (by decide)
                          have w11_τ54 : τ54.1 11 = τ51.1 11 := hf_τ54.1 11 (by decide)
                          have w22_τ54 : τ54.1 22 = τ51.1 22 := hf_τ54.1 22 (by decide)
                          have g6_τ54 : τ54.2.1 6 = τ51.2.1 6 := hf_τ54.2.1 6 (by decide)
                          have g7_τ54 : τ54.2.1 7 = τ51.2.1 7 := hf_τ54.2.1 7 (by decide)
                          have g8_τ54 : τ54.2.1 8 = τ51.2.1 8 := hf_τ54.2.1 8 (by decide)
                          have g10_τ54 : τ54.2.1 10 = τ51.2.1 10 := hf_τ54.2.1 10 (by decide)
                          have g11_τ54 : τ54.2.1 11 = τ51.2.1 11 := hf_τ54.2.1 11 (by decide)
                          have g12_τ54 : τ54.2.1 12 = τ51.2.1 12 := hf_τ54.2.1 12 (by decide)
                          have g14_τ54 : τ54.2.1 14 = τ51.2.1 14 := hf_τ54.2.1 14 (by decide)
                          have g15_τ54 : τ54.2.1 15 = τ51.2.1 15 := hf_τ54.2.1 15 (by decide)
                          have g16_τ54 : τ54.2.1 16 = τ51.2.1 16 := hf_τ54.2.1 16 (by decide)
                          have g17_τ54 : τ54.2.1 17 = τ51.2.1 17 := hf_τ54.2.1 17 (by decide)
                          first | (have o6_τ54 := congrArg oc g6_τ54) | skip
                          first | (have o7_τ54 := congrArg oc g7_τ54) | skip
                          have W0 : τ54.1 0 = σ.1 0 := by first | exact w0_τ54.trans W0 | omega
                          have W3 : τ54.1 3 = σ.1 3 := by first | exact w3_τ54.trans W3 | omega
                          have W5 : τ54.1 5 = σ.1 5 := by first | exact w5_τ54.trans W5 | omega
                          have W7 : τ54.1 7 = σ.1 7 := by first | exact w7_τ54.trans W7 | omega
                          have W8 : τ54.1 8 = σ.1 8 := by first | exact w8_τ54.trans W8 | omega
                          have W9 : τ54.1 9 = σ.1 9 := by first | exact w9_τ54.trans W9 | omega
                          have W10 : τ54.1 10 = σ.1 10 := by first | exact w10_τ54.trans W10 | omega
                          have W11 : τ54.1 11 = σ.1 11 := by first | exact w11_τ54.trans W11 | omega
                          have W22 : τ54.1 22 = σ.1 22 := by first | exact w22_τ54.trans W22 | omega
                          have G6 : τ54.2.1 6 = σ.2.1 6 := (g6_τ54).trans G6
                          have G7 : τ54.2.1 7 = σ.2.1 7 := (g7_τ54).trans G7
                          have G8 : τ54.2.1 8 = σ.2.1 8 := (g8_τ54).trans G8
                          have G10 : τ54.2.1 10 = σ.2.1 10 := (g10_τ54).trans G10
                          have G11 : τ54.2.1 11 = σ.2.1 11 := (g11_τ54).trans G11
                          have G14 : τ54.2.1 14 = σ.2.1 14 := (g14_τ54).trans G14
                          have y14_22_τ54 : τ54.2.1 14 (τ54.1 22) = (τ51.2.1 14) (τ51.1 22) := by rw [g14_τ54, w22_τ54]
                          have y15_22_τ54 : τ54.2.1 15 (τ54.1 22) = (τ51.2.1 15) (τ51.1 22) := by rw [g15_τ54, w22_τ54]
                          have Z1 : τ54.2.1 14 (τ54.1 22) + τ54.2.1 15 (τ54.1 22) = (τ54.1 6) := by rw [show (τ54.2.1 14 (τ54.1 22) + τ54.2.1 15 (τ54.1 22) = (τ54.1 6)) = (τ51.2.1 14 (τ51.1 22) + τ51.2.1 15 (τ51.1 22) = (τ51.1 6)) from by rw [w6_τ54, w22_τ54, g14_τ54, g15_τ54]]; exact Z1
                          have Y20 : ca (τ54.2.1 12) ((τ54.1 3)) ≤ (τ54.1 4) := by rw [show (ca (τ54.2.1 12) ((τ54.1 3)) ≤ (τ54.1 4)) = (ca (τ51.2.1 12) ((τ51.1 3)) ≤ (τ51.1 4)) from by rw [w3_τ54, w4_τ54, g12_τ54]]; exact Y20
                          have Y1 : j_l2 (τ54.2.1 6) (τ54.1 3) := by rw [show (j_l2 (τ54.2.1 6) (τ54.1 3)) = (j_l2 (τ51.2.1 6) (τ51.1 3)) from by rw [w3_τ54, g6_τ54]]; exact Y1
                          have STt : j_l2 (τ54.2.1 6) (τ54.1 3) := by rw [show (j_l2 (τ54.2.1 6) (τ54.1 3)) = (j_l2 (τ51.2.1 6) (τ51.1 3)) from by rw [w3_τ54, g6_τ54]]; exact STt
                          have A6 : ∀ j, (-1) ≤ τ54.2.1 6 j ∧ τ54.2.1 6 j ≤ 999 := fun j => hT.2 6 j
                          have A7 : ∀ j, (-1) ≤ τ54.2.1 7 j ∧ τ54.2.1 7 j ≤ 1499 := fun j => hT.2 7 j
                          have A8 : ∀ j, 0 ≤ τ54.2.1 8 j ∧ τ54.2.1 8 j ≤ 1 := fun j => hT.2 8 j
                          have A10 : ∀ j, (-1) ≤ τ54.2.1 10 j ∧ τ54.2.1 10 j ≤ 999 := fun j => hT.2 10 j
                          have A11 : ∀ j, (-1) ≤ τ54.2.1 11 j ∧ τ54.2.1 11 j ≤ 1499 := fun j => hT.2 11 j
                          have A12 : ∀ j, 0 ≤ τ54.2.1 12 j ∧ τ54.2.1 12 j ≤ 1 := fun j => hT.2 12 j
                          have A14 : ∀ j, 0 ≤ τ54.2.1 14 j ∧ τ54.2.1 14 j ≤ 30000 := fun j => hT.2 14 j
                          have A15 : ∀ j, 0 ≤ τ54.2.1 15 j ∧ τ54.2.1 15 j ≤ 300 := fun j => hT.2 15 j
                          have A16 : ∀ j, 0 ≤ τ54.2.1 16 j ∧ τ54.2.1 16 j ≤ 999 := fun j => hT.2 16 j
                          have A17 : ∀ j, (-1) ≤ τ54.2.1 17 j ∧ τ54.2.1 17 j ≤ 1499 := fun j => hT.2 17 j
                          have v0 : 0 ≤ τ54.1 0 ∧ τ54.1 0 ≤ 60000 := hT.1 0
                          have v3 : 0 ≤ τ54.1 3 ∧ τ54.1 3 ≤ 1000 := hT.1 3
                          have v4 : 0 ≤ τ54.1 4 ∧ τ54.1 4 ≤ 100 := hT.1 4
                          have v5 : 0 ≤ τ54.1 5 ∧ τ54.1 5 ≤ 1500 := hT.1 5
                          have v6 : 0 ≤ τ54.1 6 ∧ τ54.1 6 ≤ 30000 := hT.1 6
                          have v7 : 0 ≤ τ54.1 7 ∧ τ54.1 7 ≤ 90000 := hT.1 7
                          have v8 : 0 ≤ τ54.1 8 ∧ τ54.1 8 ≤ 20000 := hT.1 8
                          have v9 : 0 ≤ τ54.1 9 ∧ τ54.1 9 ≤ 20000 := hT.1 9
                          have v10 : (-1) ≤ τ54.1 10 ∧ τ54.1 10 ≤ 999 := hT.1 10
                          have v11 : (-1) ≤ τ54.1 11 ∧ τ54.1 11 ≤ 999 := hT.1 11
                          have v16 : 0 ≤ τ54.1 16 ∧ τ54.1 16 ≤ 60000 := hT.1 16
                          have v17 : 0 ≤ τ54.1 17 ∧ τ54.1 17 ≤ 60000 := hT.1 17
                          have v18 : 0 ≤ τ54.1 18 ∧ τ54.1 18 ≤ 60000 := hT.1 18
                          have v19 : (-1) ≤ τ54.1 19 ∧ τ54.1 19 ≤ 125 := hT.1 19
                          have v20 : 0 ≤ τ54.1 20 ∧ τ54.1 20 ≤ 19 := hT.1 20
                          have v22 : 0 ≤ τ54.1 22 ∧ τ54.1 22 ≤ 1499 := hT.1 22
                          have a14_22 : 0 ≤ τ54.2.1 14 (τ54.1 22) ∧ τ54.2.1 14 (τ54.1 22) ≤ 30000 := hT.2 14 _
                          have a15_22 : 0 ≤ τ54.2.1 15 (τ54.1 22) ∧ τ54.2.1 15 (τ54.1 22) ≤ 300 := hT.2 15 _
                          have av6 : σ.1 6 ≤ τ54.1 6 := ag.1 6 (by decide)
                          have nn3 : n_N (τ54.2.1 14 (τ54.1 22)) (τ54.2.1 14 (τ54.1 22) + τ54.2.1 15 (τ54.1 22)) (σ.1 3) (σ.2.1 8) (σ.2.1 11) (τ54.2.1 12) (τ54.2.1 16) (τ54.2.1 17) := by (rw [g14_τ54, g15_τ54, g12_τ54, g16_τ54, g17_τ54, w22_τ54, g14_τ51, g12_τ51, show τ51.1 22 = τ_26.1 22 from by omega, show τ51.2.1 15 (τ_26.1 22) = τ_26.2.1 15 (τ_26.1 22) + 1 from by (have w := q49_2; rw [show τ51.1 22 = τ_26.1 22 from by omega] at w; exact w), show τ_26.2.1 14 (τ_26.1 22) + (τ_26.2.1 15 (τ_26.1 22) + 1) = τ_26.2.1 14 (τ_26.1 22) + τ_26.2.1 15 (τ_26.1 22) + 1 from by omega]; exact nn2)
                          exact ih_26 _ (show (3 * ((τ54.1 0) - (τ54.1 16)) + z_0 ((τ54.1 20)) + 1 - z_0 ((τ54.1 19)) : Int) < ((m_26 : Nat) : Int) from by (have zz0 := z_e ((τ54.1 20)); have zz1 := z_e ((τ54.1 19)); (first | omega | (simp only [st_s] <;> omega) | assumption | omega | fail))) hT ag (show τ54.1 0 = σ.1 0 from by first | exact W0 | omega) (show τ54.1 3 = σ.1 3 from by first | exact W3 | omega) (show τ54.1 5 = σ.1 5 from by first | exact W5 | omega) (show τ54.1 7 = σ.1 7 from by first | exact W7 | omega) (show τ54.1 8 = σ.1 8 from by first | exact W8 | omega) (show τ54.1 9 = σ.1 9 from by first | exact W9 | omega) (show τ54.1 10 = σ.1 10 from by first | exact W10 | omega) (show τ54.1 11 = σ.1 11 from by first | exact W11 | omega) (show τ54.1 22 = σ.1 22 from by first | exact W22 | omega) G6 G7 G8 G10 G11 G14 (show (τ54.1 16) ≤ (τ54.1 0) from by (first | omega | (simp only [st_s] <;> omega) | assumption | omega | fail)) (show (τ54.1 17) + (τ54.1 18) ≤ (τ54.1 0) from by (first | omega | (simp only [st_s] <;> omega) | assumption | omega | fail)) (show oc (τ54.2.1 6) < 4096 from by (first | omega | (simp only [st_s] <;> omega) | assumption | omega | fail)) (show oc (τ54.2.1 7) < 4096 from by (first | omega | (simp only [st_s] <;> omega) | assumption | omega | fail)) (show ¬ (σ.1 20) = 0 → (τ54.1 20) = (σ.1 20) from by (first | omega | (simp only [st_s] <;> omega) | assumption | omega | fail)) (show τ54.2.1 14 (τ54.1 22) + τ54.2.1 15 (τ54.1 22) = (τ54.1 6) from Z1) (show ca (τ54.2.1 12) ((τ54.1 3)) ≤ (τ54.1 4) from Y20) (show (τ54.1 20) = 0 → 1 ≤ τ54.2.1 15 (τ54.1 22) from by (first | omega | (simp only [st_s] <;> omega) | assumption | omega | fail)) (show (σ.1 16) ≤ (τ54.1 16) from by (first | omega | (simp only [st_s] <;> omega) | assumption | omega | fail)) (show (τ54.1 20) = 0 → n_N (τ54.2.1 14 (τ54.1 22)) (τ54.2.1 14 (τ54.1 22) + τ54.2.1 15 (τ54.1 22)) (σ.1 3) (σ.2.1 8) (σ.2.1 11) (τ54.2.1 12) (τ54.2.1 16) (τ54.2.1 17) from by (intro z; first | (exfalso; omega) | exact r57 (by omega) | (rw [g14_τ11, g15_τ11, g12_τ11, g16_τ11, g17_τ11, w22_τ11]; exact r57 (by omega)) | exact nn3)) (show n_rl σ τ54 from by (first | exact n_rl_h hf_τ3 rfl rfl | exact n_rl_t (n_rl_h hf_τ3 rfl rfl) q5_8 | exact n_rl_r (n_rl_h hf_τ3 rfl rfl) hf_τ11 rfl rfl | exact n_rl_r (n_rl_t (n_rl_h hf_τ3 rfl rfl) q5_8) hf_τ11 rfl rfl | exact n_rl_r (i26_11) hf_τ33 rfl rfl | exact n_rl_r (i26_11) hf_τ36 rfl rfl | exact n_rl_r (i26_11) hf_τ44 rfl rfl | exact n_rl_r (n_rl_r (i26_11) hf_τ51 rfl rfl) hf_τ54 rfl rfl | fail))
                      ·
                        refine ⟨_, K_X13_failHere hT (show 0 ≤ (11 : Int) from by (first | omega | (simp only [st_s] <;> omega) | assumption | omega | fail)) (show (11 : Int) ≤ 19 from by (first | omega | (simp only [st_s] <;> omega) | assumption | omega | fail)), ?_⟩
                        intro τ44 hn_τ44 hf_τ44 hq
                        obtain ⟨hT, q42_1, q42_2⟩ := hq
                        replace q42_1 : ¬ (τ_26.1 20) = 0 → (τ44.1 20) = (τ_26.1 20) := q42_1
                        replace q42_2 : (τ_26.1 20) = 0 → (τ44.1 20) = (11 : Int) := q42_2
                        replace ag : m_ag σ τ44 := ag_r ag hf_τ44 rfl rfl
                        have w0_τ44 : τ44.1 0 = τ_26.1 0 := hf_τ44.1 0 (by decide)
                        have w3_τ44 : τ44.1 3 = τ_26.1 3 := hf_τ44.1 3 (by decide)
                        have w4_τ44 : τ44.1 4 = τ_26.1 4 := hf_τ44.1 4 (by decide)
                        have w5_τ44 : τ44.1 5 = τ_26.1 5 := hf_τ44.1 5 (by decide)
                        have w6_τ44 : τ44.1 6 = τ_26.1 6 := hf_τ44.1 6 (by decide)
                        have w7_τ44 : τ44.1 7 = τ_26.1 7 := hf_τ44.1 7 (by decide)
                        have w8_τ44 : τ44.1 8 = τ_26.1 8 := hf_τ44.1 8 (by decide)
                        have w9_τ44 : τ44.1 9 = τ_26.1 9 := hf_τ44.1 9 (by decide)
                        have w10_τ44 : τ44.1 10 = τ_26.1 10 := hf_τ44.1 10 (by decide)
                        have w11_τ44 : τ44.1 11 = τ_26.1 11 := hf_τ44.1 11 (by decide)
                        have w16_τ44 : τ44.1 16 = τ_26.1 16 := hf_τ44.1 16 (by decide)
                        have w17_τ44 : τ44.1 17 = τ_26.1 17 := hf_τ44.1 17 (by decide)
                        have w18_τ44 : τ44.1 18 = τ_26.1 18 := hf_τ44.1 18 (by decide)
                        have w19_τ44 : τ44.1 19 = τ_26.1 19 := hf_τ44.1 19 (by decide)
                        have w22_τ44 : τ44.1 22 = τ_26.1 22 := hf_τ44.1 22 (by decide)
                        have g6_τ44 : τ44.2.1 6 = τ_26.2.1 6 := hf_τ44.2.1 6 (by decide)
                        have g7_τ44 : τ44.2.1 7 = τ_26.2.1 7 := hf_τ44.2.1 7 (by decide)
                        have g8_τ44 : τ44.2.1 8 = τ_26.2.1 8 := hf_τ44.2.1 8 (by decide)
                        have g10_τ44 : τ44.2.1 10 = τ_26.2.1 10 := hf_τ44.2.1 10 (by decide)
                        have g11_τ44 : τ44.2.1 11 = τ_26.2.1 11 := hf_τ44.2.1 11 (by decide)
                        have g12_τ44 : τ44.2.1 12 = τ_26.2.1 12 := hf_τ44.2.1 12 (by decide)
                        have g14_τ44 : τ44.2.1 14 = τ_26.2.1 14 := hf_τ44.2.1 14 (by decide)
                        have g15_τ44 : τ44.2.1 15 = τ_26.2.1 15 := hf_τ44.2.1 15 (by decide)
                        have g16_τ44 : τ44.2.1 16 = τ_26.2.1 16 := hf_τ44.2.1 16 (by decide)
                        have g17_τ44 : τ44.2.1 17 = τ_26.2.1 17 := hf_τ44.2.1 17 (by decide)
                        first | (have o6_τ44 := congrArg oc g6_τ44) | skip
                        first | (have o7_τ44 := congrArg oc g7_τ44) | skip
                        have W0 : τ44.1 0 = σ.1 0 := by first | exact w0_τ44.trans W0 | omega
                        have W3 : τ44.1 3 = σ.1 3 := by first | exact w3_τ44.trans W3 | omega
                        have W5 : τ44.1 5 = σ.1 5 := by first | exact w5_τ44.trans W5 | omega
                        have W7 : τ44.1 7 = σ.1 7 := by first | exact w7_τ44.trans W7 | omega
                        have W8 : τ44.1 8 = σ.1 8 := by first | exact w8_τ44.trans W8 | omega
                        have W9 : τ44.1 9 = σ.1 9 := by first | exact w9_τ44.trans W9 | omega
                        have W10 : τ44.1 10 = σ.1 10 := by first | exact w10_τ44.trans W10 | omega
                        have W11 : τ44.1 11 = σ.1 11 := by first | exact w11_τ44.trans W11 | omega
                        have W22 : τ44.1 22 = σ.1 22 := by first | exact w22_τ44.trans W22 | omega
                        have G6 : τ44.2.1 6 = σ.2.1 6 := (g6_τ44).trans G6
                        have G7 : τ44.2.1 7 = σ.2.1 7 := (g7_τ44).trans G7
                        have G8 : τ44.2.1 8 = σ.2.1 8 := (g8_τ44).trans G8
                        have G10 : τ44.2.1 10 = σ.2.1 10 := (g10_τ44).trans G10
                        have G11 : τ44.2.1 11 = σ.2.1 11 := (g11_τ44).trans G11
                        have G14 : τ44.2.1 14 = σ.2.1 14 := (g14_τ44).trans G14
                        have y14_22_τ44 : τ44.2.1 14 (τ44.1 22) = (τ_26.2.1 14) (τ_26.1 22) := by rw [g14_τ44, w22_τ44]
                        have y15_22_τ44 : τ44.2.1 15 (τ44.1 22) = (τ_26.2.1 15) (τ_26.1 22) := by rw [g15_τ44, w22_τ44]
                        have Z1 : τ44.2.1 14 (τ44.1 22) + τ44.2.1 15 (τ44.1 22) = (τ44.1 6) := by rw [show (τ44.2.1 14 (τ44.1 22) + τ44.2.1 15 (τ44.1 22) = (τ44.1 6)) = (τ_26.2.1 14 (τ_26.1 22) + τ_26.2.1 15 (τ_26.1 22) = (τ_26.1 6)) from by rw [w6_τ44, w22_τ44, g14_τ44, g15_τ44]]; exact Z1
                        have Y20 : ca (τ44.2.1 12) ((τ44.1 3)) ≤ (τ44.1 4) := by rw [show (ca (τ44.2.1 12) ((τ44.1 3)) ≤ (τ44.1 4)) = (ca (τ_26.2.1 12) ((τ_26.1 3)) ≤ (τ_26.1 4)) from by rw [w3_τ44, w4_τ44, g12_τ44]]; exact Y20
                        have Y1 : j_l2 (τ44.2.1 6) (τ44.1 3) := by rw [show (j_l2 (τ44.2.1 6) (τ44.1 3)) = (j_l2 (τ_26.2.1 6) (τ_26.1 3)) from by rw [w3_τ44, g6_τ44]]; exact Y1
                        have STt : j_l2 (τ44.2.1 6) (τ44.1 3) := by rw [show (j_l2 (τ44.2.1 6) (τ44.1 3)) = (j_l2 (τ_26.2.1 6) (τ_26.1 3)) from by rw [w3_τ44, g6_τ44]]; exact STt
                        have A6 : ∀ j, (-1) ≤ τ44.2.1 6 j ∧ τ44.2.1 6 j ≤ 999 := fun j => hT.2 6 j
                        have A7 : ∀ j, (-1) ≤ τ44.2.1 7 j ∧ τ44.2.1 7 j ≤ 1499 := fun j => hT.2 7 j
                        have A8 : ∀ j, 0 ≤ τ44.2.1 8 j ∧ τ44.2.1 8 j ≤ 1 := fun j => hT.2 8 j
                        have A10 : ∀ j, (-1) ≤ τ44.2.1 10 j ∧ τ44.2.1 10 j ≤ 999 := fun j => hT.2 10 j
                        have A11 : ∀ j, (-1) ≤ τ44.2.1 11 j ∧ τ44.2.1 11 j ≤ 1499 := fun j => hT.2 11 j
                        have A12 : ∀ j, 0 ≤ τ44.2.1 12 j ∧ τ44.2.1 12 j ≤ 1 := fun j => hT.2 12 j
                        have A14 : ∀ j, 0 ≤ τ44.2.1 14 j ∧ τ44.2.1 14 j ≤ 30000 := fun j => hT.2 14 j
                        have A15 : ∀ j, 0 ≤ τ44.2.1 15 j ∧ τ44.2.1 15 j ≤ 300 := fun j => hT.2 15 j
                        have A16 : ∀ j, 0 ≤ τ44.2.1 16 j ∧ τ44.2.1 16 j ≤ 999 := fun j => hT.2 16 j
                        have A17 : ∀ j, (-1) ≤ τ44.2.1 17 j ∧ τ44.2.1 17 j ≤ 1499 := fun j => hT.2 17 j
                        have v0 : 0 ≤ τ44.1 0 ∧ τ44.1 0 ≤ 60000 := hT.1 0
                        have v3 : 0 ≤ τ44.1 3 ∧ τ44.1 3 ≤ 1000 := hT.1 3
                        have v4 : 0 ≤ τ44.1 4 ∧ τ44.1 4 ≤ 100 := hT.1 4
                        have v5 : 0 ≤ τ44.1 5 ∧ τ44.1 5 ≤ 1500 := hT.1 5
                        have v6 : 0 ≤ τ44.1 6 ∧ τ44.1 6 ≤ 30000 := hT.1 6
                        have v7 : 0 ≤ τ44.1 7 ∧ τ44.1 7 ≤ 90000 := hT.1 7
                        have v8 : 0 ≤ τ44.1 8 ∧ τ44.1 8 ≤ 20000 := hT.1 8
                        have v9 : 0 ≤ τ44.1 9 ∧ τ44.1 9 ≤ 20000 := hT.1 9
                        have v10 : (-1) ≤ τ44.1 10 ∧ τ44.1 10 ≤ 999 := hT.1 10
                        have v11 : (-1) ≤ τ44.1 11 ∧ τ44.1 11 ≤ 999 := hT.1 11
                        have v16 : 0 ≤ τ44.1 16 ∧ τ44.1 16 ≤ 60000 := hT.1 16
                        have v17 : 0 ≤ τ44.1 17 ∧ τ44.1 17 ≤ 60000 := hT.1 17
                        have v18 : 0 ≤ τ44.1 18 ∧ τ44.1 18 ≤ 60000 := hT.1 18
                        have v19 : (-1) ≤ τ44.1 19 ∧ τ44.1 19 ≤ 125 := hT.1 19
                        have v20 : 0 ≤ τ44.1 20 ∧ τ44.1 20 ≤ 19 := hT.1 20
                        have v22 : 0 ≤ τ44.1 22 ∧ τ44.1 22 ≤ 1499 := hT.1 22
                        have a14_22 : 0 ≤ τ44.2.1 14 (τ44.1 22) ∧ τ44.2.1 14 (τ44.1 22) ≤ 30000 := hT.2 14 _
                        have a15_22 : 0 ≤ τ44.2.1 15 (τ44.1 22) ∧ τ44.2.1 15 (τ44.1 22) ≤ 300 := hT.2 15 _
                        have av6 : σ.1 6 ≤ τ44.1 6 := ag.1 6 (by decide)
                        exact ih_26 _ (show (3 * ((τ44.1 0) - (τ44.1 16)) + z_0 ((τ44.1 20)) + 1 - z_0 ((τ44.1 19)) : Int) < ((m_26 : Nat) : Int) from by (have zz0 := z_e ((τ44.1 20)); have zz1 := z_e ((τ44.1 19)); (first | omega | (simp only [st_s] <;> omega) | assumption | omega | fail))) hT ag (show τ44.1 0 = σ.1 0 from by first | exact W0 | omega) (show τ44.1 3 = σ.1 3 from by first | exact W3 | omega) (show τ44.1 5 = σ.1 5 from by first | exact W5 | omega) (show τ44.1 7 = σ.1 7 from by first | exact W7 | omega) (show τ44.1 8 = σ.1 8 from by first | exact W8 | omega) (show τ44.1 9 = σ.1 9 from by first | exact W9 | omega) (show τ44.1 10 = σ.1 10 from by first | exact W10 | omega) (show τ44.1 11 = σ.1 11 from by first | exact W11 | omega) (show τ44.1 22 = σ.1 22 from by first | exact W22 | omega) G6 G7 G8 G10 G11 G14 (show (τ44.1 16) ≤ (τ44.1 0) from by (first | omega | (simp only [st_s] <;> omega) | assumption | omega | fail)) (show (τ44.1 17) + (τ44.1 18) ≤ (τ44.1 0) from by (first | omega | (simp only [st_s] <;> omega) | assumption | omega | fail)) (show oc (τ44.2.1 6) < 4096 from by (first | omega | (simp only [st_s] <;> omega) | assumption | omega | fail)) (show oc (τ44.2.1 7) < 4096 from by (first | omega | (simp only [st_s] <;> omega) | assumption | omega | fail)) (show ¬ (σ.1 20) = 0 → (τ44.1 20) = (σ.1 20) from by (first | omega | (simp only [st_s] <;> omega) | assumption | omega | fail)) (show τ44.2.1 14 (τ44.1 22) + τ44.2.1 15 (τ44.1 22) = (τ44.1 6) from Z1) (show ca (τ44.2.1 12) ((τ44.1 3)) ≤ (τ44.1 4) from Y20) (show (τ44.1 20) = 0 → 1 ≤ τ44.2.1 15 (τ44.1 22) from by (first | omega | (simp only [st_s] <;> omega) | assumption | omega | fail)) (show (σ.1 16) ≤ (τ44.1 16) from by (first | omega | (simp only [st_s] <;> omega) | assumption | omega | fail)) (show (τ44.1 20) = 0 → n_N (τ44.2.1 14 (τ44.1 22)) (τ44.2.1 14 (τ44.1 22) + τ44.2.1 15 (τ44.1 22)) (σ.1 3) (σ.2.1 8) (σ.2.1 11) (τ44.2.1 12) (τ44.2.1 16) (τ44.2.1 17) from by (intro z; first | (exfalso; omega) | exact r57 (by omega) | (rw [g14_τ11, g15_τ11, g12_τ11, g16_τ11, g17_τ11, w22_τ11]; exact r57 (by omega)) | exact nn3)) (show n_rl σ τ44 from by (first | exact n_rl_h hf_τ3 rfl rfl | exact n_rl_t (n_rl_h hf_τ3 rfl rfl) q5_8 | exact n_rl_r (n_rl_h hf_τ3 rfl rfl) hf_τ11 rfl rfl | exact n_rl_r (n_rl_t (n_rl_h hf_τ3 rfl rfl) q5_8) hf_τ11 rfl rfl | exact n_rl_r (i26_11) hf_τ33 rfl rfl | exact n_rl_r (i26_11) hf_τ36 rfl rfl | exact n_rl_r (i26_11) hf_τ44 rfl rfl | exact n_rl_r (n_rl_r (i26_11) hf_τ51 rfl rfl) hf_τ54 rfl rfl | fail))
                  ·
                    intro x26 r_x26 e_x26
                    have b_x26 : 0 ≤ x26 ∧ x26 ≤ 1 := by rw [e_x26]; exact hT.2 9 _
                    refine ⟨fun c27 => ?_, fun c27 => ?_⟩
                    ·
                      refine h125 _ _ _ ?_
                      refine ⟨(show 0 ≤ x16 ∧ x16 < 1001 from by (first | omega | (simp only [st_s] <;> omega) | assumption | omega | fail)), ?_⟩
                      intro x38 r_x38 e_x38
                      have b_x38 : 0 ≤ x38 ∧ x38 ≤ 1 := by rw [e_x38]; exact hT.2 8 _
                      refine ⟨fun c39 => ?_, fun c39 => ?_⟩
                      ·
                        refine h153 _ _ _ ?_
                        refine ⟨(show 0 ≤ x16 ∧ x16 < 1001 from by (first | omega | (simp only [st_s] <;> omega) | assumption | omega | fail)), ?_⟩
                        intro x46 r_x46 e_x46
                        have b_x46 : 0 ≤ x46 ∧ x46 ≤ 1 := by rw [e_x46]; exact hT.2 8 _
                        refine ⟨fun c47 => ?_, fun c47 => ?_⟩
                        ·
                          refine h174 _ _ _ _ ?_
                          have nn := i26_10 (by omega)
                          refine ⟨_, K3_X13_addSymbol hT (show 0 ≤ x16 from by (first | omega | (simp only [st_s] <;> omega) | assumption | omega | fail)) (show x16 < 1000 from by (first | omega | (simp only [st_s] <;> omega) | assumption | omega | fail)) (show -1 ≤ (-1 : Int) from by (first | omega | (simp only [st_s] <;> omega) | assumption | omega | fail)) (show (-1 : Int) ≤ 1499 from by (first | omega | (simp only [st_s] <;> omega) | assumption | omega | fail)) (show (τ_26.1 6) < 30000 from by (first | omega | (simp only [st_s] <;> omega) | assumption | omega | fail)) (show τ_26.2.1 15 (τ_26.1 22) < 300 from by (rw [← e_x19]; omega)) (show (τ_26.1 22) = (τ_26.1 5) from by (first | omega | (simp only [st_s] <;> omega) | assumption | omega | fail)), ?_⟩
                          intro τ51 hn_τ51 hf_τ51 hq
                          obtain ⟨hT, q49_1, q49_2, q49_3, q49_4, q49_5⟩ := hq
                          replace q49_1 : (τ51.1 6) = (τ_26.1 6) + 1 := q49_1
                          replace q49_2 : τ51.2.1 15 (τ51.1 22) = τ_26.2.1 15 (τ_26.1 22) + 1 := q49_2
                          replace q49_3 : m_ag τ_26 τ51 := q49_3
                          replace q49_4 : τ51.2.1 16 = st (τ_26.2.1 16) (τ_26.1 6) x16 := q49_4
                          replace q49_5 : τ51.2.1 17 = st (τ_26.2.1 17) (τ_26.1 6) (-1 : Int) := q49_5
                          replace ag : m_ag σ τ51 := ag_t ag q49_3 rfl
                          have w0_τ51 : τ51.1 0 = τ_26.1 0 := hf_τ51.1 0 (by decide)
                          have w3_τ51 : τ51.1 3 = τ_26.1 3 := hf_τ51.1 3 (by decide)
                          have w4_τ51 : τ51.1 4 = τ_26.1 4 := hf_τ51.1 4 (by decide)
                          have w5_τ51 : τ51.1 5 = τ_26.1 5 := hf_τ51.1 5 (by decide)
                          have w7_τ51 : τ51.1 7 = τ_26.1 7 := hf_τ51.1 7 (by decide)
                          have w8_τ51 : τ51.1 8 = τ_26.1 8 := hf_τ51.1 8 (by decide)
                          have w9_τ51 : τ51.1 9 = τ_26.1 9 := hf_τ51.1 9 (by decide)
                          have w10_τ51 : τ51.1 10 = τ_26.1 10 := hf_τ51.1 10 (by decide)
                          have w11_τ51 : τ51.1 11 = τ_26.1 11 := hf_τ51.1 11 (by decide)
                          have w16_τ51 : τ51.1 16 = τ_26.1 16 := hf_τ51.1 16 (by decide)
                          have w17_τ51 : τ51.1 17 = τ_26.1 17 := hf_τ51.1 17 (by decide)
                          have w18_τ51 : τ51.1 18 = τ_26.1 18 := hf_τ51.1 18 (by decide)
                          have w19_τ51 : τ51.1 19 = τ_26.1 19 := hf_τ51.1 19 (by decide)
                          have w20_τ51 : τ51.1 20 = τ_26.1 20 := hf_τ51.1 20 (by decide)
                          have w22_τ51 : τ51.1 22 = τ_26.1 22 := hf_τ51.1 22 (by decide)
                          have g6_τ51 : τ51.2.1 6 = τ_26.2.1 6 := hf_τ51.2.1 6 (by decide)
                          have g7_τ51 : τ51.2.1 7 = τ_26.2.1 7 := hf_τ51.2.1 7 (by decide)
                          have g8_τ51 : τ51.2.1 8 = τ_26.2.1 8 := hf_τ51.2.1 8 (by decide)
                          have g10_τ51 : τ51.2.1 10 = τ_26.2.1 10 := hf_τ51.2.1 10 (by decide)
                          have g11_τ51 : τ51.2.1 11 = τ_26.2.1 11 := hf_τ51.2.1 11 (by decide)
                          have g12_τ51 : τ51.2.1 12 = τ_26.2.1 12 := hf_τ51.2.1 12 (by decide)
                          have g14_τ51 : τ51.2.1 14 = τ_26.2.1 14 := hf_τ51.2.1 14 (by decide)
                          first | (have o6_τ51 := congrArg oc g6_τ51) | skip
                          first | (have o7_τ51 := congrArg oc g7_τ51) | skip
                          have W0 : τ51.1 0 = σ.1 0 := by first | exact w0_τ51.trans W0 | omega
                          have W3 : τ51.1 3 = σ.1 3 := by first | exact w3_τ51.trans W3 | omega
                          have W5 : τ51.1 5 = σ.1 5 := by first | exact w5_τ51.trans W5 | omega
                          have W7 : τ51.1 7 = σ.1 7 := by first | exact w7_τ51.trans W7 | omega
                          have W8 : τ51.1 8 = σ.1 8 := by first | exact w8_τ51.trans W8 | omega
                          have W9 : τ51.1 9 = σ.1 9 := by first | exact w9_τ51.trans W9 | omega
                          have W10 : τ51.1 10 = σ.1 10 := by first | exact w10_τ51.trans W10 | omega
                          have W11 : τ51.1 11 = σ.1 11 := by first | exact w11_τ51.trans W11 | omega
                          have W22 : τ51.1 22 = σ.1 22 := by first | exact w22_τ51.trans W22 | omega
                          have G6 : τ51.2.1 6 = σ.2.1 6 := (g6_τ51).trans G6
                          have G7 : τ51.2.1 7 = σ.2.1 7 := (g7_τ51).trans G7
                          have G8 : τ51.2.1 8 = σ.2.1 8 := (g8_τ51).trans G8
                          have G10 : τ51.2.1 10 = σ.2.1 10 := (g10_τ51).trans G10
                          have G11 : τ51.2.1 11 = σ.2.1 11 := (g11_τ51).trans G11
                          have G14 : τ51.2.1 14 = σ.2.1 14 := (g14_τ51).trans G14
                          have y14_22_τ51 : τ51.2.1 14 (τ51.1 22) = (τ_26.2.1 14) (τ_26.1 22) := by rw [g14_τ51, w22_τ51]
                          have Y20 : ca (τ51.2.1 12) ((τ51.1 3)) ≤ (τ51.1 4) := by rw [show (ca (τ51.2.1 12) ((τ51.1 3)) ≤ (τ51.1 4)) = (ca (τ_26.2.1 12) ((τ_26.1 3)) ≤ (τ_26.1 4)) from by rw [w3_τ51, w4_τ51, g12_τ51]]; exact Y20
                          have Y1 : j_l2 (τ51.2.1 6) (τ51.1 3) := by rw [show (j_l2 (τ51.2.1 6) (τ51.1 3)) = (j_l2 (τ_26.2.1 6) (τ_26.1 3)) from by rw [w3_τ51, g6_τ51]]; exact Y1
                          have STt : j_l2 (τ51.2.1 6) (τ51.1 3) := by rw [show (j_l2 (τ51.2.1 6) (τ51.1 3)) = (j_l2 (τ_26.2.1 6) (τ_26.1 3)) from by rw [w3_τ51, g6_τ51]]; exact STt
                          have A6 : ∀ j, (-1) ≤ τ51.2.1 6 j ∧ τ51.2.1 6 j ≤ 999 := fun j => hT.2 6 j
                          have A7 : ∀ j, (-1) ≤ τ51.2.1 7 j ∧ τ51.2.1 7 j ≤ 1499 := fun j => hT.2 7 j
                          have A8 : ∀ j, 0 ≤ τ51.2.1 8 j ∧ τ51.2.1 8 j ≤ 1 := fun j => hT.2 8 j
                          have A10 : ∀ j, (-1) ≤ τ51.2.1 10 j ∧ τ51.2.1 10 j ≤ 999 := fun j => hT.2 10 j
                          have A11 : ∀ j, (-1) ≤ τ51.2.1 11 j ∧ τ51.2.1 11 j ≤ 1499 := fun j => hT.2 11 j
                          have A12 : ∀ j, 0 ≤ τ51.2.1 12 j ∧ τ51.2.1 12 j ≤ 1 := fun j => hT.2 12 j
                          have A14 : ∀ j, 0 ≤ τ51.2.1 14 j ∧ τ51.2.1 14 j ≤ 30000 := fun j => hT.2 14 j
                          have A15 : ∀ j, 0 ≤ τ51.2.1 15 j ∧ τ51.2.1 15 j ≤ 300 := fun j => hT.2 15 j
                          have A16 : ∀ j, 0 ≤ τ51.2.1 16 j ∧ τ51.2.1 16 j ≤ 999 := fun j => hT.2 16 j
                          have A17 : ∀ j, (-1) ≤ τ51.2.1 17 j ∧ τ51.2.1 17 j ≤ 1499 := fun j => hT.2 17 j
                          have v0 : 0 ≤ τ51.1 0 ∧ τ51.1 0 ≤ 60000 := hT.1 0
                          have v3 : 0 ≤ τ51.1 3 ∧ τ51.1 3 ≤ 1000 := hT.1 3
                          have v4 : 0 ≤ τ51.1 4 ∧ τ51.1 4 ≤ 100 := hT.1 4
                          have v5 : 0 ≤ τ51.1 5 ∧ τ51.1 5 ≤ 1500 := hT.1 5
                          have v6 : 0 ≤ τ51.1 6 ∧ τ51.1 6 ≤ 30000 := hT.1 6
                          have v7 : 0 ≤ τ51.1 7 ∧ τ51.1 7 ≤ 90000 := hT.1 7
                          have v8 : 0 ≤ τ51.1 8 ∧ τ51.1 8 ≤ 20000 := hT.1 8
                          have v9 : 0 ≤ τ51.1 9 ∧ τ51.1 9 ≤ 20000 := hT.1 9
                          have v10 : (-1) ≤ τ51.1 10 ∧ τ51.1 10 ≤ 999 := hT.1 10
                          have v11 : (-1) ≤ τ51.1 11 ∧ τ51.1 11 ≤ 999 := hT.1 11
                          have v16 : 0 ≤ τ51.1 16 ∧ τ51.1 16 ≤ 60000 := hT.1 16
                          have v17 : 0 ≤ τ51.1 17 ∧ τ51.1 17 ≤ 60000 := hT.1 17
                          have v18 : 0 ≤ τ51.1 18 ∧ τ51.1 18 ≤ 60000 := hT.1 18
                          have v19 : (-1) ≤ τ51.1 19 ∧ τ51.1 19 ≤ 125 := hT.1 19
                          have v20 : 0 ≤ τ51.1 20 ∧ τ51.1 20 ≤ 19 := hT.1 20
                          have v22 : 0 ≤ τ51.1 22 ∧ τ51.1 22 ≤ 1499 := hT.1 22
                          have a14_22 : 0 ≤ τ51.2.1 14 (τ51.1 22) ∧ τ51.2.1 14 (τ51.1 22) ≤ 30000 := hT.2 14 _
                          have a15_22 : 0 ≤ τ51.2.1 15 (τ51.1 22) ∧ τ51.2.1 15 (τ51.1 22) ≤ 300 := hT.2 15 _
                          have av6 : σ.1 6 ≤ τ51.1 6 := ag.1 6 (by decide)
                          have Z1 : τ51.2.1 14 (τ51.1 22) + τ51.2.1 15 (τ51.1 22) = τ51.1 6 := by omega
                          have nn2 := n_N_a nn (show τ51.2.1 16 = st (τ_26.2.1 16) (τ_26.2.1 14 (τ_26.1 22) + τ_26.2.1 15 (τ_26.1 22)) x16 from by rw [q49_4, show τ_26.2.1 14 (τ_26.1 22) + τ_26.2.1 15 (τ_26.1 22) = τ_26.1 6 from by omega]) (show τ51.2.1 17 = st (τ_26.2.1 17) (τ_26.2.1 14 (τ_26.1 22) + τ_26.2.1 15 (τ_26.1 22)) (-1) from by rw [q49_5, show τ_26.2.1 14 (τ_26.1 22) + τ_26.2.1 15 (τ_26.1 22) = τ_26.1 6 from by omega]) (x3lt (by omega)) (by first | exact Or.inl ⟨by rw [← G8, g8_τ51, ← e_x46]; assumption, rfl⟩ | exact Or.inr ⟨by rw [← G8, g8_τ51, ← e_x46]; assumption, by omega, by rw [← G11, g11_τ51, ← e_x48]⟩ | (exfalso; omega))
                          refine ⟨_, K_X13_next hT (show (τ51.1 16) ≤ (τ51.1 0) from by (first | omega | (simp only [st_s] <;> omega) | assumption | omega | fail)), ?_⟩
                          intro τ54 hn_τ54 hf_τ54 hq
                          obtain ⟨hT, q52_1, q52_2, q52_3, q52_4, q52_5⟩ := hq
                          replace q52_1 : (τ54.1 16) ≤ (τ54.1 0) := q52_1
                          replace q52_2 : (τ54.1 17) + (τ54.1 18) ≤ (τ54.1 0) := q52_2
                          replace q52_3 : (τ51.1 16) ≤ (τ54.1 16) := q52_3
                          replace q52_4 : ¬ (τ51.1 20) = 0 → (τ54.1 20) = (τ51.1 20) := q52_4
                          replace q52_5 : (τ54.1 20) = 0 → ¬ (τ54.1 19) = 0 → (τ51.1 16) < (τ54.1 16) ∧ 0 < (τ54.1 18) := q52_5
                          replace ag : m_ag σ τ54 := ag_r ag hf_τ54 rfl rfl
                          have w0_τ54 : τ54.1 0 = τ51.1 0 := hf_τ54.1 0 (by decide)
                          have w3_τ54 : τ54.1 3 = τ51.1 3 := hf_τ54.1 3 (by decide)
                          have w4_τ54 : τ54.1 4 = τ51.1 4 := hf_τ54.1 4 (by decide)
                          have w5_τ54 : τ54.1 5 = τ51.1 5 := hf_τ54.1 5 (by decide)
                          have w6_τ54 : τ54.1 6 = τ51.1 6 := hf_τ54.1 6 (by decide)
                          have w7_τ54 : τ54.1 7 = τ51.1 7 := hf_τ54.1 7 (by decide)
                          have w8_τ54 : τ54.1 8 = τ51.1 8 := hf_τ54.1 8 (by decide)
                          have w9_τ54 : τ54.1 9 = τ51.1 9 := hf_τ54.1 9 (by decide)
                          have w10_τ54 : τ54.1 10 = τ51.1 10 := hf_τ54.1 10 (by decide)
                          have w11_τ54 : τ54.1 11 = τ51.1 11 := hf_τ54.1 11 (by decide)
                          have w22_τ54 : τ54.1 22 = τ51.1 22 := hf_τ54.1 22 (by decide)
                          have g6_τ54 : τ54.2.1 6 = τ51.2.1 6 := hf_τ54.2.1 6 (by decide)
                          have g7_τ54 : τ54.2.1 7 = τ51.2.1 7 := hf_τ54.2.1 7 (by decide)
                          have g8_τ54 : τ54.2.1 8 = τ51.2.1 8 := hf_τ54.2.1 8 (by decide)
                          have g10_τ54 : τ54.2.1 10 = τ51.2.1 10 := hf_τ54.2.1 10 (by decide)
                          have g11_τ54 : τ54.2.1 11 = τ51.2.1 11 := hf_τ54.2.1 11 (by decide)
                          have g12_τ54 : τ54.2.1 12 = τ51.2.1 12 := hf_τ54.2.1 12 (by decide)
                          have g14_τ54 : τ54.2.1 14 = τ51.2.1 14 := hf_τ54.2.1 14 (by decide)
                          have g15_τ54 : τ54.2.1 15 = τ51.2.1 15 := hf_τ54.2.1 15 (by decide)
                          have g16_τ54 : τ54.2.1 16 = τ51.2.1 16 := hf_τ54.2.1 16 (by decide)
                          have g17_τ54 : τ54.2.1 17 = τ51.2.1 17 := hf_τ54.2.1 17 (by decide)
                          first | (have o6_τ54 := congrArg oc g6_τ54) | skip
                          first | (have o7_τ54 := congrArg oc g7_τ54) | skip
                          have W0 : τ54.1 0 = σ.1 0 := by first | exact w0_τ54.trans W0 | omega
                          have W3 : τ54.1 3 = σ.1 3 := by first | exact w3_τ54.trans W3 | omega
                          have W5 : τ54.1 5 = σ.1 5 := by first | exact w5_τ54.trans W5 | omega
                          have W7 : τ54.1 7 = σ.1 7 := by first | exact w7_τ54.trans W7 | omega
                          have W8 : τ54.1 8 = σ.1 8 := by first | exact w8_τ54.trans W8 | omega
                          have W9 : τ54.1 9 = σ.1 9 := by first | exact w9_τ54.trans W9 | omega
                          have W10 : τ54.1 10 = σ.1 10 := by first | exact w10_τ54.trans W10 | omega
                          have W11 : τ54.1 11 = σ.1 11 := by first | exact w11_τ54.trans W11 | omega
                          have W22 : τ54.1 22 = σ.1 22 := by first | exact w22_τ54.trans W22 | omega
                          have G6 : τ54.2.1 6 = σ.2.1 6 := (g6_τ54).trans G6
                          have G7 : τ54.2.1 7 = σ.2.1 7 := (g7_τ54).trans G7
                          have G8 : τ54.2.1 8 = σ.2.1 8 := (g8_τ54).trans G8
                          have G10 : τ54.2.1 10 = σ.2.1 10 := (g10_τ54).trans G10
                          have G11 : τ54.2.1 11 = σ.2.1 11 := (g11_τ54).trans G11
                          have G14 : τ54.2.1 14 = σ.2.1 14 := (g14_τ54).trans G14
                          have y14_22_τ54 : τ54.2.1 14 (τ54.1 22) = (τ51.2.1 14) (τ51.1 22) := by rw [g14_τ54, w22_τ54]
                          have y15_22_τ54 : τ54.2.1 15 (τ54.1 22) = (τ51.2.1 15) (τ51.1 22) := by rw [g15_τ54, w22_τ54]
                          have Z1 : τ54.2.1 14 (τ54.1 22) + τ54.2.1 15 (τ54.1 22) = (τ54.1 6) := by rw [show (τ54.2.1 14 (τ54.1 22) + τ54.2.1 15 (τ54.1 22) = (τ54.1 6)) = (τ51.2.1 14 (τ51.1 22) + τ51.2.1 15 (τ51.1 22) = (τ51.1 6)) from by rw [w6_τ54, w22_τ54, g14_τ54, g15_τ54]]; exact Z1
                          have Y20 : ca (τ54.2.1 12) ((τ54.1 3)) ≤ (τ54.1 4) := by rw [show (ca (τ54.2.1 12) ((τ54.1 3)) ≤ (τ54.1 4)) = (ca (τ51.2.1 12) ((τ51.1 3)) ≤ (τ51.1 4)) from by rw [w3_τ54, w4_τ54, g12_τ54]]; exact Y20
                          have Y1 : j_l2 (τ54.2.1 6) (τ54.1 3) := by rw [show (j_l2 (τ54.2.1 6) (τ54.1 3)) = (j_l2 (τ51.2.1 6) (τ51.1 3)) from by rw [w3_τ54, g6_τ54]]; exact Y1
                          have STt : j_l2 (τ54.2.1 6) (τ54.1 3) := by rw [show (j_l2 (τ54.2.1 6) (τ54.1 3)) = (j_l2 (τ51.2.1 6) (τ51.1 3)) from by rw [w3_τ54, g6_τ54]]; exact STt
                          have A6 : ∀ j, (-1) ≤ τ54.2.1 6 j ∧ τ54.2.1 6 j ≤ 999 := fun j => hT.2 6 j
                          have A7 : ∀ j, (-1) ≤ τ54.2.1 7 j ∧ τ54.2.1 7 j ≤ 1499 := fun j => hT.2 7 j
                          have A8 : ∀ j, 0 ≤ τ54.2.1 8 j ∧ τ54.2.1 8 j ≤ 1 := fun j => hT.2 8 j
                          have A10 : ∀ j, (-1) ≤ τ54.2.1 10 j ∧ τ54.2.1 10 j ≤ 999 := fun j => hT.2 10 j
                          have A11 : ∀ j, (-1) ≤ τ54.2.1 11 j ∧ τ54.2.1 11 j ≤ 1499 := fun j => hT.2 11 j
                          have A12 : ∀ j, 0 ≤ τ54.2.1 12 j ∧ τ54.2.1 12 j ≤ 1 := fun j => hT.2 12 j
                          have A14 : ∀ j, 0 ≤ τ54.2.1 14 j ∧ τ54.2.1 14 j ≤ 30000 := fun j => hT.2 14 j
                          have A15 : ∀ j, 0 ≤ τ54.2.1 15 j ∧ τ54.2.1 15 j ≤ 300 := fun j => hT.2 15 j
                          have A16 : ∀ j, 0 ≤ τ54.2.1 16 j ∧ τ54.2.1 16 j ≤ 999 := fun j => hT.2 16 j
                          have A17 : ∀ j, (-1) ≤ τ54.2.1 17 j ∧ τ54.2.1 17 j ≤ 1499 := fun j => hT.2 17 j
                          have v0 : 0 ≤ τ54.1 0 ∧ τ54.1 0 ≤ 60000 := hT.1 0
                          have v3 : 0 ≤ τ54.1 3 ∧ τ54.1 3 ≤ 1000 := hT.1 3
                          have v4 : 0 ≤ τ54.1 4 ∧ τ54.1 4 ≤ 100 := hT.1 4
                          have v5 : 0 ≤ τ54.1 5 ∧ τ54.1 5 ≤ 1500 := hT.1 5
                          have v6 : 0 ≤ τ54.1 6 ∧ τ54.1 6 ≤ 30000 := hT.1 6
                          have v7 : 0 ≤ τ54.1 7 ∧ τ54.1 7 ≤ 90000 := hT.1 7
                          have v8 : 0 ≤ τ54.1 8 ∧ τ54.1 8 ≤ 20000 := hT.1 8
                          have v9 : 0 ≤ τ54.1 9 ∧ τ54.1 9 ≤ 20000 := hT.1 9
                          have v10 : (-1) ≤ τ54.1 10 ∧ τ54.1 10 ≤ 999 := hT.1 10
                          have v11 : (-1) ≤ τ54.1 11 ∧ τ54.1 11 ≤ 999 := hT.1 11
                          have v16 : 0 ≤ τ54.1 16 ∧ τ54.1 16 ≤ 60000 := hT.1 16
                          have v17 : 0 ≤ τ54.1 17 ∧ τ54.1 17 ≤ 60000 := hT.1 17
                          have v18 : 0 ≤ τ54.1 18 ∧ τ54.1 18 ≤ 60000 := hT.1 18
                          have v19 : (-1) ≤ τ54.1 19 ∧ τ54.1 19 ≤ 125 := hT.1 19
                          have v20 : 0 ≤ τ54.1 20 ∧ τ54.1 20 ≤ 19 := hT.1 20
                          have v22 : 0 ≤ τ54.1 22 ∧ τ54.1 22 ≤ 1499 := hT.1 22
                          have a14_22 : 0 ≤ τ54.2.1 14 (τ54.1 22) ∧ τ54.2.1 14 (τ54.1 22) ≤ 30000 := hT.2 14 _
                          have a15_22 : 0 ≤ τ54.2.1 15 (τ54.1 22) ∧ τ54.2.1 15 (τ54.1 22) ≤ 300 := hT.2 15 _
                          have av6 : σ.1 6 ≤ τ54.1 6 := ag.1 6 (by decide)
                          have nn3 : n_N (τ54.2.1 14 (τ54.1 22)) (τ54.2.1 14 (τ54.1 22) + τ54.2.1 15 (τ54.1 22)) (σ.1 3) (σ.2.1 8) (σ.2.1 11) (τ54.2.1 12) (τ54.2.1 16) (τ54.2.1 17) := by (rw [g14_τ54, g15_τ54, g12_τ54, g16_τ54, g17_τ54, w22_τ54, g14_τ51, g12_τ51, show τ51.1 22 = τ_26.1 22 from by omega, show τ51.2.1 15 (τ_26.1 22) = τ_26.2.1 15 (τ_26.1 22) + 1 from by (have w := q49_2; rw [show τ51.1 22 = τ_26.1 22 from by omega] at w; exact w), show τ_26.2.1 14 (τ_26.1 22) + (τ_26.2.1 15 (τ_26.1 22) + 1) = τ_26.2.1 14 (τ_26.1 22) + τ_26.2.1 15 (τ_26.1 22) + 1 from by omega]; exact nn2)
                          exact ih_26 _ (show (3 * ((τ54.1 0) - (τ54.1 16)) + z_0 ((τ54.1 20)) + 1 - z_0 ((τ54.1 19)) : Int) < ((m_26 : Nat) : Int) from by (have zz0 := z_e ((τ54.1 20)); have zz1 := z_e ((τ54.1 19)); (first | omega | (simp only [st_s] <;> omega) | assumption | omega | fail))) hT ag (show τ54.1 0 = σ.1 0 from by first | exact W0 | omega) (show τ54.1 3 = σ.1 3 from by first | exact W3 | omega) (show τ54.1 5 = σ.1 5 from by first | exact W5 | omega) (show τ54.1 7 = σ.1 7 from by first | exact W7 | omega) (show τ54.1 8 = σ.1 8 from by first | exact W8 | omega) (show τ54.1 9 = σ.1 9 from by first | exact W9 | omega) (show τ54.1 10 = σ.1 10 from by first | exact W10 | omega) (show τ54.1 11 = σ.1 11 from by first | exact W11 | omega) (show τ54.1 22 = σ.1 22 from by first | exact W22 | omega) G6 G7 G8 G10 G11 G14 (show (τ54.1 16) ≤ (τ54.1 0) from by (first | omega | (simp only [st_s] <;> omega) | assumption | omega | fail)) (show (τ54.1 17) + (τ54.1 18) ≤ (τ54.1 0) from by (first | omega | (simp only [st_s] <;> omega) | assumption | omega | fail)) (show oc (τ54.2.1 6) < 4096 from by (first | omega | (simp only [st_s] <;> omega) | assumption | omega | fail)) (show oc (τ54.2.1 7) < 4096 from by (first | omega | (simp only [st_s] <;> omega) | assumption | omega | fail)) (show ¬ (σ.1 20) = 0 → (τ54.1 20) = (σ.1 20) from by (first | omega | (simp only [st_s] <;> omega) | assumption | omega | fail)) (show τ54.2.1 14 (τ54.1 22) + τ54.2.1 15 (τ54.1 22) = (τ54.1 6) from Z1) (show ca (τ54.2.1 12) ((τ54.1 3)) ≤ (τ54.1 4) from Y20) (show (τ54.1 20) = 0 → 1 ≤ τ54.2.1 15 (τ54.1 22) from by (first | omega | (simp only [st_s] <;> omega) | assumption | omega | fail)) (show (σ.1 16) ≤ (τ54.1 16) from by (first | omega | (simp only [st_s] <;> omega) | assumption | omega | fail)) (show (τ54.1 20) = 0 → n_N (τ54.2.1 14 (τ54.1 22)) (τ54.2.1 14 (τ54.1 22) + τ54.2.1 15 (τ54.1 22)) (σ.1 3) (σ.2.1 8) (σ.2.1 11) (τ54.2.1 12) (τ54.2.1 16) (τ54.2.1 17) from by (intro z; first | (exfalso; omega) | exact r57 (by omega) | (rw [g14_τ11, g15_τ11, g12_τ11, g16_τ11, g17_τ11, w22_τ11]; exact r57 (by omega)) | exact nn3)) (show n_rl σ τ54 from by (first | exact n_rl_h hf_τ3 rfl rfl | exact n_rl_t (n_rl_h hf_τ3 rfl rfl) q5_8 | exact n_rl_r (n_rl_h hf_τ3 rfl rfl) hf_τ11 rfl rfl | exact n_rl_r (n_rl_t (n_rl_h hf_τ3 rfl rfl) q5_8) hf_τ11 rfl rfl | exact n_rl_r (i26_11) hf_τ33 rfl rfl | exact n_rl_r (i26_11) hf_τ36 rfl rfl | exact n_rl_r (i26_11) hf_τ44 rfl rfl | exact n_rl_r (n_rl_r (i26_11) hf_τ51 rfl rfl) hf_τ54 rfl rfl | fail))
                        ·
                          intro x48 r_x48 e_x48
                          have b_x48 : (-1) ≤ x48 ∧ x48 ≤ 1499 := by rw [e_x48]; exact hT.2 11 _
                          refine h174 _ _ _ _ ?_
                          have nn := i26_10 (by omega)
                          refine ⟨_, K3_X13_addSymbol hT (show 0 ≤ x16 from by (first | omega | (simp only [st_s] <;> omega) | assumption | omega | fail)) (show x16 < 1000 from by (first | omega | (simp only [st_s] <;> omega) | assumption | omega | fail)) (show -1 ≤ x48 from by (first | omega | (simp only [st_s] <;> omega) | assumption | omega | fail)) (show x48 ≤ 1499 from by (first | omega | (simp only [st_s] <;> omega) | assumption | omega | fail)) (show (τ_26.1 6) < 30000 from by (first | omega | (simp only [st_s] <;> omega) | assumption | omega | fail)) (show τ_26.2.1 15 (τ_26.1 22) < 300 from by (rw [← e_x19]; omega)) (show (τ_26.1 22) = (τ_26.1 5) from by (first | omega | (simp only [st_s] <;> omega) | assumption | omega | fail)), ?_⟩
                          intro τ51 hn_τ51 hf_τ51 hq
                          obtain ⟨hT, q49_1, q49_2, q49_3, q49_4, q49_5⟩ := hq
                          replace q49_1 : (τ51.1 6) = (τ_26.1 6) + 1 := q49_1
                          replace q49_2 : τ51.2.1 15 (τ51.1 22) = τ_26.2.1 15 (τ_26.1 22) + 1 := q49_2
                          replace q49_3 : m_ag τ_26 τ51 := q49_3
                          replace q49_4 : τ51.2.1 16 = st (τ_26.2.1 16) (τ_26.1 6) x16 := q49_4
                          replace q49_5 : τ51.2.1 17 = st (τ_26.2.1 17) (τ_26.1 6) x48 := q49_5
                          replace ag : m_ag σ τ51 := ag_t ag q49_3 rfl
                          have w0_τ51 : τ51.1 0 = τ_26.1 0 := hf_τ51.1 0 (by decide)
                          have w3_τ51 : τ51.1 3 = τ_26.1 3 := hf_τ51.1 3 (by decide)
                          have w4_τ51 : τ51.1 4 = τ_26.1 4 := hf_τ51.1 4 (by decide)
                          have w5_τ51 : τ51.1 5 = τ_26.1 5 := hf_τ51.1 5 (by decide)
                          have w7_τ51 : τ51.1 7 = τ_26.1 7 := hf_τ51.1 7 (by decide)
                          have w8_τ51 : τ51.1 8 = τ_26.1 8 := hf_τ51.1 8 (by decide)
                          have w9_τ51 : τ51.1 9 = τ_26.1 9 := hf_τ51.1 9 (by decide)
                          have w10_τ51 : τ51.1 10 = τ_26.1 10 := hf_τ51.1 10 (by decide)
                          have w11_τ51 : τ51.1 11 = τ_26.1 11 := hf_τ51.1 11 (by decide)
                          have w16_τ51 : τ51.1 16 = τ_26.1 16 := hf_τ51.1 16 (by decide)
                          have w17_τ51 : τ51.1 17 = τ_26.1 17 := hf_τ51.1 17 (by decide)
                          have w18_τ51 : τ51.1 18 = τ_26.1 18 := hf_τ51.1 18 (by decide)
                          have w19_τ51 : τ51.1 19 = τ_26.1 19 := hf_τ51.1 19 (by decide)
                          have w20_τ51 : τ51.1 20 = τ_26.1 20 := hf_τ51.1 20 (by decide)
                          have w22_τ51 : τ51.1 22 = τ_26.1 22 := hf_τ51.1 22 (by decide)
                          have g6_τ51 : τ51.2.1 6 = τ_26.2.1 6 := hf_τ51.2.1 6 (by decide)
                          have g7_τ51 : τ51.2.1 7 = τ_26.2.1 7 := hf_τ51.2.1 7 (by decide)
                          have g8_τ51 : τ51.2.1 8 = τ_26.2.1 8 := hf_τ51.2.1 8 (by decide)
                          have g10_τ51 : τ51.2.1 10 = τ_26.2.1 10 := hf_τ51.2.1 10 (by decide)
                          have g11_τ51 : τ51.2.1 11 = τ_26.2.1 11 := hf_τ51.2.1 11 (by decide)
                          have g12_τ51 : τ51.2.1 12 = τ_26.2.1 12 := hf_τ51.2.1 12 (by decide)
                          have g14_τ51 : τ51.2.1 14 = τ_26.2.1 14 := hf_τ51.2.1 14 (by decide)
                          first | (have o6_τ51 := congrArg oc g6_τ51) | skip
                          first | (have o7_τ51 := congrArg oc g7_τ51) | skip
                          have W0 : τ51.1 0 = σ.1 0 := by first | exact w0_τ51.trans W0 | omega
                          have W3 : τ51.1 3 = σ.1 3 := by first | exact w3_τ51.trans W3 | omega
                          have W5 : τ51.1 5 = σ.1 5 := by first | exact w5_τ51.trans W5 | omega
                          have W7 : τ51.1 7 = σ.1 7 := by first | exact w7_τ51.trans W7 | omega
                          have W8 : τ51.1 8 = σ.1 8 := by first | exact w8_τ51.trans W8 | omega
                          have W9 : τ51.1 9 = σ.1 9 := by first | exact w9_τ51.trans W9 | omega
                          have W10 : τ51.1 10 = σ.1 10 := by first | exact w10_τ51.trans W10 | omega
                          have W11 : τ51.1 11 = σ.1 11 := by first | exact w11_τ51.trans W11 | omega
                          have W22 : τ51.1 22 = σ.1 22 := by first | exact w22_τ51.trans W22 | omega
                          have G6 : τ51.2.1 6 = σ.2.1 6 := (g6_τ51).trans G6
                          have G7 : τ51.2.1 7 = σ.2.1 7 := (g7_τ51).trans G7
                          have G8 : τ51.2.1 8 = σ.2.1 8 := (g8_τ51).trans G8
                          have G10 : τ51.2.1 10 = σ.2.1 10 := (g10_τ51).trans G10
                          have G11 : τ51.2.1 11 = σ.2.1 11 := (g11_τ51).trans G11
                          have G14 : τ51.2.1 14 = σ.2.1 14 := (g14_τ51).trans G14
                          have y14_22_τ51 : τ51.2.1 14 (τ51.1 22) = (τ_26.2.1 14) (τ_26.1 22) := by rw [g14_τ51, w22_τ51]
                          have Y20 : ca (τ51.2.1 12) ((τ51.1 3)) ≤ (τ51.1 4) := by rw [show (ca (τ51.2.1 12) ((τ51.1 3)) ≤ (τ51.1 4)) = (ca (τ_26.2.1 12) ((τ_26.1 3)) ≤ (τ_26.1 4)) from by rw [w3_τ51, w4_τ51, g12_τ51]]; exact Y20
                          have Y1 : j_l2 (τ51.2.1 6) (τ51.1 3) := by rw [show (j_l2 (τ51.2.1 6) (τ51.1 3)) = (j_l2 (τ_26.2.1 6) (τ_26.1 3)) from by rw [w3_τ51, g6_τ51]]; exact Y1
                          have STt : j_l2 (τ51.2.1 6) (τ51.1 3) := by rw [show (j_l2 (τ51.2.1 6) (τ51.1 3)) = (j_l2 (τ_26.2.1 6) (τ_26.1 3)) from by rw [w3_τ51, g6_τ51]]; exact STt
                          have A6 : ∀ j, (-1) ≤ τ51.2.1 6 j ∧ τ51.2.1 6 j ≤ 999 := fun j => hT.2 6 j
                          have A7 : ∀ j, (-1) ≤ τ51.2.1 7 j ∧ τ51.2.1 7 j ≤ 1499 := fun j => hT.2 7 j
                          have A8 : ∀ j, 0 ≤ τ51.2.1 8 j ∧ τ51.2.1 8 j ≤ 1 := fun j => hT.2 8 j
                          have A10 : ∀ j, (-1) ≤ τ51.2.1 10 j ∧ τ51.2.1 10 j ≤ 999 := fun j => hT.2 10 j
                          have A11 : ∀ j, (-1) ≤ τ51.2.1 11 j ∧ τ51.2.1 11 j ≤ 1499 := fun j => hT.2 11 j
                          have A12 : ∀ j, 0 ≤ τ51.2.1 12 j ∧ τ51.2.1 12 j ≤ 1 := fun j => hT.2 12 j
                          have A14 : ∀ j, 0 ≤ τ51.2.1 14 j ∧ τ51.2.1 14 j ≤ 30000 := fun j => hT.2 14 j
                          have A15 : ∀ j, 0 ≤ τ51.2.1 15 j ∧ τ51.2.1 15 j ≤ 300 := fun j => hT.2 15 j
                          have A16 : ∀ j, 0 ≤ τ51.2.1 16 j ∧ τ51.2.1 16 j ≤ 999 := fun j => hT.2 16 j
                          have A17 : ∀ j, (-1) ≤ τ51.2.1 17 j ∧ τ51.2.1 17 j ≤ 1499 := fun j => hT.2 17 j
                          have v0 : 0 ≤ τ51.1 0 ∧ τ51.1 0 ≤ 60000 := hT.1 0
                          have v3 : 0 ≤ τ51.1 3 ∧ τ51.1 3 ≤ 1000 := hT.1 3
                          have v4 : 0 ≤ τ51.1 4 ∧ τ51.1 4 ≤ 100 := hT.1 4
                          have v5 : 0 ≤ τ51.1 5 ∧ τ51.1 5 ≤ 1500 := hT.1 5
                          have v6 : 0 ≤ τ51.1 6 ∧ τ51.1 6 ≤ 30000 := hT.1 6
                          have v7 : 0 ≤ τ51.1 7 ∧ τ51.1 7 ≤ 90000 := hT.1 7
                          have v8 : 0 ≤ τ51.1 8 ∧ τ51.1 8 ≤ 20000 := hT.1 8
                          have v9 : 0 ≤ τ51.1 9 ∧ τ51.1 9 ≤ 20000 := hT.1 9
                          have v10 : (-1) ≤ τ51.1 10 ∧ τ51.1 10 ≤ 999 := hT.1 10
                          have v11 : (-1) ≤ τ51.1 11 ∧ τ51.1 11 ≤ 999 := hT.1 11
                          have v16 : 0 ≤ τ51.1 16 ∧ τ51.1 16 ≤ 60000 := hT.1 16
                          have v17 : 0 ≤ τ51.1 17 ∧ τ51.1 17 ≤ 60000 := hT.1 17
                          have v18 : 0 ≤ τ51.1 18 ∧ τ51.1 18 ≤ 60000 := hT.1 18
                          have v19 : (-1) ≤ τ51.1 19 ∧ τ51.1 19 ≤ 125 := hT.1 19
                          have v20 : 0 ≤ τ51.1 20 ∧ τ51.1 20 ≤ 19 := hT.1 20
                          have v22 : 0 ≤ τ51.1 22 ∧ τ51.1 22 ≤ 1499 := hT.1 22
                          have a14_22 : 0 ≤ τ51.2.1 14 (τ51.1 22) ∧ τ51.2.1 14 (τ51.1 22) ≤ 30000 := hT.2 14 _
                          have a15_22 : 0 ≤ τ51.2.1 15 (τ51.1 22) ∧ τ51.2.1 15 (τ51.1 22) ≤ 300 := hT.2 15 _
                          have av6 : σ.1 6 ≤ τ51.1 6 := ag.1 6 (by decide)
                          have Z1 : τ51.2.1 14 (τ51.1 22) + τ51.2.1 15 (τ51.1 22) = τ51.1 6 := by omega
                          have nn2 := n_N_a nn (show τ51.2.1 16 = st (τ_26.2.1 16) (τ_26.2.1 14 (τ_26.1 22) + τ_26.2.1 15 (τ_26.1 22)) x16 from by rw [q49_4, show τ_26.2.1 14 (τ_26.1 22) + τ_26.2.1 15 (τ_26.1 22) = τ_26.1 6 from by omega]) (show τ51.2.1 17 = st (τ_26.2.1 17) (τ_26.2.1 14 (τ_26.1 22) + τ_26.2.1 15 (τ_26.1 22)) x48 from by rw [q49_5, show τ_26.2.1 14 (τ_26.1 22) + τ_26.2.1 15 (τ_26.1 22) = τ_26.1 6 from by omega]) (x3lt (by omega)) (by first | exact Or.inl ⟨by rw [← G8, g8_τ51, ← e_x46]; assumption, rfl⟩ | exact Or.inr ⟨by rw [← G8, g8_τ51, ← e_x46]; assumption, by omega, by rw [← G11, g11_τ51, ← e_x48]⟩ | (exfalso; omega))
                          refine ⟨_, K_X13_next hT (show (τ51.1 16) ≤ (τ51.1 0) from by (first | omega | (simp only [st_s] <;> omega) | assumption | omega | fail)), ?_⟩
                          intro τ54 hn_τ54 hf_τ54 hq
                          obtain ⟨hT, q52_1, q52_2, q52_3, q52_4, q52_5⟩ := hq
                          replace q52_1 : (τ54.1 16) ≤ (τ54.1 0) := q52_1
                          replace q52_2 : (τ54.1 17) + (τ54.1 18) ≤ (τ54.1 0) := q52_2
                          replace q52_3 : (τ51.1 16) ≤ (τ54.1 16) := q52_3
                          replace q52_4 : ¬ (τ51.1 20) = 0 → (τ54.1 20) = (τ51.1 20) := q52_4
                          replace q52_5 : (τ54.1 20) = 0 → ¬ (τ54.1 19) = 0 → (τ51.1 16) < (τ54.1 16) ∧ 0 < (τ54.1 18) := q52_5
                          replace ag : m_ag σ τ54 := ag_r ag hf_τ54 rfl rfl
                          have w0_τ54 : τ54.1 0 = τ51.1 0 := hf_τ54.1 0 (by decide)
                          have w3_τ54 : τ54.1 3 = τ51.1 3 := hf_τ54.1 3 (by decide)
                          have w4_τ54 : τ54.1 4 = τ51.1 4 := hf_τ54.1 4 (by decide)
                          have w5_τ54 : τ54.1 5 = τ51.1 5 := hf_τ54.1 5 (by decide)
                          have w6_τ54 : τ54.1 6 = τ51.1 6 := hf_τ54.1 6 (by decide)
                          have w7_τ54 : τ54.1 7 = τ51.1 7 := hf_τ54.1 7 (by decide)
                          have w8_τ54 : τ54.1 8 = τ51.1 8 := hf_τ54.1 8 (by decide)
                          have w9_τ54 : τ54.1 9 = τ51.1 9 := hf_τ54.1 9 (by decide)
                          have w10_τ54 : τ54.1 10 = τ51.1 10 := hf_τ54.1 10 (by decide)
                          have w11_τ54 : τ54.1 11 = τ51.1 11 := hf_τ54.1 11 (by decide)
                          have w22_τ54 : τ54.1 22 = τ51.1 22 := hf_τ54.1 22 (by decide)
                          have g6_τ54 : τ54.2.1 6 = τ51.2.1 6 := hf_τ54.2.1 6 (by decide)
                          have g7_τ54 : τ54.2.1 7 = τ51.2.1 7 := hf_τ54.2.1 7 (by decide)
                          have g8_τ54 : τ54.2.1 8 = τ51.2.1 8 := hf_τ54.2.1 8 (by decide)
                          have g10_τ54 : τ54.2.1 10 = τ51.2.1 10 := hf_τ54.2.1 10 (by decide)
                          have g11_τ54 : τ54.2.1 11 = τ51.2.1 11 := hf_τ54.2.1 11 (by decide)
                          have g12_τ54 : τ54.2.1 12 = τ51.2.1 12 := hf_τ54.2.1 12 (by decide)
                          have g14_τ54 : τ54.2.1 14 = τ51.2.1 14 := hf_τ54.2.1 14 (by decide)
                          have g15_τ54 : τ54.2.1 15 = τ51.2.1 15 := hf_τ54.2.1 15 (by decide)
                          have g16_τ54 : τ54.2.1 16 = τ51.2.1 16 := hf_τ54.2.1 16 (by decide)
                          have g17_τ54 : τ54.2.1 17 = τ51.2.1 17 := hf_τ54.2.1 17 (by decide)
                          first | (have o6_τ54 := congrArg oc g6_τ54) | skip
                          first | (have o7_τ54 := congrArg oc g7_τ54) | skip
                          have W0 : τ54.1 0 = σ.1 0 := by first | exact w0_τ54.trans W0 | omega
                          have W3 : τ54.1 3 = σ.1 3 := by first | exact w3_τ54.trans W3 | omega
                          have W5 : τ54.1 5 = σ.1 5 := by first | exact w5_τ54.trans W5 | omega
                          have W7 : τ54.1 7 = σ.1 7 := by first | exact w7_τ54.trans W7 | omega
                          have W8 : τ54.1 8 = σ.1 8 := by first | exact w8_τ54.trans W8 | omega
                          have W9 : τ54.1 9 = σ.1 9 := by first | exact w9_τ54.trans W9 | omega
                          have W10 : τ54.1 10 = σ.1 10 := by first | exact w10_τ54.trans W10 | omega
                          have W11 : τ54.1 11 = σ.1 11 := by first | exact w11_τ54.trans W11 | omega
                          have W22 : τ54.1 22 = σ.1 22 := by first | exact w22_τ54.trans W22 | omega
                          have G6 : τ54.2.1 6 = σ.2.1 6 := (g6_τ54).trans G6
                          have G7 : τ54.2.1 7 = σ.2.1 7 := (g7_τ54).trans G7
                          have G8 : τ54.2.1 8 = σ.2.1 8 := (g8_τ54).trans G8
                          have G10 : τ54.2.1 10 = σ.2.1 10 := (g10_τ54).trans G10
                          have G11 : τ54.2.1 11 = σ.2.1 11 := (g11_τ54).trans G11
                          have G14 : τ54.2.1 14 = σ.2.1 14 := (g14_τ54).trans G14
                          have y14_22_τ54 : τ54.2.1 14 (τ54.1 22) = (τ51.2.1 14) (τ51.1 22) := by rw [g14_τ54, w22_τ54]
                          have y15_22_τ54 : τ54.2.1 15 (τ54.1 22) = (τ51.2.1 15) (τ51.1 22) := by rw [g15_τ54, w22_τ54]
                          have Z1 : τ54.2.1 14 (τ54.1 22) + τ54.2.1 15 (τ54.1 22) = (τ54.1 6) := by rw [show (τ54.2.1 14 (τ54.1 22) + τ54.2.1 15 (τ54.1 22) = (τ54.1 6)) = (τ51.2.1 14 (τ51.1 22) + τ51.2.1 15 (τ51.1 22) = (τ51.1 6)) from by rw [w6_τ54, w22_τ54, g14_τ54, g15_τ54]]; exact Z1
                          have Y20 : ca (τ54.2.1 12) ((τ54.1 3)) ≤ (τ54.1 4) := by rw [show (ca (τ54.2.1 12) ((τ54.1 3)) ≤ (τ54.1 4)) = (ca (τ51.2.1 12) ((τ51.1 3)) ≤ (τ51.1 4)) from by rw [w3_τ54, w4_τ54, g12_τ54]]; exact Y20
                          have Y1 : j_l2 (τ54.2.1 6) (τ54.1 3) := by rw [show (j_l2 (τ54.2.1 6) (τ54.1 3)) = (j_l2 (τ51.2.1 6) (τ51.1 3)) from by rw [w3_τ54, g6_τ54]]; exact Y1
                          have STt : j_l2 (τ54.2.1 6) (τ54.1 3) := by rw [show (j_l2 (τ54.2.1 6) (τ54.1 3)) = (j_l2 (τ51.2.1 6) (τ51.1 3)) from by rw [w3_τ54, g6_τ54]]; exact STt
                          have A6 : ∀ j, (-1) ≤ τ54.2.1 6 j ∧ τ54.2.1 6 j ≤ 999 := fun j => hT.2 6 j
                          have A7 : ∀ j, (-1) ≤ τ54.2.1 7 j ∧ τ54.2.1 7 j ≤ 1499 := fun j => hT.2 7 j
                          have A8 : ∀ j, 0 ≤ τ54.2.1 8 j ∧ τ54.2.1 8 j ≤ 1 := fun j => hT.2 8 j
                          have A10 : ∀ j, (-1) ≤ τ54.2.1 10 j ∧ τ54.2.1 10 j ≤ 999 := fun j => hT.2 10 j
                          have A11 : ∀ j, (-1) ≤ τ54.2.1 11 j ∧ τ54.2.1 11 j ≤ 1499 := fun j => hT.2 11 j
                          have A12 : ∀ j, 0 ≤ τ54.2.1 12 j ∧ τ54.2.1 12 j ≤ 1 := fun j => hT.2 12 j
                          have A14 : ∀ j, 0 ≤ τ54.2.1 14 j ∧ τ54.2.1 14 j ≤ 30000 := fun j => hT.2 14 j
                          have A15 : ∀ j, 0 ≤ τ54.2.1 15 j ∧ τ54.2.1 15 j ≤ 300 := fun j => hT.2 15 j
                          have A16 : ∀ j, 0 ≤ τ54.2.1 16 j ∧ τ54.2.1 16 j ≤ 999 := fun j => hT.2 16 j
                          have A17 : ∀ j, (-1) ≤ τ54.2.1 17 j ∧ τ54.2.1 17 j ≤ 1499 := fun j => hT.2 17 j
                          have v0 : 0 ≤ τ54.1 0 ∧ τ54.1 0 ≤ 60000 := hT.1 0
                          have v3 : 0 ≤ τ54.1 3 ∧ τ54.1 3 ≤ 1000 := hT.1 3
                          have v4 : 0 ≤ τ54.1 4 ∧ τ54.1 4 ≤ 100 := hT.1 4
                          have v5 : 0 ≤ τ54.1 5 ∧ τ54.1 5 ≤ 1500 := hT.1 5
                          have v6 : 0 ≤ τ54.1 6 ∧ τ54.1 6 ≤ 30000 := hT.1 6
                          have v7 : 0 ≤ τ54.1 7 ∧ τ54.1 7 ≤ 90000 := hT.1 7
                          have v8 : 0 ≤ τ54.1 8 ∧ τ54.1 8 ≤ 20000 := hT.1 8
                          have v9 : 0 ≤ τ54.1 9 ∧ τ54.1 9 ≤ 20000 := hT.1 9
                          have v10 : (-1) ≤ τ54.1 10 ∧ τ54.1 10 ≤ 999 := hT.1 10
                          have v11 : (-1) ≤ τ54.1 11 ∧ τ54.1 11 ≤ 999 := hT.1 11
                          have v16 : 0 ≤ τ54.1 16 ∧ τ54.1 16 ≤ 60000 := hT.1 16
                          have v17 : 0 ≤ τ54.1 17 ∧ τ54.1 17 ≤ 60000 := hT.1 17
                          have v18 : 0 ≤ τ54.1 18 ∧ τ54.1 18 ≤ 60000 := hT.1 18
                          have v19 : (-1) ≤ τ54.1 19 ∧ τ54.1 19 ≤ 125 := hT.1 19
                          have v20 : 0 ≤ τ54.1 20 ∧ τ54.1 20 ≤ 19 := hT.1 20
                          have v22 : 0 ≤ τ54.1 22 ∧ τ54.1 22 ≤ 1499 := hT.1 22
                          have a14_22 : 0 ≤ τ54.2.1 14 (τ54.1 22) ∧ τ54.2.1 14 (τ54.1 22) ≤ 30000 := hT.2 14 _
                          have a15_22 : 0 ≤ τ54.2.1 15 (τ54.1 22) ∧ τ54.2.1 15 (τ54.1 22) ≤ 300 := hT.2 15 _
                          have av6 : σ.1 6 ≤ τ54.1 6 := ag.1 6 (by decide)
                          have nn3 : n_N (τ54.2.1 14 (τ54.1 22)) (τ54.2.1 14 (τ54.1 22) + τ54.2.1 15 (τ54.1 22)) (σ.1 3) (σ.2.1 8) (σ.2.1 11) (τ54.2.1 12) (τ54.2.1 16) (τ54.2.1 17) := by (rw [g14_τ54, g15_τ54, g12_τ54, g16_τ54, g17_τ54, w22_τ54, g14_τ51, g12_τ51, show τ51.1 22 = τ_26.1 22 from by omega, show τ51.2.1 15 (τ_26.1 22) = τ_26.2.1 15 (τ_26.1 22) + 1 from by (have w := q49_2; rw [show τ51.1 22 = τ_26.1 22 from by omega] at w; exact w), show τ_26.2.1 14 (τ_26.1 22) + (τ_26.2.1 15 (τ_26.1 22) + 1) = τ_26.2.1 14 (τ_26.1 22) + τ_26.2.1 15 (τ_26.1 22) + 1 from by omega]; exact nn2)
                          exact ih_26 _ (show (3 * ((τ54.1 0) - (τ54.1 16)) + z_0 ((τ54.1 20)) + 1 - z_0 ((τ54.1 19)) : Int) < ((m_26 : Nat) : Int) from by (have zz0 := z_e ((τ54.1 20)); have zz1 := z_e ((τ54.1 19)); (first | omega | (simp only [st_s] <;> omega) | assumption | omega | fail))) hT ag (show τ54.1 0 = σ.1 0 from by first | exact W0 | omega) (show τ54.1 3 = σ.1 3 from by first | exact W3 | omega) (show τ54.1 5 = σ.1 5 from by first | exact W5 | omega) (show τ54.1 7 = σ.1 7 from by first | exact W7 | omega) (show τ54.1 8 = σ.1 8 from by first | exact W8 | omega) (show τ54.1 9 = σ.1 9 from by first | exact W9 | omega) (show τ54.1 10 = σ.1 10 from by first | exact W10 | omega) (show τ54.1 11 = σ.1 11 from by first | exact W11 | omega) (show τ54.1 22 = σ.1 22 from by first | exact W22 | omega) G6 G7 G8 G10 G11 G14 (show (τ54.1 16) ≤ (τ54.1 0) from by (first | omega | (simp only [st_s] <;> omega) | assumption | omega | fail)) (show (τ54.1 17) + (τ54.1 18) ≤ (τ54.1 0) from by (first | omega | (simp only [st_s] <;> omega) | assumption | omega | fail)) (show oc (τ54.2.1 6) < 4096 from by (first | omega | (simp only [st_s] <;> omega) | assumption | omega | fail)) (show oc (τ54.2.1 7) < 4096 from by (first | omega | (simp only [st_s] <;> omega) | assumption | omega | fail)) (show ¬ (σ.1 20) = 0 → (τ54.1 20) = (σ.1 20) from by (first | omega | (simp only [st_s] <;> omega) | assumption | omega | fail)) (show τ54.2.1 14 (τ54.1 22) + τ54.2.1 15 (τ54.1 22) = (τ54.1 6) from Z1) (show ca (τ54.2.1 12) ((τ54.1 3)) ≤ (τ54.1 4) from Y20) (show (τ54.1 20) = 0 → 1 ≤ τ54.2.1 15 (τ54.1 22) from by (first | omega | (simp only [st_s] <;> omega) | assumption | omega | fail)) (show (σ.1 16) ≤ (τ54.1 16) from by (first | omega | (simp only [st_s] <;> omega) | assumption | omega | fail)) (show (τ54.1 20) = 0 → n_N (τ54.2.1 14 (τ54.1 22)) (τ54.2.1 14 (τ54.1 22) + τ54.2.1 15 (τ54.1 22)) (σ.1 3) (σ.2.1 8) (σ.2.1 11) (τ54.2.1 12) (τ54.2.1 16) (τ54.2.1 17) from by (intro z; first | (exfalso; omega) | exact r57 (by omega) | (rw [g14_τ11, g15_τ11, g12_τ11, g16_τ11, g17_τ11, w22_τ11]; exact r57 (by omega)) | exact nn3)) (show n_rl σ τ54 from by (first | exact n_rl_h hf_τ3 rfl rfl | exact n_rl_t (n_rl_h hf_τ3 rfl rfl) q5_8 | exact n_rl_r (n_rl_h hf_τ3 rfl rfl) hf_τ11 rfl rfl | exact n_rl_r (n_rl_t (n_rl_h hf_τ3 rfl rfl) q5_8) hf_τ11 rfl rfl | exact n_rl_r (i26_11) hf_τ33 rfl rfl | exact n_rl_r (i26_11) hf_τ36 rfl rfl | exact n_rl_r (i26_11) hf_τ44 rfl rfl | exact n_rl_r (n_rl_r (i26_11) hf_τ51 rfl rfl) hf_τ54 rfl rfl | fail))
                      ·
                        intro x40 r_x40 e_x40
                        have b_x40 : (-1) ≤ x40 ∧ x40 ≤ 1499 := by rw [e_x40]; exact hT.2 11 _
                        refine ⟨fun c41 => ?_, fun c41 => ?_⟩
                        ·
                          refine h153 _ _ _ ?_
                          refine ⟨(show 0 ≤ x16 ∧ x16 < 1001 from by (first | omega | (simp only [st_s] <;> omega) | assumption | omega | fail)), ?_⟩
                          intro x46 r_x46 e_x46
                          have b_x46 : 0 ≤ x46 ∧ x46 ≤ 1 := by rw [e_x46]; exact hT.2 8 _
                          refine ⟨fun c47 => ?_, fun c47 => ?_⟩
                          ·
                            refine h174 _ _ _ _ ?_
                            have nn := i26_10 (by omega)
                            refine ⟨_, K3_X13_addSymbol hT (show 0 ≤ x16 from by (first | omega | (simp only [st_s] <;> omega) | assumption | omega | fail)) (show x16 < 1000 from by (first | omega | (simp only [st_s] <;> omega) | assumption | omega | fail)) (show -1 ≤ (-1 : Int) from by (first | omega | (simp only [st_s] <;> omega) | assumption | omega | fail)) (show (-1 : Int) ≤ 1499 from by (first | omega | (simp only [st_s] <;> omega) | assumption | omega | fail)) (show (τ_26.1 6) < 30000 from by (first | omega | (simp only [st_s] <;> omega) | assumption | omega | fail)) (show τ_26.2.1 15 (τ_26.1 22) < 300 from by (rw [← e_x19]; omega)) (show (τ_26.1 22) = (τ_26.1 5) from by (first | omega | (simp only [st_s] <;> omega) | assumption | omega | fail)), ?_⟩
                            intro τ51 hn_τ51 hf_τ51 hq
                            obtain ⟨hT, q49_1, q49_2, q49_3, q49_4, q49_5⟩ := hq
                            replace q49_1 : (τ51.1 6) = (τ_26.1 6) + 1 := q49_1
                            replace q49_2 : τ51.2.1 15 (τ51.1 22) = τ_26.2.1 15 (τ_26.1 22) + 1 := q49_2
                            replace q49_3 : m_ag τ_26 τ51 := q49_3
                            replace q49_4 : τ51.2.1 16 = st (τ_26.2.1 16) (τ_26.1 6) x16 := q49_4
                            replace q49_5 : τ51.2.1 17 = st (τ_26.2.1 17) (τ_26.1 6) (-1 : Int) := q49_5
                            replace ag : m_ag σ τ51 := ag_t ag q49_3 rfl
                            have w0_τ51 : τ51.1 0 = τ_26.1 0 := hf_τ51.1 0 (by decide)
                            have w3_τ51 : τ51.1 3 = τ_26.1 3 := hf_τ51.1 3 (by decide)
                            have w4_τ51 : τ51.1 4 = τ_26.1 4 := hf_τ51.1 4 (by decide)
                            have w5_τ51 : τ51.1 5 = τ_26.1 5 := hf_τ51.1 5 (by decide)
                            have w7_τ51 : τ51.1 7 = τ_26.1 7 := hf_τ51.1 7 (by decide)
                            have w8_τ51 : τ51.1 8 = τ_26.1 8 := hf_τ51.1 8 (by decide)
                            have w9_τ51 : τ51.1 9 = τ_26.1 9 := hf_τ51.1 9 (by decide)
                            have w10_τ51 : τ51.1 10 = τ_26.1 10 := hf_τ51.1 10 (by decide)
                            have w11_τ51 : τ51.1 11 = τ_26.1 11 := hf_τ51.1 11 (by decide)
                            have w16_τ51 : τ51.1 16 = τ_26.1 16 := hf_τ51.1 16 (by decide)
                            have w17_τ51 : τ51.1 17 = τ_26.1 17 := hf_τ51.1 17 (by decide)
                            have w18_τ51 : τ51.1 18 = τ_26.1 18 := hf_τ51.1 18 (by decide)
                            have w19_τ51 : τ51.1 19 = τ_26.1 19 := hf_τ51.1 19 (by decide)
                            have w20_τ51 : τ51.1 20 = τ_26.1 20 := hf_τ51.1 20 (by decide)
                            have w22_τ51 : τ51.1 22 = τ_26.1 22 := hf_τ51.1 22 (by decide)
                            have g6_τ51 : τ51.2.1 6 = τ_26.2.1 6 := hf_τ51.2.1 6 (by decide)
                            have g7_τ51 : τ51.2.1 7 = τ_26.2.1 7 := hf_τ51.2.1 7 (by decide)
                            have g8_τ51 : τ51.2.1 8 = τ_26.2.1 8 := hf_τ51.2.1 8 (by decide)
                            have g10_τ51 : τ51.2.1 10 = τ_26.2.1 10 := hf_τ51.2.1 10 (by decide)
                            have g11_τ51 : τ51.2.1 11 = τ_26.2.1 11 := hf_τ51.2.1 11 (by decide)
                            have g12_τ51 : τ51.2.1 12 = τ_26.2.1 12 := hf_τ51.2.1 12 (by decide)
                            have g14_τ51 : τ51.2.1 14 = τ_26.2.1 14 := hf_τ51.2.1 14 (by decide)
                            first | (have o6_τ51 := congrArg oc g6_τ51) | skip
                            first | (have o7_τ51 := congrArg oc g7_τ51) | skip
                            have W0 : τ51.1 0 = σ.1 0 := by first | exact w0_τ51.trans W0 | omega
                            have W3 : τ51.1 3 = σ.1 3 := by first | exact w3_τ51.trans W3 | omega
                            have W5 : τ51.1 5 = σ.1 5 := by first | exact w5_τ51.trans W5 | omega
                            have W7 : τ51.1 7 = σ.1 7 := by first | exact w7_τ51.trans W7 | omega
                            have W8 : τ51.1 8 = σ.1 8 := by first | exact w8_τ51.trans W8 | omega
                            have W9 : τ51.1 9 = σ.1 9 := by first | exact w9_τ51.trans W9 | omega
                            have W10 : τ51.1 10 = σ.1 10 := by first | exact w10_τ51.trans W10 | omega
                            have W11 : τ51.1 11 = σ.1 11 := by first | exact w11_τ51.trans W11 | omega
                            have W22 : τ51.1 22 = σ.1 22 := by first | exact w22_τ51.trans W22 | omega
                            have G6 : τ51.2.1 6 = σ.2.1 6 := (g6_τ51).trans G6
                            have G7 : τ51.2.1 7 = σ.2.1 7 := (g7_τ51).trans G7
                            have G8 : τ51.2.1 8 = σ.2.1 8 := (g8_τ51).trans G8
                            have G10 : τ51.2.1 10 = σ.2.1 10 := (g10_τ51).trans G10
                            have G11 : τ51.2.1 11 = σ.2.1 11 := (g11_τ51).trans G11
                            have G14 : τ51.2.1 14 = σ.2.1 14 := (g14_τ51).trans G14
                            have y14_22_τ51 : τ51.2.1 14 (τ51.1 22) = (τ_26.2.1 14) (τ_26.1 22) := by rw [g14_τ51, w22_τ51]
                            have Y20 : ca (τ51.2.1 12) ((τ51.1 3)) ≤ (τ51.1 4) := by rw [show (ca (τ51.2.1 12) ((τ51.1 3)) ≤ (τ51.1 4)) = (ca (τ_26.2.1 12) ((τ_26.1 3)) ≤ (τ_26.1 4)) from by rw [w3_τ51, w4_τ51, g12_τ51]]; exact Y20
                            have Y1 : j_l2 (τ51.2.1 6) (τ51.1 3) := by rw [show (j_l2 (τ51.2.1 6) (τ51.1 3)) = (j_l2 (τ_26.2.1 6) (τ_26.1 3)) from by rw [w3_τ51, g6_τ51]]; exact Y1
                            have STt : j_l2 (τ51.2.1 6) (τ51.1 3) := by rw [show (j_l2 (τ51.2.1 6) (τ51.1 3)) = (j_l2 (τ_26.2.1 6) (τ_26.1 3)) from by rw [w3_τ51, g6_τ51]]; exact STt
                            have A6 : ∀ j, (-1) ≤ τ51.2.1 6 j ∧ τ51.2.1 6 j ≤ 999 := fun j => hT.2 6 j
                            have A7 : ∀ j, (-1) ≤ τ51.2.1 7 j ∧ τ51.2.1 7 j ≤ 1499 := fun j => hT.2 7 j
                            have A8 : ∀ j, 0 ≤ τ51.2.1 8 j ∧ τ51.2.1 8 j ≤ 1 := fun j => hT.2 8 j
                            have A10 : ∀ j, (-1) ≤ τ51.2.1 10 j ∧ τ51.2.1 10 j ≤ 999 := fun j => hT.2 10 j
                            have A11 : ∀ j, (-1) ≤ τ51.2.1 11 j ∧ τ51.2.1 11 j ≤ 1499 := fun j => hT.2 11 j
                            have A12 : ∀ j, 0 ≤ τ51.2.1 12 j ∧ τ51.2.1 12 j ≤ 1 := fun j => hT.2 12 j
                            have A14 : ∀ j, 0 ≤ τ51.2.1 14 j ∧ τ51.2.1 14 j ≤ 30000 := fun j => hT.2 14 j
                            have A15 : ∀ j, 0 ≤ τ51.2.1 15 j ∧ τ51.2.1 15 j ≤ 300 := fun j => hT.2 15 j
                            have A16 : ∀ j, 0 ≤ τ51.2.1 16 j ∧ τ51.2.1 16 j ≤ 999 := fun j => hT.2 16 j
                            have A17 : ∀ j, (-1) ≤ τ51.2.1 17 j ∧ τ51.2.1 17 j ≤ 1499 := fun j => hT.2 17 j
                            have v0 : 0 ≤ τ51.1 0 ∧ τ51.1 0 ≤ 60000 := hT.1 0
                            have v3 : 0 ≤ τ51.1 3 ∧ τ51.1 3 ≤ 1000 := hT.1 3
                            have v4 : 0 ≤ τ51.1 4 ∧ τ51.1 4 ≤ 100 := hT.1 4
                            have v5 : 0 ≤ τ51.1 5 ∧ τ51.1 5 ≤ 1500 := hT.1 5
                            have v6 : 0 ≤ τ51.1 6 ∧ τ51.1 6 ≤ 30000 := hT.1 6
                            have v7 : 0 ≤ τ51.1 7 ∧ τ51.1 7 ≤ 90000 := hT.1 7
                            have v8 : 0 ≤ τ51.1 8 ∧ τ51.1 8 ≤ 20000 := hT.1 8
                            have v9 : 0 ≤ τ51.1 9 ∧ τ51.1 9 ≤ 20000 := hT.1 9
                            have v10 : (-1) ≤ τ51.1 10 ∧ τ51.1 10 ≤ 999 := hT.1 10
                            have v11 : (-1) ≤ τ51.1 11 ∧ τ51.1 11 ≤ 999 := hT.1 11
                            have v16 : 0 ≤ τ51.1 16 ∧ τ51.1 16 ≤ 60000 := hT.1 16
                            have v17 : 0 ≤ τ51.1 17 ∧ τ51.1 17 ≤ 60000 := hT.1 17
                            have v18 : 0 ≤ τ51.1 18 ∧ τ51.1 18 ≤ 60000 := hT.1 18
                            have v19 : (-1) ≤ τ51.1 19 ∧ τ51.1 19 ≤ 125 := hT.1 19
                            have v20 : 0 ≤ τ51.1 20 ∧ τ51.1 20 ≤ 19 := hT.1 20
                            have v22 : 0 ≤ τ51.1 22 ∧ τ51.1 22 ≤ 1499 := hT.1 22
                            have a14_22 : 0 ≤ τ51.2.1 14 (τ51.1 22) ∧ τ51.2.1 14 (τ51.1 22) ≤ 30000 := hT.2 14 _
                            have a15_22 : 0 ≤ τ51.2.1 15 (τ51.1 22) ∧ τ51.2.1 15 (τ51.1 22) ≤ 300 := hT.2 15 _
                            have av6 : σ.1 6 ≤ τ51.1 6 := ag.1 6 (by decide)
                            have Z1 : τ51.2.1 14 (τ51.1 22) + τ51.2.1 15 (τ51.1 22) = τ51.1 6 := by omega
                            have nn2 := n_N_a nn (show τ51.2.1 16 = st (τ_26.2.1 16) (τ_26.2.1 14 (τ_26.1 22) + τ_26.2.1 15 (τ_26.1 22)) x16 from by rw [q49_4, show τ_26.2.1 14 (τ_26.1 22) + τ_26.2.1 15 (τ_26.1 22) = τ_26.1 6 from by omega]) (show τ51.2.1 17 = st (τ_26.2.1 17) (τ_26.2.1 14 (τ_26.1 22) + τ_26.2.1 15 (τ_26.1 22)) (-1) from by rw [q49_5, show τ_26.2.1 14 (τ_26.1 22) + τ_26.2.1 15 (τ_26.1 22) = τ_26.1 6 from by omega]) (x3lt (by omega)) (by first | exact Or.inl ⟨by rw [← G8, g8_τ51, ← e_x46]; assumption, rfl⟩ | exact Or.inr ⟨by rw [← G8, g8_τ51, ← e_x46]; assumption, by omega, by rw [← G11, g11_τ51, ← e_x48]⟩ | (exfalso; omega))
                            refine ⟨_, K_X13_next hT (show (τ51.1 16) ≤ (τ51.1 0) from by (first | omega | (simp only [st_s] <;> omega) | assumption | omega | fail)), ?_⟩
                            intro τ54 hn_τ54 hf_τ54 hq
                            obtain ⟨hT, q52_1, q52_2, q52_3, q52_4, q52_5⟩ := hq
                            replace q52_1 : (τ54.1 16) ≤ (τ54.1 0) := q52_1
                            replace q52_2 : (τ54.1 17) + (τ54.1 18) ≤ (τ54.1 0) := q52_2
                            replace q52_3 : (τ51.1 16) ≤ (τ54.1 16) := q52_3
                            replace q52_4 : ¬ (τ51.1 20) = 0 → (τ54.1 20) = (τ51.1 20) := q52_4
                            replace q52_5 : (τ54.1 20) = 0 → ¬ (τ54.1 19) = 0 → (τ51.1 16) < (τ54.1 16) ∧ 0 < (τ54.1 18) := q52_5
                            replace ag : m_ag σ τ54 := ag_r ag hf_τ54 rfl rfl
                            have w0_τ54 : τ54.1 0 = τ51.1 0 := hf_τ54.1 0 (by decide)
                            have w3_τ54 : τ54.1 3 = τ51.1 3 := hf_τ54.1 3 (by decide)
                            have w4_τ54 : τ54.1 4 = τ51.1 4 := hf_τ54.1 4 (by decide)
                            have w5_τ54 : τ54.1 5 = τ51.1 5 := hf_τ54.1 5 (by decide)
                            have w6_τ54 : τ54.1 6 = τ51.1 6 := hf_τ54.1 6 (by decide)
                            have w7_τ54 : τ54.1 7 = τ51.1 7 := hf_τ54.1 7 (by decide)
                            have w8_τ54 : τ54.1 8 = τ51.1 8 := hf_τ54.1 8 (by decide)
                            have w9_τ54 : τ54.1 9 = τ51.1 9 := hf_τ54.1 9 (by decide)
                            have w10_τ54 : τ54.1 10 = τ51.1 10 := hf_τ54.1 10 (by decide)
                            have w11_τ54 : τ54.1 11 = τ51.1 11 := hf_τ54.1 11 (by decide)
                            have w22_τ54 : τ54.1 22 = τ51.1 22 := hf_τ54.1 22 (by decide)
                            have g6_τ54 : τ54.2.1 6 = τ51.2.1 6 := hf_τ54.2.1 6 (by decide)
                            have g7_τ54 : τ54.2.1 7 = τ51.2.1 7 := hf_τ54.2.1 7 (by decide)
                            have g8_τ54 : τ54.2.1 8 = τ51.2.1 8 := hf_τ54.2.1 8 (by decide)
                            have g10_τ54 : τ54.2.1 10 = τ51.2.1 10 := hf_τ54.2.1 10 (by decide)
                            have g11_τ54 : τ54.2.1 11 = τ51.2.1 11 := hf_τ54.2.1 11 (by decide)
                            have g12_τ54 : τ54.2.1 12 = τ51.2.1 12 := hf_τ54.2.1 12 (by decide)
                            have g14_τ54 : τ54.2.1 14 = τ51.2.1 14 := hf_τ54.2.1 14 (by decide)
                            have g15_τ54 : τ54.2.1 15 = τ51.2.1 15 := hf_τ54.2.1 15 (by decide)
                            have g16_τ54 : τ54.2.1 16 = τ51.2.1 16 := hf_τ54.2.1 16 (by decide)
                            have g17_τ54 : τ54.2.1 17 = τ51.2.1 17 := hf_τ54.2.1 17 (by decide)
                            first | (have o6_τ54 := congrArg oc g6_τ54) | skip
                            first | (have o7_τ54 := congrArg oc g7_τ54) | skip
                            have W0 : τ54.1 0 = σ.1 0 := by first | exact w0_τ54.trans W0 | omega
                            have W3 : τ54.1 3 = σ.1 3 := by first | exact w3_τ54.trans W3 | omega
                            have W5 : τ54.1 5 = σ.1 5 := by first | exact w5_τ54.trans W5 | omega
                            have W7 : τ54.1 7 = σ.1 7 := by first | exact w7_τ54.trans W7 | omega
                            have W8 : τ54.1 8 = σ.1 8 := by first | exact w8_τ54.trans W8 | omega
                            have W9 : τ54.1 9 = σ.1 9 := by first | exact w9_τ54.trans W9 | omega
                            have W10 : τ54.1 10 = σ.1 10 := by first | exact w10_τ54.trans W10 | omega
                            have W11 : τ54.1 11 = σ.1 11 := by first | exact w11_τ54.trans W11 | omega
                            have W22 : τ54.1 22 = σ.1 22 := by first | exact w22_τ54.trans W22 | omega
                            have G6 : τ54.2.1 6 = σ.2.1 6 := (g6_τ54).trans G6
                            have G7 : τ54.2.1 7 = σ.2.1 7 := (g7_τ54).trans G7
                            have G8 : τ54.2.1 8 = σ.2.1 8 := (g8_τ54).trans G8
                            have G10 : τ54.2.1 10 = σ.2.1 10 := (g10_τ54).trans G10
                            have G11 : τ54.2.1 11 = σ.2.1 11 := (g11_τ54).trans G11
                            have G14 : τ54.2.1 14 = σ.2.1 14 := (g14_τ54).trans G14
                            have y14_22_τ54 : τ54.2.1 14 (τ54.1 22) = (τ51.2.1 14) (τ51.1 22) := by rw [g14_τ54, w22_τ54]
                            have y15_22_τ54 : τ54.2.1 15 (τ54.1 22) = (τ51.2.1 15) (τ51.1 22) := by rw [g15_τ54, w22_τ54]
                            have Z1 : τ54.2.1 14 (τ54.1 22) + τ54.2.1 15 (τ54.1 22) = (τ54.1 6) := by rw [show (τ54.2.1 14 (τ54.1 22) + τ54.2.1 15 (τ54.1 22) = (τ54.1 6)) = (τ51.2.1 14 (τ51.1 22) + τ51.2.1 15 (τ51.1 22) = (τ51.1 6)) from by rw [w6_τ54, w22_τ54, g14_τ54, g15_τ54]]; exact Z1
                            have Y20 : ca (τ54.2.1 12) ((τ54.1 3)) ≤ (τ54.1 4) := by rw [show (ca (τ54.2.1 12) ((τ54.1 3)) ≤ (τ54.1 4)) = (ca (τ51.2.1 12) ((τ51.1 3)) ≤ (τ51.1 4)) from by rw [w3_τ54, w4_τ54, g12_τ54]]; exact Y20
                            have Y1 : j_l2 (τ54.2.1 6) (τ54.1 3) := by rw [show (j_l2 (τ54.2.1 6) (τ54.1 3)) = (j_l2 (τ51.2.1 6) (τ51.1 3)) from by rw [w3_τ54, g6_τ54]]; exact Y1
                            have STt : j_l2 (τ54.2.1 6) (τ54.1 3) := by rw [show (j_l2 (τ54.2.1 6) (τ54.1 3)) = (j_l2 (τ51.2.1 6) (τ51.1 3)) from by rw [w3_τ54, g6_τ54]]; exact STt
                            have A6 : ∀ j, (-1) ≤ τ54.2.1 6 j ∧ τ54.2.1 6 j ≤ 999 := fun j => hT.2 6 j
                            have A7 : ∀ j, (-1) ≤ τ54.2.1 7 j ∧ τ54.2.1 7 j ≤ 1499 := fun j => hT.2 7 j
                            have A8 : ∀ j, 0 ≤ τ54.2.1 8 j ∧ τ54.2.1 8 j ≤ 1 := fun j => hT.2 8 j
                            have A10 : ∀ j, (-1) ≤ τ54.2.1 10 j ∧ τ54.2.1 10 j ≤ 999 := fun j => hT.2 10 j
                            have A11 : ∀ j, (-1) ≤ τ54.2.1 11 j ∧ τ54.2.1 11 j ≤ 1499 := fun j => hT.2 11 j
                            have A12 : ∀ j, 0 ≤ τ54.2.1 12 j ∧ τ54.2.1 12 j ≤ 1 := fun j => hT.2 12 j
                            have A14 : ∀ j, 0 ≤ τ54.2.1 14 j ∧ τ54.2.1 14 j ≤ 30000 := fun j => hT.2 14 j
                            have A15 : ∀ j, 0 ≤ τ54.2.1 15 j ∧ τ54.2.1 15 j ≤ 300 := fun j => hT.2 15 j
                            have A16 : ∀ j, 0 ≤ τ54.2.1 16 j ∧ τ54.2.1 16 j ≤ 999 := fun j => hT.2 16 j
                            have A17 : ∀ j, (-1) ≤ τ54.2.1 17 j ∧ τ54.2.1 17 j ≤ 1499 := fun j => hT.2 17 j
                            have v0 : 0 ≤ τ54.1 0 ∧ τ54.1 0 ≤ 60000 := hT.1 0
                            have v3 : 0 ≤ τ54.1 3 ∧ τ54.1 3 ≤ 1000 := hT.1 3
                            have v4 : 0 ≤ τ54.1 4 ∧ τ54.1 4 ≤ 100 := hT.1 4
                            have v5 : 0 ≤ τ54.1 5 ∧ τ54.1 5 ≤ 1500 := hT.1 5
                            have v6 : 0 ≤ τ54.1 6 ∧ τ54.1 6 ≤ 30000 := hT.1 6
                            have v7 : 0 ≤ τ54.1 7 ∧ τ54.1 7 ≤ 90000 := hT.1 7
                            have v8 : 0 ≤ τ54.1 8 ∧ τ54.1 8 ≤ 20000 := hT.1 8
                            have v9 : 0 ≤ τ54.1 9 ∧ τ54.1 9 ≤ 20000 := hT.1 9
                            have v10 : (-1) ≤ τ54.1 10 ∧ τ54.1 10 ≤ 999 := hT.1 10
                            have v11 : (-1) ≤ τ54.1 11 ∧ τ54.1 11 ≤ 999 := hT.1 11
                            have v16 : 0 ≤ τ54.1 16 ∧ τ54.1 16 ≤ 60000 := hT.1 16
                            have v17 : 0 ≤ τ54.1 17 ∧ τ54.1 17 ≤ 60000 := hT.1 17
                            have v18 : 0 ≤ τ54.1 18 ∧ τ54.1 18 ≤ 60000 := hT.1 18
                            have v19 : (-1) ≤ τ54.1 19 ∧ τ54.1 19 ≤ 125 := hT.1 19
                            have v20 : 0 ≤ τ54.1 20 ∧ τ54.1 20 ≤ 19 := hT.1 20
                            have v22 : 0 ≤ τ54.1 22 ∧ τ54.1 22 ≤ 1499 := hT.1 22
                            have a14_22 : 0 ≤ τ54.2.1 14 (τ54.1 22) ∧ τ54.2.1 14 (τ54.1 22) ≤ 30000 := hT.2 14 _
                            have a15_22 : 0 ≤ τ54.2.1 15 (τ54.1 22) ∧ τ54.2.1 15 (τ54.1 22) ≤ 300 := hT.2 15 _
                            have av6 : σ.1 6 ≤ τ54.1 6 := ag.1 6 (by decide)
                            have nn3 : n_N (τ54.2.1 14 (τ54.1 22)) (τ54.2.1 14 (τ54.1 22) + τ54.2.1 15 (τ54.1 22)) (σ.1 3) (σ.2.1 8) (σ.2.1 11) (τ54.2.1 12) (τ54.2.1 16) (τ54.2.1 17) := by (rw [g14_τ54, g15_τ54, g12_τ54, g16_τ54, g17_τ54, w22_τ54, g14_τ51, g12_τ51, show τ51.1 22 = τ_26.1 22 from by omega, show τ51.2.1 15 (τ_26.1 22) = τ_26.2.1 15 (τ_26.1 22) + 1 from by (have w := q49_2; rw [show τ51.1 22 = τ_26.1 22 from by omega] at w; exact w), show τ_26.2.1 14 (τ_26.1 22) + (τ_26.2.1 15 (τ_26.1 22) + 1) = τ_26.2.1 14 (τ_26.1 22) + τ_26.2.1 15 (τ_26.1 22) + 1 from by omega]; exact nn2)
                            exact ih_26 _ (show (3 * ((τ54.1 0) - (τ54.1 16)) + z_0 ((τ54.1 20)) + 1 - z_0 ((τ54.1 19)) : Int) < ((m_26 : Nat) : Int) from by (have zz0 := z_e ((τ54.1 20)); have zz1 := z_e ((τ54.1 19)); (first | omega | (simp only [st_s] <;> omega) | assumption | omega | fail))) hT ag (show τ54.1 0 = σ.1 0 from by first | exact W0 | omega) (show τ54.1 3 = σ.1 3 from by first | exact W3 | omega) (show τ54.1 5 = σ.1 5 from by first | exact W5 | omega) (show τ54.1 7 = σ.1 7 from by first | exact W7 | omega) (show τ54.1 8 = σ.1 8 from by first | exact W8 | omega) (show τ54.1 9 = σ.1 9 from by first | exact W9 | omega) (show τ54.1 10 = σ.1 10 from by first | exact W10 | omega) (show τ54.1 11 = σ.1 11 from by first | exact W11 | omega) (show τ54.1 22 = σ.1 22 from by first | exact W22 | omega) G6 G7 G8 G10 G11 G14 (show (τ54.1 16) ≤ (τ54.1 0) from by (first | omega | (simp only [st_s] <;> omega) | assumption | omega | fail)) (show (τ54.1 17) + (τ54.1 18) ≤ (τ54.1 0) from by (first | omega | (simp only [st_s] <;> omega) | assumption | omega | fail)) (show oc (τ54.2.1 6) < 4096 from by (first | omega | (simp only [st_s] <;> omega) | assumption | omega | fail)) (show oc (τ54.2.1 7) < 4096 from by (first | omega | (simp only [st_s] <;> omega) | assumption | omega | fail)) (show ¬ (σ.1 20) = 0 → (τ54.1 20) = (σ.1 20) from by (first | omega | (simp only [st_s] <;> omega) | assumption | omega | fail)) (show τ54.2.1 14 (τ54.1 22) + τ54.2.1 15 (τ54.1 22) = (τ54.1 6) from Z1) (show ca (τ54.2.1 12) ((τ54.1 3)) ≤ (τ54.1 4) from Y20) (show (τ54.1 20) = 0 → 1 ≤ τ54.2.1 15 (τ54.1 22) from by (first | omega | (simp only [st_s] <;> omega) | assumption | omega | fail)) (show (σ.1 16) ≤ (τ54.1 16) from by (first | omega | (simp only [st_s] <;> omega) | assumption | omega | fail)) (show (τ54.1 20) = 0 → n_N (τ54.2.1 14 (τ54.1 22)) (τ54.2.1 14 (τ54.1 22) + τ54.2.1 15 (τ54.1 22)) (σ.1 3) (σ.2.1 8) (σ.2.1 11) (τ54.2.1 12) (τ54.2.1 16) (τ54.2.1 17) from by (intro z; first | (exfalso; omega) | exact r57 (by omega) | (rw [g14_τ11, g15_τ11, g12_τ11, g16_τ11, g17_τ11, w22_τ11]; exact r57 (by omega)) | exact nn3)) (show n_rl σ τ54 from by (first | exact n_rl_h hf_τ3 rfl rfl | exact n_rl_t (n_rl_h hf_τ3 rfl rfl) q5_8 | exact n_rl_r (n_rl_h hf_τ3 rfl rfl) hf_τ11 rfl rfl | exact n_rl_r (n_rl_t (n_rl_h hf_τ3 rfl rfl) q5_8) hf_τ11 rfl rfl | exact n_rl_r (i26_11) hf_τ33 rfl rfl | exact n_rl_r (i26_11) hf_τ36 rfl rfl | exact n_rl_r (i26_11) hf_τ44 rfl rfl | exact n_rl_r (n_rl_r (i26_11) hf_τ51 rfl rfl) hf_τ54 rfl rfl | fail))
                          ·
                            intro x48 r_x48 e_x48
                            have b_x48 : (-1) ≤ x48 ∧ x48 ≤ 1499 := by rw [e_x48]; exact hT.2 11 _
                            refine h174 _ _ _ _ ?_
                            have nn := i26_10 (by omega)
                            refine ⟨_, K3_X13_addSymbol hT (show 0 ≤ x16 from by (first | omega | (simp only [st_s] <;> omega) | assumption | omega | fail)) (show x16 < 1000 from by (first | omega | (simp only [st_s] <;> omega) | assumption | omega | fail)) (show -1 ≤ x48 from by (first | omega | (simp only [st_s] <;> omega) | assumption | omega | fail)) (show x48 ≤ 1499 from by (first | omega | (simp only [st_s] <;> omega) | assumption | omega | fail)) (show (τ_26.1 6) < 30000 from by (first | omega | (simp only [st_s] <;> omega) | assumption | omega | fail)) (show τ_26.2.1 15 (τ_26.1 22) < 300 from by (rw [← e_x19]; omega)) (show (τ_26.1 22) = (τ_26.1 5) from by (first | omega | (simp only [st_s] <;> omega) | assumption | omega | fail)), ?_⟩
                            intro τ51 hn_τ51 hf_τ51 hq
                            obtain ⟨hT, q49_1, q49_2, q49_3, q49_4, q49_5⟩ := hq
                            replace q49_1 : (τ51.1 6) = (τ_26.1 6) + 1 := q49_1
                            replace q49_2 : τ51.2.1 15 (τ51.1 22) = τ_26.2.1 15 (τ_26.1 22) + 1 := q49_2
                            replace q49_3 : m_ag τ_26 τ51 := q49_3
                            replace q49_4 : τ51.2.1 16 = st (τ_26.2.1 16) (τ_26.1 6) x16 := q49_4
                            replace q49_5 : τ51.2.1 17 = st (τ_26.2.1 17) (τ_26.1 6) x48 := q49_5
                            replace ag : m_ag σ τ51 := ag_t ag q49_3 rfl
                            have w0_τ51 : τ51.1 0 = τ_26.1 0 := hf_τ51.1 0 (by decide)
                            have w3_τ51 : τ51.1 3 = τ_26.1 3 := hf_τ51.1 3 (by decide)
                            have w4_τ51 : τ51.1 4 = τ_26.1 4 := hf_τ51.1 4 (by decide)
                            have w5_τ51 : τ51.1 5 = τ_26.1 5 := hf_τ51.1 5 (by decide)
                            have w7_τ51 : τ51.1 7 = τ_26.1 7 := hf_τ51.1 7 (by decide)
                            have w8_τ51 : τ51.1 8 = τ_26.1 8 := hf_τ51.1 8 (by decide)
                            have w9_τ51 : τ51.1 9 = τ_26.1 9 := hf_τ51.1 9 (by decide)
                            have w10_τ51 : τ51.1 10 = τ_26.1 10 := hf_τ51.1 10 (by decide)
                            have w11_τ51 : τ51.1 11 = τ_26.1 11 := hf_τ51.1 11 (by decide)
                            have w16_τ51 : τ51.1 16 = τ_26.1 16 := hf_τ51.1 16 (by decide)
                            have w17_τ51 : τ51.1 17 = τ_26.1 17 := hf_τ51.1 17 (by decide)
                            have w18_τ51 : τ51.1 18 = τ_26.1 18 := hf_τ51.1 18 (by decide)
                            have w19_τ51 : τ51.1 19 = τ_26.1 19 := hf_τ51.1 19 (by decide)
                            have w20_τ51 : τ51.1 20 = τ_26.1 20 := hf_τ51.1 20 (by decide)
                            have w22_τ51 : τ51.1 22 = τ_26.1 22 := hf_τ51.1 22 (by decide)
                            have g6_τ51 : τ51.2.1 6 = τ_26.2.1 6 := hf_τ51.2.1 6 (by decide)
                            have g7_τ51 : τ51.2.1 7 = τ_26.2.1 7 := hf_τ51.2.1 7 (by decide)
                            have g8_τ51 : τ51.2.1 8 = τ_26.2.1 8 := hf_τ51.2.1 8 (by decide)
                            have g10_τ51 : τ51.2.1 10 = τ_26.2.1 10 := hf_τ51.2.1 10 (by decide)
                            have g11_τ51 : τ51.2.1 11 = τ_26.2.1 11 := hf_τ51.2.1 11 (by decide)
                            have g12_τ51 : τ51.2.1 12 = τ_26.2.1 12 := hf_τ51.2.1 12 (by decide)
                            have g14_τ51 : τ51.2.1 14 = τ_26.2.1 14 := hf_τ51.2.1 14 (by decide)
                            first | (have o6_τ51 := congrArg oc g6_τ51) | skip
                            first | (have o7_τ51 := congrArg oc g7_τ51) | skip
                            have W0 : τ51.1 0 = σ.1 0 := by first | exact w0_τ51.trans W0 | omega
                            have W3 : τ51.1 3 = σ.1 3 := by first | exact w3_τ51.trans W3 | omega
                            have W5 : τ51.1 5 = σ.1 5 := by first | exact w5_τ51.trans W5 | omega
                            have W7 : τ51.1 7 = σ.1 7 := by first | exact w7_τ51.trans W7 | omega
                            have W8 : τ51.1 8 = σ.1 8 := by first | exact w8_τ51.trans W8 | omega
                            have W9 : τ51.1 9 = σ.1 9 := by first | exact w9_τ51.trans W9 | omega
                            have W10 : τ51.1 10 = σ.1 10 := by first | exact w10_τ51.trans W10 | omega
                            have W11 : τ51.1 11 = σ.1 11 := by first | exact w11_τ51.trans W11 | omega
                            have W22 : τ51.1 22 = σ.1 22 := by first | exact w22_τ51.trans W22 | omega
                            have G6 : τ51.2.1 6 = σ.2.1 6 := (g6_τ51).trans G6
                            have G7 : τ51.2.1 7 = σ.2.1 7 := (g7_τ51).trans G7
                            have G8 : τ51.2.1 8 = σ.2.1 8 := (g8_τ51).trans G8
                            have G10 : τ51.2.1 10 = σ.2.1 10 := (g10_τ51).trans G10
                            have G11 : τ51.2.1 11 = σ.2.1 11 := (g11_τ51).trans G11
                            have G14 : τ51.2.1 14 = σ.2.1 14 := (g14_τ51).trans G14
                            have y14_22_τ51 : τ51.2.1 14 (τ51.1 22) = (τ_26.2.1 14) (τ_26.1 22) := by rw [g14_τ51, w22_τ51]
                            have Y20 : ca (τ51.2.1 12) ((τ51.1 3)) ≤ (τ51.1 4) := by rw [show (ca (τ51.2.1 12) ((τ51.1 3)) ≤ (τ51.1 4)) = (ca (τ_26.2.1 12) ((τ_26.1 3)) ≤ (τ_26.1 4)) from by rw [w3_τ51, w4_τ51, g12_τ51]]; exact Y20
                            have Y1 : j_l2 (τ51.2.1 6) (τ51.1 3) := by rw [show (j_l2 (τ51.2.1 6) (τ51.1 3)) = (j_l2 (τ_26.2.1 6) (τ_26.1 3)) from by rw [w3_τ51, g6_τ51]]; exact Y1
                            have STt : j_l2 (τ51.2.1 6) (τ51.1 3) := by rw [show (j_l2 (τ51.2.1 6) (τ51.1 3)) = (j_l2 (τ_26.2.1 6) (τ_26.1 3)) from by rw [w3_τ51, g6_τ51]]; exact STt
                            have A6 : ∀ j, (-1) ≤ τ51.2.1 6 j ∧ τ51.2.1 6 j ≤ 999 := fun j => hT.2 6 j
                            have A7 : ∀ j, (-1) ≤ τ51.2.1 7 j ∧ τ51.2.1 7 j ≤ 1499 := fun j => hT.2 7 j
                            have A8 : ∀ j, 0 ≤ τ51.2.1 8 j ∧ τ51.2.1 8 j ≤ 1 := fun j => hT.2 8 j
                            have A10 : ∀ j, (-1) ≤ τ51.2.1 10 j ∧ τ51.2.1 10 j ≤ 999 := fun j => hT.2 10 j
                            have A11 : ∀ j, (-1) ≤ τ51.2.1 11 j ∧ τ51.2.1 11 j ≤ 1499 := fun j => hT.2 11 j
                            have A12 : ∀ j, 0 ≤ τ51.2.1 12 j ∧ τ51.2.1 12 j ≤ 1 := fun j => hT.2 12 j
                            have A14 : ∀ j, 0 ≤ τ51.2.1 14 j ∧ τ51.2.1 14 j ≤ 30000 := fun j => hT.2 14 j
                            have A15 : ∀ j, 0 ≤ τ51.2.1 15 j ∧ τ51.2.1 15 j ≤ 300 := fun j => hT.2 15 j
                            have A16 : ∀ j, 0 ≤ τ51.2.1 16 j ∧ τ51.2.1 16 j ≤ 999 := fun j => hT.2 16 j
                            have A17 : ∀ j, (-1) ≤ τ51.2.1 17 j ∧ τ51.2.1 17 j ≤ 1499 := fun j => hT.2 17 j
                            have v0 : 0 ≤ τ51.1 0 ∧ τ51.1 0 ≤ 60000 := hT.1 0
                            have v3 : 0 ≤ τ51.1 3 ∧ τ51.1 3 ≤ 1000 := hT.1 3
                            have v4 : 0 ≤ τ51.1 4 ∧ τ51.1 4 ≤ 100 := hT.1 4
                            have v5 : 0 ≤ τ51.1 5 ∧ τ51.1 5 ≤ 1500 := hT.1 5
                            have v6 : 0 ≤ τ51.1 6 ∧ τ51.1 6 ≤ 30000 := hT.1 6
                            have v7 : 0 ≤ τ51.1 7 ∧ τ51.1 7 ≤ 90000 := hT.1 7
                            have v8 : 0 ≤ τ51.1 8 ∧ τ51.1 8 ≤ 20000 := hT.1 8
                            have v9 : 0 ≤ τ51.1 9 ∧ τ51.1 9 ≤ 20000 := hT.1 9
                            have v10 : (-1) ≤ τ51.1 10 ∧ τ51.1 10 ≤ 999 := hT.1 10
                            have v11 : (-1) ≤ τ51.1 11 ∧ τ51.1 11 ≤ 999 := hT.1 11
                            have v16 : 0 ≤ τ51.1 16 ∧ τ51.1 16 ≤ 60000 := hT.1 16
                            have v17 : 0 ≤ τ51.1 17 ∧ τ51.1 17 ≤ 60000 := hT.1 17
                            have v18 : 0 ≤ τ51.1 18 ∧ τ51.1 18 ≤ 60000 := hT.1 18
                            have v19 : (-1) ≤ τ51.1 19 ∧ τ51.1 19 ≤ 125 := hT.1 19
                            have v20 : 0 ≤ τ51.1 20 ∧ τ51.1 20 ≤ 19 := hT.1 20
                            have v22 : 0 ≤ τ51.1 22 ∧ τ51.1 22 ≤ 1499 := hT.1 22
                            have a14_22 : 0 ≤ τ51.2.1 14 (τ51.1 22) ∧ τ51.2.1 14 (τ51.1 22) ≤ 30000 := hT.2 14 _
                            have a15_22 : 0 ≤ τ51.2.1 15 (τ51.1 22) ∧ τ51.2.1 15 (τ51.1 22) ≤ 300 := hT.2 15 _
                            have av6 : σ.1 6 ≤ τ51.1 6 := ag.1 6 (by decide)
                            have Z1 : τ51.2.1 14 (τ51.1 22) + τ51.2.1 15 (τ51.1 22) = τ51.1 6 := by omega
                            have nn2 := n_N_a nn (show τ51.2.1 16 = st (τ_26.2.1 16) (τ_26.2.1 14 (τ_26.1 22) + τ_26.2.1 15 (τ_26.1 22)) x16 from by rw [q49_4, show τ_26.2.1 14 (τ_26.1 22) + τ_26.2.1 15 (τ_26.1 22) = τ_26.1 6 from by omega]) (show τ51.2.1 17 = st (τ_26.2.1 17) (τ_26.2.1 14 (τ_26.1 22) + τ_26.2.1 15 (τ_26.1 22)) x48 from by rw [q49_5, show τ_26.2.1 14 (τ_26.1 22) + τ_26.2.1 15 (τ_26.1 22) = τ_26.1 6 from by omega]) (x3lt (by omega)) (by first | exact Or.inl ⟨by rw [← G8, g8_τ51, ← e_x46]; assumption, rfl⟩ | exact Or.inr ⟨by rw [← G8, g8_τ51, ← e_x46]; assumption, by omega, by rw [← G11, g11_τ51, ← e_x48]⟩ | (exfalso; omega))
                            refine ⟨_, K_X13_next hT (show (τ51.1 16) ≤ (τ51.1 0) from by (first | omega | (simp only [st_s] <;> omega) | assumption | omega | fail)), ?_⟩
                            intro τ54 hn_τ54 hf_τ54 hq
                            obtain ⟨hT, q52_1, q52_2, q52_3, q52_4, q52_5⟩ := hq
                            replace q52_1 : (τ54.1 16) ≤ (τ54.1 0) := q52_1
                            replace q52_2 : (τ54.1 17) + (τ54.1 18) ≤ (τ54.1 0) := q52_2
                            replace q52_3 : (τ51.1 16) ≤ (τ54.1 16) := q52_3
                            replace q52_4 : ¬ (τ51.1 20) = 0 → (τ54.1 20) = (τ51.1 20) := q52_4
                            replace q52_5 : (τ54.1 20) = 0 → ¬ (τ54.1 19) = 0 → (τ51.1 16) < (τ54.1 16) ∧ 0 < (τ54.1 18) := q52_5
                            replace ag : m_ag σ τ54 := ag_r ag hf_τ54 rfl rfl
                            have w0_τ54 : τ54.1 0 = τ51.1 0 := hf_τ54.1 0 (by decide)
                            have w3_τ54 : τ54.1 3 = τ51.1 3 := hf_τ54.1 3 (by decide)
                            have w4_τ54 : τ54.1 4 = τ51.1 4 := hf_τ54.1 4 (by decide)
                            have w5_τ54 : τ54.1 5 = τ51.1 5 := hf_τ54.1 5 (by decide)
                            have w6_τ54 : τ54.1 6 = τ51.1 6 := hf_τ54.1 6 (by decide)
                            have w7_τ54 : τ54.1 7 = τ51.1 7 := hf_τ54.1 7 (by decide)
                            have w8_τ54 : τ54.1 8 = τ51.1 8 := hf_τ54.1 8 (by decide)
                            have w9_τ54 : τ54.1 9 = τ51.1 9 := hf_τ54.1 9 (by decide)
                            have w10_τ54 : τ54.1 10 = τ51.1 10 := hf_τ54.1 10 (by decide)
                            have w11_τ54 : τ54.1 11 = τ51.1 11 := hf_τ54.1 11 (by decide)
                            have w22_τ54 : τ54.1 22 = τ51.1 22 := hf_τ54.1 22 (by decide)
                            have g6_τ54 : τ54.2.1 6 = τ51.2.1 6 := hf_τ54.2.1 6 (by decide)
                            have g7_τ54 : τ54.2.1 7 = τ51.2.1 7 := hf_τ54.2.1 7 (by decide)
                            have g8_τ54 : τ54.2.1 8 = τ51.2.1 8 := hf_τ54.2.1 8 (by decide)
                            have g10_τ54 : τ54.2.1 10 = τ51.2.1 10 := hf_τ54.2.1 10 (by decide)
                            have g11_τ54 : τ54.2.1 11 = τ51.2.1 11 := hf_τ54.2.1 11 (by decide)
                            have g12_τ54 : τ54.2.1 12 = τ51.2.1 12 := hf_τ54.2.1 12 (by decide)
                            have g14_τ54 : τ54.2.1 14 = τ51.2.1 14 := hf_τ54.2.1 14 (by decide)
                            have g15_τ54 : τ54.2.1 15 = τ51.2.1 15 := hf_τ54.2.1 15 (by decide)
                            have g16_τ54 : τ54.2.1 16 = τ51.2.1 16 := hf_τ54.2.1 16 (by decide)
                            have g17_τ54 : τ54.2.1 17 = τ51.2.1 17 := hf_τ54.2.1 17 (by decide)
                            first | (have o6_τ54 := congrArg oc g6_τ54) | skip
                            first | (have o7_τ54 := congrArg oc g7_τ54) | skip
                            have W0 : τ54.1 0 = σ.1 0 := by first | exact w0_τ54.trans W0 | omega
                            have W3 : τ54.1 3 = σ.1 3 := by first | exact w3_τ54.trans W3 | omega
                            have W5 : τ54.1 5 = σ.1 5 := by first | exact w5_τ54.trans W5 | omega
                            have W7 : τ54.1 7 = σ.1 7 := by first | exact w7_τ54.trans W7 | omega
                            have W8 : τ54.1 8 = σ.1 8 := by first | exact w8_τ54.trans W8 | omega
                            have W9 : τ54.1 9 = σ.1 9 := by first | exact w9_τ54.trans W9 | omega
                            have W10 : τ54.1 10 = σ.1 10 := by first | exact w10_τ54.trans W10 | omega
                            have W11 : τ54.1 11 = σ.1 11 := by first | exact w11_τ54.trans W11 | omega
                            have W22 : τ54.1 22 = σ.1 22 := by first | exact w22_τ54.trans W22 | omega
                            have G6 : τ54.2.1 6 = σ.2.1 6 := (g6_τ54).trans G6
                            have G7 : τ54.2.1 7 = σ.2.1 7 := (g7_τ54).trans G7
                            have G8 : τ54.2.1 8 = σ.2.1 8 := (g8_τ54).trans G8
                            have G10 : τ54.2.1 10 = σ.2.1 10 := (g10_τ54).trans G10
                            have G11 : τ54.2.1 11 = σ.2.1 11 := (g11_τ54).trans G11
                            have G14 : τ54.2.1 14 = σ.2.1 14 := (g14_τ54).trans G14
                            have y14_22_τ54 : τ54.2.1 14 (τ54.1 22) = (τ51.2.1 14) (τ51.1 22) := by rw [g14_τ54, w22_τ54]
                            have y15_22_τ54 : τ54.2.1 15 (τ54.1 22) = (τ51.2.1 15) (τ51.1 22) := by rw [g15_τ54, w22_τ54]
                            have Z1 : τ54.2.1 14 (τ54.1 22) + τ54.2.1 15 (τ54.1 22) = (τ54.1 6) := by rw [show (τ54.2.1 14 (τ54.1 22) + τ54.2.1 15 (τ54.1 22) = (τ54.1 6)) = (τ51.2.1 14 (τ51.1 22) + τ51.2.1 15 (τ51.1 22) = (τ51.1 6)) from by rw [w6_τ54, w22_τ54, g14_τ54, g15_τ54]]; exact Z1
                            have Y20 : ca (τ54.2.1 12) ((τ54.1 3)) ≤ (τ54.1 4) := by rw [show (ca (τ54.2.1 12) ((τ54.1 3)) ≤ (τ54.1 4)) = (ca (τ51.2.1 12) ((τ51.1 3)) ≤ (τ51.1 4)) from by rw [w3_τ54, w4_τ54, g12_τ54]]; exact Y20
                            have Y1 : j_l2 (τ54.2.1 6) (τ54.1 3) := by rw [show (j_l2 (τ54.2.1 6) (τ54.1 3)) = (j_l2 (τ51.2.1 6) (τ51.1 3)) from by rw [w3_τ54, g6_τ54]]; exact Y1
                            have STt : j_l2 (τ54.2.1 6) (τ54.1 3) := by rw [show (j_l2 (τ54.2.1 6) (τ54.1 3)) = (j_l2 (τ51.2.1 6) (τ51.1 3)) from by rw [w3_τ54, g6_τ54]]; exact STt
                            have A6 : ∀ j, (-1) ≤ τ54.2.1 6 j ∧ τ54.2.1 6 j ≤ 999 := fun j => hT.2 6 j
                            have A7 : ∀ j, (-1) ≤ τ54.2.1 7 j ∧ τ54.2.1 7 j ≤ 1499 := fun j => hT.2 7 j
                            have A8 : ∀ j, 0 ≤ τ54.2.1 8 j ∧ τ54.2.1 8 j ≤ 1 := fun j => hT.2 8 j
                            have A10 : ∀ j, (-1) ≤ τ54.2.1 10 j ∧ τ54.2.1 10 j ≤ 999 := fun j => hT.2 10 j
                            have A11 : ∀ j, (-1) ≤ τ54.2.1 11 j ∧ τ54.2.1 11 j ≤ 1499 := fun j => hT.2 11 j
                            have A12 : ∀ j, 0 ≤ τ54.2.1 12 j ∧ τ54.2.1 12 j ≤ 1 := fun j => hT.2 12 j
                            have A14 : ∀ j, 0 ≤ τ54.2.1 14 j ∧ τ54.2.1 14 j ≤ 30000 := fun j => hT.2 14 j
                            have A15 : ∀ j, 0 ≤ τ54.2.1 15 j ∧ τ54.2.1 15 j ≤ 300 := fun j => hT.2 15 j
                            have A16 : ∀ j, 0 ≤ τ54.2.1 16 j ∧ τ54.2.1 16 j ≤ 999 := fun j => hT.2 16 j
                            have A17 : ∀ j, (-1) ≤ τ54.2.1 17 j ∧ τ54.2.1 17 j ≤ 1499 := fun j => hT.2 17 j
                            have v0 : 0 ≤ τ54.1 0 ∧ τ54.1 0 ≤ 60000 := hT.1 0
                            have v3 : 0 ≤ τ54.1 3 ∧ τ54.1 3 ≤ 1000 := hT.1 3
                            have v4 : 0 ≤ τ54.1 4 ∧ τ54.1 4 ≤ 100 := hT.1 4
                            have v5 : 0 ≤ τ54.1 5 ∧ τ54.1 5 ≤ 1500 := hT.1 5
                            have v6 : 0 ≤ τ54.1 6 ∧ τ54.1 6 ≤ 30000 := hT.1 6
                            have v7 : 0 ≤ τ54.1 7 ∧ τ54.1 7 ≤ 90000 := hT.1 7
                            have v8 : 0 ≤ τ54.1 8 ∧ τ54.1 8 ≤ 20000 := hT.1 8
                            have v9 : 0 ≤ τ54.1 9 ∧ τ54.1 9 ≤ 20000 := hT.1 9
                            have v10 : (-1) ≤ τ54.1 10 ∧ τ54.1 10 ≤ 999 := hT.1 10
                            have v11 : (-1) ≤ τ54.1 11 ∧ τ54.1 11 ≤ 999 := hT.1 11
                            have v16 : 0 ≤ τ54.1 16 ∧ τ54.1 16 ≤ 60000 := hT.1 16
                            have v17 : 0 ≤ τ54.1 17 ∧ τ54.1 17 ≤ 60000 := hT.1 17
                            have v18 : 0 ≤ τ54.1 18 ∧ τ54.1 18 ≤ 60000 := hT.1 18
                            have v19 : (-1) ≤ τ54.1 19 ∧ τ54.1 19 ≤ 125 := hT.1 19
                            have v20 : 0 ≤ τ54.1 20 ∧ τ54.1 20 ≤ 19 := hT.1 20
                            have v22 : 0 ≤ τ54.1 22 ∧ τ54.1 22 ≤ 1499 := hT.1 22
                            have a14_22 : 0 ≤ τ54.2.1 14 (τ54.1 22) ∧ τ54.2.1 14 (τ54.1 22) ≤ 30000 := hT.2 14 _
                            have a15_22 : 0 ≤ τ54.2.1 15 (τ54.1 22) ∧ τ54.2.1 15 (τ54.1 22) ≤ 300 := hT.2 15 _
                            have av6 : σ.1 6 ≤ τ54.1 6 := ag.1 6 (by decide)
                            have nn3 : n_N (τ54.2.1 14 (τ54.1 22)) (τ54.2.1 14 (τ54.1 22) + τ54.2.1 15 (τ54.1 22)) (σ.1 3) (σ.2.1 8) (σ.2.1 11) (τ54.2.1 12) (τ54.2.1 16) (τ54.2.1 17) := by (rw [g14_τ54, g15_τ54, g12_τ54, g16_τ54, g17_τ54, w22_τ54, g14_τ51, g12_τ51, show τ51.1 22 = τ_26.1 22 from by omega, show τ51.2.1 15 (τ_26.1 22) = τ_26.2.1 15 (τ_26.1 22) + 1 from by (have w := q49_2; rw [show τ51.1 22 = τ_26.1 22 from by omega] at w; exact w), show τ_26.2.1 14 (τ_26.1 22) + (τ_26.2.1 15 (τ_26.1 22) + 1) = τ_26.2.1 14 (τ_26.1 22) + τ_26.2.1 15 (τ_26.1 22) + 1 from by omega]; exact nn2)
                            exact ih_26 _ (show (3 * ((τ54.1 0) - (τ54.1 16)) + z_0 ((τ54.1 20)) + 1 - z_0 ((τ54.1 19)) : Int) < ((m_26 : Nat) : Int) from by (have zz0 := z_e ((τ54.1 20)); have zz1 := z_e ((τ54.1 19)); (first | omega | (simp only [st_s] <;> omega) | assumption | omega | fail))) hT ag (show τ54.1 0 = σ.1 0 from by first | exact W0 | omega) (show τ54.1 3 = σ.1 3 from by first | exact W3 | omega) (show τ54.1 5 = σ.1 5 from by first | exact W5 | omega) (show τ54.1 7 = σ.1 7 from by first | exact W7 | omega) (show τ54.1 8 = σ.1 8 from by first | exact W8 | omega) (show τ54.1 9 = σ.1 9 from by first | exact W9 | omega) (show τ54.1 10 = σ.1 10 from by first | exact W10 | omega) (show τ54.1 11 = σ.1 11 from by first | exact W11 | omega) (show τ54.1 22 = σ.1 22 from by first | exact W22 | omega) G6 G7 G8 G10 G11 G14 (show (τ54.1 16) ≤ (τ54.1 0) from by (first | omega | (simp only [st_s] <;> omega) | assumption | omega | fail)) (show (τ54.1 17) + (τ54.1 18) ≤ (τ54.1 0) from by (first | omega | (simp only [st_s] <;> omega) | assumption | omega | fail)) (show oc (τ54.2.1 6) < 4096 from by (first | omega | (simp only [st_s] <;> omega) | assumption | omega | fail)) (show oc (τ54.2.1 7) < 4096 from by (first | omega | (simp only [st_s] <;> omega) | assumption | omega | fail)) (show ¬ (σ.1 20) = 0 → (τ54.1 20) = (σ.1 20) from by (first | omega | (simp only [st_s] <;> omega) | assumption | omega | fail)) (show τ54.2.1 14 (τ54.1 22) + τ54.2.1 15 (τ54.1 22) = (τ54.1 6) from Z1) (show ca (τ54.2.1 12) ((τ54.1 3)) ≤ (τ54.1 4) from Y20) (show (τ54.1 20) = 0 → 1 ≤ τ54.2.1 15 (τ54.1 22) from by (first | omega | (simp only [st_s] <;> omega) | assumption | omega | fail)) (show (σ.1 16) ≤ (τ54.1 16) from by (first | omega | (simp only [st_s] <;> omega) | assumption | omega | fail)) (show (τ54.1 20) = 0 → n_N (τ54.2.1 14 (τ54.1 22)) (τ54.2.1 14 (τ54.1 22) + τ54.2.1 15 (τ54.1 22)) (σ.1 3) (σ.2.1 8) (σ.2.1 11) (τ54.2.1 12) (τ54.2.1 16) (τ54.2.1 17) from by (intro z; first | (exfalso; omega) | exact r57 (by omega) | (rw [g14_τ11, g15_τ11, g12_τ11, g16_τ11, g17_τ11, w22_τ11]; exact r57 (by omega)) | exact nn3)) (show n_rl σ τ54 from by (first | exact n_rl_h hf_τ3 rfl rfl | exact n_rl_t (n_rl_h hf_τ3 rfl rfl) q5_8 | exact n_rl_r (n_rl_h hf_τ3 rfl rfl) hf_τ11 rfl rfl | exact n_rl_r (n_rl_t (n_rl_h hf_τ3 rfl rfl) q5_8) hf_τ11 rfl rfl | exact n_rl_r (i26_11) hf_τ33 rfl rfl | exact n_rl_r (i26_11) hf_τ36 rfl rfl | exact n_rl_r (i26_11) hf_τ44 rfl rfl | exact n_rl_r (n_rl_r (i26_11) hf_τ51 rfl rfl) hf_τ54 rfl rfl | fail))
                        ·
                          refine ⟨_, K_X13_failHere hT (show 0 ≤ (11 : Int) from by (first | omega | (simp only [st_s] <;> omega) | assumption | omega | fail)) (show (11 : Int) ≤ 19 from by (first | omega | (simp only [st_s] <;> omega) | assumption | omega | fail)), ?_⟩
                          intro τ44 hn_τ44 hf_τ44 hq
                          obtain ⟨hT, q42_1, q42_2⟩ := hq
                          replace q42_1 : ¬ (τ_26.1 20) = 0 → (τ44.1 20) = (τ_26.1 20) := q42_1
                          replace q42_2 : (τ_26.1 20) = 0 → (τ44.1 20) = (11 : Int) := q42_2
                          replace ag : m_ag σ τ44 := ag_r ag hf_τ44 rfl rfl
                          have w0_τ44 : τ44.1 0 = τ_26.1 0 := hf_τ44.1 0 (by decide)
                          have w3_τ44 : τ44.1 3 = τ_26.1 3 := hf_τ44.1 3 (by decide)
                          have w4_τ44 : τ44.1 4 = τ_26.1 4 := hf_τ44.1 4 (by decide)
                          have w5_τ44 : τ44.1 5 = τ_26.1 5 := hf_τ44.1 5 (by decide)
                          have w6_τ44 : τ44.1 6 = τ_26.1 6 := hf_τ44.1 6 (by decide)
                          have w7_τ44 : τ44.1 7 = τ_26.1 7 := hf_τ44.1 7 (by decide)
                          have w8_τ44 : τ44.1 8 = τ_26.1 8 := hf_τ44.1 8 (by decide)
                          have w9_τ44 : τ44.1 9 = τ_26.1 9 := hf_τ44.1 9 (by decide)
                          have w10_τ44 : τ44.1 10 = τ_26.1 10 := hf_τ44.1 10 (by decide)
                          have w11_τ44 : τ44.1 11 = τ_26.1 11 := hf_τ44.1 11 (by decide)
                          have w16_τ44 : τ44.1 16 = τ_26.1 16 := hf_τ44.1 16 (by decide)
                          have w17_τ44 : τ44.1 17 = τ_26.1 17 := hf_τ44.1 17 (by decide)
                          have w18_τ44 : τ44.1 18 = τ_26.1 18 := hf_τ44.1 18 (by decide)
                          have w19_τ44 : τ44.1 19 = τ_26.1 19 := hf_τ44.1 19 (by decide)
                          have w22_τ44 : τ44.1 22 = τ_26.1 22 := hf_τ44.1 22 (by decide)
                          have g6_τ44 : τ44.2.1 6 = τ_26.2.1 6 := hf_τ44.2.1 6 (by decide)
                          have g7_τ44 : τ44.2.1 7 = τ_26.2.1 7 := hf_τ44.2.1 7 (by decide)
                          have g8_τ44 : τ44.2.1 8 = τ_26.2.1 8 := hf_τ44.2.1 8 (by decide)
                          have g10_τ44 : τ44.2.1 10 = τ_26.2.1 10 := hf_τ44.2.1 10 (by decide)
                          have g11_τ44 : τ44.2.1 11 = τ_26.2.1 11 := hf_τ44.2.1 11 (by decide)
                          have g12_τ44 : τ44.2.1 12 = τ_26.2.1 12 := hf_τ44.2.1 12 (by decide)
                          have g14_τ44 : τ44.2.1 14 = τ_26.2.1 14 := hf_τ44.2.1 14 (by decide)
                          have g15_τ44 : τ44.2.1 15 = τ_26.2.1 15 := hf_τ44.2.1 15 (by decide)
                          have g16_τ44 : τ44.2.1 16 = τ_26.2.1 16 := hf_τ44.2.1 16 (by decide)
                          have g17_τ44 : τ44.2.1 17 = τ_26.2.1 17 := hf_τ44.2.1 17 (by decide)
                          first | (have o6_τ44 := congrArg oc g6_τ44) | skip
                          first | (have o7_τ44 := congrArg oc g7_τ44) | skip
                          have W0 : τ44.1 0 = σ.1 0 := by first | exact w0_τ44.trans W0 | omega
                          have W3 : τ44.1 3 = σ.1 3 := by first | exact w3_τ44.trans W3 | omega
                          have W5 : τ44.1 5 = σ.1 5 := by first | exact w5_τ44.trans W5 | omega
                          have W7 : τ44.1 7 = σ.1 7 := by first | exact w7_τ44.trans W7 | omega
                          have W8 : τ44.1 8 = σ.1 8 := by first | exact w8_τ44.trans W8 | omega
                          have W9 : τ44.1 9 = σ.1 9 := by first | exact w9_τ44.trans W9 | omega
                          have W10 : τ44.1 10 = σ.1 10 := by first | exact w10_τ44.trans W10 | omega
                          have W11 : τ44.1 11 = σ.1 11 := by first | exact w11_τ44.trans W11 | omega
                          have W22 : τ44.1 22 = σ.1 22 := by first | exact w22_τ44.trans W22 | omega
                          have G6 : τ44.2.1 6 = σ.2.1 6 := (g6_τ44).trans G6
                          have G7 : τ44.2.1 7 = σ.2.1 7 := (g7_τ44).trans G7
                          have G8 : τ44.2.1 8 = σ.2.1 8 := (g8_τ44).trans G8
                          have G10 : τ44.2.1 10 = σ.2.1 10 := (g10_τ44).trans G10
                          have G11 : τ44.2.1 11 = σ.2.1 11 := (g11_τ44).trans G11
                          have G14 : τ44.2.1 14 = σ.2.1 14 := (g14_τ44).trans G14
                          have y14_22_τ44 : τ44.2.1 14 (τ44.1 22) = (τ_26.2.1 14) (τ_26.1 22) := by rw [g14_τ44, w22_τ44]
                          have y15_22_τ44 : τ44.2.1 15 (τ44.1 22) = (τ_26.2.1 15) (τ_26.1 22) := by rw [g15_τ44, w22_τ44]
                          have Z1 : τ44.2.1 14 (τ44.1 22) + τ44.2.1 15 (τ44.1 22) = (τ44.1 6) := by rw [show (τ44.2.1 14 (τ44.1 22) + τ44.2.1 15 (τ44.1 22) = (τ44.1 6)) = (τ_26.2.1 14 (τ_26.1 22) + τ_26.2.1 15 (τ_26.1 22) = (τ_26.1 6)) from by rw [w6_τ44, w22_τ44, g14_τ44, g15_τ44]]; exact Z1
                          have Y20 : ca (τ44.2.1 12) ((τ44.1 3)) ≤ (τ44.1 4) := by rw [show (ca (τ44.2.1 12) ((τ44.1 3)) ≤ (τ44.1 4)) = (ca (τ_26.2.1 12) ((τ_26.1 3)) ≤ (τ_26.1 4)) from by rw [w3_τ44, w4_τ44, g12_τ44]]; exact Y20
                          have Y1 : j_l2 (τ44.2.1 6) (τ44.1 3) := by rw [show (j_l2 (τ44.2.1 6) (τ44.1 3)) = (j_l2 (τ_26.2.1 6) (τ_26.1 3)) from by rw [w3_τ44, g6_τ44]]; exact Y1
                          have STt : j_l2 (τ44.2.1 6) (τ44.1 3) := by rw [show (j_l2 (τ44.2.1 6) (τ44.1 3)) = (j_l2 (τ_26.2.1 6) (τ_26.1 3)) from by rw [w3_τ44, g6_τ44]]; exact STt
                          have A6 : ∀ j, (-1) ≤ τ44.2.1 6 j ∧ τ44.2.1 6 j ≤ 999 := fun j => hT.2 6 j
                          have A7 : ∀ j, (-1) ≤ τ44.2.1 7 j ∧ τ44.2.1 7 j ≤ 1499 := fun j => hT.2 7 j
                          have A8 : ∀ j, 0 ≤ τ44.2.1 8 j ∧ τ44.2.1 8 j ≤ 1 := fun j => hT.2 8 j
                          have A10 : ∀ j, (-1) ≤ τ44.2.1 10 j ∧ τ44.2.1 10 j ≤ 999 := fun j => hT.2 10 j
                          have A11 : ∀ j, (-1) ≤ τ44.2.1 11 j ∧ τ44.2.1 11 j ≤ 1499 := fun j => hT.2 11 j
                          have A12 : ∀ j, 0 ≤ τ44.2.1 12 j ∧ τ44.2.1 12 j ≤ 1 := fun j => hT.2 12 j
                          have A14 : ∀ j, 0 ≤ τ44.2.1 14 j ∧ τ44.2.1 14 j ≤ 30000 := fun j => hT.2 14 j
                          have A15 : ∀ j, 0 ≤ τ44.2.1 15 j ∧ τ44.2.1 15 j ≤ 300 := fun j => hT.2 15 j
                          have A16 : ∀ j, 0 ≤ τ44.2.1 16 j ∧ τ44.2.1 16 j ≤ 999 := fun j => hT.2 16 j
                          have A17 : ∀ j, (-1) ≤ τ44.2.1 17 j ∧ τ44.2.1 17 j ≤ 1499 := fun j => hT.2 17 j
                          have v0 : 0 ≤ τ44.1 0 ∧ τ44.1 0 ≤ 60000 := hT.1 0
                          have v3 : 0 ≤ τ44.1 3 ∧ τ44.1 3 ≤ 1000 := hT.1 3
                          have v4 : 0 ≤ τ44.1 4 ∧ τ44.1 4 ≤ 100 := hT.1 4
                          have v5 : 0 ≤ τ44.1 5 ∧ τ44.1 5 ≤ 1500 := hT.1 5
                          have v6 : 0 ≤ τ44.1 6 ∧ τ44.1 6 ≤ 30000 := hT.1 6
                          have v7 : 0 ≤ τ44.1 7 ∧ τ44.1 7 ≤ 90000 := hT.1 7
                          have v8 : 0 ≤ τ44.1 8 ∧ τ44.1 8 ≤ 20000 := hT.1 8
                          have v9 : 0 ≤ τ44.1 9 ∧ τ44.1 9 ≤ 20000 := hT.1 9
                          have v10 : (-1) ≤ τ44.1 10 ∧ τ44.1 10 ≤ 999 := hT.1 10
                          have v11 : (-1) ≤ τ44.1 11 ∧ τ44.1 11 ≤ 999 := hT.1 11
                          have v16 : 0 ≤ τ44.1 16 ∧ τ44.1 16 ≤ 60000 := hT.1 16
                          have v17 : 0 ≤ τ44.1 17 ∧ τ44.1 17 ≤ 60000 := hT.1 17
                          have v18 : 0 ≤ τ44.1 18 ∧ τ44.1 18 ≤ 60000 := hT.1 18
                          have v19 : (-1) ≤ τ44.1 19 ∧ τ44.1 19 ≤ 125 := hT.1 19
                          have v20 : 0 ≤ τ44.1 20 ∧ τ44.1 20 ≤ 19 := hT.1 20
                          have v22 : 0 ≤ τ44.1 22 ∧ τ44.1 22 ≤ 1499 := hT.1 22
                          have a14_22 : 0 ≤ τ44.2.1 14 (τ44.1 22) ∧ τ44.2.1 14 (τ44.1 22) ≤ 30000 := hT.2 14 _
                          have a15_22 : 0 ≤ τ44.2.1 15 (τ44.1 22) ∧ τ44.2.1 15 (τ44.1 22) ≤ 300 := hT.2 15 _
                          have av6 : σ.1 6 ≤ τ44.1 6 := ag.1 6 (by decide)
                          exact ih_26 _ (show (3 * ((τ44.1 0) - (τ44.1 16)) + z_0 ((τ44.1 20)) + 1 - z_0 ((τ44.1 19)) : Int) < ((m_26 : Nat) : Int) from by (have zz0 := z_e ((τ44.1 20)); have zz1 := z_e ((τ44.1 19)); (first | omega | (simp only [st_s] <;> omega) | assumption | omega | fail))) hT ag (show τ44.1 0 = σ.1 0 from by first | exact W0 | omega) (show τ44.1 3 = σ.1 3 from by first | exact W3 | omega) (show τ44.1 5 = σ.1 5 from by first | exact W5 | omega) (show τ44.1 7 = σ.1 7 from by first | exact W7 | omega) (show τ44.1 8 = σ.1 8 from by first | exact W8 | omega) (show τ44.1 9 = σ.1 9 from by first | exact W9 | omega) (show τ44.1 10 = σ.1 10 from by first | exact W10 | omega) (show τ44.1 11 = σ.1 11 from by first | exact W11 | omega) (show τ44.1 22 = σ.1 22 from by first | exact W22 | omega) G6 G7 G8 G10 G11 G14 (show (τ44.1 16) ≤ (τ44.1 0) from by (first | omega | (simp only [st_s] <;> omega) | assumption | omega | fail)) (show (τ44.1 17) + (τ44.1 18) ≤ (τ44.1 0) from by (first | omega | (simp only [st_s] <;> omega) | assumption | omega | fail)) (show oc (τ44.2.1 6) < 4096 from by (first | omega | (simp only [st_s] <;> omega) | assumption | omega | fail)) (show oc (τ44.2.1 7) < 4096 from by (first | omega | (simp only [st_s] <;> omega) | assumption | omega | fail)) (show ¬ (σ.1 20) = 0 → (τ44.1 20) = (σ.1 20) from by (first | omega | (simp only [st_s] <;> omega) | assumption | omega | fail)) (show τ44.2.1 14 (τ44.1 22) + τ44.2.1 15 (τ44.1 22) = (τ44.1 6) from Z1) (show ca (τ44.2.1 12) ((τ44.1 3)) ≤ (τ44.1 4) from Y20) (show (τ44.1 20) = 0 → 1 ≤ τ44.2.1 15 (τ44.1 22) from by (first | omega | (simp only [st_s] <;> omega) | assumption | omega | fail)) (show (σ.1 16) ≤ (τ44.1 16) from by (first | omega | (simp only [st_s] <;> omega) | assumption | omega | fail)) (show (τ44.1 20) = 0 → n_N (τ44.2.1 14 (τ44.1 22)) (τ44.2.1 14 (τ44.1 22) + τ44.2.1 15 (τ44.1 22)) (σ.1 3) (σ.2.1 8) (σ.2.1 11) (τ44.2.1 12) (τ44.2.1 16) (τ44.2.1 17) from by (intro z; first | (exfalso; omega) | exact r57 (by omega) | (rw [g14_τ11, g15_τ11, g12_τ11, g16_τ11, g17_τ11, w22_τ11]; exact r57 (by omega)) | exact nn3)) (show n_rl σ τ44 from by (first | exact n_rl_h hf_τ3 rfl rfl | exact n_rl_t (n_rl_h hf_τ3 rfl rfl) q5_8 | exact n_rl_r (n_rl_h hf_τ3 rfl rfl) hf_τ11 rfl rfl | exact n_rl_r (n_rl_t (n_rl_h hf_τ3 rfl rfl) q5_8) hf_τ11 rfl rfl | exact n_rl_r (i26_11) hf_τ33 rfl rfl | exact n_rl_r (i26_11) hf_τ36 rfl rfl | exact n_rl_r (i26_11) hf_τ44 rfl rfl | exact n_rl_r (n_rl_r (i26_11) hf_τ51 rfl rfl) hf_τ54 rfl rfl | fail))
                    ·
                      refine h116 _ _ ?_
                      refine ⟨_, K_X13_failHere hT (show 0 ≤ (9 : Int) from by (first | omega | (simp only [st_s] <;> omega) | assumption | omega | fail)) (show (9 : Int) ≤ 19 from by (first | omega | (simp only [st_s] <;> omega) | assumption | omega | fail)), ?_⟩
                      intro τ36 hn_τ36 hf_τ36 hq
                      obtain ⟨hT, q34_1, q34_2⟩ := hq
                      replace q34_1 : ¬ (τ_26.1 20) = 0 → (τ36.1 20) = (τ_26.1 20) := q34_1
                      replace q34_2 : (τ_26.1 20) = 0 → (τ36.1 20) = (9 : Int) := q34_2
                      replace ag : m_ag σ τ36 := ag_r ag hf_τ36 rfl rfl
                      have w0_τ36 : τ36.1 0 = τ_26.1 0 := hf_τ36.1 0 (by decide)
                      have w3_τ36 : τ36.1 3 = τ_26.1 3 := hf_τ36.1 3 (by decide)
                      have w4_τ36 : τ36.1 4 = τ_26.1 4 := hf_τ36.1 4 (by decide)
                      have w5_τ36 : τ36.1 5 = τ_26.1 5 := hf_τ36.1 5 (by decide)
                      have w6_τ36 : τ36.1 6 = τ_26.1 6 := hf_τ36.1 6 (by decide)
                      have w7_τ36 : τ36.1 7 = τ_26.1 7 := hf_τ36.1 7 (by decide)
                      have w8_τ36 : τ36.1 8 = τ_26.1 8 := hf_τ36.1 8 (by decide)
                      have w9_τ36 : τ36.1 9 = τ_26.1 9 := hf_τ36.1 9 (by decide)
                      have w10_τ36 : τ36.1 10 = τ_26.1 10 := hf_τ36.1 10 (by decide)
                      have w11_τ36 : τ36.1 11 = τ_26.1 11 := hf_τ36.1 11 (by decide)
                      have w16_τ36 : τ36.1 16 = τ_26.1 16 := hf_τ36.1 16 (by decide)
                      have w17_τ36 : τ36.1 17 = τ_26.1 17 := hf_τ36.1 17 (by decide)
                      have w18_τ36 : τ36.1 18 = τ_26.1 18 := hf_τ36.1 18 (by decide)
                      have w19_τ36 : τ36.1 19 = τ_26.1 19 := hf_τ36.1 19 (by decide)
                      have w22_τ36 : τ36.1 22 = τ_26.1 22 := hf_τ36.1 22 (by decide)
                      have g6_τ36 : τ36.2.1 6 = τ_26.2.1 6 := hf_τ36.2.1 6 (by decide)
                      have g7_τ36 : τ36.2.1 7 = τ_26.2.1 7 := hf_τ36.2.1 7 (by decide)
                      have g8_τ36 : τ36.2.1 8 = τ_26.2.1 8 := hf_τ36.2.1 8 (by decide)
                      have g10_τ36 : τ36.2.1 10 = τ_26.2.1 10 := hf_τ36.2.1 10 (by decide)
                      have g11_τ36 : τ36.2.1 11 = τ_26.2.1 11 := hf_τ36.2.1 11 (by decide)
                      have g12_τ36 : τ36.2.1 12 = τ_26.2.1 12 := hf_τ36.2.1 12 (by decide)
                      have g14_τ36 : τ36.2.1 14 = τ_26.2.1 14 := hf_τ36.2.1 14 (by decide)
                      have g15_τ36 : τ36.2.1 15 = τ_26.2.1 15 := hf_τ36.2.1 15 (by decide)
                      have g16_τ36 : τ36.2.1 16 = τ_26.2.1 16 := hf_τ36.2.1 16 (by decide)
                      have g17_τ36 : τ36.2.1 17 = τ_26.2.1 17 := hf_τ36.2.1 17 (by decide)
                      first | (have o6_τ36 := congrArg oc g6_τ36) | skip
                      first | (have o7_τ36 := congrArg oc g7_τ36) | skip
                      have W0 : τ36.1 0 = σ.1 0 := by first | exact w0_τ36.trans W0 | omega
                      have W3 : τ36.1 3 = σ.1 3 := by first | exact w3_τ36.trans W3 | omega
                      have W5 : τ36.1 5 = σ.1 5 := by first | exact w5_τ36.trans W5 | omega
                      have W7 : τ36.1 7 = σ.1 7 := by first | exact w7_τ36.trans W7 | omega
                      have W8 : τ36.1 8 = σ.1 8 := by first | exact w8_τ36.trans W8 | omega
                      have W9 : τ36.1 9 = σ.1 9 := by first | exact w9_τ36.trans W9 | omega
                      have W10 : τ36.1 10 = σ.1 10 := by first | exact w10_τ36.trans W10 | omega
                      have W11 : τ36.1 11 = σ.1 11 := by first | exact w11_τ36.trans W11 | omega
                      have W22 : τ36.1 22 = σ.1 22 := by first | exact w22_τ36.trans W22 | omega
                      have G6 : τ36.2.1 6 = σ.2.1 6 := (g6_τ36).trans G6
                      have G7 : τ36.2.1 7 = σ.2.1 7 := (g7_τ36).trans G7
                      have G8 : τ36.2.1 8 = σ.2.1 8 := (g8_τ36).trans G8
                      have G10 : τ36.2.1 10 = σ.2.1 10 := (g10_τ36).trans G10
                      have G11 : τ36.2.1 11 = σ.2.1 11 := (g11_τ36).trans G11
                      have G14 : τ36.2.1 14 = σ.2.1 14 := (g14_τ36).trans G14
                      have y14_22_τ36 : τ36.2.1 14 (τ36.1 22) = (τ_26.2.1 14) (τ_26.1 22) := by rw [g14_τ36, w22_τ36]
                      have y15_22_τ36 : τ36.2.1 15 (τ36.1 22) = (τ_26.2.1 15) (τ_26.1 22) := by rw [g15_τ36, w22_τ36]
                      have Z1 : τ36.2.1 14 (τ36.1 22) + τ36.2.1 15 (τ36.1 22) = (τ36.1 6) := by rw [show (τ36.2.1 14 (τ36.1 22) + τ36.2.1 15 (τ36.1 22) = (τ36.1 6)) = (τ_26.2.1 14 (τ_26.1 22) + τ_26.2.1 15 (τ_26.1 22) = (τ_26.1 6)) from by rw [w6_τ36, w22_τ36, g14_τ36, g15_τ36]]; exact Z1
                      have Y20 : ca (τ36.2.1 12) ((τ36.1 3)) ≤ (τ36.1 4) := by rw [show (ca (τ36.2.1 12) ((τ36.1 3)) ≤ (τ36.1 4)) = (ca (τ_26.2.1 12) ((τ_26.1 3)) ≤ (τ_26.1 4)) from by rw [w3_τ36, w4_τ36, g12_τ36]]; exact Y20
                      have Y1 : j_l2 (τ36.2.1 6) (τ36.1 3) := by rw [show (j_l2 (τ36.2.1 6) (τ36.1 3)) = (j_l2 (τ_26.2.1 6) (τ_26.1 3)) from by rw [w3_τ36, g6_τ36]]; exact Y1
                      have STt : j_l2 (τ36.2.1 6) (τ36.1 3) := by rw [show (j_l2 (τ36.2.1 6) (τ36.1 3)) = (j_l2 (τ_26.2.1 6) (τ_26.1 3)) from by rw [w3_τ36, g6_τ36]]; exact STt
                      have A6 : ∀ j, (-1) ≤ τ36.2.1 6 j ∧ τ36.2.1 6 j ≤ 999 := fun j => hT.2 6 j
                      have A7 : ∀ j, (-1) ≤ τ36.2.1 7 j ∧ τ36.2.1 7 j ≤ 1499 := fun j => hT.2 7 j
                      have A8 : ∀ j, 0 ≤ τ36.2.1 8 j ∧ τ36.2.1 8 j ≤ 1 := fun j => hT.2 8 j
                      have A10 : ∀ j, (-1) ≤ τ36.2.1 10 j ∧ τ36.2.1 10 j ≤ 999 := fun j => hT.2 10 j
                      have A11 : ∀ j, (-1) ≤ τ36.2.1 11 j ∧ τ36.2.1 11 j ≤ 1499 := fun j => hT.2 11 j
                      have A12 : ∀ j, 0 ≤ τ36.2.1 12 j ∧ τ36.2.1 12 j ≤ 1 := fun j => hT.2 12 j
                      have A14 : ∀ j, 0 ≤ τ36.2.1 14 j ∧ τ36.2.1 14 j ≤ 30000 := fun j => hT.2 14 j
                      have A15 : ∀ j, 0 ≤ τ36.2.1 15 j ∧ τ36.2.1 15 j ≤ 300 := fun j => hT.2 15 j
                      have A16 : ∀ j, 0 ≤ τ36.2.1 16 j ∧ τ36.2.1 16 j ≤ 999 := fun j => hT.2 16 j
                      have A17 : ∀ j, (-1) ≤ τ36.2.1 17 j ∧ τ36.2.1 17 j ≤ 1499 := fun j => hT.2 17 j
                      have v0 : 0 ≤ τ36.1 0 ∧ τ36.1 0 ≤ 60000 := hT.1 0
                      have v3 : 0 ≤ τ36.1 3 ∧ τ36.1 3 ≤ 1000 := hT.1 3
                      have v4 : 0 ≤ τ36.1 4 ∧ τ36.1 4 ≤ 100 := hT.1 4
                      have v5 : 0 ≤ τ36.1 5 ∧ τ36.1 5 ≤ 1500 := hT.1 5
                      have v6 : 0 ≤ τ36.1 6 ∧ τ36.1 6 ≤ 30000 := hT.1 6
                      have v7 : 0 ≤ τ36.1 7 ∧ τ36.1 7 ≤ 90000 := hT.1 7
                      have v8 : 0 ≤ τ36.1 8 ∧ τ36.1 8 ≤ 20000 := hT.1 8
                      have v9 : 0 ≤ τ36.1 9 ∧ τ36.1 9 ≤ 20000 := hT.1 9
                      have v10 : (-1) ≤ τ36.1 10 ∧ τ36.1 10 ≤ 999 := hT.1 10
                      have v11 : (-1) ≤ τ36.1 11 ∧ τ36.1 11 ≤ 999 := hT.1 11
                      have v16 : 0 ≤ τ36.1 16 ∧ τ36.1 16 ≤ 60000 := hT.1 16
                      have v17 : 0 ≤ τ36.1 17 ∧ τ36.1 17 ≤ 60000 := hT.1 17
                      have v18 : 0 ≤ τ36.1 18 ∧ τ36.1 18 ≤ 60000 := hT.1 18
                      have v19 : (-1) ≤ τ36.1 19 ∧ τ36.1 19 ≤ 125 := hT.1 19
                      have v20 : 0 ≤ τ36.1 20 ∧ τ36.1 20 ≤ 19 := hT.1 20
                      have v22 : 0 ≤ τ36.1 22 ∧ τ36.1 22 ≤ 1499 := hT.1 22
                      have a14_22 : 0 ≤ τ36.2.1 14 (τ36.1 22) ∧ τ36.2.1 14 (τ36.1 22) ≤ 30000 := hT.2 14 _
                      have a15_22 : 0 ≤ τ36.2.1 15 (τ36.1 22) ∧ τ36.2.1 15 (τ36.1 22) ≤ 300 := hT.2 15 _
                      have av6 : σ.1 6 ≤ τ36.1 6 := ag.1 6 (by decide)
                      exact ih_26 _ (show (3 * ((τ36.1 0) - (τ36.1 16)) + z_0 ((τ36.1 20)) + 1 - z_0 ((τ36.1 19)) : Int) < ((m_26 : Nat) : Int) from by (have zz0 := z_e ((τ36.1 20)); have zz1 := z_e ((τ36.1 19)); (first | omega | (simp only [st_s] <;> omega) | assumption | omega | fail))) hT ag (show τ36.1 0 = σ.1 0 from by first | exact W0 | omega) (show τ36.1 3 = σ.1 3 from by first | exact W3 | omega) (show τ36.1 5 = σ.1 5 from by first | exact W5 | omega) (show τ36.1 7 = σ.1 7 from by first | exact W7 | omega) (show τ36.1 8 = σ.1 8 from by first | exact W8 | omega) (show τ36.1 9 = σ.1 9 from by first | exact W9 | omega) (show τ36.1 10 = σ.1 10 from by first | exact W10 | omega) (show τ36.1 11 = σ.1 11 from by first | exact W11 | omega) (show τ36.1 22 = σ.1 22 from by first | exact W22 | omega) G6 G7 G8 G10 G11 G14 (show (τ36.1 16) ≤ (τ36.1 0) from by (first | omega | (simp only [st_s] <;> omega) | assumption | omega | fail)) (show (τ36.1 17) + (τ36.1 18) ≤ (τ36.1 0) from by (first | omega | (simp only [st_s] <;> omega) | assumption | omega | fail)) (show oc (τ36.2.1 6) < 4096 from by (first | omega | (simp only [st_s] <;> omega) | assumption | omega | fail)) (show oc (τ36.2.1 7) < 4096 from by (first | omega | (simp only [st_s] <;> omega) | assumption | omega | fail)) (show ¬ (σ.1 20) = 0 → (τ36.1 20) = (σ.1 20) from by (first | omega | (simp only [st_s] <;> omega) | assumption | omega | fail)) (show τ36.2.1 14 (τ36.1 22) + τ36.2.1 15 (τ36.1 22) = (τ36.1 6) from Z1) (show ca (τ36.2.1 12) ((τ36.1 3)) ≤ (τ36.1 4) from Y20) (show (τ36.1 20) = 0 → 1 ≤ τ36.2.1 15 (τ36.1 22) from by (first | omega | (simp only [st_s] <;> omega) | assumption | omega | fail)) (show (σ.1 16) ≤ (τ36.1 16) from by (first | omega | (simp only [st_s] <;> omega) | assumption | omega | fail)) (show (τ36.1 20) = 0 → n_N (τ36.2.1 14 (τ36.1 22)) (τ36.2.1 14 (τ36.1 22) + τ36.2.1 15 (τ36.1 22)) (σ.1 3) (σ.2.1 8) (σ.2.1 11) (τ36.2.1 12) (τ36.2.1 16) (τ36.2.1 17) from by (intro z; first | (exfalso; omega) | exact r57 (by omega) | (rw [g14_τ11, g15_τ11, g12_τ11, g16_τ11, g17_τ11, w22_τ11]; exact r57 (by omega)) | exact nn3)) (show n_rl σ τ36 from by (first | exact n_rl_h hf_τ3 rfl rfl | exact n_rl_t (n_rl_h hf_τ3 rfl rfl) q5_8 | exact n_rl_r (n_rl_h hf_τ3 rfl rfl) hf_τ11 rfl rfl | exact n_rl_r (n_rl_t (n_rl_h hf_τ3 rfl rfl) q5_8) hf_τ11 rfl rfl | exact n_rl_r (i26_11) hf_τ33 rfl rfl | exact n_rl_r (i26_11) hf_τ36 rfl rfl | exact n_rl_r (i26_11) hf_τ44 rfl rfl | exact n_rl_r (n_rl_r (i26_11) hf_τ51 rfl rfl) hf_τ54 rfl rfl | fail))
              ·
                refine h85 _ _ ?_
                refine ⟨_, K_X13_failHere hT (show 0 ≤ (5 : Int) from by (first | omega | (simp only [st_s] <;> omega) | assumption | omega | fail)) (show (5 : Int) ≤ 19 from by (first | omega | (simp only [st_s] <;> omega) | assumption | omega | fail)), ?_⟩
                intro τ33 hn_τ33 hf_τ33 hq
                obtain ⟨hT, q31_1, q31_2⟩ := hq
                replace q31_1 : ¬ (τ_26.1 20) = 0 → (τ33.1 20) = (τ_26.1 20) := q31_1
                replace q31_2 : (τ_26.1 20) = 0 → (τ33.1 20) = (5 : Int) := q31_2
                replace ag : m_ag σ τ33 := ag_r ag hf_τ33 rfl rfl
                have w0_τ33 : τ33.1 0 = τ_26.1 0 := hf_τ33.1 0 (by decide)
                have w3_τ33 : τ33.1 3 = τ_26.1 3 := hf_τ33.1 3 (by decide)
                have w4_τ33 : τ33.1 4 = τ_26.1 4 := hf_τ33.1 4 (by decide)
                have w5_τ33 : τ33.1 5 = τ_26.1 5 := hf_τ33.1 5 (by decide)
                have w6_τ33 : τ33.1 6 = τ_26.1 6 := hf_τ33.1 6 (by decide)
                have w7_τ33 : τ33.1 7 = τ_26.1 7 := hf_τ33.1 7 (by decide)
                have w8_τ33 : τ33.1 8 = τ_26.1 8 := hf_τ33.1 8 (by decide)
                have w9_τ33 : τ33.1 9 = τ_26.1 9 := hf_τ33.1 9 (by decide)
                have w10_τ33 : τ33.1 10 = τ_26.1 10 := hf_τ33.1 10 (by decide)
                have w11_τ33 : τ33.1 11 = τ_26.1 11 := hf_τ33.1 11 (by decide)
                have w16_τ33 : τ33.1 16 = τ_26.1 16 := hf_τ33.1 16 (by decide)
                have w17_τ33 : τ33.1 17 = τ_26.1 17 := hf_τ33.1 17 (by decide)
                have w18_τ33 : τ33.1 18 = τ_26.1 18 := hf_τ33.1 18 (by decide)
                have w19_τ33 : τ33.1 19 = τ_26.1 19 := hf_τ33.1 19 (by decide)
                have w22_τ33 : τ33.1 22 = τ_26.1 22 := hf_τ33.1 22 (by decide)
                have g6_τ33 : τ33.2.1 6 = τ_26.2.1 6 := hf_τ33.2.1 6 (by decide)
                have g7_τ33 : τ33.2.1 7 = τ_26.2.1 7 := hf_τ33.2.1 7 (by decide)
                have g8_τ33 : τ33.2.1 8 = τ_26.2.1 8 := hf_τ33.2.1 8 (by decide)
                have g10_τ33 : τ33.2.1 10 = τ_26.2.1 10 := hf_τ33.2.1 10 (by decide)
                have g11_τ33 : τ33.2.1 11 = τ_26.2.1 11 := hf_τ33.2.1 11 (by decide)
                have g12_τ33 : τ33.2.1 12 = τ_26.2.1 12 := hf_τ33.2.1 12 (by decide)
                have g14_τ33 : τ33.2.1 14 = τ_26.2.1 14 := hf_τ33.2.1 14 (by decide)
                have g15_τ33 : τ33.2.1 15 = τ_26.2.1 15 := hf_τ33.2.1 15 (by decide)
                have g16_τ33 : τ33.2.1 16 = τ_26.2.1 16 := hf_τ33.2.1 16 (by decide)
                have g17_τ33 : τ33.2.1 17 = τ_26.2.1 17 := hf_τ33.2.1 17 (by decide)
                first | (have o6_τ33 := congrArg oc g6_τ33) | skip
                first | (have o7_τ33 := congrArg oc g7_τ33) | skip
                have W0 : τ33.1 0 = σ.1 0 := by first | exact w0_τ33.trans W0 | omega
                have W3 : τ33.1 3 = σ.1 3 := by first | exact w3_τ33.trans W3 | omega
                have W5 : τ33.1 5 = σ.1 5 := by first | exact w5_τ33.trans W5 | omega
                have W7 : τ33.1 7 = σ.1 7 := by first | exact w7_τ33.trans W7 | omega
                have W8 : τ33.1 8 = σ.1 8 := by first | exact w8_τ33.trans W8 | omega
                have W9 : τ33.1 9 = σ.1 9 := by first | exact w9_τ33.trans W9 | omega
                have W10 : τ33.1 10 = σ.1 10 := by first | exact w10_τ33.trans W10 | omega
                have W11 : τ33.1 11 = σ.1 11 := by first | exact w11_τ33.trans W11 | omega
                have W22 : τ33.1 22 = σ.1 22 := by first | exact w22_τ33.trans W22 | omega
                have G6 : τ33.2.1 6 = σ.2.1 6 := (g6_τ33).trans G6
                have G7 : τ33.2.1 7 = σ.2.1 7 := (g7_τ33).trans G7
                have G8 : τ33.2.1 8 = σ.2.1 8 := (g8_τ33).trans G8
                have G10 : τ33.2.1 10 = σ.2.1 10 := (g10_τ33).trans G10
                have G11 : τ33.2.1 11 = σ.2.1 11 := (g11_τ33).trans G11
                have G14 : τ33.2.1 14 = σ.2.1 14 := (g14_τ33).trans G14
                have y14_22_τ33 : τ33.2.1 14 (τ33.1 22) = (τ_26.2.1 14) (τ_26.1 22) := by rw [g14_τ33, w22_τ33]
                have y15_22_τ33 : τ33.2.1 15 (τ33.1 22) = (τ_26.2.1 15) (τ_26.1 22) := by rw [g15_τ33, w22_τ33]
                have Z1 : τ33.2.1 14 (τ33.1 22) + τ33.2.1 15 (τ33.1 22) = (τ33.1 6) := by rw [show (τ33.2.1 14 (τ33.1 22) + τ33.2.1 15 (τ33.1 22) = (τ33.1 6)) = (τ_26.2.1 14 (τ_26.1 22) + τ_26.2.1 15 (τ_26.1 22) = (τ_26.1 6)) from by rw [w6_τ33, w22_τ33, g14_τ33, g15_τ33]]; exact Z1
                have Y20 : ca (τ33.2.1 12) ((τ33.1 3)) ≤ (τ33.1 4) := by rw [show (ca (τ33.2.1 12) ((τ33.1 3)) ≤ (τ33.1 4)) = (ca (τ_26.2.1 12) ((τ_26.1 3)) ≤ (τ_26.1 4)) from by rw [w3_τ33, w4_τ33, g12_τ33]]; exact Y20
                have Y1 : j_l2 (τ33.2.1 6) (τ33.1 3) := by rw [show (j_l2 (τ33.2.1 6) (τ33.1 3)) = (j_l2 (τ_26.2.1 6) (τ_26.1 3)) from by rw [w3_τ33, g6_τ33]]; exact Y1
                have STt : j_l2 (τ33.2.1 6) (τ33.1 3) := by rw [show (j_l2 (τ33.2.1 6) (τ33.1 3)) = (j_l2 (τ_26.2.1 6) (τ_26.1 3)) from by rw [w3_τ33, g6_τ33]]; exact STt
                have A6 : ∀ j, (-1) ≤ τ33.2.1 6 j ∧ τ33.2.1 6 j ≤ 999 := fun j => hT.2 6 j
                have A7 : ∀ j, (-1) ≤ τ33.2.1 7 j ∧ τ33.2.1 7 j ≤ 1499 := fun j => hT.2 7 j
                have A8 : ∀ j, 0 ≤ τ33.2.1 8 j ∧ τ33.2.1 8 j ≤ 1 := fun j => hT.2 8 j
                have A10 : ∀ j, (-1) ≤ τ33.2.1 10 j ∧ τ33.2.1 10 j ≤ 999 := fun j => hT.2 10 j
                have A11 : ∀ j, (-1) ≤ τ33.2.1 11 j ∧ τ33.2.1 11 j ≤ 1499 := fun j => hT.2 11 j
                have A12 : ∀ j, 0 ≤ τ33.2.1 12 j ∧ τ33.2.1 12 j ≤ 1 := fun j => hT.2 12 j
                have A14 : ∀ j, 0 ≤ τ33.2.1 14 j ∧ τ33.2.1 14 j ≤ 30000 := fun j => hT.2 14 j
                have A15 : ∀ j, 0 ≤ τ33.2.1 15 j ∧ τ33.2.1 15 j ≤ 300 := fun j => hT.2 15 j
                have A16 : ∀ j, 0 ≤ τ33.2.1 16 j ∧ τ33.2.1 16 j ≤ 999 := fun j => hT.2 16 j
                have A17 : ∀ j, (-1) ≤ τ33.2.1 17 j ∧ τ33.2.1 17 j ≤ 1499 := fun j => hT.2 17 j
                have v0 : 0 ≤ τ33.1 0 ∧ τ33.1 0 ≤ 60000 := hT.1 0
                have v3 : 0 ≤ τ33.1 3 ∧ τ33.1 3 ≤ 1000 := hT.1 3
                have v4 : 0 ≤ τ33.1 4 ∧ τ33.1 4 ≤ 100 := hT.1 4
                have v5 : 0 ≤ τ33.1 5 ∧ τ33.1 5 ≤ 1500 := hT.1 5
                have v6 : 0 ≤ τ33.1 6 ∧ τ33.1 6 ≤ 30000 := hT.1 6
                have v7 : 0 ≤ τ33.1 7 ∧ τ33.1 7 ≤ 90000 := hT.1 7
                have v8 : 0 ≤ τ33.1 8 ∧ τ33.1 8 ≤ 20000 := hT.1 8
                have v9 : 0 ≤ τ33.1 9 ∧ τ33.1 9 ≤ 20000 := hT.1 9
                have v10 : (-1) ≤ τ33.1 10 ∧ τ33.1 10 ≤ 999 := hT.1 10
                have v11 : (-1) ≤ τ33.1 11 ∧ τ33.1 11 ≤ 999 := hT.1 11
                have v16 : 0 ≤ τ33.1 16 ∧ τ33.1 16 ≤ 60000 := hT.1 16
                have v17 : 0 ≤ τ33.1 17 ∧ τ33.1 17 ≤ 60000 := hT.1 17
                have v18 : 0 ≤ τ33.1 18 ∧ τ33.1 18 ≤ 60000 := hT.1 18
                have v19 : (-1) ≤ τ33.1 19 ∧ τ33.1 19 ≤ 125 := hT.1 19
                have v20 : 0 ≤ τ33.1 20 ∧ τ33.1 20 ≤ 19 := hT.1 20
                have v22 : 0 ≤ τ33.1 22 ∧ τ33.1 22 ≤ 1499 := hT.1 22
                have a14_22 : 0 ≤ τ33.2.1 14 (τ33.1 22) ∧ τ33.2.1 14 (τ33.1 22) ≤ 30000 := hT.2 14 _
                have a15_22 : 0 ≤ τ33.2.1 15 (τ33.1 22) ∧ τ33.2.1 15 (τ33.1 22) ≤ 300 := hT.2 15 _
                have av6 : σ.1 6 ≤ τ33.1 6 := ag.1 6 (by decide)
                exact ih_26 _ (show (3 * ((τ33.1 0) - (τ33.1 16)) + z_0 ((τ33.1 20)) + 1 - z_0 ((τ33.1 19)) : Int) < ((m_26 : Nat) : Int) from by (have zz0 := z_e ((τ33.1 20)); have zz1 := z_e ((τ33.1 19)); (first | omega | (simp only [st_s] <;> omega) | assumption | omega | fail))) hT ag (show τ33.1 0 = σ.1 0 from by first | exact W0 | omega) (show τ33.1 3 = σ.1 3 from by first | exact W3 | omega) (show τ33.1 5 = σ.1 5 from by first | exact W5 | omega) (show τ33.1 7 = σ.1 7 from by first | exact W7 | omega) (show τ33.1 8 = σ.1 8 from by first | exact W8 | omega) (show τ33.1 9 = σ.1 9 from by first | exact W9 | omega) (show τ33.1 10 = σ.1 10 from by first | exact W10 | omega) (show τ33.1 11 = σ.1 11 from by first | exact W11 | omega) (show τ33.1 22 = σ.1 22 from by first | exact W22 | omega) G6 G7 G8 G10 G11 G14 (show (τ33.1 16) ≤ (τ33.1 0) from by (first | omega | (simp only [st_s] <;> omega) | assumption | omega | fail)) (show (τ33.1 17) + (τ33.1 18) ≤ (τ33.1 0) from by (first | omega | (simp only [st_s] <;> omega) | assumption | omega | fail)) (show oc (τ33.2.1 6) < 4096 from by (first | omega | (simp only [st_s] <;> omega) | assumption | omega | fail)) (show oc (τ33.2.1 7) < 4096 from by (first | omega | (simp only [st_s] <;> omega) | assumption | omega | fail)) (show ¬ (σ.1 20) = 0 → (τ33.1 20) = (σ.1 20) from by (first | omega | (simp only [st_s] <;> omega) | assumption | omega | fail)) (show τ33.2.1 14 (τ33.1 22) + τ33.2.1 15 (τ33.1 22) = (τ33.1 6) from Z1) (show ca (τ33.2.1 12) ((τ33.1 3)) ≤ (τ33.1 4) from Y20) (show (τ33.1 20) = 0 → 1 ≤ τ33.2.1 15 (τ33.1 22) from by (first | omega | (simp only [st_s] <;> omega) | assumption | omega | fail)) (show (σ.1 16) ≤ (τ33.1 16) from by (first | omega | (simp only [st_s] <;> omega) | assumption | omega | fail)) (show (τ33.1 20) = 0 → n_N (τ33.2.1 14 (τ33.1 22)) (τ33.2.1 14 (τ33.1 22) + τ33.2.1 15 (τ33.1 22)) (σ.1 3) (σ.2.1 8) (σ.2.1 11) (τ33.2.1 12) (τ33.2.1 16) (τ33.2.1 17) from by (intro z; first | (exfalso; omega) | exact r57 (by omega) | (rw [g14_τ11, g15_τ11, g12_τ11, g16_τ11, g17_τ11, w22_τ11]; exact r57 (by omega)) | exact nn3)) (show n_rl σ τ33 from by (first | exact n_rl_h hf_τ3 rfl rfl | exact n_rl_t (n_rl_h hf_τ3 rfl rfl) q5_8 | exact n_rl_r (n_rl_h hf_τ3 rfl rfl) hf_τ11 rfl rfl | exact n_rl_r (n_rl_t (n_rl_h hf_τ3 rfl rfl) q5_8) hf_τ11 rfl rfl | exact n_rl_r (i26_11) hf_τ33 rfl rfl | exact n_rl_r (i26_11) hf_τ36 rfl rfl | exact n_rl_r (i26_11) hf_τ44 rfl rfl | exact n_rl_r (n_rl_r (i26_11) hf_τ51 rfl rfl) hf_τ54 rfl rfl | fail))
          ·
            refine ⟨_, K_X13_failHere hT (show 0 ≤ (4 : Int) from by (first | omega | (simp only [st_s] <;> omega) | assumption | omega | fail)) (show (4 : Int) ≤ 19 from by (first | omega | (simp only [st_s] <;> omega) | assumption | omega | fail)), ?_⟩
            intro τ30 hn_τ30 hf_τ30 hq
            obtain ⟨hT, q28_1, q28_2⟩ := hq
            replace q28_1 : ¬ (τ_26.1 20) = 0 → (τ30.1 20) = (τ_26.1 20) := q28_1
            replace q28_2 : (τ_26.1 20) = 0 → (τ30.1 20) = (4 : Int) := q28_2
            replace ag : m_ag σ τ30 := ag_r ag hf_τ30 rfl rfl
            have w0_τ30 : τ30.1 0 = τ_26.1 0 := hf_τ30.1 0 (by decide)
            have w3_τ30 : τ30.1 3 = τ_26.1 3 := hf_τ30.1 3 (by decide)
            have w4_τ30 : τ30.1 4 = τ_26.1 4 := hf_τ30.1 4 (by decide)
            have w5_τ30 : τ30.1 5 = τ_26.1 5 := hf_τ30.1 5 (by decide)
            have w6_τ30 : τ30.1 6 = τ_26.1 6 := hf_τ30.1 6 (by decide)
            have w7_τ30 : τ30.1 7 = τ_26.1 7 := hf_τ30.1 7 (by decide)
            have w8_τ30 : τ30.1 8 = τ_26.1 8 := hf_τ30.1 8 (by decide)
            have w9_τ30 : τ30.1 9 = τ_26.1 9 := hf_τ30.1 9 (by decide)
            have w10_τ30 : τ30.1 10 = τ_26.1 10 := hf_τ30.1 10 (by decide)
            have w11_τ30 : τ30.1 11 = τ_26.1 11 := hf_τ30.1 11 (by decide)
            have w16_τ30 : τ30.1 16 = τ_26.1 16 := hf_τ30.1 16 (by decide)
            have w17_τ30 : τ30.1 17 = τ_26.1 17 := hf_τ30.1 17 (by decide)
            have w18_τ30 : τ30.1 18 = τ_26.1 18 := hf_τ30.1 18 (by decide)
            have w19_τ30 : τ30.1 19 = τ_26.1 19 := hf_τ30.1 19 (by decide)
            have w22_τ30 : τ30.1 22 = τ_26.1 22 := hf_τ30.1 22 (by decide)
            have g6_τ30 : τ30.2.1 6 = τ_26.2.1 6 := hf_τ30.2.1 6 (by decide)
            have g7_τ30 : τ30.2.1 7 = τ_26.2.1 7 := hf_τ30.2.1 7 (by decide)
            have g8_τ30 : τ30.2.1 8 = τ_26.2.1 8 := hf_τ30.2.1 8 (by decide)
            have g10_τ30 : τ30.2.1 10 = τ_26.2.1 10 := hf_τ30.2.1 10 (by decide)
            have g11_τ30 : τ30.2.1 11 = τ_26.2.1 11 := hf_τ30.2.1 11 (by decide)
            have g12_τ30 : τ30.2.1 12 = τ_26.2.1 12 := hf_τ30.2.1 12 (by decide)
            have g14_τ30 : τ30.2.1 14 = τ_26.2.1 14 := hf_τ30.2.1 14 (by decide)
            have g15_τ30 : τ30.2.1 15 = τ_26.2.1 15 := hf_τ30.2.1 15 (by decide)
            have g16_τ30 : τ30.2.1 16 = τ_26.2.1 16 := hf_τ30.2.1 16 (by decide)
            have g17_τ30 : τ30.2.1 17 = τ_26.2.1 17 := hf_τ30.2.1 17 (by decide)
            first | (have o6_τ30 := congrArg oc g6_τ30) | skip
            first | (have o7_τ30 := congrArg oc g7_τ30) | skip
            have W0 : τ30.1 0 = σ.1 0 := by first | exact w0_τ30.trans W0 | omega
            have W3 : τ30.1 3 = σ.1 3 := by first | exact w3_τ30.trans W3 | omega
            have W5 : τ30.1 5 = σ.1 5 := by first | exact w5_τ30.trans W5 | omega
            have W7 : τ30.1 7 = σ.1 7 := by first | exact w7_τ30.trans W7 | omega
            have W8 : τ30.1 8 = σ.1 8 := by first | exact w8_τ30.trans W8 | omega
            have W9 : τ30.1 9 = σ.1 9 := by first | exact w9_τ30.trans W9 | omega
            have W10 : τ30.1 10 = σ.1 10 := by first | exact w10_τ30.trans W10 | omega
            have W11 : τ30.1 11 = σ.1 11 := by first | exact w11_τ30.trans W11 | omega
            have W22 : τ30.1 22 = σ.1 22 := by first | exact w22_τ30.trans W22 | omega
            have G6 : τ30.2.1 6 = σ.2.1 6 := (g6_τ30).trans G6
            have G7 : τ30.2.1 7 = σ.2.1 7 := (g7_τ30).trans G7
            have G8 : τ30.2.1 8 = σ.2.1 8 := (g8_τ30).trans G8
            have G10 : τ30.2.1 10 = σ.2.1 10 := (g10_τ30).trans G10
            have G11 : τ30.2.1 11 = σ.2.1 11 := (g11_τ30).trans G11
            have G14 : τ30.2.1 14 = σ.2.1 14 := (g14_τ30).trans G14
            have y14_22_τ30 : τ30.2.1 14 (τ30.1 22) = (τ_26.2.1 14) (τ_26.1 22) := by rw [g14_τ30, w22_τ30]
            have y15_22_τ30 : τ30.2.1 15 (τ30.1 22) = (τ_26.2.1 15) (τ_26.1 22) := by rw [g15_τ30, w22_τ30]
            have Z1 : τ30.2.1 14 (τ30.1 22) + τ30.2.1 15 (τ30.1 22) = (τ30.1 6) := by rw [show (τ30.2.1 14 (τ30.1 22) + τ30.2.1 15 (τ30.1 22) = (τ30.1 6)) = (τ_26.2.1 14 (τ_26.1 22) + τ_26.2.1 15 (τ_26.1 22) = (τ_26.1 6)) from by rw [w6_τ30, w22_τ30, g14_τ30, g15_τ30]]; exact Z1
            have Y20 : ca (τ30.2.1 12) ((τ30.1 3)) ≤ (τ30.1 4) := by rw [show (ca (τ30.2.1 12) ((τ30.1 3)) ≤ (τ30.1 4)) = (ca (τ_26.2.1 12) ((τ_26.1 3)) ≤ (τ_26.1 4)) from by rw [w3_τ30, w4_τ30, g12_τ30]]; exact Y20
            have Y1 : j_l2 (τ30.2.1 6) (τ30.1 3) := by rw [show (j_l2 (τ30.2.1 6) (τ30.1 3)) = (j_l2 (τ_26.2.1 6) (τ_26.1 3)) from by rw [w3_τ30, g6_τ30]]; exact Y1
            have STt : j_l2 (τ30.2.1 6) (τ30.1 3) := by rw [show (j_l2 (τ30.2.1 6) (τ30.1 3)) = (j_l2 (τ_26.2.1 6) (τ_26.1 3)) from by rw [w3_τ30, g6_τ30]]; exact STt
            have A6 : ∀ j, (-1) ≤ τ30.2.1 6 j ∧ τ30.2.1 6 j ≤ 999 := fun j => hT.2 6 j
            have A7 : ∀ j, (-1) ≤ τ30.2.1 7 j ∧ τ30.2.1 7 j ≤ 1499 := fun j => hT.2 7 j
            have A8 : ∀ j, 0 ≤ τ30.2.1 8 j ∧ τ30.2.1 8 j ≤ 1 := fun j => hT.2 8 j
            have A10 : ∀ j, (-1) ≤ τ30.2.1 10 j ∧ τ30.2.1 10 j ≤ 999 := fun j => hT.2 10 j
            have A11 : ∀ j, (-1) ≤ τ30.2.1 11 j ∧ τ30.2.1 11 j ≤ 1499 := fun j => hT.2 11 j
            have A12 : ∀ j, 0 ≤ τ30.2.1 12 j ∧ τ30.2.1 12 j ≤ 1 := fun j => hT.2 12 j
            have A14 : ∀ j, 0 ≤ τ30.2.1 14 j ∧ τ30.2.1 14 j ≤ 30000 := fun j => hT.2 14 j
            have A15 : ∀ j, 0 ≤ τ30.2.1 15 j ∧ τ30.2.1 15 j ≤ 300 := fun j => hT.2 15 j
            have A16 : ∀ j, 0 ≤ τ30.2.1 16 j ∧ τ30.2.1 16 j ≤ 999 := fun j => hT.2 16 j
            have A17 : ∀ j, (-1) ≤ τ30.2.1 17 j ∧ τ30.2.1 17 j ≤ 1499 := fun j => hT.2 17 j
            have v0 : 0 ≤ τ30.1 0 ∧ τ30.1 0 ≤ 60000 := hT.1 0
            have v3 : 0 ≤ τ30.1 3 ∧ τ30.1 3 ≤ 1000 := hT.1 3
            have v4 : 0 ≤ τ30.1 4 ∧ τ30.1 4 ≤ 100 := hT.1 4
            have v5 : 0 ≤ τ30.1 5 ∧ τ30.1 5 ≤ 1500 := hT.1 5
            have v6 : 0 ≤ τ30.1 6 ∧ τ30.1 6 ≤ 30000 := hT.1 6
            have v7 : 0 ≤ τ30.1 7 ∧ τ30.1 7 ≤ 90000 := hT.1 7
            have v8 : 0 ≤ τ30.1 8 ∧ τ30.1 8 ≤ 20000 := hT.1 8
            have v9 : 0 ≤ τ30.1 9 ∧ τ30.1 9 ≤ 20000 := hT.1 9
            have v10 : (-1) ≤ τ30.1 10 ∧ τ30.1 10 ≤ 999 := hT.1 10
            have v11 : (-1) ≤ τ30.1 11 ∧ τ30.1 11 ≤ 999 := hT.1 11
            have v16 : 0 ≤ τ30.1 16 ∧ τ30.1 16 ≤ 60000 := hT.1 16
            have v17 : 0 ≤ τ30.1 17 ∧ τ30.1 17 ≤ 60000 := hT.1 17
            have v18 : 0 ≤ τ30.1 18 ∧ τ30.1 18 ≤ 60000 := hT.1 18
            have v19 : (-1) ≤ τ30.1 19 ∧ τ30.1 19 ≤ 125 := hT.1 19
            have v20 : 0 ≤ τ30.1 20 ∧ τ30.1 20 ≤ 19 := hT.1 20
            have v22 : 0 ≤ τ30.1 22 ∧ τ30.1 22 ≤ 1499 := hT.1 22
            have a14_22 : 0 ≤ τ30.2.1 14 (τ30.1 22) ∧ τ30.2.1 14 (τ30.1 22) ≤ 30000 := hT.2 14 _
            have a15_22 : 0 ≤ τ30.2.1 15 (τ30.1 22) ∧ τ30.2.1 15 (τ30.1 22) ≤ 300 := hT.2 15 _
            have av6 : σ.1 6 ≤ τ30.1 6 := ag.1 6 (by decide)
            exact ⟨hT, (show (τ30.1 16) ≤ (τ30.1 0) from by (first | omega | (simp only [st_s] <;> omega) | assumption | omega | fail)), (show (τ30.1 17) + (τ30.1 18) ≤ (τ30.1 0) from by (first | omega | (simp only [st_s] <;> omega) | assumption | omega | fail)), (show ¬ (σ.1 20) = 0 → (τ30.1 20) = (σ.1 20) from by (first | omega | (simp only [st_s] <;> omega) | assumption | omega | fail)), (show τ30.2.1 14 (τ30.1 22) + τ30.2.1 15 (τ30.1 22) = (τ30.1 6) from Z1), (show ca (τ30.2.1 12) ((τ30.1 3)) ≤ (τ30.1 4) from Y20), (show (τ30.1 20) = 0 → 1 ≤ τ30.2.1 15 (τ30.1 22) from by (first | omega | (simp only [st_s] <;> omega) | assumption | omega | fail)), (show (σ.1 16) ≤ (τ30.1 16) from by (first | omega | (simp only [st_s] <;> omega) | assumption | omega | fail)), ag, (show (τ30.1 20) = 0 → n_N (τ30.2.1 14 (τ30.1 22)) (τ30.2.1 14 (τ30.1 22) + τ30.2.1 15 (τ30.1 22)) (σ.1 3) (σ.2.1 8) (σ.2.1 11) (τ30.2.1 12) (τ30.2.1 16) (τ30.2.1 17) from by (first | exact i26_10 | (intro z; exfalso; omega) | fail)), (show n_rl σ τ30 from by (first | exact i26_11 | exact n_rl_r (i26_11) hf_τ30 rfl rfl | fail))⟩
  refine ⟨_, K_X13_next hT (show (σ.1 16) ≤ (σ.1 0) from by (first | omega | (simp only [st_s] <;> omega) | assumption | omega | fail)), ?_⟩
  intro τ3 hn_τ3 hf_τ3 hq
  obtain ⟨hT, q1_1, q1_2, q1_3, q1_4, q1_5⟩ := hq
  replace q1_1 : (τ3.1 16) ≤ (τ3.1 0) := q1_1
  replace q1_2 : (τ3.1 17) + (τ3.1 18) ≤ (τ3.1 0) := q1_2
  replace q1_3 : (σ.1 16) ≤ (τ3.1 16) := q1_3
  replace q1_4 : ¬ (σ.1 20) = 0 → (τ3.1 20) = (σ.1 20) := q1_4
  replace q1_5 : (τ3.1 20) = 0 → ¬ (τ3.1 19) = 0 → (σ.1 16) < (τ3.1 16) ∧ 0 < (τ3.1 18) := q1_5
  replace ag : m_ag σ τ3 := ag_r ag hf_τ3 rfl rfl
  have w0_τ3 : τ3.1 0 = σ.1 0 := hf_τ3.1 0 (by decide)
  have w3_τ3 : τ3.1 3 = σ.1 3 := hf_τ3.1 3 (by decide)
  have w4_τ3 : τ3.1 4 = σ.1 4 := hf_τ3.1 4 (by decide)
  have w5_τ3 : τ3.1 5 = σ.1 5 := hf_τ3.1 5 (by decide)
  have w6_τ3 : τ3.1 6 = σ.1 6 := hf_τ3.1 6 (by decide)
  have w7_τ3 : τ3.1 7 = σ.1 7 := hf_τ3.1 7 (by decide)
  have w8_τ3 : τ3.1 8 = σ.1 8 := hf_τ3.1 8 (by decide)
  have w9_τ3 : τ3.1 9 = σ.1 9 := hf_τ3.1 9 (by decide)
  have w10_τ3 : τ3.1 10 = σ.1 10 := hf_τ3.1 10 (by decide)
  have w11_τ3 : τ3.1 11 = σ.1 11 := hf_τ3.1 11 (by decide)
  have w22_τ3 : τ3.1 22 = σ.1 22 := hf_τ3.1 22 (by decide)
  have g6_τ3 : τ3.2.1 6 = σ.2.1 6 := hf_τ3.2.1 6 (by decide)
  have g7_τ3 : τ3.2.1 7 = σ.2.1 7 := hf_τ3.2.1 7 (by decide)
  have g8_τ3 : τ3.2.1 8 = σ.2.1 8 := hf_τ3.2.1 8 (by decide)
  have g10_τ3 : τ3.2.1 10 = σ.2.1 10 := hf_τ3.2.1 10 (by decide)
  have g11_τ3 : τ3.2.1 11 = σ.2.1 11 := hf_τ3.2.1 11 (by decide)
  have g12_τ3 : τ3.2.1 12 = σ.2.1 12 := hf_τ3.2.1 12 (by decide)
  have g14_τ3 : τ3.2.1 14 = σ.2.1 14 := hf_τ3.2.1 14 (by decide)
  have g15_τ3 : τ3.2.1 15 = σ.2.1 15 := hf_τ3.2.1 15 (by decide)
  have g16_τ3 : τ3.2.1 16 = σ.2.1 16 := hf_τ3.2.1 16 (by decide)
  have g17_τ3 : τ3.2.1 17 = σ.2.1 17 := hf_τ3.2.1 17 (by decide)
  first | (have o6_τ3 := congrArg oc g6_τ3) | skip
  first | (have o7_τ3 := congrArg oc g7_τ3) | skip
  have W0 : τ3.1 0 = σ.1 0 := by first | exact w0_τ3.trans W0 | omega
  have W3 : τ3.1 3 = σ.1 3 := by first | exact w3_τ3.trans W3 | omega
  have W5 : τ3.1 5 = σ.1 5 := by first | exact w5_τ3.trans W5 | omega
  have W7 : τ3.1 7 = σ.1 7 := by first | exact w7_τ3.trans W7 | omega
  have W8 : τ3.1 8 = σ.1 8 := by first | exact w8_τ3.trans W8 | omega
  have W9 : τ3.1 9 = σ.1 9 := by first | exact w9_τ3.trans W9 | omega
  have W10 : τ3.1 10 = σ.1 10 := by first | exact w10_τ3.trans W10 | omega
  have W11 : τ3.1 11 = σ.1 11 := by first | exact w11_τ3.trans W11 | omega
  have W22 : τ3.1 22 = σ.1 22 := by first | exact w22_τ3.trans W22 | omega
  have G6 : τ3.2.1 6 = σ.2.1 6 := (g6_τ3).trans G6
  have G7 : τ3.2.1 7 = σ.2.1 7 := (g7_τ3).trans G7
  have G8 : τ3.2.1 8 = σ.2.1 8 := (g8_τ3).trans G8
  have G10 : τ3.2.1 10 = σ.2.1 10 := (g10_τ3).trans G10
  have G11 : τ3.2.1 11 = σ.2.1 11 := (g11_τ3).trans G11
  have G14 : τ3.2.1 14 = σ.2.1 14 := (g14_τ3).trans G14
  have y14_22_τ3 : τ3.2.1 14 (τ3.1 22) = (σ.2.1 14) (σ.1 22) := by rw [g14_τ3, w22_τ3]
  have y15_22_τ3 : τ3.2.1 15 (τ3.1 22) = (σ.2.1 15) (σ.1 22) := by rw [g15_τ3, w22_τ3]
  have Z1 : τ3.2.1 14 (τ3.1 22) + τ3.2.1 15 (τ3.1 22) = (τ3.1 6) := by rw [show (τ3.2.1 14 (τ3.1 22) + τ3.2.1 15 (τ3.1 22) = (τ3.1 6)) = (σ.2.1 14 (σ.1 22) + σ.2.1 15 (σ.1 22) = (σ.1 6)) from by rw [w6_τ3, w22_τ3, g14_τ3, g15_τ3]]; exact Z1
  have Y20 : ca (τ3.2.1 12) ((τ3.1 3)) ≤ (τ3.1 4) := by rw [show (ca (τ3.2.1 12) ((τ3.1 3)) ≤ (τ3.1 4)) = (ca (σ.2.1 12) ((σ.1 3)) ≤ (σ.1 4)) from by rw [w3_τ3, w4_τ3, g12_τ3]]; exact Y20
  have Y1 : j_l2 (τ3.2.1 6) (τ3.1 3) := by rw [show (j_l2 (τ3.2.1 6) (τ3.1 3)) = (j_l2 (σ.2.1 6) (σ.1 3)) from by rw [w3_τ3, g6_τ3]]; exact Y1
  have STt : j_l2 (τ3.2.1 6) (τ3.1 3) := by rw [show (j_l2 (τ3.2.1 6) (τ3.1 3)) = (j_l2 (σ.2.1 6) (σ.1 3)) from by rw [w3_τ3, g6_τ3]]; exact STt
  have A6 : ∀ j, (-1) ≤ τ3.2.1 6 j ∧ τ3.2.1 6 j ≤ 999 := fun j => hT.2 6 j
  have A7 : ∀ j, (-1) ≤ τ3.2.1 7 j ∧ τ3.2.1 7 j ≤ 1499 := fun j => hT.2 7 j
  have A8 : ∀ j, 0 ≤ τ3.2.1 8 j ∧ τ3.2.1 8 j ≤ 1 := fun j => hT.2 8 j
  have A10 : ∀ j, (-1) ≤ τ3.2.1 10 j ∧ τ3.2.1 10 j ≤ 999 := fun j => hT.2 10 j
  have A11 : ∀ j, (-1) ≤ τ3.2.1 11 j ∧ τ3.2.1 11 j ≤ 1499 := fun j => hT.2 11 j
  have A12 : ∀ j, 0 ≤ τ3.2.1 12 j ∧ τ3.2.1 12 j ≤ 1 := fun j => hT.2 12 j
  have A14 : ∀ j, 0 ≤ τ3.2.1 14 j ∧ τ3.2.1 14 j ≤ 30000 := fun j => hT.2 14 j
  have A15 : ∀ j, 0 ≤ τ3.2.1 15 j ∧ τ3.2.1 15 j ≤ 300 := fun j => hT.2 15 j
  have A16 : ∀ j, 0 ≤ τ3.2.1 16 j ∧ τ3.2.1 16 j ≤ 999 := fun j => hT.2 16 j
  have A17 : ∀ j, (-1) ≤ τ3.2.1 17 j ∧ τ3.2.1 17 j ≤ 1499 := fun j => hT.2 17 j
  have v0 : 0 ≤ τ3.1 0 ∧ τ3.1 0 ≤ 60000 := hT.1 0
  have v3 : 0 ≤ τ3.1 3 ∧ τ3.1 3 ≤ 1000 := hT.1 3
  have v4 : 0 ≤ τ3.1 4 ∧ τ3.1 4 ≤ 100 := hT.1 4
  have v5 : 0 ≤ τ3.1 5 ∧ τ3.1 5 ≤ 1500 := hT.1 5
  have v6 : 0 ≤ τ3.1 6 ∧ τ3.1 6 ≤ 30000 := hT.1 6
  have v7 : 0 ≤ τ3.1 7 ∧ τ3.1 7 ≤ 90000 := hT.1 7
  have v8 : 0 ≤ τ3.1 8 ∧ τ3.1 8 ≤ 20000 := hT.1 8
  have v9 : 0 ≤ τ3.1 9 ∧ τ3.1 9 ≤ 20000 := hT.1 9
  have v10 : (-1) ≤ τ3.1 10 ∧ τ3.1 10 ≤ 999 := hT.1 10
  have v11 : (-1) ≤ τ3.1 11 ∧ τ3.1 11 ≤ 999 := hT.1 11
  have v16 : 0 ≤ τ3.1 16 ∧ τ3.1 16 ≤ 60000 := hT.1 16
  have v17 : 0 ≤ τ3.1 17 ∧ τ3.1 17 ≤ 60000 := hT.1 17
  have v18 : 0 ≤ τ3.1 18 ∧ τ3.1 18 ≤ 60000 := hT.1 18
  have v19 : (-1) ≤ τ3.1 19 ∧ τ3.1 19 ≤ 125 := hT.1 19
  have v20 : 0 ≤ τ3.1 20 ∧ τ3.1 20 ≤ 19 := hT.1 20
  have v22 : 0 ≤ τ3.1 22 ∧ τ3.1 22 ≤ 1499 := hT.1 22
  have a14_22 : 0 ≤ τ3.2.1 14 (τ3.1 22) ∧ τ3.2.1 14 (τ3.1 22) ≤ 30000 := hT.2 14 _
  have a15_22 : 0 ≤ τ3.2.1 15 (τ3.1 22) ∧ τ3.2.1 15 (τ3.1 22) ≤ 300 := hT.2 15 _
  have av6 : σ.1 6 ≤ τ3.1 6 := ag.1 6 (by decide)
  refine ⟨fun c4 => ?_, fun c4 => ?_⟩
  ·
    refine h15 _ _ ?_
    refine ⟨fun c8 => ?_, fun c8 => ?_⟩
    ·
      exact l_26 ((3 * ((τ3.1 0) - (τ3.1 16)) + z_0 ((τ3.1 20)) + 1 - z_0 ((τ3.1 19)) : Int).toNat + 1) _ (show (3 * ((τ3.1 0) - (τ3.1 16)) + z_0 ((τ3.1 20)) + 1 - z_0 ((τ3.1 19)) : Int) < (((3 * ((τ3.1 0) - (τ3.1 16)) + z_0 ((τ3.1 20)) + 1 - z_0 ((τ3.1 19)) : Int).toNat + 1 : Nat) : Int) from by (have zz0 := z_e ((τ3.1 20)); have zz1 := z_e ((τ3.1 19)); (first | omega | (simp only [st_s] <;> omega) | assumption | omega | fail))) hT ag (show τ3.1 0 = σ.1 0 from by first | exact W0 | omega) (show τ3.1 3 = σ.1 3 from by first | exact W3 | omega) (show τ3.1 5 = σ.1 5 from by first | exact W5 | omega) (show τ3.1 7 = σ.1 7 from by first | exact W7 | omega) (show τ3.1 8 = σ.1 8 from by first | exact W8 | omega) (show τ3.1 9 = σ.1 9 from by first | exact W9 | omega) (show τ3.1 10 = σ.1 10 from by first | exact W10 | omega) (show τ3.1 11 = σ.1 11 from by first | exact W11 | omega) (show τ3.1 22 = σ.1 22 from by first | exact W22 | omega) G6 G7 G8 G10 G11 G14 (show (τ3.1 16) ≤ (τ3.1 0) from by (first | omega | (simp only [st_s] <;> omega) | assumption | omega | fail)) (show (τ3.1 17) + (τ3.1 18) ≤ (τ3.1 0) from by (first | omega | (simp only [st_s] <;> omega) | assumption | omega | fail)) (show oc (τ3.2.1 6) < 4096 from by (first | omega | (simp only [st_s] <;> omega) | assumption | omega | fail)) (show oc (τ3.2.1 7) < 4096 from by (first | omega | (simp only [st_s] <;> omega) | assumption | omega | fail)) (show ¬ (σ.1 20) = 0 → (τ3.1 20) = (σ.1 20) from by (first | omega | (simp only [st_s] <;> omega) | assumption | omega | fail)) (show τ3.2.1 14 (τ3.1 22) + τ3.2.1 15 (τ3.1 22) = (τ3.1 6) from Z1) (show ca (τ3.2.1 12) ((τ3.1 3)) ≤ (τ3.1 4) from Y20) (show (τ3.1 20) = 0 → 1 ≤ τ3.2.1 15 (τ3.1 22) from by (first | omega | (simp only [st_s] <;> omega) | assumption | omega | fail)) (show (σ.1 16) ≤ (τ3.1 16) from by (first | omega | (simp only [st_s] <;> omega) | assumption | omega | fail)) (show (τ3.1 20) = 0 → n_N (τ3.2.1 14 (τ3.1 22)) (τ3.2.1 14 (τ3.1 22) + τ3.2.1 15 (τ3.1 22)) (σ.1 3) (σ.2.1 8) (σ.2.1 11) (τ3.2.1 12) (τ3.2.1 16) (τ3.2.1 17) from by (intro z; first | (exfalso; omega) | exact r57 (by omega) | (rw [g14_τ11, g15_τ11, g12_τ11, g16_τ11, g17_τ11, w22_τ11]; exact r57 (by omega)) | exact nn3)) (show n_rl σ τ3 from by (first | exact n_rl_h hf_τ3 rfl rfl | exact n_rl_t (n_rl_h hf_τ3 rfl rfl) q5_8 | exact n_rl_r (n_rl_h hf_τ3 rfl rfl) hf_τ11 rfl rfl | exact n_rl_r (n_rl_t (n_rl_h hf_τ3 rfl rfl) q5_8) hf_τ11 rfl rfl | exact n_rl_r (i26_11) hf_τ33 rfl rfl | exact n_rl_r (i26_11) hf_τ36 rfl rfl | exact n_rl_r (i26_11) hf_τ44 rfl rfl | exact n_rl_r (n_rl_r (i26_11) hf_τ51 rfl rfl) hf_τ54 rfl rfl | fail))
    ·
      refine ⟨_, K_X13_next hT (show (τ3.1 16) ≤ (τ3.1 0) from by (first | omega | (simp only [st_s] <;> omega) | assumption | omega | fail)), ?_⟩
      intro τ11 hn_τ11 hf_τ11 hq
      obtain ⟨hT, q9_1, q9_2, q9_3, q9_4, q9_5⟩ := hq
      replace q9_1 : (τ11.1 16) ≤ (τ11.1 0) := q9_1
      replace q9_2 : (τ11.1 17) + (τ11.1 18) ≤ (τ11.1 0) := q9_2
      replace q9_3 : (τ3.1 16) ≤ (τ11.1 16) := q9_3
      replace q9_4 : ¬ (τ3.1 20) = 0 → (τ11.1 20) = (τ3.1 20) := q9_4
      replace q9_5 : (τ11.1 20) = 0 → ¬ (τ11.1 19) = 0 → (τ3.1 16) < (τ11.1 16) ∧ 0 < (τ11.1 18) := q9_5
      replace ag : m_ag σ τ11 := ag_r ag hf_τ11 rfl rfl
      have w0_τ11 : τ11.1 0 = τ3.1 0 := hf_τ11.1 0 (by decide)
      have w3_τ11 : τ11.1 3 = τ3.1 3 := hf_τ11.1 3 (by decide)
      have w4_τ11 : τ11.1 4 = τ3.1 4 := hf_τ11.1 4 (by decide)
      have w5_τ11 : τ11.1 5 = τ3.1 5 := hf_τ11.1 5 (by decide)
      have w6_τ11 : τ11.1 6 = τ3.1 6 := hf_τ11.1 6 (by decide)
      have w7_τ11 : τ11.1 7 = τ3.1 7 := hf_τ11.1 7 (by decide)
      have w8_τ11 : τ11.1 8 = τ3.1 8 := hf_τ11.1 8 (by decide)
      have w9_τ11 : τ11.1 9 = τ3.1 9 := hf_τ11.1 9 (by decide)
      have w10_τ11 : τ11.1 10 = τ3.1 10 := hf_τ11.1 10 (by decide)
      have w11_τ11 : τ11.1 11 = τ3.1 11 := hf_τ11.1 11 (by decide)
      have w22_τ11 : τ11.1 22 = τ3.1 22 := hf_τ11.1 22 (by decide)
      have g6_τ11 : τ11.2.1 6 = τ3.2.1 6 := hf_τ11.2.1 6 (by decide)
      have g7_τ11 : τ11.2.1 7 = τ3.2.1 7 := hf_τ11.2.1 7 (by decide)
      have g8_τ11 : τ11.2.1 8 = τ3.2.1 8 := hf_τ11.2.1 8 (by decide)
      have g10_τ11 : τ11.2.1 10 = τ3.2.1 10 := hf_τ11.2.1 10 (by decide)
      have g11_τ11 : τ11.2.1 11 = τ3.2.1 11 := hf_τ11.2.1 11 (by decide)
      have g12_τ11 : τ11.2.1 12 = τ3.2.1 12 := hf_τ11.2.1 12 (by decide)
      have g14_τ11 : τ11.2.1 14 = τ3.2.1 14 := hf_τ11.2.1 14 (by decide)
      have g15_τ11 : τ11.2.1 15 = τ3.2.1 15 := hf_τ11.2.1 15 (by decide)
      have g16_τ11 : τ11.2.1 16 = τ3.2.1 16 := hf_τ11.2.1 16 (by decide)
      have g17_τ11 : τ11.2.1 17 = τ3.2.1 17 := hf_τ11.2.1 17 (by decide)
      first | (have o6_τ11 := congrArg oc g6_τ11) | skip
      first | (have o7_τ11 := congrArg oc g7_τ11) | skip
      have W0 : τ11.1 0 = σ.1 0 := by first | exact w0_τ11.trans W0 | omega
      have W3 : τ11.1 3 = σ.1 3 := by first | exact w3_τ11.trans W3 | omega
      have W5 : τ11.1 5 = σ.1 5 := by first | exact w5_τ11.trans W5 | omega
      have W7 : τ11.1 7 = σ.1 7 := by first | exact w7_τ11.trans W7 | omega
      have W8 : τ11.1 8 = σ.1 8 := by first | exact w8_τ11.trans W8 | omega
      have W9 : τ11.1 9 = σ.1 9 := by first | exact w9_τ11.trans W9 | omega
      have W10 : τ11.1 10 = σ.1 10 := by first | exact w10_τ11.trans W10 | omega
      have W11 : τ11.1 11 = σ.1 11 := by first | exact w11_τ11.trans W11 | omega
      have W22 : τ11.1 22 = σ.1 22 := by first | exact w22_τ11.trans W22 | omega
      have G6 : τ11.2.1 6 = σ.2.1 6 := (g6_τ11).trans G6
      have G7 : τ11.2.1 7 = σ.2.1 7 := (g7_τ11).trans G7
      have G8 : τ11.2.1 8 = σ.2.1 8 := (g8_τ11).trans G8
      have G10 : τ11.2.1 10 = σ.2.1 10 := (g10_τ11).trans G10
      have G11 : τ11.2.1 11 = σ.2.1 11 := (g11_τ11).trans G11
      have G14 : τ11.2.1 14 = σ.2.1 14 := (g14_τ11).trans G14
      have y14_22_τ11 : τ11.2.1 14 (τ11.1 22) = (τ3.2.1 14) (τ3.1 22) := by rw [g14_τ11, w22_τ11]
      have y15_22_τ11 : τ11.2.1 15 (τ11.1 22) = (τ3.2.1 15) (τ3.1 22) := by rw [g15_τ11, w22_τ11]
      have Z1 : τ11.2.1 14 (τ11.1 22) + τ11.2.1 15 (τ11.1 22) = (τ11.1 6) := by rw [show (τ11.2.1 14 (τ11.1 22) + τ11.2.1 15 (τ11.1 22) = (τ11.1 6)) = (τ3.2.1 14 (τ3.1 22) + τ3.2.1 15 (τ3.1 22) = (τ3.1 6)) from by rw [w6_τ11, w22_τ11, g14_τ11, g15_τ11]]; exact Z1
      have Y20 : ca (τ11.2.1 12) ((τ11.1 3)) ≤ (τ11.1 4) := by rw [show (ca (τ11.2.1 12) ((τ11.1 3)) ≤ (τ11.1 4)) = (ca (τ3.2.1 12) ((τ3.1 3)) ≤ (τ3.1 4)) from by rw [w3_τ11, w4_τ11, g12_τ11]]; exact Y20
      have Y1 : j_l2 (τ11.2.1 6) (τ11.1 3) := by rw [show (j_l2 (τ11.2.1 6) (τ11.1 3)) = (j_l2 (τ3.2.1 6) (τ3.1 3)) from by rw [w3_τ11, g6_τ11]]; exact Y1
      have STt : j_l2 (τ11.2.1 6) (τ11.1 3) := by rw [show (j_l2 (τ11.2.1 6) (τ11.1 3)) = (j_l2 (τ3.2.1 6) (τ3.1 3)) from by rw [w3_τ11, g6_τ11]]; exact STt
      have A6 : ∀ j, (-1) ≤ τ11.2.1 6 j ∧ τ11.2.1 6 j ≤ 999 := fun j => hT.2 6 j
      have A7 : ∀ j, (-1) ≤ τ11.2.1 7 j ∧ τ11.2.1 7 j ≤ 1499 := fun j => hT.2 7 j
      have A8 : ∀ j, 0 ≤ τ11.2.1 8 j ∧ τ11.2.1 8 j ≤ 1 := fun j => hT.2 8 j
      have A10 : ∀ j, (-1) ≤ τ11.2.1 10 j ∧ τ11.2.1 10 j ≤ 999 := fun j => hT.2 10 j
      have A11 : ∀ j, (-1) ≤ τ11.2.1 11 j ∧ τ11.2.1 11 j ≤ 1499 := fun j => hT.2 11 j
      have A12 : ∀ j, 0 ≤ τ11.2.1 12 j ∧ τ11.2.1 12 j ≤ 1 := fun j => hT.2 12 j
      have A14 : ∀ j, 0 ≤ τ11.2.1 14 j ∧ τ11.2.1 14 j ≤ 30000 := fun j => hT.2 14 j
      have A15 : ∀ j, 0 ≤ τ11.2.1 15 j ∧ τ11.2.1 15 j ≤ 300 := fun j => hT.2 15 j
      have A16 : ∀ j, 0 ≤ τ11.2.1 16 j ∧ τ11.2.1 16 j ≤ 999 := fun j => hT.2 16 j
      have A17 : ∀ j, (-1) ≤ τ11.2.1 17 j ∧ τ11.2.1 17 j ≤ 1499 := fun j => hT.2 17 j
      have v0 : 0 ≤ τ11.1 0 ∧ τ11.1 0 ≤ 60000 := hT.1 0
      have v3 : 0 ≤ τ11.1 3 ∧ τ11.1 3 ≤ 1000 := hT.1 3
      have v4 : 0 ≤ τ11.1 4 ∧ τ11.1 4 ≤ 100 := hT.1 4
      have v5 : 0 ≤ τ11.1 5 ∧ τ11.1 5 ≤ 1500 := hT.1 5
      have v6 : 0 ≤ τ11.1 6 ∧ τ11.1 6 ≤ 30000 := hT.1 6
      have v7 : 0 ≤ τ11.1 7 ∧ τ11.1 7 ≤ 90000 := hT.1 7
      have v8 : 0 ≤ τ11.1 8 ∧ τ11.1 8 ≤ 20000 := hT.1 8
      have v9 : 0 ≤ τ11.1 9 ∧ τ11.1 9 ≤ 20000 := hT.1 9
      have v10 : (-1) ≤ τ11.1 10 ∧ τ11.1 10 ≤ 999 := hT.1 10
      have v11 : (-1) ≤ τ11.1 11 ∧ τ11.1 11 ≤ 999 := hT.1 11
      have v16 : 0 ≤ τ11.1 16 ∧ τ11.1 16 ≤ 60000 := hT.1 16
      have v17 : 0 ≤ τ11.1 17 ∧ τ11.1 17 ≤ 60000 := hT.1 17
      have v18 : 0 ≤ τ11.1 18 ∧ τ11.1 18 ≤ 60000 := hT.1 18
      have v19 : (-1) ≤ τ11.1 19 ∧ τ11.1 19 ≤ 125 := hT.1 19
      have v20 : 0 ≤ τ11.1 20 ∧ τ11.1 20 ≤ 19 := hT.1 20
      have v22 : 0 ≤ τ11.1 22 ∧ τ11.1 22 ≤ 1499 := hT.1 22
      have a14_22 : 0 ≤ τ11.2.1 14 (τ11.1 22) ∧ τ11.2.1 14 (τ11.1 22) ≤ 30000 := hT.2 14 _
      have a15_22 : 0 ≤ τ11.2.1 15 (τ11.1 22) ∧ τ11.2.1 15 (τ11.1 22) ≤ 300 := hT.2 15 _
      have av6 : σ.1 6 ≤ τ11.1 6 := ag.1 6 (by decide)
      exact l_26 ((3 * ((τ11.1 0) - (τ11.1 16)) + z_0 ((τ11.1 20)) + 1 - z_0 ((τ11.1 19)) : Int).toNat + 1) _ (show (3 * ((τ11.1 0) - (τ11.1 16)) + z_0 ((τ11.1 20)) + 1 - z_0 ((τ11.1 19)) : Int) < (((3 * ((τ11.1 0) - (τ11.1 16)) + z_0 ((τ11.1 20)) + 1 - z_0 ((τ11.1 19)) : Int).toNat + 1 : Nat) : Int) from by (have zz0 := z_e ((τ11.1 20)); have zz1 := z_e ((τ11.1 19)); (first | omega | (simp only [st_s] <;> omega) | assumption | omega | fail))) hT ag (show τ11.1 0 = σ.1 0 from by first | exact W0 | omega) (show τ11.1 3 = σ.1 3 from by first | exact W3 | omega) (show τ11.1 5 = σ.1 5 from by first | exact W5 | omega) (show τ11.1 7 = σ.1 7 from by first | exact W7 | omega) (show τ11.1 8 = σ.1 8 from by first | exact W8 | omega) (show τ11.1 9 = σ.1 9 from by first | exact W9 | omega) (show τ11.1 10 = σ.1 10 from by first | exact W10 | omega) (show τ11.1 11 = σ.1 11 from by first | exact W11 | omega) (show τ11.1 22 = σ.1 22 from by first | exact W22 | omega) G6 G7 G8 G10 G11 G14 (show (τ11.1 16) ≤ (τ11.1 0) from by (first | omega | (simp only [st_s] <;> omega) | assumption | omega | fail)) (show (τ11.1 17) + (τ11.1 18) ≤ (τ11.1 0) from by (first | omega | (simp only [st_s] <;> omega) | assumption | omega | fail)) (show oc (τ11.2.1 6) < 4096 from by (first | omega | (simp only [st_s] <;> omega) | assumption | omega | fail)) (show oc (τ11.2.1 7) < 4096 from by (first | omega | (simp only [st_s] <;> omega) | assumption | omega | fail)) (show ¬ (σ.1 20) = 0 → (τ11.1 20) = (σ.1 20) from by (first | omega | (simp only [st_s] <;> omega) | assumption | omega | fail)) (show τ11.2.1 14 (τ11.1 22) + τ11.2.1 15 (τ11.1 22) = (τ11.1 6) from Z1) (show ca (τ11.2.1 12) ((τ11.1 3)) ≤ (τ11.1 4) from Y20) (show (τ11.1 20) = 0 → 1 ≤ τ11.2.1 15 (τ11.1 22) from by (first | omega | (simp only [st_s] <;> omega) | assumption | omega | fail)) (show (σ.1 16) ≤ (τ11.1 16) from by (first | omega | (simp only [st_s] <;> omega) | assumption | omega | fail)) (show (τ11.1 20) = 0 → n_N (τ11.2.1 14 (τ11.1 22)) (τ11.2.1 14 (τ11.1 22) + τ11.2.1 15 (τ11.1 22)) (σ.1 3) (σ.2.1 8) (σ.2.1 11) (τ11.2.1 12) (τ11.2.1 16) (τ11.2.1 17) from by (intro z; first | (exfalso; omega) | exact r57 (by omega) | (rw [g14_τ11, g15_τ11, g12_τ11, g16_τ11, g17_τ11, w22_τ11]; exact r57 (by omega)) | exact nn3)) (show n_rl σ τ11 from by (first | exact n_rl_h hf_τ3 rfl rfl | exact n_rl_t (n_rl_h hf_τ3 rfl rfl) q5_8 | exact n_rl_r (n_rl_h hf_τ3 rfl rfl) hf_τ11 rfl rfl | exact n_rl_r (n_rl_t (n_rl_h hf_τ3 rfl rfl) q5_8) hf_τ11 rfl rfl | exact n_rl_r (i26_11) hf_τ33 rfl rfl | exact n_rl_r (i26_11) hf_τ36 rfl rfl | exact n_rl_r (i26_11) hf_τ44 rfl rfl | exact n_rl_r (n_rl_r (i26_11) hf_τ51 rfl rfl) hf_τ54 rfl rfl | fail))
  ·
    refine ⟨_, K3_X13_readFirst hT (show (τ3.1 17) + (τ3.1 18) ≤ (τ3.1 0) from by (first | omega | (simp only [st_s] <;> omega) | assumption | omega | fail)) (show oc (τ3.2.1 6) < 4096 from by (first | omega | (simp only [st_s] <;> omega) | assumption | omega | fail)) (show τ3.2.1 15 (τ3.1 22) = 0 from by (first | omega | (simp only [st_s] <;> omega) | assumption | omega | fail)) (show (τ3.1 22) = (τ3.1 5) from by (first | omega | (simp only [st_s] <;> omega) | assumption | omega | fail)) (show τ3.2.1 14 (τ3.1 22) + τ3.2.1 15 (τ3.1 22) = (τ3.1 6) from Z1) (show ca (τ3.2.1 12) ((τ3.1 3)) ≤ (τ3.1 4) from Y20) (show j_l2 (τ3.2.1 6) (τ3.1 3) from STt), ?_⟩
    intro τ7 hn_τ7 hf_τ7 hq
    obtain ⟨hT, q5_1, q5_2, q5_3, q5_4, q5_5, q5_6, q5_7, q5_8, q5_9⟩ := hq
    replace q5_1 : (τ7.1 20) = 0 → τ7.2.1 15 (τ7.1 22) = 1 := q5_1
    replace q5_2 : τ7.2.1 15 (τ7.1 22) ≤ 1 := q5_2
    replace q5_3 : ¬ (τ3.1 20) = 0 → (τ7.1 20) = (τ3.1 20) := q5_3
    replace q5_4 : τ7.2.1 14 (τ7.1 22) + τ7.2.1 15 (τ7.1 22) = (τ7.1 6) := q5_4
    replace q5_5 : ca (τ7.2.1 12) ((τ7.1 3)) ≤ (τ7.1 4) := q5_5
    replace q5_6 : m_ag τ3 τ7 := q5_6
    replace q5_7 : (τ7.1 20) = 0 → n_N (τ7.2.1 14 (τ7.1 22)) (τ7.2.1 14 (τ7.1 22) + τ7.2.1 15 (τ7.1 22)) (τ3.1 3) (τ3.2.1 8) (τ3.2.1 11) (τ7.2.1 12) (τ7.2.1 16) (τ7.2.1 17) := q5_7
    replace q5_8 : n_rl τ3 τ7 := q5_8
    replace q5_9 : ∀ s : Int, ¬ τ3.2.1 12 s = 0 → ¬ τ7.2.1 12 s = 0 := q5_9
    replace ag : m_ag σ τ7 := ag_t ag q5_6 rfl
    have w0_τ7 : τ7.1 0 = τ3.1 0 := hf_τ7.1 0 (by decide)
    have w3_τ7 : τ7.1 3 = τ3.1 3 := hf_τ7.1 3 (by decide)
    have w5_τ7 : τ7.1 5 = τ3.1 5 := hf_τ7.1 5 (by decide)
    have w7_τ7 : τ7.1 7 = τ3.1 7 := hf_τ7.1 7 (by decide)
    have w8_τ7 : τ7.1 8 = τ3.1 8 := hf_τ7.1 8 (by decide)
    have w9_τ7 : τ7.1 9 = τ3.1 9 := hf_τ7.1 9 (by decide)
    have w10_τ7 : τ7.1 10 = τ3.1 10 := hf_τ7.1 10 (by decide)
    have w11_τ7 : τ7.1 11 = τ3.1 11 := hf_τ7.1 11 (by decide)
    have w16_τ7 : τ7.1 16 = τ3.1 16 := hf_τ7.1 16 (by decide)
    have w17_τ7 : τ7.1 17 = τ3.1 17 := hf_τ7.1 17 (by decide)
    have w18_τ7 : τ7.1 18 = τ3.1 18 := hf_τ7.1 18 (by decide)
    have w19_τ7 : τ7.1 19 = τ3.1 19 := hf_τ7.1 19 (by decide)
    have w22_τ7 : τ7.1 22 = τ3.1 22 := hf_τ7.1 22 (by decide)
    have g6_τ7 : τ7.2.1 6 = τ3.2.1 6 := hf_τ7.2.1 6 (by decide)
    have g7_τ7 : τ7.2.1 7 = τ3.2.1 7 := hf_τ7.2.1 7 (by decide)
    have g8_τ7 : τ7.2.1 8 = τ3.2.1 8 := hf_τ7.2.1 8 (by decide)
    have g10_τ7 : τ7.2.1 10 = τ3.2.1 10 := hf_τ7.2.1 10 (by decide)
    have g11_τ7 : τ7.2.1 11 = τ3.2.1 11 := hf_τ7.2.1 11 (by decide)
    have g14_τ7 : τ7.2.1 14 = τ3.2.1 14 := hf_τ7.2.1 14 (by decide)
    first | (have o6_τ7 := congrArg oc g6_τ7) | skip
    first | (have o7_τ7 := congrArg oc g7_τ7) | skip
    have W0 : τ7.1 0 = σ.1 0 := by first | exact w0_τ7.trans W0 | omega
    have W3 : τ7.1 3 = σ.1 3 := by first | exact w3_τ7.trans W3 | omega
    have W5 : τ7.1 5 = σ.1 5 := by first | exact w5_τ7.trans W5 | omega
    have W7 : τ7.1 7 = σ.1 7 := by first | exact w7_τ7.trans W7 | omega
    have W8 : τ7.1 8 = σ.1 8 := by first | exact w8_τ7.trans W8 | omega
    have W9 : τ7.1 9 = σ.1 9 := by first | exact w9_τ7.trans W9 | omega
    have W10 : τ7.1 10 = σ.1 10 := by first | exact w10_τ7.trans W10 | omega
    have W11 : τ7.1 11 = σ.1 11 := by first | exact w11_τ7.trans W11 | omega
    have W22 : τ7.1 22 = σ.1 22 := by first | exact w22_τ7.trans W22 | omega
    have G6 : τ7.2.1 6 = σ.2.1 6 := (g6_τ7).trans G6
    have G7 : τ7.2.1 7 = σ.2.1 7 := (g7_τ7).trans G7
    have G8 : τ7.2.1 8 = σ.2.1 8 := (g8_τ7).trans G8
    have G10 : τ7.2.1 10 = σ.2.1 10 := (g10_τ7).trans G10
    have G11 : τ7.2.1 11 = σ.2.1 11 := (g11_τ7).trans G11
    have G14 : τ7.2.1 14 = σ.2.1 14 := (g14_τ7).trans G14
    have y14_22_τ7 : τ7.2.1 14 (τ7.1 22) = (τ3.2.1 14) (τ3.1 22) := by rw [g14_τ7, w22_τ7]
    have Z1 : τ7.2.1 14 (τ7.1 22) + τ7.2.1 15 (τ7.1 22) = (τ7.1 6) := q5_4
    have Y20 : ca (τ7.2.1 12) ((τ7.1 3)) ≤ (τ7.1 4) := q5_5
    have Y1 : j_l2 (τ7.2.1 6) (τ7.1 3) := by rw [show (j_l2 (τ7.2.1 6) (τ7.1 3)) = (j_l2 (τ3.2.1 6) (τ3.1 3)) from by rw [w3_τ7, g6_τ7]]; exact Y1
    have STt : j_l2 (τ7.2.1 6) (τ7.1 3) := by rw [show (j_l2 (τ7.2.1 6) (τ7.1 3)) = (j_l2 (τ3.2.1 6) (τ3.1 3)) from by rw [w3_τ7, g6_τ7]]; exact STt
    have A6 : ∀ j, (-1) ≤ τ7.2.1 6 j ∧ τ7.2.1 6 j ≤ 999 := fun j => hT.2 6 j
    have A7 : ∀ j, (-1) ≤ τ7.2.1 7 j ∧ τ7.2.1 7 j ≤ 1499 := fun j => hT.2 7 j
    have A8 : ∀ j, 0 ≤ τ7.2.1 8 j ∧ τ7.2.1 8 j ≤ 1 := fun j => hT.2 8 j
    have A10 : ∀ j, (-1) ≤ τ7.2.1 10 j ∧ τ7.2.1 10 j ≤ 999 := fun j => hT.2 10 j
    have A11 : ∀ j, (-1) ≤ τ7.2.1 11 j ∧ τ7.2.1 11 j ≤ 1499 := fun j => hT.2 11 j
    have A12 : ∀ j, 0 ≤ τ7.2.1 12 j ∧ τ7.2.1 12 j ≤ 1 := fun j => hT.2 12 j
    have A14 : ∀ j, 0 ≤ τ7.2.1 14 j ∧ τ7.2.1 14 j ≤ 30000 := fun j => hT.2 14 j
    have A15 : ∀ j, 0 ≤ τ7.2.1 15 j ∧ τ7.2.1 15 j ≤ 300 := fun j => hT.2 15 j
    have A16 : ∀ j, 0 ≤ τ7.2.1 16 j ∧ τ7.2.1 16 j ≤ 999 := fun j => hT.2 16 j
    have A17 : ∀ j, (-1) ≤ τ7.2.1 17 j ∧ τ7.2.1 17 j ≤ 1499 := fun j => hT.2 17 j
    have v0 : 0 ≤ τ7.1 0 ∧ τ7.1 0 ≤ 60000 := hT.1 0
    have v3 : 0 ≤ τ7.1 3 ∧ τ7.1 3 ≤ 1000 := hT.1 3
    have v4 : 0 ≤ τ7.1 4 ∧ τ7.1 4 ≤ 100 := hT.1 4
    have v5 : 0 ≤ τ7.1 5 ∧ τ7.1 5 ≤ 1500 := hT.1 5
    have v6 : 0 ≤ τ7.1 6 ∧ τ7.1 6 ≤ 30000 := hT.1 6
    have v7 : 0 ≤ τ7.1 7 ∧ τ7.1 7 ≤ 90000 := hT.1 7
    have v8 : 0 ≤ τ7.1 8 ∧ τ7.1 8 ≤ 20000 := hT.1 8
    have v9 : 0 ≤ τ7.1 9 ∧ τ7.1 9 ≤ 20000 := hT.1 9
    have v10 : (-1) ≤ τ7.1 10 ∧ τ7.1 10 ≤ 999 := hT.1 10
    have v11 : (-1) ≤ τ7.1 11 ∧ τ7.1 11 ≤ 999 := hT.1 11
    have v16 : 0 ≤ τ7.1 16 ∧ τ7.1 16 ≤ 60000 := hT.1 16
    have v17 : 0 ≤ τ7.1 17 ∧ τ7.1 17 ≤ 60000 := hT.1 17
    have v18 : 0 ≤ τ7.1 18 ∧ τ7.1 18 ≤ 60000 := hT.1 18
    have v19 : (-1) ≤ τ7.1 19 ∧ τ7.1 19 ≤ 125 := hT.1 19
    have v20 : 0 ≤ τ7.1 20 ∧ τ7.1 20 ≤ 19 := hT.1 20
    have v22 : 0 ≤ τ7.1 22 ∧ τ7.1 22 ≤ 1499 := hT.1 22
    have a14_22 : 0 ≤ τ7.2.1 14 (τ7.1 22) ∧ τ7.2.1 14 (τ7.1 22) ≤ 30000 := hT.2 14 _
    have a15_22 : 0 ≤ τ7.2.1 15 (τ7.1 22) ∧ τ7.2.1 15 (τ7.1 22) ≤ 300 := hT.2 15 _
    have av6 : σ.1 6 ≤ τ7.1 6 := ag.1 6 (by decide)
    have r57 : τ7.1 20 = 0 → n_N (τ7.2.1 14 (τ7.1 22)) (τ7.2.1 14 (τ7.1 22) + τ7.2.1 15 (τ7.1 22)) (σ.1 3) (σ.2.1 8) (σ.2.1 11) (τ7.2.1 12) (τ7.2.1 16) (τ7.2.1 17) := fun z => by (have w := q5_7 z; rw [w3_τ3, g8_τ3, g11_τ3] at w; exact w)
    refine h15 _ _ ?_
    refine ⟨fun c8 => ?_, fun c8 => ?_⟩
    ·
      exact l_26 ((3 * ((τ7.1 0) - (τ7.1 16)) + z_0 ((τ7.1 20)) + 1 - z_0 ((τ7.1 19)) : Int).toNat + 1) _ (show (3 * ((τ7.1 0) - (τ7.1 16)) + z_0 ((τ7.1 20)) + 1 - z_0 ((τ7.1 19)) : Int) < (((3 * ((τ7.1 0) - (τ7.1 16)) + z_0 ((τ7.1 20)) + 1 - z_0 ((τ7.1 19)) : Int).toNat + 1 : Nat) : Int) from by (have zz0 := z_e ((τ7.1 20)); have zz1 := z_e ((τ7.1 19)); (first | omega | (simp only [st_s] <;> omega) | assumption | omega | fail))) hT ag (show τ7.1 0 = σ.1 0 from by first | exact W0 | omega) (show τ7.1 3 = σ.1 3 from by first | exact W3 | omega) (show τ7.1 5 = σ.1 5 from by first | exact W5 | omega) (show τ7.1 7 = σ.1 7 from by first | exact W7 | omega) (show τ7.1 8 = σ.1 8 from by first | exact W8 | omega) (show τ7.1 9 = σ.1 9 from by first | exact W9 | omega) (show τ7.1 10 = σ.1 10 from by first | exact W10 | omega) (show τ7.1 11 = σ.1 11 from by first | exact W11 | omega) (show τ7.1 22 = σ.1 22 from by first | exact W22 | omega) G6 G7 G8 G10 G11 G14 (show (τ7.1 16) ≤ (τ7.1 0) from by (first | omega | (simp only [st_s] <;> omega) | assumption | omega | fail)) (show (τ7.1 17) + (τ7.1 18) ≤ (τ7.1 0) from by (first | omega | (simp only [st_s] <;> omega) | assumption | omega | fail)) (show oc (τ7.2.1 6) < 4096 from by (first | omega | (simp only [st_s] <;> omega) | assumption | omega | fail)) (show oc (τ7.2.1 7) < 4096 from by (first | omega | (simp only [st_s] <;> omega) | assumption | omega | fail)) (show ¬ (σ.1 20) = 0 → (τ7.1 20) = (σ.1 20) from by (first | omega | (simp only [st_s] <;> omega) | assumption | omega | fail)) (show τ7.2.1 14 (τ7.1 22) + τ7.2.1 15 (τ7.1 22) = (τ7.1 6) from Z1) (show ca (τ7.2.1 12) ((τ7.1 3)) ≤ (τ7.1 4) from Y20) (show (τ7.1 20) = 0 → 1 ≤ τ7.2.1 15 (τ7.1 22) from by (first | omega | (simp only [st_s] <;> omega) | assumption | omega | fail)) (show (σ.1 16) ≤ (τ7.1 16) from by (first | omega | (simp only [st_s] <;> omega) | assumption | omega | fail)) (show (τ7.1 20) = 0 → n_N (τ7.2.1 14 (τ7.1 22)) (τ7.2.1 14 (τ7.1 22) + τ7.2.1 15 (τ7.1 22)) (σ.1 3) (σ.2.1 8) (σ.2.1 11) (τ7.2.1 12) (τ7.2.1 16) (τ7.2.1 17) from by (intro z; first | (exfalso; omega) | exact r57 (by omega) | (rw [g14_τ11, g15_τ11, g12_τ11, g16_τ11, g17_τ11, w22_τ11]; exact r57 (by omega)) | exact nn3)) (show n_rl σ τ7 from by (first | exact n_rl_h hf_τ3 rfl rfl | exact n_rl_t (n_rl_h hf_τ3 rfl rfl) q5_8 | exact n_rl_r (n_rl_h hf_τ3 rfl rfl) hf_τ11 rfl rfl | exact n_rl_r (n_rl_t (n_rl_h hf_τ3 rfl rfl) q5_8) hf_τ11 rfl rfl | exact n_rl_r (i26_11) hf_τ33 rfl rfl | exact n_rl_r (i26_11) hf_τ36 rfl rfl | exact n_rl_r (i26_11) hf_τ44 rfl rfl | exact n_rl_r (n_rl_r (i26_11) hf_τ51 rfl rfl) hf_τ54 rfl rfl | fail))
    ·
      refine ⟨_, K_X13_next hT (show (τ7.1 16) ≤ (τ7.1 0) from by (first | omega | (simp only [st_s] <;> omega) | assumption | omega | fail)), ?_⟩
      intro τ11 hn_τ11 hf_τ11 hq
      obtain ⟨hT, q9_1, q9_2, q9_3, q9_4, q9_5⟩ := hq
      replace q9_1 : (τ11.1 16) ≤ (τ11.1 0) := q9_1
      replace q9_2 : (τ11.1 17) + (τ11.1 18) ≤ (τ11.1 0) := q9_2
      replace q9_3 : (τ7.1 16) ≤ (τ11.1 16) := q9_3
      replace q9_4 : ¬ (τ7.1 20) = 0 → (τ11.1 20) = (τ7.1 20) := q9_4
      replace q9_5 : (τ11.1 20) = 0 → ¬ (τ11.1 19) = 0 → (τ7.1 16) < (τ11.1 16) ∧ 0 < (τ11.1 18) := q9_5
      replace ag : m_ag σ τ11 := ag_r ag hf_τ11 rfl rfl
      have w0_τ11 : τ11.1 0 = τ7.1 0 := hf_τ11.1 0 (by decide)
      have w3_τ11 : τ11.1 3 = τ7.1 3 := hf_τ11.1 3 (by decide)
      have w4_τ11 : τ11.1 4 = τ7.1 4 := hf_τ11.1 4 (by decide)
      have w5_τ11 : τ11.1 5 = τ7.1 5 := hf_τ11.1 5 (by decide)
      have w6_τ11 : τ11.1 6 = τ7.1 6 := hf_τ11.1 6 (by decide)
      have w7_τ11 : τ11.1 7 = τ7.1 7 := hf_τ11.1 7 (by decide)
      have w8_τ11 : τ11.1 8 = τ7.1 8 := hf_τ11.1 8 (by decide)
      have w9_τ11 : τ11.1 9 = τ7.1 9 := hf_τ11.1 9 (by decide)
      have w10_τ11 : τ11.1 10 = τ7.1 10 := hf_τ11.1 10 (by decide)
      have w11_τ11 : τ11.1 11 = τ7.1 11 := hf_τ11.1 11 (by decide)
      have w22_τ11 : τ11.1 22 = τ7.1 22 := hf_τ11.1 22 (by decide)
      have g6_τ11 : τ11.2.1 6 = τ7.2.1 6 := hf_τ11.2.1 6 (by decide)
      have g7_τ11 : τ11.2.1 7 = τ7.2.1 7 := hf_τ11.2.1 7 (by decide)
      have g8_τ11 : τ11.2.1 8 = τ7.2.1 8 := hf_τ11.2.1 8 (by decide)
      have g10_τ11 : τ11.2.1 10 = τ7.2.1 10 := hf_τ11.2.1 10 (by decide)
      have g11_τ11 : τ11.2.1 11 = τ7.2.1 11 := hf_τ11.2.1 11 (by decide)
      have g12_τ11 : τ11.2.1 12 = τ7.2.1 12 := hf_τ11.2.1 12 (by decide)
      have g14_τ11 : τ11.2.1 14 = τ7.2.1 14 := hf_τ11.2.1 14 (by decide)
      have g15_τ11 : τ11.2.1 15 = τ7.2.1 15 := hf_τ11.2.1 15 (by decide)
      have g16_τ11 : τ11.2.1 16 = τ7.2.1 16 := hf_τ11.2.1 16 (by decide)
      have g17_τ11 : τ11.2.1 17 = τ7.2.1 17 := hf_τ11.2.1 17 (by decide)
      first | (have o6_τ11 := congrArg oc g6_τ11) | skip
      first | (have o7_τ11 := congrArg oc g7_τ11) | skip
      have W0 : τ11.1 0 = σ.1 0 := by first | exact w0_τ11.trans W0 | omega
      have W3 : τ11.1 3 = σ.1 3 := by first | exact w3_τ11.trans W3 | omega
      have W5 : τ11.1 5 = σ.1 5 := by first | exact w5_τ11.trans W5 | omega
      have W7 : τ11.1 7 = σ.1 7 := by first | exact w7_τ11.trans W7 | omega
      have W8 : τ11.1 8 = σ.1 8 := by first | exact w8_τ11.trans W8 | omega
      have W9 : τ11.1 9 = σ.1 9 := by first | exact w9_τ11.trans W9 | omega
      have W10 : τ11.1 10 = σ.1 10 := by first | exact w10_τ11.trans W10 | omega
      have W11 : τ11.1 11 = σ.1 11 := by first | exact w11_τ11.trans W11 | omega
      have W22 : τ11.1 22 = σ.1 22 := by first | exact w22_τ11.trans W22 | omega
      have G6 : τ11.2.1 6 = σ.2.1 6 := (g6_τ11).trans G6
      have G7 : τ11.2.1 7 = σ.2.1 7 := (g7_τ11).trans G7
      have G8 : τ11.2.1 8 = σ.2.1 8 := (g8_τ11).trans G8
      have G10 : τ11.2.1 10 = σ.2.1 10 := (g10_τ11).trans G10
      have G11 : τ11.2.1 11 = σ.2.1 11 := (g11_τ11).trans G11
      have G14 : τ11.2.1 14 = σ.2.1 14 := (g14_τ11).trans G14
      have y14_22_τ11 : τ11.2.1 14 (τ11.1 22) = (τ7.2.1 14) (τ7.1 22) := by rw [g14_τ11, w22_τ11]
      have y15_22_τ11 : τ11.2.1 15 (τ11.1 22) = (τ7.2.1 15) (τ7.1 22) := by rw [g15_τ11, w22_τ11]
      have Z1 : τ11.2.1 14 (τ11.1 22) + τ11.2.1 15 (τ11.1 22) = (τ11.1 6) := by rw [show (τ11.2.1 14 (τ11.1 22) + τ11.2.1 15 (τ11.1 22) = (τ11.1 6)) = (τ7.2.1 14 (τ7.1 22) + τ7.2.1 15 (τ7.1 22) = (τ7.1 6)) from by rw [w6_τ11, w22_τ11, g14_τ11, g15_τ11]]; exact Z1
      have Y20 : ca (τ11.2.1 12) ((τ11.1 3)) ≤ (τ11.1 4) := by rw [show (ca (τ11.2.1 12) ((τ11.1 3)) ≤ (τ11.1 4)) = (ca (τ7.2.1 12) ((τ7.1 3)) ≤ (τ7.1 4)) from by rw [w3_τ11, w4_τ11, g12_τ11]]; exact Y20
      have Y1 : j_l2 (τ11.2.1 6) (τ11.1 3) := by rw [show (j_l2 (τ11.2.1 6) (τ11.1 3)) = (j_l2 (τ7.2.1 6) (τ7.1 3)) from by rw [w3_τ11, g6_τ11]]; exact Y1
      have STt : j_l2 (τ11.2.1 6) (τ11.1 3) := by rw [show (j_l2 (τ11.2.1 6) (τ11.1 3)) = (j_l2 (τ7.2.1 6) (τ7.1 3)) from by rw [w3_τ11, g6_τ11]]; exact STt
      have A6 : ∀ j, (-1) ≤ τ11.2.1 6 j ∧ τ11.2.1 6 j ≤ 999 := fun j => hT.2 6 j
      have A7 : ∀ j, (-1) ≤ τ11.2.1 7 j ∧ τ11.2.1 7 j ≤ 1499 := fun j => hT.2 7 j
      have A8 : ∀ j, 0 ≤ τ11.2.1 8 j ∧ τ11.2.1 8 j ≤ 1 := fun j => hT.2 8 j
      have A10 : ∀ j, (-1) ≤ τ11.2.1 10 j ∧ τ11.2.1 10 j ≤ 999 := fun j => hT.2 10 j
      have A11 : ∀ j, (-1) ≤ τ11.2.1 11 j ∧ τ11.2.1 11 j ≤ 1499 := fun j => hT.2 11 j
      have A12 : ∀ j, 0 ≤ τ11.2.1 12 j ∧ τ11.2.1 12 j ≤ 1 := fun j => hT.2 12 j
      have A14 : ∀ j, 0 ≤ τ11.2.1 14 j ∧ τ11.2.1 14 j ≤ 30000 := fun j => hT.2 14 j
      have A15 : ∀ j, 0 ≤ τ11.2.1 15 j ∧ τ11.2.1 15 j ≤ 300 := fun j => hT.2 15 j
      have A16 : ∀ j, 0 ≤ τ11.2.1 16 j ∧ τ11.2.1 16 j ≤ 999 := fun j => hT.2 16 j
      have A17 : ∀ j, (-1) ≤ τ11.2.1 17 j ∧ τ11.2.1 17 j ≤ 1499 := fun j => hT.2 17 j
      have v0 : 0 ≤ τ11.1 0 ∧ τ11.1 0 ≤ 60000 := hT.1 0
      have v3 : 0 ≤ τ11.1 3 ∧ τ11.1 3 ≤ 1000 := hT.1 3
      have v4 : 0 ≤ τ11.1 4 ∧ τ11.1 4 ≤ 100 := hT.1 4
      have v5 : 0 ≤ τ11.1 5 ∧ τ11.1 5 ≤ 1500 := hT.1 5
      have v6 : 0 ≤ τ11.1 6 ∧ τ11.1 6 ≤ 30000 := hT.1 6
      have v7 : 0 ≤ τ11.1 7 ∧ τ11.1 7 ≤ 90000 := hT.1 7
      have v8 : 0 ≤ τ11.1 8 ∧ τ11.1 8 ≤ 20000 := hT.1 8
      have v9 : 0 ≤ τ11.1 9 ∧ τ11.1 9 ≤ 20000 := hT.1 9
      have v10 : (-1) ≤ τ11.1 10 ∧ τ11.1 10 ≤ 999 := hT.1 10
      have v11 : (-1) ≤ τ11.1 11 ∧ τ11.1 11 ≤ 999 := hT.1 11
      have v16 : 0 ≤ τ11.1 16 ∧ τ11.1 16 ≤ 60000 := hT.1 16
      have v17 : 0 ≤ τ11.1 17 ∧ τ11.1 17 ≤ 60000 := hT.1 17
      have v18 : 0 ≤ τ11.1 18 ∧ τ11.1 18 ≤ 60000 := hT.1 18
      have v19 : (-1) ≤ τ11.1 19 ∧ τ11.1 19 ≤ 125 := hT.1 19
      have v20 : 0 ≤ τ11.1 20 ∧ τ11.1 20 ≤ 19 := hT.1 20
      have v22 : 0 ≤ τ11.1 22 ∧ τ11.1 22 ≤ 1499 := hT.1 22
      have a14_22 : 0 ≤ τ11.2.1 14 (τ11.1 22) ∧ τ11.2.1 14 (τ11.1 22) ≤ 30000 := hT.2 14 _
      have a15_22 : 0 ≤ τ11.2.1 15 (τ11.1 22) ∧ τ11.2.1 15 (τ11.1 22) ≤ 300 := hT.2 15 _
      have av6 : σ.1 6 ≤ τ11.1 6 := ag.1 6 (by decide)
      exact l_26 ((3 * ((τ11.1 0) - (τ11.1 16)) + z_0 ((τ11.1 20)) + 1 - z_0 ((τ11.1 19)) : Int).toNat + 1) _ (show (3 * ((τ11.1 0) - (τ11.1 16)) + z_0 ((τ11.1 20)) + 1 - z_0 ((τ11.1 19)) : Int) < (((3 * ((τ11.1 0) - (τ11.1 16)) + z_0 ((τ11.1 20)) + 1 - z_0 ((τ11.1 19)) : Int).toNat + 1 : Nat) : Int) from by (have zz0 := z_e ((τ11.1 20)); have zz1 := z_e ((τ11.1 19)); (first | omega | (simp only [st_s] <;> omega) | assumption | omega | fail))) hT ag (show τ11.1 0 = σ.1 0 from by first | exact W0 | omega) (show τ11.1 3 = σ.1 3 from by first | exact W3 | omega) (show τ11.1 5 = σ.1 5 from by first | exact W5 | omega) (show τ11.1 7 = σ.1 7 from by first | exact W7 | omega) (show τ11.1 8 = σ.1 8 from by first | exact W8 | omega) (show τ11.1 9 = σ.1 9 from by first | exact W9 | omega) (show τ11.1 10 = σ.1 10 from by first | exact W10 | omega) (show τ11.1 11 = σ.1 11 from by first | exact W11 | omega) (show τ11.1 22 = σ.1 22 from by first | exact W22 | omega) G6 G7 G8 G10 G11 G14 (show (τ11.1 16) ≤ (τ11.1 0) from by (first | omega | (simp only [st_s] <;> omega) | assumption | omega | fail)) (show (τ11.1 17) + (τ11.1 18) ≤ (τ11.1 0) from by (first | omega | (simp only [st_s] <;> omega) | assumption | omega | fail)) (show oc (τ11.2.1 6) < 4096 from by (first | omega | (simp only [st_s] <;> omega) | assumption | omega | fail)) (show oc (τ11.2.1 7) < 4096 from by (first | omega | (simp only [st_s] <;> omega) | assumption | omega | fail)) (show ¬ (σ.1 20) = 0 → (τ11.1 20) = (σ.1 20) from by (first | omega | (simp only [st_s] <;> omega) | assumption | omega | fail)) (show τ11.2.1 14 (τ11.1 22) + τ11.2.1 15 (τ11.1 22) = (τ11.1 6) from Z1) (show ca (τ11.2.1 12) ((τ11.1 3)) ≤ (τ11.1 4) from Y20) (show (τ11.1 20) = 0 → 1 ≤ τ11.2.1 15 (τ11.1 22) from by (first | omega | (simp only [st_s] <;> omega) | assumption | omega | fail)) (show (σ.1 16) ≤ (τ11.1 16) from by (first | omega | (simp only [st_s] <;> omega) | assumption | omega | fail)) (show (τ11.1 20) = 0 → n_N (τ11.2.1 14 (τ11.1 22)) (τ11.2.1 14 (τ11.1 22) + τ11.2.1 15 (τ11.1 22)) (σ.1 3) (σ.2.1 8) (σ.2.1 11) (τ11.2.1 12) (τ11.2.1 16) (τ11.2.1 17) from by (intro z; first | (exfalso; omega) | exact r57 (by omega) | (rw [g14_τ11, g15_τ11, g12_τ11, g16_τ11, g17_τ11, w22_τ11]; exact r57 (by omega)) | exact nn3)) (show n_rl σ τ11 from by (first | exact n_rl_h hf_τ3 rfl rfl | exact n_rl_t (n_rl_h hf_τ3 rfl rfl) q5_8 | exact n_rl_r (n_rl_h hf_τ3 rfl rfl) hf_τ11 rfl rfl | exact n_rl_r (n_rl_t (n_rl_h hf_τ3 rfl rfl) q5_8) hf_τ11 rfl rfl | exact n_rl_r (i26_11) hf_τ33 rfl rfl | exact n_rl_r (i26_11) hf_τ36 rfl rfl | exact n_rl_r (i26_11) hf_τ44 rfl rfl | exact n_rl_r (n_rl_r (i26_11) hf_τ51 rfl rfl) hf_τ54 rfl rfl | fail))
set_option maxHeartbeats 1000000 in
theorem K3_X13_markOf {n1 : Int} {σ : S0} (hT : m_T σ) (p1 : 0 ≤ n1) (p2 : n1 < 1500) : W_X13_markOf n1 σ (fun (τ : S0) => (m_T τ) ∧ (∀ s : Int, ¬ τ.2.1 38 s = 0 → ¬ σ.2.1 38 s = 0 ∨ ∃ p : Int, σ.2.1 14 n1 ≤ p ∧ p < σ.2.1 14 n1 + σ.2.1 15 n1 ∧ σ.2.1 16 p = s) ∧ (∀ s : Int, ¬ σ.2.1 38 s = 0 → ¬ τ.2.1 38 s = 0) ∧ (∀ p : Int, σ.2.1 14 n1 ≤ p → p < σ.2.1 14 n1 + σ.2.1 15 n1 → ¬ τ.2.1 38 (σ.2.1 16 p) = 0)) := by
  have A14 : ∀ j, 0 ≤ σ.2.1 14 j ∧ σ.2.1 14 j ≤ 30000 := fun j => hT.2 14 j
  have A15 : ∀ j, 0 ≤ σ.2.1 15 j ∧ σ.2.1 15 j ≤ 300 := fun j => hT.2 15 j
  have A16 : ∀ j, 0 ≤ σ.2.1 16 j ∧ σ.2.1 16 j ≤ 999 := fun j => hT.2 16 j
  have A38 : ∀ j, 0 ≤ σ.2.1 38 j ∧ σ.2.1 38 j ≤ 1 := fun j => hT.2 38 j
  have G14 : σ.2.1 14 = σ.2.1 14 := rfl
  have G15 : σ.2.1 15 = σ.2.1 15 := rfl
  have G16 : σ.2.1 16 = σ.2.1 16 := rfl
  intro P7 h7
  have l_7 : ∀ (m_7 : Nat) (u2_7 : Int) (τ_7 : S0), 30301 - u2_7 < (m_7 : Int) → (m_T τ_7) → (τ_7.2.1 14 = σ.2.1 14) → (τ_7.2.1 15 = σ.2.1 15) → (τ_7.2.1 16 = σ.2.1 16) → (0 ≤ u2_7) → (u2_7 ≤ 30300) → (σ.2.1 14 n1 ≤ u2_7) → (∀ s : Int, ¬ τ_7.2.1 38 s = 0 → ¬ σ.2.1 38 s = 0 ∨ ∃ p : Int, σ.2.1 14 n1 ≤ p ∧ p < u2_7 ∧ σ.2.1 16 p = s) → (∀ s : Int, ¬ σ.2.1 38 s = 0 → ¬ τ_7.2.1 38 s = 0) → (∀ p : Int, σ.2.1 14 n1 ≤ p → p < u2_7 → ¬ τ_7.2.1 38 (σ.2.1 16 p) = 0) → (u2_7 = σ.2.1 14 n1 ∨ u2_7 ≤ σ.2.1 14 n1 + σ.2.1 15 n1) → P7 n1 u2_7 τ_7 := by
    intro m_7
    induction m_7 with
    | zero =>
      intro u2_7 τ_7 hm hT G14 G15 G16 i7_1 i7_2 i7_3 i7_4 i7_5 i7_6 i7_7
      have A14 : ∀ j, 0 ≤ τ_7.2.1 14 j ∧ τ_7.2.1 14 j ≤ 30000 := fun j => hT.2 14 j
      have A15 : ∀ j, 0 ≤ τ_7.2.1 15 j ∧ τ_7.2.1 15 j ≤ 300 := fun j => hT.2 15 j
      have A16 : ∀ j, 0 ≤ τ_7.2.1 16 j ∧ τ_7.2.1 16 j ≤ 999 := fun j => hT.2 16 j
      have A38 : ∀ j, 0 ≤ τ_7.2.1 38 j ∧ τ_7.2.1 38 j ≤ 1 := fun j => hT.2 38 j
      exfalso; (first | omega | (simp only [st_s] <;> omega) | assumption | omega | fail)
    | succ m_7 ih_7 =>
      intro u2_7 τ_7 hm_7 hT G14 G15 G16 i7_1 i7_2 i7_3 i7_4 i7_5 i7_6 i7_7
      have A14 : ∀ j, 0 ≤ τ_7.2.1 14 j ∧ τ_7.2.1 14 j ≤ 30000 := fun j => hT.2 14 j
      have A15 : ∀ j, 0 ≤ τ_7.2.1 15 j ∧ τ_7.2.1 15 j ≤ 300 := fun j => hT.2 15 j
      have A16 : ∀ j, 0 ≤ τ_7.2.1 16 j ∧ τ_7.2.1 16 j ≤ 999 := fun j => hT.2 16 j
      have A38 : ∀ j, 0 ≤ τ_7.2.1 38 j ∧ τ_7.2.1 38 j ≤ 1 := fun j => hT.2 38 j
      refine h7 n1 u2_7 τ_7 ?_
      refine ⟨(show 0 ≤ n1 ∧ n1 < 1501 from by (first | omega | (simp only [st_s] <;> omega) | assumption | omega | fail)), ?_⟩
      intro x4 r_x4 e_x4
      have b_x4 : 0 ≤ x4 ∧ x4 ≤ 30000 := by rw [e_x4]; exact hT.2 14 _
      intro x5 r_x5 e_x5
      have b_x5 : 0 ≤ x5 ∧ x5 ≤ 300 := by rw [e_x5]; exact hT.2 15 _
      refine ⟨(⟨by (first | omega | (simp only [st_s] <;> omega) | assumption | omega | fail), by (first | omega | (simp only [st_s] <;> omega) | assumption | omega | fail)⟩ : rg (x4 + x5)), ?_⟩
      refine ⟨fun c7 => ?_, fun c7 => ?_⟩
      ·
        exact ⟨hT, (show ∀ s : Int, ¬ τ_7.2.1 38 s = 0 → ¬ σ.2.1 38 s = 0 ∨ ∃ p : Int, σ.2.1 14 n1 ≤ p ∧ p < σ.2.1 14 n1 + σ.2.1 15 n1 ∧ σ.2.1 16 p = s from by (intro s z; rcases i7_4 s z with w | ⟨p, w1, w2, w3⟩; exact Or.inl w; exact Or.inr ⟨p, w1, by (have v := i7_7; omega), w3⟩)), (show ∀ s : Int, ¬ σ.2.1 38 s = 0 → ¬ τ_7.2.1 38 s = 0 from by exact i7_5), (show ∀ p : Int, σ.2.1 14 n1 ≤ p → p < σ.2.1 14 n1 + σ.2.1 15 n1 → ¬ τ_7.2.1 38 (σ.2.1 16 p) = 0 from by (have e1 := e_x4; have e2 := e_x5; rw [G14] at e1; rw [G15] at e2; intro p a b; exact i7_6 p a (by omega)))⟩
      ·
        refine ⟨(show 0 ≤ u2_7 ∧ u2_7 < 30400 from by (first | omega | (simp only [st_s] <;> omega) | assumption | omega | fail)), ?_⟩
        intro x9 r_x9 e_x9
        have b_x9 : 0 ≤ x9 ∧ x9 ≤ 999 := by rw [e_x9]; exact hT.2 16 _
        rw [G16] at e_x9
        refine ⟨(show 0 ≤ x9 ∧ x9 < 1001 from by (first | omega | (simp only [st_s] <;> omega) | assumption | omega | fail)), ?_⟩
        replace hT := mT_a (k := 38) (j := x9) hT (show (0 : Int) ≤ 1 ∧ 1 ≤ 1 from by (first | omega | (simp only [st_s] <;> omega) | assumption | omega | fail))
        refine ⟨(⟨by (first | omega | (simp only [st_s] <;> omega) | assumption | omega | fail), by (first | omega | (simp only [st_s] <;> omega) | assumption | omega | fail)⟩ : rg (u2_7 + 1)), ?_⟩
        exact ih_7 _ _ (show (30301 - (u2_7 + 1) : Int) < ((m_7 : Nat) : Int) from by ((first | omega | (simp only [st_s] <;> omega) | assumption | omega | fail))) hT G14 G15 G16 (show 0 ≤ (u2_7 + 1) from by (first | omega | (simp only [st_s] <;> omega) | assumption | omega | fail)) (show (u2_7 + 1) ≤ 30300 from by (first | omega | (simp only [st_s] <;> omega) | assumption | omega | fail)) (show σ.2.1 14 n1 ≤ (u2_7 + 1) from by (first | omega | (rw [e_x2]; omega) | fail)) (show ∀ s : Int, ¬ (st (τ_7.2.1 38) x9 1) s = 0 → ¬ σ.2.1 38 s = 0 ∨ ∃ p : Int, σ.2.1 14 n1 ≤ p ∧ p < (u2_7 + 1) ∧ σ.2.1 16 p = s from by (first | (intro s z; exact Or.inl z) | (intro s z; by_cases q : s = x9; exact Or.inr ⟨u2_7, by omega, by omega, by rw [q, e_x9]⟩; (rw [st_n _ _ q] at z; have q9 := i7_4 s z; rcases q9 with w | ⟨p, w1, w2, w3⟩; exact Or.inl w; exact Or.inr ⟨p, w1, by omega, w3⟩)) | fail)) (show ∀ s : Int, ¬ σ.2.1 38 s = 0 → ¬ (st (τ_7.2.1 38) x9 1) s = 0 from by (first | (intro s z; exact z) | (intro s z; by_cases q : s = x9; (rw [q, st_s]; decide); (rw [st_n _ _ q]; exact i7_5 s z)) | fail)) (show ∀ p : Int, σ.2.1 14 n1 ≤ p → p < (u2_7 + 1) → ¬ (st (τ_7.2.1 38) x9 1) (σ.2.1 16 p) = 0 from by (first | (intro p a b; exfalso; omega) | (intro p a b; by_cases q : σ.2.1 16 p = x9; (rw [q, st_s]; decide); (rw [st_n _ _ q]; rcases (by omega : p < u2_7 ∨ p = u2_7) with w | w; exact i7_6 p a w; exact absurd (by rw [w, e_x9]) q)) | fail)) (show (u2_7 + 1) = σ.2.1 14 n1 ∨ (u2_7 + 1) ≤ σ.2.1 14 n1 + σ.2.1 15 n1 from by (first | omega | (have e1 := e_x4; have e2 := e_x5; rw [G14] at e1; rw [G15] at e2; omega) | (rw [e_x2]; omega) | fail))
  refine ⟨(show 0 ≤ n1 ∧ n1 < 1501 from by (first | omega | (simp only [st_s] <;> omega) | assumption | omega | fail)), ?_⟩
  intro x2 r_x2 e_x2
  have b_x2 : 0 ≤ x2 ∧ x2 ≤ 30000 := by rw [e_x2]; exact hT.2 14 _
  exact l_7 ((30301 - x2 : Int).toNat + 1) _ _ (show (30301 - x2 : Int) < (((30301 - x2 : Int).toNat + 1 : Nat) : Int) from by ((first | omega | (simp only [st_s] <;> omega) | assumption | omega | fail))) hT G14 G15 G16 (show 0 ≤ x2 from by (first | omega | (simp only [st_s] <;> omega) | assumption | omega | fail)) (show x2 ≤ 30300 from by (first | omega | (simp only [st_s] <;> omega) | assumption | omega | fail)) (show σ.2.1 14 n1 ≤ x2 from by (first | omega | (rw [e_x2]; omega) | fail)) (show ∀ s : Int, ¬ σ.2.1 38 s = 0 → ¬ σ.2.1 38 s = 0 ∨ ∃ p : Int, σ.2.1 14 n1 ≤ p ∧ p < x2 ∧ σ.2.1 16 p = s from by (first | (intro s z; exact Or.inl z) | (intro s z; by_cases q : s = x9; exact Or.inr ⟨u2_7, by omega, by omega, by rw [q, e_x9]⟩; (rw [st_n _ _ q] at z; have q9 := i7_4 s z; rcases q9 with w | ⟨p, w1, w2, w3⟩; exact Or.inl w; exact Or.inr ⟨p, w1, by omega, w3⟩)) | fail)) (show ∀ s : Int, ¬ σ.2.1 38 s = 0 → ¬ σ.2.1 38 s = 0 from by (first | (intro s z; exact z) | (intro s z; by_cases q : s = x9; (rw [q, st_s]; decide); (rw [st_n _ _ q]; exact i7_5 s z)) | fail)) (show ∀ p : Int, σ.2.1 14 n1 ≤ p → p < x2 → ¬ σ.2.1 38 (σ.2.1 16 p) = 0 from by (first | (intro p a b; exfalso; omega) | (intro p a b; by_cases q : σ.2.1 16 p = x9; (rw [q, st_s]; decide); (rw [st_n _ _ q]; rcases (by omega : p < u2_7 ∨ p = u2_7) with w | w; exact i7_6 p a w; exact absurd (by rw [w, e_x9]) q)) | fail)) (show x2 = σ.2.1 14 n1 ∨ x2 ≤ σ.2.1 14 n1 + σ.2.1 15 n1 from by (first | omega | (have e1 := e_x4; have e2 := e_x5; rw [G14] at e1; rw [G15] at e2; omega) | (rw [e_x2]; omega) | fail))
