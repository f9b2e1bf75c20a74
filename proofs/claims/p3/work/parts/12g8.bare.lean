theorem z_BV_k {σ τ : S0} {r : Int} (h : z_BV σ r) (e19 : τ.2.1 19 = σ.2.1 19) (e3 : τ.1 3 = σ.1 3) (e99 : τ.2.1 99 r = σ.2.1 99 r) (e100 : τ.2.1 100 r = σ.2.1 100 r) (l53 : σ.1 53 ≤ τ.1 53) (e101 : ∀ e : Int, e < σ.1 53 → τ.2.1 101 e = σ.2.1 101 e) : z_BV τ r := by
  unfold z_BV
  rw [e19, e3, e99, e100]
  rcases h with h | ⟨⟨h1, h2, h3⟩, h4⟩
  · exact Or.inl h
  · refine Or.inr ⟨⟨h1, h2, by omega⟩, fun k a b => ?_⟩
    rw [e101 _ (by omega)]
    exact h4 k a b
set_option maxHeartbeats 4000000 in
theorem K_X13_tellBare {n1 : Int} {n2 : Int} {wt : Int → Int} {lo hi : Int} {Z : Int → Prop} {σ : S0} (hT : m_T σ) (p1 : y_TW σ wt lo hi) (p2 : 0 ≤ lo ∧ hi ≤ 60000) (p3 : z_BZ σ lo hi n2 Z) (p4 : Z n1) (p5 : n2 = -1 ∨ ((lo ≤ n2 ∧ n2 < hi) ∧ 0 ≤ σ.2.1 86 n2)) (p6 : (σ.1 53) ≤ 459000) (p7 : n_J σ) : W_X13_tellBare n1 n2 σ (fun (x : Int) (τ : S0) => (m_T τ) ∧ (x = -1 ∨ (1 ≤ x ∧ x ≤ 599 ∧ (τ.1 53) = (σ.1 53) + x)) ∧ (x = -1 → (τ.1 53) = (σ.1 53)) ∧ (∀ e : Int, e < (σ.1 53) → τ.2.1 101 e = σ.2.1 101 e) ∧ (¬ x = -1 → ∀ k : Int, 0 ≤ k → k < x → z_it σ n2 (τ.2.1 101 ((σ.1 53) + k)))) := by
  have A14 : ∀ j, 0 ≤ σ.2.1 14 j ∧ σ.2.1 14 j ≤ 30000 := fun j => hT.2 14 j
  have A16 : ∀ j, 0 ≤ σ.2.1 16 j ∧ σ.2.1 16 j ≤ 999 := fun j => hT.2 16 j
  have A19 : ∀ j, 0 ≤ σ.2.1 19 j ∧ σ.2.1 19 j ≤ 60 := fun j => hT.2 19 j
  have A86 : ∀ j, (-1500) ≤ σ.2.1 86 j ∧ σ.2.1 86 j ≤ 1499 := fun j => hT.2 86 j
  have A87 : ∀ j, 0 ≤ σ.2.1 87 j ∧ σ.2.1 87 j ≤ 120000 := fun j => hT.2 87 j
  have A91 : ∀ j, 0 ≤ σ.2.1 91 j ∧ σ.2.1 91 j ≤ 60000 := fun j => hT.2 91 j
  have A97 : ∀ j, (-1) ≤ σ.2.1 97 j ∧ σ.2.1 97 j ≤ 1499 := fun j => hT.2 97 j
  have A99 : ∀ j, 0 ≤ σ.2.1 99 j ∧ σ.2.1 99 j ≤ 460000 := fun j => hT.2 99 j
  have A100 : ∀ j, (-1) ≤ σ.2.1 100 j ∧ σ.2.1 100 j ≤ 599 := fun j => hT.2 100 j
  have A101 : ∀ j, (-61) ≤ σ.2.1 101 j ∧ σ.2.1 101 j ≤ 999 := fun j => hT.2 101 j
  have A102 : ∀ j, (-2147483648) ≤ σ.2.1 102 j ∧ σ.2.1 102 j ≤ 2147483647 := fun j => hT.2 102 j
  have v3 : 0 ≤ σ.1 3 ∧ σ.1 3 ≤ 1000 := hT.1 3
  have v5 : 0 ≤ σ.1 5 ∧ σ.1 5 ≤ 1500 := hT.1 5
  have v52 : 0 ≤ σ.1 52 ∧ σ.1 52 ≤ 120000 := hT.1 52
  have v53 : 0 ≤ σ.1 53 ∧ σ.1 53 ≤ 460000 := hT.1 53
  have v54 : 0 ≤ σ.1 54 ∧ σ.1 54 ≤ 1300 := hT.1 54
  have W3 : σ.1 3 = σ.1 3 := rfl
  have W5 : σ.1 5 = σ.1 5 := rfl
  have W52 : σ.1 52 = σ.1 52 := rfl
  have G14 : σ.2.1 14 = σ.2.1 14 := rfl
  have G16 : σ.2.1 16 = σ.2.1 16 := rfl
  have G19 : σ.2.1 19 = σ.2.1 19 := rfl
  have G86 : σ.2.1 86 = σ.2.1 86 := rfl
  have G87 : σ.2.1 87 = σ.2.1 87 := rfl
  have G91 : σ.2.1 91 = σ.2.1 91 := rfl
  have G97 : σ.2.1 97 = σ.2.1 97 := rfl
  have G99 : σ.2.1 99 = σ.2.1 99 := rfl
  have G100 : σ.2.1 100 = σ.2.1 100 := rfl
  intro P15 P82 P109 h15 h82 h109
  have hTσ := hT
  have l3 : σ.1 3 ≤ 1000 := (hT.1 3).2
  have l52 : σ.1 52 ≤ 120000 := (hT.1 52).2
  have zn1 := p3 n1 p4
  have a19 := A19 (σ.2.1 86 n2)
  have l_15 : ∀ (m_15 : Nat) (u3_15 : Int) (τ_15 : S0), (1300 - ((τ_15.1 53) - u3_15 + (τ_15.1 54))) * 15300000 + sm (fun s => z_wf wt (τ_15.2.1 102 s)) (τ_15.1 54) < (m_15 : Int) → (m_T τ_15) → (τ_15.1 3 = σ.1 3) → (τ_15.1 5 = σ.1 5) → (τ_15.1 52 = σ.1 52) → (τ_15.2.1 14 = σ.2.1 14) → (τ_15.2.1 16 = σ.2.1 16) → (τ_15.2.1 19 = σ.2.1 19) → (τ_15.2.1 86 = σ.2.1 86) → (τ_15.2.1 87 = σ.2.1 87) → (τ_15.2.1 91 = σ.2.1 91) → (τ_15.2.1 97 = σ.2.1 97) → (τ_15.2.1 99 = σ.2.1 99) → (τ_15.2.1 100 = σ.2.1 100) → (u3_15 = (σ.1 53)) → ((σ.1 53) ≤ (τ_15.1 53) ∧ 0 ≤ (τ_15.1 54)) → (∀ s : Int, 0 ≤ s → s < (τ_15.1 54) → z_ts σ Z (τ_15.2.1 102 s)) → (∀ e : Int, e < (σ.1 53) → τ_15.2.1 101 e = σ.2.1 101 e) → (∀ k : Int, 0 ≤ k → k < (τ_15.1 53) - (σ.1 53) → z_it σ n2 (τ_15.2.1 101 ((σ.1 53) + k))) → (1 ≤ (τ_15.1 53) - u3_15 + (τ_15.1 54) ∧ (τ_15.1 53) - u3_15 + (τ_15.1 54) ≤ 1198) → ((τ_15.1 53) - u3_15 ≤ 599) → (f_r [53, 54] [101, 102] [] σ τ_15) → P15 n2 u3_15 τ_15 := by
    intro m_15
    induction m_15 with
    | zero =>
      intro u3_15 τ_15 hm hT W3 W5 W52 G14 G16 G19 G86 G87 G91 G97 G99 G100 i15_1 i15_2 i15_3 i15_4 i15_5 i15_6 i15_7 i15_8
      have A14 : ∀ j, 0 ≤ τ_15.2.1 14 j ∧ τ_15.2.1 14 j ≤ 30000 := fun j => hT.2 14 j
      have A16 : ∀ j, 0 ≤ τ_15.2.1 16 j ∧ τ_15.2.1 16 j ≤ 999 := fun j => hT.2 16 j
      have A19 : ∀ j, 0 ≤ τ_15.2.1 19 j ∧ τ_15.2.1 19 j ≤ 60 := fun j => hT.2 19 j
      have A86 : ∀ j, (-1500) ≤ τ_15.2.1 86 j ∧ τ_15.2.1 86 j ≤ 1499 := fun j => hT.2 86 j
      have A87 : ∀ j, 0 ≤ τ_15.2.1 87 j ∧ τ_15.2.1 87 j ≤ 120000 := fun j => hT.2 87 j
      have A91 : ∀ j, 0 ≤ τ_15.2.1 91 j ∧ τ_15.2.1 91 j ≤ 60000 := fun j => hT.2 91 j
      have A97 : ∀ j, (-1) ≤ τ_15.2.1 97 j ∧ τ_15.2.1 97 j ≤ 1499 := fun j => hT.2 97 j
      have A99 : ∀ j, 0 ≤ τ_15.2.1 99 j ∧ τ_15.2.1 99 j ≤ 460000 := fun j => hT.2 99 j
      have A100 : ∀ j, (-1) ≤ τ_15.2.1 100 j ∧ τ_15.2.1 100 j ≤ 599 := fun j => hT.2 100 j
      have A101 : ∀ j, (-61) ≤ τ_15.2.1 101 j ∧ τ_15.2.1 101 j ≤ 999 := fun j => hT.2 101 j
      have A102 : ∀ j, (-2147483648) ≤ τ_15.2.1 102 j ∧ τ_15.2.1 102 j ≤ 2147483647 := fun j => hT.2 102 j
      have v3 : 0 ≤ τ_15.1 3 ∧ τ_15.1 3 ≤ 1000 := hT.1 3
      have v5 : 0 ≤ τ_15.1 5 ∧ τ_15.1 5 ≤ 1500 := hT.1 5
      have v52 : 0 ≤ τ_15.1 52 ∧ τ_15.1 52 ≤ 120000 := hT.1 52
      have v53 : 0 ≤ τ_15.1 53 ∧ τ_15.1 53 ≤ 460000 := hT.1 53
      have v54 : 0 ≤ τ_15.1 54 ∧ τ_15.1 54 ≤ 1300 := hT.1 54
      exfalso; (have mb := z_mw_b p1 p3 i15_2.2 i15_3; omega)
    | succ m_15 ih_15 =>
      intro u3_15 τ_15 hm_15 hT W3 W5 W52 G14 G16 G19 G86 G87 G91 G97 G99 G100 i15_1 i15_2 i15_3 i15_4 i15_5 i15_6 i15_7 i15_8
      have A14 : ∀ j, 0 ≤ τ_15.2.1 14 j ∧ τ_15.2.1 14 j ≤ 30000 := fun j => hT.2 14 j
      have A16 : ∀ j, 0 ≤ τ_15.2.1 16 j ∧ τ_15.2.1 16 j ≤ 999 := fun j => hT.2 16 j
      have A19 : ∀ j, 0 ≤ τ_15.2.1 19 j ∧ τ_15.2.1 19 j ≤ 60 := fun j => hT.2 19 j
      have A86 : ∀ j, (-1500) ≤ τ_15.2.1 86 j ∧ τ_15.2.1 86 j ≤ 1499 := fun j => hT.2 86 j
      have A87 : ∀ j, 0 ≤ τ_15.2.1 87 j ∧ τ_15.2.1 87 j ≤ 120000 := fun j => hT.2 87 j
      have A91 : ∀ j, 0 ≤ τ_15.2.1 91 j ∧ τ_15.2.1 91 j ≤ 60000 := fun j => hT.2 91 j
      have A97 : ∀ j, (-1) ≤ τ_15.2.1 97 j ∧ τ_15.2.1 97 j ≤ 1499 := fun j => hT.2 97 j
      have A99 : ∀ j, 0 ≤ τ_15.2.1 99 j ∧ τ_15.2.1 99 j ≤ 460000 := fun j => hT.2 99 j
      have A100 : ∀ j, (-1) ≤ τ_15.2.1 100 j ∧ τ_15.2.1 100 j ≤ 599 := fun j => hT.2 100 j
      have A101 : ∀ j, (-61) ≤ τ_15.2.1 101 j ∧ τ_15.2.1 101 j ≤ 999 := fun j => hT.2 101 j
      have A102 : ∀ j, (-2147483648) ≤ τ_15.2.1 102 j ∧ τ_15.2.1 102 j ≤ 2147483647 := fun j => hT.2 102 j
      have v3 : 0 ≤ τ_15.1 3 ∧ τ_15.1 3 ≤ 1000 := hT.1 3
      have v5 : 0 ≤ τ_15.1 5 ∧ τ_15.1 5 ≤ 1500 := hT.1 5
      have v52 : 0 ≤ τ_15.1 52 ∧ τ_15.1 52 ≤ 120000 := hT.1 52
      have v53 : 0 ≤ τ_15.1 53 ∧ τ_15.1 53 ≤ 460000 := hT.1 53
      have v54 : 0 ≤ τ_15.1 54 ∧ τ_15.1 54 ≤ 1300 := hT.1 54
      have mb := z_mw_b p1 p3 i15_2.2 i15_3
      have tkE : ∀ n t : Int, z_tk τ_15 n t → z_tk σ n t := (fun n t w => by (unfold z_tk at w ⊢; rw [W3, G19, G86, G87, G91] at w; exact w))
      have l_109 : ∀ (u3_109 : Int) (k1_109 : Int) (k2_109 : Int) (τ_109 : S0), (m_T τ_109) → (τ_109.1 3 = σ.1 3) → (τ_109.1 5 = σ.1 5) → (τ_109.1 52 = σ.1 52) → (τ_109.2.1 14 = σ.2.1 14) → (τ_109.2.1 16 = σ.2.1 16) → (τ_109.2.1 19 = σ.2.1 19) → (τ_109.2.1 86 = σ.2.1 86) → (τ_109.2.1 87 = σ.2.1 87) → (τ_109.2.1 91 = σ.2.1 91) → (τ_109.2.1 97 = σ.2.1 97) → (τ_109.2.1 99 = σ.2.1 99) → (τ_109.2.1 100 = σ.2.1 100) → (u3_109 = (σ.1 53)) → ((σ.1 53) ≤ (τ_109.1 53) ∧ 0 ≤ (τ_109.1 54)) → (∀ s : Int, 0 ≤ s → s < (τ_109.1 54) → z_ts σ Z (τ_109.2.1 102 s)) → (∀ e : Int, e < (σ.1 53) → τ_109.2.1 101 e = σ.2.1 101 e) → (∀ k : Int, 0 ≤ k → k < (τ_109.1 53) - (σ.1 53) → z_it σ n2 (τ_109.2.1 101 ((σ.1 53) + k))) → ((τ_109.1 53) - u3_109 + (τ_109.1 54) + 1 ≤ 599) → ((1300 - ((τ_109.1 53) - u3_109 + (τ_109.1 54) + 1)) * 15300000 + sm (fun s => z_wf wt (τ_109.2.1 102 s)) (τ_109.1 54) + 1 ≤ (m_15 : Int)) → (k1_109 = (τ_109.1 53)) → (z_it σ n2 k2_109) → (-61 ≤ k2_109 ∧ k2_109 ≤ 999) → (f_r [53, 54] [101, 102] [] σ τ_109) → P109 n2 u3_109 k1_109 k2_109 τ_109 := by
        intro u3_109 k1_109 k2_109 τ_109 hT W3 W5 W52 G14 G16 G19 G86 G87 G91 G97 G99 G100 i109_1 i109_2 i109_3 i109_4 i109_5 i109_6 i109_7 i109_8 i109_9 i109_10 i109_11
        have A14 : ∀ j, 0 ≤ τ_109.2.1 14 j ∧ τ_109.2.1 14 j ≤ 30000 := fun j => hT.2 14 j
        have A16 : ∀ j, 0 ≤ τ_109.2.1 16 j ∧ τ_109.2.1 16 j ≤ 999 := fun j => hT.2 16 j
        have A19 : ∀ j, 0 ≤ τ_109.2.1 19 j ∧ τ_109.2.1 19 j ≤ 60 := fun j => hT.2 19 j
        have A86 : ∀ j, (-1500) ≤ τ_109.2.1 86 j ∧ τ_109.2.1 86 j ≤ 1499 := fun j => hT.2 86 j
        have A87 : ∀ j, 0 ≤ τ_109.2.1 87 j ∧ τ_109.2.1 87 j ≤ 120000 := fun j => hT.2 87 j
        have A91 : ∀ j, 0 ≤ τ_109.2.1 91 j ∧ τ_109.2.1 91 j ≤ 60000 := fun j => hT.2 91 j
        have A97 : ∀ j, (-1) ≤ τ_109.2.1 97 j ∧ τ_109.2.1 97 j ≤ 1499 := fun j => hT.2 97 j
        have A99 : ∀ j, 0 ≤ τ_109.2.1 99 j ∧ τ_109.2.1 99 j ≤ 460000 := fun j => hT.2 99 j
        have A100 : ∀ j, (-1) ≤ τ_109.2.1 100 j ∧ τ_109.2.1 100 j ≤ 599 := fun j => hT.2 100 j
        have A101 : ∀ j, (-61) ≤ τ_109.2.1 101 j ∧ τ_109.2.1 101 j ≤ 999 := fun j => hT.2 101 j
        have A102 : ∀ j, (-2147483648) ≤ τ_109.2.1 102 j ∧ τ_109.2.1 102 j ≤ 2147483647 := fun j => hT.2 102 j
        have v3 : 0 ≤ τ_109.1 3 ∧ τ_109.1 3 ≤ 1000 := hT.1 3
        have v5 : 0 ≤ τ_109.1 5 ∧ τ_109.1 5 ≤ 1500 := hT.1 5
        have v52 : 0 ≤ τ_109.1 52 ∧ τ_109.1 52 ≤ 120000 := hT.1 52
        have v53 : 0 ≤ τ_109.1 53 ∧ τ_109.1 53 ≤ 460000 := hT.1 53
        have v54 : 0 ≤ τ_109.1 54 ∧ τ_109.1 54 ≤ 1300 := hT.1 54
        refine h109 n2 u3_109 k1_109 k2_109 τ_109 ?_
        refine ⟨(show 0 ≤ k1_109 ∧ k1_109 < 460000 from by (first | omega | (simp only [st_s] <;> omega) | assumption | omega | fail)), ?_⟩
        replace hT := mT_a (k := 101) (j := k1_109) hT (show (-61 : Int) ≤ k2_109 ∧ k2_109 ≤ 999 from by (first | omega | (simp only [st_s] <;> omega) | assumption | omega | fail))
        refine ⟨(⟨by (first | omega | (simp only [st_s] <;> omega) | assumption | omega | fail), by (first | omega | (simp only [st_s] <;> omega) | assumption | omega | fail)⟩ : rg (τ_109.1 53 + 1)), ?_⟩
        replace hT := mT_v (i := 53) hT (show 0 ≤ (τ_109.1 53 + 1) ∧ (τ_109.1 53 + 1) ≤ 460000 from by (first | omega | (simp only [st_s] <;> omega) | assumption | omega | fail))
        exact ih_15 _ _ (show ((1300 - (((τ_109.1 53 + 1)) - u3_109 + (τ_109.1 54))) * 15300000 + sm (fun s => z_wf wt (τ_109.2.1 102 s)) (τ_109.1 54) : Int) < ((m_15 : Nat) : Int) from by ((first | omega | (simp only [st_s] <;> omega) | assumption | omega | fail))) hT (show τ_109.1 3 = σ.1 3 from by first | exact W3 | omega) (show τ_109.1 5 = σ.1 5 from by first | exact W5 | omega) (show τ_109.1 52 = σ.1 52 from by first | exact W52 | omega) G14 G16 G19 G86 G87 G91 G97 G99 G100 (show u3_109 = (σ.1 53) from by (first | omega | (simp only [st_s] <;> omega) | assumption | omega | fail)) (show (σ.1 53) ≤ ((τ_109.1 53 + 1)) ∧ 0 ≤ (τ_109.1 54) from by (first | omega | (simp only [st_s] <;> omega) | assumption | omega | fail)) (show ∀ s : Int, 0 ≤ s → s < (τ_109.1 54) → z_ts σ Z (τ_109.2.1 102 s) from by (first | (intro s a b; rw [q1_1, show s = 0 from by omega, st_s]; exact zt1) | exact (s18.resolve_left (by omega)).1 | exact i109_3 | fail)) (show ∀ e : Int, e < (σ.1 53) → (st (τ_109.2.1 101) k1_109 k2_109) e = σ.2.1 101 e from by (first | (intro e a; exact congrFun (hf_τ3.2.1 101 (by decide)) e) | (intro e a; rw [g101_τ18]; exact i15_4 e a) | (intro e a; rw [st_n _ _ (by omega)]; exact i109_4 e a) | fail)) (show ∀ k : Int, 0 ≤ k → k < ((τ_109.1 53 + 1)) - (σ.1 53) → z_it σ n2 ((st (τ_109.2.1 101) k1_109 k2_109) ((σ.1 53) + k)) from by (first | (intro k a b; exfalso; omega) | (intro k a b; rw [g101_τ18]; exact i15_5 k a (by omega)) | (intro k a b; rcases (by omega : k < τ_109.1 53 - σ.1 53 ∨ k = τ_109.1 53 - σ.1 53) with y | y; (rw [st_n _ _ (by omega)]; exact i109_5 k a y); (rw [show σ.1 53 + k = k1_109 from by omega, st_s]; exact i109_9)) | fail)) (show 1 ≤ ((τ_109.1 53 + 1)) - u3_109 + (τ_109.1 54) ∧ ((τ_109.1 53 + 1)) - u3_109 + (τ_109.1 54) ≤ 1198 from by (first | omega | (simp only [st_s] <;> omega) | assumption | omega | fail)) (show ((τ_109.1 53 + 1)) - u3_109 ≤ 599 from by (first | omega | (simp only [st_s] <;> omega) | assumption | omega | fail)) (show f_r [53, 54] [101, 102] [] σ (s_v (s_a τ_109 101 k1_109 k2_109) 53 (τ_109.1 53 + 1)) from by (first | exact f_t (f_v f_0 (by simp) : f_r [53, 54] [101, 102] [] σ (s_v σ 54 0)) hf_τ3 rfl rfl rfl | exact f_t f15 hf_τ18 rfl rfl rfl | exact f_v (f_a i109_11 (by simp)) (by simp) | fail))
      have l_82 : ∀ (u3_82 : Int) (u4_82 : Int) (τ_82 : S0), (m_T τ_82) → (τ_82.1 3 = σ.1 3) → (τ_82.1 5 = σ.1 5) → (τ_82.1 52 = σ.1 52) → (τ_82.2.1 14 = σ.2.1 14) → (τ_82.2.1 16 = σ.2.1 16) → (τ_82.2.1 19 = σ.2.1 19) → (τ_82.2.1 86 = σ.2.1 86) → (τ_82.2.1 87 = σ.2.1 87) → (τ_82.2.1 91 = σ.2.1 91) → (τ_82.2.1 97 = σ.2.1 97) → (τ_82.2.1 99 = σ.2.1 99) → (τ_82.2.1 100 = σ.2.1 100) → (u3_82 = (σ.1 53)) → ((σ.1 53) ≤ (τ_82.1 53) ∧ 0 ≤ (τ_82.1 54)) → (∀ s : Int, 0 ≤ s → s < (τ_82.1 54) → z_ts σ Z (τ_82.2.1 102 s)) → (∀ e : Int, e < (σ.1 53) → τ_82.2.1 101 e = σ.2.1 101 e) → (∀ k : Int, 0 ≤ k → k < (τ_82.1 53) - (σ.1 53) → z_it σ n2 (τ_82.2.1 101 ((σ.1 53) + k))) → ((τ_82.1 53) - u3_82 + (τ_82.1 54) + 1 ≤ 599) → ((1300 - ((τ_82.1 53) - u3_82 + (τ_82.1 54) + 1)) * 15300000 + sm (fun s => z_wf wt (τ_82.2.1 102 s)) (τ_82.1 54) + 1 ≤ (m_15 : Int)) → (z_ts σ Z u4_82) → (u4_82 < 0 ∨ σ.2.1 86 u4_82 < 0) → (f_r [53, 54] [101, 102] [] σ τ_82) → P82 n2 u3_82 u4_82 τ_82 := by
        intro u3_82 u4_82 τ_82 hT W3 W5 W52 G14 G16 G19 G86 G87 G91 G97 G99 G100 i82_1 i82_2 i82_3 i82_4 i82_5 i82_6 i82_7 i82_8 i82_9 i82_10
        have A14 : ∀ j, 0 ≤ τ_82.2.1 14 j ∧ τ_82.2.1 14 j ≤ 30000 := fun j => hT.2 14 j
        have A16 : ∀ j, 0 ≤ τ_82.2.1 16 j ∧ τ_82.2.1 16 j ≤ 999 := fun j => hT.2 16 j
        have A19 : ∀ j, 0 ≤ τ_82.2.1 19 j ∧ τ_82.2.1 19 j ≤ 60 := fun j => hT.2 19 j
        have A86 : ∀ j, (-1500) ≤ τ_82.2.1 86 j ∧ τ_82.2.1 86 j ≤ 1499 := fun j => hT.2 86 j
        have A87 : ∀ j, 0 ≤ τ_82.2.1 87 j ∧ τ_82.2.1 87 j ≤ 120000 := fun j => hT.2 87 j
        have A91 : ∀ j, 0 ≤ τ_82.2.1 91 j ∧ τ_82.2.1 91 j ≤ 60000 := fun j => hT.2 91 j
        have A97 : ∀ j, (-1) ≤ τ_82.2.1 97 j ∧ τ_82.2.1 97 j ≤ 1499 := fun j => hT.2 97 j
        have A99 : ∀ j, 0 ≤ τ_82.2.1 99 j ∧ τ_82.2.1 99 j ≤ 460000 := fun j => hT.2 99 j
        have A100 : ∀ j, (-1) ≤ τ_82.2.1 100 j ∧ τ_82.2.1 100 j ≤ 599 := fun j => hT.2 100 j
        have A101 : ∀ j, (-61) ≤ τ_82.2.1 101 j ∧ τ_82.2.1 101 j ≤ 999 := fun j => hT.2 101 j
        have A102 : ∀ j, (-2147483648) ≤ τ_82.2.1 102 j ∧ τ_82.2.1 102 j ≤ 2147483647 := fun j => hT.2 102 j
        have v3 : 0 ≤ τ_82.1 3 ∧ τ_82.1 3 ≤ 1000 := hT.1 3
        have v5 : 0 ≤ τ_82.1 5 ∧ τ_82.1 5 ≤ 1500 := hT.1 5
        have v52 : 0 ≤ τ_82.1 52 ∧ τ_82.1 52 ≤ 120000 := hT.1 52
        have v53 : 0 ≤ τ_82.1 53 ∧ τ_82.1 53 ≤ 460000 := hT.1 53
        have v54 : 0 ≤ τ_82.1 54 ∧ τ_82.1 54 ≤ 1300 := hT.1 54
        refine h82 n2 u3_82 u4_82 τ_82 ?_
        refine ⟨fun c20 => ?_, fun c20 => ?_⟩
        ·
          have z82 : 0 ≤ u4_82 ∧ Z u4_82 := i82_8.resolve_left (by omega)
          have r82 := p3 u4_82 z82.2
          have n82 : σ.2.1 86 u4_82 < 0 := i82_9.resolve_left (by omega)
          have lv82 := r82.2.1 n82
          refine ⟨_, K_X13_leafOf hT (show y_TW τ_82 wt lo hi from by exact y_TW_h p1 i82_10 rfl rfl) (show 0 ≤ lo ∧ hi ≤ 60000 from by (first | omega | (simp only [st_s] <;> omega) | assumption | omega | fail)) (show lo ≤ u4_82 ∧ u4_82 < hi from by exact r82.1) (show τ_82.2.1 86 u4_82 < 0 from by (rw [G86]; exact n82)) (show n2 = -1 ∨ ((lo ≤ n2 ∧ n2 < hi) ∧ 0 ≤ τ_82.2.1 86 n2 ∧ y_Lv τ_82 (τ_82.2.1 86 n2) n2 (τ_82.2.1 86 u4_82)) from by (by_cases z : n2 = -1; (exact Or.inl z); (refine Or.inr ⟨(p5.resolve_left z).1, by (rw [G86]; exact (p5.resolve_left z).2), ?_⟩; have w := lv82.2 z; unfold y_Lv at w ⊢; rw [G19, G86, G87, G91]; exact w))), ?_⟩
          intro x22 r_x22 hq
          obtain ⟨q21_1, q21_2⟩ := hq
          replace q21_1 : n2 = -1 → x22 = τ_82.2.1 16 (τ_82.2.1 14 (-1 - τ_82.2.1 86 u4_82) + 1) := q21_1
          replace q21_2 : ¬ n2 = -1 → x22 < 0 ∧ -1 - x22 < τ_82.2.1 19 (τ_82.2.1 86 n2) := q21_2
          rw [G14, G16, G86] at q21_1
          rw [G19, G86] at q21_2
          have it22 : z_it σ n2 x22 ∧ (-61 ≤ x22 ∧ x22 ≤ 999) := (by by_cases z : n2 = -1; (have w := q21_1 z; have v := lv82.1 z; rw [← w] at v; have w0 : 0 ≤ x22 := (by rw [w]; exact (hTσ.2 16 _).1); exact ⟨⟨fun a => by (exfalso; omega), fun _ => v⟩, by omega⟩); (have w := q21_2 z; exact ⟨⟨fun _ => ⟨z, w.2⟩, fun a => by (exfalso; omega)⟩, by omega⟩))
          exact l_109 _ _ _ _ hT (show τ_82.1 3 = σ.1 3 from by first | exact W3 | omega) (show τ_82.1 5 = σ.1 5 from by first | exact W5 | omega) (show τ_82.1 52 = σ.1 52 from by first | exact W52 | omega) G14 G16 G19 G86 G87 G91 G97 G99 G100 (show u3_82 = (σ.1 53) from by (first | omega | (simp only [st_s] <;> omega) | assumption | omega | fail)) (show (σ.1 53) ≤ (τ_82.1 53) ∧ 0 ≤ (τ_82.1 54) from by (first | omega | (simp only [st_s] <;> omega) | assumption | omega | fail)) (show ∀ s : Int, 0 ≤ s → s < (τ_82.1 54) → z_ts σ Z (τ_82.2.1 102 s) from by exact i82_3) (show ∀ e : Int, e < (σ.1 53) → τ_82.2.1 101 e = σ.2.1 101 e from by exact i82_4) (show ∀ k : Int, 0 ≤ k → k < (τ_82.1 53) - (σ.1 53) → z_it σ n2 (τ_82.2.1 101 ((σ.1 53) + k)) from by exact i82_5) (show (τ_82.1 53) - u3_82 + (τ_82.1 54) + 1 ≤ 599 from by (first | omega | (simp only [st_s] <;> omega) | assumption | omega | fail)) (show (1300 - ((τ_82.1 53) - u3_82 + (τ_82.1 54) + 1)) * 15300000 + sm (fun s => z_wf wt (τ_82.2.1 102 s)) (τ_82.1 54) + 1 ≤ (m_15 : Int) from by (first | omega | (simp only [st_s] <;> omega) | assumption | omega | fail)) (show (τ_82.1 53) = (τ_82.1 53) from by (first | omega | (simp only [st_s] <;> omega) | assumption | omega | fail)) (show z_it σ n2 x22 from by (first | exact it22.1 | exact ⟨fun a => by (exfalso; omega), fun _ => (i82_8.resolve_right (by omega)).2⟩ | fail)) (show -61 ≤ x22 ∧ x22 ≤ 999 from by (first | exact it22.2 | (have w := i82_8.resolve_right (by omega); omega) | fail)) (show f_r [53, 54] [101, 102] [] σ τ_82 from by exact i82_10)
        ·
          refine ⟨(⟨by (have w := i82_8.resolve_right (by omega); omega), by (have w := i82_8.resolve_right (by omega); omega)⟩ : rg ((-1) - u4_82)), ?_⟩
          exact l_109 _ _ _ _ hT (show τ_82.1 3 = σ.1 3 from by first | exact W3 | omega) (show τ_82.1 5 = σ.1 5 from by first | exact W5 | omega) (show τ_82.1 52 = σ.1 52 from by first | exact W52 | omega) G14 G16 G19 G86 G87 G91 G97 G99 G100 (show u3_82 = (σ.1 53) from by (first | omega | (simp only [st_s] <;> omega) | assumption | omega | fail)) (show (σ.1 53) ≤ (τ_82.1 53) ∧ 0 ≤ (τ_82.1 54) from by (first | omega | (simp only [st_s] <;> omega) | assumption | omega | fail)) (show ∀ s : Int, 0 ≤ s → s < (τ_82.1 54) → z_ts σ Z (τ_82.2.1 102 s) from by exact i82_3) (show ∀ e : Int, e < (σ.1 53) → τ_82.2.1 101 e = σ.2.1 101 e from by exact i82_4) (show ∀ k : Int, 0 ≤ k → k < (τ_82.1 53) - (σ.1 53) → z_it σ n2 (τ_82.2.1 101 ((σ.1 53) + k)) from by exact i82_5) (show (τ_82.1 53) - u3_82 + (τ_82.1 54) + 1 ≤ 599 from by (first | omega | (simp only [st_s] <;> omega) | assumption | omega | fail)) (show (1300 - ((τ_82.1 53) - u3_82 + (τ_82.1 54) + 1)) * 15300000 + sm (fun s => z_wf wt (τ_82.2.1 102 s)) (τ_82.1 54) + 1 ≤ (m_15 : Int) from by (first | omega | (simp only [st_s] <;> omega) | assumption | omega | fail)) (show (τ_82.1 53) = (τ_82.1 53) from by (first | omega | (simp only [st_s] <;> omega) | assumption | omega | fail)) (show z_it σ n2 ((-1) - u4_82) from by (first | exact it22.1 | exact ⟨fun a => by (exfalso; omega), fun _ => (i82_8.resolve_right (by omega)).2⟩ | fail)) (show -61 ≤ ((-1) - u4_82) ∧ ((-1) - u4_82) ≤ 999 from by (first | exact it22.2 | (have w := i82_8.resolve_right (by omega); omega) | fail)) (show f_r [53, 54] [101, 102] [] σ τ_82 from by exact i82_10)
      refine h15 n2 u3_15 τ_15 ?_
      refine ⟨fun c5 => ?_, fun c5 => ?_⟩
      ·
        refine ⟨(⟨by (first | omega | (simp only [st_s] <;> omega) | assumption | omega | fail), by (first | omega | (simp only [st_s] <;> omega) | assumption | omega | fail)⟩ : rg (τ_15.1 53 - u3_15)), ?_⟩
        exact ⟨hT, (show (τ_15.1 53 - u3_15) = -1 ∨ (1 ≤ (τ_15.1 53 - u3_15) ∧ (τ_15.1 53 - u3_15) ≤ 599 ∧ (τ_15.1 53) = (σ.1 53) + (τ_15.1 53 - u3_15)) from by (first | exact Or.inr (by omega) | exact Or.inl rfl | fail)), (show (τ_15.1 53 - u3_15) = -1 → (τ_15.1 53) = (σ.1 53) from by (first | exact fun _ => i15_1 | (intro z; exfalso; omega) | fail)), (show ∀ e : Int, e < (σ.1 53) → τ_15.2.1 101 e = σ.2.1 101 e from by (first | exact i15_4 | (intro e a; rw [g101_τ18]; exact i15_4 e a) | fail)), (show ¬ (τ_15.1 53 - u3_15) = -1 → ∀ k : Int, 0 ≤ k → k < (τ_15.1 53 - u3_15) → z_it σ n2 (τ_15.2.1 101 ((σ.1 53) + k)) from by (first | exact fun _ k a b => i15_5 k a (by omega) | exact fun z => absurd rfl z | fail))⟩
      ·
        refine ⟨(⟨by (first | omega | (simp only [st_s] <;> omega) | assumption | omega | fail), by (first | omega | (simp only [st_s] <;> omega) | assumption | omega | fail)⟩ : rg ((τ_15.1 53 - u3_15) + τ_15.1 54)), ?_⟩
        refine ⟨fun c8 => ?_, fun c8 => ?_⟩
        ·
          refine ⟨(⟨by (first | omega | (simp only [st_s] <;> omega) | assumption | omega | fail), by (first | omega | (simp only [st_s] <;> omega) | assumption | omega | fail)⟩ : rg (τ_15.1 54 - 1)), ?_⟩
          replace hT := mT_v (i := 54) hT (show 0 ≤ (τ_15.1 54 - 1) ∧ (τ_15.1 54 - 1) ≤ 1300 from by (first | omega | (simp only [st_s] <;> omega) | assumption | omega | fail))
          refine ⟨(show 0 ≤ (τ_15.1 54 - 1) ∧ (τ_15.1 54 - 1) < 1300 from by (first | omega | (simp only [st_s] <;> omega) | assumption | omega | fail)), ?_⟩
          intro x11 r_x11 e_x11
          have b_x11 : (-2147483648) ≤ x11 ∧ x11 ≤ 2147483647 := by rw [e_x11]; exact hT.2 102 _
          have mp := z_mw_p (wt := wt) (f := τ_15.2.1 102) (n := τ_15.1 54) (by omega)
          have ts11 := i15_3 (τ_15.1 54 - 1) (by omega) (by omega)
          rw [← e_x11] at mp ts11
          have tb11 := z_ts_b p1 p3 ts11
          have zx : 0 ≤ x11 → Z x11 := (fun a => (ts11.resolve_left (by omega)).2)
          have rx : 0 ≤ x11 → lo ≤ x11 ∧ x11 < hi := (fun a => (p3 x11 (zx a)).1)
          refine ⟨fun c12 => ?_, fun c12 => ?_⟩
          ·
            exact l_82 _ _ _ hT (show τ_15.1 3 = σ.1 3 from by first | exact W3 | omega) (show τ_15.1 5 = σ.1 5 from by first | exact W5 | omega) (show τ_15.1 52 = σ.1 52 from by first | exact W52 | omega) G14 G16 G19 G86 G87 G91 G97 G99 G100 (show u3_15 = (σ.1 53) from by (first | omega | (simp only [st_s] <;> omega) | assumption | omega | fail)) (show (σ.1 53) ≤ (τ_15.1 53) ∧ 0 ≤ ((τ_15.1 54 - 1)) from by (first | omega | (simp only [st_s] <;> omega) | assumption | omega | fail)) (show ∀ s : Int, 0 ≤ s → s < ((τ_15.1 54 - 1)) → z_ts σ Z (τ_15.2.1 102 s) from by (intro s a b; exact i15_3 s a (by omega))) (show ∀ e : Int, e < (σ.1 53) → τ_15.2.1 101 e = σ.2.1 101 e from by exact i15_4) (show ∀ k : Int, 0 ≤ k → k < (τ_15.1 53) - (σ.1 53) → z_it σ n2 (τ_15.2.1 101 ((σ.1 53) + k)) from by exact i15_5) (show (τ_15.1 53) - u3_15 + ((τ_15.1 54 - 1)) + 1 ≤ 599 from by (first | omega | (simp only [st_s] <;> omega) | assumption | omega | fail)) (show (1300 - ((τ_15.1 53) - u3_15 + ((τ_15.1 54 - 1)) + 1)) * 15300000 + sm (fun s => z_wf wt (τ_15.2.1 102 s)) ((τ_15.1 54 - 1)) + 1 ≤ (m_15 : Int) from by (first | omega | (simp only [st_s] <;> omega) | assumption | omega | fail)) (show z_ts σ Z x11 from by exact ts11) (show x11 < 0 ∨ σ.2.1 86 x11 < 0 from by (first | exact Or.inl (by omega) | exact Or.inr (by rw [← e_x14]; omega) | fail)) (show f_r [53, 54] [101, 102] [] σ (s_v τ_15 54 (τ_15.1 54 - 1)) from by exact f_v i15_8 (by simp))
          ·
            refine ⟨(show 0 ≤ x11 ∧ x11 < 60000 from by (first | omega | (simp only [st_s] <;> omega) | assumption | omega | fail)), ?_⟩
            intro x14 r_x14 e_x14
            have b_x14 : (-1500) ≤ x14 ∧ x14 ≤ 1499 := by rw [e_x14]; exact hT.2 86 _
            have zx11 := zx (by omega)
            have rx11 := rx (by omega)
            rw [G86] at e_x14
            have wf11 : z_wf wt x11 = 1 + wt x11 := (by unfold z_wf; rw [if_neg (by omega)])
            refine ⟨fun c15 => ?_, fun c15 => ?_⟩
            ·
              have r14 := (p3 x11 zx11).2.2 (by omega)
              have f15 : f_r [53, 54] [101, 102] [] σ (s_v τ_15 54 (τ_15.1 54 - 1)) := f_v i15_8 (by simp)
              have SD15 := y_SD_h f15 rfl rfl
              refine ⟨_, K_X13_spread hT (show y_TW (s_v τ_15 54 (τ_15.1 54 - 1)) wt lo hi from by exact y_TW_h p1 f15 rfl rfl) (show 0 ≤ lo ∧ hi ≤ 60000 from by (first | omega | (simp only [st_s] <;> omega) | assumption | omega | fail)) (show lo ≤ x11 ∧ x11 < hi from by exact rx11) (show 0 ≤ τ_15.2.1 86 x11 from by (rw [G86, ← e_x14]; omega)) (show y_In (s_v τ_15 54 (τ_15.1 54 - 1)) (τ_15.2.1 86 x11) from by (rw [G86, (y_SD_e SD15).2.1]; exact r14.1.1)) (show n_J (s_v τ_15 54 (τ_15.1 54 - 1)) from by exact n_J_hh p7 f15 rfl rfl) (show τ_15.2.1 97 (τ_15.2.1 86 x11) = -1 ∨ z_BV (s_v τ_15 54 (τ_15.1 54 - 1)) (τ_15.2.1 86 x11) from by (rw [G97, G86]; exact r14.1.2.imp id (fun w => z_BV_k w G19 W3 (by rw [← G99]; rfl) (by rw [← G100]; rfl) i15_2.1 i15_4))) (show ((τ_15.1 54 - 1)) ≤ 599 from by (first | omega | (simp only [st_s] <;> omega) | assumption | omega | fail)), ?_⟩
              intro x17 τ18 r_x17 hn_τ18 hf_τ18 hq
              obtain ⟨hT, q16_1, q16_2, q16_3⟩ := hq
              replace q16_1 : x17 = 0 ∨ x17 = 1 := q16_1
              replace q16_2 : ∀ s : Int, s < ((τ_15.1 54 - 1)) → τ18.2.1 102 s = τ_15.2.1 102 s := q16_2
              replace q16_3 : x17 = 1 → (((τ_15.1 54 - 1)) + 1 ≤ (τ18.1 54) ∧ (τ18.1 54) ≤ ((τ_15.1 54 - 1)) + 599) ∧ ∀ s : Int, ((τ_15.1 54 - 1)) ≤ s → s < (τ18.1 54) → z_tk (s_v τ_15 54 (τ_15.1 54 - 1)) x11 (τ18.2.1 102 s) := q16_3
              have w3_τ18 : τ18.1 3 = τ_15.1 3 := hf_τ18.1 3 (by decide)
              have w5_τ18 : τ18.1 5 = τ_15.1 5 := hf_τ18.1 5 (by decide)
              have w52_τ18 : τ18.1 52 = τ_15.1 52 := hf_τ18.1 52 (by decide)
              have w53_τ18 : τ18.1 53 = τ_15.1 53 := hf_τ18.1 53 (by decide)
              have g14_τ18 : τ18.2.1 14 = τ_15.2.1 14 := hf_τ18.2.1 14 (by decide)
              have g16_τ18 : τ18.2.1 16 = τ_15.2.1 16 := hf_τ18.2.1 16 (by decide)
              have g19_τ18 : τ18.2.1 19 = τ_15.2.1 19 := hf_τ18.2.1 19 (by decide)
              have g86_τ18 : τ18.2.1 86 = τ_15.2.1 86 := hf_τ18.2.1 86 (by decide)
              have g87_τ18 : τ18.2.1 87 = τ_15.2.1 87 := hf_τ18.2.1 87 (by decide)
              have g91_τ18 : τ18.2.1 91 = τ_15.2.1 91 := hf_τ18.2.1 91 (by decide)
              have g97_τ18 : τ18.2.1 97 = τ_15.2.1 97 := hf_τ18.2.1 97 (by decide)
              have g99_τ18 : τ18.2.1 99 = τ_15.2.1 99 := hf_τ18.2.1 99 (by decide)
              have g100_τ18 : τ18.2.1 100 = τ_15.2.1 100 := hf_τ18.2.1 100 (by decide)
              have g101_τ18 : τ18.2.1 101 = τ_15.2.1 101 := hf_τ18.2.1 101 (by decide)
              have W3 : τ18.1 3 = σ.1 3 := by first | exact w3_τ18.trans W3 | omega
              have W5 : τ18.1 5 = σ.1 5 := by first | exact w5_τ18.trans W5 | omega
              have W52 : τ18.1 52 = σ.1 52 := by first | exact w52_τ18.trans W52 | omega
              have G14 : τ18.2.1 14 = σ.2.1 14 := (g14_τ18).trans G14
              have G16 : τ18.2.1 16 = σ.2.1 16 := (g16_τ18).trans G16
              have G19 : τ18.2.1 19 = σ.2.1 19 := (g19_τ18).trans G19
              have G86 : τ18.2.1 86 = σ.2.1 86 := (g86_τ18).trans G86
              have G87 : τ18.2.1 87 = σ.2.1 87 := (g87_τ18).trans G87
              have G91 : τ18.2.1 91 = σ.2.1 91 := (g91_τ18).trans G91
              have G97 : τ18.2.1 97 = σ.2.1 97 := (g97_τ18).trans G97
              have G99 : τ18.2.1 99 = σ.2.1 99 := (g99_τ18).trans G99
              have G100 : τ18.2.1 100 = σ.2.1 100 := (g100_τ18).trans G100
              have A14 : ∀ j, 0 ≤ τ18.2.1 14 j ∧ τ18.2.1 14 j ≤ 30000 := fun j => hT.2 14 j
              have A16 : ∀ j, 0 ≤ τ18.2.1 16 j ∧ τ18.2.1 16 j ≤ 999 := fun j => hT.2 16 j
              have A19 : ∀ j, 0 ≤ τ18.2.1 19 j ∧ τ18.2.1 19 j ≤ 60 := fun j => hT.2 19 j
              have A86 : ∀ j, (-1500) ≤ τ18.2.1 86 j ∧ τ18.2.1 86 j ≤ 1499 := fun j => hT.2 86 j
              have A87 : ∀ j, 0 ≤ τ18.2.1 87 j ∧ τ18.2.1 87 j ≤ 120000 := fun j => hT.2 87 j
              have A91 : ∀ j, 0 ≤ τ18.2.1 91 j ∧ τ18.2.1 91 j ≤ 60000 := fun j => hT.2 91 j
              have A97 : ∀ j, (-1) ≤ τ18.2.1 97 j ∧ τ18.2.1 97 j ≤ 1499 := fun j => hT.2 97 j
              have A99 : ∀ j, 0 ≤ τ18.2.1 99 j ∧ τ18.2.1 99 j ≤ 460000 := fun j => hT.2 99 j
              have A100 : ∀ j, (-1) ≤ τ18.2.1 100 j ∧ τ18.2.1 100 j ≤ 599 := fun j => hT.2 100 j
              have A101 : ∀ j, (-61) ≤ τ18.2.1 101 j ∧ τ18.2.1 101 j ≤ 999 := fun j => hT.2 101 j
              have A102 : ∀ j, (-2147483648) ≤ τ18.2.1 102 j ∧ τ18.2.1 102 j ≤ 2147483647 := fun j => hT.2 102 j
              have v3 : 0 ≤ τ18.1 3 ∧ τ18.1 3 ≤ 1000 := hT.1 3
              have v5 : 0 ≤ τ18.1 5 ∧ τ18.1 5 ≤ 1500 := hT.1 5
              have v52 : 0 ≤ τ18.1 52 ∧ τ18.1 52 ≤ 120000 := hT.1 52
              have v53 : 0 ≤ τ18.1 53 ∧ τ18.1 53 ≤ 460000 := hT.1 53
              have v54 : 0 ≤ τ18.1 54 ∧ τ18.1 54 ≤ 1300 := hT.1 54
              have s18 : x17 = 0 ∨ ((∀ s : Int, 0 ≤ s → s < τ18.1 54 → z_ts σ Z (τ18.2.1 102 s)) ∧ (τ_15.1 54 ≤ τ18.1 54 ∧ τ18.1 54 ≤ τ_15.1 54 + 598) ∧ (1300 - (τ18.1 53 - u3_15 + τ18.1 54)) * 15300000 + sm (fun s => z_wf wt (τ18.2.1 102 s)) (τ18.1 54) + 1 ≤ (1300 - (τ_15.1 53 - u3_15 + τ_15.1 54)) * 15300000 + sm (fun s => z_wf wt (τ_15.2.1 102 s)) (τ_15.1 54)) := (by rcases q16_1 with z | z; (exact Or.inl z); (refine Or.inr ?_; obtain ⟨c1, c2⟩ := q16_3 z; have hd : (τ_15.1 54 - 1) + (τ18.1 54 - (τ_15.1 54 - 1)) = τ18.1 54 := (by omega); obtain ⟨d1, d2, _⟩ := z_sp (f := τ_15.2.1 102) (g := τ18.2.1 102) (n := τ_15.1 54 - 1) (d := τ18.1 54 - (τ_15.1 54 - 1)) p1 p3 zx11 p2.1 (by rw [← e_x14]; omega) (by omega) (by omega) (by omega) (fun s a => q16_2 s a) (fun s a b => i15_3 s a (by omega)) (fun s a b => tkE _ _ (c2 s a (by omega))); rw [hd] at d1 d2; exact ⟨d1, by omega, by omega⟩))
              have s18b : x17 = 0 ∨ ((τ_15.1 54 ≤ τ18.1 54 ∧ τ18.1 54 ≤ τ_15.1 54 + 598) ∧ (1300 - (τ18.1 53 - u3_15 + τ18.1 54)) * 15300000 + sm (fun s => z_wf wt (τ18.2.1 102 s)) (τ18.1 54) + 1 ≤ (1300 - (τ_15.1 53 - u3_15 + τ_15.1 54)) * 15300000 + sm (fun s => z_wf wt (τ_15.2.1 102 s)) (τ_15.1 54)) := s18.imp id (fun w => w.2)
              refine ⟨fun c19 => ?_, fun c19 => ?_⟩
              ·
                exact ih_15 _ _ (show ((1300 - ((τ18.1 53) - u3_15 + (τ18.1 54))) * 15300000 + sm (fun s => z_wf wt (τ18.2.1 102 s)) (τ18.1 54) : Int) < ((m_15 : Nat) : Int) from by ((first | omega | (simp only [st_s] <;> omega) | assumption | omega | fail))) hT (show τ18.1 3 = σ.1 3 from by first | exact W3 | omega) (show τ18.1 5 = σ.1 5 from by first | exact W5 | omega) (show τ18.1 52 = σ.1 52 from by first | exact W52 | omega) G14 G16 G19 G86 G87 G91 G97 G99 G100 (show u3_15 = (σ.1 53) from by (first | omega | (simp only [st_s] <;> omega) | assumption | omega | fail)) (show (σ.1 53) ≤ (τ18.1 53) ∧ 0 ≤ (τ18.1 54) from by (first | omega | (simp only [st_s] <;> omega) | assumption | omega | fail)) (show ∀ s : Int, 0 ≤ s → s < (τ18.1 54) → z_ts σ Z (τ18.2.1 102 s) from by (first | (intro s a b; rw [q1_1, show s = 0 from by omega, st_s]; exact zt1) | exact (s18.resolve_left (by omega)).1 | exact i109_3 | fail)) (show ∀ e : Int, e < (σ.1 53) → τ18.2.1 101 e = σ.2.1 101 e from by (first | (intro e a; exact congrFun (hf_τ3.2.1 101 (by decide)) e) | (intro e a; rw [g101_τ18]; exact i15_4 e a) | (intro e a; rw [st_n _ _ (by omega)]; exact i109_4 e a) | fail)) (show ∀ k : Int, 0 ≤ k → k < (τ18.1 53) - (σ.1 53) → z_it σ n2 (τ18.2.1 101 ((σ.1 53) + k)) from by (first | (intro k a b; exfalso; omega) | (intro k a b; rw [g101_τ18]; exact i15_5 k a (by omega)) | (intro k a b; rcases (by omega : k < τ_109.1 53 - σ.1 53 ∨ k = τ_109.1 53 - σ.1 53) with y | y; (rw [st_n _ _ (by omega)]; exact i109_5 k a y); (rw [show σ.1 53 + k = k1_109 from by omega, st_s]; exact i109_9)) | fail)) (show 1 ≤ (τ18.1 53) - u3_15 + (τ18.1 54) ∧ (τ18.1 53) - u3_15 + (τ18.1 54) ≤ 1198 from by (first | omega | (simp only [st_s] <;> omega) | assumption | omega | fail)) (show (τ18.1 53) - u3_15 ≤ 599 from by (first | omega | (simp only [st_s] <;> omega) | assumption | omega | fail)) (show f_r [53, 54] [101, 102] [] σ τ18 from by (first | exact f_t (f_v f_0 (by simp) : f_r [53, 54] [101, 102] [] σ (s_v σ 54 0)) hf_τ3 rfl rfl rfl | exact f_t f15 hf_τ18 rfl rfl rfl | exact f_v (f_a i109_11 (by simp)) (by simp) | fail))
              ·
                replace hT := mT_v (i := 53) hT (show 0 ≤ u3_15 ∧ u3_15 ≤ 460000 from by (first | omega | (simp only [st_s] <;> omega) | assumption | omega | fail))
                exact ⟨hT, (show (-1) = -1 ∨ (1 ≤ (-1) ∧ (-1) ≤ 599 ∧ (u3_15) = (σ.1 53) + (-1)) from by (first | exact Or.inr (by omega) | exact Or.inl rfl | fail)), (show (-1) = -1 → (u3_15) = (σ.1 53) from by (first | exact fun _ => i15_1 | (intro z; exfalso; omega) | fail)), (show ∀ e : Int, e < (σ.1 53) → τ18.2.1 101 e = σ.2.1 101 e from by (first | exact i15_4 | (intro e a; rw [g101_τ18]; exact i15_4 e a) | fail)), (show ¬ (-1) = -1 → ∀ k : Int, 0 ≤ k → k < (-1) → z_it σ n2 (τ18.2.1 101 ((σ.1 53) + k)) from by (first | exact fun _ k a b => i15_5 k a (by omega) | exact fun z => absurd rfl z | fail))⟩
            ·
              exact l_82 _ _ _ hT (show τ_15.1 3 = σ.1 3 from by first | exact W3 | omega) (show τ_15.1 5 = σ.1 5 from by first | exact W5 | omega) (show τ_15.1 52 = σ.1 52 from by first | exact W52 | omega) G14 G16 G19 G86 G87 G91 G97 G99 G100 (show u3_15 = (σ.1 53) from by (first | omega | (simp only [st_s] <;> omega) | assumption | omega | fail)) (show (σ.1 53) ≤ (τ_15.1 53) ∧ 0 ≤ ((τ_15.1 54 - 1)) from by (first | omega | (simp only [st_s] <;> omega) | assumption | omega | fail)) (show ∀ s : Int, 0 ≤ s → s < ((τ_15.1 54 - 1)) → z_ts σ Z (τ_15.2.1 102 s) from by (intro s a b; exact i15_3 s a (by omega))) (show ∀ e : Int, e < (σ.1 53) → τ_15.2.1 101 e = σ.2.1 101 e from by exact i15_4) (show ∀ k : Int, 0 ≤ k → k < (τ_15.1 53) - (σ.1 53) → z_it σ n2 (τ_15.2.1 101 ((σ.1 53) + k)) from by exact i15_5) (show (τ_15.1 53) - u3_15 + ((τ_15.1 54 - 1)) + 1 ≤ 599 from by (first | omega | (simp only [st_s] <;> omega) | assumption | omega | fail)) (show (1300 - ((τ_15.1 53) - u3_15 + ((τ_15.1 54 - 1)) + 1)) * 15300000 + sm (fun s => z_wf wt (τ_15.2.1 102 s)) ((τ_15.1 54 - 1)) + 1 ≤ (m_15 : Int) from by (first | omega | (simp only [st_s] <;> omega) | assumption | omega | fail)) (show z_ts σ Z x11 from by exact ts11) (show x11 < 0 ∨ σ.2.1 86 x11 < 0 from by (first | exact Or.inl (by omega) | exact Or.inr (by rw [← e_x14]; omega) | fail)) (show f_r [53, 54] [101, 102] [] σ (s_v τ_15 54 (τ_15.1 54 - 1)) from by exact f_v i15_8 (by simp))
        ·
          replace hT := mT_v (i := 53) hT (show 0 ≤ u3_15 ∧ u3_15 ≤ 460000 from by (first | omega | (simp only [st_s] <;> omega) | assumption | omega | fail))
          exact ⟨hT, (show (-1) = -1 ∨ (1 ≤ (-1) ∧ (-1) ≤ 599 ∧ (u3_15) = (σ.1 53) + (-1)) from by (first | exact Or.inr (by omega) | exact Or.inl rfl | fail)), (show (-1) = -1 → (u3_15) = (σ.1 53) from by (first | exact fun _ => i15_1 | (intro z; exfalso; omega) | fail)), (show ∀ e : Int, e < (σ.1 53) → τ_15.2.1 101 e = σ.2.1 101 e from by (first | exact i15_4 | (intro e a; rw [g101_τ18]; exact i15_4 e a) | fail)), (show ¬ (-1) = -1 → ∀ k : Int, 0 ≤ k → k < (-1) → z_it σ n2 (τ_15.2.1 101 ((σ.1 53) + k)) from by (first | exact fun _ k a b => i15_5 k a (by omega) | exact fun z => absurd rfl z | fail))⟩
  replace hT := mT_v (i := 54) hT (show (0 : Int) ≤ 0 ∧ 0 ≤ 1300 from by (first | omega | (simp only [st_s] <;> omega) | assumption | omega | fail))
  refine ⟨_, K_X13_addTask hT (show ((0 : Int)) < 1300 from by (first | omega | (simp only [st_s] <;> omega) | assumption | omega | fail)) (show -2147483648 ≤ n1 ∧ n1 ≤ 2147483647 from by (first | omega | (simp only [st_s] <;> omega) | assumption | omega | fail)), ?_⟩
  intro τ3 hn_τ3 hf_τ3 hq
  obtain ⟨hT, q1_1, q1_2⟩ := hq
  replace q1_1 : τ3.2.1 102 = st (σ.2.1 102) ((0 : Int)) n1 := q1_1
  replace q1_2 : (τ3.1 54) = ((0 : Int)) + 1 := q1_2
  have w3_τ3 : τ3.1 3 = σ.1 3 := hf_τ3.1 3 (by decide)
  have w5_τ3 : τ3.1 5 = σ.1 5 := hf_τ3.1 5 (by decide)
  have w52_τ3 : τ3.1 52 = σ.1 52 := hf_τ3.1 52 (by decide)
  have w53_τ3 : τ3.1 53 = σ.1 53 := hf_τ3.1 53 (by decide)
  have g14_τ3 : τ3.2.1 14 = σ.2.1 14 := hf_τ3.2.1 14 (by decide)
  have g16_τ3 : τ3.2.1 16 = σ.2.1 16 := hf_τ3.2.1 16 (by decide)
  have g19_τ3 : τ3.2.1 19 = σ.2.1 19 := hf_τ3.2.1 19 (by decide)
  have g86_τ3 : τ3.2.1 86 = σ.2.1 86 := hf_τ3.2.1 86 (by decide)
  have g87_τ3 : τ3.2.1 87 = σ.2.1 87 := hf_τ3.2.1 87 (by decide)
  have g91_τ3 : τ3.2.1 91 = σ.2.1 91 := hf_τ3.2.1 91 (by decide)
  have g97_τ3 : τ3.2.1 97 = σ.2.1 97 := hf_τ3.2.1 97 (by decide)
  have g99_τ3 : τ3.2.1 99 = σ.2.1 99 := hf_τ3.2.1 99 (by decide)
  have g100_τ3 : τ3.2.1 100 = σ.2.1 100 := hf_τ3.2.1 100 (by decide)
  have g101_τ3 : τ3.2.1 101 = σ.2.1 101 := hf_τ3.2.1 101 (by decide)
  have W3 : τ3.1 3 = σ.1 3 := by first | exact w3_τ3.trans W3 | omega
  have W5 : τ3.1 5 = σ.1 5 := by first | exact w5_τ3.trans W5 | omega
  have W52 : τ3.1 52 = σ.1 52 := by first | exact w52_τ3.trans W52 | omega
  have G14 : τ3.2.1 14 = σ.2.1 14 := (g14_τ3).trans G14
  have G16 : τ3.2.1 16 = σ.2.1 16 := (g16_τ3).trans G16
  have G19 : τ3.2.1 19 = σ.2.1 19 := (g19_τ3).trans G19
  have G86 : τ3.2.1 86 = σ.2.1 86 := (g86_τ3).trans G86
  have G87 : τ3.2.1 87 = σ.2.1 87 := (g87_τ3).trans G87
  have G91 : τ3.2.1 91 = σ.2.1 91 := (g91_τ3).trans G91
  have G97 : τ3.2.1 97 = σ.2.1 97 := (g97_τ3).trans G97
  have G99 : τ3.2.1 99 = σ.2.1 99 := (g99_τ3).trans G99
  have G100 : τ3.2.1 100 = σ.2.1 100 := (g100_τ3).trans G100
  have A14 : ∀ j, 0 ≤ τ3.2.1 14 j ∧ τ3.2.1 14 j ≤ 30000 := fun j => hT.2 14 j
  have A16 : ∀ j, 0 ≤ τ3.2.1 16 j ∧ τ3.2.1 16 j ≤ 999 := fun j => hT.2 16 j
  have A19 : ∀ j, 0 ≤ τ3.2.1 19 j ∧ τ3.2.1 19 j ≤ 60 := fun j => hT.2 19 j
  have A86 : ∀ j, (-1500) ≤ τ3.2.1 86 j ∧ τ3.2.1 86 j ≤ 1499 := fun j => hT.2 86 j
  have A87 : ∀ j, 0 ≤ τ3.2.1 87 j ∧ τ3.2.1 87 j ≤ 120000 := fun j => hT.2 87 j
  have A91 : ∀ j, 0 ≤ τ3.2.1 91 j ∧ τ3.2.1 91 j ≤ 60000 := fun j => hT.2 91 j
  have A97 : ∀ j, (-1) ≤ τ3.2.1 97 j ∧ τ3.2.1 97 j ≤ 1499 := fun j => hT.2 97 j
  have A99 : ∀ j, 0 ≤ τ3.2.1 99 j ∧ τ3.2.1 99 j ≤ 460000 := fun j => hT.2 99 j
  have A100 : ∀ j, (-1) ≤ τ3.2.1 100 j ∧ τ3.2.1 100 j ≤ 599 := fun j => hT.2 100 j
  have A101 : ∀ j, (-61) ≤ τ3.2.1 101 j ∧ τ3.2.1 101 j ≤ 999 := fun j => hT.2 101 j
  have A102 : ∀ j, (-2147483648) ≤ τ3.2.1 102 j ∧ τ3.2.1 102 j ≤ 2147483647 := fun j => hT.2 102 j
  have v3 : 0 ≤ τ3.1 3 ∧ τ3.1 3 ≤ 1000 := hT.1 3
  have v5 : 0 ≤ τ3.1 5 ∧ τ3.1 5 ≤ 1500 := hT.1 5
  have v52 : 0 ≤ τ3.1 52 ∧ τ3.1 52 ≤ 120000 := hT.1 52
  have v53 : 0 ≤ τ3.1 53 ∧ τ3.1 53 ≤ 460000 := hT.1 53
  have v54 : 0 ≤ τ3.1 54 ∧ τ3.1 54 ≤ 1300 := hT.1 54
  have sw3 : sm (fun s => z_wf wt (τ3.2.1 102 s)) (τ3.1 54) = z_wf wt n1 := (by rw [q1_1, q1_2, z_mw_1 (f := σ.2.1 102) (Int.le_refl _) (fun s a b => by (exfalso; omega)), sm_0, st_s]; omega)
  have zt1 : z_ts σ Z n1 := Or.inr ⟨by (have w := zn1.1; omega), p4⟩
  have zb1 := z_ts_b p1 p3 zt1
  refine ⟨(⟨by (first | omega | (simp only [st_s] <;> omega) | assumption | omega | fail), by (first | omega | (simp only [st_s] <;> omega) | assumption | omega | fail)⟩ : rg (σ.1 53)), ?_⟩
  exact l_15 (((1300 - ((τ3.1 53) - (σ.1 53) + (τ3.1 54))) * 15300000 + sm (fun s => z_wf wt (τ3.2.1 102 s)) (τ3.1 54) : Int).toNat + 1) _ _ (show ((1300 - ((τ3.1 53) - (σ.1 53) + (τ3.1 54))) * 15300000 + sm (fun s => z_wf wt (τ3.2.1 102 s)) (τ3.1 54) : Int) < ((((1300 - ((τ3.1 53) - (σ.1 53) + (τ3.1 54))) * 15300000 + sm (fun s => z_wf wt (τ3.2.1 102 s)) (τ3.1 54) : Int).toNat + 1 : Nat) : Int) from by ((first | omega | (simp only [st_s] <;> omega) | assumption | omega | fail))) hT (show τ3.1 3 = σ.1 3 from by first | exact W3 | omega) (show τ3.1 5 = σ.1 5 from by first | exact W5 | omega) (show τ3.1 52 = σ.1 52 from by first | exact W52 | omega) G14 G16 G19 G86 G87 G91 G97 G99 G100 (show (σ.1 53) = (σ.1 53) from by (first | omega | (simp only [st_s] <;> omega) | assumption | omega | fail)) (show (σ.1 53) ≤ (τ3.1 53) ∧ 0 ≤ (τ3.1 54) from by (first | omega | (simp only [st_s] <;> omega) | assumption | omega | fail)) (show ∀ s : Int, 0 ≤ s → s < (τ3.1 54) → z_ts σ Z (τ3.2.1 102 s) from by (first | (intro s a b; rw [q1_1, show s = 0 from by omega, st_s]; exact zt1) | exact (s18.resolve_left (by omega)).1 | exact i109_3 | fail)) (show ∀ e : Int, e < (σ.1 53) → τ3.2.1 101 e = σ.2.1 101 e from by (first | (intro e a; exact congrFun (hf_τ3.2.1 101 (by decide)) e) | (intro e a; rw [g101_τ18]; exact i15_4 e a) | (intro e a; rw [st_n _ _ (by omega)]; exact i109_4 e a) | fail)) (show ∀ k : Int, 0 ≤ k → k < (τ3.1 53) - (σ.1 53) → z_it σ n2 (τ3.2.1 101 ((σ.1 53) + k)) from by (first | (intro k a b; exfalso; omega) | (intro k a b; rw [g101_τ18]; exact i15_5 k a (by omega)) | (intro k a b; rcases (by omega : k < τ_109.1 53 - σ.1 53 ∨ k = τ_109.1 53 - σ.1 53) with y | y; (rw [st_n _ _ (by omega)]; exact i109_5 k a y); (rw [show σ.1 53 + k = k1_109 from by omega, st_s]; exact i109_9)) | fail)) (show 1 ≤ (τ3.1 53) - (σ.1 53) + (τ3.1 54) ∧ (τ3.1 53) - (σ.1 53) + (τ3.1 54) ≤ 1198 from by (first | omega | (simp only [st_s] <;> omega) | assumption | omega | fail)) (show (τ3.1 53) - (σ.1 53) ≤ 599 from by (first | omega | (simp only [st_s] <;> omega) | assumption | omega | fail)) (show f_r [53, 54] [101, 102] [] σ τ3 from by (first | exact f_t (f_v f_0 (by simp) : f_r [53, 54] [101, 102] [] σ (s_v σ 54 0)) hf_τ3 rfl rfl rfl | exact f_t f15 hf_τ18 rfl rfl rfl | exact f_v (f_a i109_11 (by simp)) (by simp) | fail))
