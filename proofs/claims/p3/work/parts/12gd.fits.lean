/-- what is bound -/
def z_bd (σ τ : S0) : Prop := ∀ s : Int, 0 ≤ s → s < σ.1 3 → τ.2.1 104 s = -1 ∨ (0 ≤ τ.2.1 104 s ∧ τ.2.1 104 s ≤ τ.2.1 105 s ∧ τ.2.1 105 s ≤ 59)
theorem z_bd_s {σ τ : S0} {s p q : Int} {f g : Int → Int} (h : z_bd σ τ) (p0 : 0 ≤ p) (pq : p ≤ q) (q1 : q ≤ 59) (ef : f = st (τ.2.1 104) s p) (eg : g = st (τ.2.1 105) s q) : ∀ r : Int, 0 ≤ r → r < σ.1 3 → f r = -1 ∨ (0 ≤ f r ∧ f r ≤ g r ∧ g r ≤ 59) := fun r r0 r1 => by
  rw [ef, eg]
  by_cases y : r = s
  · rw [y, st_s, st_s]; exact Or.inr ⟨p0, pq, q1⟩
  · rw [st_n _ _ y, st_n _ _ y]; exact h r r0 r1
set_option maxHeartbeats 6000000 in
theorem K_X13_fits {n1 : Int} {n2 : Int} {wt wt2 : Int → Int} {lo hi lo2 hi2 : Int} {σ : S0} (hT : m_T σ) (p1 : y_TW σ wt lo hi) (p2 : lo ≤ n1 ∧ n1 < hi) (p3 : 0 ≤ lo ∧ hi ≤ 60000) (p4 : y_TW σ wt2 lo2 hi2) (p5 : lo2 ≤ n2 ∧ n2 < hi2) (p6 : 0 ≤ lo2 ∧ hi2 ≤ 60000) (p7 : ∀ y : Int, lo2 ≤ y → y < hi2 → 0 ≤ σ.2.1 88 y ∧ σ.2.1 88 y ≤ σ.2.1 89 y ∧ σ.2.1 89 y ≤ 59) (p8 : ∀ y : Int, lo ≤ y → y < hi → σ.2.1 86 y < 0 → σ.2.1 16 (σ.2.1 14 (-1 - σ.2.1 86 y) + 1) < (σ.1 3)) (p9 : z_bd σ σ) : W_X13_fits n1 n2 σ (fun (x : Int) (τ : S0) => (m_T τ) ∧ (x = 0 ∨ x = 1)) := by
  have A14 : ∀ j, 0 ≤ σ.2.1 14 j ∧ σ.2.1 14 j ≤ 30000 := fun j => hT.2 14 j
  have A16 : ∀ j, 0 ≤ σ.2.1 16 j ∧ σ.2.1 16 j ≤ 999 := fun j => hT.2 16 j
  have A19 : ∀ j, 0 ≤ σ.2.1 19 j ∧ σ.2.1 19 j ≤ 60 := fun j => hT.2 19 j
  have A65 : ∀ j, 0 ≤ σ.2.1 65 j ∧ σ.2.1 65 j ≤ 60000 := fun j => hT.2 65 j
  have A86 : ∀ j, (-1500) ≤ σ.2.1 86 j ∧ σ.2.1 86 j ≤ 1499 := fun j => hT.2 86 j
  have A87 : ∀ j, 0 ≤ σ.2.1 87 j ∧ σ.2.1 87 j ≤ 120000 := fun j => hT.2 87 j
  have A88 : ∀ j, 0 ≤ σ.2.1 88 j ∧ σ.2.1 88 j ≤ 59 := fun j => hT.2 88 j
  have A89 : ∀ j, 0 ≤ σ.2.1 89 j ∧ σ.2.1 89 j ≤ 59 := fun j => hT.2 89 j
  have A91 : ∀ j, 0 ≤ σ.2.1 91 j ∧ σ.2.1 91 j ≤ 60000 := fun j => hT.2 91 j
  have A104 : ∀ j, (-1) ≤ σ.2.1 104 j ∧ σ.2.1 104 j ≤ 59 := fun j => hT.2 104 j
  have A105 : ∀ j, 0 ≤ σ.2.1 105 j ∧ σ.2.1 105 j ≤ 59 := fun j => hT.2 105 j
  have A106 : ∀ j, 0 ≤ σ.2.1 106 j ∧ σ.2.1 106 j ≤ 60000 := fun j => hT.2 106 j
  have v3 : 0 ≤ σ.1 3 ∧ σ.1 3 ≤ 1000 := hT.1 3
  have v5 : 0 ≤ σ.1 5 ∧ σ.1 5 ≤ 1500 := hT.1 5
  have v42 : 0 ≤ σ.1 42 ∧ σ.1 42 ≤ 40000 := hT.1 42
  have v45 : 0 ≤ σ.1 45 ∧ σ.1 45 ≤ 59 := hT.1 45
  have v52 : 0 ≤ σ.1 52 ∧ σ.1 52 ≤ 120000 := hT.1 52
  have W3 : σ.1 3 = σ.1 3 := rfl
  have W5 : σ.1 5 = σ.1 5 := rfl
  have W45 : σ.1 45 = σ.1 45 := rfl
  have W52 : σ.1 52 = σ.1 52 := rfl
  have G14 : σ.2.1 14 = σ.2.1 14 := rfl
  have G16 : σ.2.1 16 = σ.2.1 16 := rfl
  have G19 : σ.2.1 19 = σ.2.1 19 := rfl
  have G86 : σ.2.1 86 = σ.2.1 86 := rfl
  have G87 : σ.2.1 87 = σ.2.1 87 := rfl
  have G88 : σ.2.1 88 = σ.2.1 88 := rfl
  have G89 : σ.2.1 89 = σ.2.1 89 := rfl
  have G91 : σ.2.1 91 = σ.2.1 91 := rfl
  intro P24 P189 h24 h189
  have l52 : σ.1 52 ≤ 120000 := (hT.1 52).2
  have l5 : σ.1 5 ≤ 1500 := (hT.1 5).2
  have wn1 := (p1 n1 p2.1 p2.2).1
  have B19 := A19
  have l_24 : ∀ (m_24 : Nat) (τ_24 : S0), sm (fun s => wt (τ_24.2.1 65 s)) (τ_24.1 42) < (m_24 : Int) → (m_T τ_24) → (τ_24.1 3 = σ.1 3) → (τ_24.1 5 = σ.1 5) → (τ_24.1 45 = σ.1 45) → (τ_24.1 52 = σ.1 52) → (τ_24.2.1 14 = σ.2.1 14) → (τ_24.2.1 16 = σ.2.1 16) → (τ_24.2.1 19 = σ.2.1 19) → (τ_24.2.1 86 = σ.2.1 86) → (τ_24.2.1 87 = σ.2.1 87) → (τ_24.2.1 88 = σ.2.1 88) → (τ_24.2.1 89 = σ.2.1 89) → (τ_24.2.1 91 = σ.2.1 91) → (0 ≤ τ_24.1 42) → (y_SK wt lo hi (τ_24.1 42) (τ_24.2.1 65)) → (y_SK wt2 lo2 hi2 (τ_24.1 42) (τ_24.2.1 106)) → (z_bd σ τ_24) → (sm (fun s => wt (τ_24.2.1 65 s)) (τ_24.1 42) ≤ 11700) → P24 τ_24 := by
    intro m_24
    induction m_24 with
    | zero =>
      intro τ_24 hm hT W3 W5 W45 W52 G14 G16 G19 G86 G87 G88 G89 G91 i24_1 i24_2 i24_3 i24_4 i24_5
      have A14 : ∀ j, 0 ≤ τ_24.2.1 14 j ∧ τ_24.2.1 14 j ≤ 30000 := fun j => hT.2 14 j
      have A16 : ∀ j, 0 ≤ τ_24.2.1 16 j ∧ τ_24.2.1 16 j ≤ 999 := fun j => hT.2 16 j
      have A19 : ∀ j, 0 ≤ τ_24.2.1 19 j ∧ τ_24.2.1 19 j ≤ 60 := fun j => hT.2 19 j
      have A65 : ∀ j, 0 ≤ τ_24.2.1 65 j ∧ τ_24.2.1 65 j ≤ 60000 := fun j => hT.2 65 j
      have A86 : ∀ j, (-1500) ≤ τ_24.2.1 86 j ∧ τ_24.2.1 86 j ≤ 1499 := fun j => hT.2 86 j
      have A87 : ∀ j, 0 ≤ τ_24.2.1 87 j ∧ τ_24.2.1 87 j ≤ 120000 := fun j => hT.2 87 j
      have A88 : ∀ j, 0 ≤ τ_24.2.1 88 j ∧ τ_24.2.1 88 j ≤ 59 := fun j => hT.2 88 j
      have A89 : ∀ j, 0 ≤ τ_24.2.1 89 j ∧ τ_24.2.1 89 j ≤ 59 := fun j => hT.2 89 j
      have A91 : ∀ j, 0 ≤ τ_24.2.1 91 j ∧ τ_24.2.1 91 j ≤ 60000 := fun j => hT.2 91 j
      have A104 : ∀ j, (-1) ≤ τ_24.2.1 104 j ∧ τ_24.2.1 104 j ≤ 59 := fun j => hT.2 104 j
      have A105 : ∀ j, 0 ≤ τ_24.2.1 105 j ∧ τ_24.2.1 105 j ≤ 59 := fun j => hT.2 105 j
      have A106 : ∀ j, 0 ≤ τ_24.2.1 106 j ∧ τ_24.2.1 106 j ≤ 60000 := fun j => hT.2 106 j
      have v3 : 0 ≤ τ_24.1 3 ∧ τ_24.1 3 ≤ 1000 := hT.1 3
      have v5 : 0 ≤ τ_24.1 5 ∧ τ_24.1 5 ≤ 1500 := hT.1 5
      have v42 : 0 ≤ τ_24.1 42 ∧ τ_24.1 42 ≤ 40000 := hT.1 42
      have v45 : 0 ≤ τ_24.1 45 ∧ τ_24.1 45 ≤ 59 := hT.1 45
      have v52 : 0 ≤ τ_24.1 52 ∧ τ_24.1 52 ≤ 120000 := hT.1 52
      exfalso; (have sn := y_sW_n p1 i24_2 i24_1; omega)
    | succ m_24 ih_24 =>
      intro τ_24 hm_24 hT W3 W5 W45 W52 G14 G16 G19 G86 G87 G88 G89 G91 i24_1 i24_2 i24_3 i24_4 i24_5
      have A14 : ∀ j, 0 ≤ τ_24.2.1 14 j ∧ τ_24.2.1 14 j ≤ 30000 := fun j => hT.2 14 j
      have A16 : ∀ j, 0 ≤ τ_24.2.1 16 j ∧ τ_24.2.1 16 j ≤ 999 := fun j => hT.2 16 j
      have A19 : ∀ j, 0 ≤ τ_24.2.1 19 j ∧ τ_24.2.1 19 j ≤ 60 := fun j => hT.2 19 j
      have A65 : ∀ j, 0 ≤ τ_24.2.1 65 j ∧ τ_24.2.1 65 j ≤ 60000 := fun j => hT.2 65 j
      have A86 : ∀ j, (-1500) ≤ τ_24.2.1 86 j ∧ τ_24.2.1 86 j ≤ 1499 := fun j => hT.2 86 j
      have A87 : ∀ j, 0 ≤ τ_24.2.1 87 j ∧ τ_24.2.1 87 j ≤ 120000 := fun j => hT.2 87 j
      have A88 : ∀ j, 0 ≤ τ_24.2.1 88 j ∧ τ_24.2.1 88 j ≤ 59 := fun j => hT.2 88 j
      have A89 : ∀ j, 0 ≤ τ_24.2.1 89 j ∧ τ_24.2.1 89 j ≤ 59 := fun j => hT.2 89 j
      have A91 : ∀ j, 0 ≤ τ_24.2.1 91 j ∧ τ_24.2.1 91 j ≤ 60000 := fun j => hT.2 91 j
      have A104 : ∀ j, (-1) ≤ τ_24.2.1 104 j ∧ τ_24.2.1 104 j ≤ 59 := fun j => hT.2 104 j
      have A105 : ∀ j, 0 ≤ τ_24.2.1 105 j ∧ τ_24.2.1 105 j ≤ 59 := fun j => hT.2 105 j
      have A106 : ∀ j, 0 ≤ τ_24.2.1 106 j ∧ τ_24.2.1 106 j ≤ 60000 := fun j => hT.2 106 j
      have v3 : 0 ≤ τ_24.1 3 ∧ τ_24.1 3 ≤ 1000 := hT.1 3
      have v5 : 0 ≤ τ_24.1 5 ∧ τ_24.1 5 ≤ 1500 := hT.1 5
      have v42 : 0 ≤ τ_24.1 42 ∧ τ_24.1 42 ≤ 40000 := hT.1 42
      have v45 : 0 ≤ τ_24.1 45 ∧ τ_24.1 45 ≤ 59 := hT.1 45
      have v52 : 0 ≤ τ_24.1 52 ∧ τ_24.1 52 ≤ 120000 := hT.1 52
      have sn := y_sW_n p1 i24_2 i24_1
      have l_189 : ∀ (m_189 : Nat) (u3_189 : Int) (u4_189 : Int) (u5_189 : Int) (u6_189 : Int) (τ_189 : S0), 61 - u6_189 < (m_189 : Int) → (m_T τ_189) → (τ_189.1 3 = σ.1 3) → (τ_189.1 5 = σ.1 5) → (τ_189.1 45 = σ.1 45) → (τ_189.1 52 = σ.1 52) → (τ_189.2.1 14 = σ.2.1 14) → (τ_189.2.1 16 = σ.2.1 16) → (τ_189.2.1 19 = σ.2.1 19) → (τ_189.2.1 86 = σ.2.1 86) → (τ_189.2.1 87 = σ.2.1 87) → (τ_189.2.1 88 = σ.2.1 88) → (τ_189.2.1 89 = σ.2.1 89) → (τ_189.2.1 91 = σ.2.1 91) → (0 ≤ τ_189.1 42) → (y_SK wt lo hi (τ_189.1 42) (τ_189.2.1 65)) → (y_SK wt2 lo2 hi2 (τ_189.1 42) (τ_189.2.1 106)) → (z_bd σ τ_189) → (lo ≤ u3_189 ∧ u3_189 < hi) → (lo2 ≤ u4_189 ∧ u4_189 < hi2) → (u5_189 = σ.2.1 86 u3_189 ∧ σ.2.1 86 u4_189 = u5_189 ∧ 0 ≤ u5_189) → (0 ≤ u6_189 ∧ u6_189 ≤ σ.2.1 19 u5_189) → (sm (fun s => wt (τ_189.2.1 65 s)) (τ_189.1 42) + sm (fun k => wt (σ.2.1 91 (σ.2.1 87 u3_189 + (u6_189 + k)))) (σ.2.1 19 u5_189 - u6_189) + 1 ≤ 11700) → (sm (fun s => wt (τ_189.2.1 65 s)) (τ_189.1 42) + sm (fun k => wt (σ.2.1 91 (σ.2.1 87 u3_189 + (u6_189 + k)))) (σ.2.1 19 u5_189 - u6_189) + 1 ≤ (m_24 : Int)) → P189 u3_189 u4_189 u5_189 u6_189 τ_189 := by
        intro m_189
        induction m_189 with
        | zero =>
          intro u3_189 u4_189 u5_189 u6_189 τ_189 hm hT W3 W5 W45 W52 G14 G16 G19 G86 G87 G88 G89 G91 i189_1 i189_2 i189_3 i189_4 i189_5 i189_6 i189_7 i189_8 i189_9 i189_10
          have A14 : ∀ j, 0 ≤ τ_189.2.1 14 j ∧ τ_189.2.1 14 j ≤ 30000 := fun j => hT.2 14 j
          have A16 : ∀ j, 0 ≤ τ_189.2.1 16 j ∧ τ_189.2.1 16 j ≤ 999 := fun j => hT.2 16 j
          have A19 : ∀ j, 0 ≤ τ_189.2.1 19 j ∧ τ_189.2.1 19 j ≤ 60 := fun j => hT.2 19 j
          have A65 : ∀ j, 0 ≤ τ_189.2.1 65 j ∧ τ_189.2.1 65 j ≤ 60000 := fun j => hT.2 65 j
          have A86 : ∀ j, (-1500) ≤ τ_189.2.1 86 j ∧ τ_189.2.1 86 j ≤ 1499 := fun j => hT.2 86 j
          have A87 : ∀ j, 0 ≤ τ_189.2.1 87 j ∧ τ_189.2.1 87 j ≤ 120000 := fun j => hT.2 87 j
          have A88 : ∀ j, 0 ≤ τ_189.2.1 88 j ∧ τ_189.2.1 88 j ≤ 59 := fun j => hT.2 88 j
          have A89 : ∀ j, 0 ≤ τ_189.2.1 89 j ∧ τ_189.2.1 89 j ≤ 59 := fun j => hT.2 89 j
          have A91 : ∀ j, 0 ≤ τ_189.2.1 91 j ∧ τ_189.2.1 91 j ≤ 60000 := fun j => hT.2 91 j
          have A104 : ∀ j, (-1) ≤ τ_189.2.1 104 j ∧ τ_189.2.1 104 j ≤ 59 := fun j => hT.2 104 j
          have A105 : ∀ j, 0 ≤ τ_189.2.1 105 j ∧ τ_189.2.1 105 j ≤ 59 := fun j => hT.2 105 j
          have A106 : ∀ j, 0 ≤ τ_189.2.1 106 j ∧ τ_189.2.1 106 j ≤ 60000 := fun j => hT.2 106 j
          have v3 : 0 ≤ τ_189.1 3 ∧ τ_189.1 3 ≤ 1000 := hT.1 3
          have v5 : 0 ≤ τ_189.1 5 ∧ τ_189.1 5 ≤ 1500 := hT.1 5
          have v42 : 0 ≤ τ_189.1 42 ∧ τ_189.1 42 ≤ 40000 := hT.1 42
          have v45 : 0 ≤ τ_189.1 45 ∧ τ_189.1 45 ≤ 59 := hT.1 45
          have v52 : 0 ≤ τ_189.1 52 ∧ τ_189.1 52 ≤ 120000 := hT.1 52
          exfalso; (have b19 := B19 u5_189; omega)
        | succ m_189 ih_189 =>
          intro u3_189 u4_189 u5_189 u6_189 τ_189 hm_189 hT W3 W5 W45 W52 G14 G16 G19 G86 G87 G88 G89 G91 i189_1 i189_2 i189_3 i189_4 i189_5 i189_6 i189_7 i189_8 i189_9 i189_10
          have A14 : ∀ j, 0 ≤ τ_189.2.1 14 j ∧ τ_189.2.1 14 j ≤ 30000 := fun j => hT.2 14 j
          have A16 : ∀ j, 0 ≤ τ_189.2.1 16 j ∧ τ_189.2.1 16 j ≤ 999 := fun j => hT.2 16 j
          have A19 : ∀ j, 0 ≤ τ_189.2.1 19 j ∧ τ_189.2.1 19 j ≤ 60 := fun j => hT.2 19 j
          have A65 : ∀ j, 0 ≤ τ_189.2.1 65 j ∧ τ_189.2.1 65 j ≤ 60000 := fun j => hT.2 65 j
          have A86 : ∀ j, (-1500) ≤ τ_189.2.1 86 j ∧ τ_189.2.1 86 j ≤ 1499 := fun j => hT.2 86 j
          have A87 : ∀ j, 0 ≤ τ_189.2.1 87 j ∧ τ_189.2.1 87 j ≤ 120000 := fun j => hT.2 87 j
          have A88 : ∀ j, 0 ≤ τ_189.2.1 88 j ∧ τ_189.2.1 88 j ≤ 59 := fun j => hT.2 88 j
          have A89 : ∀ j, 0 ≤ τ_189.2.1 89 j ∧ τ_189.2.1 89 j ≤ 59 := fun j => hT.2 89 j
          have A91 : ∀ j, 0 ≤ τ_189.2.1 91 j ∧ τ_189.2.1 91 j ≤ 60000 := fun j => hT.2 91 j
          have A104 : ∀ j, (-1) ≤ τ_189.2.1 104 j ∧ τ_189.2.1 104 j ≤ 59 := fun j => hT.2 104 j
          have A105 : ∀ j, 0 ≤ τ_189.2.1 105 j ∧ τ_189.2.1 105 j ≤ 59 := fun j => hT.2 105 j
          have A106 : ∀ j, 0 ≤ τ_189.2.1 106 j ∧ τ_189.2.1 106 j ≤ 60000 := fun j => hT.2 106 j
          have v3 : 0 ≤ τ_189.1 3 ∧ τ_189.1 3 ≤ 1000 := hT.1 3
          have v5 : 0 ≤ τ_189.1 5 ∧ τ_189.1 5 ≤ 1500 := hT.1 5
          have v42 : 0 ≤ τ_189.1 42 ∧ τ_189.1 42 ≤ 40000 := hT.1 42
          have v45 : 0 ≤ τ_189.1 45 ∧ τ_189.1 45 ≤ 59 := hT.1 45
          have v52 : 0 ≤ τ_189.1 52 ∧ τ_189.1 52 ≤ 120000 := hT.1 52
          have sn := y_sW_n p1 i189_2 i189_1
          have t3 := (p1 u3_189 i189_5.1 i189_5.2).2 (by omega)
          have t4 := (p4 u4_189 i189_6.1 i189_6.2).2 (by omega)
          rw [← i189_7.1] at t3
          rw [i189_7.2.1] at t4
          have b19 := B19 u5_189
          have s5 : 0 ≤ sm (fun k => wt (σ.2.1 91 (σ.2.1 87 u3_189 + (u6_189 + k)))) (σ.2.1 19 u5_189 - u6_189) := sm_n (fun e e0 e1 => by (have w := t3.2.1 (u6_189 + e) (by omega) (by omega); have v := (p1 (σ.2.1 91 (σ.2.1 87 u3_189 + (u6_189 + e))) (by omega) w.2).1.1; show 0 ≤ wt (σ.2.1 91 (σ.2.1 87 u3_189 + (u6_189 + e))); omega))
          refine h189 u3_189 u4_189 u5_189 u6_189 τ_189 ?_
          refine ⟨(show 0 ≤ u5_189 ∧ u5_189 < 1501 from by (first | omega | (simp only [st_s] <;> omega) | assumption | omega | fail)), ?_⟩
          intro x32 r_x32 e_x32
          have b_x32 : 0 ≤ x32 ∧ x32 ≤ 60 := by rw [e_x32]; exact hT.2 19 _
          rw [G19] at e_x32
          refine ⟨fun c33 => ?_, fun c33 => ?_⟩
          ·
            exact ih_24 _ (show (sm (fun s => wt (τ_189.2.1 65 s)) (τ_189.1 42) : Int) < ((m_24 : Nat) : Int) from by ((first | omega | (simp only [st_s] <;> omega) | assumption | omega | fail))) hT (show τ_189.1 3 = σ.1 3 from by first | exact W3 | omega) (show τ_189.1 5 = σ.1 5 from by first | exact W5 | omega) (show τ_189.1 45 = σ.1 45 from by first | exact W45 | omega) (show τ_189.1 52 = σ.1 52 from by first | exact W52 | omega) G14 G16 G19 G86 G87 G88 G89 G91 (show 0 ≤ τ_189.1 42 from by (first | omega | (simp only [st_s] <;> omega) | assumption | omega | fail)) (show y_SK wt lo hi (τ_189.1 42) (τ_189.2.1 65) from by (first | exact y_SK_p i24_2 (by omega) | exact i189_2 | exact y_SK_a (n := 0) (fun s a b => by omega) p2.1 p2.2 | fail)) (show y_SK wt2 lo2 hi2 (τ_189.1 42) (τ_189.2.1 106) from by (first | exact y_SK_p i24_3 (by omega) | exact i189_3 | exact y_SK_a (n := 0) (fun s a b => by omega) p5.1 p5.2 | fail)) (show z_bd σ τ_189 from by (first | exact p9 | exact i24_4 | exact i189_4 | exact z_bd_s i24_4 ft.1 ft.2.1 ft.2.2 rfl rfl | fail)) (show sm (fun s => wt (τ_189.2.1 65 s)) (τ_189.1 42) ≤ 11700 from by (first | omega | (have w := y_sW_a (wt := wt) (f := σ.2.1 65) (n := 0) (x := n1) (Int.le_refl _); rw [sm_0] at w; show sm _ (0 + 1) ≤ _; omega) | fail))
          ·
            refine ⟨(show 0 ≤ u3_189 ∧ u3_189 < 60000 from by (first | omega | (simp only [st_s] <;> omega) | assumption | omega | fail)), ?_⟩
            intro x35 r_x35 e_x35
            have b_x35 : 0 ≤ x35 ∧ x35 ≤ 120000 := by rw [e_x35]; exact hT.2 87 _
            rw [G87] at e_x35
            have k3 := t3.2.1 u6_189 (by omega) (by omega)
            have k4 := t4.2.1 u6_189 (by omega) (by omega)
            have kf : sm (fun k => wt (σ.2.1 91 (σ.2.1 87 u3_189 + (u6_189 + k)))) (σ.2.1 19 u5_189 - u6_189) = wt (σ.2.1 91 (σ.2.1 87 u3_189 + u6_189)) + sm (fun k => wt (σ.2.1 91 (σ.2.1 87 u3_189 + (u6_189 + 1 + k)))) (σ.2.1 19 u5_189 - (u6_189 + 1)) := y_kf (fun k => wt (σ.2.1 91 (σ.2.1 87 u3_189 + k))) (by omega) (by omega)
            refine ⟨(show 0 ≤ (x35 + u6_189) ∧ (x35 + u6_189) < 120000 from by (first | omega | (simp only [st_s] <;> omega) | assumption | omega | fail)), ?_⟩
            intro x37 r_x37 e_x37
            have b_x37 : 0 ≤ x37 ∧ x37 ≤ 60000 := by rw [e_x37]; exact hT.2 91 _
            rw [G91] at e_x37
            have f37 : x37 = σ.2.1 91 (σ.2.1 87 u3_189 + u6_189) := (by rw [e_x37, e_x35])
            rw [← f37] at kf k3
            have sw := y_sW_a (wt := wt) (f := τ_189.2.1 65) (n := τ_189.1 42) (x := x37) i189_1
            refine ⟨(show 0 ≤ τ_189.1 42 ∧ τ_189.1 42 < 40002 from by (first | omega | (simp only [st_s] <;> omega) | assumption | omega | fail)), ?_⟩
            replace hT := mT_a (k := 65) (j := (τ_189.1 42)) hT (show (0 : Int) ≤ x37 ∧ x37 ≤ 60000 from by (first | omega | (simp only [st_s] <;> omega) | assumption | omega | fail))
            refine ⟨(show 0 ≤ u4_189 ∧ u4_189 < 60000 from by (first | omega | (simp only [st_s] <;> omega) | assumption | omega | fail)), ?_⟩
            intro x40 r_x40 e_x40
            have b_x40 : 0 ≤ x40 ∧ x40 ≤ 120000 := by rw [e_x40]; exact hT.2 87 _
            rw [G87] at e_x40
            refine ⟨(show 0 ≤ (x40 + u6_189) ∧ (x40 + u6_189) < 120000 from by (first | omega | (simp only [st_s] <;> omega) | assumption | omega | fail)), ?_⟩
            intro x42 r_x42 e_x42
            have b_x42 : 0 ≤ x42 ∧ x42 ≤ 60000 := by rw [e_x42]; exact hT.2 91 _
            rw [G91] at e_x42
            have f42 : x42 = σ.2.1 91 (σ.2.1 87 u4_189 + u6_189) := (by rw [e_x42, e_x40])
            rw [← f42] at k4
            replace hT := mT_a (k := 106) (j := (τ_189.1 42)) hT (show (0 : Int) ≤ x42 ∧ x42 ≤ 60000 from by (first | omega | (simp only [st_s] <;> omega) | assumption | omega | fail))
            refine ⟨(⟨by (first | omega | (simp only [st_s] <;> omega) | assumption | omega | fail), by (first | omega | (simp only [st_s] <;> omega) | assumption | omega | fail)⟩ : rg (τ_189.1 42 + 1)), ?_⟩
            replace hT := mT_v (i := 42) hT (show 0 ≤ (τ_189.1 42 + 1) ∧ (τ_189.1 42 + 1) ≤ 40000 from by (first | omega | (simp only [st_s] <;> omega) | assumption | omega | fail))
            refine ⟨(⟨by (first | omega | (simp only [st_s] <;> omega) | assumption | omega | fail), by (first | omega | (simp only [st_s] <;> omega) | assumption | omega | fail)⟩ : rg (u6_189 + 1)), ?_⟩
            exact ih_189 _ _ _ _ _ (show (61 - (u6_189 + 1) : Int) < ((m_189 : Nat) : Int) from by ((first | omega | (simp only [st_s] <;> omega) | assumption | omega | fail))) hT (show τ_189.1 3 = σ.1 3 from by first | exact W3 | omega) (show τ_189.1 5 = σ.1 5 from by first | exact W5 | omega) (show τ_189.1 45 = σ.1 45 from by first | exact W45 | omega) (show τ_189.1 52 = σ.1 52 from by first | exact W52 | omega) G14 G16 G19 G86 G87 G88 G89 G91 (show 0 ≤ (τ_189.1 42 + 1) from by (first | omega | (simp only [st_s] <;> omega) | assumption | omega | fail)) (show y_SK wt lo hi ((τ_189.1 42 + 1)) ((st (τ_189.2.1 65) (τ_189.1 42) x37)) from by (first | exact y_SK_p i24_2 (by omega) | exact y_SK_a i189_2 (by omega) k3.2 | fail)) (show y_SK wt2 lo2 hi2 ((τ_189.1 42 + 1)) ((st (τ_189.2.1 106) (τ_189.1 42) x42)) from by (first | exact y_SK_p i24_3 (by omega) | exact y_SK_a i189_3 (by omega) k4.2 | fail)) (show z_bd σ (s_v (s_a (s_a τ_189 65 (τ_189.1 42) x37) 106 (τ_189.1 42) x42) 42 (τ_189.1 42 + 1)) from by (first | exact i24_4 | exact i189_4 | fail)) (show lo ≤ u3_189 ∧ u3_189 < hi from by (first | omega | (simp only [st_s] <;> omega) | assumption | omega | fail)) (show lo2 ≤ u4_189 ∧ u4_189 < hi2 from by (first | omega | (simp only [st_s] <;> omega) | assumption | omega | fail)) (show u5_189 = σ.2.1 86 u3_189 ∧ σ.2.1 86 u4_189 = u5_189 ∧ 0 ≤ u5_189 from by (first | exact ⟨e_x7, by (rw [← e_x10]; assumption), by omega⟩ | exact i189_7 | fail)) (show 0 ≤ (u6_189 + 1) ∧ (u6_189 + 1) ≤ σ.2.1 19 u5_189 from by (first | omega | (simp only [st_s] <;> omega) | assumption | omega | fail)) (show sm (fun s => wt ((st (τ_189.2.1 65) (τ_189.1 42) x37) s)) ((τ_189.1 42 + 1)) + sm (fun k => wt (σ.2.1 91 (σ.2.1 87 u3_189 + ((u6_189 + 1) + k)))) (σ.2.1 19 u5_189 - (u6_189 + 1)) + 1 ≤ 11700 from by (first | omega | (rw [sw]; omega) | fail)) (show sm (fun s => wt ((st (τ_189.2.1 65) (τ_189.1 42) x37) s)) ((τ_189.1 42 + 1)) + sm (fun k => wt (σ.2.1 91 (σ.2.1 87 u3_189 + ((u6_189 + 1) + k)))) (σ.2.1 19 u5_189 - (u6_189 + 1)) + 1 ≤ (m_24 : Int) from by (first | omega | (rw [sw]; omega) | fail))
      refine h24 τ_24 ?_
      refine ⟨fun c1 => ?_, fun c1 => ?_⟩
      ·
        exact ⟨hT, (show 1 = 0 ∨ 1 = 1 from by (first | omega | (simp only [st_s] <;> omega) | assumption | omega | fail))⟩
      ·
        refine ⟨(⟨by (first | omega | (simp only [st_s] <;> omega) | assumption | omega | fail), by (first | omega | (simp only [st_s] <;> omega) | assumption | omega | fail)⟩ : rg (τ_24.1 42 - 1)), ?_⟩
        replace hT := mT_v (i := 42) hT (show 0 ≤ (τ_24.1 42 - 1) ∧ (τ_24.1 42 - 1) ≤ 40000 from by (first | omega | (simp only [st_s] <;> omega) | assumption | omega | fail))
        refine ⟨(show 0 ≤ (τ_24.1 42 - 1) ∧ (τ_24.1 42 - 1) < 40002 from by (first | omega | (simp only [st_s] <;> omega) | assumption | omega | fail)), ?_⟩
        intro x4 r_x4 e_x4
        have b_x4 : 0 ≤ x4 ∧ x4 ≤ 60000 := by rw [e_x4]; exact hT.2 65 _
        have r4 := i24_2 (τ_24.1 42 - 1) (by omega) (by omega)
        have sp := y_sW_p wt (τ_24.2.1 65) (n := τ_24.1 42) (by omega)
        rw [← e_x4] at r4 sp
        have t4 := p1 x4 r4.1 r4.2
        intro x5 r_x5 e_x5
        have b_x5 : 0 ≤ x5 ∧ x5 ≤ 60000 := by rw [e_x5]; exact hT.2 106 _
        have r5 := i24_3 (τ_24.1 42 - 1) (by omega) (by omega)
        rw [← e_x5] at r5
        have ft := p7 x5 r5.1 r5.2
        refine ⟨(show 0 ≤ x4 ∧ x4 < 60000 from by (first | omega | (simp only [st_s] <;> omega) | assumption | omega | fail)), ?_⟩
        intro x7 r_x7 e_x7
        have b_x7 : (-1500) ≤ x7 ∧ x7 ≤ 1499 := by rw [e_x7]; exact hT.2 86 _
        rw [G86] at e_x7
        refine ⟨fun c8 => ?_, fun c8 => ?_⟩
        ·
          refine ⟨(show 0 ≤ x5 ∧ x5 < 60000 from by (first | omega | (simp only [st_s] <;> omega) | assumption | omega | fail)), ?_⟩
          intro x10 r_x10 e_x10
          have b_x10 : (-1500) ≤ x10 ∧ x10 ≤ 1499 := by rw [e_x10]; exact hT.2 86 _
          rw [G86] at e_x10
          have k4 := t4.2 (by omega)
          rw [← e_x7] at k4
          have kk : sm (fun k => wt (σ.2.1 91 (σ.2.1 87 x4 + (0 + k)))) (σ.2.1 19 x7 - 0) + 1 ≤ wt x4 := (by rw [y_k0 (fun k => wt (σ.2.1 91 (σ.2.1 87 x4 + k)))]; exact k4.2.2)
          have b7x := B19 x7
          refine ⟨fun c11 => ?_, fun c11 => ?_⟩
          ·
            exact l_189 ((61 - 0 : Int).toNat + 1) _ _ _ _ _ (show (61 - 0 : Int) < (((61 - 0 : Int).toNat + 1 : Nat) : Int) from by ((first | omega | (simp only [st_s] <;> omega) | assumption | omega | fail))) hT (show τ_24.1 3 = σ.1 3 from by first | exact W3 | omega) (show τ_24.1 5 = σ.1 5 from by first | exact W5 | omega) (show τ_24.1 45 = σ.1 45 from by first | exact W45 | omega) (show τ_24.1 52 = σ.1 52 from by first | exact W52 | omega) G14 G16 G19 G86 G87 G88 G89 G91 (show 0 ≤ (τ_24.1 42 - 1) from by (first | omega | (simp only [st_s] <;> omega) | assumption | omega | fail)) (show y_SK wt lo hi ((τ_24.1 42 - 1)) (τ_24.2.1 65) from by (first | exact y_SK_p i24_2 (by omega) | exact y_SK_a i189_2 (by omega) k3.2 | fail)) (show y_SK wt2 lo2 hi2 ((τ_24.1 42 - 1)) (τ_24.2.1 106) from by (first | exact y_SK_p i24_3 (by omega) | exact y_SK_a i189_3 (by omega) k4.2 | fail)) (show z_bd σ (s_v τ_24 42 (τ_24.1 42 - 1)) from by (first | exact i24_4 | exact i189_4 | fail)) (show lo ≤ x4 ∧ x4 < hi from by (first | omega | (simp only [st_s] <;> omega) | assumption | omega | fail)) (show lo2 ≤ x5 ∧ x5 < hi2 from by (first | omega | (simp only [st_s] <;> omega) | assumption | omega | fail)) (show x7 = σ.2.1 86 x4 ∧ σ.2.1 86 x5 = x7 ∧ 0 ≤ x7 from by (first | exact ⟨e_x7, by (rw [← e_x10]; assumption), by omega⟩ | exact i189_7 | fail)) (show 0 ≤ 0 ∧ 0 ≤ σ.2.1 19 x7 from by (first | omega | (simp only [st_s] <;> omega) | assumption | omega | fail)) (show sm (fun s => wt (τ_24.2.1 65 s)) ((τ_24.1 42 - 1)) + sm (fun k => wt (σ.2.1 91 (σ.2.1 87 x4 + (0 + k)))) (σ.2.1 19 x7 - 0) + 1 ≤ 11700 from by (first | omega | (rw [sw]; omega) | fail)) (show sm (fun s => wt (τ_24.2.1 65 s)) ((τ_24.1 42 - 1)) + sm (fun k => wt (σ.2.1 91 (σ.2.1 87 x4 + (0 + k)))) (σ.2.1 19 x7 - 0) + 1 ≤ (m_24 : Int) from by (first | omega | (rw [sw]; omega) | fail))
          ·
            exact ⟨hT, (show 0 = 0 ∨ 0 = 1 from by (first | omega | (simp only [st_s] <;> omega) | assumption | omega | fail))⟩
        ·
          refine ⟨(show 0 ≤ ((-1) - x7) ∧ ((-1) - x7) < 1501 from by (first | omega | (simp only [st_s] <;> omega) | assumption | omega | fail)), ?_⟩
          intro x13 r_x13 e_x13
          have b_x13 : 0 ≤ x13 ∧ x13 ≤ 30000 := by rw [e_x13]; exact hT.2 14 _
          rw [G14] at e_x13
          refine ⟨(show 0 ≤ (x13 + 1) ∧ (x13 + 1) < 30400 from by (first | omega | (simp only [st_s] <;> omega) | assumption | omega | fail)), ?_⟩
          intro x15 r_x15 e_x15
          have b_x15 : 0 ≤ x15 ∧ x15 ≤ 999 := by rw [e_x15]; exact hT.2 16 _
          rw [G16] at e_x15
          have l15 : x15 < σ.1 3 := (by rw [e_x15, e_x13, e_x7]; exact p8 x4 r4.1 r4.2 (by omega))
          have bd := i24_4 x15 (by omega) l15
          refine ⟨(show 0 ≤ x15 ∧ x15 < 1001 from by (first | omega | (simp only [st_s] <;> omega) | assumption | omega | fail)), ?_⟩
          intro x17 r_x17 e_x17
          have b_x17 : (-1) ≤ x17 ∧ x17 ≤ 59 := by rw [e_x17]; exact hT.2 104 _
          rw [← e_x17] at bd
          refine ⟨fun c18 => ?_, fun c18 => ?_⟩
          ·
            intro x19 r_x19 e_x19
            have b_x19 : (-1) ≤ x19 ∧ x19 ≤ 59 := by rw [e_x19]; exact hT.2 104 _
            have f19 : x19 = x17 := e_x19.trans e_x17.symm
            intro x20 r_x20 e_x20
            have b_x20 : 0 ≤ x20 ∧ x20 ≤ 59 := by rw [e_x20]; exact hT.2 105 _
            rw [← e_x20] at bd
            refine ⟨(show 0 ≤ x5 ∧ x5 < 60000 from by (first | omega | (simp only [st_s] <;> omega) | assumption | omega | fail)), ?_⟩
            intro x22 r_x22 e_x22
            have b_x22 : 0 ≤ x22 ∧ x22 ≤ 59 := by rw [e_x22]; exact hT.2 88 _
            rw [G88] at e_x22
            rw [← e_x22] at ft
            intro x23 r_x23 e_x23
            have b_x23 : 0 ≤ x23 ∧ x23 ≤ 59 := by rw [e_x23]; exact hT.2 89 _
            rw [G89] at e_x23
            rw [← e_x23] at ft
            refine ⟨_, K_X13_isSameStretch hT (show 0 ≤ x19 ∧ x19 ≤ x20 ∧ x20 ≤ 59 from by omega) (show 0 ≤ x22 ∧ x22 ≤ x23 ∧ x23 ≤ 59 from by (first | omega | (simp only [st_s] <;> omega) | assumption | omega | fail)), ?_⟩
            intro x25 r_x25 hq
            obtain ⟨q24_1, q24_2⟩ := hq
            replace q24_1 : x25 = 0 ∨ x25 = 1 := q24_1
            replace q24_2 : x25 = 1 → x20 - x19 = x23 - x22 ∧ ∀ k : Int, 0 ≤ k → k < x20 - x19 → τ_24.2.1 103 (1 + x19 + k) = τ_24.2.1 103 (1 + x22 + k) := q24_2
            refine ⟨fun c27 => ?_, fun c27 => ?_⟩
            ·
              exact ih_24 _ (show (sm (fun s => wt (τ_24.2.1 65 s)) ((τ_24.1 42 - 1)) : Int) < ((m_24 : Nat) : Int) from by ((first | omega | (simp only [st_s] <;> omega) | assumption | omega | fail))) hT (show τ_24.1 3 = σ.1 3 from by first | exact W3 | omega) (show τ_24.1 5 = σ.1 5 from by first | exact W5 | omega) (show τ_24.1 45 = σ.1 45 from by first | exact W45 | omega) (show τ_24.1 52 = σ.1 52 from by first | exact W52 | omega) G14 G16 G19 G86 G87 G88 G89 G91 (show 0 ≤ (τ_24.1 42 - 1) from by (first | omega | (simp only [st_s] <;> omega) | assumption | omega | fail)) (show y_SK wt lo hi ((τ_24.1 42 - 1)) (τ_24.2.1 65) from by (first | exact y_SK_p i24_2 (by omega) | exact i189_2 | exact y_SK_a (n := 0) (fun s a b => by omega) p2.1 p2.2 | fail)) (show y_SK wt2 lo2 hi2 ((τ_24.1 42 - 1)) (τ_24.2.1 106) from by (first | exact y_SK_p i24_3 (by omega) | exact i189_3 | exact y_SK_a (n := 0) (fun s a b => by omega) p5.1 p5.2 | fail)) (show z_bd σ (s_v τ_24 42 (τ_24.1 42 - 1)) from by (first | exact p9 | exact i24_4 | exact i189_4 | exact z_bd_s i24_4 ft.1 ft.2.1 ft.2.2 rfl rfl | fail)) (show sm (fun s => wt (τ_24.2.1 65 s)) ((τ_24.1 42 - 1)) ≤ 11700 from by (first | omega | (have w := y_sW_a (wt := wt) (f := σ.2.1 65) (n := 0) (x := n1) (Int.le_refl _); rw [sm_0] at w; show sm _ (0 + 1) ≤ _; omega) | fail))
            ·
              exact ⟨hT, (show 0 = 0 ∨ 0 = 1 from by (first | omega | (simp only [st_s] <;> omega) | assumption | omega | fail))⟩
          ·
            refine ⟨(show 0 ≤ x5 ∧ x5 < 60000 from by (first | omega | (simp only [st_s] <;> omega) | assumption | omega | fail)), ?_⟩
            intro x29 r_x29 e_x29
            have b_x29 : 0 ≤ x29 ∧ x29 ≤ 59 := by rw [e_x29]; exact hT.2 88 _
            rw [G88] at e_x29
            rw [← e_x29] at ft
            replace hT := mT_a (k := 104) (j := x15) hT (show (-1 : Int) ≤ x29 ∧ x29 ≤ 59 from by (first | omega | (simp only [st_s] <;> omega) | assumption | omega | fail))
            intro x30 r_x30 e_x30
            have b_x30 : 0 ≤ x30 ∧ x30 ≤ 59 := by rw [e_x30]; exact hT.2 89 _
            have f30 : x30 = σ.2.1 89 x5 := (by rw [e_x30, G89])
            rw [← f30] at ft
            replace hT := mT_a (k := 105) (j := x15) hT (show (0 : Int) ≤ x30 ∧ x30 ≤ 59 from by (first | omega | (simp only [st_s] <;> omega) | assumption | omega | fail))
            exact ih_24 _ (show (sm (fun s => wt (τ_24.2.1 65 s)) ((τ_24.1 42 - 1)) : Int) < ((m_24 : Nat) : Int) from by ((first | omega | (simp only [st_s] <;> omega) | assumption | omega | fail))) hT (show τ_24.1 3 = σ.1 3 from by first | exact W3 | omega) (show τ_24.1 5 = σ.1 5 from by first | exact W5 | omega) (show τ_24.1 45 = σ.1 45 from by first | exact W45 | omega) (show τ_24.1 52 = σ.1 52 from by first | exact W52 | omega) G14 G16 G19 G86 G87 G88 G89 G91 (show 0 ≤ (τ_24.1 42 - 1) from by (first | omega | (simp only [st_s] <;> omega) | assumption | omega | fail)) (show y_SK wt lo hi ((τ_24.1 42 - 1)) (τ_24.2.1 65) from by (first | exact y_SK_p i24_2 (by omega) | exact i189_2 | exact y_SK_a (n := 0) (fun s a b => by omega) p2.1 p2.2 | fail)) (show y_SK wt2 lo2 hi2 ((τ_24.1 42 - 1)) (τ_24.2.1 106) from by (first | exact y_SK_p i24_3 (by omega) | exact i189_3 | exact y_SK_a (n := 0) (fun s a b => by omega) p5.1 p5.2 | fail)) (show z_bd σ (s_a (s_a (s_v τ_24 42 (τ_24.1 42 - 1)) 104 x15 x29) 105 x15 x30) from by (first | exact p9 | exact i24_4 | exact i189_4 | exact z_bd_s i24_4 ft.1 ft.2.1 ft.2.2 rfl rfl | fail)) (show sm (fun s => wt (τ_24.2.1 65 s)) ((τ_24.1 42 - 1)) ≤ 11700 from by (first | omega | (have w := y_sW_a (wt := wt) (f := σ.2.1 65) (n := 0) (x := n1) (Int.le_refl _); rw [sm_0] at w; show sm _ (0 + 1) ≤ _; omega) | fail))
  replace hT := mT_v (i := 42) hT (show (0 : Int) ≤ 0 ∧ 0 ≤ 40000 from by (first | omega | (simp only [st_s] <;> omega) | assumption | omega | fail))
  replace hT := mT_a (k := 65) (j := 0) hT (show (0 : Int) ≤ n1 ∧ n1 ≤ 60000 from by (first | omega | (simp only [st_s] <;> omega) | assumption | omega | fail))
  replace hT := mT_a (k := 106) (j := 0) hT (show (0 : Int) ≤ n2 ∧ n2 ≤ 60000 from by (first | omega | (simp only [st_s] <;> omega) | assumption | omega | fail))
  replace hT := mT_v (i := 42) hT (show (0 : Int) ≤ 1 ∧ 1 ≤ 40000 from by (first | omega | (simp only [st_s] <;> omega) | assumption | omega | fail))
  exact l_24 ((sm (fun s => wt ((st (σ.2.1 65) 0 n1) s)) ((1 : Int)) : Int).toNat + 1) _ (show (sm (fun s => wt ((st (σ.2.1 65) 0 n1) s)) ((1 : Int)) : Int) < (((sm (fun s => wt ((st (σ.2.1 65) 0 n1) s)) ((1 : Int)) : Int).toNat + 1 : Nat) : Int) from by ((first | omega | (simp only [st_s] <;> omega) | assumption | omega | fail))) hT (show σ.1 3 = σ.1 3 from by first | exact W3 | omega) (show σ.1 5 = σ.1 5 from by first | exact W5 | omega) (show σ.1 45 = σ.1 45 from by first | exact W45 | omega) (show σ.1 52 = σ.1 52 from by first | exact W52 | omega) G14 G16 G19 G86 G87 G88 G89 G91 (show 0 ≤ (1 : Int) from by (first | omega | (simp only [st_s] <;> omega) | assumption | omega | fail)) (show y_SK wt lo hi ((1 : Int)) ((st (σ.2.1 65) 0 n1)) from by (first | exact y_SK_p i24_2 (by omega) | exact i189_2 | exact y_SK_a (n := 0) (fun s a b => by omega) p2.1 p2.2 | fail)) (show y_SK wt2 lo2 hi2 ((1 : Int)) ((st (σ.2.1 106) 0 n2)) from by (first | exact y_SK_p i24_3 (by omega) | exact i189_3 | exact y_SK_a (n := 0) (fun s a b => by omega) p5.1 p5.2 | fail)) (show z_bd σ (s_v (s_a (s_a (s_v σ 42 0) 65 0 n1) 106 0 n2) 42 1) from by (first | exact p9 | exact i24_4 | exact i189_4 | exact z_bd_s i24_4 ft.1 ft.2.1 ft.2.2 rfl rfl | fail)) (show sm (fun s => wt ((st (σ.2.1 65) 0 n1) s)) ((1 : Int)) ≤ 11700 from by (first | omega | (have w := y_sW_a (wt := wt) (f := σ.2.1 65) (n := 0) (x := n1) (Int.le_refl _); rw [sm_0] at w; show sm _ (0 + 1) ≤ _; omega) | fail))
