-- pure: the model reads floating hypotheses and what is apart
set_option maxHeartbeats 1000000 in
theorem K_X13_readApart {σ : S0} (hT : m_T σ) (p1 : (σ.1 16) ≤ (σ.1 0)) (p2 : oc (σ.2.1 6) < 4096) (p3 : oc (σ.2.1 7) < 4096) : W_X13_readApart σ (fun (τ : S0) => (m_T τ) ∧ ((τ.1 16) ≤ (τ.1 0)) ∧ ((τ.1 17) + (τ.1 18) ≤ (τ.1 0)) ∧ (¬ (σ.1 20) = 0 → (τ.1 20) = (σ.1 20)) ∧ ((σ.1 16) ≤ (τ.1 16))) := by
  have A6 : ∀ j, (-1) ≤ σ.2.1 6 j ∧ σ.2.1 6 j ≤ 999 := fun j => hT.2 6 j
  have A7 : ∀ j, (-1) ≤ σ.2.1 7 j ∧ σ.2.1 7 j ≤ 1499 := fun j => hT.2 7 j
  have A37 : ∀ j, 0 ≤ σ.2.1 37 j ∧ σ.2.1 37 j ≤ 999 := fun j => hT.2 37 j
  have v0 : 0 ≤ σ.1 0 ∧ σ.1 0 ≤ 60000 := hT.1 0
  have v14 : 0 ≤ σ.1 14 ∧ σ.1 14 ≤ 1000 := hT.1 14
  have v16 : 0 ≤ σ.1 16 ∧ σ.1 16 ≤ 60000 := hT.1 16
  have v17 : 0 ≤ σ.1 17 ∧ σ.1 17 ≤ 60000 := hT.1 17
  have v18 : 0 ≤ σ.1 18 ∧ σ.1 18 ≤ 60000 := hT.1 18
  have v19 : (-1) ≤ σ.1 19 ∧ σ.1 19 ≤ 125 := hT.1 19
  have v20 : 0 ≤ σ.1 20 ∧ σ.1 20 ≤ 19 := hT.1 20
  have W0 : σ.1 0 = σ.1 0 := rfl
  have G6 : σ.2.1 6 = σ.2.1 6 := rfl
  have G7 : σ.2.1 7 = σ.2.1 7 := rfl
  intro P6 P73 P192 P225 P251 P254 P278 h6 h73 h192 h225 h251 h254 h278
  have l_6 : ∀ (m_6 : Nat) (u1_6 : Int) (τ_6 : S0), 3 * ((τ_6.1 0) - (τ_6.1 16)) + z_0 ((τ_6.1 20)) + 1 - z_0 ((τ_6.1 19)) < (m_6 : Int) → (m_T τ_6) → (τ_6.1 0 = σ.1 0) → (τ_6.2.1 6 = σ.2.1 6) → (τ_6.2.1 7 = σ.2.1 7) → ((τ_6.1 16) ≤ (τ_6.1 0)) → ((τ_6.1 17) + (τ_6.1 18) ≤ (τ_6.1 0)) → (oc (τ_6.2.1 6) < 4096) → (oc (τ_6.2.1 7) < 4096) → (¬ (σ.1 20) = 0 → (τ_6.1 20) = (σ.1 20)) → (0 ≤ u1_6) → (j_in u1_6 1000 (τ_6.2.1 37)) → ((σ.1 16) ≤ (τ_6.1 16)) → P6 u1_6 τ_6 := by
    intro m_6
    induction m_6 with
    | zero =>
      intro u1_6 τ_6 hm hT W0 G6 G7 i6_1 i6_2 i6_3 i6_4 i6_5 i6_6 i6_7 i6_8
      have A6 : ∀ j, (-1) ≤ τ_6.2.1 6 j ∧ τ_6.2.1 6 j ≤ 999 := fun j => hT.2 6 j
      have A7 : ∀ j, (-1) ≤ τ_6.2.1 7 j ∧ τ_6.2.1 7 j ≤ 1499 := fun j => hT.2 7 j
      have A37 : ∀ j, 0 ≤ τ_6.2.1 37 j ∧ τ_6.2.1 37 j ≤ 999 := fun j => hT.2 37 j
      have v0 : 0 ≤ τ_6.1 0 ∧ τ_6.1 0 ≤ 60000 := hT.1 0
      have v14 : 0 ≤ τ_6.1 14 ∧ τ_6.1 14 ≤ 1000 := hT.1 14
      have v16 : 0 ≤ τ_6.1 16 ∧ τ_6.1 16 ≤ 60000 := hT.1 16
      have v17 : 0 ≤ τ_6.1 17 ∧ τ_6.1 17 ≤ 60000 := hT.1 17
      have v18 : 0 ≤ τ_6.1 18 ∧ τ_6.1 18 ≤ 60000 := hT.1 18
      have v19 : (-1) ≤ τ_6.1 19 ∧ τ_6.1 19 ≤ 125 := hT.1 19
      have v20 : 0 ≤ τ_6.1 20 ∧ τ_6.1 20 ≤ 19 := hT.1 20
      have zz0 := z_e ((τ_6.1 20))
      have zz1 := z_e ((τ_6.1 19))
      exfalso; (first | omega | (simp only [st_s] <;> omega) | assumption | omega)
    | succ m_6 ih_6 =>
      intro u1_6 τ_6 hm_6 hT W0 G6 G7 i6_1 i6_2 i6_3 i6_4 i6_5 i6_6 i6_7 i6_8
      have A6 : ∀ j, (-1) ≤ τ_6.2.1 6 j ∧ τ_6.2.1 6 j ≤ 999 := fun j => hT.2 6 j
      have A7 : ∀ j, (-1) ≤ τ_6.2.1 7 j ∧ τ_6.2.1 7 j ≤ 1499 := fun j => hT.2 7 j
      have A37 : ∀ j, 0 ≤ τ_6.2.1 37 j ∧ τ_6.2.1 37 j ≤ 999 := fun j => hT.2 37 j
      have v0 : 0 ≤ τ_6.1 0 ∧ τ_6.1 0 ≤ 60000 := hT.1 0
      have v14 : 0 ≤ τ_6.1 14 ∧ τ_6.1 14 ≤ 1000 := hT.1 14
      have v16 : 0 ≤ τ_6.1 16 ∧ τ_6.1 16 ≤ 60000 := hT.1 16
      have v17 : 0 ≤ τ_6.1 17 ∧ τ_6.1 17 ≤ 60000 := hT.1 17
      have v18 : 0 ≤ τ_6.1 18 ∧ τ_6.1 18 ≤ 60000 := hT.1 18
      have v19 : (-1) ≤ τ_6.1 19 ∧ τ_6.1 19 ≤ 125 := hT.1 19
      have v20 : 0 ≤ τ_6.1 20 ∧ τ_6.1 20 ≤ 19 := hT.1 20
      have zy6_0 := z_e ((τ_6.1 20))
      have zy6_1 := z_e ((τ_6.1 19))
      have o6_τ_6 := congrArg oc G6
      have o7_τ_6 := congrArg oc G7
      have nb := j_in_n i6_7 (by omega) (by omega)
      have l_192 : ∀ (m_192 : Nat) (u1_192 : Int) (u2_192 : Int) (u3_192 : Int) (u4_192 : Int) (τ_192 : S0), 1001 - u4_192 < (m_192 : Int) → (m_T τ_192) → (τ_192.1 0 = σ.1 0) → (τ_192.2.1 6 = σ.2.1 6) → (τ_192.2.1 7 = σ.2.1 7) → ((τ_192.1 16) ≤ (τ_192.1 0)) → ((τ_192.1 17) + (τ_192.1 18) ≤ (τ_192.1 0)) → (oc (τ_192.2.1 6) < 4096) → (oc (τ_192.2.1 7) < 4096) → (0 ≤ u1_192) → (u1_192 ≤ 1000) → (j_in u1_192 1000 (τ_192.2.1 37)) → (-1 ≤ u2_192) → (u2_192 ≤ 999) → (¬ u3_192 = 0 → 0 ≤ u2_192) → (0 ≤ u4_192) → (u4_192 ≤ u1_192) → ((τ_192.1 19) = 1) → (¬ (σ.1 20) = 0 → (τ_192.1 20) = (σ.1 20)) → (3 * ((τ_192.1 0) - (τ_192.1 16)) + 2 ≤ (m_6 : Int)) → ((τ_192.1 20) = 0 → ∀ k : Int, 0 ≤ k → k < u4_192 → ¬ τ_192.2.1 37 k = u2_192) → ((σ.1 16) ≤ (τ_192.1 16)) → P192 u1_192 u2_192 u3_192 u4_192 τ_192 := by
        intro m_192
        induction m_192 with
        | zero =>
          intro u1_192 u2_192 u3_192 u4_192 τ_192 hm hT W0 G6 G7 i192_1 i192_2 i192_3 i192_4 i192_5 i192_6 i192_7 i192_8 i192_9 i192_10 i192_11 i192_12 i192_13 i192_14 i192_15 i192_16 i192_17
          have A6 : ∀ j, (-1) ≤ τ_192.2.1 6 j ∧ τ_192.2.1 6 j ≤ 999 := fun j => hT.2 6 j
          have A7 : ∀ j, (-1) ≤ τ_192.2.1 7 j ∧ τ_192.2.1 7 j ≤ 1499 := fun j => hT.2 7 j
          have A37 : ∀ j, 0 ≤ τ_192.2.1 37 j ∧ τ_192.2.1 37 j ≤ 999 := fun j => hT.2 37 j
          have v0 : 0 ≤ τ_192.1 0 ∧ τ_192.1 0 ≤ 60000 := hT.1 0
          have v14 : 0 ≤ τ_192.1 14 ∧ τ_192.1 14 ≤ 1000 := hT.1 14
          have v16 : 0 ≤ τ_192.1 16 ∧ τ_192.1 16 ≤ 60000 := hT.1 16
          have v17 : 0 ≤ τ_192.1 17 ∧ τ_192.1 17 ≤ 60000 := hT.1 17
          have v18 : 0 ≤ τ_192.1 18 ∧ τ_192.1 18 ≤ 60000 := hT.1 18
          have v19 : (-1) ≤ τ_192.1 19 ∧ τ_192.1 19 ≤ 125 := hT.1 19
          have v20 : 0 ≤ τ_192.1 20 ∧ τ_192.1 20 ≤ 19 := hT.1 20
          exfalso; (first | omega | (simp only [st_s] <;> omega) | assumption | omega)
        | succ m_192 ih_192 =>
          intro u1_192 u2_192 u3_192 u4_192 τ_192 hm_192 hT W0 G6 G7 i192_1 i192_2 i192_3 i192_4 i192_5 i192_6 i192_7 i192_8 i192_9 i192_10 i192_11 i192_12 i192_13 i192_14 i192_15 i192_16 i192_17
          have A6 : ∀ j, (-1) ≤ τ_192.2.1 6 j ∧ τ_192.2.1 6 j ≤ 999 := fun j => hT.2 6 j
          have A7 : ∀ j, (-1) ≤ τ_192.2.1 7 j ∧ τ_192.2.1 7 j ≤ 1499 := fun j => hT.2 7 j
          have A37 : ∀ j, 0 ≤ τ_192.2.1 37 j ∧ τ_192.2.1 37 j ≤ 999 := fun j => hT.2 37 j
          have v0 : 0 ≤ τ_192.1 0 ∧ τ_192.1 0 ≤ 60000 := hT.1 0
          have v14 : 0 ≤ τ_192.1 14 ∧ τ_192.1 14 ≤ 1000 := hT.1 14
          have v16 : 0 ≤ τ_192.1 16 ∧ τ_192.1 16 ≤ 60000 := hT.1 16
          have v17 : 0 ≤ τ_192.1 17 ∧ τ_192.1 17 ≤ 60000 := hT.1 17
          have v18 : 0 ≤ τ_192.1 18 ∧ τ_192.1 18 ≤ 60000 := hT.1 18
          have v19 : (-1) ≤ τ_192.1 19 ∧ τ_192.1 19 ≤ 125 := hT.1 19
          have v20 : 0 ≤ τ_192.1 20 ∧ τ_192.1 20 ≤ 19 := hT.1 20
          have o6_τ_192 := congrArg oc G6
          have o7_τ_192 := congrArg oc G7
          have nb2 := j_in_n i192_7 (by omega) (by omega)
          refine h192 u1_192 u2_192 u3_192 u4_192 τ_192 ?_
          refine ⟨fun c50 => ?_, fun c50 => ?_⟩
          ·
            refine h225 _ _ _ _ ?_
            refine ⟨fun c60 => ?_, fun c60 => ?_⟩
            ·
              refine h254 _ _ _ ?_
              refine ⟨fun c65 => ?_, fun c65 => ?_⟩
              ·
                exact ih_6 _ _ (show (3 * ((τ_192.1 0) - (τ_192.1 16)) + z_0 ((τ_192.1 20)) + 1 - z_0 ((τ_192.1 19)) : Int) < ((m_6 : Nat) : Int) from by (have zz0 := z_e ((τ_192.1 20)); have zz1 := z_e ((τ_192.1 19)); (first | omega | (simp only [st_s] <;> omega) | assumption | omega))) hT (show τ_192.1 0 = σ.1 0 from by omega) G6 G7 (show (τ_192.1 16) ≤ (τ_192.1 0) from by (first | omega | (simp only [st_s] <;> omega) | assumption | omega)) (show (τ_192.1 17) + (τ_192.1 18) ≤ (τ_192.1 0) from by (first | omega | (simp only [st_s] <;> omega) | assumption | omega)) (show oc (τ_192.2.1 6) < 4096 from by (first | omega | (simp only [st_s] <;> omega) | assumption | omega)) (show oc (τ_192.2.1 7) < 4096 from by (first | omega | (simp only [st_s] <;> omega) | assumption | omega)) (show ¬ (σ.1 20) = 0 → (τ_192.1 20) = (σ.1 20) from by (first | omega | (simp only [st_s] <;> omega) | assumption | omega)) (show 0 ≤ u1_192 from by (first | omega | (simp only [st_s] <;> omega) | assumption | omega)) (show j_in u1_192 1000 (τ_192.2.1 37) from by (first | exact j_in0 _ _ | (rw [g37_τ69]; exact j_ins i192_7 (by omega) (by omega) (fun i h0 h1 => i192_16 (by omega) i h0 (by omega))) | (rw [g37_τ41]; assumption) | (rw [g37_τ48]; assumption) | (rw [g37_τ58]; assumption) | (rw [g37_τ73]; assumption) | assumption | (exfalso; omega))) (show (σ.1 16) ≤ (τ_192.1 16) from by (first | omega | (simp only [st_s] <;> omega) | assumption | omega))
              ·
                refine ⟨(show 0 ≤ u1_192 ∧ u1_192 < 1001 from by (first | omega | (simp only [st_s] <;> omega) | assumption | omega)), ?_⟩
                replace hT := mT_a (k := 37) (j := u1_192) hT (show (0 : Int) ≤ u2_192 ∧ u2_192 ≤ 999 from by (first | omega | (simp only [st_s] <;> omega) | assumption | omega))
                refine ⟨_, K_X13_next hT (show (τ_192.1 16) ≤ (τ_192.1 0) from by (first | omega | (simp only [st_s] <;> omega) | assumption | omega)), ?_⟩
                intro τ69 hn_τ69 hf_τ69 hq
                obtain ⟨hT, q67_1, q67_2, q67_3, q67_4, q67_5⟩ := hq
                replace q67_1 : (τ69.1 16) ≤ (τ69.1 0) := q67_1
                replace q67_2 : (τ69.1 17) + (τ69.1 18) ≤ (τ69.1 0) := q67_2
                replace q67_3 : (τ_192.1 16) ≤ (τ69.1 16) := q67_3
                replace q67_4 : ¬ (τ_192.1 20) = 0 → (τ69.1 20) = (τ_192.1 20) := q67_4
                replace q67_5 : (τ69.1 20) = 0 → ¬ (τ69.1 19) = 0 → (τ_192.1 16) < (τ69.1 16) ∧ 0 < (τ69.1 18) := q67_5
                have w0_τ69 : τ69.1 0 = τ_192.1 0 := hf_τ69.1 0 (by decide)
                have w14_τ69 : τ69.1 14 = τ_192.1 14 := hf_τ69.1 14 (by decide)
                have g6_τ69 : τ69.2.1 6 = τ_192.2.1 6 := hf_τ69.2.1 6 (by decide)
                have g7_τ69 : τ69.2.1 7 = τ_192.2.1 7 := hf_τ69.2.1 7 (by decide)
                have g37_τ69 : τ69.2.1 37 = (st (τ_192.2.1 37) u1_192 u2_192) := hf_τ69.2.1 37 (by decide)
                first | (have o6_τ69 := congrArg oc g6_τ69) | skip
                first | (have o7_τ69 := congrArg oc g7_τ69) | skip
                have W0 : τ69.1 0 = σ.1 0 := by omega
                have G6 : τ69.2.1 6 = σ.2.1 6 := (g6_τ69).trans G6
                have G7 : τ69.2.1 7 = σ.2.1 7 := (g7_τ69).trans G7
                have A6 : ∀ j, (-1) ≤ τ69.2.1 6 j ∧ τ69.2.1 6 j ≤ 999 := fun j => hT.2 6 j
                have A7 : ∀ j, (-1) ≤ τ69.2.1 7 j ∧ τ69.2.1 7 j ≤ 1499 := fun j => hT.2 7 j
                have A37 : ∀ j, 0 ≤ τ69.2.1 37 j ∧ τ69.2.1 37 j ≤ 999 := fun j => hT.2 37 j
                have v0 : 0 ≤ τ69.1 0 ∧ τ69.1 0 ≤ 60000 := hT.1 0
                have v14 : 0 ≤ τ69.1 14 ∧ τ69.1 14 ≤ 1000 := hT.1 14
                have v16 : 0 ≤ τ69.1 16 ∧ τ69.1 16 ≤ 60000 := hT.1 16
                have v17 : 0 ≤ τ69.1 17 ∧ τ69.1 17 ≤ 60000 := hT.1 17
                have v18 : 0 ≤ τ69.1 18 ∧ τ69.1 18 ≤ 60000 := hT.1 18
                have v19 : (-1) ≤ τ69.1 19 ∧ τ69.1 19 ≤ 125 := hT.1 19
                have v20 : 0 ≤ τ69.1 20 ∧ τ69.1 20 ≤ 19 := hT.1 20
                refine ⟨(⟨by (first | omega | (simp only [st_s] <;> omega) | assumption | omega), by (first | omega | (simp only [st_s] <;> omega) | assumption | omega)⟩ : rg (u1_192 + 1)), ?_⟩
                exact ih_6 _ _ (show (3 * ((τ69.1 0) - (τ69.1 16)) + z_0 ((τ69.1 20)) + 1 - z_0 ((τ69.1 19)) : Int) < ((m_6 : Nat) : Int) from by (have zz0 := z_e ((τ69.1 20)); have zz1 := z_e ((τ69.1 19)); (first | omega | (simp only [st_s] <;> omega) | assumption | omega))) hT (show τ69.1 0 = σ.1 0 from by omega) G6 G7 (show (τ69.1 16) ≤ (τ69.1 0) from by (first | omega | (simp only [st_s] <;> omega) | assumption | omega)) (show (τ69.1 17) + (τ69.1 18) ≤ (τ69.1 0) from by (first | omega | (simp only [st_s] <;> omega) | assumption | omega)) (show oc (τ69.2.1 6) < 4096 from by (first | omega | (simp only [st_s] <;> omega) | assumption | omega)) (show oc (τ69.2.1 7) < 4096 from by (first | omega | (simp only [st_s] <;> omega) | assumption | omega)) (show ¬ (σ.1 20) = 0 → (τ69.1 20) = (σ.1 20) from by (first | omega | (simp only [st_s] <;> omega) | assumption | omega)) (show 0 ≤ (u1_192 + 1) from by (first | omega | (simp only [st_s] <;> omega) | assumption | omega)) (show j_in (u1_192 + 1) 1000 (τ69.2.1 37) from by (first | exact j_in0 _ _ | (rw [g37_τ69]; exact j_ins i192_7 (by omega) (by omega) (fun i h0 h1 => i192_16 (by omega) i h0 (by omega))) | (rw [g37_τ41]; assumption) | (rw [g37_τ48]; assumption) | (rw [g37_τ58]; assumption) | (rw [g37_τ73]; assumption) | assumption | (exfalso; omega))) (show (σ.1 16) ≤ (τ69.1 16) from by (first | omega | (simp only [st_s] <;> omega) | assumption | omega))
            ·
              refine ⟨fun c61 => ?_, fun c61 => ?_⟩
              ·
                refine h251 _ _ _ _ ?_
                refine ⟨_, K_X13_failHere hT (show 0 ≤ 9 from by (first | omega | (simp only [st_s] <;> omega) | assumption | omega)) (show 9 ≤ 19 from by (first | omega | (simp only [st_s] <;> omega) | assumption | omega)), ?_⟩
                intro τ73 hn_τ73 hf_τ73 hq
                obtain ⟨hT, q71_1, q71_2⟩ := hq
                replace q71_1 : ¬ (τ_192.1 20) = 0 → (τ73.1 20) = (τ_192.1 20) := q71_1
                replace q71_2 : (τ_192.1 20) = 0 → (τ73.1 20) = 9 := q71_2
                have w0_τ73 : τ73.1 0 = τ_192.1 0 := hf_τ73.1 0 (by decide)
                have w14_τ73 : τ73.1 14 = τ_192.1 14 := hf_τ73.1 14 (by decide)
                have w16_τ73 : τ73.1 16 = τ_192.1 16 := hf_τ73.1 16 (by decide)
                have w17_τ73 : τ73.1 17 = τ_192.1 17 := hf_τ73.1 17 (by decide)
                have w18_τ73 : τ73.1 18 = τ_192.1 18 := hf_τ73.1 18 (by decide)
                have w19_τ73 : τ73.1 19 = τ_192.1 19 := hf_τ73.1 19 (by decide)
                have g6_τ73 : τ73.2.1 6 = τ_192.2.1 6 := hf_τ73.2.1 6 (by decide)
                have g7_τ73 : τ73.2.1 7 = τ_192.2.1 7 := hf_τ73.2.1 7 (by decide)
                have g37_τ73 : τ73.2.1 37 = τ_192.2.1 37 := hf_τ73.2.1 37 (by decide)
                first | (have o6_τ73 := congrArg oc g6_τ73) | skip
                first | (have o7_τ73 := congrArg oc g7_τ73) | skip
                have W0 : τ73.1 0 = σ.1 0 := by omega
                have G6 : τ73.2.1 6 = σ.2.1 6 := (g6_τ73).trans G6
                have G7 : τ73.2.1 7 = σ.2.1 7 := (g7_τ73).trans G7
                have A6 : ∀ j, (-1) ≤ τ73.2.1 6 j ∧ τ73.2.1 6 j ≤ 999 := fun j => hT.2 6 j
                have A7 : ∀ j, (-1) ≤ τ73.2.1 7 j ∧ τ73.2.1 7 j ≤ 1499 := fun j => hT.2 7 j
                have A37 : ∀ j, 0 ≤ τ73.2.1 37 j ∧ τ73.2.1 37 j ≤ 999 := fun j => hT.2 37 j
                have v0 : 0 ≤ τ73.1 0 ∧ τ73.1 0 ≤ 60000 := hT.1 0
                have v14 : 0 ≤ τ73.1 14 ∧ τ73.1 14 ≤ 1000 := hT.1 14
                have v16 : 0 ≤ τ73.1 16 ∧ τ73.1 16 ≤ 60000 := hT.1 16
                have v17 : 0 ≤ τ73.1 17 ∧ τ73.1 17 ≤ 60000 := hT.1 17
                have v18 : 0 ≤ τ73.1 18 ∧ τ73.1 18 ≤ 60000 := hT.1 18
                have v19 : (-1) ≤ τ73.1 19 ∧ τ73.1 19 ≤ 125 := hT.1 19
                have v20 : 0 ≤ τ73.1 20 ∧ τ73.1 20 ≤ 19 := hT.1 20
                refine h254 _ _ _ ?_
                refine ⟨fun c65 => ?_, fun c65 => ?_⟩
                ·
                  exact ih_6 _ _ (show (3 * ((τ73.1 0) - (τ73.1 16)) + z_0 ((τ73.1 20)) + 1 - z_0 ((τ73.1 19)) : Int) < ((m_6 : Nat) : Int) from by (have zz0 := z_e ((τ73.1 20)); have zz1 := z_e ((τ73.1 19)); (first | omega | (simp only [st_s] <;> omega) | assumption | omega))) hT (show τ73.1 0 = σ.1 0 from by omega) G6 G7 (show (τ73.1 16) ≤ (τ73.1 0) from by (first | omega | (simp only [st_s] <;> omega) | assumption | omega)) (show (τ73.1 17) + (τ73.1 18) ≤ (τ73.1 0) from by (first | omega | (simp only [st_s] <;> omega) | assumption | omega)) (show oc (τ73.2.1 6) < 4096 from by (first | omega | (simp only [st_s] <;> omega) | assumption | omega)) (show oc (τ73.2.1 7) < 4096 from by (first | omega | (simp only [st_s] <;> omega) | assumption | omega)) (show ¬ (σ.1 20) = 0 → (τ73.1 20) = (σ.1 20) from by (first | omega | (simp only [st_s] <;> omega) | assumption | omega)) (show 0 ≤ u1_192 from by (first | omega | (simp only [st_s] <;> omega) | assumption | omega)) (show j_in u1_192 1000 (τ73.2.1 37) from by (first | exact j_in0 _ _ | (rw [g37_τ69]; exact j_ins i192_7 (by omega) (by omega) (fun i h0 h1 => i192_16 (by omega) i h0 (by omega))) | (rw [g37_τ41]; assumption) | (rw [g37_τ48]; assumption) | (rw [g37_τ58]; assumption) | (rw [g37_τ73]; assumption) | assumption | (exfalso; omega))) (show (σ.1 16) ≤ (τ73.1 16) from by (first | omega | (simp only [st_s] <;> omega) | assumption | omega))
                ·
                  refine ⟨(show 0 ≤ u1_192 ∧ u1_192 < 1001 from by (first | omega | (simp only [st_s] <;> omega) | assumption | omega)), ?_⟩
                  replace hT := mT_a (k := 37) (j := u1_192) hT (show (0 : Int) ≤ u2_192 ∧ u2_192 ≤ 999 from by (first | omega | (simp only [st_s] <;> omega) | assumption | omega))
                  refine ⟨_, K_X13_next hT (show (τ73.1 16) ≤ (τ73.1 0) from by (first | omega | (simp only [st_s] <;> omega) | assumption | omega)), ?_⟩
                  intro τ69 hn_τ69 hf_τ69 hq
                  obtain ⟨hT, q67_1, q67_2, q67_3, q67_4, q67_5⟩ := hq
                  replace q67_1 : (τ69.1 16) ≤ (τ69.1 0) := q67_1
                  replace q67_2 : (τ69.1 17) + (τ69.1 18) ≤ (τ69.1 0) := q67_2
                  replace q67_3 : (τ73.1 16) ≤ (τ69.1 16) := q67_3
                  replace q67_4 : ¬ (τ73.1 20) = 0 → (τ69.1 20) = (τ73.1 20) := q67_4
                  replace q67_5 : (τ69.1 20) = 0 → ¬ (τ69.1 19) = 0 → (τ73.1 16) < (τ69.1 16) ∧ 0 < (τ69.1 18) := q67_5
                  have w0_τ69 : τ69.1 0 = τ73.1 0 := hf_τ69.1 0 (by decide)
                  have w14_τ69 : τ69.1 14 = τ73.1 14 := hf_τ69.1 14 (by decide)
                  have g6_τ69 : τ69.2.1 6 = τ73.2.1 6 := hf_τ69.2.1 6 (by decide)
                  have g7_τ69 : τ69.2.1 7 = τ73.2.1 7 := hf_τ69.2.1 7 (by decide)
                  have g37_τ69 : τ69.2.1 37 = (st (τ73.2.1 37) u1_192 u2_192) := hf_τ69.2.1 37 (by decide)
                  first | (have o6_τ69 := congrArg oc g6_τ69) | skip
                  first | (have o7_τ69 := congrArg oc g7_τ69) | skip
                  have W0 : τ69.1 0 = σ.1 0 := by omega
                  have G6 : τ69.2.1 6 = σ.2.1 6 := (g6_τ69).trans G6
                  have G7 : τ69.2.1 7 = σ.2.1 7 := (g7_τ69).trans G7
                  have A6 : ∀ j, (-1) ≤ τ69.2.1 6 j ∧ τ69.2.1 6 j ≤ 999 := fun j => hT.2 6 j
                  have A7 : ∀ j, (-1) ≤ τ69.2.1 7 j ∧ τ69.2.1 7 j ≤ 1499 := fun j => hT.2 7 j
                  have A37 : ∀ j, 0 ≤ τ69.2.1 37 j ∧ τ69.2.1 37 j ≤ 999 := fun j => hT.2 37 j
                  have v0 : 0 ≤ τ69.1 0 ∧ τ69.1 0 ≤ 60000 := hT.1 0
                  have v14 : 0 ≤ τ69.1 14 ∧ τ69.1 14 ≤ 1000 := hT.1 14
                  have v16 : 0 ≤ τ69.1 16 ∧ τ69.1 16 ≤ 60000 := hT.1 16
                  have v17 : 0 ≤ τ69.1 17 ∧ τ69.1 17 ≤ 60000 := hT.1 17
                  have v18 : 0 ≤ τ69.1 18 ∧ τ69.1 18 ≤ 60000 := hT.1 18
                  have v19 : (-1) ≤ τ69.1 19 ∧ τ69.1 19 ≤ 125 := hT.1 19
                  have v20 : 0 ≤ τ69.1 20 ∧ τ69.1 20 ≤ 19 := hT.1 20
                  refine ⟨(⟨by (first | omega | (simp only [st_s] <;> omega) | assumption | omega), by (first | omega | (simp only [st_s] <;> omega) | assumption | omega)⟩ : rg (u1_192 + 1)), ?_⟩
                  exact ih_6 _ _ (show (3 * ((τ69.1 0) - (τ69.1 16)) + z_0 ((τ69.1 20)) + 1 - z_0 ((τ69.1 19)) : Int) < ((m_6 : Nat) : Int) from by (have zz0 := z_e ((τ69.1 20)); have zz1 := z_e ((τ69.1 19)); (first | omega | (simp only [st_s] <;> omega) | assumption | omega))) hT (show τ69.1 0 = σ.1 0 from by omega) G6 G7 (show (τ69.1 16) ≤ (τ69.1 0) from by (first | omega | (simp only [st_s] <;> omega) | assumption | omega)) (show (τ69.1 17) + (τ69.1 18) ≤ (τ69.1 0) from by (first | omega | (simp only [st_s] <;> omega) | assumption | omega)) (show oc (τ69.2.1 6) < 4096 from by (first | omega | (simp only [st_s] <;> omega) | assumption | omega)) (show oc (τ69.2.1 7) < 4096 from by (first | omega | (simp only [st_s] <;> omega) | assumption | omega)) (show ¬ (σ.1 20) = 0 → (τ69.1 20) = (σ.1 20) from by (first | omega | (simp only [st_s] <;> omega) | assumption | omega)) (show 0 ≤ (u1_192 + 1) from by (first | omega | (simp only [st_s] <;> omega) | assumption | omega)) (show j_in (u1_192 + 1) 1000 (τ69.2.1 37) from by (first | exact j_in0 _ _ | (rw [g37_τ69]; exact j_ins i192_7 (by omega) (by omega) (fun i h0 h1 => i192_16 (by omega) i h0 (by omega))) | (rw [g37_τ41]; assumption) | (rw [g37_τ48]; assumption) | (rw [g37_τ58]; assumption) | (rw [g37_τ73]; assumption) | assumption | (exfalso; omega))) (show (σ.1 16) ≤ (τ69.1 16) from by (first | omega | (simp only [st_s] <;> omega) | assumption | omega))
              ·
                refine ⟨(show 0 ≤ u2_192 ∧ u2_192 < 1001 from by (first | omega | (simp only [st_s] <;> omega) | assumption | omega)), ?_⟩
                intro x63 r_x63 e_x63
                have b_x63 : 0 ≤ x63 ∧ x63 ≤ 1 := by rw [e_x63]; exact hT.2 8 _
                refine ⟨fun c64 => ?_, fun c64 => ?_⟩
                ·
                  refine h251 _ _ _ _ ?_
                  refine ⟨_, K_X13_failHere hT (show 0 ≤ 10 from by (first | omega | (simp only [st_s] <;> omega) | assumption | omega)) (show 10 ≤ 19 from by (first | omega | (simp only [st_s] <;> omega) | assumption | omega)), ?_⟩
                  intro τ73 hn_τ73 hf_τ73 hq
                  obtain ⟨hT, q71_1, q71_2⟩ := hq
                  replace q71_1 : ¬ (τ_192.1 20) = 0 → (τ73.1 20) = (τ_192.1 20) := q71_1
                  replace q71_2 : (τ_192.1 20) = 0 → (τ73.1 20) = 10 := q71_2
                  have w0_τ73 : τ73.1 0 = τ_192.1 0 := hf_τ73.1 0 (by decide)
                  have w14_τ73 : τ73.1 14 = τ_192.1 14 := hf_τ73.1 14 (by decide)
                  have w16_τ73 : τ73.1 16 = τ_192.1 16 := hf_τ73.1 16 (by decide)
                  have w17_τ73 : τ73.1 17 = τ_192.1 17 := hf_τ73.1 17 (by decide)
                  have w18_τ73 : τ73.1 18 = τ_192.1 18 := hf_τ73.1 18 (by decide)
                  have w19_τ73 : τ73.1 19 = τ_192.1 19 := hf_τ73.1 19 (by decide)
                  have g6_τ73 : τ73.2.1 6 = τ_192.2.1 6 := hf_τ73.2.1 6 (by decide)
                  have g7_τ73 : τ73.2.1 7 = τ_192.2.1 7 := hf_τ73.2.1 7 (by decide)
                  have g37_τ73 : τ73.2.1 37 = τ_192.2.1 37 := hf_τ73.2.1 37 (by decide)
                  first | (have o6_τ73 := congrArg oc g6_τ73) | skip
                  first | (have o7_τ73 := congrArg oc g7_τ73) | skip
                  have W0 : τ73.1 0 = σ.1 0 := by omega
                  have G6 : τ73.2.1 6 = σ.2.1 6 := (g6_τ73).trans G6
                  have G7 : τ73.2.1 7 = σ.2.1 7 := (g7_τ73).trans G7
                  have A6 : ∀ j, (-1) ≤ τ73.2.1 6 j ∧ τ73.2.1 6 j ≤ 999 := fun j => hT.2 6 j
                  have A7 : ∀ j, (-1) ≤ τ73.2.1 7 j ∧ τ73.2.1 7 j ≤ 1499 := fun j => hT.2 7 j
                  have A37 : ∀ j, 0 ≤ τ73.2.1 37 j ∧ τ73.2.1 37 j ≤ 999 := fun j => hT.2 37 j
                  have v0 : 0 ≤ τ73.1 0 ∧ τ73.1 0 ≤ 60000 := hT.1 0
                  have v14 : 0 ≤ τ73.1 14 ∧ τ73.1 14 ≤ 1000 := hT.1 14
                  have v16 : 0 ≤ τ73.1 16 ∧ τ73.1 16 ≤ 60000 := hT.1 16
                  have v17 : 0 ≤ τ73.1 17 ∧ τ73.1 17 ≤ 60000 := hT.1 17
                  have v18 : 0 ≤ τ73.1 18 ∧ τ73.1 18 ≤ 60000 := hT.1 18
                  have v19 : (-1) ≤ τ73.1 19 ∧ τ73.1 19 ≤ 125 := hT.1 19
                  have v20 : 0 ≤ τ73.1 20 ∧ τ73.1 20 ≤ 19 := hT.1 20
                  refine h254 _ _ _ ?_
                  refine ⟨fun c65 => ?_, fun c65 => ?_⟩
                  ·
                    exact ih_6 _ _ (show (3 * ((τ73.1 0) - (τ73.1 16)) + z_0 ((τ73.1 20)) + 1 - z_0 ((τ73.1 19)) : Int) < ((m_6 : Nat) : Int) from by (have zz0 := z_e ((τ73.1 20)); have zz1 := z_e ((τ73.1 19)); (first | omega | (simp only [st_s] <;> omega) | assumption | omega))) hT (show τ73.1 0 = σ.1 0 from by omega) G6 G7 (show (τ73.1 16) ≤ (τ73.1 0) from by (first | omega | (simp only [st_s] <;> omega) | assumption | omega)) (show (τ73.1 17) + (τ73.1 18) ≤ (τ73.1 0) from by (first | omega | (simp only [st_s] <;> omega) | assumption | omega)) (show oc (τ73.2.1 6) < 4096 from by (first | omega | (simp only [st_s] <;> omega) | assumption | omega)) (show oc (τ73.2.1 7) < 4096 from by (first | omega | (simp only [st_s] <;> omega) | assumption | omega)) (show ¬ (σ.1 20) = 0 → (τ73.1 20) = (σ.1 20) from by (first | omega | (simp only [st_s] <;> omega) | assumption | omega)) (show 0 ≤ u1_192 from by (first | omega | (simp only [st_s] <;> omega) | assumption | omega)) (show j_in u1_192 1000 (τ73.2.1 37) from by (first | exact j_in0 _ _ | (rw [g37_τ69]; exact j_ins i192_7 (by omega) (by omega) (fun i h0 h1 => i192_16 (by omega) i h0 (by omega))) | (rw [g37_τ41]; assumption) | (rw [g37_τ48]; assumption) | (rw [g37_τ58]; assumption) | (rw [g37_τ73]; assumption) | assumption | (exfalso; omega))) (show (σ.1 16) ≤ (τ73.1 16) from by (first | omega | (simp only [st_s] <;> omega) | assumption | omega))
                  ·
                    refine ⟨(show 0 ≤ u1_192 ∧ u1_192 < 1001 from by (first | omega | (simp only [st_s] <;> omega) | assumption | omega)), ?_⟩
                    replace hT := mT_a (k := 37) (j := u1_192) hT (show (0 : Int) ≤ u2_192 ∧ u2_192 ≤ 999 from by (first | omega | (simp only [st_s] <;> omega) | assumption | omega))
                    refine ⟨_, K_X13_next hT (show (τ73.1 16) ≤ (τ73.1 0) from by (first | omega | (simp only [st_s] <;> omega) | assumption | omega)), ?_⟩
                    intro τ69 hn_τ69 hf_τ69 hq
                    obtain ⟨hT, q67_1, q67_2, q67_3, q67_4, q67_5⟩ := hq
                    replace q67_1 : (τ69.1 16) ≤ (τ69.1 0) := q67_1
                    replace q67_2 : (τ69.1 17) + (τ69.1 18) ≤ (τ69.1 0) := q67_2
                    replace q67_3 : (τ73.1 16) ≤ (τ69.1 16) := q67_3
                    replace q67_4 : ¬ (τ73.1 20) = 0 → (τ69.1 20) = (τ73.1 20) := q67_4
                    replace q67_5 : (τ69.1 20) = 0 → ¬ (τ69.1 19) = 0 → (τ73.1 16) < (τ69.1 16) ∧ 0 < (τ69.1 18) := q67_5
                    have w0_τ69 : τ69.1 0 = τ73.1 0 := hf_τ69.1 0 (by decide)
                    have w14_τ69 : τ69.1 14 = τ73.1 14 := hf_τ69.1 14 (by decide)
                    have g6_τ69 : τ69.2.1 6 = τ73.2.1 6 := hf_τ69.2.1 6 (by decide)
                    have g7_τ69 : τ69.2.1 7 = τ73.2.1 7 := hf_τ69.2.1 7 (by decide)
                    have g37_τ69 : τ69.2.1 37 = (st (τ73.2.1 37) u1_192 u2_192) := hf_τ69.2.1 37 (by decide)
                    first | (have o6_τ69 := congrArg oc g6_τ69) | skip
                    first | (have o7_τ69 := congrArg oc g7_τ69) | skip
                    have W0 : τ69.1 0 = σ.1 0 := by omega
                    have G6 : τ69.2.1 6 = σ.2.1 6 := (g6_τ69).trans G6
                    have G7 : τ69.2.1 7 = σ.2.1 7 := (g7_τ69).trans G7
                    have A6 : ∀ j, (-1) ≤ τ69.2.1 6 j ∧ τ69.2.1 6 j ≤ 999 := fun j => hT.2 6 j
                    have A7 : ∀ j, (-1) ≤ τ69.2.1 7 j ∧ τ69.2.1 7 j ≤ 1499 := fun j => hT.2 7 j
                    have A37 : ∀ j, 0 ≤ τ69.2.1 37 j ∧ τ69.2.1 37 j ≤ 999 := fun j => hT.2 37 j
                    have v0 : 0 ≤ τ69.1 0 ∧ τ69.1 0 ≤ 60000 := hT.1 0
                    have v14 : 0 ≤ τ69.1 14 ∧ τ69.1 14 ≤ 1000 := hT.1 14
                    have v16 : 0 ≤ τ69.1 16 ∧ τ69.1 16 ≤ 60000 := hT.1 16
                    have v17 : 0 ≤ τ69.1 17 ∧ τ69.1 17 ≤ 60000 := hT.1 17
                    have v18 : 0 ≤ τ69.1 18 ∧ τ69.1 18 ≤ 60000 := hT.1 18
                    have v19 : (-1) ≤ τ69.1 19 ∧ τ69.1 19 ≤ 125 := hT.1 19
                    have v20 : 0 ≤ τ69.1 20 ∧ τ69.1 20 ≤ 19 := hT.1 20
                    refine ⟨(⟨by (first | omega | (simp only [st_s] <;> omega) | assumption | omega), by (first | omega | (simp only [st_s] <;> omega) | assumption | omega)⟩ : rg (u1_192 + 1)), ?_⟩
                    exact ih_6 _ _ (show (3 * ((τ69.1 0) - (τ69.1 16)) + z_0 ((τ69.1 20)) + 1 - z_0 ((τ69.1 19)) : Int) < ((m_6 : Nat) : Int) from by (have zz0 := z_e ((τ69.1 20)); have zz1 := z_e ((τ69.1 19)); (first | omega | (simp only [st_s] <;> omega) | assumption | omega))) hT (show τ69.1 0 = σ.1 0 from by omega) G6 G7 (show (τ69.1 16) ≤ (τ69.1 0) from by (first | omega | (simp only [st_s] <;> omega) | assumption | omega)) (show (τ69.1 17) + (τ69.1 18) ≤ (τ69.1 0) from by (first | omega | (simp only [st_s] <;> omega) | assumption | omega)) (show oc (τ69.2.1 6) < 4096 from by (first | omega | (simp only [st_s] <;> omega) | assumption | omega)) (show oc (τ69.2.1 7) < 4096 from by (first | omega | (simp only [st_s] <;> omega) | assumption | omega)) (show ¬ (σ.1 20) = 0 → (τ69.1 20) = (σ.1 20) from by (first | omega | (simp only [st_s] <;> omega) | assumption | omega)) (show 0 ≤ (u1_192 + 1) from by (first | omega | (simp only [st_s] <;> omega) | assumption | omega)) (show j_in (u1_192 + 1) 1000 (τ69.2.1 37) from by (first | exact j_in0 _ _ | (rw [g37_τ69]; exact j_ins i192_7 (by omega) (by omega) (fun i h0 h1 => i192_16 (by omega) i h0 (by omega))) | (rw [g37_τ41]; assumption) | (rw [g37_τ48]; assumption) | (rw [g37_τ58]; assumption) | (rw [g37_τ73]; assumption) | assumption | (exfalso; omega))) (show (σ.1 16) ≤ (τ69.1 16) from by (first | omega | (simp only [st_s] <;> omega) | assumption | omega))
                ·
                  refine h251 _ _ _ _ ?_
                  refine ⟨_, K_X13_failHere hT (show 0 ≤ 9 from by (first | omega | (simp only [st_s] <;> omega) | assumption | omega)) (show 9 ≤ 19 from by (first | omega | (simp only [st_s] <;> omega) | assumption | omega)), ?_⟩
                  intro τ73 hn_τ73 hf_τ73 hq
                  obtain ⟨hT, q71_1, q71_2⟩ := hq
                  replace q71_1 : ¬ (τ_192.1 20) = 0 → (τ73.1 20) = (τ_192.1 20) := q71_1
                  replace q71_2 : (τ_192.1 20) = 0 → (τ73.1 20) = 9 := q71_2
                  have w0_τ73 : τ73.1 0 = τ_192.1 0 := hf_τ73.1 0 (by decide)
                  have w14_τ73 : τ73.1 14 = τ_192.1 14 := hf_τ73.1 14 (by decide)
                  have w16_τ73 : τ73.1 16 = τ_192.1 16 := hf_τ73.1 16 (by decide)
                  have w17_τ73 : τ73.1 17 = τ_192.1 17 := hf_τ73.1 17 (by decide)
                  have w18_τ73 : τ73.1 18 = τ_192.1 18 := hf_τ73.1 18 (by decide)
                  have w19_τ73 : τ73.1 19 = τ_192.1 19 := hf_τ73.1 19 (by decide)
                  have g6_τ73 : τ73.2.1 6 = τ_192.2.1 6 := hf_τ73.2.1 6 (by decide)
                  have g7_τ73 : τ73.2.1 7 = τ_192.2.1 7 := hf_τ73.2.1 7 (by decide)
                  have g37_τ73 : τ73.2.1 37 = τ_192.2.1 37 := hf_τ73.2.1 37 (by decide)
                  first | (have o6_τ73 := congrArg oc g6_τ73) | skip
                  first | (have o7_τ73 := congrArg oc g7_τ73) | skip
                  have W0 : τ73.1 0 = σ.1 0 := by omega
                  have G6 : τ73.2.1 6 = σ.2.1 6 := (g6_τ73).trans G6
                  have G7 : τ73.2.1 7 = σ.2.1 7 := (g7_τ73).trans G7
                  have A6 : ∀ j, (-1) ≤ τ73.2.1 6 j ∧ τ73.2.1 6 j ≤ 999 := fun j => hT.2 6 j
                  have A7 : ∀ j, (-1) ≤ τ73.2.1 7 j ∧ τ73.2.1 7 j ≤ 1499 := fun j => hT.2 7 j
                  have A37 : ∀ j, 0 ≤ τ73.2.1 37 j ∧ τ73.2.1 37 j ≤ 999 := fun j => hT.2 37 j
                  have v0 : 0 ≤ τ73.1 0 ∧ τ73.1 0 ≤ 60000 := hT.1 0
                  have v14 : 0 ≤ τ73.1 14 ∧ τ73.1 14 ≤ 1000 := hT.1 14
                  have v16 : 0 ≤ τ73.1 16 ∧ τ73.1 16 ≤ 60000 := hT.1 16
                  have v17 : 0 ≤ τ73.1 17 ∧ τ73.1 17 ≤ 60000 := hT.1 17
                  have v18 : 0 ≤ τ73.1 18 ∧ τ73.1 18 ≤ 60000 := hT.1 18
                  have v19 : (-1) ≤ τ73.1 19 ∧ τ73.1 19 ≤ 125 := hT.1 19
                  have v20 : 0 ≤ τ73.1 20 ∧ τ73.1 20 ≤ 19 := hT.1 20
                  refine h254 _ _ _ ?_
                  refine ⟨fun c65 => ?_, fun c65 => ?_⟩
                  ·
                    exact ih_6 _ _ (show (3 * ((τ73.1 0) - (τ73.1 16)) + z_0 ((τ73.1 20)) + 1 - z_0 ((τ73.1 19)) : Int) < ((m_6 : Nat) : Int) from by (have zz0 := z_e ((τ73.1 20)); have zz1 := z_e ((τ73.1 19)); (first | omega | (simp only [st_s] <;> omega) | assumption | omega))) hT (show τ73.1 0 = σ.1 0 from by omega) G6 G7 (show (τ73.1 16) ≤ (τ73.1 0) from by (first | omega | (simp only [st_s] <;> omega) | assumption | omega)) (show (τ73.1 17) + (τ73.1 18) ≤ (τ73.1 0) from by (first | omega | (simp only [st_s] <;> omega) | assumption | omega)) (show oc (τ73.2.1 6) < 4096 from by (first | omega | (simp only [st_s] <;> omega) | assumption | omega)) (show oc (τ73.2.1 7) < 4096 from by (first | omega | (simp only [st_s] <;> omega) | assumption | omega)) (show ¬ (σ.1 20) = 0 → (τ73.1 20) = (σ.1 20) from by (first | omega | (simp only [st_s] <;> omega) | assumption | omega)) (show 0 ≤ u1_192 from by (first | omega | (simp only [st_s] <;> omega) | assumption | omega)) (show j_in u1_192 1000 (τ73.2.1 37) from by (first | exact j_in0 _ _ | (rw [g37_τ69]; exact j_ins i192_7 (by omega) (by omega) (fun i h0 h1 => i192_16 (by omega) i h0 (by omega))) | (rw [g37_τ41]; assumption) | (rw [g37_τ48]; assumption) | (rw [g37_τ58]; assumption) | (rw [g37_τ73]; assumption) | assumption | (exfalso; omega))) (show (σ.1 16) ≤ (τ73.1 16) from by (first | omega | (simp only [st_s] <;> omega) | assumption | omega))
                  ·
                    refine ⟨(show 0 ≤ u1_192 ∧ u1_192 < 1001 from by (first | omega | (simp only [st_s] <;> omega) | assumption | omega)), ?_⟩
                    replace hT := mT_a (k := 37) (j := u1_192) hT (show (0 : Int) ≤ u2_192 ∧ u2_192 ≤ 999 from by (first | omega | (simp only [st_s] <;> omega) | assumption | omega))
                    refine ⟨_, K_X13_next hT (show (τ73.1 16) ≤ (τ73.1 0) from by (first | omega | (simp only [st_s] <;> omega) | assumption | omega)), ?_⟩
                    intro τ69 hn_τ69 hf_τ69 hq
                    obtain ⟨hT, q67_1, q67_2, q67_3, q67_4, q67_5⟩ := hq
                    replace q67_1 : (τ69.1 16) ≤ (τ69.1 0) := q67_1
                    replace q67_2 : (τ69.1 17) + (τ69.1 18) ≤ (τ69.1 0) := q67_2
                    replace q67_3 : (τ73.1 16) ≤ (τ69.1 16) := q67_3
                    replace q67_4 : ¬ (τ73.1 20) = 0 → (τ69.1 20) = (τ73.1 20) := q67_4
                    replace q67_5 : (τ69.1 20) = 0 → ¬ (τ69.1 19) = 0 → (τ73.1 16) < (τ69.1 16) ∧ 0 < (τ69.1 18) := q67_5
                    have w0_τ69 : τ69.1 0 = τ73.1 0 := hf_τ69.1 0 (by decide)
                    have w14_τ69 : τ69.1 14 = τ73.1 14 := hf_τ69.1 14 (by decide)
                    have g6_τ69 : τ69.2.1 6 = τ73.2.1 6 := hf_τ69.2.1 6 (by decide)
                    have g7_τ69 : τ69.2.1 7 = τ73.2.1 7 := hf_τ69.2.1 7 (by decide)
                    have g37_τ69 : τ69.2.1 37 = (st (τ73.2.1 37) u1_192 u2_192) := hf_τ69.2.1 37 (by decide)
                    first | (have o6_τ69 := congrArg oc g6_τ69) | skip
                    first | (have o7_τ69 := congrArg oc g7_τ69) | skip
                    have W0 : τ69.1 0 = σ.1 0 := by omega
                    have G6 : τ69.2.1 6 = σ.2.1 6 := (g6_τ69).trans G6
                    have G7 : τ69.2.1 7 = σ.2.1 7 := (g7_τ69).trans G7
                    have A6 : ∀ j, (-1) ≤ τ69.2.1 6 j ∧ τ69.2.1 6 j ≤ 999 := fun j => hT.2 6 j
                    have A7 : ∀ j, (-1) ≤ τ69.2.1 7 j ∧ τ69.2.1 7 j ≤ 1499 := fun j => hT.2 7 j
                    have A37 : ∀ j, 0 ≤ τ69.2.1 37 j ∧ τ69.2.1 37 j ≤ 999 := fun j => hT.2 37 j
                    have v0 : 0 ≤ τ69.1 0 ∧ τ69.1 0 ≤ 60000 := hT.1 0
                    have v14 : 0 ≤ τ69.1 14 ∧ τ69.1 14 ≤ 1000 := hT.1 14
                    have v16 : 0 ≤ τ69.1 16 ∧ τ69.1 16 ≤ 60000 := hT.1 16
                    have v17 : 0 ≤ τ69.1 17 ∧ τ69.1 17 ≤ 60000 := hT.1 17
                    have v18 : 0 ≤ τ69.1 18 ∧ τ69.1 18 ≤ 60000 := hT.1 18
                    have v19 : (-1) ≤ τ69.1 19 ∧ τ69.1 19 ≤ 125 := hT.1 19
                    have v20 : 0 ≤ τ69.1 20 ∧ τ69.1 20 ≤ 19 := hT.1 20
                    refine ⟨(⟨by (first | omega | (simp only [st_s] <;> omega) | assumption | omega), by (first | omega | (simp only [st_s] <;> omega) | assumption | omega)⟩ : rg (u1_192 + 1)), ?_⟩
                    exact ih_6 _ _ (show (3 * ((τ69.1 0) - (τ69.1 16)) + z_0 ((τ69.1 20)) + 1 - z_0 ((τ69.1 19)) : Int) < ((m_6 : Nat) : Int) from by (have zz0 := z_e ((τ69.1 20)); have zz1 := z_e ((τ69.1 19)); (first | omega | (simp only [st_s] <;> omega) | assumption | omega))) hT (show τ69.1 0 = σ.1 0 from by omega) G6 G7 (show (τ69.1 16) ≤ (τ69.1 0) from by (first | omega | (simp only [st_s] <;> omega) | assumption | omega)) (show (τ69.1 17) + (τ69.1 18) ≤ (τ69.1 0) from by (first | omega | (simp only [st_s] <;> omega) | assumption | omega)) (show oc (τ69.2.1 6) < 4096 from by (first | omega | (simp only [st_s] <;> omega) | assumption | omega)) (show oc (τ69.2.1 7) < 4096 from by (first | omega | (simp only [st_s] <;> omega) | assumption | omega)) (show ¬ (σ.1 20) = 0 → (τ69.1 20) = (σ.1 20) from by (first | omega | (simp only [st_s] <;> omega) | assumption | omega)) (show 0 ≤ (u1_192 + 1) from by (first | omega | (simp only [st_s] <;> omega) | assumption | omega)) (show j_in (u1_192 + 1) 1000 (τ69.2.1 37) from by (first | exact j_in0 _ _ | (rw [g37_τ69]; exact j_ins i192_7 (by omega) (by omega) (fun i h0 h1 => i192_16 (by omega) i h0 (by omega))) | (rw [g37_τ41]; assumption) | (rw [g37_τ48]; assumption) | (rw [g37_τ58]; assumption) | (rw [g37_τ73]; assumption) | assumption | (exfalso; omega))) (show (σ.1 16) ≤ (τ69.1 16) from by (first | omega | (simp only [st_s] <;> omega) | assumption | omega))
          ·
            refine ⟨fun c51 => ?_, fun c51 => ?_⟩
            ·
              refine h225 _ _ _ _ ?_
              refine ⟨fun c60 => ?_, fun c60 => ?_⟩
              ·
                refine h254 _ _ _ ?_
                refine ⟨fun c65 => ?_, fun c65 => ?_⟩
                ·
                  exact ih_6 _ _ (show (3 * ((τ_192.1 0) - (τ_192.1 16)) + z_0 ((τ_192.1 20)) + 1 - z_0 ((τ_192.1 19)) : Int) < ((m_6 : Nat) : Int) from by (have zz0 := z_e ((τ_192.1 20)); have zz1 := z_e ((τ_192.1 19)); (first | omega | (simp only [st_s] <;> omega) | assumption | omega))) hT (show τ_192.1 0 = σ.1 0 from by omega) G6 G7 (show (τ_192.1 16) ≤ (τ_192.1 0) from by (first | omega | (simp only [st_s] <;> omega) | assumption | omega)) (show (τ_192.1 17) + (τ_192.1 18) ≤ (τ_192.1 0) from by (first | omega | (simp only [st_s] <;> omega) | assumption | omega)) (show oc (τ_192.2.1 6) < 4096 from by (first | omega | (simp only [st_s] <;> omega) | assumption | omega)) (show oc (τ_192.2.1 7) < 4096 from by (first | omega | (simp only [st_s] <;> omega) | assumption | omega)) (show ¬ (σ.1 20) = 0 → (τ_192.1 20) = (σ.1 20) from by (first | omega | (simp only [st_s] <;> omega) | assumption | omega)) (show 0 ≤ u1_192 from by (first | omega | (simp only [st_s] <;> omega) | assumption | omega)) (show j_in u1_192 1000 (τ_192.2.1 37) from by (first | exact j_in0 _ _ | (rw [g37_τ69]; exact j_ins i192_7 (by omega) (by omega) (fun i h0 h1 => i192_16 (by omega) i h0 (by omega))) | (rw [g37_τ41]; assumption) | (rw [g37_τ48]; assumption) | (rw [g37_τ58]; assumption) | (rw [g37_τ73]; assumption) | assumption | (exfalso; omega))) (show (σ.1 16) ≤ (τ_192.1 16) from by (first | omega | (simp only [st_s] <;> omega) | assumption | omega))
                ·
                  refine ⟨(show 0 ≤ u1_192 ∧ u1_192 < 1001 from by (first | omega | (simp only [st_s] <;> omega) | assumption | omega)), ?_⟩
                  replace hT := mT_a (k := 37) (j := u1_192) hT (show (0 : Int) ≤ u2_192 ∧ u2_192 ≤ 999 from by (first | omega | (simp only [st_s] <;> omega) | assumption | omega))
                  refine ⟨_, K_X13_next hT (show (τ_192.1 16) ≤ (τ_192.1 0) from by (first | omega | (simp only [st_s] <;> omega) | assumption | omega)), ?_⟩
                  intro τ69 hn_τ69 hf_τ69 hq
                  obtain ⟨hT, q67_1, q67_2, q67_3, q67_4, q67_5⟩ := hq
                  replace q67_1 : (τ69.1 16) ≤ (τ69.1 0) := q67_1
                  replace q67_2 : (τ69.1 17) + (τ69.1 18) ≤ (τ69.1 0) := q67_2
                  replace q67_3 : (τ_192.1 16) ≤ (τ69.1 16) := q67_3
                  replace q67_4 : ¬ (τ_192.1 20) = 0 → (τ69.1 20) = (τ_192.1 20) := q67_4
                  replace q67_5 : (τ69.1 20) = 0 → ¬ (τ69.1 19) = 0 → (τ_192.1 16) < (τ69.1 16) ∧ 0 < (τ69.1 18) := q67_5
                  have w0_τ69 : τ69.1 0 = τ_192.1 0 := hf_τ69.1 0 (by decide)
                  have w14_τ69 : τ69.1 14 = τ_192.1 14 := hf_τ69.1 14 (by decide)
                  have g6_τ69 : τ69.2.1 6 = τ_192.2.1 6 := hf_τ69.2.1 6 (by decide)
                  have g7_τ69 : τ69.2.1 7 = τ_192.2.1 7 := hf_τ69.2.1 7 (by decide)
                  have g37_τ69 : τ69.2.1 37 = (st (τ_192.2.1 37) u1_192 u2_192) := hf_τ69.2.1 37 (by decide)
                  first | (have o6_τ69 := congrArg oc g6_τ69) | skip
                  first | (have o7_τ69 := congrArg oc g7_τ69) | skip
                  have W0 : τ69.1 0 = σ.1 0 := by omega
                  have G6 : τ69.2.1 6 = σ.2.1 6 := (g6_τ69).trans G6
                  have G7 : τ69.2.1 7 = σ.2.1 7 := (g7_τ69).trans G7
                  have A6 : ∀ j, (-1) ≤ τ69.2.1 6 j ∧ τ69.2.1 6 j ≤ 999 := fun j => hT.2 6 j
                  have A7 : ∀ j, (-1) ≤ τ69.2.1 7 j ∧ τ69.2.1 7 j ≤ 1499 := fun j => hT.2 7 j
                  have A37 : ∀ j, 0 ≤ τ69.2.1 37 j ∧ τ69.2.1 37 j ≤ 999 := fun j => hT.2 37 j
                  have v0 : 0 ≤ τ69.1 0 ∧ τ69.1 0 ≤ 60000 := hT.1 0
                  have v14 : 0 ≤ τ69.1 14 ∧ τ69.1 14 ≤ 1000 := hT.1 14
                  have v16 : 0 ≤ τ69.1 16 ∧ τ69.1 16 ≤ 60000 := hT.1 16
                  have v17 : 0 ≤ τ69.1 17 ∧ τ69.1 17 ≤ 60000 := hT.1 17
                  have v18 : 0 ≤ τ69.1 18 ∧ τ69.1 18 ≤ 60000 := hT.1 18
                  have v19 : (-1) ≤ τ69.1 19 ∧ τ69.1 19 ≤ 125 := hT.1 19
                  have v20 : 0 ≤ τ69.1 20 ∧ τ69.1 20 ≤ 19 := hT.1 20
                  refine ⟨(⟨by (first | omega | (simp only [st_s] <;> omega) | assumption | omega), by (first | omega | (simp only [st_s] <;> omega) | assumption | omega)⟩ : rg (u1_192 + 1)), ?_⟩
                  exact ih_6 _ _ (show (3 * ((τ69.1 0) - (τ69.1 16)) + z_0 ((τ69.1 20)) + 1 - z_0 ((τ69.1 19)) : Int) < ((m_6 : Nat) : Int) from by (have zz0 := z_e ((τ69.1 20)); have zz1 := z_e ((τ69.1 19)); (first | omega | (simp only [st_s] <;> omega) | assumption | omega))) hT (show τ69.1 0 = σ.1 0 from by omega) G6 G7 (show (τ69.1 16) ≤ (τ69.1 0) from by (first | omega | (simp only [st_s] <;> omega) | assumption | omega)) (show (τ69.1 17) + (τ69.1 18) ≤ (τ69.1 0) from by (first | omega | (simp only [st_s] <;> omega) | assumption | omega)) (show oc (τ69.2.1 6) < 4096 from by (first | omega | (simp only [st_s] <;> omega) | assumption | omega)) (show oc (τ69.2.1 7) < 4096 from by (first | omega | (simp only [st_s] <;> omega) | assumption | omega)) (show ¬ (σ.1 20) = 0 → (τ69.1 20) = (σ.1 20) from by (first | omega | (simp only [st_s] <;> omega) | assumption | omega)) (show 0 ≤ (u1_192 + 1) from by (first | omega | (simp only [st_s] <;> omega) | assumption | omega)) (show j_in (u1_192 + 1) 1000 (τ69.2.1 37) from by (first | exact j_in0 _ _ | (rw [g37_τ69]; exact j_ins i192_7 (by omega) (by omega) (fun i h0 h1 => i192_16 (by omega) i h0 (by omega))) | (rw [g37_τ41]; assumption) | (rw [g37_τ48]; assumption) | (rw [g37_τ58]; assumption) | (rw [g37_τ73]; assumption) | assumption | (exfalso; omega))) (show (σ.1 16) ≤ (τ69.1 16) from by (first | omega | (simp only [st_s] <;> omega) | assumption | omega))
              ·
                refine ⟨fun c61 => ?_, fun c61 => ?_⟩
                ·
                  refine h251 _ _ _ _ ?_
                  refine ⟨_, K_X13_failHere hT (show 0 ≤ 9 from by (first | omega | (simp only [st_s] <;> omega) | assumption | omega)) (show 9 ≤ 19 from by (first | omega | (simp only [st_s] <;> omega) | assumption | omega)), ?_⟩
                  intro τ73 hn_τ73 hf_τ73 hq
                  obtain ⟨hT, q71_1, q71_2⟩ := hq
                  replace q71_1 : ¬ (τ_192.1 20) = 0 → (τ73.1 20) = (τ_192.1 20) := q71_1
                  replace q71_2 : (τ_192.1 20) = 0 → (τ73.1 20) = 9 := q71_2
                  have w0_τ73 : τ73.1 0 = τ_192.1 0 := hf_τ73.1 0 (by decide)
                  have w14_τ73 : τ73.1 14 = τ_192.1 14 := hf_τ73.1 14 (by decide)
                  have w16_τ73 : τ73.1 16 = τ_192.1 16 := hf_τ73.1 16 (by decide)
                  have w17_τ73 : τ73.1 17 = τ_192.1 17 := hf_τ73.1 17 (by decide)
                  have w18_τ73 : τ73.1 18 = τ_192.1 18 := hf_τ73.1 18 (by decide)
                  have w19_τ73 : τ73.1 19 = τ_192.1 19 := hf_τ73.1 19 (by decide)
                  have g6_τ73 : τ73.2.1 6 = τ_192.2.1 6 := hf_τ73.2.1 6 (by decide)
                  have g7_τ73 : τ73.2.1 7 = τ_192.2.1 7 := hf_τ73.2.1 7 (by decide)
                  have g37_τ73 : τ73.2.1 37 = τ_192.2.1 37 := hf_τ73.2.1 37 (by decide)
                  first | (have o6_τ73 := congrArg oc g6_τ73) | skip
                  first | (have o7_τ73 := congrArg oc g7_τ73) | skip
                  have W0 : τ73.1 0 = σ.1 0 := by omega
                  have G6 : τ73.2.1 6 = σ.2.1 6 := (g6_τ73).trans G6
                  have G7 : τ73.2.1 7 = σ.2.1 7 := (g7_τ73).trans G7
                  have A6 : ∀ j, (-1) ≤ τ73.2.1 6 j ∧ τ73.2.1 6 j ≤ 999 := fun j => hT.2 6 j
                  have A7 : ∀ j, (-1) ≤ τ73.2.1 7 j ∧ τ73.2.1 7 j ≤ 1499 := fun j => hT.2 7 j
                  have A37 : ∀ j, 0 ≤ τ73.2.1 37 j ∧ τ73.2.1 37 j ≤ 999 := fun j => hT.2 37 j
                  have v0 : 0 ≤ τ73.1 0 ∧ τ73.1 0 ≤ 60000 := hT.1 0
                  have v14 : 0 ≤ τ73.1 14 ∧ τ73.1 14 ≤ 1000 := hT.1 14
                  have v16 : 0 ≤ τ73.1 16 ∧ τ73.1 16 ≤ 60000 := hT.1 16
                  have v17 : 0 ≤ τ73.1 17 ∧ τ73.1 17 ≤ 60000 := hT.1 17
                  have v18 : 0 ≤ τ73.1 18 ∧ τ73.1 18 ≤ 60000 := hT.1 18
                  have v19 : (-1) ≤ τ73.1 19 ∧ τ73.1 19 ≤ 125 := hT.1 19
                  have v20 : 0 ≤ τ73.1 20 ∧ τ73.1 20 ≤ 19 := hT.1 20
                  refine h254 _ _ _ ?_
                  refine ⟨fun c65 => ?_, fun c65 => ?_⟩
                  ·
                    exact ih_6 _ _ (show (3 * ((τ73.1 0) - (τ73.1 16)) + z_0 ((τ73.1 20)) + 1 - z_0 ((τ73.1 19)) : Int) < ((m_6 : Nat) : Int) from by (have zz0 := z_e ((τ73.1 20)); have zz1 := z_e ((τ73.1 19)); (first | omega | (simp only [st_s] <;> omega) | assumption | omega))) hT (show τ73.1 0 = σ.1 0 from by omega) G6 G7 (show (τ73.1 16) ≤ (τ73.1 0) from by (first | omega | (simp only [st_s] <;> omega) | assumption | omega)) (show (τ73.1 17) + (τ73.1 18) ≤ (τ73.1 0) from by (first | omega | (simp only [st_s] <;> omega) | assumption | omega)) (show oc (τ73.2.1 6) < 4096 from by (first | omega | (simp only [st_s] <;> omega) | assumption | omega)) (show oc (τ73.2.1 7) < 4096 from by (first | omega | (simp only [st_s] <;> omega) | assumption | omega)) (show ¬ (σ.1 20) = 0 → (τ73.1 20) = (σ.1 20) from by (first | omega | (simp only [st_s] <;> omega) | assumption | omega)) (show 0 ≤ u1_192 from by (first | omega | (simp only [st_s] <;> omega) | assumption | omega)) (show j_in u1_192 1000 (τ73.2.1 37) from by (first | exact j_in0 _ _ | (rw [g37_τ69]; exact j_ins i192_7 (by omega) (by omega) (fun i h0 h1 => i192_16 (by omega) i h0 (by omega))) | (rw [g37_τ41]; assumption) | (rw [g37_τ48]; assumption) | (rw [g37_τ58]; assumption) | (rw [g37_τ73]; assumption) | assumption | (exfalso; omega))) (show (σ.1 16) ≤ (τ73.1 16) from by (first | omega | (simp only [st_s] <;> omega) | assumption | omega))
                  ·
                    refine ⟨(show 0 ≤ u1_192 ∧ u1_192 < 1001 from by (first | omega | (simp only [st_s] <;> omega) | assumption | omega)), ?_⟩
                    replace hT := mT_a (k := 37) (j := u1_192) hT (show (0 : Int) ≤ u2_192 ∧ u2_192 ≤ 999 from by (first | omega | (simp only [st_s] <;> omega) | assumption | omega))
                    refine ⟨_, K_X13_next hT (show (τ73.1 16) ≤ (τ73.1 0) from by (first | omega | (simp only [st_s] <;> omega) | assumption | omega)), ?_⟩
                    intro τ69 hn_τ69 hf_τ69 hq
                    obtain ⟨hT, q67_1, q67_2, q67_3, q67_4, q67_5⟩ := hq
                    replace q67_1 : (τ69.1 16) ≤ (τ69.1 0) := q67_1
                    replace q67_2 : (τ69.1 17) + (τ69.1 18) ≤ (τ69.1 0) := q67_2
                    replace q67_3 : (τ73.1 16) ≤ (τ69.1 16) := q67_3
                    replace q67_4 : ¬ (τ73.1 20) = 0 → (τ69.1 20) = (τ73.1 20) := q67_4
                    replace q67_5 : (τ69.1 20) = 0 → ¬ (τ69.1 19) = 0 → (τ73.1 16) < (τ69.1 16) ∧ 0 < (τ69.1 18) := q67_5
                    have w0_τ69 : τ69.1 0 = τ73.1 0 := hf_τ69.1 0 (by decide)
                    have w14_τ69 : τ69.1 14 = τ73.1 14 := hf_τ69.1 14 (by decide)
                    have g6_τ69 : τ69.2.1 6 = τ73.2.1 6 := hf_τ69.2.1 6 (by decide)
                    have g7_τ69 : τ69.2.1 7 = τ73.2.1 7 := hf_τ69.2.1 7 (by decide)
                    have g37_τ69 : τ69.2.1 37 = (st (τ73.2.1 37) u1_192 u2_192) := hf_τ69.2.1 37 (by decide)
                    first | (have o6_τ69 := congrArg oc g6_τ69) | skip
                    first | (have o7_τ69 := congrArg oc g7_τ69) | skip
                    have W0 : τ69.1 0 = σ.1 0 := by omega
                    have G6 : τ69.2.1 6 = σ.2.1 6 := (g6_τ69).trans G6
                    have G7 : τ69.2.1 7 = σ.2.1 7 := (g7_τ69).trans G7
                    have A6 : ∀ j, (-1) ≤ τ69.2.1 6 j ∧ τ69.2.1 6 j ≤ 999 := fun j => hT.2 6 j
                    have A7 : ∀ j, (-1) ≤ τ69.2.1 7 j ∧ τ69.2.1 7 j ≤ 1499 := fun j => hT.2 7 j
                    have A37 : ∀ j, 0 ≤ τ69.2.1 37 j ∧ τ69.2.1 37 j ≤ 999 := fun j => hT.2 37 j
                    have v0 : 0 ≤ τ69.1 0 ∧ τ69.1 0 ≤ 60000 := hT.1 0
                    have v14 : 0 ≤ τ69.1 14 ∧ τ69.1 14 ≤ 1000 := hT.1 14
                    have v16 : 0 ≤ τ69.1 16 ∧ τ69.1 16 ≤ 60000 := hT.1 16
                    have v17 : 0 ≤ τ69.1 17 ∧ τ69.1 17 ≤ 60000 := hT.1 17
                    have v18 : 0 ≤ τ69.1 18 ∧ τ69.1 18 ≤ 60000 := hT.1 18
                    have v19 : (-1) ≤ τ69.1 19 ∧ τ69.1 19 ≤ 125 := hT.1 19
                    have v20 : 0 ≤ τ69.1 20 ∧ τ69.1 20 ≤ 19 := hT.1 20
                    refine ⟨(⟨by (first | omega | (simp only [st_s] <;> omega) | assumption | omega), by (first | omega | (simp only [st_s] <;> omega) | assumption | omega)⟩ : rg (u1_192 + 1)), ?_⟩
                    exact ih_6 _ _ (show (3 * ((τ69.1 0) - (τ69.1 16)) + z_0 ((τ69.1 20)) + 1 - z_0 ((τ69.1 19)) : Int) < ((m_6 : Nat) : Int) from by (have zz0 := z_e ((τ69.1 20)); have zz1 := z_e ((τ69.1 19)); (first | omega | (simp only [st_s] <;> omega) | assumption | omega))) hT (show τ69.1 0 = σ.1 0 from by omega) G6 G7 (show (τ69.1 16) ≤ (τ69.1 0) from by (first | omega | (simp only [st_s] <;> omega) | assumption | omega)) (show (τ69.1 17) + (τ69.1 18) ≤ (τ69.1 0) from by (first | omega | (simp only [st_s] <;> omega) | assumption | omega)) (show oc (τ69.2.1 6) < 4096 from by (first | omega | (simp only [st_s] <;> omega) | assumption | omega)) (show oc (τ69.2.1 7) < 4096 from by (first | omega | (simp only [st_s] <;> omega) | assumption | omega)) (show ¬ (σ.1 20) = 0 → (τ69.1 20) = (σ.1 20) from by (first | omega | (simp only [st_s] <;> omega) | assumption | omega)) (show 0 ≤ (u1_192 + 1) from by (first | omega | (simp only [st_s] <;> omega) | assumption | omega)) (show j_in (u1_192 + 1) 1000 (τ69.2.1 37) from by (first | exact j_in0 _ _ | (rw [g37_τ69]; exact j_ins i192_7 (by omega) (by omega) (fun i h0 h1 => i192_16 (by omega) i h0 (by omega))) | (rw [g37_τ41]; assumption) | (rw [g37_τ48]; assumption) | (rw [g37_τ58]; assumption) | (rw [g37_τ73]; assumption) | assumption | (exfalso; omega))) (show (σ.1 16) ≤ (τ69.1 16) from by (first | omega | (simp only [st_s] <;> omega) | assumption | omega))
                ·
                  refine ⟨(show 0 ≤ u2_192 ∧ u2_192 < 1001 from by (first | omega | (simp only [st_s] <;> omega) | assumption | omega)), ?_⟩
                  intro x63 r_x63 e_x63
                  have b_x63 : 0 ≤ x63 ∧ x63 ≤ 1 := by rw [e_x63]; exact hT.2 8 _
                  refine ⟨fun c64 => ?_, fun c64 => ?_⟩
                  ·
                    refine h251 _ _ _ _ ?_
                    refine ⟨_, K_X13_failHere hT (show 0 ≤ 10 from by (first | omega | (simp only [st_s] <;> omega) | assumption | omega)) (show 10 ≤ 19 from by (first | omega | (simp only [st_s] <;> omega) | assumption | omega)), ?_⟩
                    intro τ73 hn_τ73 hf_τ73 hq
                    obtain ⟨hT, q71_1, q71_2⟩ := hq
                    replace q71_1 : ¬ (τ_192.1 20) = 0 → (τ73.1 20) = (τ_192.1 20) := q71_1
                    replace q71_2 : (τ_192.1 20) = 0 → (τ73.1 20) = 10 := q71_2
                    have w0_τ73 : τ73.1 0 = τ_192.1 0 := hf_τ73.1 0 (by decide)
                    have w14_τ73 : τ73.1 14 = τ_192.1 14 := hf_τ73.1 14 (by decide)
                    have w16_τ73 : τ73.1 16 = τ_192.1 16 := hf_τ73.1 16 (by decide)
                    have w17_τ73 : τ73.1 17 = τ_192.1 17 := hf_τ73.1 17 (by decide)
                    have w18_τ73 : τ73.1 18 = τ_192.1 18 := hf_τ73.1 18 (by decide)
                    have w19_τ73 : τ73.1 19 = τ_192.1 19 := hf_τ73.1 19 (by decide)
                    have g6_τ73 : τ73.2.1 6 = τ_192.2.1 6 := hf_τ73.2.1 6 (by decide)
                    have g7_τ73 : τ73.2.1 7 = τ_192.2.1 7 := hf_τ73.2.1 7 (by decide)
                    have g37_τ73 : τ73.2.1 37 = τ_192.2.1 37 := hf_τ73.2.1 37 (by decide)
                    first | (have o6_τ73 := congrArg oc g6_τ73) | skip
                    first | (have o7_τ73 := congrArg oc g7_τ73) | skip
                    have W0 : τ73.1 0 = σ.1 0 := by omega
                    have G6 : τ73.2.1 6 = σ.2.1 6 := (g6_τ73).trans G6
                    have G7 : τ73.2.1 7 = σ.2.1 7 := (g7_τ73).trans G7
                    have A6 : ∀ j, (-1) ≤ τ73.2.1 6 j ∧ τ73.2.1 6 j ≤ 999 := fun j => hT.2 6 j
                    have A7 : ∀ j, (-1) ≤ τ73.2.1 7 j ∧ τ73.2.1 7 j ≤ 1499 := fun j => hT.2 7 j
                    have A37 : ∀ j, 0 ≤ τ73.2.1 37 j ∧ τ73.2.1 37 j ≤ 999 := fun j => hT.2 37 j
                    have v0 : 0 ≤ τ73.1 0 ∧ τ73.1 0 ≤ 60000 := hT.1 0
                    have v14 : 0 ≤ τ73.1 14 ∧ τ73.1 14 ≤ 1000 := hT.1 14
                    have v16 : 0 ≤ τ73.1 16 ∧ τ73.1 16 ≤ 60000 := hT.1 16
                    have v17 : 0 ≤ τ73.1 17 ∧ τ73.1 17 ≤ 60000 := hT.1 17
                    have v18 : 0 ≤ τ73.1 18 ∧ τ73.1 18 ≤ 60000 := hT.1 18
                    have v19 : (-1) ≤ τ73.1 19 ∧ τ73.1 19 ≤ 125 := hT.1 19
                    have v20 : 0 ≤ τ73.1 20 ∧ τ73.1 20 ≤ 19 := hT.1 20
                    refine h254 _ _ _ ?_
                    refine ⟨fun c65 => ?_, fun c65 => ?_⟩
                    ·
                      exact ih_6 _ _ (show (3 * ((τ73.1 0) - (τ73.1 16)) + z_0 ((τ73.1 20)) + 1 - z_0 ((τ73.1 19)) : Int) < ((m_6 : Nat) : Int) from by (have zz0 := z_e ((τ73.1 20)); have zz1 := z_e ((τ73.1 19)); (first | omega | (simp only [st_s] <;> omega) | assumption | omega))) hT (show τ73.1 0 = σ.1 0 from by omega) G6 G7 (show (τ73.1 16) ≤ (τ73.1 0) from by (first | omega | (simp only [st_s] <;> omega) | assumption | omega)) (show (τ73.1 17) + (τ73.1 18) ≤ (τ73.1 0) from by (first | omega | (simp only [st_s] <;> omega) | assumption | omega)) (show oc (τ73.2.1 6) < 4096 from by (first | omega | (simp only [st_s] <;> omega) | assumption | omega)) (show oc (τ73.2.1 7) < 4096 from by (first | omega | (simp only [st_s] <;> omega) | assumption | omega)) (show ¬ (σ.1 20) = 0 → (τ73.1 20) = (σ.1 20) from by (first | omega | (simp only [st_s] <;> omega) | assumption | omega)) (show 0 ≤ u1_192 from by (first | omega | (simp only [st_s] <;> omega) | assumption | omega)) (show j_in u1_192 1000 (τ73.2.1 37) from by (first | exact j_in0 _ _ | (rw [g37_τ69]; exact j_ins i192_7 (by omega) (by omega) (fun i h0 h1 => i192_16 (by omega) i h0 (by omega))) | (rw [g37_τ41]; assumption) | (rw [g37_τ48]; assumption) | (rw [g37_τ58]; assumption) | (rw [g37_τ73]; assumption) | assumption | (exfalso; omega))) (show (σ.1 16) ≤ (τ73.1 16) from by (first | omega | (simp only [st_s] <;> omega) | assumption | omega))
                    ·
                      refine ⟨(show 0 ≤ u1_192 ∧ u1_192 < 1001 from by (first | omega | (simp only [st_s] <;> omega) | assumption | omega)), ?_⟩
                      replace hT := mT_a (k := 37) (j := u1_192) hT (show (0 : Int) ≤ u2_192 ∧ u2_192 ≤ 999 from by (first | omega | (simp only [st_s] <;> omega) | assumption | omega))
                      refine ⟨_, K_X13_next hT (show (τ73.1 16) ≤ (τ73.1 0) from by (first | omega | (simp only [st_s] <;> omega) | assumption | omega)), ?_⟩
                      intro τ69 hn_τ69 hf_τ69 hq
                      obtain ⟨hT, q67_1, q67_2, q67_3, q67_4, q67_5⟩ := hq
                      replace q67_1 : (τ69.1 16) ≤ (τ69.1 0) := q67_1
                      replace q67_2 : (τ69.1 17) + (τ69.1 18) ≤ (τ69.1 0) := q67_2
                      replace q67_3 : (τ73.1 16) ≤ (τ69.1 16) := q67_3
                      replace q67_4 : ¬ (τ73.1 20) = 0 → (τ69.1 20) = (τ73.1 20) := q67_4
                      replace q67_5 : (τ69.1 20) = 0 → ¬ (τ69.1 19) = 0 → (τ73.1 16) < (τ69.1 16) ∧ 0 < (τ69.1 18) := q67_5
                      have w0_τ69 : τ69.1 0 = τ73.1 0 := hf_τ69.1 0 (by decide)
                      have w14_τ69 : τ69.1 14 = τ73.1 14 := hf_τ69.1 14 (by decide)
                      have g6_τ69 : τ69.2.1 6 = τ73.2.1 6 := hf_τ69.2.1 6 (by decide)
                      have g7_τ69 : τ69.2.1 7 = τ73.2.1 7 := hf_τ69.2.1 7 (by decide)
                      have g37_τ69 : τ69.2.1 37 = (st (τ73.2.1 37) u1_192 u2_192) := hf_τ69.2.1 37 (by decide)
                      first | (have o6_τ69 := congrArg oc g6_τ69) | skip
                      first | (have o7_τ69 := congrArg oc g7_τ69) | skip
                      have W0 : τ69.1 0 = σ.1 0 := by omega
                      have G6 : τ69.2.1 6 = σ.2.1 6 := (g6_τ69).trans G6
                      have G7 : τ69.2.1 7 = σ.2.1 7 := (g7_τ69).trans G7
                      have A6 : ∀ j, (-1) ≤ τ69.2.1 6 j ∧ τ69.2.1 6 j ≤ 999 := fun j => hT.2 6 j
                      have A7 : ∀ j, (-1) ≤ τ69.2.1 7 j ∧ τ69.2.1 7 j ≤ 1499 := fun j => hT.2 7 j
                      have A37 : ∀ j, 0 ≤ τ69.2.1 37 j ∧ τ69.2.1 37 j ≤ 999 := fun j => hT.2 37 j
                      have v0 : 0 ≤ τ69.1 0 ∧ τ69.1 0 ≤ 60000 := hT.1 0
                      have v14 : 0 ≤ τ69.1 14 ∧ τ69.1 14 ≤ 1000 := hT.1 14
                      have v16 : 0 ≤ τ69.1 16 ∧ τ69.1 16 ≤ 60000 := hT.1 16
                      have v17 : 0 ≤ τ69.1 17 ∧ τ69.1 17 ≤ 60000 := hT.1 17
                      have v18 : 0 ≤ τ69.1 18 ∧ τ69.1 18 ≤ 60000 := hT.1 18
                      have v19 : (-1) ≤ τ69.1 19 ∧ τ69.1 19 ≤ 125 := hT.1 19
                      have v20 : 0 ≤ τ69.1 20 ∧ τ69.1 20 ≤ 19 := hT.1 20
                      refine ⟨(⟨by (first | omega | (simp only [st_s] <;> omega) | assumption | omega), by (first | omega | (simp only [st_s] <;> omega) | assumption | omega)⟩ : rg (u1_192 + 1)), ?_⟩
                      exact ih_6 _ _ (show (3 * ((τ69.1 0) - (τ69.1 16)) + z_0 ((τ69.1 20)) + 1 - z_0 ((τ69.1 19)) : Int) < ((m_6 : Nat) : Int) from by (have zz0 := z_e ((τ69.1 20)); have zz1 := z_e ((τ69.1 19)); (first | omega | (simp only [st_s] <;> omega) | assumption | omega))) hT (show τ69.1 0 = σ.1 0 from by omega) G6 G7 (show (τ69.1 16) ≤ (τ69.1 0) from by (first | omega | (simp only [st_s] <;> omega) | assumption | omega)) (show (τ69.1 17) + (τ69.1 18) ≤ (τ69.1 0) from by (first | omega | (simp only [st_s] <;> omega) | assumption | omega)) (show oc (τ69.2.1 6) < 4096 from by (first | omega | (simp only [st_s] <;> omega) | assumption | omega)) (show oc (τ69.2.1 7) < 4096 from by (first | omega | (simp only [st_s] <;> omega) | assumption | omega)) (show ¬ (σ.1 20) = 0 → (τ69.1 20) = (σ.1 20) from by (first | omega | (simp only [st_s] <;> omega) | assumption | omega)) (show 0 ≤ (u1_192 + 1) from by (first | omega | (simp only [st_s] <;> omega) | assumption | omega)) (show j_in (u1_192 + 1) 1000 (τ69.2.1 37) from by (first | exact j_in0 _ _ | (rw [g37_τ69]; exact j_ins i192_7 (by omega) (by omega) (fun i h0 h1 => i192_16 (by omega) i h0 (by omega))) | (rw [g37_τ41]; assumption) | (rw [g37_τ48]; assumption) | (rw [g37_τ58]; assumption) | (rw [g37_τ73]; assumption) | assumption | (exfalso; omega))) (show (σ.1 16) ≤ (τ69.1 16) from by (first | omega | (simp only [st_s] <;> omega) | assumption | omega))
                  ·
                    refine h251 _ _ _ _ ?_
                    refine ⟨_, K_X13_failHere hT (show 0 ≤ 9 from by (first | omega | (simp only [st_s] <;> omega) | assumption | omega)) (show 9 ≤ 19 from by (first | omega | (simp only [st_s] <;> omega) | assumption | omega)), ?_⟩
                    intro τ73 hn_τ73 hf_τ73 hq
                    obtain ⟨hT, q71_1, q71_2⟩ := hq
                    replace q71_1 : ¬ (τ_192.1 20) = 0 → (τ73.1 20) = (τ_192.1 20) := q71_1
                    replace q71_2 : (τ_192.1 20) = 0 → (τ73.1 20) = 9 := q71_2
                    have w0_τ73 : τ73.1 0 = τ_192.1 0 := hf_τ73.1 0 (by decide)
                    have w14_τ73 : τ73.1 14 = τ_192.1 14 := hf_τ73.1 14 (by decide)
                    have w16_τ73 : τ73.1 16 = τ_192.1 16 := hf_τ73.1 16 (by decide)
                    have w17_τ73 : τ73.1 17 = τ_192.1 17 := hf_τ73.1 17 (by decide)
                    have w18_τ73 : τ73.1 18 = τ_192.1 18 := hf_τ73.1 18 (by decide)
                    have w19_τ73 : τ73.1 19 = τ_192.1 19 := hf_τ73.1 19 (by decide)
                    have g6_τ73 : τ73.2.1 6 = τ_192.2.1 6 := hf_τ73.2.1 6 (by decide)
                    have g7_τ73 : τ73.2.1 7 = τ_192.2.1 7 := hf_τ73.2.1 7 (by decide)
                    have g37_τ73 : τ73.2.1 37 = τ_192.2.1 37 := hf_τ73.2.1 37 (by decide)
                    first | (have o6_τ73 := congrArg oc g6_τ73) | skip
                    first | (have o7_τ73 := congrArg oc g7_τ73) | skip
                    have W0 : τ73.1 0 = σ.1 0 := by omega
                    have G6 : τ73.2.1 6 = σ.2.1 6 := (g6_τ73).trans G6
                    have G7 : τ73.2.1 7 = σ.2.1 7 := (g7_τ73).trans G7
                    have A6 : ∀ j, (-1) ≤ τ73.2.1 6 j ∧ τ73.2.1 6 j ≤ 999 := fun j => hT.2 6 j
                    have A7 : ∀ j, (-1) ≤ τ73.2.1 7 j ∧ τ73.2.1 7 j ≤ 1499 := fun j => hT.2 7 j
                    have A37 : ∀ j, 0 ≤ τ73.2.1 37 j ∧ τ73.2.1 37 j ≤ 999 := fun j => hT.2 37 j
                    have v0 : 0 ≤ τ73.1 0 ∧ τ73.1 0 ≤ 60000 := hT.1 0
                    have v14 : 0 ≤ τ73.1 14 ∧ τ73.1 14 ≤ 1000 := hT.1 14
                    have v16 : 0 ≤ τ73.1 16 ∧ τ73.1 16 ≤ 60000 := hT.1 16
                    have v17 : 0 ≤ τ73.1 17 ∧ τ73.1 17 ≤ 60000 := hT.1 17
                    have v18 : 0 ≤ τ73.1 18 ∧ τ73.1 18 ≤ 60000 := hT.1 18
                    have v19 : (-1) ≤ τ73.1 19 ∧ τ73.1 19 ≤ 125 := hT.1 19
                    have v20 : 0 ≤ τ73.1 20 ∧ τ73.1 20 ≤ 19 := hT.1 20
                    refine h254 _ _ _ ?_
                    refine ⟨fun c65 => ?_, fun c65 => ?_⟩
                    ·
                      exact ih_6 _ _ (show (3 * ((τ73.1 0) - (τ73.1 16)) + z_0 ((τ73.1 20)) + 1 - z_0 ((τ73.1 19)) : Int) < ((m_6 : Nat) : Int) from by (have zz0 := z_e ((τ73.1 20)); have zz1 := z_e ((τ73.1 19)); (first | omega | (simp only [st_s] <;> omega) | assumption | omega))) hT (show τ73.1 0 = σ.1 0 from by omega) G6 G7 (show (τ73.1 16) ≤ (τ73.1 0) from by (first | omega | (simp only [st_s] <;> omega) | assumption | omega)) (show (τ73.1 17) + (τ73.1 18) ≤ (τ73.1 0) from by (first | omega | (simp only [st_s] <;> omega) | assumption | omega)) (show oc (τ73.2.1 6) < 4096 from by (first | omega | (simp only [st_s] <;> omega) | assumption | omega)) (show oc (τ73.2.1 7) < 4096 from by (first | omega | (simp only [st_s] <;> omega) | assumption | omega)) (show ¬ (σ.1 20) = 0 → (τ73.1 20) = (σ.1 20) from by (first | omega | (simp only [st_s] <;> omega) | assumption | omega)) (show 0 ≤ u1_192 from by (first | omega | (simp only [st_s] <;> omega) | assumption | omega)) (show j_in u1_192 1000 (τ73.2.1 37) from by (first | exact j_in0 _ _ | (rw [g37_τ69]; exact j_ins i192_7 (by omega) (by omega) (fun i h0 h1 => i192_16 (by omega) i h0 (by omega))) | (rw [g37_τ41]; assumption) | (rw [g37_τ48]; assumption) | (rw [g37_τ58]; assumption) | (rw [g37_τ73]; assumption) | assumption | (exfalso; omega))) (show (σ.1 16) ≤ (τ73.1 16) from by (first | omega | (simp only [st_s] <;> omega) | assumption | omega))
                    ·
                      refine ⟨(show 0 ≤ u1_192 ∧ u1_192 < 1001 from by (first | omega | (simp only [st_s] <;> omega) | assumption | omega)), ?_⟩
                      replace hT := mT_a (k := 37) (j := u1_192) hT (show (0 : Int) ≤ u2_192 ∧ u2_192 ≤ 999 from by (first | omega | (simp only [st_s] <;> omega) | assumption | omega))
                      refine ⟨_, K_X13_next hT (show (τ73.1 16) ≤ (τ73.1 0) from by (first | omega | (simp only [st_s] <;> omega) | assumption | omega)), ?_⟩
                      intro τ69 hn_τ69 hf_τ69 hq
                      obtain ⟨hT, q67_1, q67_2, q67_3, q67_4, q67_5⟩ := hq
                      replace q67_1 : (τ69.1 16) ≤ (τ69.1 0) := q67_1
                      replace q67_2 : (τ69.1 17) + (τ69.1 18) ≤ (τ69.1 0) := q67_2
                      replace q67_3 : (τ73.1 16) ≤ (τ69.1 16) := q67_3
                      replace q67_4 : ¬ (τ73.1 20) = 0 → (τ69.1 20) = (τ73.1 20) := q67_4
                      replace q67_5 : (τ69.1 20) = 0 → ¬ (τ69.1 19) = 0 → (τ73.1 16) < (τ69.1 16) ∧ 0 < (τ69.1 18) := q67_5
                      have w0_τ69 : τ69.1 0 = τ73.1 0 := hf_τ69.1 0 (by decide)
                      have w14_τ69 : τ69.1 14 = τ73.1 14 := hf_τ69.1 14 (by decide)
                      have g6_τ69 : τ69.2.1 6 = τ73.2.1 6 := hf_τ69.2.1 6 (by decide)
                      have g7_τ69 : τ69.2.1 7 = τ73.2.1 7 := hf_τ69.2.1 7 (by decide)
                      have g37_τ69 : τ69.2.1 37 = (st (τ73.2.1 37) u1_192 u2_192) := hf_τ69.2.1 37 (by decide)
                      first | (have o6_τ69 := congrArg oc g6_τ69) | skip
                      first | (have o7_τ69 := congrArg oc g7_τ69) | skip
                      have W0 : τ69.1 0 = σ.1 0 := by omega
                      have G6 : τ69.2.1 6 = σ.2.1 6 := (g6_τ69).trans G6
                      have G7 : τ69.2.1 7 = σ.2.1 7 := (g7_τ69).trans G7
                      have A6 : ∀ j, (-1) ≤ τ69.2.1 6 j ∧ τ69.2.1 6 j ≤ 999 := fun j => hT.2 6 j
                      have A7 : ∀ j, (-1) ≤ τ69.2.1 7 j ∧ τ69.2.1 7 j ≤ 1499 := fun j => hT.2 7 j
                      have A37 : ∀ j, 0 ≤ τ69.2.1 37 j ∧ τ69.2.1 37 j ≤ 999 := fun j => hT.2 37 j
                      have v0 : 0 ≤ τ69.1 0 ∧ τ69.1 0 ≤ 60000 := hT.1 0
                      have v14 : 0 ≤ τ69.1 14 ∧ τ69.1 14 ≤ 1000 := hT.1 14
                      have v16 : 0 ≤ τ69.1 16 ∧ τ69.1 16 ≤ 60000 := hT.1 16
                      have v17 : 0 ≤ τ69.1 17 ∧ τ69.1 17 ≤ 60000 := hT.1 17
                      have v18 : 0 ≤ τ69.1 18 ∧ τ69.1 18 ≤ 60000 := hT.1 18
                      have v19 : (-1) ≤ τ69.1 19 ∧ τ69.1 19 ≤ 125 := hT.1 19
                      have v20 : 0 ≤ τ69.1 20 ∧ τ69.1 20 ≤ 19 := hT.1 20
                      refine ⟨(⟨by (first | omega | (simp only [st_s] <;> omega) | assumption | omega), by (first | omega | (simp only [st_s] <;> omega) | assumption | omega)⟩ : rg (u1_192 + 1)), ?_⟩
                      exact ih_6 _ _ (show (3 * ((τ69.1 0) - (τ69.1 16)) + z_0 ((τ69.1 20)) + 1 - z_0 ((τ69.1 19)) : Int) < ((m_6 : Nat) : Int) from by (have zz0 := z_e ((τ69.1 20)); have zz1 := z_e ((τ69.1 19)); (first | omega | (simp only [st_s] <;> omega) | assumption | omega))) hT (show τ69.1 0 = σ.1 0 from by omega) G6 G7 (show (τ69.1 16) ≤ (τ69.1 0) from by (first | omega | (simp only [st_s] <;> omega) | assumption | omega)) (show (τ69.1 17) + (τ69.1 18) ≤ (τ69.1 0) from by (first | omega | (simp only [st_s] <;> omega) | assumption | omega)) (show oc (τ69.2.1 6) < 4096 from by (first | omega | (simp only [st_s] <;> omega) | assumption | omega)) (show oc (τ69.2.1 7) < 4096 from by (first | omega | (simp only [st_s] <;> omega) | assumption | omega)) (show ¬ (σ.1 20) = 0 → (τ69.1 20) = (σ.1 20) from by (first | omega | (simp only [st_s] <;> omega) | assumption | omega)) (show 0 ≤ (u1_192 + 1) from by (first | omega | (simp only [st_s] <;> omega) | assumption | omega)) (show j_in (u1_192 + 1) 1000 (τ69.2.1 37) from by (first | exact j_in0 _ _ | (rw [g37_τ69]; exact j_ins i192_7 (by omega) (by omega) (fun i h0 h1 => i192_16 (by omega) i h0 (by omega))) | (rw [g37_τ41]; assumption) | (rw [g37_τ48]; assumption) | (rw [g37_τ58]; assumption) | (rw [g37_τ73]; assumption) | assumption | (exfalso; omega))) (show (σ.1 16) ≤ (τ69.1 16) from by (first | omega | (simp only [st_s] <;> omega) | assumption | omega))
            ·
              refine ⟨(show 0 ≤ u4_192 ∧ u4_192 < 1001 from by (first | omega | (simp only [st_s] <;> omega) | assumption | omega)), ?_⟩
              intro x53 r_x53 e_x53
              have b_x53 : 0 ≤ x53 ∧ x53 ≤ 999 := by rw [e_x53]; exact hT.2 37 _
              refine ⟨fun c54 => ?_, fun c54 => ?_⟩
              ·
                refine ⟨(⟨by (first | omega | (simp only [st_s] <;> omega) | assumption | omega), by (first | omega | (simp only [st_s] <;> omega) | assumption | omega)⟩ : rg (u4_192 + 1)), ?_⟩
                exact ih_192 _ _ _ _ _ (show (1001 - (u4_192 + 1) : Int) < ((m_192 : Nat) : Int) from by ((first | omega | (simp only [st_s] <;> omega) | assumption | omega))) hT (show τ_192.1 0 = σ.1 0 from by omega) G6 G7 (show (τ_192.1 16) ≤ (τ_192.1 0) from by (first | omega | (simp only [st_s] <;> omega) | assumption | omega)) (show (τ_192.1 17) + (τ_192.1 18) ≤ (τ_192.1 0) from by (first | omega | (simp only [st_s] <;> omega) | assumption | omega)) (show oc (τ_192.2.1 6) < 4096 from by (first | omega | (simp only [st_s] <;> omega) | assumption | omega)) (show oc (τ_192.2.1 7) < 4096 from by (first | omega | (simp only [st_s] <;> omega) | assumption | omega)) (show 0 ≤ u1_192 from by (first | omega | (simp only [st_s] <;> omega) | assumption | omega)) (show u1_192 ≤ 1000 from by (first | omega | (simp only [st_s] <;> omega) | assumption | omega)) (show j_in u1_192 1000 (τ_192.2.1 37) from by (first | assumption | (rw [g37_τ41]; assumption) | (rw [g37_τ48]; assumption) | (rw [g37_τ58]; assumption) | (rw [g37_τ73]; assumption))) (show -1 ≤ u2_192 from by (first | omega | (simp only [st_s] <;> omega) | assumption | omega)) (show u2_192 ≤ 999 from by (first | omega | (simp only [st_s] <;> omega) | assumption | omega)) (show ¬ u3_192 = 0 → 0 ≤ u2_192 from by (first | omega | (simp only [st_s] <;> omega) | assumption | omega)) (show 0 ≤ (u4_192 + 1) from by (first | omega | (simp only [st_s] <;> omega) | assumption | omega)) (show (u4_192 + 1) ≤ u1_192 from by (first | omega | (simp only [st_s] <;> omega) | assumption | omega)) (show (τ_192.1 19) = 1 from by (first | omega | (simp only [st_s] <;> omega) | assumption | omega)) (show ¬ (σ.1 20) = 0 → (τ_192.1 20) = (σ.1 20) from by (first | omega | (simp only [st_s] <;> omega) | assumption | omega)) (show 3 * ((τ_192.1 0) - (τ_192.1 16)) + 2 ≤ (m_6 : Int) from by (first | omega | (simp only [st_s] <;> omega) | assumption | omega)) (show (τ_192.1 20) = 0 → ∀ k : Int, 0 ≤ k → k < (u4_192 + 1) → ¬ τ_192.2.1 37 k = u2_192 from by (intro hf k k0 k1; first | (exfalso; omega) | (by_cases kk : k = u4_192; (rw [kk, ← e_x53]; exact c54); exact i192_16 hf k k0 (by omega)))) (show (σ.1 16) ≤ (τ_192.1 16) from by (first | omega | (simp only [st_s] <;> omega) | assumption | omega))
              ·
                refine ⟨_, K_X13_failHere hT (show 0 ≤ 7 from by (first | omega | (simp only [st_s] <;> omega) | assumption | omega)) (show 7 ≤ 19 from by (first | omega | (simp only [st_s] <;> omega) | assumption | omega)), ?_⟩
                intro τ58 hn_τ58 hf_τ58 hq
                obtain ⟨hT, q56_1, q56_2⟩ := hq
                replace q56_1 : ¬ (τ_192.1 20) = 0 → (τ58.1 20) = (τ_192.1 20) := q56_1
                replace q56_2 : (τ_192.1 20) = 0 → (τ58.1 20) = 7 := q56_2
                have w0_τ58 : τ58.1 0 = τ_192.1 0 := hf_τ58.1 0 (by decide)
                have w14_τ58 : τ58.1 14 = τ_192.1 14 := hf_τ58.1 14 (by decide)
                have w16_τ58 : τ58.1 16 = τ_192.1 16 := hf_τ58.1 16 (by decide)
                have w17_τ58 : τ58.1 17 = τ_192.1 17 := hf_τ58.1 17 (by decide)
                have w18_τ58 : τ58.1 18 = τ_192.1 18 := hf_τ58.1 18 (by decide)
                have w19_τ58 : τ58.1 19 = τ_192.1 19 := hf_τ58.1 19 (by decide)
                have g6_τ58 : τ58.2.1 6 = τ_192.2.1 6 := hf_τ58.2.1 6 (by decide)
                have g7_τ58 : τ58.2.1 7 = τ_192.2.1 7 := hf_τ58.2.1 7 (by decide)
                have g37_τ58 : τ58.2.1 37 = τ_192.2.1 37 := hf_τ58.2.1 37 (by decide)
                first | (have o6_τ58 := congrArg oc g6_τ58) | skip
                first | (have o7_τ58 := congrArg oc g7_τ58) | skip
                have W0 : τ58.1 0 = σ.1 0 := by omega
                have G6 : τ58.2.1 6 = σ.2.1 6 := (g6_τ58).trans G6
                have G7 : τ58.2.1 7 = σ.2.1 7 := (g7_τ58).trans G7
                have A6 : ∀ j, (-1) ≤ τ58.2.1 6 j ∧ τ58.2.1 6 j ≤ 999 := fun j => hT.2 6 j
                have A7 : ∀ j, (-1) ≤ τ58.2.1 7 j ∧ τ58.2.1 7 j ≤ 1499 := fun j => hT.2 7 j
                have A37 : ∀ j, 0 ≤ τ58.2.1 37 j ∧ τ58.2.1 37 j ≤ 999 := fun j => hT.2 37 j
                have v0 : 0 ≤ τ58.1 0 ∧ τ58.1 0 ≤ 60000 := hT.1 0
                have v14 : 0 ≤ τ58.1 14 ∧ τ58.1 14 ≤ 1000 := hT.1 14
                have v16 : 0 ≤ τ58.1 16 ∧ τ58.1 16 ≤ 60000 := hT.1 16
                have v17 : 0 ≤ τ58.1 17 ∧ τ58.1 17 ≤ 60000 := hT.1 17
                have v18 : 0 ≤ τ58.1 18 ∧ τ58.1 18 ≤ 60000 := hT.1 18
                have v19 : (-1) ≤ τ58.1 19 ∧ τ58.1 19 ≤ 125 := hT.1 19
                have v20 : 0 ≤ τ58.1 20 ∧ τ58.1 20 ≤ 19 := hT.1 20
                refine ⟨(⟨by (first | omega | (simp only [st_s] <;> omega) | assumption | omega), by (first | omega | (simp only [st_s] <;> omega) | assumption | omega)⟩ : rg (u4_192 + 1)), ?_⟩
                exact ih_192 _ _ _ _ _ (show (1001 - (u4_192 + 1) : Int) < ((m_192 : Nat) : Int) from by ((first | omega | (simp only [st_s] <;> omega) | assumption | omega))) hT (show τ58.1 0 = σ.1 0 from by omega) G6 G7 (show (τ58.1 16) ≤ (τ58.1 0) from by (first | omega | (simp only [st_s] <;> omega) | assumption | omega)) (show (τ58.1 17) + (τ58.1 18) ≤ (τ58.1 0) from by (first | omega | (simp only [st_s] <;> omega) | assumption | omega)) (show oc (τ58.2.1 6) < 4096 from by (first | omega | (simp only [st_s] <;> omega) | assumption | omega)) (show oc (τ58.2.1 7) < 4096 from by (first | omega | (simp only [st_s] <;> omega) | assumption | omega)) (show 0 ≤ u1_192 from by (first | omega | (simp only [st_s] <;> omega) | assumption | omega)) (show u1_192 ≤ 1000 from by (first | omega | (simp only [st_s] <;> omega) | assumption | omega)) (show j_in u1_192 1000 (τ58.2.1 37) from by (first | assumption | (rw [g37_τ41]; assumption) | (rw [g37_τ48]; assumption) | (rw [g37_τ58]; assumption) | (rw [g37_τ73]; assumption))) (show -1 ≤ u2_192 from by (first | omega | (simp only [st_s] <;> omega) | assumption | omega)) (show u2_192 ≤ 999 from by (first | omega | (simp only [st_s] <;> omega) | assumption | omega)) (show ¬ u3_192 = 0 → 0 ≤ u2_192 from by (first | omega | (simp only [st_s] <;> omega) | assumption | omega)) (show 0 ≤ (u4_192 + 1) from by (first | omega | (simp only [st_s] <;> omega) | assumption | omega)) (show (u4_192 + 1) ≤ u1_192 from by (first | omega | (simp only [st_s] <;> omega) | assumption | omega)) (show (τ58.1 19) = 1 from by (first | omega | (simp only [st_s] <;> omega) | assumption | omega)) (show ¬ (σ.1 20) = 0 → (τ58.1 20) = (σ.1 20) from by (first | omega | (simp only [st_s] <;> omega) | assumption | omega)) (show 3 * ((τ58.1 0) - (τ58.1 16)) + 2 ≤ (m_6 : Int) from by (first | omega | (simp only [st_s] <;> omega) | assumption | omega)) (show (τ58.1 20) = 0 → ∀ k : Int, 0 ≤ k → k < (u4_192 + 1) → ¬ τ58.2.1 37 k = u2_192 from by (intro hf k k0 k1; first | (exfalso; omega) | (by_cases kk : k = u4_192; (rw [kk, ← e_x53]; exact c54); exact i192_16 hf k k0 (by omega)))) (show (σ.1 16) ≤ (τ58.1 16) from by (first | omega | (simp only [st_s] <;> omega) | assumption | omega))
      have l_73 : ∀ (m_73 : Nat) (u1_73 : Int) (u2_73 : Int) (u3_73 : Int) (u4_73 : Int) (τ_73 : S0), 1001 - u4_73 < (m_73 : Int) → (m_T τ_73) → (τ_73.1 0 = σ.1 0) → (τ_73.2.1 6 = σ.2.1 6) → (τ_73.2.1 7 = σ.2.1 7) → ((τ_73.1 16) ≤ (τ_73.1 0)) → ((τ_73.1 17) + (τ_73.1 18) ≤ (τ_73.1 0)) → (oc (τ_73.2.1 6) < 4096) → (oc (τ_73.2.1 7) < 4096) → (0 ≤ u1_73) → (u1_73 ≤ 1000) → (j_in u1_73 1000 (τ_73.2.1 37)) → (-1 ≤ u2_73) → (u2_73 ≤ 999) → (¬ u3_73 = 0 → 0 ≤ u2_73) → (0 ≤ u4_73) → (u4_73 ≤ u1_73) → ((τ_73.1 19) = 1) → (¬ (σ.1 20) = 0 → (τ_73.1 20) = (σ.1 20)) → (3 * ((τ_73.1 0) - (τ_73.1 16)) + 2 ≤ (m_6 : Int)) → ((σ.1 16) ≤ (τ_73.1 16)) → P73 u1_73 u2_73 u3_73 u4_73 τ_73 := by
        intro m_73
        induction m_73 with
        | zero =>
          intro u1_73 u2_73 u3_73 u4_73 τ_73 hm hT W0 G6 G7 i73_1 i73_2 i73_3 i73_4 i73_5 i73_6 i73_7 i73_8 i73_9 i73_10 i73_11 i73_12 i73_13 i73_14 i73_15 i73_16
          have A6 : ∀ j, (-1) ≤ τ_73.2.1 6 j ∧ τ_73.2.1 6 j ≤ 999 := fun j => hT.2 6 j
          have A7 : ∀ j, (-1) ≤ τ_73.2.1 7 j ∧ τ_73.2.1 7 j ≤ 1499 := fun j => hT.2 7 j
          have A37 : ∀ j, 0 ≤ τ_73.2.1 37 j ∧ τ_73.2.1 37 j ≤ 999 := fun j => hT.2 37 j
          have v0 : 0 ≤ τ_73.1 0 ∧ τ_73.1 0 ≤ 60000 := hT.1 0
          have v14 : 0 ≤ τ_73.1 14 ∧ τ_73.1 14 ≤ 1000 := hT.1 14
          have v16 : 0 ≤ τ_73.1 16 ∧ τ_73.1 16 ≤ 60000 := hT.1 16
          have v17 : 0 ≤ τ_73.1 17 ∧ τ_73.1 17 ≤ 60000 := hT.1 17
          have v18 : 0 ≤ τ_73.1 18 ∧ τ_73.1 18 ≤ 60000 := hT.1 18
          have v19 : (-1) ≤ τ_73.1 19 ∧ τ_73.1 19 ≤ 125 := hT.1 19
          have v20 : 0 ≤ τ_73.1 20 ∧ τ_73.1 20 ≤ 19 := hT.1 20
          exfalso; (first | omega | (simp only [st_s] <;> omega) | assumption | omega)
        | succ m_73 ih_73 =>
          intro u1_73 u2_73 u3_73 u4_73 τ_73 hm_73 hT W0 G6 G7 i73_1 i73_2 i73_3 i73_4 i73_5 i73_6 i73_7 i73_8 i73_9 i73_10 i73_11 i73_12 i73_13 i73_14 i73_15 i73_16
          have A6 : ∀ j, (-1) ≤ τ_73.2.1 6 j ∧ τ_73.2.1 6 j ≤ 999 := fun j => hT.2 6 j
          have A7 : ∀ j, (-1) ≤ τ_73.2.1 7 j ∧ τ_73.2.1 7 j ≤ 1499 := fun j => hT.2 7 j
          have A37 : ∀ j, 0 ≤ τ_73.2.1 37 j ∧ τ_73.2.1 37 j ≤ 999 := fun j => hT.2 37 j
          have v0 : 0 ≤ τ_73.1 0 ∧ τ_73.1 0 ≤ 60000 := hT.1 0
          have v14 : 0 ≤ τ_73.1 14 ∧ τ_73.1 14 ≤ 1000 := hT.1 14
          have v16 : 0 ≤ τ_73.1 16 ∧ τ_73.1 16 ≤ 60000 := hT.1 16
          have v17 : 0 ≤ τ_73.1 17 ∧ τ_73.1 17 ≤ 60000 := hT.1 17
          have v18 : 0 ≤ τ_73.1 18 ∧ τ_73.1 18 ≤ 60000 := hT.1 18
          have v19 : (-1) ≤ τ_73.1 19 ∧ τ_73.1 19 ≤ 125 := hT.1 19
          have v20 : 0 ≤ τ_73.1 20 ∧ τ_73.1 20 ≤ 19 := hT.1 20
          have o6_τ_73 := congrArg oc G6
          have o7_τ_73 := congrArg oc G7
          refine h73 u1_73 u2_73 u3_73 u4_73 τ_73 ?_
          refine ⟨fun c24 => ?_, fun c24 => ?_⟩
          ·
            exact l_192 ((1001 - 0 : Int).toNat + 1) _ _ _ _ _ (show (1001 - 0 : Int) < (((1001 - 0 : Int).toNat + 1 : Nat) : Int) from by ((first | omega | (simp only [st_s] <;> omega) | assumption | omega))) hT (show τ_73.1 0 = σ.1 0 from by omega) G6 G7 (show (τ_73.1 16) ≤ (τ_73.1 0) from by (first | omega | (simp only [st_s] <;> omega) | assumption | omega)) (show (τ_73.1 17) + (τ_73.1 18) ≤ (τ_73.1 0) from by (first | omega | (simp only [st_s] <;> omega) | assumption | omega)) (show oc (τ_73.2.1 6) < 4096 from by (first | omega | (simp only [st_s] <;> omega) | assumption | omega)) (show oc (τ_73.2.1 7) < 4096 from by (first | omega | (simp only [st_s] <;> omega) | assumption | omega)) (show 0 ≤ u1_73 from by (first | omega | (simp only [st_s] <;> omega) | assumption | omega)) (show u1_73 ≤ 1000 from by (first | omega | (simp only [st_s] <;> omega) | assumption | omega)) (show j_in u1_73 1000 (τ_73.2.1 37) from by (first | assumption | (rw [g37_τ41]; assumption) | (rw [g37_τ48]; assumption) | (rw [g37_τ58]; assumption) | (rw [g37_τ73]; assumption))) (show -1 ≤ u2_73 from by (first | omega | (simp only [st_s] <;> omega) | assumption | omega)) (show u2_73 ≤ 999 from by (first | omega | (simp only [st_s] <;> omega) | assumption | omega)) (show ¬ u3_73 = 0 → 0 ≤ u2_73 from by (first | omega | (simp only [st_s] <;> omega) | assumption | omega)) (show 0 ≤ 0 from by (first | omega | (simp only [st_s] <;> omega) | assumption | omega)) (show 0 ≤ u1_73 from by (first | omega | (simp only [st_s] <;> omega) | assumption | omega)) (show (τ_73.1 19) = 1 from by (first | omega | (simp only [st_s] <;> omega) | assumption | omega)) (show ¬ (σ.1 20) = 0 → (τ_73.1 20) = (σ.1 20) from by (first | omega | (simp only [st_s] <;> omega) | assumption | omega)) (show 3 * ((τ_73.1 0) - (τ_73.1 16)) + 2 ≤ (m_6 : Int) from by (first | omega | (simp only [st_s] <;> omega) | assumption | omega)) (show (τ_73.1 20) = 0 → ∀ k : Int, 0 ≤ k → k < 0 → ¬ τ_73.2.1 37 k = u2_73 from by (intro hf k k0 k1; first | (exfalso; omega) | (by_cases kk : k = u4_192; (rw [kk, ← e_x53]; exact c54); exact i192_16 hf k k0 (by omega)))) (show (σ.1 16) ≤ (τ_73.1 16) from by (first | omega | (simp only [st_s] <;> omega) | assumption | omega))
          ·
            refine ⟨fun c25 => ?_, fun c25 => ?_⟩
            ·
              exact l_192 ((1001 - 0 : Int).toNat + 1) _ _ _ _ _ (show (1001 - 0 : Int) < (((1001 - 0 : Int).toNat + 1 : Nat) : Int) from by ((first | omega | (simp only [st_s] <;> omega) | assumption | omega))) hT (show τ_73.1 0 = σ.1 0 from by omega) G6 G7 (show (τ_73.1 16) ≤ (τ_73.1 0) from by (first | omega | (simp only [st_s] <;> omega) | assumption | omega)) (show (τ_73.1 17) + (τ_73.1 18) ≤ (τ_73.1 0) from by (first | omega | (simp only [st_s] <;> omega) | assumption | omega)) (show oc (τ_73.2.1 6) < 4096 from by (first | omega | (simp only [st_s] <;> omega) | assumption | omega)) (show oc (τ_73.2.1 7) < 4096 from by (first | omega | (simp only [st_s] <;> omega) | assumption | omega)) (show 0 ≤ u1_73 from by (first | omega | (simp only [st_s] <;> omega) | assumption | omega)) (show u1_73 ≤ 1000 from by (first | omega | (simp only [st_s] <;> omega) | assumption | omega)) (show j_in u1_73 1000 (τ_73.2.1 37) from by (first | assumption | (rw [g37_τ41]; assumption) | (rw [g37_τ48]; assumption) | (rw [g37_τ58]; assumption) | (rw [g37_τ73]; assumption))) (show -1 ≤ u2_73 from by (first | omega | (simp only [st_s] <;> omega) | assumption | omega)) (show u2_73 ≤ 999 from by (first | omega | (simp only [st_s] <;> omega) | assumption | omega)) (show ¬ u3_73 = 0 → 0 ≤ u2_73 from by (first | omega | (simp only [st_s] <;> omega) | assumption | omega)) (show 0 ≤ 0 from by (first | omega | (simp only [st_s] <;> omega) | assumption | omega)) (show 0 ≤ u1_73 from by (first | omega | (simp only [st_s] <;> omega) | assumption | omega)) (show (τ_73.1 19) = 1 from by (first | omega | (simp only [st_s] <;> omega) | assumption | omega)) (show ¬ (σ.1 20) = 0 → (τ_73.1 20) = (σ.1 20) from by (first | omega | (simp only [st_s] <;> omega) | assumption | omega)) (show 3 * ((τ_73.1 0) - (τ_73.1 16)) + 2 ≤ (m_6 : Int) from by (first | omega | (simp only [st_s] <;> omega) | assumption | omega)) (show (τ_73.1 20) = 0 → ∀ k : Int, 0 ≤ k → k < 0 → ¬ τ_73.2.1 37 k = u2_73 from by (intro hf k k0 k1; first | (exfalso; omega) | (by_cases kk : k = u4_192; (rw [kk, ← e_x53]; exact c54); exact i192_16 hf k k0 (by omega)))) (show (σ.1 16) ≤ (τ_73.1 16) from by (first | omega | (simp only [st_s] <;> omega) | assumption | omega))
            ·
              refine ⟨fun c26 => ?_, fun c26 => ?_⟩
              ·
                exact l_192 ((1001 - 0 : Int).toNat + 1) _ _ _ _ _ (show (1001 - 0 : Int) < (((1001 - 0 : Int).toNat + 1 : Nat) : Int) from by ((first | omega | (simp only [st_s] <;> omega) | assumption | omega))) hT (show τ_73.1 0 = σ.1 0 from by omega) G6 G7 (show (τ_73.1 16) ≤ (τ_73.1 0) from by (first | omega | (simp only [st_s] <;> omega) | assumption | omega)) (show (τ_73.1 17) + (τ_73.1 18) ≤ (τ_73.1 0) from by (first | omega | (simp only [st_s] <;> omega) | assumption | omega)) (show oc (τ_73.2.1 6) < 4096 from by (first | omega | (simp only [st_s] <;> omega) | assumption | omega)) (show oc (τ_73.2.1 7) < 4096 from by (first | omega | (simp only [st_s] <;> omega) | assumption | omega)) (show 0 ≤ u1_73 from by (first | omega | (simp only [st_s] <;> omega) | assumption | omega)) (show u1_73 ≤ 1000 from by (first | omega | (simp only [st_s] <;> omega) | assumption | omega)) (show j_in u1_73 1000 (τ_73.2.1 37) from by (first | assumption | (rw [g37_τ41]; assumption) | (rw [g37_τ48]; assumption) | (rw [g37_τ58]; assumption) | (rw [g37_τ73]; assumption))) (show -1 ≤ u2_73 from by (first | omega | (simp only [st_s] <;> omega) | assumption | omega)) (show u2_73 ≤ 999 from by (first | omega | (simp only [st_s] <;> omega) | assumption | omega)) (show ¬ u3_73 = 0 → 0 ≤ u2_73 from by (first | omega | (simp only [st_s] <;> omega) | assumption | omega)) (show 0 ≤ 0 from by (first | omega | (simp only [st_s] <;> omega) | assumption | omega)) (show 0 ≤ u1_73 from by (first | omega | (simp only [st_s] <;> omega) | assumption | omega)) (show (τ_73.1 19) = 1 from by (first | omega | (simp only [st_s] <;> omega) | assumption | omega)) (show ¬ (σ.1 20) = 0 → (τ_73.1 20) = (σ.1 20) from by (first | omega | (simp only [st_s] <;> omega) | assumption | omega)) (show 3 * ((τ_73.1 0) - (τ_73.1 16)) + 2 ≤ (m_6 : Int) from by (first | omega | (simp only [st_s] <;> omega) | assumption | omega)) (show (τ_73.1 20) = 0 → ∀ k : Int, 0 ≤ k → k < 0 → ¬ τ_73.2.1 37 k = u2_73 from by (intro hf k k0 k1; first | (exfalso; omega) | (by_cases kk : k = u4_192; (rw [kk, ← e_x53]; exact c54); exact i192_16 hf k k0 (by omega)))) (show (σ.1 16) ≤ (τ_73.1 16) from by (first | omega | (simp only [st_s] <;> omega) | assumption | omega))
              ·
                refine ⟨(show 0 ≤ u4_73 ∧ u4_73 < 1001 from by (first | omega | (simp only [st_s] <;> omega) | assumption | omega)), ?_⟩
                intro x28 r_x28 e_x28
                have b_x28 : 0 ≤ x28 ∧ x28 ≤ 999 := by rw [e_x28]; exact hT.2 37 _
                refine ⟨fun c29 => ?_, fun c29 => ?_⟩
                ·
                  refine ⟨(⟨by (first | omega | (simp only [st_s] <;> omega) | assumption | omega), by (first | omega | (simp only [st_s] <;> omega) | assumption | omega)⟩ : rg (u4_73 + 1)), ?_⟩
                  exact ih_73 _ _ _ _ _ (show (1001 - (u4_73 + 1) : Int) < ((m_73 : Nat) : Int) from by ((first | omega | (simp only [st_s] <;> omega) | assumption | omega))) hT (show τ_73.1 0 = σ.1 0 from by omega) G6 G7 (show (τ_73.1 16) ≤ (τ_73.1 0) from by (first | omega | (simp only [st_s] <;> omega) | assumption | omega)) (show (τ_73.1 17) + (τ_73.1 18) ≤ (τ_73.1 0) from by (first | omega | (simp only [st_s] <;> omega) | assumption | omega)) (show oc (τ_73.2.1 6) < 4096 from by (first | omega | (simp only [st_s] <;> omega) | assumption | omega)) (show oc (τ_73.2.1 7) < 4096 from by (first | omega | (simp only [st_s] <;> omega) | assumption | omega)) (show 0 ≤ u1_73 from by (first | omega | (simp only [st_s] <;> omega) | assumption | omega)) (show u1_73 ≤ 1000 from by (first | omega | (simp only [st_s] <;> omega) | assumption | omega)) (show j_in u1_73 1000 (τ_73.2.1 37) from by (first | assumption | (rw [g37_τ41]; assumption) | (rw [g37_τ48]; assumption) | (rw [g37_τ58]; assumption) | (rw [g37_τ73]; assumption))) (show -1 ≤ u2_73 from by (first | omega | (simp only [st_s] <;> omega) | assumption | omega)) (show u2_73 ≤ 999 from by (first | omega | (simp only [st_s] <;> omega) | assumption | omega)) (show ¬ u3_73 = 0 → 0 ≤ u2_73 from by (first | omega | (simp only [st_s] <;> omega) | assumption | omega)) (show 0 ≤ (u4_73 + 1) from by (first | omega | (simp only [st_s] <;> omega) | assumption | omega)) (show (u4_73 + 1) ≤ u1_73 from by (first | omega | (simp only [st_s] <;> omega) | assumption | omega)) (show (τ_73.1 19) = 1 from by (first | omega | (simp only [st_s] <;> omega) | assumption | omega)) (show ¬ (σ.1 20) = 0 → (τ_73.1 20) = (σ.1 20) from by (first | omega | (simp only [st_s] <;> omega) | assumption | omega)) (show 3 * ((τ_73.1 0) - (τ_73.1 16)) + 2 ≤ (m_6 : Int) from by (first | omega | (simp only [st_s] <;> omega) | assumption | omega)) (show (σ.1 16) ≤ (τ_73.1 16) from by (first | omega | (simp only [st_s] <;> omega) | assumption | omega))
                ·
                  intro x31 r_x31 e_x31
                  have b_x31 : 0 ≤ x31 ∧ x31 ≤ 999 := by rw [e_x31]; exact hT.2 37 _
                  refine ⟨_, K_X13_areApart hT (show 0 ≤ x31 from by (first | omega | (simp only [st_s] <;> omega) | assumption | omega)) (show x31 < 1000 from by (first | omega | (simp only [st_s] <;> omega) | assumption | omega)) (show 0 ≤ u2_73 from by (first | omega | (simp only [st_s] <;> omega) | assumption | omega)) (show u2_73 < 1000 from by (first | omega | (simp only [st_s] <;> omega) | assumption | omega)), ?_⟩
                  intro x33 r_x33 hq
                  have q32_1 := hq
                  replace q32_1 : 0 ≤ x33 ∧ x33 ≤ 1 := q32_1
                  refine ⟨fun c35 => ?_, fun c35 => ?_⟩
                  ·
                    refine ⟨(⟨by (first | omega | (simp only [st_s] <;> omega) | assumption | omega), by (first | omega | (simp only [st_s] <;> omega) | assumption | omega)⟩ : rg (u4_73 + 1)), ?_⟩
                    exact ih_73 _ _ _ _ _ (show (1001 - (u4_73 + 1) : Int) < ((m_73 : Nat) : Int) from by ((first | omega | (simp only [st_s] <;> omega) | assumption | omega))) hT (show τ_73.1 0 = σ.1 0 from by omega) G6 G7 (show (τ_73.1 16) ≤ (τ_73.1 0) from by (first | omega | (simp only [st_s] <;> omega) | assumption | omega)) (show (τ_73.1 17) + (τ_73.1 18) ≤ (τ_73.1 0) from by (first | omega | (simp only [st_s] <;> omega) | assumption | omega)) (show oc (τ_73.2.1 6) < 4096 from by (first | omega | (simp only [st_s] <;> omega) | assumption | omega)) (show oc (τ_73.2.1 7) < 4096 from by (first | omega | (simp only [st_s] <;> omega) | assumption | omega)) (show 0 ≤ u1_73 from by (first | omega | (simp only [st_s] <;> omega) | assumption | omega)) (show u1_73 ≤ 1000 from by (first | omega | (simp only [st_s] <;> omega) | assumption | omega)) (show j_in u1_73 1000 (τ_73.2.1 37) from by (first | assumption | (rw [g37_τ41]; assumption) | (rw [g37_τ48]; assumption) | (rw [g37_τ58]; assumption) | (rw [g37_τ73]; assumption))) (show -1 ≤ u2_73 from by (first | omega | (simp only [st_s] <;> omega) | assumption | omega)) (show u2_73 ≤ 999 from by (first | omega | (simp only [st_s] <;> omega) | assumption | omega)) (show ¬ u3_73 = 0 → 0 ≤ u2_73 from by (first | omega | (simp only [st_s] <;> omega) | assumption | omega)) (show 0 ≤ (u4_73 + 1) from by (first | omega | (simp only [st_s] <;> omega) | assumption | omega)) (show (u4_73 + 1) ≤ u1_73 from by (first | omega | (simp only [st_s] <;> omega) | assumption | omega)) (show (τ_73.1 19) = 1 from by (first | omega | (simp only [st_s] <;> omega) | assumption | omega)) (show ¬ (σ.1 20) = 0 → (τ_73.1 20) = (σ.1 20) from by (first | omega | (simp only [st_s] <;> omega) | assumption | omega)) (show 3 * ((τ_73.1 0) - (τ_73.1 16)) + 2 ≤ (m_6 : Int) from by (first | omega | (simp only [st_s] <;> omega) | assumption | omega)) (show (σ.1 16) ≤ (τ_73.1 16) from by (first | omega | (simp only [st_s] <;> omega) | assumption | omega))
                  ·
                    refine ⟨fun c37 => ?_, fun c37 => ?_⟩
                    ·
                      intro x38 r_x38 e_x38
                      have b_x38 : 0 ≤ x38 ∧ x38 ≤ 999 := by rw [e_x38]; exact hT.2 37 _
                      refine ⟨_, K_X13_setApart hT (show 0 ≤ x38 from by (first | omega | (simp only [st_s] <;> omega) | assumption | omega)) (show x38 < 1000 from by (first | omega | (simp only [st_s] <;> omega) | assumption | omega)) (show 0 ≤ u2_73 from by (first | omega | (simp only [st_s] <;> omega) | assumption | omega)) (show u2_73 < 1000 from by (first | omega | (simp only [st_s] <;> omega) | assumption | omega)), ?_⟩
                      intro τ41 hn_τ41 hf_τ41 hq
                      replace hT := hq
                      have w0_τ41 : τ41.1 0 = τ_73.1 0 := hf_τ41.1 0 (by decide)
                      have w14_τ41 : τ41.1 14 = τ_73.1 14 := hf_τ41.1 14 (by decide)
                      have w16_τ41 : τ41.1 16 = τ_73.1 16 := hf_τ41.1 16 (by decide)
                      have w17_τ41 : τ41.1 17 = τ_73.1 17 := hf_τ41.1 17 (by decide)
                      have w18_τ41 : τ41.1 18 = τ_73.1 18 := hf_τ41.1 18 (by decide)
                      have w19_τ41 : τ41.1 19 = τ_73.1 19 := hf_τ41.1 19 (by decide)
                      have w20_τ41 : τ41.1 20 = τ_73.1 20 := hf_τ41.1 20 (by decide)
                      have g6_τ41 : τ41.2.1 6 = τ_73.2.1 6 := hf_τ41.2.1 6 (by decide)
                      have g7_τ41 : τ41.2.1 7 = τ_73.2.1 7 := hf_τ41.2.1 7 (by decide)
                      have g37_τ41 : τ41.2.1 37 = τ_73.2.1 37 := hf_τ41.2.1 37 (by decide)
                      first | (have o6_τ41 := congrArg oc g6_τ41) | skip
                      first | (have o7_τ41 := congrArg oc g7_τ41) | skip
                      have W0 : τ41.1 0 = σ.1 0 := by omega
                      have G6 : τ41.2.1 6 = σ.2.1 6 := (g6_τ41).trans G6
                      have G7 : τ41.2.1 7 = σ.2.1 7 := (g7_τ41).trans G7
                      have A6 : ∀ j, (-1) ≤ τ41.2.1 6 j ∧ τ41.2.1 6 j ≤ 999 := fun j => hT.2 6 j
                      have A7 : ∀ j, (-1) ≤ τ41.2.1 7 j ∧ τ41.2.1 7 j ≤ 1499 := fun j => hT.2 7 j
                      have A37 : ∀ j, 0 ≤ τ41.2.1 37 j ∧ τ41.2.1 37 j ≤ 999 := fun j => hT.2 37 j
                      have v0 : 0 ≤ τ41.1 0 ∧ τ41.1 0 ≤ 60000 := hT.1 0
                      have v14 : 0 ≤ τ41.1 14 ∧ τ41.1 14 ≤ 1000 := hT.1 14
                      have v16 : 0 ≤ τ41.1 16 ∧ τ41.1 16 ≤ 60000 := hT.1 16
                      have v17 : 0 ≤ τ41.1 17 ∧ τ41.1 17 ≤ 60000 := hT.1 17
                      have v18 : 0 ≤ τ41.1 18 ∧ τ41.1 18 ≤ 60000 := hT.1 18
                      have v19 : (-1) ≤ τ41.1 19 ∧ τ41.1 19 ≤ 125 := hT.1 19
                      have v20 : 0 ≤ τ41.1 20 ∧ τ41.1 20 ≤ 19 := hT.1 20
                      intro x42 r_x42 e_x42
                      have b_x42 : 0 ≤ x42 ∧ x42 ≤ 999 := by rw [e_x42]; exact hT.2 37 _
                      refine ⟨(show 0 ≤ τ41.1 14 ∧ τ41.1 14 < 1001 from by (first | omega | (simp only [st_s] <;> omega) | assumption | omega)), ?_⟩
                      replace hT := mT_a (k := 32) (j := (τ41.1 14)) hT (show (0 : Int) ≤ x42 ∧ x42 ≤ 999 from by (first | omega | (simp only [st_s] <;> omega) | assumption | omega))
                      replace hT := mT_a (k := 33) (j := (τ41.1 14)) hT (show (0 : Int) ≤ u2_73 ∧ u2_73 ≤ 999 from by (first | omega | (simp only [st_s] <;> omega) | assumption | omega))
                      refine ⟨(⟨by (first | omega | (simp only [st_s] <;> omega) | assumption | omega), by (first | omega | (simp only [st_s] <;> omega) | assumption | omega)⟩ : rg (τ41.1 14 + 1)), ?_⟩
                      replace hT := mT_v (i := 14) hT (show 0 ≤ (τ41.1 14 + 1) ∧ (τ41.1 14 + 1) ≤ 1000 from by (first | omega | (simp only [st_s] <;> omega) | assumption | omega))
                      refine ⟨(⟨by (first | omega | (simp only [st_s] <;> omega) | assumption | omega), by (first | omega | (simp only [st_s] <;> omega) | assumption | omega)⟩ : rg (u4_73 + 1)), ?_⟩
                      exact ih_73 _ _ _ _ _ (show (1001 - (u4_73 + 1) : Int) < ((m_73 : Nat) : Int) from by ((first | omega | (simp only [st_s] <;> omega) | assumption | omega))) hT (show τ41.1 0 = σ.1 0 from by omega) G6 G7 (show (τ41.1 16) ≤ (τ41.1 0) from by (first | omega | (simp only [st_s] <;> omega) | assumption | omega)) (show (τ41.1 17) + (τ41.1 18) ≤ (τ41.1 0) from by (first | omega | (simp only [st_s] <;> omega) | assumption | omega)) (show oc (τ41.2.1 6) < 4096 from by (first | omega | (simp only [st_s] <;> omega) | assumption | omega)) (show oc (τ41.2.1 7) < 4096 from by (first | omega | (simp only [st_s] <;> omega) | assumption | omega)) (show 0 ≤ u1_73 from by (first | omega | (simp only [st_s] <;> omega) | assumption | omega)) (show u1_73 ≤ 1000 from by (first | omega | (simp only [st_s] <;> omega) | assumption | omega)) (show j_in u1_73 1000 (τ41.2.1 37) from by (first | assumption | (rw [g37_τ41]; assumption) | (rw [g37_τ48]; assumption) | (rw [g37_τ58]; assumption) | (rw [g37_τ73]; assumption))) (show -1 ≤ u2_73 from by (first | omega | (simp only [st_s] <;> omega) | assumption | omega)) (show u2_73 ≤ 999 from by (first | omega | (simp only [st_s] <;> omega) | assumption | omega)) (show ¬ u3_73 = 0 → 0 ≤ u2_73 from by (first | omega | (simp only [st_s] <;> omega) | assumption | omega)) (show 0 ≤ (u4_73 + 1) from by (first | omega | (simp only [st_s] <;> omega) | assumption | omega)) (show (u4_73 + 1) ≤ u1_73 from by (first | omega | (simp only [st_s] <;> omega) | assumption | omega)) (show (τ41.1 19) = 1 from by (first | omega | (simp only [st_s] <;> omega) | assumption | omega)) (show ¬ (σ.1 20) = 0 → (τ41.1 20) = (σ.1 20) from by (first | omega | (simp only [st_s] <;> omega) | assumption | omega)) (show 3 * ((τ41.1 0) - (τ41.1 16)) + 2 ≤ (m_6 : Int) from by (first | omega | (simp only [st_s] <;> omega) | assumption | omega)) (show (σ.1 16) ≤ (τ41.1 16) from by (first | omega | (simp only [st_s] <;> omega) | assumption | omega))
                    ·
                      refine ⟨_, K_X13_failHere hT (show 0 ≤ 5 from by (first | omega | (simp only [st_s] <;> omega) | assumption | omega)) (show 5 ≤ 19 from by (first | omega | (simp only [st_s] <;> omega) | assumption | omega)), ?_⟩
                      intro τ48 hn_τ48 hf_τ48 hq
                      obtain ⟨hT, q46_1, q46_2⟩ := hq
                      replace q46_1 : ¬ (τ_73.1 20) = 0 → (τ48.1 20) = (τ_73.1 20) := q46_1
                      replace q46_2 : (τ_73.1 20) = 0 → (τ48.1 20) = 5 := q46_2
                      have w0_τ48 : τ48.1 0 = τ_73.1 0 := hf_τ48.1 0 (by decide)
                      have w14_τ48 : τ48.1 14 = τ_73.1 14 := hf_τ48.1 14 (by decide)
                      have w16_τ48 : τ48.1 16 = τ_73.1 16 := hf_τ48.1 16 (by decide)
                      have w17_τ48 : τ48.1 17 = τ_73.1 17 := hf_τ48.1 17 (by decide)
                      have w18_τ48 : τ48.1 18 = τ_73.1 18 := hf_τ48.1 18 (by decide)
                      have w19_τ48 : τ48.1 19 = τ_73.1 19 := hf_τ48.1 19 (by decide)
                      have g6_τ48 : τ48.2.1 6 = τ_73.2.1 6 := hf_τ48.2.1 6 (by decide)
                      have g7_τ48 : τ48.2.1 7 = τ_73.2.1 7 := hf_τ48.2.1 7 (by decide)
                      have g37_τ48 : τ48.2.1 37 = τ_73.2.1 37 := hf_τ48.2.1 37 (by decide)
                      first | (have o6_τ48 := congrArg oc g6_τ48) | skip
                      first | (have o7_τ48 := congrArg oc g7_τ48) | skip
                      have W0 : τ48.1 0 = σ.1 0 := by omega
                      have G6 : τ48.2.1 6 = σ.2.1 6 := (g6_τ48).trans G6
                      have G7 : τ48.2.1 7 = σ.2.1 7 := (g7_τ48).trans G7
                      have A6 : ∀ j, (-1) ≤ τ48.2.1 6 j ∧ τ48.2.1 6 j ≤ 999 := fun j => hT.2 6 j
                      have A7 : ∀ j, (-1) ≤ τ48.2.1 7 j ∧ τ48.2.1 7 j ≤ 1499 := fun j => hT.2 7 j
                      have A37 : ∀ j, 0 ≤ τ48.2.1 37 j ∧ τ48.2.1 37 j ≤ 999 := fun j => hT.2 37 j
                      have v0 : 0 ≤ τ48.1 0 ∧ τ48.1 0 ≤ 60000 := hT.1 0
                      have v14 : 0 ≤ τ48.1 14 ∧ τ48.1 14 ≤ 1000 := hT.1 14
                      have v16 : 0 ≤ τ48.1 16 ∧ τ48.1 16 ≤ 60000 := hT.1 16
                      have v17 : 0 ≤ τ48.1 17 ∧ τ48.1 17 ≤ 60000 := hT.1 17
                      have v18 : 0 ≤ τ48.1 18 ∧ τ48.1 18 ≤ 60000 := hT.1 18
                      have v19 : (-1) ≤ τ48.1 19 ∧ τ48.1 19 ≤ 125 := hT.1 19
                      have v20 : 0 ≤ τ48.1 20 ∧ τ48.1 20 ≤ 19 := hT.1 20
                      refine ⟨(⟨by (first | omega | (simp only [st_s] <;> omega) | assumption | omega), by (first | omega | (simp only [st_s] <;> omega) | assumption | omega)⟩ : rg (u4_73 + 1)), ?_⟩
                      exact ih_73 _ _ _ _ _ (show (1001 - (u4_73 + 1) : Int) < ((m_73 : Nat) : Int) from by ((first | omega | (simp only [st_s] <;> omega) | assumption | omega))) hT (show τ48.1 0 = σ.1 0 from by omega) G6 G7 (show (τ48.1 16) ≤ (τ48.1 0) from by (first | omega | (simp only [st_s] <;> omega) | assumption | omega)) (show (τ48.1 17) + (τ48.1 18) ≤ (τ48.1 0) from by (first | omega | (simp only [st_s] <;> omega) | assumption | omega)) (show oc (τ48.2.1 6) < 4096 from by (first | omega | (simp only [st_s] <;> omega) | assumption | omega)) (show oc (τ48.2.1 7) < 4096 from by (first | omega | (simp only [st_s] <;> omega) | assumption | omega)) (show 0 ≤ u1_73 from by (first | omega | (simp only [st_s] <;> omega) | assumption | omega)) (show u1_73 ≤ 1000 from by (first | omega | (simp only [st_s] <;> omega) | assumption | omega)) (show j_in u1_73 1000 (τ48.2.1 37) from by (first | assumption | (rw [g37_τ41]; assumption) | (rw [g37_τ48]; assumption) | (rw [g37_τ58]; assumption) | (rw [g37_τ73]; assumption))) (show -1 ≤ u2_73 from by (first | omega | (simp only [st_s] <;> omega) | assumption | omega)) (show u2_73 ≤ 999 from by (first | omega | (simp only [st_s] <;> omega) | assumption | omega)) (show ¬ u3_73 = 0 → 0 ≤ u2_73 from by (first | omega | (simp only [st_s] <;> omega) | assumption | omega)) (show 0 ≤ (u4_73 + 1) from by (first | omega | (simp only [st_s] <;> omega) | assumption | omega)) (show (u4_73 + 1) ≤ u1_73 from by (first | omega | (simp only [st_s] <;> omega) | assumption | omega)) (show (τ48.1 19) = 1 from by (first | omega | (simp only [st_s] <;> omega) | assumption | omega)) (show ¬ (σ.1 20) = 0 → (τ48.1 20) = (σ.1 20) from by (first | omega | (simp only [st_s] <;> omega) | assumption | omega)) (show 3 * ((τ48.1 0) - (τ48.1 16)) + 2 ≤ (m_6 : Int) from by (first | omega | (simp only [st_s] <;> omega) | assumption | omega)) (show (σ.1 16) ≤ (τ48.1 16) from by (first | omega | (simp only [st_s] <;> omega) | assumption | omega))
      refine h6 u1_6 τ_6 ?_
      refine ⟨fun c4 => ?_, fun c4 => ?_⟩
      ·
        refine h278 _ _ ?_
        refine ⟨fun c19 => ?_, fun c19 => ?_⟩
        ·
          exact ⟨hT, (show (τ_6.1 16) ≤ (τ_6.1 0) from by (first | omega | (simp only [st_s] <;> omega) | assumption | omega)), (show (τ_6.1 17) + (τ_6.1 18) ≤ (τ_6.1 0) from by (first | omega | (simp only [st_s] <;> omega) | assumption | omega)), (show ¬ (σ.1 20) = 0 → (τ_6.1 20) = (σ.1 20) from by (first | omega | (simp only [st_s] <;> omega) | assumption | omega)), (show (σ.1 16) ≤ (τ_6.1 16) from by (first | omega | (simp only [st_s] <;> omega) | assumption | omega))⟩
        ·
          refine ⟨fun c20 => ?_, fun c20 => ?_⟩
          ·
            exact ⟨hT, (show (τ_6.1 16) ≤ (τ_6.1 0) from by (first | omega | (simp only [st_s] <;> omega) | assumption | omega)), (show (τ_6.1 17) + (τ_6.1 18) ≤ (τ_6.1 0) from by (first | omega | (simp only [st_s] <;> omega) | assumption | omega)), (show ¬ (σ.1 20) = 0 → (τ_6.1 20) = (σ.1 20) from by (first | omega | (simp only [st_s] <;> omega) | assumption | omega)), (show (σ.1 16) ≤ (τ_6.1 16) from by (first | omega | (simp only [st_s] <;> omega) | assumption | omega))⟩
          ·
            refine ⟨_, K_X13_failHere hT (show 0 ≤ 4 from by (first | omega | (simp only [st_s] <;> omega) | assumption | omega)) (show 4 ≤ 19 from by (first | omega | (simp only [st_s] <;> omega) | assumption | omega)), ?_⟩
            intro τ23 hn_τ23 hf_τ23 hq
            obtain ⟨hT, q21_1, q21_2⟩ := hq
            replace q21_1 : ¬ (τ_6.1 20) = 0 → (τ23.1 20) = (τ_6.1 20) := q21_1
            replace q21_2 : (τ_6.1 20) = 0 → (τ23.1 20) = 4 := q21_2
            have w0_τ23 : τ23.1 0 = τ_6.1 0 := hf_τ23.1 0 (by decide)
            have w14_τ23 : τ23.1 14 = τ_6.1 14 := hf_τ23.1 14 (by decide)
            have w16_τ23 : τ23.1 16 = τ_6.1 16 := hf_τ23.1 16 (by decide)
            have w17_τ23 : τ23.1 17 = τ_6.1 17 := hf_τ23.1 17 (by decide)
            have w18_τ23 : τ23.1 18 = τ_6.1 18 := hf_τ23.1 18 (by decide)
            have w19_τ23 : τ23.1 19 = τ_6.1 19 := hf_τ23.1 19 (by decide)
            have g6_τ23 : τ23.2.1 6 = τ_6.2.1 6 := hf_τ23.2.1 6 (by decide)
            have g7_τ23 : τ23.2.1 7 = τ_6.2.1 7 := hf_τ23.2.1 7 (by decide)
            have g37_τ23 : τ23.2.1 37 = τ_6.2.1 37 := hf_τ23.2.1 37 (by decide)
            first | (have o6_τ23 := congrArg oc g6_τ23) | skip
            first | (have o7_τ23 := congrArg oc g7_τ23) | skip
            have W0 : τ23.1 0 = σ.1 0 := by omega
            have G6 : τ23.2.1 6 = σ.2.1 6 := (g6_τ23).trans G6
            have G7 : τ23.2.1 7 = σ.2.1 7 := (g7_τ23).trans G7
            have A6 : ∀ j, (-1) ≤ τ23.2.1 6 j ∧ τ23.2.1 6 j ≤ 999 := fun j => hT.2 6 j
            have A7 : ∀ j, (-1) ≤ τ23.2.1 7 j ∧ τ23.2.1 7 j ≤ 1499 := fun j => hT.2 7 j
            have A37 : ∀ j, 0 ≤ τ23.2.1 37 j ∧ τ23.2.1 37 j ≤ 999 := fun j => hT.2 37 j
            have v0 : 0 ≤ τ23.1 0 ∧ τ23.1 0 ≤ 60000 := hT.1 0
            have v14 : 0 ≤ τ23.1 14 ∧ τ23.1 14 ≤ 1000 := hT.1 14
            have v16 : 0 ≤ τ23.1 16 ∧ τ23.1 16 ≤ 60000 := hT.1 16
            have v17 : 0 ≤ τ23.1 17 ∧ τ23.1 17 ≤ 60000 := hT.1 17
            have v18 : 0 ≤ τ23.1 18 ∧ τ23.1 18 ≤ 60000 := hT.1 18
            have v19 : (-1) ≤ τ23.1 19 ∧ τ23.1 19 ≤ 125 := hT.1 19
            have v20 : 0 ≤ τ23.1 20 ∧ τ23.1 20 ≤ 19 := hT.1 20
            exact ⟨hT, (show (τ23.1 16) ≤ (τ23.1 0) from by (first | omega | (simp only [st_s] <;> omega) | assumption | omega)), (show (τ23.1 17) + (τ23.1 18) ≤ (τ23.1 0) from by (first | omega | (simp only [st_s] <;> omega) | assumption | omega)), (show ¬ (σ.1 20) = 0 → (τ23.1 20) = (σ.1 20) from by (first | omega | (simp only [st_s] <;> omega) | assumption | omega)), (show (σ.1 16) ≤ (τ23.1 16) from by (first | omega | (simp only [st_s] <;> omega) | assumption | omega))⟩
      ·
        refine ⟨fun c5 => ?_, fun c5 => ?_⟩
        ·
          refine h278 _ _ ?_
          refine ⟨fun c19 => ?_, fun c19 => ?_⟩
          ·
            exact ⟨hT, (show (τ_6.1 16) ≤ (τ_6.1 0) from by (first | omega | (simp only [st_s] <;> omega) | assumption | omega)), (show (τ_6.1 17) + (τ_6.1 18) ≤ (τ_6.1 0) from by (first | omega | (simp only [st_s] <;> omega) | assumption | omega)), (show ¬ (σ.1 20) = 0 → (τ_6.1 20) = (σ.1 20) from by (first | omega | (simp only [st_s] <;> omega) | assumption | omega)), (show (σ.1 16) ≤ (τ_6.1 16) from by (first | omega | (simp only [st_s] <;> omega) | assumption | omega))⟩
          ·
            refine ⟨fun c20 => ?_, fun c20 => ?_⟩
            ·
              exact ⟨hT, (show (τ_6.1 16) ≤ (τ_6.1 0) from by (first | omega | (simp only [st_s] <;> omega) | assumption | omega)), (show (τ_6.1 17) + (τ_6.1 18) ≤ (τ_6.1 0) from by (first | omega | (simp only [st_s] <;> omega) | assumption | omega)), (show ¬ (σ.1 20) = 0 → (τ_6.1 20) = (σ.1 20) from by (first | omega | (simp only [st_s] <;> omega) | assumption | omega)), (show (σ.1 16) ≤ (τ_6.1 16) from by (first | omega | (simp only [st_s] <;> omega) | assumption | omega))⟩
            ·
              refine ⟨_, K_X13_failHere hT (show 0 ≤ 4 from by (first | omega | (simp only [st_s] <;> omega) | assumption | omega)) (show 4 ≤ 19 from by (first | omega | (simp only [st_s] <;> omega) | assumption | omega)), ?_⟩
              intro τ23 hn_τ23 hf_τ23 hq
              obtain ⟨hT, q21_1, q21_2⟩ := hq
              replace q21_1 : ¬ (τ_6.1 20) = 0 → (τ23.1 20) = (τ_6.1 20) := q21_1
              replace q21_2 : (τ_6.1 20) = 0 → (τ23.1 20) = 4 := q21_2
              have w0_τ23 : τ23.1 0 = τ_6.1 0 := hf_τ23.1 0 (by decide)
              have w14_τ23 : τ23.1 14 = τ_6.1 14 := hf_τ23.1 14 (by decide)
              have w16_τ23 : τ23.1 16 = τ_6.1 16 := hf_τ23.1 16 (by decide)
              have w17_τ23 : τ23.1 17 = τ_6.1 17 := hf_τ23.1 17 (by decide)
              have w18_τ23 : τ23.1 18 = τ_6.1 18 := hf_τ23.1 18 (by decide)
              have w19_τ23 : τ23.1 19 = τ_6.1 19 := hf_τ23.1 19 (by decide)
              have g6_τ23 : τ23.2.1 6 = τ_6.2.1 6 := hf_τ23.2.1 6 (by decide)
              have g7_τ23 : τ23.2.1 7 = τ_6.2.1 7 := hf_τ23.2.1 7 (by decide)
              have g37_τ23 : τ23.2.1 37 = τ_6.2.1 37 := hf_τ23.2.1 37 (by decide)
              first | (have o6_τ23 := congrArg oc g6_τ23) | skip
              first | (have o7_τ23 := congrArg oc g7_τ23) | skip
              have W0 : τ23.1 0 = σ.1 0 := by omega
              have G6 : τ23.2.1 6 = σ.2.1 6 := (g6_τ23).trans G6
              have G7 : τ23.2.1 7 = σ.2.1 7 := (g7_τ23).trans G7
              have A6 : ∀ j, (-1) ≤ τ23.2.1 6 j ∧ τ23.2.1 6 j ≤ 999 := fun j => hT.2 6 j
              have A7 : ∀ j, (-1) ≤ τ23.2.1 7 j ∧ τ23.2.1 7 j ≤ 1499 := fun j => hT.2 7 j
              have A37 : ∀ j, 0 ≤ τ23.2.1 37 j ∧ τ23.2.1 37 j ≤ 999 := fun j => hT.2 37 j
              have v0 : 0 ≤ τ23.1 0 ∧ τ23.1 0 ≤ 60000 := hT.1 0
              have v14 : 0 ≤ τ23.1 14 ∧ τ23.1 14 ≤ 1000 := hT.1 14
              have v16 : 0 ≤ τ23.1 16 ∧ τ23.1 16 ≤ 60000 := hT.1 16
              have v17 : 0 ≤ τ23.1 17 ∧ τ23.1 17 ≤ 60000 := hT.1 17
              have v18 : 0 ≤ τ23.1 18 ∧ τ23.1 18 ≤ 60000 := hT.1 18
              have v19 : (-1) ≤ τ23.1 19 ∧ τ23.1 19 ≤ 125 := hT.1 19
              have v20 : 0 ≤ τ23.1 20 ∧ τ23.1 20 ≤ 19 := hT.1 20
              exact ⟨hT, (show (τ23.1 16) ≤ (τ23.1 0) from by (first | omega | (simp only [st_s] <;> omega) | assumption | omega)), (show (τ23.1 17) + (τ23.1 18) ≤ (τ23.1 0) from by (first | omega | (simp only [st_s] <;> omega) | assumption | omega)), (show ¬ (σ.1 20) = 0 → (τ23.1 20) = (σ.1 20) from by (first | omega | (simp only [st_s] <;> omega) | assumption | omega)), (show (σ.1 16) ≤ (τ23.1 16) from by (first | omega | (simp only [st_s] <;> omega) | assumption | omega))⟩
        ·
          refine ⟨fun c6 => ?_, fun c6 => ?_⟩
          ·
            refine ⟨_, K_X13_symbolHere hT (show (τ_6.1 17) + (τ_6.1 18) ≤ 60000 from by (first | omega | (simp only [st_s] <;> omega) | assumption | omega)) (show oc (τ_6.2.1 6) < 4096 from by (first | omega | (simp only [st_s] <;> omega) | assumption | omega)), ?_⟩
            intro x8 r_x8 hq
            obtain ⟨q7_1, q7_2⟩ := hq
            replace q7_1 : -1 ≤ x8 ∧ x8 ≤ 999 := q7_1
            replace q7_2 : x8 = -1 ∨ ∃ e : Int, (0 ≤ e ∧ e < 4096) ∧ x8 = τ_6.2.1 6 e := q7_2
            clear q7_2
            refine ⟨fun c10 => ?_, fun c10 => ?_⟩
            ·
              exact l_73 ((1001 - 0 : Int).toNat + 1) _ _ _ _ _ (show (1001 - 0 : Int) < (((1001 - 0 : Int).toNat + 1 : Nat) : Int) from by ((first | omega | (simp only [st_s] <;> omega) | assumption | omega))) hT (show τ_6.1 0 = σ.1 0 from by omega) G6 G7 (show (τ_6.1 16) ≤ (τ_6.1 0) from by (first | omega | (simp only [st_s] <;> omega) | assumption | omega)) (show (τ_6.1 17) + (τ_6.1 18) ≤ (τ_6.1 0) from by (first | omega | (simp only [st_s] <;> omega) | assumption | omega)) (show oc (τ_6.2.1 6) < 4096 from by (first | omega | (simp only [st_s] <;> omega) | assumption | omega)) (show oc (τ_6.2.1 7) < 4096 from by (first | omega | (simp only [st_s] <;> omega) | assumption | omega)) (show 0 ≤ u1_6 from by (first | omega | (simp only [st_s] <;> omega) | assumption | omega)) (show u1_6 ≤ 1000 from by (first | omega | (simp only [st_s] <;> omega) | assumption | omega)) (show j_in u1_6 1000 (τ_6.2.1 37) from by (first | assumption | (rw [g37_τ41]; assumption) | (rw [g37_τ48]; assumption) | (rw [g37_τ58]; assumption) | (rw [g37_τ73]; assumption))) (show -1 ≤ x8 from by (first | omega | (simp only [st_s] <;> omega) | assumption | omega)) (show x8 ≤ 999 from by (first | omega | (simp only [st_s] <;> omega) | assumption | omega)) (show ¬ 0 = 0 → 0 ≤ x8 from by (first | omega | (simp only [st_s] <;> omega) | assumption | omega)) (show 0 ≤ 0 from by (first | omega | (simp only [st_s] <;> omega) | assumption | omega)) (show 0 ≤ u1_6 from by (first | omega | (simp only [st_s] <;> omega) | assumption | omega)) (show (τ_6.1 19) = 1 from by (first | omega | (simp only [st_s] <;> omega) | assumption | omega)) (show ¬ (σ.1 20) = 0 → (τ_6.1 20) = (σ.1 20) from by (first | omega | (simp only [st_s] <;> omega) | assumption | omega)) (show 3 * ((τ_6.1 0) - (τ_6.1 16)) + 2 ≤ (m_6 : Int) from by (first | omega | (simp only [st_s] <;> omega) | assumption | omega)) (show (σ.1 16) ≤ (τ_6.1 16) from by (first | omega | (simp only [st_s] <;> omega) | assumption | omega))
            ·
              refine ⟨(show 0 ≤ x8 ∧ x8 < 1001 from by (first | omega | (simp only [st_s] <;> omega) | assumption | omega)), ?_⟩
              intro x12 r_x12 e_x12
              have b_x12 : 0 ≤ x12 ∧ x12 ≤ 1 := by rw [e_x12]; exact hT.2 8 _
              refine ⟨fun c13 => ?_, fun c13 => ?_⟩
              ·
                exact l_73 ((1001 - 0 : Int).toNat + 1) _ _ _ _ _ (show (1001 - 0 : Int) < (((1001 - 0 : Int).toNat + 1 : Nat) : Int) from by ((first | omega | (simp only [st_s] <;> omega) | assumption | omega))) hT (show τ_6.1 0 = σ.1 0 from by omega) G6 G7 (show (τ_6.1 16) ≤ (τ_6.1 0) from by (first | omega | (simp only [st_s] <;> omega) | assumption | omega)) (show (τ_6.1 17) + (τ_6.1 18) ≤ (τ_6.1 0) from by (first | omega | (simp only [st_s] <;> omega) | assumption | omega)) (show oc (τ_6.2.1 6) < 4096 from by (first | omega | (simp only [st_s] <;> omega) | assumption | omega)) (show oc (τ_6.2.1 7) < 4096 from by (first | omega | (simp only [st_s] <;> omega) | assumption | omega)) (show 0 ≤ u1_6 from by (first | omega | (simp only [st_s] <;> omega) | assumption | omega)) (show u1_6 ≤ 1000 from by (first | omega | (simp only [st_s] <;> omega) | assumption | omega)) (show j_in u1_6 1000 (τ_6.2.1 37) from by (first | assumption | (rw [g37_τ41]; assumption) | (rw [g37_τ48]; assumption) | (rw [g37_τ58]; assumption) | (rw [g37_τ73]; assumption))) (show -1 ≤ x8 from by (first | omega | (simp only [st_s] <;> omega) | assumption | omega)) (show x8 ≤ 999 from by (first | omega | (simp only [st_s] <;> omega) | assumption | omega)) (show ¬ 0 = 0 → 0 ≤ x8 from by (first | omega | (simp only [st_s] <;> omega) | assumption | omega)) (show 0 ≤ 0 from by (first | omega | (simp only [st_s] <;> omega) | assumption | omega)) (show 0 ≤ u1_6 from by (first | omega | (simp only [st_s] <;> omega) | assumption | omega)) (show (τ_6.1 19) = 1 from by (first | omega | (simp only [st_s] <;> omega) | assumption | omega)) (show ¬ (σ.1 20) = 0 → (τ_6.1 20) = (σ.1 20) from by (first | omega | (simp only [st_s] <;> omega) | assumption | omega)) (show 3 * ((τ_6.1 0) - (τ_6.1 16)) + 2 ≤ (m_6 : Int) from by (first | omega | (simp only [st_s] <;> omega) | assumption | omega)) (show (σ.1 16) ≤ (τ_6.1 16) from by (first | omega | (simp only [st_s] <;> omega) | assumption | omega))
              ·
                intro x14 r_x14 e_x14
                have b_x14 : 0 ≤ x14 ∧ x14 ≤ 1 := by rw [e_x14]; exact hT.2 9 _
                refine ⟨fun c15 => ?_, fun c15 => ?_⟩
                ·
                  exact l_73 ((1001 - 0 : Int).toNat + 1) _ _ _ _ _ (show (1001 - 0 : Int) < (((1001 - 0 : Int).toNat + 1 : Nat) : Int) from by ((first | omega | (simp only [st_s] <;> omega) | assumption | omega))) hT (show τ_6.1 0 = σ.1 0 from by omega) G6 G7 (show (τ_6.1 16) ≤ (τ_6.1 0) from by (first | omega | (simp only [st_s] <;> omega) | assumption | omega)) (show (τ_6.1 17) + (τ_6.1 18) ≤ (τ_6.1 0) from by (first | omega | (simp only [st_s] <;> omega) | assumption | omega)) (show oc (τ_6.2.1 6) < 4096 from by (first | omega | (simp only [st_s] <;> omega) | assumption | omega)) (show oc (τ_6.2.1 7) < 4096 from by (first | omega | (simp only [st_s] <;> omega) | assumption | omega)) (show 0 ≤ u1_6 from by (first | omega | (simp only [st_s] <;> omega) | assumption | omega)) (show u1_6 ≤ 1000 from by (first | omega | (simp only [st_s] <;> omega) | assumption | omega)) (show j_in u1_6 1000 (τ_6.2.1 37) from by (first | assumption | (rw [g37_τ41]; assumption) | (rw [g37_τ48]; assumption) | (rw [g37_τ58]; assumption) | (rw [g37_τ73]; assumption))) (show -1 ≤ x8 from by (first | omega | (simp only [st_s] <;> omega) | assumption | omega)) (show x8 ≤ 999 from by (first | omega | (simp only [st_s] <;> omega) | assumption | omega)) (show ¬ 0 = 0 → 0 ≤ x8 from by (first | omega | (simp only [st_s] <;> omega) | assumption | omega)) (show 0 ≤ 0 from by (first | omega | (simp only [st_s] <;> omega) | assumption | omega)) (show 0 ≤ u1_6 from by (first | omega | (simp only [st_s] <;> omega) | assumption | omega)) (show (τ_6.1 19) = 1 from by (first | omega | (simp only [st_s] <;> omega) | assumption | omega)) (show ¬ (σ.1 20) = 0 → (τ_6.1 20) = (σ.1 20) from by (first | omega | (simp only [st_s] <;> omega) | assumption | omega)) (show 3 * ((τ_6.1 0) - (τ_6.1 16)) + 2 ≤ (m_6 : Int) from by (first | omega | (simp only [st_s] <;> omega) | assumption | omega)) (show (σ.1 16) ≤ (τ_6.1 16) from by (first | omega | (simp only [st_s] <;> omega) | assumption | omega))
                ·
                  exact l_73 ((1001 - 0 : Int).toNat + 1) _ _ _ _ _ (show (1001 - 0 : Int) < (((1001 - 0 : Int).toNat + 1 : Nat) : Int) from by ((first | omega | (simp only [st_s] <;> omega) | assumption | omega))) hT (show τ_6.1 0 = σ.1 0 from by omega) G6 G7 (show (τ_6.1 16) ≤ (τ_6.1 0) from by (first | omega | (simp only [st_s] <;> omega) | assumption | omega)) (show (τ_6.1 17) + (τ_6.1 18) ≤ (τ_6.1 0) from by (first | omega | (simp only [st_s] <;> omega) | assumption | omega)) (show oc (τ_6.2.1 6) < 4096 from by (first | omega | (simp only [st_s] <;> omega) | assumption | omega)) (show oc (τ_6.2.1 7) < 4096 from by (first | omega | (simp only [st_s] <;> omega) | assumption | omega)) (show 0 ≤ u1_6 from by (first | omega | (simp only [st_s] <;> omega) | assumption | omega)) (show u1_6 ≤ 1000 from by (first | omega | (simp only [st_s] <;> omega) | assumption | omega)) (show j_in u1_6 1000 (τ_6.2.1 37) from by (first | assumption | (rw [g37_τ41]; assumption) | (rw [g37_τ48]; assumption) | (rw [g37_τ58]; assumption) | (rw [g37_τ73]; assumption))) (show -1 ≤ x8 from by (first | omega | (simp only [st_s] <;> omega) | assumption | omega)) (show x8 ≤ 999 from by (first | omega | (simp only [st_s] <;> omega) | assumption | omega)) (show ¬ 1 = 0 → 0 ≤ x8 from by (first | omega | (simp only [st_s] <;> omega) | assumption | omega)) (show 0 ≤ 0 from by (first | omega | (simp only [st_s] <;> omega) | assumption | omega)) (show 0 ≤ u1_6 from by (first | omega | (simp only [st_s] <;> omega) | assumption | omega)) (show (τ_6.1 19) = 1 from by (first | omega | (simp only [st_s] <;> omega) | assumption | omega)) (show ¬ (σ.1 20) = 0 → (τ_6.1 20) = (σ.1 20) from by (first | omega | (simp only [st_s] <;> omega) | assumption | omega)) (show 3 * ((τ_6.1 0) - (τ_6.1 16)) + 2 ≤ (m_6 : Int) from by (first | omega | (simp only [st_s] <;> omega) | assumption | omega)) (show (σ.1 16) ≤ (τ_6.1 16) from by (first | omega | (simp only [st_s] <;> omega) | assumption | omega))
          ·
            refine ⟨_, K_X13_failHere hT (show 0 ≤ 4 from by (first | omega | (simp only [st_s] <;> omega) | assumption | omega)) (show 4 ≤ 19 from by (first | omega | (simp only [st_s] <;> omega) | assumption | omega)), ?_⟩
            intro τ18 hn_τ18 hf_τ18 hq
            obtain ⟨hT, q16_1, q16_2⟩ := hq
            replace q16_1 : ¬ (τ_6.1 20) = 0 → (τ18.1 20) = (τ_6.1 20) := q16_1
            replace q16_2 : (τ_6.1 20) = 0 → (τ18.1 20) = 4 := q16_2
            have w0_τ18 : τ18.1 0 = τ_6.1 0 := hf_τ18.1 0 (by decide)
            have w14_τ18 : τ18.1 14 = τ_6.1 14 := hf_τ18.1 14 (by decide)
            have w16_τ18 : τ18.1 16 = τ_6.1 16 := hf_τ18.1 16 (by decide)
            have w17_τ18 : τ18.1 17 = τ_6.1 17 := hf_τ18.1 17 (by decide)
            have w18_τ18 : τ18.1 18 = τ_6.1 18 := hf_τ18.1 18 (by decide)
            have w19_τ18 : τ18.1 19 = τ_6.1 19 := hf_τ18.1 19 (by decide)
            have g6_τ18 : τ18.2.1 6 = τ_6.2.1 6 := hf_τ18.2.1 6 (by decide)
            have g7_τ18 : τ18.2.1 7 = τ_6.2.1 7 := hf_τ18.2.1 7 (by decide)
            have g37_τ18 : τ18.2.1 37 = τ_6.2.1 37 := hf_τ18.2.1 37 (by decide)
            first | (have o6_τ18 := congrArg oc g6_τ18) | skip
            first | (have o7_τ18 := congrArg oc g7_τ18) | skip
            have W0 : τ18.1 0 = σ.1 0 := by omega
            have G6 : τ18.2.1 6 = σ.2.1 6 := (g6_τ18).trans G6
            have G7 : τ18.2.1 7 = σ.2.1 7 := (g7_τ18).trans G7
            have A6 : ∀ j, (-1) ≤ τ18.2.1 6 j ∧ τ18.2.1 6 j ≤ 999 := fun j => hT.2 6 j
            have A7 : ∀ j, (-1) ≤ τ18.2.1 7 j ∧ τ18.2.1 7 j ≤ 1499 := fun j => hT.2 7 j
            have A37 : ∀ j, 0 ≤ τ18.2.1 37 j ∧ τ18.2.1 37 j ≤ 999 := fun j => hT.2 37 j
            have v0 : 0 ≤ τ18.1 0 ∧ τ18.1 0 ≤ 60000 := hT.1 0
            have v14 : 0 ≤ τ18.1 14 ∧ τ18.1 14 ≤ 1000 := hT.1 14
            have v16 : 0 ≤ τ18.1 16 ∧ τ18.1 16 ≤ 60000 := hT.1 16
            have v17 : 0 ≤ τ18.1 17 ∧ τ18.1 17 ≤ 60000 := hT.1 17
            have v18 : 0 ≤ τ18.1 18 ∧ τ18.1 18 ≤ 60000 := hT.1 18
            have v19 : (-1) ≤ τ18.1 19 ∧ τ18.1 19 ≤ 125 := hT.1 19
            have v20 : 0 ≤ τ18.1 20 ∧ τ18.1 20 ≤ 19 := hT.1 20
            exact ⟨hT, (show (τ18.1 16) ≤ (τ18.1 0) from by (first | omega | (simp only [st_s] <;> omega) | assumption | omega)), (show (τ18.1 17) + (τ18.1 18) ≤ (τ18.1 0) from by (first | omega | (simp only [st_s] <;> omega) | assumption | omega)), (show ¬ (σ.1 20) = 0 → (τ18.1 20) = (σ.1 20) from by (first | omega | (simp only [st_s] <;> omega) | assumption | omega)), (show (σ.1 16) ≤ (τ18.1 16) from by (first | omega | (simp only [st_s] <;> omega) | assumption | omega))⟩
  refine ⟨_, K_X13_next hT (show (σ.1 16) ≤ (σ.1 0) from by (first | omega | (simp only [st_s] <;> omega) | assumption | omega)), ?_⟩
  intro τ3 hn_τ3 hf_τ3 hq
  obtain ⟨hT, q1_1, q1_2, q1_3, q1_4, q1_5⟩ := hq
  replace q1_1 : (τ3.1 16) ≤ (τ3.1 0) := q1_1
  replace q1_2 : (τ3.1 17) + (τ3.1 18) ≤ (τ3.1 0) := q1_2
  replace q1_3 : (σ.1 16) ≤ (τ3.1 16) := q1_3
  replace q1_4 : ¬ (σ.1 20) = 0 → (τ3.1 20) = (σ.1 20) := q1_4
  replace q1_5 : (τ3.1 20) = 0 → ¬ (τ3.1 19) = 0 → (σ.1 16) < (τ3.1 16) ∧ 0 < (τ3.1 18) := q1_5
  have w0_τ3 : τ3.1 0 = σ.1 0 := hf_τ3.1 0 (by decide)
  have w14_τ3 : τ3.1 14 = σ.1 14 := hf_τ3.1 14 (by decide)
  have g6_τ3 : τ3.2.1 6 = σ.2.1 6 := hf_τ3.2.1 6 (by decide)
  have g7_τ3 : τ3.2.1 7 = σ.2.1 7 := hf_τ3.2.1 7 (by decide)
  have g37_τ3 : τ3.2.1 37 = σ.2.1 37 := hf_τ3.2.1 37 (by decide)
  first | (have o6_τ3 := congrArg oc g6_τ3) | skip
  first | (have o7_τ3 := congrArg oc g7_τ3) | skip
  have W0 : τ3.1 0 = σ.1 0 := by omega
  have G6 : τ3.2.1 6 = σ.2.1 6 := (g6_τ3).trans G6
  have G7 : τ3.2.1 7 = σ.2.1 7 := (g7_τ3).trans G7
  have A6 : ∀ j, (-1) ≤ τ3.2.1 6 j ∧ τ3.2.1 6 j ≤ 999 := fun j => hT.2 6 j
  have A7 : ∀ j, (-1) ≤ τ3.2.1 7 j ∧ τ3.2.1 7 j ≤ 1499 := fun j => hT.2 7 j
  have A37 : ∀ j, 0 ≤ τ3.2.1 37 j ∧ τ3.2.1 37 j ≤ 999 := fun j => hT.2 37 j
  have v0 : 0 ≤ τ3.1 0 ∧ τ3.1 0 ≤ 60000 := hT.1 0
  have v14 : 0 ≤ τ3.1 14 ∧ τ3.1 14 ≤ 1000 := hT.1 14
  have v16 : 0 ≤ τ3.1 16 ∧ τ3.1 16 ≤ 60000 := hT.1 16
  have v17 : 0 ≤ τ3.1 17 ∧ τ3.1 17 ≤ 60000 := hT.1 17
  have v18 : 0 ≤ τ3.1 18 ∧ τ3.1 18 ≤ 60000 := hT.1 18
  have v19 : (-1) ≤ τ3.1 19 ∧ τ3.1 19 ≤ 125 := hT.1 19
  have v20 : 0 ≤ τ3.1 20 ∧ τ3.1 20 ≤ 19 := hT.1 20
  exact l_6 ((3 * ((τ3.1 0) - (τ3.1 16)) + z_0 ((τ3.1 20)) + 1 - z_0 ((τ3.1 19)) : Int).toNat + 1) _ _ (show (3 * ((τ3.1 0) - (τ3.1 16)) + z_0 ((τ3.1 20)) + 1 - z_0 ((τ3.1 19)) : Int) < (((3 * ((τ3.1 0) - (τ3.1 16)) + z_0 ((τ3.1 20)) + 1 - z_0 ((τ3.1 19)) : Int).toNat + 1 : Nat) : Int) from by (have zz0 := z_e ((τ3.1 20)); have zz1 := z_e ((τ3.1 19)); (first | omega | (simp only [st_s] <;> omega) | assumption | omega))) hT (show τ3.1 0 = σ.1 0 from by omega) G6 G7 (show (τ3.1 16) ≤ (τ3.1 0) from by (first | omega | (simp only [st_s] <;> omega) | assumption | omega)) (show (τ3.1 17) + (τ3.1 18) ≤ (τ3.1 0) from by (first | omega | (simp only [st_s] <;> omega) | assumption | omega)) (show oc (τ3.2.1 6) < 4096 from by (first | omega | (simp only [st_s] <;> omega) | assumption | omega)) (show oc (τ3.2.1 7) < 4096 from by (first | omega | (simp only [st_s] <;> omega) | assumption | omega)) (show ¬ (σ.1 20) = 0 → (τ3.1 20) = (σ.1 20) from by (first | omega | (simp only [st_s] <;> omega) | assumption | omega)) (show 0 ≤ 0 from by (first | omega | (simp only [st_s] <;> omega) | assumption | omega)) (show j_in 0 1000 (τ3.2.1 37) from by (first | exact j_in0 _ _ | (rw [g37_τ69]; exact j_ins i192_7 (by omega) (by omega) (fun i h0 h1 => i192_16 (by omega) i h0 (by omega))) | (rw [g37_τ41]; assumption) | (rw [g37_τ48]; assumption) | (rw [g37_τ58]; assumption) | (rw [g37_τ73]; assumption) | assumption | (exfalso; omega))) (show (σ.1 16) ≤ (τ3.1 16) from by (first | omega | (simp only [st_s] <;> omega) | assumption | omega))
set_option maxHeartbeats 1000000 in
theorem K_X13_readFloating {σ : S0} (hT : m_T σ) (p1 : (σ.1 16) ≤ (σ.1 0)) (p2 : (σ.1 17) + (σ.1 18) ≤ (σ.1 0)) (p3 : oc (σ.2.1 6) < 4096) (p4 : oc (σ.2.1 7) < 4096) (p5 : σ.2.1 15 (σ.1 22) = 0) (p6 : (σ.1 22) = (σ.1 5)) (p7 : σ.2.1 14 (σ.1 22) + σ.2.1 15 (σ.1 22) = (σ.1 6)) (p8 : ca (σ.2.1 12) ((σ.1 3)) ≤ (σ.1 4)) (p9 : (σ.1 5) < 1500) (p10 : (σ.1 13) ≤ (σ.1 5)) : W_X13_readFloating σ (fun (τ : S0) => (m_T τ) ∧ ((τ.1 16) ≤ (τ.1 0)) ∧ ((τ.1 17) + (τ.1 18) ≤ (τ.1 0)) ∧ (¬ (σ.1 20) = 0 → (τ.1 20) = (σ.1 20)) ∧ (τ.2.1 14 (τ.1 22) + τ.2.1 15 (τ.1 22) = (τ.1 6)) ∧ (ca (τ.2.1 12) ((τ.1 3)) ≤ (τ.1 4)) ∧ ((τ.1 13) ≤ (τ.1 5)) ∧ ((τ.1 20) = 0 → (τ.1 5) = (σ.1 5) + 1 ∧ 2 ≤ τ.2.1 15 (τ.1 22)) ∧ ((τ.1 5) ≤ (σ.1 5) + 1) ∧ ((σ.1 16) ≤ (τ.1 16)) ∧ (m_ag σ τ)) := by
  have A6 : ∀ j, (-1) ≤ σ.2.1 6 j ∧ σ.2.1 6 j ≤ 999 := fun j => hT.2 6 j
  have A7 : ∀ j, (-1) ≤ σ.2.1 7 j ∧ σ.2.1 7 j ≤ 1499 := fun j => hT.2 7 j
  have A12 : ∀ j, 0 ≤ σ.2.1 12 j ∧ σ.2.1 12 j ≤ 1 := fun j => hT.2 12 j
  have A14 : ∀ j, 0 ≤ σ.2.1 14 j ∧ σ.2.1 14 j ≤ 30000 := fun j => hT.2 14 j
  have A15 : ∀ j, 0 ≤ σ.2.1 15 j ∧ σ.2.1 15 j ≤ 300 := fun j => hT.2 15 j
  have v0 : 0 ≤ σ.1 0 ∧ σ.1 0 ≤ 60000 := hT.1 0
  have v3 : 0 ≤ σ.1 3 ∧ σ.1 3 ≤ 1000 := hT.1 3
  have v4 : 0 ≤ σ.1 4 ∧ σ.1 4 ≤ 100 := hT.1 4
  have v5 : 0 ≤ σ.1 5 ∧ σ.1 5 ≤ 1500 := hT.1 5
  have v6 : 0 ≤ σ.1 6 ∧ σ.1 6 ≤ 30000 := hT.1 6
  have v7 : 0 ≤ σ.1 7 ∧ σ.1 7 ≤ 90000 := hT.1 7
  have v8 : 0 ≤ σ.1 8 ∧ σ.1 8 ≤ 20000 := hT.1 8
  have v9 : 0 ≤ σ.1 9 ∧ σ.1 9 ≤ 20000 := hT.1 9
  have v13 : 0 ≤ σ.1 13 ∧ σ.1 13 ≤ 1500 := hT.1 13
  have v16 : 0 ≤ σ.1 16 ∧ σ.1 16 ≤ 60000 := hT.1 16
  have v17 : 0 ≤ σ.1 17 ∧ σ.1 17 ≤ 60000 := hT.1 17
  have v18 : 0 ≤ σ.1 18 ∧ σ.1 18 ≤ 60000 := hT.1 18
  have v19 : (-1) ≤ σ.1 19 ∧ σ.1 19 ≤ 125 := hT.1 19
  have v20 : 0 ≤ σ.1 20 ∧ σ.1 20 ≤ 19 := hT.1 20
  have v22 : 0 ≤ σ.1 22 ∧ σ.1 22 ≤ 1499 := hT.1 22
  have a14_22 : 0 ≤ σ.2.1 14 (σ.1 22) ∧ σ.2.1 14 (σ.1 22) ≤ 30000 := hT.2 14 _
  have a15_22 : 0 ≤ σ.2.1 15 (σ.1 22) ∧ σ.2.1 15 (σ.1 22) ≤ 300 := hT.2 15 _
  have W0 : σ.1 0 = σ.1 0 := rfl
  have W3 : σ.1 3 = σ.1 3 := rfl
  have W7 : σ.1 7 = σ.1 7 := rfl
  have W8 : σ.1 8 = σ.1 8 := rfl
  have W9 : σ.1 9 = σ.1 9 := rfl
  have W22 : σ.1 22 = σ.1 22 := rfl
  have G6 : σ.2.1 6 = σ.2.1 6 := rfl
  have G7 : σ.2.1 7 = σ.2.1 7 := rfl
  have G14 : σ.2.1 14 = σ.2.1 14 := rfl
  have ag : m_ag σ σ := ag_0 σ
  intro P15 P47 P135 P158 P167 P211 P253 h15 h47 h135 h158 h167 h211 h253
  have Z1 : σ.2.1 14 (σ.1 22) + σ.2.1 15 (σ.1 22) = (σ.1 6) := p7
  have Y20 : ca (σ.2.1 12) ((σ.1 3)) ≤ (σ.1 4) := p8
  have l_253 : ∀ (u1_253 : Int) (u2_253 : Int) (τ_253 : S0), (m_T τ_253) → (m_ag σ τ_253) → (τ_253.1 0 = σ.1 0) → (τ_253.1 3 = σ.1 3) → (τ_253.1 7 = σ.1 7) → (τ_253.1 8 = σ.1 8) → (τ_253.1 9 = σ.1 9) → (τ_253.1 22 = σ.1 22) → (τ_253.2.1 6 = σ.2.1 6) → (τ_253.2.1 7 = σ.2.1 7) → (τ_253.2.1 14 = σ.2.1 14) → ((τ_253.1 16) ≤ (τ_253.1 0)) → ((τ_253.1 17) + (τ_253.1 18) ≤ (τ_253.1 0)) → (oc (τ_253.2.1 6) < 4096) → (oc (τ_253.2.1 7) < 4096) → (¬ (σ.1 20) = 0 → (τ_253.1 20) = (σ.1 20)) → (τ_253.2.1 14 (τ_253.1 22) + τ_253.2.1 15 (τ_253.1 22) = (τ_253.1 6)) → (ca (τ_253.2.1 12) ((τ_253.1 3)) ≤ (τ_253.1 4)) → ((τ_253.1 5) = (σ.1 5)) → ((τ_253.1 13) = (σ.1 13)) → (τ_253.2.1 15 (τ_253.1 22) ≤ 2) → ((σ.1 16) ≤ (τ_253.1 16)) → (-1 ≤ u1_253) → (u1_253 ≤ 999) → (0 ≤ u2_253) → (u2_253 ≤ 999) → (0 ≤ u1_253) → (τ_253.2.1 15 (τ_253.1 22) = 2) → P253 u1_253 u2_253 τ_253 := by
    intro u1_253 u2_253 τ_253 hT ag W0 W3 W7 W8 W9 W22 G6 G7 G14 i253_1 i253_2 i253_3 i253_4 i253_5 i253_6 i253_7 i253_8 i253_9 i253_10 i253_11 i253_12 i253_13 i253_14 i253_15 i253_16 i253_17
    have A6 : ∀ j, (-1) ≤ τ_253.2.1 6 j ∧ τ_253.2.1 6 j ≤ 999 := fun j => hT.2 6 j
    have A7 : ∀ j, (-1) ≤ τ_253.2.1 7 j ∧ τ_253.2.1 7 j ≤ 1499 := fun j => hT.2 7 j
    have A12 : ∀ j, 0 ≤ τ_253.2.1 12 j ∧ τ_253.2.1 12 j ≤ 1 := fun j => hT.2 12 j
    have A14 : ∀ j, 0 ≤ τ_253.2.1 14 j ∧ τ_253.2.1 14 j ≤ 30000 := fun j => hT.2 14 j
    have A15 : ∀ j, 0 ≤ τ_253.2.1 15 j ∧ τ_253.2.1 15 j ≤ 300 := fun j => hT.2 15 j
    have v0 : 0 ≤ τ_253.1 0 ∧ τ_253.1 0 ≤ 60000 := hT.1 0
    have v3 : 0 ≤ τ_253.1 3 ∧ τ_253.1 3 ≤ 1000 := hT.1 3
    have v4 : 0 ≤ τ_253.1 4 ∧ τ_253.1 4 ≤ 100 := hT.1 4
    have v5 : 0 ≤ τ_253.1 5 ∧ τ_253.1 5 ≤ 1500 := hT.1 5
    have v6 : 0 ≤ τ_253.1 6 ∧ τ_253.1 6 ≤ 30000 := hT.1 6
    have v7 : 0 ≤ τ_253.1 7 ∧ τ_253.1 7 ≤ 90000 := hT.1 7
    have v8 : 0 ≤ τ_253.1 8 ∧ τ_253.1 8 ≤ 20000 := hT.1 8
    have v9 : 0 ≤ τ_253.1 9 ∧ τ_253.1 9 ≤ 20000 := hT.1 9
    have v13 : 0 ≤ τ_253.1 13 ∧ τ_253.1 13 ≤ 1500 := hT.1 13
    have v16 : 0 ≤ τ_253.1 16 ∧ τ_253.1 16 ≤ 60000 := hT.1 16
    have v17 : 0 ≤ τ_253.1 17 ∧ τ_253.1 17 ≤ 60000 := hT.1 17
    have v18 : 0 ≤ τ_253.1 18 ∧ τ_253.1 18 ≤ 60000 := hT.1 18
    have v19 : (-1) ≤ τ_253.1 19 ∧ τ_253.1 19 ≤ 125 := hT.1 19
    have v20 : 0 ≤ τ_253.1 20 ∧ τ_253.1 20 ≤ 19 := hT.1 20
    have v22 : 0 ≤ τ_253.1 22 ∧ τ_253.1 22 ≤ 1499 := hT.1 22
    have a14_22 : 0 ≤ τ_253.2.1 14 (τ_253.1 22) ∧ τ_253.2.1 14 (τ_253.1 22) ≤ 30000 := hT.2 14 _
    have a15_22 : 0 ≤ τ_253.2.1 15 (τ_253.1 22) ∧ τ_253.2.1 15 (τ_253.1 22) ≤ 300 := hT.2 15 _
    have av5 : σ.1 5 ≤ τ_253.1 5 := ag.1 5 (by decide)
    have av6 : σ.1 6 ≤ τ_253.1 6 := ag.1 6 (by decide)
    have y14_22_τ_253 : τ_253.2.1 14 (τ_253.1 22) = σ.2.1 14 (σ.1 22) := by rw [G14, W22]
    have o6_τ_253 := congrArg oc G6
    have o7_τ_253 := congrArg oc G7
    have Z1 : τ_253.2.1 14 (τ_253.1 22) + τ_253.2.1 15 (τ_253.1 22) = (τ_253.1 6) := i253_6
    have Y20 : ca (τ_253.2.1 12) ((τ_253.1 3)) ≤ (τ_253.1 4) := i253_7
    refine h253 u1_253 u2_253 τ_253 ?_
    refine ⟨fun c74 => ?_, fun c74 => ?_⟩
    ·
      exact ⟨hT, (show (τ_253.1 16) ≤ (τ_253.1 0) from by (first | omega | (simp only [st_s] <;> omega) | assumption | omega)), (show (τ_253.1 17) + (τ_253.1 18) ≤ (τ_253.1 0) from by (first | omega | (simp only [st_s] <;> omega) | assumption | omega)), (show ¬ (σ.1 20) = 0 → (τ_253.1 20) = (σ.1 20) from by (first | omega | (simp only [st_s] <;> omega) | assumption | omega)), (show τ_253.2.1 14 (τ_253.1 22) + τ_253.2.1 15 (τ_253.1 22) = (τ_253.1 6) from Z1), (show ca (τ_253.2.1 12) ((τ_253.1 3)) ≤ (τ_253.1 4) from Y20), (show (τ_253.1 13) ≤ (τ_253.1 5) from by (first | omega | (simp only [st_s] <;> omega) | assumption | omega)), (show (τ_253.1 20) = 0 → (τ_253.1 5) = (σ.1 5) + 1 ∧ 2 ≤ τ_253.2.1 15 (τ_253.1 22) from by (first | omega | (simp only [st_s] <;> omega) | assumption | omega)), (show (τ_253.1 5) ≤ (σ.1 5) + 1 from by (first | omega | (simp only [st_s] <;> omega) | assumption | omega)), (show (σ.1 16) ≤ (τ_253.1 16) from by (first | omega | (simp only [st_s] <;> omega) | assumption | omega)), ag⟩
    ·
      refine ⟨(show 0 ≤ u1_253 ∧ u1_253 < 1001 from by (first | omega | (simp only [st_s] <;> omega) | assumption | omega)), ?_⟩
      replace ag := ag_a (k := 10) (e := u1_253) (x := u2_253) ag rfl
      replace hT := mT_a (k := 10) (j := u1_253) hT (show (-1 : Int) ≤ u2_253 ∧ u2_253 ≤ 999 from by (first | omega | (simp only [st_s] <;> omega) | assumption | omega))
      replace ag := ag_a (k := 11) (e := u1_253) (x := (τ_253.1 22)) ag rfl
      replace hT := mT_a (k := 11) (j := u1_253) hT (show (-1 : Int) ≤ (τ_253.1 22) ∧ (τ_253.1 22) ≤ 1499 from by (first | omega | (simp only [st_s] <;> omega) | assumption | omega))
      refine ⟨_, K_X13_finish hT (show 0 ≤ 0 from by (first | omega | (simp only [st_s] <;> omega) | assumption | omega)) (show 0 ≤ 4 from by (first | omega | (simp only [st_s] <;> omega) | assumption | omega)) (show (τ_253.1 5) < 1500 from by (first | omega | (simp only [st_s] <;> omega) | assumption | omega)) (show (τ_253.1 22) = (τ_253.1 5) from by (first | omega | (simp only [st_s] <;> omega) | assumption | omega)), ?_⟩
      intro τ78 hn_τ78 hf_τ78 hq
      obtain ⟨hT, q76_1, q76_2⟩ := hq
      replace q76_1 : (τ78.1 5) = (τ_253.1 5) + 1 := q76_1
      replace q76_2 : m_ag (s_a (s_a τ_253 10 u1_253 u2_253) 11 u1_253 (τ_253.1 22)) τ78 := q76_2
      replace ag : m_ag σ τ78 := ag_t ag q76_2 rfl
      have w0_τ78 : τ78.1 0 = τ_253.1 0 := hf_τ78.1 0 (by decide)
      have w3_τ78 : τ78.1 3 = τ_253.1 3 := hf_τ78.1 3 (by decide)
      have w4_τ78 : τ78.1 4 = τ_253.1 4 := hf_τ78.1 4 (by decide)
      have w6_τ78 : τ78.1 6 = τ_253.1 6 := hf_τ78.1 6 (by decide)
      have w7_τ78 : τ78.1 7 = τ_253.1 7 := hf_τ78.1 7 (by decide)
      have w8_τ78 : τ78.1 8 = τ_253.1 8 := hf_τ78.1 8 (by decide)
      have w9_τ78 : τ78.1 9 = τ_253.1 9 := hf_τ78.1 9 (by decide)
      have w13_τ78 : τ78.1 13 = τ_253.1 13 := hf_τ78.1 13 (by decide)
      have w16_τ78 : τ78.1 16 = τ_253.1 16 := hf_τ78.1 16 (by decide)
      have w17_τ78 : τ78.1 17 = τ_253.1 17 := hf_τ78.1 17 (by decide)
      have w18_τ78 : τ78.1 18 = τ_253.1 18 := hf_τ78.1 18 (by decide)
      have w19_τ78 : τ78.1 19 = τ_253.1 19 := hf_τ78.1 19 (by decide)
      have w20_τ78 : τ78.1 20 = τ_253.1 20 := hf_τ78.1 20 (by decide)
      have w22_τ78 : τ78.1 22 = τ_253.1 22 := hf_τ78.1 22 (by decide)
      have g6_τ78 : τ78.2.1 6 = τ_253.2.1 6 := hf_τ78.2.1 6 (by decide)
      have g7_τ78 : τ78.2.1 7 = τ_253.2.1 7 := hf_τ78.2.1 7 (by decide)
      have g12_τ78 : τ78.2.1 12 = τ_253.2.1 12 := hf_τ78.2.1 12 (by decide)
      have g14_τ78 : τ78.2.1 14 = τ_253.2.1 14 := hf_τ78.2.1 14 (by decide)
      have g15_τ78 : τ78.2.1 15 = τ_253.2.1 15 := hf_τ78.2.1 15 (by decide)
      first | (have o6_τ78 := congrArg oc g6_τ78) | skip
      first | (have o7_τ78 := congrArg oc g7_τ78) | skip
      have W0 : τ78.1 0 = σ.1 0 := by omega
      have W3 : τ78.1 3 = σ.1 3 := by omega
      have W7 : τ78.1 7 = σ.1 7 := by omega
      have W8 : τ78.1 8 = σ.1 8 := by omega
      have W9 : τ78.1 9 = σ.1 9 := by omega
      have W22 : τ78.1 22 = σ.1 22 := by omega
      have G6 : τ78.2.1 6 = σ.2.1 6 := (g6_τ78).trans G6
      have G7 : τ78.2.1 7 = σ.2.1 7 := (g7_τ78).trans G7
      have G14 : τ78.2.1 14 = σ.2.1 14 := (g14_τ78).trans G14
      have y14_22_τ78 : τ78.2.1 14 (τ78.1 22) = (τ_253.2.1 14) (τ_253.1 22) := by rw [g14_τ78, w22_τ78]
      have y15_22_τ78 : τ78.2.1 15 (τ78.1 22) = (τ_253.2.1 15) (τ_253.1 22) := by rw [g15_τ78, w22_τ78]
      have Z1 : τ78.2.1 14 (τ78.1 22) + τ78.2.1 15 (τ78.1 22) = (τ78.1 6) := by rw [show (τ78.2.1 14 (τ78.1 22) + τ78.2.1 15 (τ78.1 22) = (τ78.1 6)) = (τ_253.2.1 14 (τ_253.1 22) + τ_253.2.1 15 (τ_253.1 22) = (τ_253.1 6)) from by rw [w6_τ78, w22_τ78, g14_τ78, g15_τ78]]; exact Z1
      have Y20 : ca (τ78.2.1 12) ((τ78.1 3)) ≤ (τ78.1 4) := by rw [show (ca (τ78.2.1 12) ((τ78.1 3)) ≤ (τ78.1 4)) = (ca (τ_253.2.1 12) ((τ_253.1 3)) ≤ (τ_253.1 4)) from by rw [w3_τ78, w4_τ78, g12_τ78]]; exact Y20
      have A6 : ∀ j, (-1) ≤ τ78.2.1 6 j ∧ τ78.2.1 6 j ≤ 999 := fun j => hT.2 6 j
      have A7 : ∀ j, (-1) ≤ τ78.2.1 7 j ∧ τ78.2.1 7 j ≤ 1499 := fun j => hT.2 7 j
      have A12 : ∀ j, 0 ≤ τ78.2.1 12 j ∧ τ78.2.1 12 j ≤ 1 := fun j => hT.2 12 j
      have A14 : ∀ j, 0 ≤ τ78.2.1 14 j ∧ τ78.2.1 14 j ≤ 30000 := fun j => hT.2 14 j
      have A15 : ∀ j, 0 ≤ τ78.2.1 15 j ∧ τ78.2.1 15 j ≤ 300 := fun j => hT.2 15 j
      have v0 : 0 ≤ τ78.1 0 ∧ τ78.1 0 ≤ 60000 := hT.1 0
      have v3 : 0 ≤ τ78.1 3 ∧ τ78.1 3 ≤ 1000 := hT.1 3
      have v4 : 0 ≤ τ78.1 4 ∧ τ78.1 4 ≤ 100 := hT.1 4
      have v5 : 0 ≤ τ78.1 5 ∧ τ78.1 5 ≤ 1500 := hT.1 5
      have v6 : 0 ≤ τ78.1 6 ∧ τ78.1 6 ≤ 30000 := hT.1 6
      have v7 : 0 ≤ τ78.1 7 ∧ τ78.1 7 ≤ 90000 := hT.1 7
      have v8 : 0 ≤ τ78.1 8 ∧ τ78.1 8 ≤ 20000 := hT.1 8
      have v9 : 0 ≤ τ78.1 9 ∧ τ78.1 9 ≤ 20000 := hT.1 9
      have v13 : 0 ≤ τ78.1 13 ∧ τ78.1 13 ≤ 1500 := hT.1 13
      have v16 : 0 ≤ τ78.1 16 ∧ τ78.1 16 ≤ 60000 := hT.1 16
      have v17 : 0 ≤ τ78.1 17 ∧ τ78.1 17 ≤ 60000 := hT.1 17
      have v18 : 0 ≤ τ78.1 18 ∧ τ78.1 18 ≤ 60000 := hT.1 18
      have v19 : (-1) ≤ τ78.1 19 ∧ τ78.1 19 ≤ 125 := hT.1 19
      have v20 : 0 ≤ τ78.1 20 ∧ τ78.1 20 ≤ 19 := hT.1 20
      have v22 : 0 ≤ τ78.1 22 ∧ τ78.1 22 ≤ 1499 := hT.1 22
      have a14_22 : 0 ≤ τ78.2.1 14 (τ78.1 22) ∧ τ78.2.1 14 (τ78.1 22) ≤ 30000 := hT.2 14 _
      have a15_22 : 0 ≤ τ78.2.1 15 (τ78.1 22) ∧ τ78.2.1 15 (τ78.1 22) ≤ 300 := hT.2 15 _
      have av5 : σ.1 5 ≤ τ78.1 5 := ag.1 5 (by decide)
      have av6 : σ.1 6 ≤ τ78.1 6 := ag.1 6 (by decide)
      refine ⟨_, K_X13_activate hT (show (τ78.1 13) < 1500 from by (first | omega | (simp only [st_s] <;> omega) | assumption | omega)), ?_⟩
      intro τ81 hn_τ81 hf_τ81 hq
      obtain ⟨hT, q79_1⟩ := hq
      replace q79_1 : (τ81.1 13) = (τ78.1 13) + 1 := q79_1
      replace ag : m_ag σ τ81 := ag_r ag hf_τ81 rfl rfl
      have w0_τ81 : τ81.1 0 = τ78.1 0 := hf_τ81.1 0 (by decide)
      have w3_τ81 : τ81.1 3 = τ78.1 3 := hf_τ81.1 3 (by decide)
      have w4_τ81 : τ81.1 4 = τ78.1 4 := hf_τ81.1 4 (by decide)
      have w5_τ81 : τ81.1 5 = τ78.1 5 := hf_τ81.1 5 (by decide)
      have w6_τ81 : τ81.1 6 = τ78.1 6 := hf_τ81.1 6 (by decide)
      have w7_τ81 : τ81.1 7 = τ78.1 7 := hf_τ81.1 7 (by decide)
      have w8_τ81 : τ81.1 8 = τ78.1 8 := hf_τ81.1 8 (by decide)
      have w9_τ81 : τ81.1 9 = τ78.1 9 := hf_τ81.1 9 (by decide)
      have w16_τ81 : τ81.1 16 = τ78.1 16 := hf_τ81.1 16 (by decide)
      have w17_τ81 : τ81.1 17 = τ78.1 17 := hf_τ81.1 17 (by decide)
      have w18_τ81 : τ81.1 18 = τ78.1 18 := hf_τ81.1 18 (by decide)
      have w19_τ81 : τ81.1 19 = τ78.1 19 := hf_τ81.1 19 (by decide)
      have w20_τ81 : τ81.1 20 = τ78.1 20 := hf_τ81.1 20 (by decide)
      have w22_τ81 : τ81.1 22 = τ78.1 22 := hf_τ81.1 22 (by decide)
      have g6_τ81 : τ81.2.1 6 = τ78.2.1 6 := hf_τ81.2.1 6 (by decide)
      have g7_τ81 : τ81.2.1 7 = τ78.2.1 7 := hf_τ81.2.1 7 (by decide)
      have g12_τ81 : τ81.2.1 12 = τ78.2.1 12 := hf_τ81.2.1 12 (by decide)
      have g14_τ81 : τ81.2.1 14 = τ78.2.1 14 := hf_τ81.2.1 14 (by decide)
      have g15_τ81 : τ81.2.1 15 = τ78.2.1 15 := hf_τ81.2.1 15 (by decide)
      first | (have o6_τ81 := congrArg oc g6_τ81) | skip
      first | (have o7_τ81 := congrArg oc g7_τ81) | skip
      have W0 : τ81.1 0 = σ.1 0 := by omega
      have W3 : τ81.1 3 = σ.1 3 := by omega
      have W7 : τ81.1 7 = σ.1 7 := by omega
      have W8 : τ81.1 8 = σ.1 8 := by omega
      have W9 : τ81.1 9 = σ.1 9 := by omega
      have W22 : τ81.1 22 = σ.1 22 := by omega
      have G6 : τ81.2.1 6 = σ.2.1 6 := (g6_τ81).trans G6
      have G7 : τ81.2.1 7 = σ.2.1 7 := (g7_τ81).trans G7
      have G14 : τ81.2.1 14 = σ.2.1 14 := (g14_τ81).trans G14
      have y14_22_τ81 : τ81.2.1 14 (τ81.1 22) = (τ78.2.1 14) (τ78.1 22) := by rw [g14_τ81, w22_τ81]
      have y15_22_τ81 : τ81.2.1 15 (τ81.1 22) = (τ78.2.1 15) (τ78.1 22) := by rw [g15_τ81, w22_τ81]
      have Z1 : τ81.2.1 14 (τ81.1 22) + τ81.2.1 15 (τ81.1 22) = (τ81.1 6) := by rw [show (τ81.2.1 14 (τ81.1 22) + τ81.2.1 15 (τ81.1 22) = (τ81.1 6)) = (τ78.2.1 14 (τ78.1 22) + τ78.2.1 15 (τ78.1 22) = (τ78.1 6)) from by rw [w6_τ81, w22_τ81, g14_τ81, g15_τ81]]; exact Z1
      have Y20 : ca (τ81.2.1 12) ((τ81.1 3)) ≤ (τ81.1 4) := by rw [show (ca (τ81.2.1 12) ((τ81.1 3)) ≤ (τ81.1 4)) = (ca (τ78.2.1 12) ((τ78.1 3)) ≤ (τ78.1 4)) from by rw [w3_τ81, w4_τ81, g12_τ81]]; exact Y20
      have A6 : ∀ j, (-1) ≤ τ81.2.1 6 j ∧ τ81.2.1 6 j ≤ 999 := fun j => hT.2 6 j
      have A7 : ∀ j, (-1) ≤ τ81.2.1 7 j ∧ τ81.2.1 7 j ≤ 1499 := fun j => hT.2 7 j
      have A12 : ∀ j, 0 ≤ τ81.2.1 12 j ∧ τ81.2.1 12 j ≤ 1 := fun j => hT.2 12 j
      have A14 : ∀ j, 0 ≤ τ81.2.1 14 j ∧ τ81.2.1 14 j ≤ 30000 := fun j => hT.2 14 j
      have A15 : ∀ j, 0 ≤ τ81.2.1 15 j ∧ τ81.2.1 15 j ≤ 300 := fun j => hT.2 15 j
      have v0 : 0 ≤ τ81.1 0 ∧ τ81.1 0 ≤ 60000 := hT.1 0
      have v3 : 0 ≤ τ81.1 3 ∧ τ81.1 3 ≤ 1000 := hT.1 3
      have v4 : 0 ≤ τ81.1 4 ∧ τ81.1 4 ≤ 100 := hT.1 4
      have v5 : 0 ≤ τ81.1 5 ∧ τ81.1 5 ≤ 1500 := hT.1 5
      have v6 : 0 ≤ τ81.1 6 ∧ τ81.1 6 ≤ 30000 := hT.1 6
      have v7 : 0 ≤ τ81.1 7 ∧ τ81.1 7 ≤ 90000 := hT.1 7
      have v8 : 0 ≤ τ81.1 8 ∧ τ81.1 8 ≤ 20000 := hT.1 8
      have v9 : 0 ≤ τ81.1 9 ∧ τ81.1 9 ≤ 20000 := hT.1 9
      have v13 : 0 ≤ τ81.1 13 ∧ τ81.1 13 ≤ 1500 := hT.1 13
      have v16 : 0 ≤ τ81.1 16 ∧ τ81.1 16 ≤ 60000 := hT.1 16
      have v17 : 0 ≤ τ81.1 17 ∧ τ81.1 17 ≤ 60000 := hT.1 17
      have v18 : 0 ≤ τ81.1 18 ∧ τ81.1 18 ≤ 60000 := hT.1 18
      have v19 : (-1) ≤ τ81.1 19 ∧ τ81.1 19 ≤ 125 := hT.1 19
      have v20 : 0 ≤ τ81.1 20 ∧ τ81.1 20 ≤ 19 := hT.1 20
      have v22 : 0 ≤ τ81.1 22 ∧ τ81.1 22 ≤ 1499 := hT.1 22
      have a14_22 : 0 ≤ τ81.2.1 14 (τ81.1 22) ∧ τ81.2.1 14 (τ81.1 22) ≤ 30000 := hT.2 14 _
      have a15_22 : 0 ≤ τ81.2.1 15 (τ81.1 22) ∧ τ81.2.1 15 (τ81.1 22) ≤ 300 := hT.2 15 _
      have av5 : σ.1 5 ≤ τ81.1 5 := ag.1 5 (by decide)
      have av6 : σ.1 6 ≤ τ81.1 6 := ag.1 6 (by decide)
      exact ⟨hT, (show (τ81.1 16) ≤ (τ81.1 0) from by (first | omega | (simp only [st_s] <;> omega) | assumption | omega)), (show (τ81.1 17) + (τ81.1 18) ≤ (τ81.1 0) from by (first | omega | (simp only [st_s] <;> omega) | assumption | omega)), (show ¬ (σ.1 20) = 0 → (τ81.1 20) = (σ.1 20) from by (first | omega | (simp only [st_s] <;> omega) | assumption | omega)), (show τ81.2.1 14 (τ81.1 22) + τ81.2.1 15 (τ81.1 22) = (τ81.1 6) from Z1), (show ca (τ81.2.1 12) ((τ81.1 3)) ≤ (τ81.1 4) from Y20), (show (τ81.1 13) ≤ (τ81.1 5) from by (first | omega | (simp only [st_s] <;> omega) | assumption | omega)), (show (τ81.1 20) = 0 → (τ81.1 5) = (σ.1 5) + 1 ∧ 2 ≤ τ81.2.1 15 (τ81.1 22) from by (first | omega | (simp only [st_s] <;> omega) | assumption | omega)), (show (τ81.1 5) ≤ (σ.1 5) + 1 from by (first | omega | (simp only [st_s] <;> omega) | assumption | omega)), (show (σ.1 16) ≤ (τ81.1 16) from by (first | omega | (simp only [st_s] <;> omega) | assumption | omega)), ag⟩
  have l_211 : ∀ (u1_211 : Int) (u2_211 : Int) (τ_211 : S0), (m_T τ_211) → (m_ag σ τ_211) → (τ_211.1 0 = σ.1 0) → (τ_211.1 3 = σ.1 3) → (τ_211.1 7 = σ.1 7) → (τ_211.1 8 = σ.1 8) → (τ_211.1 9 = σ.1 9) → (τ_211.1 22 = σ.1 22) → (τ_211.2.1 6 = σ.2.1 6) → (τ_211.2.1 7 = σ.2.1 7) → (τ_211.2.1 14 = σ.2.1 14) → ((τ_211.1 16) ≤ (τ_211.1 0)) → ((τ_211.1 17) + (τ_211.1 18) ≤ (τ_211.1 0)) → (oc (τ_211.2.1 6) < 4096) → (oc (τ_211.2.1 7) < 4096) → (¬ (σ.1 20) = 0 → (τ_211.1 20) = (σ.1 20)) → (τ_211.2.1 14 (τ_211.1 22) + τ_211.2.1 15 (τ_211.1 22) = (τ_211.1 6)) → (ca (τ_211.2.1 12) ((τ_211.1 3)) ≤ (τ_211.1 4)) → ((τ_211.1 5) = (σ.1 5)) → ((τ_211.1 13) = (σ.1 13)) → (τ_211.2.1 15 (τ_211.1 22) ≤ 2) → ((σ.1 16) ≤ (τ_211.1 16)) → (-1 ≤ u1_211) → (u1_211 ≤ 999) → (0 ≤ u2_211) → (u2_211 ≤ 999) → ((τ_211.1 20) = 0 → 0 ≤ u1_211 ∧ τ_211.2.1 15 (τ_211.1 22) = 1 ∧ (τ_211.1 6) < 30000) → P211 u1_211 u2_211 τ_211 := by
    intro u1_211 u2_211 τ_211 hT ag W0 W3 W7 W8 W9 W22 G6 G7 G14 i211_1 i211_2 i211_3 i211_4 i211_5 i211_6 i211_7 i211_8 i211_9 i211_10 i211_11 i211_12 i211_13 i211_14 i211_15 i211_16
    have A6 : ∀ j, (-1) ≤ τ_211.2.1 6 j ∧ τ_211.2.1 6 j ≤ 999 := fun j => hT.2 6 j
    have A7 : ∀ j, (-1) ≤ τ_211.2.1 7 j ∧ τ_211.2.1 7 j ≤ 1499 := fun j => hT.2 7 j
    have A12 : ∀ j, 0 ≤ τ_211.2.1 12 j ∧ τ_211.2.1 12 j ≤ 1 := fun j => hT.2 12 j
    have A14 : ∀ j, 0 ≤ τ_211.2.1 14 j ∧ τ_211.2.1 14 j ≤ 30000 := fun j => hT.2 14 j
    have A15 : ∀ j, 0 ≤ τ_211.2.1 15 j ∧ τ_211.2.1 15 j ≤ 300 := fun j => hT.2 15 j
    have v0 : 0 ≤ τ_211.1 0 ∧ τ_211.1 0 ≤ 60000 := hT.1 0
    have v3 : 0 ≤ τ_211.1 3 ∧ τ_211.1 3 ≤ 1000 := hT.1 3
    have v4 : 0 ≤ τ_211.1 4 ∧ τ_211.1 4 ≤ 100 := hT.1 4
    have v5 : 0 ≤ τ_211.1 5 ∧ τ_211.1 5 ≤ 1500 := hT.1 5
    have v6 : 0 ≤ τ_211.1 6 ∧ τ_211.1 6 ≤ 30000 := hT.1 6
    have v7 : 0 ≤ τ_211.1 7 ∧ τ_211.1 7 ≤ 90000 := hT.1 7
    have v8 : 0 ≤ τ_211.1 8 ∧ τ_211.1 8 ≤ 20000 := hT.1 8
    have v9 : 0 ≤ τ_211.1 9 ∧ τ_211.1 9 ≤ 20000 := hT.1 9
    have v13 : 0 ≤ τ_211.1 13 ∧ τ_211.1 13 ≤ 1500 := hT.1 13
    have v16 : 0 ≤ τ_211.1 16 ∧ τ_211.1 16 ≤ 60000 := hT.1 16
    have v17 : 0 ≤ τ_211.1 17 ∧ τ_211.1 17 ≤ 60000 := hT.1 17
    have v18 : 0 ≤ τ_211.1 18 ∧ τ_211.1 18 ≤ 60000 := hT.1 18
    have v19 : (-1) ≤ τ_211.1 19 ∧ τ_211.1 19 ≤ 125 := hT.1 19
    have v20 : 0 ≤ τ_211.1 20 ∧ τ_211.1 20 ≤ 19 := hT.1 20
    have v22 : 0 ≤ τ_211.1 22 ∧ τ_211.1 22 ≤ 1499 := hT.1 22
    have a14_22 : 0 ≤ τ_211.2.1 14 (τ_211.1 22) ∧ τ_211.2.1 14 (τ_211.1 22) ≤ 30000 := hT.2 14 _
    have a15_22 : 0 ≤ τ_211.2.1 15 (τ_211.1 22) ∧ τ_211.2.1 15 (τ_211.1 22) ≤ 300 := hT.2 15 _
    have av5 : σ.1 5 ≤ τ_211.1 5 := ag.1 5 (by decide)
    have av6 : σ.1 6 ≤ τ_211.1 6 := ag.1 6 (by decide)
    have y14_22_τ_211 : τ_211.2.1 14 (τ_211.1 22) = σ.2.1 14 (σ.1 22) := by rw [G14, W22]
    have o6_τ_211 := congrArg oc G6
    have o7_τ_211 := congrArg oc G7
    have Z1 : τ_211.2.1 14 (τ_211.1 22) + τ_211.2.1 15 (τ_211.1 22) = (τ_211.1 6) := i211_6
    have Y20 : ca (τ_211.2.1 12) ((τ_211.1 3)) ≤ (τ_211.1 4) := i211_7
    refine h211 u1_211 u2_211 τ_211 ?_
    refine ⟨fun c46 => ?_, fun c46 => ?_⟩
    ·
      refine ⟨_, K_X13_addSymbol hT (show 0 ≤ u1_211 from by (first | omega | (simp only [st_s] <;> omega) | assumption | omega)) (show u1_211 < 1000 from by (first | omega | (simp only [st_s] <;> omega) | assumption | omega)) (show -1 ≤ (τ_211.1 22) from by (first | omega | (simp only [st_s] <;> omega) | assumption | omega)) (show (τ_211.1 22) ≤ 1499 from by (first | omega | (simp only [st_s] <;> omega) | assumption | omega)) (show (τ_211.1 6) < 30000 from by (first | omega | (simp only [st_s] <;> omega) | assumption | omega)) (show τ_211.2.1 15 (τ_211.1 22) < 300 from by (first | omega | (simp only [st_s] <;> omega) | assumption | omega)) (show (τ_211.1 22) = (τ_211.1 5) from by (first | omega | (simp only [st_s] <;> omega) | assumption | omega)), ?_⟩
      intro τ49 hn_τ49 hf_τ49 hq
      obtain ⟨hT, q47_1, q47_2, q47_3⟩ := hq
      replace q47_1 : (τ49.1 6) = (τ_211.1 6) + 1 := q47_1
      replace q47_2 : τ49.2.1 15 (τ49.1 22) = τ_211.2.1 15 (τ_211.1 22) + 1 := q47_2
      replace q47_3 : m_ag τ_211 τ49 := q47_3
      replace ag : m_ag σ τ49 := ag_t ag q47_3 rfl
      have w0_τ49 : τ49.1 0 = τ_211.1 0 := hf_τ49.1 0 (by decide)
      have w3_τ49 : τ49.1 3 = τ_211.1 3 := hf_τ49.1 3 (by decide)
      have w4_τ49 : τ49.1 4 = τ_211.1 4 := hf_τ49.1 4 (by decide)
      have w5_τ49 : τ49.1 5 = τ_211.1 5 := hf_τ49.1 5 (by decide)
      have w7_τ49 : τ49.1 7 = τ_211.1 7 := hf_τ49.1 7 (by decide)
      have w8_τ49 : τ49.1 8 = τ_211.1 8 := hf_τ49.1 8 (by decide)
      have w9_τ49 : τ49.1 9 = τ_211.1 9 := hf_τ49.1 9 (by decide)
      have w13_τ49 : τ49.1 13 = τ_211.1 13 := hf_τ49.1 13 (by decide)
      have w16_τ49 : τ49.1 16 = τ_211.1 16 := hf_τ49.1 16 (by decide)
      have w17_τ49 : τ49.1 17 = τ_211.1 17 := hf_τ49.1 17 (by decide)
      have w18_τ49 : τ49.1 18 = τ_211.1 18 := hf_τ49.1 18 (by decide)
      have w19_τ49 : τ49.1 19 = τ_211.1 19 := hf_τ49.1 19 (by decide)
      have w20_τ49 : τ49.1 20 = τ_211.1 20 := hf_τ49.1 20 (by decide)
      have w22_τ49 : τ49.1 22 = τ_211.1 22 := hf_τ49.1 22 (by decide)
      have g6_τ49 : τ49.2.1 6 = τ_211.2.1 6 := hf_τ49.2.1 6 (by decide)
      have g7_τ49 : τ49.2.1 7 = τ_211.2.1 7 := hf_τ49.2.1 7 (by decide)
      have g12_τ49 : τ49.2.1 12 = τ_211.2.1 12 := hf_τ49.2.1 12 (by decide)
      have g14_τ49 : τ49.2.1 14 = τ_211.2.1 14 := hf_τ49.2.1 14 (by decide)
      first | (have o6_τ49 := congrArg oc g6_τ49) | skip
      first | (have o7_τ49 := congrArg oc g7_τ49) | skip
      have W0 : τ49.1 0 = σ.1 0 := by omega
      have W3 : τ49.1 3 = σ.1 3 := by omega
      have W7 : τ49.1 7 = σ.1 7 := by omega
      have W8 : τ49.1 8 = σ.1 8 := by omega
      have W9 : τ49.1 9 = σ.1 9 := by omega
      have W22 : τ49.1 22 = σ.1 22 := by omega
      have G6 : τ49.2.1 6 = σ.2.1 6 := (g6_τ49).trans G6
      have G7 : τ49.2.1 7 = σ.2.1 7 := (g7_τ49).trans G7
      have G14 : τ49.2.1 14 = σ.2.1 14 := (g14_τ49).trans G14
      have y14_22_τ49 : τ49.2.1 14 (τ49.1 22) = (τ_211.2.1 14) (τ_211.1 22) := by rw [g14_τ49, w22_τ49]
      have Y20 : ca (τ49.2.1 12) ((τ49.1 3)) ≤ (τ49.1 4) := by rw [show (ca (τ49.2.1 12) ((τ49.1 3)) ≤ (τ49.1 4)) = (ca (τ_211.2.1 12) ((τ_211.1 3)) ≤ (τ_211.1 4)) from by rw [w3_τ49, w4_τ49, g12_τ49]]; exact Y20
      have A6 : ∀ j, (-1) ≤ τ49.2.1 6 j ∧ τ49.2.1 6 j ≤ 999 := fun j => hT.2 6 j
      have A7 : ∀ j, (-1) ≤ τ49.2.1 7 j ∧ τ49.2.1 7 j ≤ 1499 := fun j => hT.2 7 j
      have A12 : ∀ j, 0 ≤ τ49.2.1 12 j ∧ τ49.2.1 12 j ≤ 1 := fun j => hT.2 12 j
      have A14 : ∀ j, 0 ≤ τ49.2.1 14 j ∧ τ49.2.1 14 j ≤ 30000 := fun j => hT.2 14 j
      have A15 : ∀ j, 0 ≤ τ49.2.1 15 j ∧ τ49.2.1 15 j ≤ 300 := fun j => hT.2 15 j
      have v0 : 0 ≤ τ49.1 0 ∧ τ49.1 0 ≤ 60000 := hT.1 0
      have v3 : 0 ≤ τ49.1 3 ∧ τ49.1 3 ≤ 1000 := hT.1 3
      have v4 : 0 ≤ τ49.1 4 ∧ τ49.1 4 ≤ 100 := hT.1 4
      have v5 : 0 ≤ τ49.1 5 ∧ τ49.1 5 ≤ 1500 := hT.1 5
      have v6 : 0 ≤ τ49.1 6 ∧ τ49.1 6 ≤ 30000 := hT.1 6
      have v7 : 0 ≤ τ49.1 7 ∧ τ49.1 7 ≤ 90000 := hT.1 7
      have v8 : 0 ≤ τ49.1 8 ∧ τ49.1 8 ≤ 20000 := hT.1 8
      have v9 : 0 ≤ τ49.1 9 ∧ τ49.1 9 ≤ 20000 := hT.1 9
      have v13 : 0 ≤ τ49.1 13 ∧ τ49.1 13 ≤ 1500 := hT.1 13
      have v16 : 0 ≤ τ49.1 16 ∧ τ49.1 16 ≤ 60000 := hT.1 16
      have v17 : 0 ≤ τ49.1 17 ∧ τ49.1 17 ≤ 60000 := hT.1 17
      have v18 : 0 ≤ τ49.1 18 ∧ τ49.1 18 ≤ 60000 := hT.1 18
      have v19 : (-1) ≤ τ49.1 19 ∧ τ49.1 19 ≤ 125 := hT.1 19
      have v20 : 0 ≤ τ49.1 20 ∧ τ49.1 20 ≤ 19 := hT.1 20
      have v22 : 0 ≤ τ49.1 22 ∧ τ49.1 22 ≤ 1499 := hT.1 22
      have a14_22 : 0 ≤ τ49.2.1 14 (τ49.1 22) ∧ τ49.2.1 14 (τ49.1 22) ≤ 30000 := hT.2 14 _
      have a15_22 : 0 ≤ τ49.2.1 15 (τ49.1 22) ∧ τ49.2.1 15 (τ49.1 22) ≤ 300 := hT.2 15 _
      have av5 : σ.1 5 ≤ τ49.1 5 := ag.1 5 (by decide)
      have av6 : σ.1 6 ≤ τ49.1 6 := ag.1 6 (by decide)
      have Z1 : τ49.2.1 14 (τ49.1 22) + τ49.2.1 15 (τ49.1 22) = τ49.1 6 := by omega
      refine ⟨_, K_X13_next hT (show (τ49.1 16) ≤ (τ49.1 0) from by (first | omega | (simp only [st_s] <;> omega) | assumption | omega)), ?_⟩
      intro τ52 hn_τ52 hf_τ52 hq
      obtain ⟨hT, q50_1, q50_2, q50_3, q50_4, q50_5⟩ := hq
      replace q50_1 : (τ52.1 16) ≤ (τ52.1 0) := q50_1
      replace q50_2 : (τ52.1 17) + (τ52.1 18) ≤ (τ52.1 0) := q50_2
      replace q50_3 : (τ49.1 16) ≤ (τ52.1 16) := q50_3
      replace q50_4 : ¬ (τ49.1 20) = 0 → (τ52.1 20) = (τ49.1 20) := q50_4
      replace q50_5 : (τ52.1 20) = 0 → ¬ (τ52.1 19) = 0 → (τ49.1 16) < (τ52.1 16) ∧ 0 < (τ52.1 18) := q50_5
      replace ag : m_ag σ τ52 := ag_r ag hf_τ52 rfl rfl
      have w0_τ52 : τ52.1 0 = τ49.1 0 := hf_τ52.1 0 (by decide)
      have w3_τ52 : τ52.1 3 = τ49.1 3 := hf_τ52.1 3 (by decide)
      have w4_τ52 : τ52.1 4 = τ49.1 4 := hf_τ52.1 4 (by decide)
      have w5_τ52 : τ52.1 5 = τ49.1 5 := hf_τ52.1 5 (by decide)
      have w6_τ52 : τ52.1 6 = τ49.1 6 := hf_τ52.1 6 (by decide)
      have w7_τ52 : τ52.1 7 = τ49.1 7 := hf_τ52.1 7 (by decide)
      have w8_τ52 : τ52.1 8 = τ49.1 8 := hf_τ52.1 8 (by decide)
      have w9_τ52 : τ52.1 9 = τ49.1 9 := hf_τ52.1 9 (by decide)
      have w13_τ52 : τ52.1 13 = τ49.1 13 := hf_τ52.1 13 (by decide)
      have w22_τ52 : τ52.1 22 = τ49.1 22 := hf_τ52.1 22 (by decide)
      have g6_τ52 : τ52.2.1 6 = τ49.2.1 6 := hf_τ52.2.1 6 (by decide)
      have g7_τ52 : τ52.2.1 7 = τ49.2.1 7 := hf_τ52.2.1 7 (by decide)
      have g12_τ52 : τ52.2.1 12 = τ49.2.1 12 := hf_τ52.2.1 12 (by decide)
      have g14_τ52 : τ52.2.1 14 = τ49.2.1 14 := hf_τ52.2.1 14 (by decide)
      have g15_τ52 : τ52.2.1 15 = τ49.2.1 15 := hf_τ52.2.1 15 (by decide)
      first | (have o6_τ52 := congrArg oc g6_τ52) | skip
      first | (have o7_τ52 := congrArg oc g7_τ52) | skip
      have W0 : τ52.1 0 = σ.1 0 := by omega
      have W3 : τ52.1 3 = σ.1 3 := by omega
      have W7 : τ52.1 7 = σ.1 7 := by omega
      have W8 : τ52.1 8 = σ.1 8 := by omega
      have W9 : τ52.1 9 = σ.1 9 := by omega
      have W22 : τ52.1 22 = σ.1 22 := by omega
      have G6 : τ52.2.1 6 = σ.2.1 6 := (g6_τ52).trans G6
      have G7 : τ52.2.1 7 = σ.2.1 7 := (g7_τ52).trans G7
      have G14 : τ52.2.1 14 = σ.2.1 14 := (g14_τ52).trans G14
      have y14_22_τ52 : τ52.2.1 14 (τ52.1 22) = (τ49.2.1 14) (τ49.1 22) := by rw [g14_τ52, w22_τ52]
      have y15_22_τ52 : τ52.2.1 15 (τ52.1 22) = (τ49.2.1 15) (τ49.1 22) := by rw [g15_τ52, w22_τ52]
      have Z1 : τ52.2.1 14 (τ52.1 22) + τ52.2.1 15 (τ52.1 22) = (τ52.1 6) := by rw [show (τ52.2.1 14 (τ52.1 22) + τ52.2.1 15 (τ52.1 22) = (τ52.1 6)) = (τ49.2.1 14 (τ49.1 22) + τ49.2.1 15 (τ49.1 22) = (τ49.1 6)) from by rw [w6_τ52, w22_τ52, g14_τ52, g15_τ52]]; exact Z1
      have Y20 : ca (τ52.2.1 12) ((τ52.1 3)) ≤ (τ52.1 4) := by rw [show (ca (τ52.2.1 12) ((τ52.1 3)) ≤ (τ52.1 4)) = (ca (τ49.2.1 12) ((τ49.1 3)) ≤ (τ49.1 4)) from by rw [w3_τ52, w4_τ52, g12_τ52]]; exact Y20
      have A6 : ∀ j, (-1) ≤ τ52.2.1 6 j ∧ τ52.2.1 6 j ≤ 999 := fun j => hT.2 6 j
      have A7 : ∀ j, (-1) ≤ τ52.2.1 7 j ∧ τ52.2.1 7 j ≤ 1499 := fun j => hT.2 7 j
      have A12 : ∀ j, 0 ≤ τ52.2.1 12 j ∧ τ52.2.1 12 j ≤ 1 := fun j => hT.2 12 j
      have A14 : ∀ j, 0 ≤ τ52.2.1 14 j ∧ τ52.2.1 14 j ≤ 30000 := fun j => hT.2 14 j
      have A15 : ∀ j, 0 ≤ τ52.2.1 15 j ∧ τ52.2.1 15 j ≤ 300 := fun j => hT.2 15 j
      have v0 : 0 ≤ τ52.1 0 ∧ τ52.1 0 ≤ 60000 := hT.1 0
      have v3 : 0 ≤ τ52.1 3 ∧ τ52.1 3 ≤ 1000 := hT.1 3
      have v4 : 0 ≤ τ52.1 4 ∧ τ52.1 4 ≤ 100 := hT.1 4
      have v5 : 0 ≤ τ52.1 5 ∧ τ52.1 5 ≤ 1500 := hT.1 5
      have v6 : 0 ≤ τ52.1 6 ∧ τ52.1 6 ≤ 30000 := hT.1 6
      have v7 : 0 ≤ τ52.1 7 ∧ τ52.1 7 ≤ 90000 := hT.1 7
      have v8 : 0 ≤ τ52.1 8 ∧ τ52.1 8 ≤ 20000 := hT.1 8
      have v9 : 0 ≤ τ52.1 9 ∧ τ52.1 9 ≤ 20000 := hT.1 9
      have v13 : 0 ≤ τ52.1 13 ∧ τ52.1 13 ≤ 1500 := hT.1 13
      have v16 : 0 ≤ τ52.1 16 ∧ τ52.1 16 ≤ 60000 := hT.1 16
      have v17 : 0 ≤ τ52.1 17 ∧ τ52.1 17 ≤ 60000 := hT.1 17
      have v18 : 0 ≤ τ52.1 18 ∧ τ52.1 18 ≤ 60000 := hT.1 18
      have v19 : (-1) ≤ τ52.1 19 ∧ τ52.1 19 ≤ 125 := hT.1 19
      have v20 : 0 ≤ τ52.1 20 ∧ τ52.1 20 ≤ 19 := hT.1 20
      have v22 : 0 ≤ τ52.1 22 ∧ τ52.1 22 ≤ 1499 := hT.1 22
      have a14_22 : 0 ≤ τ52.2.1 14 (τ52.1 22) ∧ τ52.2.1 14 (τ52.1 22) ≤ 30000 := hT.2 14 _
      have a15_22 : 0 ≤ τ52.2.1 15 (τ52.1 22) ∧ τ52.2.1 15 (τ52.1 22) ≤ 300 := hT.2 15 _
      have av5 : σ.1 5 ≤ τ52.1 5 := ag.1 5 (by decide)
      have av6 : σ.1 6 ≤ τ52.1 6 := ag.1 6 (by decide)
      refine ⟨fun c53 => ?_, fun c53 => ?_⟩
      ·
        exact l_253 _ _ _ hT ag (show τ52.1 0 = σ.1 0 from by omega) (show τ52.1 3 = σ.1 3 from by omega) (show τ52.1 7 = σ.1 7 from by omega) (show τ52.1 8 = σ.1 8 from by omega) (show τ52.1 9 = σ.1 9 from by omega) (show τ52.1 22 = σ.1 22 from by omega) G6 G7 G14 (show (τ52.1 16) ≤ (τ52.1 0) from by (first | omega | (simp only [st_s] <;> omega) | assumption | omega)) (show (τ52.1 17) + (τ52.1 18) ≤ (τ52.1 0) from by (first | omega | (simp only [st_s] <;> omega) | assumption | omega)) (show oc (τ52.2.1 6) < 4096 from by (first | omega | (simp only [st_s] <;> omega) | assumption | omega)) (show oc (τ52.2.1 7) < 4096 from by (first | omega | (simp only [st_s] <;> omega) | assumption | omega)) (show ¬ (σ.1 20) = 0 → (τ52.1 20) = (σ.1 20) from by (first | omega | (simp only [st_s] <;> omega) | assumption | omega)) (show τ52.2.1 14 (τ52.1 22) + τ52.2.1 15 (τ52.1 22) = (τ52.1 6) from Z1) (show ca (τ52.2.1 12) ((τ52.1 3)) ≤ (τ52.1 4) from Y20) (show (τ52.1 5) = (σ.1 5) from by (first | omega | (simp only [st_s] <;> omega) | assumption | omega)) (show (τ52.1 13) = (σ.1 13) from by (first | omega | (simp only [st_s] <;> omega) | assumption | omega)) (show τ52.2.1 15 (τ52.1 22) ≤ 2 from by (first | omega | (simp only [st_s] <;> omega) | assumption | omega)) (show (σ.1 16) ≤ (τ52.1 16) from by (first | omega | (simp only [st_s] <;> omega) | assumption | omega)) (show -1 ≤ u1_211 from by (first | omega | (simp only [st_s] <;> omega) | assumption | omega)) (show u1_211 ≤ 999 from by (first | omega | (simp only [st_s] <;> omega) | assumption | omega)) (show 0 ≤ u2_211 from by (first | omega | (simp only [st_s] <;> omega) | assumption | omega)) (show u2_211 ≤ 999 from by (first | omega | (simp only [st_s] <;> omega) | assumption | omega)) (show 0 ≤ u1_211 from by (first | omega | (simp only [st_s] <;> omega) | assumption | omega)) (show τ52.2.1 15 (τ52.1 22) = 2 from by (first | omega | (simp only [st_s] <;> omega) | assumption | omega))
      ·
        refine ⟨fun c54 => ?_, fun c54 => ?_⟩
        ·
          exact l_253 _ _ _ hT ag (show τ52.1 0 = σ.1 0 from by omega) (show τ52.1 3 = σ.1 3 from by omega) (show τ52.1 7 = σ.1 7 from by omega) (show τ52.1 8 = σ.1 8 from by omega) (show τ52.1 9 = σ.1 9 from by omega) (show τ52.1 22 = σ.1 22 from by omega) G6 G7 G14 (show (τ52.1 16) ≤ (τ52.1 0) from by (first | omega | (simp only [st_s] <;> omega) | assumption | omega)) (show (τ52.1 17) + (τ52.1 18) ≤ (τ52.1 0) from by (first | omega | (simp only [st_s] <;> omega) | assumption | omega)) (show oc (τ52.2.1 6) < 4096 from by (first | omega | (simp only [st_s] <;> omega) | assumption | omega)) (show oc (τ52.2.1 7) < 4096 from by (first | omega | (simp only [st_s] <;> omega) | assumption | omega)) (show ¬ (σ.1 20) = 0 → (τ52.1 20) = (σ.1 20) from by (first | omega | (simp only [st_s] <;> omega) | assumption | omega)) (show τ52.2.1 14 (τ52.1 22) + τ52.2.1 15 (τ52.1 22) = (τ52.1 6) from Z1) (show ca (τ52.2.1 12) ((τ52.1 3)) ≤ (τ52.1 4) from Y20) (show (τ52.1 5) = (σ.1 5) from by (first | omega | (simp only [st_s] <;> omega) | assumption | omega)) (show (τ52.1 13) = (σ.1 13) from by (first | omega | (simp only [st_s] <;> omega) | assumption | omega)) (show τ52.2.1 15 (τ52.1 22) ≤ 2 from by (first | omega | (simp only [st_s] <;> omega) | assumption | omega)) (show (σ.1 16) ≤ (τ52.1 16) from by (first | omega | (simp only [st_s] <;> omega) | assumption | omega)) (show -1 ≤ u1_211 from by (first | omega | (simp only [st_s] <;> omega) | assumption | omega)) (show u1_211 ≤ 999 from by (first | omega | (simp only [st_s] <;> omega) | assumption | omega)) (show 0 ≤ u2_211 from by (first | omega | (simp only [st_s] <;> omega) | assumption | omega)) (show u2_211 ≤ 999 from by (first | omega | (simp only [st_s] <;> omega) | assumption | omega)) (show 0 ≤ u1_211 from by (first | omega | (simp only [st_s] <;> omega) | assumption | omega)) (show τ52.2.1 15 (τ52.1 22) = 2 from by (first | omega | (simp only [st_s] <;> omega) | assumption | omega))
        ·
          refine ⟨_, K_X13_failHere hT (show 0 ≤ 4 from by (first | omega | (simp only [st_s] <;> omega) | assumption | omega)) (show 4 ≤ 19 from by (first | omega | (simp only [st_s] <;> omega) | assumption | omega)), ?_⟩
          intro τ57 hn_τ57 hf_τ57 hq
          obtain ⟨hT, q55_1, q55_2⟩ := hq
          replace q55_1 : ¬ (τ52.1 20) = 0 → (τ57.1 20) = (τ52.1 20) := q55_1
          replace q55_2 : (τ52.1 20) = 0 → (τ57.1 20) = 4 := q55_2
          replace ag : m_ag σ τ57 := ag_r ag hf_τ57 rfl rfl
          have w0_τ57 : τ57.1 0 = τ52.1 0 := hf_τ57.1 0 (by decide)
          have w3_τ57 : τ57.1 3 = τ52.1 3 := hf_τ57.1 3 (by decide)
          have w4_τ57 : τ57.1 4 = τ52.1 4 := hf_τ57.1 4 (by decide)
          have w5_τ57 : τ57.1 5 = τ52.1 5 := hf_τ57.1 5 (by decide)
          have w6_τ57 : τ57.1 6 = τ52.1 6 := hf_τ57.1 6 (by decide)
          have w7_τ57 : τ57.1 7 = τ52.1 7 := hf_τ57.1 7 (by decide)
          have w8_τ57 : τ57.1 8 = τ52.1 8 := hf_τ57.1 8 (by decide)
          have w9_τ57 : τ57.1 9 = τ52.1 9 := hf_τ57.1 9 (by decide)
          have w13_τ57 : τ57.1 13 = τ52.1 13 := hf_τ57.1 13 (by decide)
          have w16_τ57 : τ57.1 16 = τ52.1 16 := hf_τ57.1 16 (by decide)
          have w17_τ57 : τ57.1 17 = τ52.1 17 := hf_τ57.1 17 (by decide)
          have w18_τ57 : τ57.1 18 = τ52.1 18 := hf_τ57.1 18 (by decide)
          have w19_τ57 : τ57.1 19 = τ52.1 19 := hf_τ57.1 19 (by decide)
          have w22_τ57 : τ57.1 22 = τ52.1 22 := hf_τ57.1 22 (by decide)
          have g6_τ57 : τ57.2.1 6 = τ52.2.1 6 := hf_τ57.2.1 6 (by decide)
          have g7_τ57 : τ57.2.1 7 = τ52.2.1 7 := hf_τ57.2.1 7 (by decide)
          have g12_τ57 : τ57.2.1 12 = τ52.2.1 12 := hf_τ57.2.1 12 (by decide)
          have g14_τ57 : τ57.2.1 14 = τ52.2.1 14 := hf_τ57.2.1 14 (by decide)
          have g15_τ57 : τ57.2.1 15 = τ52.2.1 15 := hf_τ57.2.1 15 (by decide)
          first | (have o6_τ57 := congrArg oc g6_τ57) | skip
          first | (have o7_τ57 := congrArg oc g7_τ57) | skip
          have W0 : τ57.1 0 = σ.1 0 := by omega
          have W3 : τ57.1 3 = σ.1 3 := by omega
          have W7 : τ57.1 7 = σ.1 7 := by omega
          have W8 : τ57.1 8 = σ.1 8 := by omega
          have W9 : τ57.1 9 = σ.1 9 := by omega
          have W22 : τ57.1 22 = σ.1 22 := by omega
          have G6 : τ57.2.1 6 = σ.2.1 6 := (g6_τ57).trans G6
          have G7 : τ57.2.1 7 = σ.2.1 7 := (g7_τ57).trans G7
          have G14 : τ57.2.1 14 = σ.2.1 14 := (g14_τ57).trans G14
          have y14_22_τ57 : τ57.2.1 14 (τ57.1 22) = (τ52.2.1 14) (τ52.1 22) := by rw [g14_τ57, w22_τ57]
          have y15_22_τ57 : τ57.2.1 15 (τ57.1 22) = (τ52.2.1 15) (τ52.1 22) := by rw [g15_τ57, w22_τ57]
          have Z1 : τ57.2.1 14 (τ57.1 22) + τ57.2.1 15 (τ57.1 22) = (τ57.1 6) := by rw [show (τ57.2.1 14 (τ57.1 22) + τ57.2.1 15 (τ57.1 22) = (τ57.1 6)) = (τ52.2.1 14 (τ52.1 22) + τ52.2.1 15 (τ52.1 22) = (τ52.1 6)) from by rw [w6_τ57, w22_τ57, g14_τ57, g15_τ57]]; exact Z1
          have Y20 : ca (τ57.2.1 12) ((τ57.1 3)) ≤ (τ57.1 4) := by rw [show (ca (τ57.2.1 12) ((τ57.1 3)) ≤ (τ57.1 4)) = (ca (τ52.2.1 12) ((τ52.1 3)) ≤ (τ52.1 4)) from by rw [w3_τ57, w4_τ57, g12_τ57]]; exact Y20
          have A6 : ∀ j, (-1) ≤ τ57.2.1 6 j ∧ τ57.2.1 6 j ≤ 999 := fun j => hT.2 6 j
          have A7 : ∀ j, (-1) ≤ τ57.2.1 7 j ∧ τ57.2.1 7 j ≤ 1499 := fun j => hT.2 7 j
          have A12 : ∀ j, 0 ≤ τ57.2.1 12 j ∧ τ57.2.1 12 j ≤ 1 := fun j => hT.2 12 j
          have A14 : ∀ j, 0 ≤ τ57.2.1 14 j ∧ τ57.2.1 14 j ≤ 30000 := fun j => hT.2 14 j
          have A15 : ∀ j, 0 ≤ τ57.2.1 15 j ∧ τ57.2.1 15 j ≤ 300 := fun j => hT.2 15 j
          have v0 : 0 ≤ τ57.1 0 ∧ τ57.1 0 ≤ 60000 := hT.1 0
          have v3 : 0 ≤ τ57.1 3 ∧ τ57.1 3 ≤ 1000 := hT.1 3
          have v4 : 0 ≤ τ57.1 4 ∧ τ57.1 4 ≤ 100 := hT.1 4
          have v5 : 0 ≤ τ57.1 5 ∧ τ57.1 5 ≤ 1500 := hT.1 5
          have v6 : 0 ≤ τ57.1 6 ∧ τ57.1 6 ≤ 30000 := hT.1 6
          have v7 : 0 ≤ τ57.1 7 ∧ τ57.1 7 ≤ 90000 := hT.1 7
          have v8 : 0 ≤ τ57.1 8 ∧ τ57.1 8 ≤ 20000 := hT.1 8
          have v9 : 0 ≤ τ57.1 9 ∧ τ57.1 9 ≤ 20000 := hT.1 9
          have v13 : 0 ≤ τ57.1 13 ∧ τ57.1 13 ≤ 1500 := hT.1 13
          have v16 : 0 ≤ τ57.1 16 ∧ τ57.1 16 ≤ 60000 := hT.1 16
          have v17 : 0 ≤ τ57.1 17 ∧ τ57.1 17 ≤ 60000 := hT.1 17
          have v18 : 0 ≤ τ57.1 18 ∧ τ57.1 18 ≤ 60000 := hT.1 18
          have v19 : (-1) ≤ τ57.1 19 ∧ τ57.1 19 ≤ 125 := hT.1 19
          have v20 : 0 ≤ τ57.1 20 ∧ τ57.1 20 ≤ 19 := hT.1 20
          have v22 : 0 ≤ τ57.1 22 ∧ τ57.1 22 ≤ 1499 := hT.1 22
          have a14_22 : 0 ≤ τ57.2.1 14 (τ57.1 22) ∧ τ57.2.1 14 (τ57.1 22) ≤ 30000 := hT.2 14 _
          have a15_22 : 0 ≤ τ57.2.1 15 (τ57.1 22) ∧ τ57.2.1 15 (τ57.1 22) ≤ 300 := hT.2 15 _
          have av5 : σ.1 5 ≤ τ57.1 5 := ag.1 5 (by decide)
          have av6 : σ.1 6 ≤ τ57.1 6 := ag.1 6 (by decide)
          exact l_253 _ _ _ hT ag (show τ57.1 0 = σ.1 0 from by omega) (show τ57.1 3 = σ.1 3 from by omega) (show τ57.1 7 = σ.1 7 from by omega) (show τ57.1 8 = σ.1 8 from by omega) (show τ57.1 9 = σ.1 9 from by omega) (show τ57.1 22 = σ.1 22 from by omega) G6 G7 G14 (show (τ57.1 16) ≤ (τ57.1 0) from by (first | omega | (simp only [st_s] <;> omega) | assumption | omega)) (show (τ57.1 17) + (τ57.1 18) ≤ (τ57.1 0) from by (first | omega | (simp only [st_s] <;> omega) | assumption | omega)) (show oc (τ57.2.1 6) < 4096 from by (first | omega | (simp only [st_s] <;> omega) | assumption | omega)) (show oc (τ57.2.1 7) < 4096 from by (first | omega | (simp only [st_s] <;> omega) | assumption | omega)) (show ¬ (σ.1 20) = 0 → (τ57.1 20) = (σ.1 20) from by (first | omega | (simp only [st_s] <;> omega) | assumption | omega)) (show τ57.2.1 14 (τ57.1 22) + τ57.2.1 15 (τ57.1 22) = (τ57.1 6) from Z1) (show ca (τ57.2.1 12) ((τ57.1 3)) ≤ (τ57.1 4) from Y20) (show (τ57.1 5) = (σ.1 5) from by (first | omega | (simp only [st_s] <;> omega) | assumption | omega)) (show (τ57.1 13) = (σ.1 13) from by (first | omega | (simp only [st_s] <;> omega) | assumption | omega)) (show τ57.2.1 15 (τ57.1 22) ≤ 2 from by (first | omega | (simp only [st_s] <;> omega) | assumption | omega)) (show (σ.1 16) ≤ (τ57.1 16) from by (first | omega | (simp only [st_s] <;> omega) | assumption | omega)) (show -1 ≤ u1_211 from by (first | omega | (simp only [st_s] <;> omega) | assumption | omega)) (show u1_211 ≤ 999 from by (first | omega | (simp only [st_s] <;> omega) | assumption | omega)) (show 0 ≤ u2_211 from by (first | omega | (simp only [st_s] <;> omega) | assumption | omega)) (show u2_211 ≤ 999 from by (first | omega | (simp only [st_s] <;> omega) | assumption | omega)) (show 0 ≤ u1_211 from by (first | omega | (simp only [st_s] <;> omega) | assumption | omega)) (show τ57.2.1 15 (τ57.1 22) = 2 from by (first | omega | (simp only [st_s] <;> omega) | assumption | omega))
    ·
      exact ⟨hT, (show (τ_211.1 16) ≤ (τ_211.1 0) from by (first | omega | (simp only [st_s] <;> omega) | assumption | omega)), (show (τ_211.1 17) + (τ_211.1 18) ≤ (τ_211.1 0) from by (first | omega | (simp only [st_s] <;> omega) | assumption | omega)), (show ¬ (σ.1 20) = 0 → (τ_211.1 20) = (σ.1 20) from by (first | omega | (simp only [st_s] <;> omega) | assumption | omega)), (show τ_211.2.1 14 (τ_211.1 22) + τ_211.2.1 15 (τ_211.1 22) = (τ_211.1 6) from Z1), (show ca (τ_211.2.1 12) ((τ_211.1 3)) ≤ (τ_211.1 4) from Y20), (show (τ_211.1 13) ≤ (τ_211.1 5) from by (first | omega | (simp only [st_s] <;> omega) | assumption | omega)), (show (τ_211.1 20) = 0 → (τ_211.1 5) = (σ.1 5) + 1 ∧ 2 ≤ τ_211.2.1 15 (τ_211.1 22) from by (first | omega | (simp only [st_s] <;> omega) | assumption | omega)), (show (τ_211.1 5) ≤ (σ.1 5) + 1 from by (first | omega | (simp only [st_s] <;> omega) | assumption | omega)), (show (σ.1 16) ≤ (τ_211.1 16) from by (first | omega | (simp only [st_s] <;> omega) | assumption | omega)), ag⟩
  have l_167 : ∀ (u1_167 : Int) (u2_167 : Int) (τ_167 : S0), (m_T τ_167) → (m_ag σ τ_167) → (τ_167.1 0 = σ.1 0) → (τ_167.1 3 = σ.1 3) → (τ_167.1 7 = σ.1 7) → (τ_167.1 8 = σ.1 8) → (τ_167.1 9 = σ.1 9) → (τ_167.1 22 = σ.1 22) → (τ_167.2.1 6 = σ.2.1 6) → (τ_167.2.1 7 = σ.2.1 7) → (τ_167.2.1 14 = σ.2.1 14) → ((τ_167.1 16) ≤ (τ_167.1 0)) → ((τ_167.1 17) + (τ_167.1 18) ≤ (τ_167.1 0)) → (oc (τ_167.2.1 6) < 4096) → (oc (τ_167.2.1 7) < 4096) → (¬ (σ.1 20) = 0 → (τ_167.1 20) = (σ.1 20)) → (τ_167.2.1 14 (τ_167.1 22) + τ_167.2.1 15 (τ_167.1 22) = (τ_167.1 6)) → (ca (τ_167.2.1 12) ((τ_167.1 3)) ≤ (τ_167.1 4)) → ((τ_167.1 5) = (σ.1 5)) → ((τ_167.1 13) = (σ.1 13)) → (τ_167.2.1 15 (τ_167.1 22) ≤ 2) → ((σ.1 16) ≤ (τ_167.1 16)) → (-1 ≤ u1_167) → (u1_167 ≤ 999) → (0 ≤ u2_167) → (u2_167 ≤ 999) → (0 ≤ u1_167) → ((τ_167.1 20) = 0) → (τ_167.2.1 15 (τ_167.1 22) = 1) → ((τ_167.1 6) < 30000) → P167 u1_167 u2_167 τ_167 := by
    intro u1_167 u2_167 τ_167 hT ag W0 W3 W7 W8 W9 W22 G6 G7 G14 i167_1 i167_2 i167_3 i167_4 i167_5 i167_6 i167_7 i167_8 i167_9 i167_10 i167_11 i167_12 i167_13 i167_14 i167_15 i167_16 i167_17 i167_18 i167_19
    have A6 : ∀ j, (-1) ≤ τ_167.2.1 6 j ∧ τ_167.2.1 6 j ≤ 999 := fun j => hT.2 6 j
    have A7 : ∀ j, (-1) ≤ τ_167.2.1 7 j ∧ τ_167.2.1 7 j ≤ 1499 := fun j => hT.2 7 j
    have A12 : ∀ j, 0 ≤ τ_167.2.1 12 j ∧ τ_167.2.1 12 j ≤ 1 := fun j => hT.2 12 j
    have A14 : ∀ j, 0 ≤ τ_167.2.1 14 j ∧ τ_167.2.1 14 j ≤ 30000 := fun j => hT.2 14 j
    have A15 : ∀ j, 0 ≤ τ_167.2.1 15 j ∧ τ_167.2.1 15 j ≤ 300 := fun j => hT.2 15 j
    have v0 : 0 ≤ τ_167.1 0 ∧ τ_167.1 0 ≤ 60000 := hT.1 0
    have v3 : 0 ≤ τ_167.1 3 ∧ τ_167.1 3 ≤ 1000 := hT.1 3
    have v4 : 0 ≤ τ_167.1 4 ∧ τ_167.1 4 ≤ 100 := hT.1 4
    have v5 : 0 ≤ τ_167.1 5 ∧ τ_167.1 5 ≤ 1500 := hT.1 5
    have v6 : 0 ≤ τ_167.1 6 ∧ τ_167.1 6 ≤ 30000 := hT.1 6
    have v7 : 0 ≤ τ_167.1 7 ∧ τ_167.1 7 ≤ 90000 := hT.1 7
    have v8 : 0 ≤ τ_167.1 8 ∧ τ_167.1 8 ≤ 20000 := hT.1 8
    have v9 : 0 ≤ τ_167.1 9 ∧ τ_167.1 9 ≤ 20000 := hT.1 9
    have v13 : 0 ≤ τ_167.1 13 ∧ τ_167.1 13 ≤ 1500 := hT.1 13
    have v16 : 0 ≤ τ_167.1 16 ∧ τ_167.1 16 ≤ 60000 := hT.1 16
    have v17 : 0 ≤ τ_167.1 17 ∧ τ_167.1 17 ≤ 60000 := hT.1 17
    have v18 : 0 ≤ τ_167.1 18 ∧ τ_167.1 18 ≤ 60000 := hT.1 18
    have v19 : (-1) ≤ τ_167.1 19 ∧ τ_167.1 19 ≤ 125 := hT.1 19
    have v20 : 0 ≤ τ_167.1 20 ∧ τ_167.1 20 ≤ 19 := hT.1 20
    have v22 : 0 ≤ τ_167.1 22 ∧ τ_167.1 22 ≤ 1499 := hT.1 22
    have a14_22 : 0 ≤ τ_167.2.1 14 (τ_167.1 22) ∧ τ_167.2.1 14 (τ_167.1 22) ≤ 30000 := hT.2 14 _
    have a15_22 : 0 ≤ τ_167.2.1 15 (τ_167.1 22) ∧ τ_167.2.1 15 (τ_167.1 22) ≤ 300 := hT.2 15 _
    have av5 : σ.1 5 ≤ τ_167.1 5 := ag.1 5 (by decide)
    have av6 : σ.1 6 ≤ τ_167.1 6 := ag.1 6 (by decide)
    have y14_22_τ_167 : τ_167.2.1 14 (τ_167.1 22) = σ.2.1 14 (σ.1 22) := by rw [G14, W22]
    have o6_τ_167 := congrArg oc G6
    have o7_τ_167 := congrArg oc G7
    have Z1 : τ_167.2.1 14 (τ_167.1 22) + τ_167.2.1 15 (τ_167.1 22) = (τ_167.1 6) := i167_6
    have Y20 : ca (τ_167.2.1 12) ((τ_167.1 3)) ≤ (τ_167.1 4) := i167_7
    refine h167 u1_167 u2_167 τ_167 ?_
    refine ⟨(show 0 ≤ u1_167 ∧ u1_167 < 1001 from by (first | omega | (simp only [st_s] <;> omega) | assumption | omega)), ?_⟩
    intro x62 r_x62 e_x62
    have b_x62 : 0 ≤ x62 ∧ x62 ≤ 1 := by rw [e_x62]; exact hT.2 8 _
    refine ⟨fun c63 => ?_, fun c63 => ?_⟩
    ·
      intro x64 r_x64 e_x64
      have b_x64 : (-1) ≤ x64 ∧ x64 ≤ 999 := by rw [e_x64]; exact hT.2 10 _
      refine ⟨fun c65 => ?_, fun c65 => ?_⟩
      ·
        exact l_211 _ _ _ hT ag (show τ_167.1 0 = σ.1 0 from by omega) (show τ_167.1 3 = σ.1 3 from by omega) (show τ_167.1 7 = σ.1 7 from by omega) (show τ_167.1 8 = σ.1 8 from by omega) (show τ_167.1 9 = σ.1 9 from by omega) (show τ_167.1 22 = σ.1 22 from by omega) G6 G7 G14 (show (τ_167.1 16) ≤ (τ_167.1 0) from by (first | omega | (simp only [st_s] <;> omega) | assumption | omega)) (show (τ_167.1 17) + (τ_167.1 18) ≤ (τ_167.1 0) from by (first | omega | (simp only [st_s] <;> omega) | assumption | omega)) (show oc (τ_167.2.1 6) < 4096 from by (first | omega | (simp only [st_s] <;> omega) | assumption | omega)) (show oc (τ_167.2.1 7) < 4096 from by (first | omega | (simp only [st_s] <;> omega) | assumption | omega)) (show ¬ (σ.1 20) = 0 → (τ_167.1 20) = (σ.1 20) from by (first | omega | (simp only [st_s] <;> omega) | assumption | omega)) (show τ_167.2.1 14 (τ_167.1 22) + τ_167.2.1 15 (τ_167.1 22) = (τ_167.1 6) from Z1) (show ca (τ_167.2.1 12) ((τ_167.1 3)) ≤ (τ_167.1 4) from Y20) (show (τ_167.1 5) = (σ.1 5) from by (first | omega | (simp only [st_s] <;> omega) | assumption | omega)) (show (τ_167.1 13) = (σ.1 13) from by (first | omega | (simp only [st_s] <;> omega) | assumption | omega)) (show τ_167.2.1 15 (τ_167.1 22) ≤ 2 from by (first | omega | (simp only [st_s] <;> omega) | assumption | omega)) (show (σ.1 16) ≤ (τ_167.1 16) from by (first | omega | (simp only [st_s] <;> omega) | assumption | omega)) (show -1 ≤ u1_167 from by (first | omega | (simp only [st_s] <;> omega) | assumption | omega)) (show u1_167 ≤ 999 from by (first | omega | (simp only [st_s] <;> omega) | assumption | omega)) (show 0 ≤ u2_167 from by (first | omega | (simp only [st_s] <;> omega) | assumption | omega)) (show u2_167 ≤ 999 from by (first | omega | (simp only [st_s] <;> omega) | assumption | omega)) (show (τ_167.1 20) = 0 → 0 ≤ u1_167 ∧ τ_167.2.1 15 (τ_167.1 22) = 1 ∧ (τ_167.1 6) < 30000 from by (first | omega | (simp only [st_s] <;> omega) | assumption | omega))
      ·
        intro x66 r_x66 e_x66
        have b_x66 : (-1) ≤ x66 ∧ x66 ≤ 999 := by rw [e_x66]; exact hT.2 10 _
        refine ⟨fun c67 => ?_, fun c67 => ?_⟩
        ·
          exact l_211 _ _ _ hT ag (show τ_167.1 0 = σ.1 0 from by omega) (show τ_167.1 3 = σ.1 3 from by omega) (show τ_167.1 7 = σ.1 7 from by omega) (show τ_167.1 8 = σ.1 8 from by omega) (show τ_167.1 9 = σ.1 9 from by omega) (show τ_167.1 22 = σ.1 22 from by omega) G6 G7 G14 (show (τ_167.1 16) ≤ (τ_167.1 0) from by (first | omega | (simp only [st_s] <;> omega) | assumption | omega)) (show (τ_167.1 17) + (τ_167.1 18) ≤ (τ_167.1 0) from by (first | omega | (simp only [st_s] <;> omega) | assumption | omega)) (show oc (τ_167.2.1 6) < 4096 from by (first | omega | (simp only [st_s] <;> omega) | assumption | omega)) (show oc (τ_167.2.1 7) < 4096 from by (first | omega | (simp only [st_s] <;> omega) | assumption | omega)) (show ¬ (σ.1 20) = 0 → (τ_167.1 20) = (σ.1 20) from by (first | omega | (simp only [st_s] <;> omega) | assumption | omega)) (show τ_167.2.1 14 (τ_167.1 22) + τ_167.2.1 15 (τ_167.1 22) = (τ_167.1 6) from Z1) (show ca (τ_167.2.1 12) ((τ_167.1 3)) ≤ (τ_167.1 4) from Y20) (show (τ_167.1 5) = (σ.1 5) from by (first | omega | (simp only [st_s] <;> omega) | assumption | omega)) (show (τ_167.1 13) = (σ.1 13) from by (first | omega | (simp only [st_s] <;> omega) | assumption | omega)) (show τ_167.2.1 15 (τ_167.1 22) ≤ 2 from by (first | omega | (simp only [st_s] <;> omega) | assumption | omega)) (show (σ.1 16) ≤ (τ_167.1 16) from by (first | omega | (simp only [st_s] <;> omega) | assumption | omega)) (show -1 ≤ u1_167 from by (first | omega | (simp only [st_s] <;> omega) | assumption | omega)) (show u1_167 ≤ 999 from by (first | omega | (simp only [st_s] <;> omega) | assumption | omega)) (show 0 ≤ u2_167 from by (first | omega | (simp only [st_s] <;> omega) | assumption | omega)) (show u2_167 ≤ 999 from by (first | omega | (simp only [st_s] <;> omega) | assumption | omega)) (show (τ_167.1 20) = 0 → 0 ≤ u1_167 ∧ τ_167.2.1 15 (τ_167.1 22) = 1 ∧ (τ_167.1 6) < 30000 from by (first | omega | (simp only [st_s] <;> omega) | assumption | omega))
        ·
          refine ⟨_, K_X13_failHere hT (show 0 ≤ 12 from by (first | omega | (simp only [st_s] <;> omega) | assumption | omega)) (show 12 ≤ 19 from by (first | omega | (simp only [st_s] <;> omega) | assumption | omega)), ?_⟩
          intro τ70 hn_τ70 hf_τ70 hq
          obtain ⟨hT, q68_1, q68_2⟩ := hq
          replace q68_1 : ¬ (τ_167.1 20) = 0 → (τ70.1 20) = (τ_167.1 20) := q68_1
          replace q68_2 : (τ_167.1 20) = 0 → (τ70.1 20) = 12 := q68_2
          replace ag : m_ag σ τ70 := ag_r ag hf_τ70 rfl rfl
          have w0_τ70 : τ70.1 0 = τ_167.1 0 := hf_τ70.1 0 (by decide)
          have w3_τ70 : τ70.1 3 = τ_167.1 3 := hf_τ70.1 3 (by decide)
          have w4_τ70 : τ70.1 4 = τ_167.1 4 := hf_τ70.1 4 (by decide)
          have w5_τ70 : τ70.1 5 = τ_167.1 5 := hf_τ70.1 5 (by decide)
          have w6_τ70 : τ70.1 6 = τ_167.1 6 := hf_τ70.1 6 (by decide)
          have w7_τ70 : τ70.1 7 = τ_167.1 7 := hf_τ70.1 7 (by decide)
          have w8_τ70 : τ70.1 8 = τ_167.1 8 := hf_τ70.1 8 (by decide)
          have w9_τ70 : τ70.1 9 = τ_167.1 9 := hf_τ70.1 9 (by decide)
          have w13_τ70 : τ70.1 13 = τ_167.1 13 := hf_τ70.1 13 (by decide)
          have w16_τ70 : τ70.1 16 = τ_167.1 16 := hf_τ70.1 16 (by decide)
          have w17_τ70 : τ70.1 17 = τ_167.1 17 := hf_τ70.1 17 (by decide)
          have w18_τ70 : τ70.1 18 = τ_167.1 18 := hf_τ70.1 18 (by decide)
          have w19_τ70 : τ70.1 19 = τ_167.1 19 := hf_τ70.1 19 (by decide)
          have w22_τ70 : τ70.1 22 = τ_167.1 22 := hf_τ70.1 22 (by decide)
          have g6_τ70 : τ70.2.1 6 = τ_167.2.1 6 := hf_τ70.2.1 6 (by decide)
          have g7_τ70 : τ70.2.1 7 = τ_167.2.1 7 := hf_τ70.2.1 7 (by decide)
          have g12_τ70 : τ70.2.1 12 = τ_167.2.1 12 := hf_τ70.2.1 12 (by decide)
          have g14_τ70 : τ70.2.1 14 = τ_167.2.1 14 := hf_τ70.2.1 14 (by decide)
          have g15_τ70 : τ70.2.1 15 = τ_167.2.1 15 := hf_τ70.2.1 15 (by decide)
          first | (have o6_τ70 := congrArg oc g6_τ70) | skip
          first | (have o7_τ70 := congrArg oc g7_τ70) | skip
          have W0 : τ70.1 0 = σ.1 0 := by omega
          have W3 : τ70.1 3 = σ.1 3 := by omega
          have W7 : τ70.1 7 = σ.1 7 := by omega
          have W8 : τ70.1 8 = σ.1 8 := by omega
          have W9 : τ70.1 9 = σ.1 9 := by omega
          have W22 : τ70.1 22 = σ.1 22 := by omega
          have G6 : τ70.2.1 6 = σ.2.1 6 := (g6_τ70).trans G6
          have G7 : τ70.2.1 7 = σ.2.1 7 := (g7_τ70).trans G7
          have G14 : τ70.2.1 14 = σ.2.1 14 := (g14_τ70).trans G14
          have y14_22_τ70 : τ70.2.1 14 (τ70.1 22) = (τ_167.2.1 14) (τ_167.1 22) := by rw [g14_τ70, w22_τ70]
          have y15_22_τ70 : τ70.2.1 15 (τ70.1 22) = (τ_167.2.1 15) (τ_167.1 22) := by rw [g15_τ70, w22_τ70]
          have Z1 : τ70.2.1 14 (τ70.1 22) + τ70.2.1 15 (τ70.1 22) = (τ70.1 6) := by rw [show (τ70.2.1 14 (τ70.1 22) + τ70.2.1 15 (τ70.1 22) = (τ70.1 6)) = (τ_167.2.1 14 (τ_167.1 22) + τ_167.2.1 15 (τ_167.1 22) = (τ_167.1 6)) from by rw [w6_τ70, w22_τ70, g14_τ70, g15_τ70]]; exact Z1
          have Y20 : ca (τ70.2.1 12) ((τ70.1 3)) ≤ (τ70.1 4) := by rw [show (ca (τ70.2.1 12) ((τ70.1 3)) ≤ (τ70.1 4)) = (ca (τ_167.2.1 12) ((τ_167.1 3)) ≤ (τ_167.1 4)) from by rw [w3_τ70, w4_τ70, g12_τ70]]; exact Y20
          have A6 : ∀ j, (-1) ≤ τ70.2.1 6 j ∧ τ70.2.1 6 j ≤ 999 := fun j => hT.2 6 j
          have A7 : ∀ j, (-1) ≤ τ70.2.1 7 j ∧ τ70.2.1 7 j ≤ 1499 := fun j => hT.2 7 j
          have A12 : ∀ j, 0 ≤ τ70.2.1 12 j ∧ τ70.2.1 12 j ≤ 1 := fun j => hT.2 12 j
          have A14 : ∀ j, 0 ≤ τ70.2.1 14 j ∧ τ70.2.1 14 j ≤ 30000 := fun j => hT.2 14 j
          have A15 : ∀ j, 0 ≤ τ70.2.1 15 j ∧ τ70.2.1 15 j ≤ 300 := fun j => hT.2 15 j
          have v0 : 0 ≤ τ70.1 0 ∧ τ70.1 0 ≤ 60000 := hT.1 0
          have v3 : 0 ≤ τ70.1 3 ∧ τ70.1 3 ≤ 1000 := hT.1 3
          have v4 : 0 ≤ τ70.1 4 ∧ τ70.1 4 ≤ 100 := hT.1 4
          have v5 : 0 ≤ τ70.1 5 ∧ τ70.1 5 ≤ 1500 := hT.1 5
          have v6 : 0 ≤ τ70.1 6 ∧ τ70.1 6 ≤ 30000 := hT.1 6
          have v7 : 0 ≤ τ70.1 7 ∧ τ70.1 7 ≤ 90000 := hT.1 7
          have v8 : 0 ≤ τ70.1 8 ∧ τ70.1 8 ≤ 20000 := hT.1 8
          have v9 : 0 ≤ τ70.1 9 ∧ τ70.1 9 ≤ 20000 := hT.1 9
          have v13 : 0 ≤ τ70.1 13 ∧ τ70.1 13 ≤ 1500 := hT.1 13
          have v16 : 0 ≤ τ70.1 16 ∧ τ70.1 16 ≤ 60000 := hT.1 16
          have v17 : 0 ≤ τ70.1 17 ∧ τ70.1 17 ≤ 60000 := hT.1 17
          have v18 : 0 ≤ τ70.1 18 ∧ τ70.1 18 ≤ 60000 := hT.1 18
          have v19 : (-1) ≤ τ70.1 19 ∧ τ70.1 19 ≤ 125 := hT.1 19
          have v20 : 0 ≤ τ70.1 20 ∧ τ70.1 20 ≤ 19 := hT.1 20
          have v22 : 0 ≤ τ70.1 22 ∧ τ70.1 22 ≤ 1499 := hT.1 22
          have a14_22 : 0 ≤ τ70.2.1 14 (τ70.1 22) ∧ τ70.2.1 14 (τ70.1 22) ≤ 30000 := hT.2 14 _
          have a15_22 : 0 ≤ τ70.2.1 15 (τ70.1 22) ∧ τ70.2.1 15 (τ70.1 22) ≤ 300 := hT.2 15 _
          have av5 : σ.1 5 ≤ τ70.1 5 := ag.1 5 (by decide)
          have av6 : σ.1 6 ≤ τ70.1 6 := ag.1 6 (by decide)
          exact l_211 _ _ _ hT ag (show τ70.1 0 = σ.1 0 from by omega) (show τ70.1 3 = σ.1 3 from by omega) (show τ70.1 7 = σ.1 7 from by omega) (show τ70.1 8 = σ.1 8 from by omega) (show τ70.1 9 = σ.1 9 from by omega) (show τ70.1 22 = σ.1 22 from by omega) G6 G7 G14 (show (τ70.1 16) ≤ (τ70.1 0) from by (first | omega | (simp only [st_s] <;> omega) | assumption | omega)) (show (τ70.1 17) + (τ70.1 18) ≤ (τ70.1 0) from by (first | omega | (simp only [st_s] <;> omega) | assumption | omega)) (show oc (τ70.2.1 6) < 4096 from by (first | omega | (simp only [st_s] <;> omega) | assumption | omega)) (show oc (τ70.2.1 7) < 4096 from by (first | omega | (simp only [st_s] <;> omega) | assumption | omega)) (show ¬ (σ.1 20) = 0 → (τ70.1 20) = (σ.1 20) from by (first | omega | (simp only [st_s] <;> omega) | assumption | omega)) (show τ70.2.1 14 (τ70.1 22) + τ70.2.1 15 (τ70.1 22) = (τ70.1 6) from Z1) (show ca (τ70.2.1 12) ((τ70.1 3)) ≤ (τ70.1 4) from Y20) (show (τ70.1 5) = (σ.1 5) from by (first | omega | (simp only [st_s] <;> omega) | assumption | omega)) (show (τ70.1 13) = (σ.1 13) from by (first | omega | (simp only [st_s] <;> omega) | assumption | omega)) (show τ70.2.1 15 (τ70.1 22) ≤ 2 from by (first | omega | (simp only [st_s] <;> omega) | assumption | omega)) (show (σ.1 16) ≤ (τ70.1 16) from by (first | omega | (simp only [st_s] <;> omega) | assumption | omega)) (show -1 ≤ u1_167 from by (first | omega | (simp only [st_s] <;> omega) | assumption | omega)) (show u1_167 ≤ 999 from by (first | omega | (simp only [st_s] <;> omega) | assumption | omega)) (show 0 ≤ u2_167 from by (first | omega | (simp only [st_s] <;> omega) | assumption | omega)) (show u2_167 ≤ 999 from by (first | omega | (simp only [st_s] <;> omega) | assumption | omega)) (show (τ70.1 20) = 0 → 0 ≤ u1_167 ∧ τ70.2.1 15 (τ70.1 22) = 1 ∧ (τ70.1 6) < 30000 from by (first | omega | (simp only [st_s] <;> omega) | assumption | omega))
    ·
      refine ⟨_, K_X13_failHere hT (show 0 ≤ 10 from by (first | omega | (simp only [st_s] <;> omega) | assumption | omega)) (show 10 ≤ 19 from by (first | omega | (simp only [st_s] <;> omega) | assumption | omega)), ?_⟩
      intro τ73 hn_τ73 hf_τ73 hq
      obtain ⟨hT, q71_1, q71_2⟩ := hq
      replace q71_1 : ¬ (τ_167.1 20) = 0 → (τ73.1 20) = (τ_167.1 20) := q71_1
      replace q71_2 : (τ_167.1 20) = 0 → (τ73.1 20) = 10 := q71_2
      replace ag : m_ag σ τ73 := ag_r ag hf_τ73 rfl rfl
      have w0_τ73 : τ73.1 0 = τ_167.1 0 := hf_τ73.1 0 (by decide)
      have w3_τ73 : τ73.1 3 = τ_167.1 3 := hf_τ73.1 3 (by decide)
      have w4_τ73 : τ73.1 4 = τ_167.1 4 := hf_τ73.1 4 (by decide)
      have w5_τ73 : τ73.1 5 = τ_167.1 5 := hf_τ73.1 5 (by decide)
      have w6_τ73 : τ73.1 6 = τ_167.1 6 := hf_τ73.1 6 (by decide)
      have w7_τ73 : τ73.1 7 = τ_167.1 7 := hf_τ73.1 7 (by decide)
      have w8_τ73 : τ73.1 8 = τ_167.1 8 := hf_τ73.1 8 (by decide)
      have w9_τ73 : τ73.1 9 = τ_167.1 9 := hf_τ73.1 9 (by decide)
      have w13_τ73 : τ73.1 13 = τ_167.1 13 := hf_τ73.1 13 (by decide)
      have w16_τ73 : τ73.1 16 = τ_167.1 16 := hf_τ73.1 16 (by decide)
      have w17_τ73 : τ73.1 17 = τ_167.1 17 := hf_τ73.1 17 (by decide)
      have w18_τ73 : τ73.1 18 = τ_167.1 18 := hf_τ73.1 18 (by decide)
      have w19_τ73 : τ73.1 19 = τ_167.1 19 := hf_τ73.1 19 (by decide)
      have w22_τ73 : τ73.1 22 = τ_167.1 22 := hf_τ73.1 22 (by decide)
      have g6_τ73 : τ73.2.1 6 = τ_167.2.1 6 := hf_τ73.2.1 6 (by decide)
      have g7_τ73 : τ73.2.1 7 = τ_167.2.1 7 := hf_τ73.2.1 7 (by decide)
      have g12_τ73 : τ73.2.1 12 = τ_167.2.1 12 := hf_τ73.2.1 12 (by decide)
      have g14_τ73 : τ73.2.1 14 = τ_167.2.1 14 := hf_τ73.2.1 14 (by decide)
      have g15_τ73 : τ73.2.1 15 = τ_167.2.1 15 := hf_τ73.2.1 15 (by decide)
      first | (have o6_τ73 := congrArg oc g6_τ73) | skip
      first | (have o7_τ73 := congrArg oc g7_τ73) | skip
      have W0 : τ73.1 0 = σ.1 0 := by omega
      have W3 : τ73.1 3 = σ.1 3 := by omega
      have W7 : τ73.1 7 = σ.1 7 := by omega
      have W8 : τ73.1 8 = σ.1 8 := by omega
      have W9 : τ73.1 9 = σ.1 9 := by omega
      have W22 : τ73.1 22 = σ.1 22 := by omega
      have G6 : τ73.2.1 6 = σ.2.1 6 := (g6_τ73).trans G6
      have G7 : τ73.2.1 7 = σ.2.1 7 := (g7_τ73).trans G7
      have G14 : τ73.2.1 14 = σ.2.1 14 := (g14_τ73).trans G14
      have y14_22_τ73 : τ73.2.1 14 (τ73.1 22) = (τ_167.2.1 14) (τ_167.1 22) := by rw [g14_τ73, w22_τ73]
      have y15_22_τ73 : τ73.2.1 15 (τ73.1 22) = (τ_167.2.1 15) (τ_167.1 22) := by rw [g15_τ73, w22_τ73]
      have Z1 : τ73.2.1 14 (τ73.1 22) + τ73.2.1 15 (τ73.1 22) = (τ73.1 6) := by rw [show (τ73.2.1 14 (τ73.1 22) + τ73.2.1 15 (τ73.1 22) = (τ73.1 6)) = (τ_167.2.1 14 (τ_167.1 22) + τ_167.2.1 15 (τ_167.1 22) = (τ_167.1 6)) from by rw [w6_τ73, w22_τ73, g14_τ73, g15_τ73]]; exact Z1
      have Y20 : ca (τ73.2.1 12) ((τ73.1 3)) ≤ (τ73.1 4) := by rw [show (ca (τ73.2.1 12) ((τ73.1 3)) ≤ (τ73.1 4)) = (ca (τ_167.2.1 12) ((τ_167.1 3)) ≤ (τ_167.1 4)) from by rw [w3_τ73, w4_τ73, g12_τ73]]; exact Y20
      have A6 : ∀ j, (-1) ≤ τ73.2.1 6 j ∧ τ73.2.1 6 j ≤ 999 := fun j => hT.2 6 j
      have A7 : ∀ j, (-1) ≤ τ73.2.1 7 j ∧ τ73.2.1 7 j ≤ 1499 := fun j => hT.2 7 j
      have A12 : ∀ j, 0 ≤ τ73.2.1 12 j ∧ τ73.2.1 12 j ≤ 1 := fun j => hT.2 12 j
      have A14 : ∀ j, 0 ≤ τ73.2.1 14 j ∧ τ73.2.1 14 j ≤ 30000 := fun j => hT.2 14 j
      have A15 : ∀ j, 0 ≤ τ73.2.1 15 j ∧ τ73.2.1 15 j ≤ 300 := fun j => hT.2 15 j
      have v0 : 0 ≤ τ73.1 0 ∧ τ73.1 0 ≤ 60000 := hT.1 0
      have v3 : 0 ≤ τ73.1 3 ∧ τ73.1 3 ≤ 1000 := hT.1 3
      have v4 : 0 ≤ τ73.1 4 ∧ τ73.1 4 ≤ 100 := hT.1 4
      have v5 : 0 ≤ τ73.1 5 ∧ τ73.1 5 ≤ 1500 := hT.1 5
      have v6 : 0 ≤ τ73.1 6 ∧ τ73.1 6 ≤ 30000 := hT.1 6
      have v7 : 0 ≤ τ73.1 7 ∧ τ73.1 7 ≤ 90000 := hT.1 7
      have v8 : 0 ≤ τ73.1 8 ∧ τ73.1 8 ≤ 20000 := hT.1 8
      have v9 : 0 ≤ τ73.1 9 ∧ τ73.1 9 ≤ 20000 := hT.1 9
      have v13 : 0 ≤ τ73.1 13 ∧ τ73.1 13 ≤ 1500 := hT.1 13
      have v16 : 0 ≤ τ73.1 16 ∧ τ73.1 16 ≤ 60000 := hT.1 16
      have v17 : 0 ≤ τ73.1 17 ∧ τ73.1 17 ≤ 60000 := hT.1 17
      have v18 : 0 ≤ τ73.1 18 ∧ τ73.1 18 ≤ 60000 := hT.1 18
      have v19 : (-1) ≤ τ73.1 19 ∧ τ73.1 19 ≤ 125 := hT.1 19
      have v20 : 0 ≤ τ73.1 20 ∧ τ73.1 20 ≤ 19 := hT.1 20
      have v22 : 0 ≤ τ73.1 22 ∧ τ73.1 22 ≤ 1499 := hT.1 22
      have a14_22 : 0 ≤ τ73.2.1 14 (τ73.1 22) ∧ τ73.2.1 14 (τ73.1 22) ≤ 30000 := hT.2 14 _
      have a15_22 : 0 ≤ τ73.2.1 15 (τ73.1 22) ∧ τ73.2.1 15 (τ73.1 22) ≤ 300 := hT.2 15 _
      have av5 : σ.1 5 ≤ τ73.1 5 := ag.1 5 (by decide)
      have av6 : σ.1 6 ≤ τ73.1 6 := ag.1 6 (by decide)
      exact l_211 _ _ _ hT ag (show τ73.1 0 = σ.1 0 from by omega) (show τ73.1 3 = σ.1 3 from by omega) (show τ73.1 7 = σ.1 7 from by omega) (show τ73.1 8 = σ.1 8 from by omega) (show τ73.1 9 = σ.1 9 from by omega) (show τ73.1 22 = σ.1 22 from by omega) G6 G7 G14 (show (τ73.1 16) ≤ (τ73.1 0) from by (first | omega | (simp only [st_s] <;> omega) | assumption | omega)) (show (τ73.1 17) + (τ73.1 18) ≤ (τ73.1 0) from by (first | omega | (simp only [st_s] <;> omega) | assumption | omega)) (show oc (τ73.2.1 6) < 4096 from by (first | omega | (simp only [st_s] <;> omega) | assumption | omega)) (show oc (τ73.2.1 7) < 4096 from by (first | omega | (simp only [st_s] <;> omega) | assumption | omega)) (show ¬ (σ.1 20) = 0 → (τ73.1 20) = (σ.1 20) from by (first | omega | (simp only [st_s] <;> omega) | assumption | omega)) (show τ73.2.1 14 (τ73.1 22) + τ73.2.1 15 (τ73.1 22) = (τ73.1 6) from Z1) (show ca (τ73.2.1 12) ((τ73.1 3)) ≤ (τ73.1 4) from Y20) (show (τ73.1 5) = (σ.1 5) from by (first | omega | (simp only [st_s] <;> omega) | assumption | omega)) (show (τ73.1 13) = (σ.1 13) from by (first | omega | (simp only [st_s] <;> omega) | assumption | omega)) (show τ73.2.1 15 (τ73.1 22) ≤ 2 from by (first | omega | (simp only [st_s] <;> omega) | assumption | omega)) (show (σ.1 16) ≤ (τ73.1 16) from by (first | omega | (simp only [st_s] <;> omega) | assumption | omega)) (show -1 ≤ u1_167 from by (first | omega | (simp only [st_s] <;> omega) | assumption | omega)) (show u1_167 ≤ 999 from by (first | omega | (simp only [st_s] <;> omega) | assumption | omega)) (show 0 ≤ u2_167 from by (first | omega | (simp only [st_s] <;> omega) | assumption | omega)) (show u2_167 ≤ 999 from by (first | omega | (simp only [st_s] <;> omega) | assumption | omega)) (show (τ73.1 20) = 0 → 0 ≤ u1_167 ∧ τ73.2.1 15 (τ73.1 22) = 1 ∧ (τ73.1 6) < 30000 from by (first | omega | (simp only [st_s] <;> omega) | assumption | omega))
  have l_135 : ∀ (u1_135 : Int) (u2_135 : Int) (τ_135 : S0), (m_T τ_135) → (m_ag σ τ_135) → (τ_135.1 0 = σ.1 0) → (τ_135.1 3 = σ.1 3) → (τ_135.1 7 = σ.1 7) → (τ_135.1 8 = σ.1 8) → (τ_135.1 9 = σ.1 9) → (τ_135.1 22 = σ.1 22) → (τ_135.2.1 6 = σ.2.1 6) → (τ_135.2.1 7 = σ.2.1 7) → (τ_135.2.1 14 = σ.2.1 14) → ((τ_135.1 16) ≤ (τ_135.1 0)) → ((τ_135.1 17) + (τ_135.1 18) ≤ (τ_135.1 0)) → (oc (τ_135.2.1 6) < 4096) → (oc (τ_135.2.1 7) < 4096) → (¬ (σ.1 20) = 0 → (τ_135.1 20) = (σ.1 20)) → (τ_135.2.1 14 (τ_135.1 22) + τ_135.2.1 15 (τ_135.1 22) = (τ_135.1 6)) → (ca (τ_135.2.1 12) ((τ_135.1 3)) ≤ (τ_135.1 4)) → ((τ_135.1 5) = (σ.1 5)) → ((τ_135.1 13) = (σ.1 13)) → (τ_135.2.1 15 (τ_135.1 22) ≤ 2) → ((σ.1 16) ≤ (τ_135.1 16)) → (-1 ≤ u1_135) → (u1_135 ≤ 999) → (0 ≤ u2_135) → (u2_135 ≤ 999) → ((τ_135.1 20) = 0) → (τ_135.2.1 15 (τ_135.1 22) = 1) → ((τ_135.1 6) < 30000) → P135 u1_135 u2_135 τ_135 := by
    intro u1_135 u2_135 τ_135 hT ag W0 W3 W7 W8 W9 W22 G6 G7 G14 i135_1 i135_2 i135_3 i135_4 i135_5 i135_6 i135_7 i135_8 i135_9 i135_10 i135_11 i135_12 i135_13 i135_14 i135_15 i135_16 i135_17 i135_18
    have A6 : ∀ j, (-1) ≤ τ_135.2.1 6 j ∧ τ_135.2.1 6 j ≤ 999 := fun j => hT.2 6 j
    have A7 : ∀ j, (-1) ≤ τ_135.2.1 7 j ∧ τ_135.2.1 7 j ≤ 1499 := fun j => hT.2 7 j
    have A12 : ∀ j, 0 ≤ τ_135.2.1 12 j ∧ τ_135.2.1 12 j ≤ 1 := fun j => hT.2 12 j
    have A14 : ∀ j, 0 ≤ τ_135.2.1 14 j ∧ τ_135.2.1 14 j ≤ 30000 := fun j => hT.2 14 j
    have A15 : ∀ j, 0 ≤ τ_135.2.1 15 j ∧ τ_135.2.1 15 j ≤ 300 := fun j => hT.2 15 j
    have v0 : 0 ≤ τ_135.1 0 ∧ τ_135.1 0 ≤ 60000 := hT.1 0
    have v3 : 0 ≤ τ_135.1 3 ∧ τ_135.1 3 ≤ 1000 := hT.1 3
    have v4 : 0 ≤ τ_135.1 4 ∧ τ_135.1 4 ≤ 100 := hT.1 4
    have v5 : 0 ≤ τ_135.1 5 ∧ τ_135.1 5 ≤ 1500 := hT.1 5
    have v6 : 0 ≤ τ_135.1 6 ∧ τ_135.1 6 ≤ 30000 := hT.1 6
    have v7 : 0 ≤ τ_135.1 7 ∧ τ_135.1 7 ≤ 90000 := hT.1 7
    have v8 : 0 ≤ τ_135.1 8 ∧ τ_135.1 8 ≤ 20000 := hT.1 8
    have v9 : 0 ≤ τ_135.1 9 ∧ τ_135.1 9 ≤ 20000 := hT.1 9
    have v13 : 0 ≤ τ_135.1 13 ∧ τ_135.1 13 ≤ 1500 := hT.1 13
    have v16 : 0 ≤ τ_135.1 16 ∧ τ_135.1 16 ≤ 60000 := hT.1 16
    have v17 : 0 ≤ τ_135.1 17 ∧ τ_135.1 17 ≤ 60000 := hT.1 17
    have v18 : 0 ≤ τ_135.1 18 ∧ τ_135.1 18 ≤ 60000 := hT.1 18
    have v19 : (-1) ≤ τ_135.1 19 ∧ τ_135.1 19 ≤ 125 := hT.1 19
    have v20 : 0 ≤ τ_135.1 20 ∧ τ_135.1 20 ≤ 19 := hT.1 20
    have v22 : 0 ≤ τ_135.1 22 ∧ τ_135.1 22 ≤ 1499 := hT.1 22
    have a14_22 : 0 ≤ τ_135.2.1 14 (τ_135.1 22) ∧ τ_135.2.1 14 (τ_135.1 22) ≤ 30000 := hT.2 14 _
    have a15_22 : 0 ≤ τ_135.2.1 15 (τ_135.1 22) ∧ τ_135.2.1 15 (τ_135.1 22) ≤ 300 := hT.2 15 _
    have av5 : σ.1 5 ≤ τ_135.1 5 := ag.1 5 (by decide)
    have av6 : σ.1 6 ≤ τ_135.1 6 := ag.1 6 (by decide)
    have y14_22_τ_135 : τ_135.2.1 14 (τ_135.1 22) = σ.2.1 14 (σ.1 22) := by rw [G14, W22]
    have o6_τ_135 := congrArg oc G6
    have o7_τ_135 := congrArg oc G7
    have Z1 : τ_135.2.1 14 (τ_135.1 22) + τ_135.2.1 15 (τ_135.1 22) = (τ_135.1 6) := i135_6
    have Y20 : ca (τ_135.2.1 12) ((τ_135.1 3)) ≤ (τ_135.1 4) := i135_7
    refine h135 u1_135 u2_135 τ_135 ?_
    refine ⟨fun c40 => ?_, fun c40 => ?_⟩
    ·
      refine h158 _ _ _ ?_
      refine ⟨_, K_X13_failHere hT (show 0 ≤ 9 from by (first | omega | (simp only [st_s] <;> omega) | assumption | omega)) (show 9 ≤ 19 from by (first | omega | (simp only [st_s] <;> omega) | assumption | omega)), ?_⟩
      intro τ60 hn_τ60 hf_τ60 hq
      obtain ⟨hT, q58_1, q58_2⟩ := hq
      replace q58_1 : ¬ (τ_135.1 20) = 0 → (τ60.1 20) = (τ_135.1 20) := q58_1
      replace q58_2 : (τ_135.1 20) = 0 → (τ60.1 20) = 9 := q58_2
      replace ag : m_ag σ τ60 := ag_r ag hf_τ60 rfl rfl
      have w0_τ60 : τ60.1 0 = τ_135.1 0 := hf_τ60.1 0 (by decide)
      have w3_τ60 : τ60.1 3 = τ_135.1 3 := hf_τ60.1 3 (by decide)
      have w4_τ60 : τ60.1 4 = τ_135.1 4 := hf_τ60.1 4 (by decide)
      have w5_τ60 : τ60.1 5 = τ_135.1 5 := hf_τ60.1 5 (by decide)
      have w6_τ60 : τ60.1 6 = τ_135.1 6 := hf_τ60.1 6 (by decide)
      have w7_τ60 : τ60.1 7 = τ_135.1 7 := hf_τ60.1 7 (by decide)
      have w8_τ60 : τ60.1 8 = τ_135.1 8 := hf_τ60.1 8 (by decide)
      have w9_τ60 : τ60.1 9 = τ_135.1 9 := hf_τ60.1 9 (by decide)
      have w13_τ60 : τ60.1 13 = τ_135.1 13 := hf_τ60.1 13 (by decide)
      have w16_τ60 : τ60.1 16 = τ_135.1 16 := hf_τ60.1 16 (by decide)
      have w17_τ60 : τ60.1 17 = τ_135.1 17 := hf_τ60.1 17 (by decide)
      have w18_τ60 : τ60.1 18 = τ_135.1 18 := hf_τ60.1 18 (by decide)
      have w19_τ60 : τ60.1 19 = τ_135.1 19 := hf_τ60.1 19 (by decide)
      have w22_τ60 : τ60.1 22 = τ_135.1 22 := hf_τ60.1 22 (by decide)
      have g6_τ60 : τ60.2.1 6 = τ_135.2.1 6 := hf_τ60.2.1 6 (by decide)
      have g7_τ60 : τ60.2.1 7 = τ_135.2.1 7 := hf_τ60.2.1 7 (by decide)
      have g12_τ60 : τ60.2.1 12 = τ_135.2.1 12 := hf_τ60.2.1 12 (by decide)
      have g14_τ60 : τ60.2.1 14 = τ_135.2.1 14 := hf_τ60.2.1 14 (by decide)
      have g15_τ60 : τ60.2.1 15 = τ_135.2.1 15 := hf_τ60.2.1 15 (by decide)
      first | (have o6_τ60 := congrArg oc g6_τ60) | skip
      first | (have o7_τ60 := congrArg oc g7_τ60) | skip
      have W0 : τ60.1 0 = σ.1 0 := by omega
      have W3 : τ60.1 3 = σ.1 3 := by omega
      have W7 : τ60.1 7 = σ.1 7 := by omega
      have W8 : τ60.1 8 = σ.1 8 := by omega
      have W9 : τ60.1 9 = σ.1 9 := by omega
      have W22 : τ60.1 22 = σ.1 22 := by omega
      have G6 : τ60.2.1 6 = σ.2.1 6 := (g6_τ60).trans G6
      have G7 : τ60.2.1 7 = σ.2.1 7 := (g7_τ60).trans G7
      have G14 : τ60.2.1 14 = σ.2.1 14 := (g14_τ60).trans G14
      have y14_22_τ60 : τ60.2.1 14 (τ60.1 22) = (τ_135.2.1 14) (τ_135.1 22) := by rw [g14_τ60, w22_τ60]
      have y15_22_τ60 : τ60.2.1 15 (τ60.1 22) = (τ_135.2.1 15) (τ_135.1 22) := by rw [g15_τ60, w22_τ60]
      have Z1 : τ60.2.1 14 (τ60.1 22) + τ60.2.1 15 (τ60.1 22) = (τ60.1 6) := by rw [show (τ60.2.1 14 (τ60.1 22) + τ60.2.1 15 (τ60.1 22) = (τ60.1 6)) = (τ_135.2.1 14 (τ_135.1 22) + τ_135.2.1 15 (τ_135.1 22) = (τ_135.1 6)) from by rw [w6_τ60, w22_τ60, g14_τ60, g15_τ60]]; exact Z1
      have Y20 : ca (τ60.2.1 12) ((τ60.1 3)) ≤ (τ60.1 4) := by rw [show (ca (τ60.2.1 12) ((τ60.1 3)) ≤ (τ60.1 4)) = (ca (τ_135.2.1 12) ((τ_135.1 3)) ≤ (τ_135.1 4)) from by rw [w3_τ60, w4_τ60, g12_τ60]]; exact Y20
      have A6 : ∀ j, (-1) ≤ τ60.2.1 6 j ∧ τ60.2.1 6 j ≤ 999 := fun j => hT.2 6 j
      have A7 : ∀ j, (-1) ≤ τ60.2.1 7 j ∧ τ60.2.1 7 j ≤ 1499 := fun j => hT.2 7 j
      have A12 : ∀ j, 0 ≤ τ60.2.1 12 j ∧ τ60.2.1 12 j ≤ 1 := fun j => hT.2 12 j
      have A14 : ∀ j, 0 ≤ τ60.2.1 14 j ∧ τ60.2.1 14 j ≤ 30000 := fun j => hT.2 14 j
      have A15 : ∀ j, 0 ≤ τ60.2.1 15 j ∧ τ60.2.1 15 j ≤ 300 := fun j => hT.2 15 j
      have v0 : 0 ≤ τ60.1 0 ∧ τ60.1 0 ≤ 60000 := hT.1 0
      have v3 : 0 ≤ τ60.1 3 ∧ τ60.1 3 ≤ 1000 := hT.1 3
      have v4 : 0 ≤ τ60.1 4 ∧ τ60.1 4 ≤ 100 := hT.1 4
      have v5 : 0 ≤ τ60.1 5 ∧ τ60.1 5 ≤ 1500 := hT.1 5
      have v6 : 0 ≤ τ60.1 6 ∧ τ60.1 6 ≤ 30000 := hT.1 6
      have v7 : 0 ≤ τ60.1 7 ∧ τ60.1 7 ≤ 90000 := hT.1 7
      have v8 : 0 ≤ τ60.1 8 ∧ τ60.1 8 ≤ 20000 := hT.1 8
      have v9 : 0 ≤ τ60.1 9 ∧ τ60.1 9 ≤ 20000 := hT.1 9
      have v13 : 0 ≤ τ60.1 13 ∧ τ60.1 13 ≤ 1500 := hT.1 13
      have v16 : 0 ≤ τ60.1 16 ∧ τ60.1 16 ≤ 60000 := hT.1 16
      have v17 : 0 ≤ τ60.1 17 ∧ τ60.1 17 ≤ 60000 := hT.1 17
      have v18 : 0 ≤ τ60.1 18 ∧ τ60.1 18 ≤ 60000 := hT.1 18
      have v19 : (-1) ≤ τ60.1 19 ∧ τ60.1 19 ≤ 125 := hT.1 19
      have v20 : 0 ≤ τ60.1 20 ∧ τ60.1 20 ≤ 19 := hT.1 20
      have v22 : 0 ≤ τ60.1 22 ∧ τ60.1 22 ≤ 1499 := hT.1 22
      have a14_22 : 0 ≤ τ60.2.1 14 (τ60.1 22) ∧ τ60.2.1 14 (τ60.1 22) ≤ 30000 := hT.2 14 _
      have a15_22 : 0 ≤ τ60.2.1 15 (τ60.1 22) ∧ τ60.2.1 15 (τ60.1 22) ≤ 300 := hT.2 15 _
      have av5 : σ.1 5 ≤ τ60.1 5 := ag.1 5 (by decide)
      have av6 : σ.1 6 ≤ τ60.1 6 := ag.1 6 (by decide)
      exact l_211 _ _ _ hT ag (show τ60.1 0 = σ.1 0 from by omega) (show τ60.1 3 = σ.1 3 from by omega) (show τ60.1 7 = σ.1 7 from by omega) (show τ60.1 8 = σ.1 8 from by omega) (show τ60.1 9 = σ.1 9 from by omega) (show τ60.1 22 = σ.1 22 from by omega) G6 G7 G14 (show (τ60.1 16) ≤ (τ60.1 0) from by (first | omega | (simp only [st_s] <;> omega) | assumption | omega)) (show (τ60.1 17) + (τ60.1 18) ≤ (τ60.1 0) from by (first | omega | (simp only [st_s] <;> omega) | assumption | omega)) (show oc (τ60.2.1 6) < 4096 from by (first | omega | (simp only [st_s] <;> omega) | assumption | omega)) (show oc (τ60.2.1 7) < 4096 from by (first | omega | (simp only [st_s] <;> omega) | assumption | omega)) (show ¬ (σ.1 20) = 0 → (τ60.1 20) = (σ.1 20) from by (first | omega | (simp only [st_s] <;> omega) | assumption | omega)) (show τ60.2.1 14 (τ60.1 22) + τ60.2.1 15 (τ60.1 22) = (τ60.1 6) from Z1) (show ca (τ60.2.1 12) ((τ60.1 3)) ≤ (τ60.1 4) from Y20) (show (τ60.1 5) = (σ.1 5) from by (first | omega | (simp only [st_s] <;> omega) | assumption | omega)) (show (τ60.1 13) = (σ.1 13) from by (first | omega | (simp only [st_s] <;> omega) | assumption | omega)) (show τ60.2.1 15 (τ60.1 22) ≤ 2 from by (first | omega | (simp only [st_s] <;> omega) | assumption | omega)) (show (σ.1 16) ≤ (τ60.1 16) from by (first | omega | (simp only [st_s] <;> omega) | assumption | omega)) (show -1 ≤ u1_135 from by (first | omega | (simp only [st_s] <;> omega) | assumption | omega)) (show u1_135 ≤ 999 from by (first | omega | (simp only [st_s] <;> omega) | assumption | omega)) (show 0 ≤ u2_135 from by (first | omega | (simp only [st_s] <;> omega) | assumption | omega)) (show u2_135 ≤ 999 from by (first | omega | (simp only [st_s] <;> omega) | assumption | omega)) (show (τ60.1 20) = 0 → 0 ≤ u1_135 ∧ τ60.2.1 15 (τ60.1 22) = 1 ∧ (τ60.1 6) < 30000 from by (first | omega | (simp only [st_s] <;> omega) | assumption | omega))
    ·
      refine ⟨(show 0 ≤ u1_135 ∧ u1_135 < 1001 from by (first | omega | (simp only [st_s] <;> omega) | assumption | omega)), ?_⟩
      intro x42 r_x42 e_x42
      have b_x42 : 0 ≤ x42 ∧ x42 ≤ 1 := by rw [e_x42]; exact hT.2 8 _
      refine ⟨fun c43 => ?_, fun c43 => ?_⟩
      ·
        exact l_167 _ _ _ hT ag (show τ_135.1 0 = σ.1 0 from by omega) (show τ_135.1 3 = σ.1 3 from by omega) (show τ_135.1 7 = σ.1 7 from by omega) (show τ_135.1 8 = σ.1 8 from by omega) (show τ_135.1 9 = σ.1 9 from by omega) (show τ_135.1 22 = σ.1 22 from by omega) G6 G7 G14 (show (τ_135.1 16) ≤ (τ_135.1 0) from by (first | omega | (simp only [st_s] <;> omega) | assumption | omega)) (show (τ_135.1 17) + (τ_135.1 18) ≤ (τ_135.1 0) from by (first | omega | (simp only [st_s] <;> omega) | assumption | omega)) (show oc (τ_135.2.1 6) < 4096 from by (first | omega | (simp only [st_s] <;> omega) | assumption | omega)) (show oc (τ_135.2.1 7) < 4096 from by (first | omega | (simp only [st_s] <;> omega) | assumption | omega)) (show ¬ (σ.1 20) = 0 → (τ_135.1 20) = (σ.1 20) from by (first | omega | (simp only [st_s] <;> omega) | assumption | omega)) (show τ_135.2.1 14 (τ_135.1 22) + τ_135.2.1 15 (τ_135.1 22) = (τ_135.1 6) from Z1) (show ca (τ_135.2.1 12) ((τ_135.1 3)) ≤ (τ_135.1 4) from Y20) (show (τ_135.1 5) = (σ.1 5) from by (first | omega | (simp only [st_s] <;> omega) | assumption | omega)) (show (τ_135.1 13) = (σ.1 13) from by (first | omega | (simp only [st_s] <;> omega) | assumption | omega)) (show τ_135.2.1 15 (τ_135.1 22) ≤ 2 from by (first | omega | (simp only [st_s] <;> omega) | assumption | omega)) (show (σ.1 16) ≤ (τ_135.1 16) from by (first | omega | (simp only [st_s] <;> omega) | assumption | omega)) (show -1 ≤ u1_135 from by (first | omega | (simp only [st_s] <;> omega) | assumption | omega)) (show u1_135 ≤ 999 from by (first | omega | (simp only [st_s] <;> omega) | assumption | omega)) (show 0 ≤ u2_135 from by (first | omega | (simp only [st_s] <;> omega) | assumption | omega)) (show u2_135 ≤ 999 from by (first | omega | (simp only [st_s] <;> omega) | assumption | omega)) (show 0 ≤ u1_135 from by (first | omega | (simp only [st_s] <;> omega) | assumption | omega)) (show (τ_135.1 20) = 0 from by (first | omega | (simp only [st_s] <;> omega) | assumption | omega)) (show τ_135.2.1 15 (τ_135.1 22) = 1 from by (first | omega | (simp only [st_s] <;> omega) | assumption | omega)) (show (τ_135.1 6) < 30000 from by (first | omega | (simp only [st_s] <;> omega) | assumption | omega))
      ·
        intro x44 r_x44 e_x44
        have b_x44 : 0 ≤ x44 ∧ x44 ≤ 1 := by rw [e_x44]; exact hT.2 9 _
        refine ⟨fun c45 => ?_, fun c45 => ?_⟩
        ·
          exact l_167 _ _ _ hT ag (show τ_135.1 0 = σ.1 0 from by omega) (show τ_135.1 3 = σ.1 3 from by omega) (show τ_135.1 7 = σ.1 7 from by omega) (show τ_135.1 8 = σ.1 8 from by omega) (show τ_135.1 9 = σ.1 9 from by omega) (show τ_135.1 22 = σ.1 22 from by omega) G6 G7 G14 (show (τ_135.1 16) ≤ (τ_135.1 0) from by (first | omega | (simp only [st_s] <;> omega) | assumption | omega)) (show (τ_135.1 17) + (τ_135.1 18) ≤ (τ_135.1 0) from by (first | omega | (simp only [st_s] <;> omega) | assumption | omega)) (show oc (τ_135.2.1 6) < 4096 from by (first | omega | (simp only [st_s] <;> omega) | assumption | omega)) (show oc (τ_135.2.1 7) < 4096 from by (first | omega | (simp only [st_s] <;> omega) | assumption | omega)) (show ¬ (σ.1 20) = 0 → (τ_135.1 20) = (σ.1 20) from by (first | omega | (simp only [st_s] <;> omega) | assumption | omega)) (show τ_135.2.1 14 (τ_135.1 22) + τ_135.2.1 15 (τ_135.1 22) = (τ_135.1 6) from Z1) (show ca (τ_135.2.1 12) ((τ_135.1 3)) ≤ (τ_135.1 4) from Y20) (show (τ_135.1 5) = (σ.1 5) from by (first | omega | (simp only [st_s] <;> omega) | assumption | omega)) (show (τ_135.1 13) = (σ.1 13) from by (first | omega | (simp only [st_s] <;> omega) | assumption | omega)) (show τ_135.2.1 15 (τ_135.1 22) ≤ 2 from by (first | omega | (simp only [st_s] <;> omega) | assumption | omega)) (show (σ.1 16) ≤ (τ_135.1 16) from by (first | omega | (simp only [st_s] <;> omega) | assumption | omega)) (show -1 ≤ u1_135 from by (first | omega | (simp only [st_s] <;> omega) | assumption | omega)) (show u1_135 ≤ 999 from by (first | omega | (simp only [st_s] <;> omega) | assumption | omega)) (show 0 ≤ u2_135 from by (first | omega | (simp only [st_s] <;> omega) | assumption | omega)) (show u2_135 ≤ 999 from by (first | omega | (simp only [st_s] <;> omega) | assumption | omega)) (show 0 ≤ u1_135 from by (first | omega | (simp only [st_s] <;> omega) | assumption | omega)) (show (τ_135.1 20) = 0 from by (first | omega | (simp only [st_s] <;> omega) | assumption | omega)) (show τ_135.2.1 15 (τ_135.1 22) = 1 from by (first | omega | (simp only [st_s] <;> omega) | assumption | omega)) (show (τ_135.1 6) < 30000 from by (first | omega | (simp only [st_s] <;> omega) | assumption | omega))
        ·
          refine h158 _ _ _ ?_
          refine ⟨_, K_X13_failHere hT (show 0 ≤ 9 from by (first | omega | (simp only [st_s] <;> omega) | assumption | omega)) (show 9 ≤ 19 from by (first | omega | (simp only [st_s] <;> omega) | assumption | omega)), ?_⟩
          intro τ60 hn_τ60 hf_τ60 hq
          obtain ⟨hT, q58_1, q58_2⟩ := hq
          replace q58_1 : ¬ (τ_135.1 20) = 0 → (τ60.1 20) = (τ_135.1 20) := q58_1
          replace q58_2 : (τ_135.1 20) = 0 → (τ60.1 20) = 9 := q58_2
          replace ag : m_ag σ τ60 := ag_r ag hf_τ60 rfl rfl
          have w0_τ60 : τ60.1 0 = τ_135.1 0 := hf_τ60.1 0 (by decide)
          have w3_τ60 : τ60.1 3 = τ_135.1 3 := hf_τ60.1 3 (by decide)
          have w4_τ60 : τ60.1 4 = τ_135.1 4 := hf_τ60.1 4 (by decide)
          have w5_τ60 : τ60.1 5 = τ_135.1 5 := hf_τ60.1 5 (by decide)
          have w6_τ60 : τ60.1 6 = τ_135.1 6 := hf_τ60.1 6 (by decide)
          have w7_τ60 : τ60.1 7 = τ_135.1 7 := hf_τ60.1 7 (by decide)
          have w8_τ60 : τ60.1 8 = τ_135.1 8 := hf_τ60.1 8 (by decide)
          have w9_τ60 : τ60.1 9 = τ_135.1 9 := hf_τ60.1 9 (by decide)
          have w13_τ60 : τ60.1 13 = τ_135.1 13 := hf_τ60.1 13 (by decide)
          have w16_τ60 : τ60.1 16 = τ_135.1 16 := hf_τ60.1 16 (by decide)
          have w17_τ60 : τ60.1 17 = τ_135.1 17 := hf_τ60.1 17 (by decide)
          have w18_τ60 : τ60.1 18 = τ_135.1 18 := hf_τ60.1 18 (by decide)
          have w19_τ60 : τ60.1 19 = τ_135.1 19 := hf_τ60.1 19 (by decide)
          have w22_τ60 : τ60.1 22 = τ_135.1 22 := hf_τ60.1 22 (by decide)
          have g6_τ60 : τ60.2.1 6 = τ_135.2.1 6 := hf_τ60.2.1 6 (by decide)
          have g7_τ60 : τ60.2.1 7 = τ_135.2.1 7 := hf_τ60.2.1 7 (by decide)
          have g12_τ60 : τ60.2.1 12 = τ_135.2.1 12 := hf_τ60.2.1 12 (by decide)
          have g14_τ60 : τ60.2.1 14 = τ_135.2.1 14 := hf_τ60.2.1 14 (by decide)
          have g15_τ60 : τ60.2.1 15 = τ_135.2.1 15 := hf_τ60.2.1 15 (by decide)
          first | (have o6_τ60 := congrArg oc g6_τ60) | skip
          first | (have o7_τ60 := congrArg oc g7_τ60) | skip
          have W0 : τ60.1 0 = σ.1 0 := by omega
          have W3 : τ60.1 3 = σ.1 3 := by omega
          have W7 : τ60.1 7 = σ.1 7 := by omega
          have W8 : τ60.1 8 = σ.1 8 := by omega
          have W9 : τ60.1 9 = σ.1 9 := by omega
          have W22 : τ60.1 22 = σ.1 22 := by omega
          have G6 : τ60.2.1 6 = σ.2.1 6 := (g6_τ60).trans G6
          have G7 : τ60.2.1 7 = σ.2.1 7 := (g7_τ60).trans G7
          have G14 : τ60.2.1 14 = σ.2.1 14 := (g14_τ60).trans G14
          have y14_22_τ60 : τ60.2.1 14 (τ60.1 22) = (τ_135.2.1 14) (τ_135.1 22) := by rw [g14_τ60, w22_τ60]
          have y15_22_τ60 : τ60.2.1 15 (τ60.1 22) = (τ_135.2.1 15) (τ_135.1 22) := by rw [g15_τ60, w22_τ60]
          have Z1 : τ60.2.1 14 (τ60.1 22) + τ60.2.1 15 (τ60.1 22) = (τ60.1 6) := by rw [show (τ60.2.1 14 (τ60.1 22) + τ60.2.1 15 (τ60.1 22) = (τ60.1 6)) = (τ_135.2.1 14 (τ_135.1 22) + τ_135.2.1 15 (τ_135.1 22) = (τ_135.1 6)) from by rw [w6_τ60, w22_τ60, g14_τ60, g15_τ60]]; exact Z1
          have Y20 : ca (τ60.2.1 12) ((τ60.1 3)) ≤ (τ60.1 4) := by rw [show (ca (τ60.2.1 12) ((τ60.1 3)) ≤ (τ60.1 4)) = (ca (τ_135.2.1 12) ((τ_135.1 3)) ≤ (τ_135.1 4)) from by rw [w3_τ60, w4_τ60, g12_τ60]]; exact Y20
          have A6 : ∀ j, (-1) ≤ τ60.2.1 6 j ∧ τ60.2.1 6 j ≤ 999 := fun j => hT.2 6 j
          have A7 : ∀ j, (-1) ≤ τ60.2.1 7 j ∧ τ60.2.1 7 j ≤ 1499 := fun j => hT.2 7 j
          have A12 : ∀ j, 0 ≤ τ60.2.1 12 j ∧ τ60.2.1 12 j ≤ 1 := fun j => hT.2 12 j
          have A14 : ∀ j, 0 ≤ τ60.2.1 14 j ∧ τ60.2.1 14 j ≤ 30000 := fun j => hT.2 14 j
          have A15 : ∀ j, 0 ≤ τ60.2.1 15 j ∧ τ60.2.1 15 j ≤ 300 := fun j => hT.2 15 j
          have v0 : 0 ≤ τ60.1 0 ∧ τ60.1 0 ≤ 60000 := hT.1 0
          have v3 : 0 ≤ τ60.1 3 ∧ τ60.1 3 ≤ 1000 := hT.1 3
          have v4 : 0 ≤ τ60.1 4 ∧ τ60.1 4 ≤ 100 := hT.1 4
          have v5 : 0 ≤ τ60.1 5 ∧ τ60.1 5 ≤ 1500 := hT.1 5
          have v6 : 0 ≤ τ60.1 6 ∧ τ60.1 6 ≤ 30000 := hT.1 6
          have v7 : 0 ≤ τ60.1 7 ∧ τ60.1 7 ≤ 90000 := hT.1 7
          have v8 : 0 ≤ τ60.1 8 ∧ τ60.1 8 ≤ 20000 := hT.1 8
          have v9 : 0 ≤ τ60.1 9 ∧ τ60.1 9 ≤ 20000 := hT.1 9
          have v13 : 0 ≤ τ60.1 13 ∧ τ60.1 13 ≤ 1500 := hT.1 13
          have v16 : 0 ≤ τ60.1 16 ∧ τ60.1 16 ≤ 60000 := hT.1 16
          have v17 : 0 ≤ τ60.1 17 ∧ τ60.1 17 ≤ 60000 := hT.1 17
          have v18 : 0 ≤ τ60.1 18 ∧ τ60.1 18 ≤ 60000 := hT.1 18
          have v19 : (-1) ≤ τ60.1 19 ∧ τ60.1 19 ≤ 125 := hT.1 19
          have v20 : 0 ≤ τ60.1 20 ∧ τ60.1 20 ≤ 19 := hT.1 20
          have v22 : 0 ≤ τ60.1 22 ∧ τ60.1 22 ≤ 1499 := hT.1 22
          have a14_22 : 0 ≤ τ60.2.1 14 (τ60.1 22) ∧ τ60.2.1 14 (τ60.1 22) ≤ 30000 := hT.2 14 _
          have a15_22 : 0 ≤ τ60.2.1 15 (τ60.1 22) ∧ τ60.2.1 15 (τ60.1 22) ≤ 300 := hT.2 15 _
          have av5 : σ.1 5 ≤ τ60.1 5 := ag.1 5 (by decide)
          have av6 : σ.1 6 ≤ τ60.1 6 := ag.1 6 (by decide)
          exact l_211 _ _ _ hT ag (show τ60.1 0 = σ.1 0 from by omega) (show τ60.1 3 = σ.1 3 from by omega) (show τ60.1 7 = σ.1 7 from by omega) (show τ60.1 8 = σ.1 8 from by omega) (show τ60.1 9 = σ.1 9 from by omega) (show τ60.1 22 = σ.1 22 from by omega) G6 G7 G14 (show (τ60.1 16) ≤ (τ60.1 0) from by (first | omega | (simp only [st_s] <;> omega) | assumption | omega)) (show (τ60.1 17) + (τ60.1 18) ≤ (τ60.1 0) from by (first | omega | (simp only [st_s] <;> omega) | assumption | omega)) (show oc (τ60.2.1 6) < 4096 from by (first | omega | (simp only [st_s] <;> omega) | assumption | omega)) (show oc (τ60.2.1 7) < 4096 from by (first | omega | (simp only [st_s] <;> omega) | assumption | omega)) (show ¬ (σ.1 20) = 0 → (τ60.1 20) = (σ.1 20) from by (first | omega | (simp only [st_s] <;> omega) | assumption | omega)) (show τ60.2.1 14 (τ60.1 22) + τ60.2.1 15 (τ60.1 22) = (τ60.1 6) from Z1) (show ca (τ60.2.1 12) ((τ60.1 3)) ≤ (τ60.1 4) from Y20) (show (τ60.1 5) = (σ.1 5) from by (first | omega | (simp only [st_s] <;> omega) | assumption | omega)) (show (τ60.1 13) = (σ.1 13) from by (first | omega | (simp only [st_s] <;> omega) | assumption | omega)) (show τ60.2.1 15 (τ60.1 22) ≤ 2 from by (first | omega | (simp only [st_s] <;> omega) | assumption | omega)) (show (σ.1 16) ≤ (τ60.1 16) from by (first | omega | (simp only [st_s] <;> omega) | assumption | omega)) (show -1 ≤ u1_135 from by (first | omega | (simp only [st_s] <;> omega) | assumption | omega)) (show u1_135 ≤ 999 from by (first | omega | (simp only [st_s] <;> omega) | assumption | omega)) (show 0 ≤ u2_135 from by (first | omega | (simp only [st_s] <;> omega) | assumption | omega)) (show u2_135 ≤ 999 from by (first | omega | (simp only [st_s] <;> omega) | assumption | omega)) (show (τ60.1 20) = 0 → 0 ≤ u1_135 ∧ τ60.2.1 15 (τ60.1 22) = 1 ∧ (τ60.1 6) < 30000 from by (first | omega | (simp only [st_s] <;> omega) | assumption | omega))
  have l_47 : ∀ (τ_47 : S0), (m_T τ_47) → (m_ag σ τ_47) → (τ_47.1 0 = σ.1 0) → (τ_47.1 3 = σ.1 3) → (τ_47.1 7 = σ.1 7) → (τ_47.1 8 = σ.1 8) → (τ_47.1 9 = σ.1 9) → (τ_47.1 22 = σ.1 22) → (τ_47.2.1 6 = σ.2.1 6) → (τ_47.2.1 7 = σ.2.1 7) → (τ_47.2.1 14 = σ.2.1 14) → ((τ_47.1 16) ≤ (τ_47.1 0)) → ((τ_47.1 17) + (τ_47.1 18) ≤ (τ_47.1 0)) → (oc (τ_47.2.1 6) < 4096) → (oc (τ_47.2.1 7) < 4096) → (¬ (σ.1 20) = 0 → (τ_47.1 20) = (σ.1 20)) → (τ_47.2.1 14 (τ_47.1 22) + τ_47.2.1 15 (τ_47.1 22) = (τ_47.1 6)) → (ca (τ_47.2.1 12) ((τ_47.1 3)) ≤ (τ_47.1 4)) → ((τ_47.1 5) = (σ.1 5)) → ((τ_47.1 13) = (σ.1 13)) → (τ_47.2.1 15 (τ_47.1 22) ≤ 2) → ((σ.1 16) ≤ (τ_47.1 16)) → ((τ_47.1 20) = 0 → τ_47.2.1 15 (τ_47.1 22) = 1) → P47 τ_47 := by
    intro τ_47 hT ag W0 W3 W7 W8 W9 W22 G6 G7 G14 i47_1 i47_2 i47_3 i47_4 i47_5 i47_6 i47_7 i47_8 i47_9 i47_10 i47_11 i47_12
    have A6 : ∀ j, (-1) ≤ τ_47.2.1 6 j ∧ τ_47.2.1 6 j ≤ 999 := fun j => hT.2 6 j
    have A7 : ∀ j, (-1) ≤ τ_47.2.1 7 j ∧ τ_47.2.1 7 j ≤ 1499 := fun j => hT.2 7 j
    have A12 : ∀ j, 0 ≤ τ_47.2.1 12 j ∧ τ_47.2.1 12 j ≤ 1 := fun j => hT.2 12 j
    have A14 : ∀ j, 0 ≤ τ_47.2.1 14 j ∧ τ_47.2.1 14 j ≤ 30000 := fun j => hT.2 14 j
    have A15 : ∀ j, 0 ≤ τ_47.2.1 15 j ∧ τ_47.2.1 15 j ≤ 300 := fun j => hT.2 15 j
    have v0 : 0 ≤ τ_47.1 0 ∧ τ_47.1 0 ≤ 60000 := hT.1 0
    have v3 : 0 ≤ τ_47.1 3 ∧ τ_47.1 3 ≤ 1000 := hT.1 3
    have v4 : 0 ≤ τ_47.1 4 ∧ τ_47.1 4 ≤ 100 := hT.1 4
    have v5 : 0 ≤ τ_47.1 5 ∧ τ_47.1 5 ≤ 1500 := hT.1 5
    have v6 : 0 ≤ τ_47.1 6 ∧ τ_47.1 6 ≤ 30000 := hT.1 6
    have v7 : 0 ≤ τ_47.1 7 ∧ τ_47.1 7 ≤ 90000 := hT.1 7
    have v8 : 0 ≤ τ_47.1 8 ∧ τ_47.1 8 ≤ 20000 := hT.1 8
    have v9 : 0 ≤ τ_47.1 9 ∧ τ_47.1 9 ≤ 20000 := hT.1 9
    have v13 : 0 ≤ τ_47.1 13 ∧ τ_47.1 13 ≤ 1500 := hT.1 13
    have v16 : 0 ≤ τ_47.1 16 ∧ τ_47.1 16 ≤ 60000 := hT.1 16
    have v17 : 0 ≤ τ_47.1 17 ∧ τ_47.1 17 ≤ 60000 := hT.1 17
    have v18 : 0 ≤ τ_47.1 18 ∧ τ_47.1 18 ≤ 60000 := hT.1 18
    have v19 : (-1) ≤ τ_47.1 19 ∧ τ_47.1 19 ≤ 125 := hT.1 19
    have v20 : 0 ≤ τ_47.1 20 ∧ τ_47.1 20 ≤ 19 := hT.1 20
    have v22 : 0 ≤ τ_47.1 22 ∧ τ_47.1 22 ≤ 1499 := hT.1 22
    have a14_22 : 0 ≤ τ_47.2.1 14 (τ_47.1 22) ∧ τ_47.2.1 14 (τ_47.1 22) ≤ 30000 := hT.2 14 _
    have a15_22 : 0 ≤ τ_47.2.1 15 (τ_47.1 22) ∧ τ_47.2.1 15 (τ_47.1 22) ≤ 300 := hT.2 15 _
    have av5 : σ.1 5 ≤ τ_47.1 5 := ag.1 5 (by decide)
    have av6 : σ.1 6 ≤ τ_47.1 6 := ag.1 6 (by decide)
    have y14_22_τ_47 : τ_47.2.1 14 (τ_47.1 22) = σ.2.1 14 (σ.1 22) := by rw [G14, W22]
    have o6_τ_47 := congrArg oc G6
    have o7_τ_47 := congrArg oc G7
    have Z1 : τ_47.2.1 14 (τ_47.1 22) + τ_47.2.1 15 (τ_47.1 22) = (τ_47.1 6) := i47_6
    have Y20 : ca (τ_47.2.1 12) ((τ_47.1 3)) ≤ (τ_47.1 4) := i47_7
    refine h47 τ_47 ?_
    refine ⟨fun c17 => ?_, fun c17 => ?_⟩
    ·
      refine ⟨_, K_X13_symbolHere hT (show (τ_47.1 17) + (τ_47.1 18) ≤ 60000 from by (first | omega | (simp only [st_s] <;> omega) | assumption | omega)) (show oc (τ_47.2.1 6) < 4096 from by (first | omega | (simp only [st_s] <;> omega) | assumption | omega)), ?_⟩
      intro x19 r_x19 hq
      obtain ⟨q18_1, q18_2⟩ := hq
      replace q18_1 : -1 ≤ x19 ∧ x19 ≤ 999 := q18_1
      replace q18_2 : x19 = -1 ∨ ∃ e : Int, (0 ≤ e ∧ e < 4096) ∧ x19 = τ_47.2.1 6 e := q18_2
      clear q18_2
      refine ⟨(show 0 ≤ τ_47.1 22 ∧ τ_47.1 22 < 1501 from by (first | omega | (simp only [st_s] <;> omega) | assumption | omega)), ?_⟩
      intro x22 r_x22 e_x22
      have b_x22 : 0 ≤ x22 ∧ x22 ≤ 30000 := by rw [e_x22]; exact hT.2 14 _
      refine ⟨(show 0 ≤ x22 ∧ x22 < 30400 from by (first | omega | (simp only [st_s] <;> omega) | assumption | omega)), ?_⟩
      intro x24 r_x24 e_x24
      have b_x24 : 0 ≤ x24 ∧ x24 ≤ 999 := by rw [e_x24]; exact hT.2 16 _
      refine ⟨fun c25 => ?_, fun c25 => ?_⟩
      ·
        refine ⟨fun c26 => ?_, fun c26 => ?_⟩
        ·
          exact l_135 _ _ _ hT ag (show τ_47.1 0 = σ.1 0 from by omega) (show τ_47.1 3 = σ.1 3 from by omega) (show τ_47.1 7 = σ.1 7 from by omega) (show τ_47.1 8 = σ.1 8 from by omega) (show τ_47.1 9 = σ.1 9 from by omega) (show τ_47.1 22 = σ.1 22 from by omega) G6 G7 G14 (show (τ_47.1 16) ≤ (τ_47.1 0) from by (first | omega | (simp only [st_s] <;> omega) | assumption | omega)) (show (τ_47.1 17) + (τ_47.1 18) ≤ (τ_47.1 0) from by (first | omega | (simp only [st_s] <;> omega) | assumption | omega)) (show oc (τ_47.2.1 6) < 4096 from by (first | omega | (simp only [st_s] <;> omega) | assumption | omega)) (show oc (τ_47.2.1 7) < 4096 from by (first | omega | (simp only [st_s] <;> omega) | assumption | omega)) (show ¬ (σ.1 20) = 0 → (τ_47.1 20) = (σ.1 20) from by (first | omega | (simp only [st_s] <;> omega) | assumption | omega)) (show τ_47.2.1 14 (τ_47.1 22) + τ_47.2.1 15 (τ_47.1 22) = (τ_47.1 6) from Z1) (show ca (τ_47.2.1 12) ((τ_47.1 3)) ≤ (τ_47.1 4) from Y20) (show (τ_47.1 5) = (σ.1 5) from by (first | omega | (simp only [st_s] <;> omega) | assumption | omega)) (show (τ_47.1 13) = (σ.1 13) from by (first | omega | (simp only [st_s] <;> omega) | assumption | omega)) (show τ_47.2.1 15 (τ_47.1 22) ≤ 2 from by (first | omega | (simp only [st_s] <;> omega) | assumption | omega)) (show (σ.1 16) ≤ (τ_47.1 16) from by (first | omega | (simp only [st_s] <;> omega) | assumption | omega)) (show -1 ≤ x19 from by (first | omega | (simp only [st_s] <;> omega) | assumption | omega)) (show x19 ≤ 999 from by (first | omega | (simp only [st_s] <;> omega) | assumption | omega)) (show 0 ≤ x24 from by (first | omega | (simp only [st_s] <;> omega) | assumption | omega)) (show x24 ≤ 999 from by (first | omega | (simp only [st_s] <;> omega) | assumption | omega)) (show (τ_47.1 20) = 0 from by (first | omega | (simp only [st_s] <;> omega) | assumption | omega)) (show τ_47.2.1 15 (τ_47.1 22) = 1 from by (first | omega | (simp only [st_s] <;> omega) | assumption | omega)) (show (τ_47.1 6) < 30000 from by (first | omega | (simp only [st_s] <;> omega) | assumption | omega))
        ·
          refine ⟨(show 0 ≤ x19 ∧ x19 < 1001 from by (first | omega | (simp only [st_s] <;> omega) | assumption | omega)), ?_⟩
          intro x28 r_x28 e_x28
          have b_x28 : 0 ≤ x28 ∧ x28 ≤ 1 := by rw [e_x28]; exact hT.2 8 _
          refine ⟨fun c29 => ?_, fun c29 => ?_⟩
          ·
            exact l_135 _ _ _ hT ag (show τ_47.1 0 = σ.1 0 from by omega) (show τ_47.1 3 = σ.1 3 from by omega) (show τ_47.1 7 = σ.1 7 from by omega) (show τ_47.1 8 = σ.1 8 from by omega) (show τ_47.1 9 = σ.1 9 from by omega) (show τ_47.1 22 = σ.1 22 from by omega) G6 G7 G14 (show (τ_47.1 16) ≤ (τ_47.1 0) from by (first | omega | (simp only [st_s] <;> omega) | assumption | omega)) (show (τ_47.1 17) + (τ_47.1 18) ≤ (τ_47.1 0) from by (first | omega | (simp only [st_s] <;> omega) | assumption | omega)) (show oc (τ_47.2.1 6) < 4096 from by (first | omega | (simp only [st_s] <;> omega) | assumption | omega)) (show oc (τ_47.2.1 7) < 4096 from by (first | omega | (simp only [st_s] <;> omega) | assumption | omega)) (show ¬ (σ.1 20) = 0 → (τ_47.1 20) = (σ.1 20) from by (first | omega | (simp only [st_s] <;> omega) | assumption | omega)) (show τ_47.2.1 14 (τ_47.1 22) + τ_47.2.1 15 (τ_47.1 22) = (τ_47.1 6) from Z1) (show ca (τ_47.2.1 12) ((τ_47.1 3)) ≤ (τ_47.1 4) from Y20) (show (τ_47.1 5) = (σ.1 5) from by (first | omega | (simp only [st_s] <;> omega) | assumption | omega)) (show (τ_47.1 13) = (σ.1 13) from by (first | omega | (simp only [st_s] <;> omega) | assumption | omega)) (show τ_47.2.1 15 (τ_47.1 22) ≤ 2 from by (first | omega | (simp only [st_s] <;> omega) | assumption | omega)) (show (σ.1 16) ≤ (τ_47.1 16) from by (first | omega | (simp only [st_s] <;> omega) | assumption | omega)) (show -1 ≤ x19 from by (first | omega | (simp only [st_s] <;> omega) | assumption | omega)) (show x19 ≤ 999 from by (first | omega | (simp only [st_s] <;> omega) | assumption | omega)) (show 0 ≤ x24 from by (first | omega | (simp only [st_s] <;> omega) | assumption | omega)) (show x24 ≤ 999 from by (first | omega | (simp only [st_s] <;> omega) | assumption | omega)) (show (τ_47.1 20) = 0 from by (first | omega | (simp only [st_s] <;> omega) | assumption | omega)) (show τ_47.2.1 15 (τ_47.1 22) = 1 from by (first | omega | (simp only [st_s] <;> omega) | assumption | omega)) (show (τ_47.1 6) < 30000 from by (first | omega | (simp only [st_s] <;> omega) | assumption | omega))
          ·
            intro x30 r_x30 e_x30
            have b_x30 : 0 ≤ x30 ∧ x30 ≤ 1 := by rw [e_x30]; exact hT.2 9 _
            refine ⟨fun c31 => ?_, fun c31 => ?_⟩
            ·
              exact l_135 _ _ _ hT ag (show τ_47.1 0 = σ.1 0 from by omega) (show τ_47.1 3 = σ.1 3 from by omega) (show τ_47.1 7 = σ.1 7 from by omega) (show τ_47.1 8 = σ.1 8 from by omega) (show τ_47.1 9 = σ.1 9 from by omega) (show τ_47.1 22 = σ.1 22 from by omega) G6 G7 G14 (show (τ_47.1 16) ≤ (τ_47.1 0) from by (first | omega | (simp only [st_s] <;> omega) | assumption | omega)) (show (τ_47.1 17) + (τ_47.1 18) ≤ (τ_47.1 0) from by (first | omega | (simp only [st_s] <;> omega) | assumption | omega)) (show oc (τ_47.2.1 6) < 4096 from by (first | omega | (simp only [st_s] <;> omega) | assumption | omega)) (show oc (τ_47.2.1 7) < 4096 from by (first | omega | (simp only [st_s] <;> omega) | assumption | omega)) (show ¬ (σ.1 20) = 0 → (τ_47.1 20) = (σ.1 20) from by (first | omega | (simp only [st_s] <;> omega) | assumption | omega)) (show τ_47.2.1 14 (τ_47.1 22) + τ_47.2.1 15 (τ_47.1 22) = (τ_47.1 6) from Z1) (show ca (τ_47.2.1 12) ((τ_47.1 3)) ≤ (τ_47.1 4) from Y20) (show (τ_47.1 5) = (σ.1 5) from by (first | omega | (simp only [st_s] <;> omega) | assumption | omega)) (show (τ_47.1 13) = (σ.1 13) from by (first | omega | (simp only [st_s] <;> omega) | assumption | omega)) (show τ_47.2.1 15 (τ_47.1 22) ≤ 2 from by (first | omega | (simp only [st_s] <;> omega) | assumption | omega)) (show (σ.1 16) ≤ (τ_47.1 16) from by (first | omega | (simp only [st_s] <;> omega) | assumption | omega)) (show -1 ≤ x19 from by (first | omega | (simp only [st_s] <;> omega) | assumption | omega)) (show x19 ≤ 999 from by (first | omega | (simp only [st_s] <;> omega) | assumption | omega)) (show 0 ≤ x24 from by (first | omega | (simp only [st_s] <;> omega) | assumption | omega)) (show x24 ≤ 999 from by (first | omega | (simp only [st_s] <;> omega) | assumption | omega)) (show (τ_47.1 20) = 0 from by (first | omega | (simp only [st_s] <;> omega) | assumption | omega)) (show τ_47.2.1 15 (τ_47.1 22) = 1 from by (first | omega | (simp only [st_s] <;> omega) | assumption | omega)) (show (τ_47.1 6) < 30000 from by (first | omega | (simp only [st_s] <;> omega) | assumption | omega))
            ·
              intro x32 r_x32 e_x32
              have b_x32 : (-1) ≤ x32 ∧ x32 ≤ 1499 := by rw [e_x32]; exact hT.2 11 _
              refine ⟨fun c33 => ?_, fun c33 => ?_⟩
              ·
                exact l_135 _ _ _ hT ag (show τ_47.1 0 = σ.1 0 from by omega) (show τ_47.1 3 = σ.1 3 from by omega) (show τ_47.1 7 = σ.1 7 from by omega) (show τ_47.1 8 = σ.1 8 from by omega) (show τ_47.1 9 = σ.1 9 from by omega) (show τ_47.1 22 = σ.1 22 from by omega) G6 G7 G14 (show (τ_47.1 16) ≤ (τ_47.1 0) from by (first | omega | (simp only [st_s] <;> omega) | assumption | omega)) (show (τ_47.1 17) + (τ_47.1 18) ≤ (τ_47.1 0) from by (first | omega | (simp only [st_s] <;> omega) | assumption | omega)) (show oc (τ_47.2.1 6) < 4096 from by (first | omega | (simp only [st_s] <;> omega) | assumption | omega)) (show oc (τ_47.2.1 7) < 4096 from by (first | omega | (simp only [st_s] <;> omega) | assumption | omega)) (show ¬ (σ.1 20) = 0 → (τ_47.1 20) = (σ.1 20) from by (first | omega | (simp only [st_s] <;> omega) | assumption | omega)) (show τ_47.2.1 14 (τ_47.1 22) + τ_47.2.1 15 (τ_47.1 22) = (τ_47.1 6) from Z1) (show ca (τ_47.2.1 12) ((τ_47.1 3)) ≤ (τ_47.1 4) from Y20) (show (τ_47.1 5) = (σ.1 5) from by (first | omega | (simp only [st_s] <;> omega) | assumption | omega)) (show (τ_47.1 13) = (σ.1 13) from by (first | omega | (simp only [st_s] <;> omega) | assumption | omega)) (show τ_47.2.1 15 (τ_47.1 22) ≤ 2 from by (first | omega | (simp only [st_s] <;> omega) | assumption | omega)) (show (σ.1 16) ≤ (τ_47.1 16) from by (first | omega | (simp only [st_s] <;> omega) | assumption | omega)) (show -1 ≤ x19 from by (first | omega | (simp only [st_s] <;> omega) | assumption | omega)) (show x19 ≤ 999 from by (first | omega | (simp only [st_s] <;> omega) | assumption | omega)) (show 0 ≤ x24 from by (first | omega | (simp only [st_s] <;> omega) | assumption | omega)) (show x24 ≤ 999 from by (first | omega | (simp only [st_s] <;> omega) | assumption | omega)) (show (τ_47.1 20) = 0 from by (first | omega | (simp only [st_s] <;> omega) | assumption | omega)) (show τ_47.2.1 15 (τ_47.1 22) = 1 from by (first | omega | (simp only [st_s] <;> omega) | assumption | omega)) (show (τ_47.1 6) < 30000 from by (first | omega | (simp only [st_s] <;> omega) | assumption | omega))
              ·
                refine ⟨_, K_X13_failHere hT (show 0 ≤ 7 from by (first | omega | (simp only [st_s] <;> omega) | assumption | omega)) (show 7 ≤ 19 from by (first | omega | (simp only [st_s] <;> omega) | assumption | omega)), ?_⟩
                intro τ36 hn_τ36 hf_τ36 hq
                obtain ⟨hT, q34_1, q34_2⟩ := hq
                replace q34_1 : ¬ (τ_47.1 20) = 0 → (τ36.1 20) = (τ_47.1 20) := q34_1
                replace q34_2 : (τ_47.1 20) = 0 → (τ36.1 20) = 7 := q34_2
                replace ag : m_ag σ τ36 := ag_r ag hf_τ36 rfl rfl
                have w0_τ36 : τ36.1 0 = τ_47.1 0 := hf_τ36.1 0 (by decide)
                have w3_τ36 : τ36.1 3 = τ_47.1 3 := hf_τ36.1 3 (by decide)
                have w4_τ36 : τ36.1 4 = τ_47.1 4 := hf_τ36.1 4 (by decide)
                have w5_τ36 : τ36.1 5 = τ_47.1 5 := hf_τ36.1 5 (by decide)
                have w6_τ36 : τ36.1 6 = τ_47.1 6 := hf_τ36.1 6 (by decide)
                have w7_τ36 : τ36.1 7 = τ_47.1 7 := hf_τ36.1 7 (by decide)
                have w8_τ36 : τ36.1 8 = τ_47.1 8 := hf_τ36.1 8 (by decide)
                have w9_τ36 : τ36.1 9 = τ_47.1 9 := hf_τ36.1 9 (by decide)
                have w13_τ36 : τ36.1 13 = τ_47.1 13 := hf_τ36.1 13 (by decide)
                have w16_τ36 : τ36.1 16 = τ_47.1 16 := hf_τ36.1 16 (by decide)
                have w17_τ36 : τ36.1 17 = τ_47.1 17 := hf_τ36.1 17 (by decide)
                have w18_τ36 : τ36.1 18 = τ_47.1 18 := hf_τ36.1 18 (by decide)
                have w19_τ36 : τ36.1 19 = τ_47.1 19 := hf_τ36.1 19 (by decide)
                have w22_τ36 : τ36.1 22 = τ_47.1 22 := hf_τ36.1 22 (by decide)
                have g6_τ36 : τ36.2.1 6 = τ_47.2.1 6 := hf_τ36.2.1 6 (by decide)
                have g7_τ36 : τ36.2.1 7 = τ_47.2.1 7 := hf_τ36.2.1 7 (by decide)
                have g12_τ36 : τ36.2.1 12 = τ_47.2.1 12 := hf_τ36.2.1 12 (by decide)
                have g14_τ36 : τ36.2.1 14 = τ_47.2.1 14 := hf_τ36.2.1 14 (by decide)
                have g15_τ36 : τ36.2.1 15 = τ_47.2.1 15 := hf_τ36.2.1 15 (by decide)
                first | (have o6_τ36 := congrArg oc g6_τ36) | skip
                first | (have o7_τ36 := congrArg oc g7_τ36) | skip
                have W0 : τ36.1 0 = σ.1 0 := by omega
                have W3 : τ36.1 3 = σ.1 3 := by omega
                have W7 : τ36.1 7 = σ.1 7 := by omega
                have W8 : τ36.1 8 = σ.1 8 := by omega
                have W9 : τ36.1 9 = σ.1 9 := by omega
                have W22 : τ36.1 22 = σ.1 22 := by omega
                have G6 : τ36.2.1 6 = σ.2.1 6 := (g6_τ36).trans G6
                have G7 : τ36.2.1 7 = σ.2.1 7 := (g7_τ36).trans G7
                have G14 : τ36.2.1 14 = σ.2.1 14 := (g14_τ36).trans G14
                have y14_22_τ36 : τ36.2.1 14 (τ36.1 22) = (τ_47.2.1 14) (τ_47.1 22) := by rw [g14_τ36, w22_τ36]
                have y15_22_τ36 : τ36.2.1 15 (τ36.1 22) = (τ_47.2.1 15) (τ_47.1 22) := by rw [g15_τ36, w22_τ36]
                have Z1 : τ36.2.1 14 (τ36.1 22) + τ36.2.1 15 (τ36.1 22) = (τ36.1 6) := by rw [show (τ36.2.1 14 (τ36.1 22) + τ36.2.1 15 (τ36.1 22) = (τ36.1 6)) = (τ_47.2.1 14 (τ_47.1 22) + τ_47.2.1 15 (τ_47.1 22) = (τ_47.1 6)) from by rw [w6_τ36, w22_τ36, g14_τ36, g15_τ36]]; exact Z1
                have Y20 : ca (τ36.2.1 12) ((τ36.1 3)) ≤ (τ36.1 4) := by rw [show (ca (τ36.2.1 12) ((τ36.1 3)) ≤ (τ36.1 4)) = (ca (τ_47.2.1 12) ((τ_47.1 3)) ≤ (τ_47.1 4)) from by rw [w3_τ36, w4_τ36, g12_τ36]]; exact Y20
                have A6 : ∀ j, (-1) ≤ τ36.2.1 6 j ∧ τ36.2.1 6 j ≤ 999 := fun j => hT.2 6 j
                have A7 : ∀ j, (-1) ≤ τ36.2.1 7 j ∧ τ36.2.1 7 j ≤ 1499 := fun j => hT.2 7 j
                have A12 : ∀ j, 0 ≤ τ36.2.1 12 j ∧ τ36.2.1 12 j ≤ 1 := fun j => hT.2 12 j
                have A14 : ∀ j, 0 ≤ τ36.2.1 14 j ∧ τ36.2.1 14 j ≤ 30000 := fun j => hT.2 14 j
                have A15 : ∀ j, 0 ≤ τ36.2.1 15 j ∧ τ36.2.1 15 j ≤ 300 := fun j => hT.2 15 j
                have v0 : 0 ≤ τ36.1 0 ∧ τ36.1 0 ≤ 60000 := hT.1 0
                have v3 : 0 ≤ τ36.1 3 ∧ τ36.1 3 ≤ 1000 := hT.1 3
                have v4 : 0 ≤ τ36.1 4 ∧ τ36.1 4 ≤ 100 := hT.1 4
                have v5 : 0 ≤ τ36.1 5 ∧ τ36.1 5 ≤ 1500 := hT.1 5
                have v6 : 0 ≤ τ36.1 6 ∧ τ36.1 6 ≤ 30000 := hT.1 6
                have v7 : 0 ≤ τ36.1 7 ∧ τ36.1 7 ≤ 90000 := hT.1 7
                have v8 : 0 ≤ τ36.1 8 ∧ τ36.1 8 ≤ 20000 := hT.1 8
                have v9 : 0 ≤ τ36.1 9 ∧ τ36.1 9 ≤ 20000 := hT.1 9
                have v13 : 0 ≤ τ36.1 13 ∧ τ36.1 13 ≤ 1500 := hT.1 13
                have v16 : 0 ≤ τ36.1 16 ∧ τ36.1 16 ≤ 60000 := hT.1 16
                have v17 : 0 ≤ τ36.1 17 ∧ τ36.1 17 ≤ 60000 := hT.1 17
                have v18 : 0 ≤ τ36.1 18 ∧ τ36.1 18 ≤ 60000 := hT.1 18
                have v19 : (-1) ≤ τ36.1 19 ∧ τ36.1 19 ≤ 125 := hT.1 19
                have v20 : 0 ≤ τ36.1 20 ∧ τ36.1 20 ≤ 19 := hT.1 20
                have v22 : 0 ≤ τ36.1 22 ∧ τ36.1 22 ≤ 1499 := hT.1 22
                have a14_22 : 0 ≤ τ36.2.1 14 (τ36.1 22) ∧ τ36.2.1 14 (τ36.1 22) ≤ 30000 := hT.2 14 _
                have a15_22 : 0 ≤ τ36.2.1 15 (τ36.1 22) ∧ τ36.2.1 15 (τ36.1 22) ≤ 300 := hT.2 15 _
                have av5 : σ.1 5 ≤ τ36.1 5 := ag.1 5 (by decide)
                have av6 : σ.1 6 ≤ τ36.1 6 := ag.1 6 (by decide)
                exact l_211 _ _ _ hT ag (show τ36.1 0 = σ.1 0 from by omega) (show τ36.1 3 = σ.1 3 from by omega) (show τ36.1 7 = σ.1 7 from by omega) (show τ36.1 8 = σ.1 8 from by omega) (show τ36.1 9 = σ.1 9 from by omega) (show τ36.1 22 = σ.1 22 from by omega) G6 G7 G14 (show (τ36.1 16) ≤ (τ36.1 0) from by (first | omega | (simp only [st_s] <;> omega) | assumption | omega)) (show (τ36.1 17) + (τ36.1 18) ≤ (τ36.1 0) from by (first | omega | (simp only [st_s] <;> omega) | assumption | omega)) (show oc (τ36.2.1 6) < 4096 from by (first | omega | (simp only [st_s] <;> omega) | assumption | omega)) (show oc (τ36.2.1 7) < 4096 from by (first | omega | (simp only [st_s] <;> omega) | assumption | omega)) (show ¬ (σ.1 20) = 0 → (τ36.1 20) = (σ.1 20) from by (first | omega | (simp only [st_s] <;> omega) | assumption | omega)) (show τ36.2.1 14 (τ36.1 22) + τ36.2.1 15 (τ36.1 22) = (τ36.1 6) from Z1) (show ca (τ36.2.1 12) ((τ36.1 3)) ≤ (τ36.1 4) from Y20) (show (τ36.1 5) = (σ.1 5) from by (first | omega | (simp only [st_s] <;> omega) | assumption | omega)) (show (τ36.1 13) = (σ.1 13) from by (first | omega | (simp only [st_s] <;> omega) | assumption | omega)) (show τ36.2.1 15 (τ36.1 22) ≤ 2 from by (first | omega | (simp only [st_s] <;> omega) | assumption | omega)) (show (σ.1 16) ≤ (τ36.1 16) from by (first | omega | (simp only [st_s] <;> omega) | assumption | omega)) (show -1 ≤ x19 from by (first | omega | (simp only [st_s] <;> omega) | assumption | omega)) (show x19 ≤ 999 from by (first | omega | (simp only [st_s] <;> omega) | assumption | omega)) (show 0 ≤ x24 from by (first | omega | (simp only [st_s] <;> omega) | assumption | omega)) (show x24 ≤ 999 from by (first | omega | (simp only [st_s] <;> omega) | assumption | omega)) (show (τ36.1 20) = 0 → 0 ≤ x19 ∧ τ36.2.1 15 (τ36.1 22) = 1 ∧ (τ36.1 6) < 30000 from by (first | omega | (simp only [st_s] <;> omega) | assumption | omega))
      ·
        refine ⟨_, K_X13_failHere hT (show 0 ≤ 5 from by (first | omega | (simp only [st_s] <;> omega) | assumption | omega)) (show 5 ≤ 19 from by (first | omega | (simp only [st_s] <;> omega) | assumption | omega)), ?_⟩
        intro τ39 hn_τ39 hf_τ39 hq
        obtain ⟨hT, q37_1, q37_2⟩ := hq
        replace q37_1 : ¬ (τ_47.1 20) = 0 → (τ39.1 20) = (τ_47.1 20) := q37_1
        replace q37_2 : (τ_47.1 20) = 0 → (τ39.1 20) = 5 := q37_2
        replace ag : m_ag σ τ39 := ag_r ag hf_τ39 rfl rfl
        have w0_τ39 : τ39.1 0 = τ_47.1 0 := hf_τ39.1 0 (by decide)
        have w3_τ39 : τ39.1 3 = τ_47.1 3 := hf_τ39.1 3 (by decide)
        have w4_τ39 : τ39.1 4 = τ_47.1 4 := hf_τ39.1 4 (by decide)
        have w5_τ39 : τ39.1 5 = τ_47.1 5 := hf_τ39.1 5 (by decide)
        have w6_τ39 : τ39.1 6 = τ_47.1 6 := hf_τ39.1 6 (by decide)
        have w7_τ39 : τ39.1 7 = τ_47.1 7 := hf_τ39.1 7 (by decide)
        have w8_τ39 : τ39.1 8 = τ_47.1 8 := hf_τ39.1 8 (by decide)
        have w9_τ39 : τ39.1 9 = τ_47.1 9 := hf_τ39.1 9 (by decide)
        have w13_τ39 : τ39.1 13 = τ_47.1 13 := hf_τ39.1 13 (by decide)
        have w16_τ39 : τ39.1 16 = τ_47.1 16 := hf_τ39.1 16 (by decide)
        have w17_τ39 : τ39.1 17 = τ_47.1 17 := hf_τ39.1 17 (by decide)
        have w18_τ39 : τ39.1 18 = τ_47.1 18 := hf_τ39.1 18 (by decide)
        have w19_τ39 : τ39.1 19 = τ_47.1 19 := hf_τ39.1 19 (by decide)
        have w22_τ39 : τ39.1 22 = τ_47.1 22 := hf_τ39.1 22 (by decide)
        have g6_τ39 : τ39.2.1 6 = τ_47.2.1 6 := hf_τ39.2.1 6 (by decide)
        have g7_τ39 : τ39.2.1 7 = τ_47.2.1 7 := hf_τ39.2.1 7 (by decide)
        have g12_τ39 : τ39.2.1 12 = τ_47.2.1 12 := hf_τ39.2.1 12 (by decide)
        have g14_τ39 : τ39.2.1 14 = τ_47.2.1 14 := hf_τ39.2.1 14 (by decide)
        have g15_τ39 : τ39.2.1 15 = τ_47.2.1 15 := hf_τ39.2.1 15 (by decide)
        first | (have o6_τ39 := congrArg oc g6_τ39) | skip
        first | (have o7_τ39 := congrArg oc g7_τ39) | skip
        have W0 : τ39.1 0 = σ.1 0 := by omega
        have W3 : τ39.1 3 = σ.1 3 := by omega
        have W7 : τ39.1 7 = σ.1 7 := by omega
        have W8 : τ39.1 8 = σ.1 8 := by omega
        have W9 : τ39.1 9 = σ.1 9 := by omega
        have W22 : τ39.1 22 = σ.1 22 := by omega
        have G6 : τ39.2.1 6 = σ.2.1 6 := (g6_τ39).trans G6
        have G7 : τ39.2.1 7 = σ.2.1 7 := (g7_τ39).trans G7
        have G14 : τ39.2.1 14 = σ.2.1 14 := (g14_τ39).trans G14
        have y14_22_τ39 : τ39.2.1 14 (τ39.1 22) = (τ_47.2.1 14) (τ_47.1 22) := by rw [g14_τ39, w22_τ39]
        have y15_22_τ39 : τ39.2.1 15 (τ39.1 22) = (τ_47.2.1 15) (τ_47.1 22) := by rw [g15_τ39, w22_τ39]
        have Z1 : τ39.2.1 14 (τ39.1 22) + τ39.2.1 15 (τ39.1 22) = (τ39.1 6) := by rw [show (τ39.2.1 14 (τ39.1 22) + τ39.2.1 15 (τ39.1 22) = (τ39.1 6)) = (τ_47.2.1 14 (τ_47.1 22) + τ_47.2.1 15 (τ_47.1 22) = (τ_47.1 6)) from by rw [w6_τ39, w22_τ39, g14_τ39, g15_τ39]]; exact Z1
        have Y20 : ca (τ39.2.1 12) ((τ39.1 3)) ≤ (τ39.1 4) := by rw [show (ca (τ39.2.1 12) ((τ39.1 3)) ≤ (τ39.1 4)) = (ca (τ_47.2.1 12) ((τ_47.1 3)) ≤ (τ_47.1 4)) from by rw [w3_τ39, w4_τ39, g12_τ39]]; exact Y20
        have A6 : ∀ j, (-1) ≤ τ39.2.1 6 j ∧ τ39.2.1 6 j ≤ 999 := fun j => hT.2 6 j
        have A7 : ∀ j, (-1) ≤ τ39.2.1 7 j ∧ τ39.2.1 7 j ≤ 1499 := fun j => hT.2 7 j
        have A12 : ∀ j, 0 ≤ τ39.2.1 12 j ∧ τ39.2.1 12 j ≤ 1 := fun j => hT.2 12 j
        have A14 : ∀ j, 0 ≤ τ39.2.1 14 j ∧ τ39.2.1 14 j ≤ 30000 := fun j => hT.2 14 j
        have A15 : ∀ j, 0 ≤ τ39.2.1 15 j ∧ τ39.2.1 15 j ≤ 300 := fun j => hT.2 15 j
        have v0 : 0 ≤ τ39.1 0 ∧ τ39.1 0 ≤ 60000 := hT.1 0
        have v3 : 0 ≤ τ39.1 3 ∧ τ39.1 3 ≤ 1000 := hT.1 3
        have v4 : 0 ≤ τ39.1 4 ∧ τ39.1 4 ≤ 100 := hT.1 4
        have v5 : 0 ≤ τ39.1 5 ∧ τ39.1 5 ≤ 1500 := hT.1 5
        have v6 : 0 ≤ τ39.1 6 ∧ τ39.1 6 ≤ 30000 := hT.1 6
        have v7 : 0 ≤ τ39.1 7 ∧ τ39.1 7 ≤ 90000 := hT.1 7
        have v8 : 0 ≤ τ39.1 8 ∧ τ39.1 8 ≤ 20000 := hT.1 8
        have v9 : 0 ≤ τ39.1 9 ∧ τ39.1 9 ≤ 20000 := hT.1 9
        have v13 : 0 ≤ τ39.1 13 ∧ τ39.1 13 ≤ 1500 := hT.1 13
        have v16 : 0 ≤ τ39.1 16 ∧ τ39.1 16 ≤ 60000 := hT.1 16
        have v17 : 0 ≤ τ39.1 17 ∧ τ39.1 17 ≤ 60000 := hT.1 17
        have v18 : 0 ≤ τ39.1 18 ∧ τ39.1 18 ≤ 60000 := hT.1 18
        have v19 : (-1) ≤ τ39.1 19 ∧ τ39.1 19 ≤ 125 := hT.1 19
        have v20 : 0 ≤ τ39.1 20 ∧ τ39.1 20 ≤ 19 := hT.1 20
        have v22 : 0 ≤ τ39.1 22 ∧ τ39.1 22 ≤ 1499 := hT.1 22
        have a14_22 : 0 ≤ τ39.2.1 14 (τ39.1 22) ∧ τ39.2.1 14 (τ39.1 22) ≤ 30000 := hT.2 14 _
        have a15_22 : 0 ≤ τ39.2.1 15 (τ39.1 22) ∧ τ39.2.1 15 (τ39.1 22) ≤ 300 := hT.2 15 _
        have av5 : σ.1 5 ≤ τ39.1 5 := ag.1 5 (by decide)
        have av6 : σ.1 6 ≤ τ39.1 6 := ag.1 6 (by decide)
        exact l_211 _ _ _ hT ag (show τ39.1 0 = σ.1 0 from by omega) (show τ39.1 3 = σ.1 3 from by omega) (show τ39.1 7 = σ.1 7 from by omega) (show τ39.1 8 = σ.1 8 from by omega) (show τ39.1 9 = σ.1 9 from by omega) (show τ39.1 22 = σ.1 22 from by omega) G6 G7 G14 (show (τ39.1 16) ≤ (τ39.1 0) from by (first | omega | (simp only [st_s] <;> omega) | assumption | omega)) (show (τ39.1 17) + (τ39.1 18) ≤ (τ39.1 0) from by (first | omega | (simp only [st_s] <;> omega) | assumption | omega)) (show oc (τ39.2.1 6) < 4096 from by (first | omega | (simp only [st_s] <;> omega) | assumption | omega)) (show oc (τ39.2.1 7) < 4096 from by (first | omega | (simp only [st_s] <;> omega) | assumption | omega)) (show ¬ (σ.1 20) = 0 → (τ39.1 20) = (σ.1 20) from by (first | omega | (simp only [st_s] <;> omega) | assumption | omega)) (show τ39.2.1 14 (τ39.1 22) + τ39.2.1 15 (τ39.1 22) = (τ39.1 6) from Z1) (show ca (τ39.2.1 12) ((τ39.1 3)) ≤ (τ39.1 4) from Y20) (show (τ39.1 5) = (σ.1 5) from by (first | omega | (simp only [st_s] <;> omega) | assumption | omega)) (show (τ39.1 13) = (σ.1 13) from by (first | omega | (simp only [st_s] <;> omega) | assumption | omega)) (show τ39.2.1 15 (τ39.1 22) ≤ 2 from by (first | omega | (simp only [st_s] <;> omega) | assumption | omega)) (show (σ.1 16) ≤ (τ39.1 16) from by (first | omega | (simp only [st_s] <;> omega) | assumption | omega)) (show -1 ≤ x19 from by (first | omega | (simp only [st_s] <;> omega) | assumption | omega)) (show x19 ≤ 999 from by (first | omega | (simp only [st_s] <;> omega) | assumption | omega)) (show 0 ≤ x24 from by (first | omega | (simp only [st_s] <;> omega) | assumption | omega)) (show x24 ≤ 999 from by (first | omega | (simp only [st_s] <;> omega) | assumption | omega)) (show (τ39.1 20) = 0 → 0 ≤ x19 ∧ τ39.2.1 15 (τ39.1 22) = 1 ∧ (τ39.1 6) < 30000 from by (first | omega | (simp only [st_s] <;> omega) | assumption | omega))
    ·
      exact ⟨hT, (show (τ_47.1 16) ≤ (τ_47.1 0) from by (first | omega | (simp only [st_s] <;> omega) | assumption | omega)), (show (τ_47.1 17) + (τ_47.1 18) ≤ (τ_47.1 0) from by (first | omega | (simp only [st_s] <;> omega) | assumption | omega)), (show ¬ (σ.1 20) = 0 → (τ_47.1 20) = (σ.1 20) from by (first | omega | (simp only [st_s] <;> omega) | assumption | omega)), (show τ_47.2.1 14 (τ_47.1 22) + τ_47.2.1 15 (τ_47.1 22) = (τ_47.1 6) from Z1), (show ca (τ_47.2.1 12) ((τ_47.1 3)) ≤ (τ_47.1 4) from Y20), (show (τ_47.1 13) ≤ (τ_47.1 5) from by (first | omega | (simp only [st_s] <;> omega) | assumption | omega)), (show (τ_47.1 20) = 0 → (τ_47.1 5) = (σ.1 5) + 1 ∧ 2 ≤ τ_47.2.1 15 (τ_47.1 22) from by (first | omega | (simp only [st_s] <;> omega) | assumption | omega)), (show (τ_47.1 5) ≤ (σ.1 5) + 1 from by (first | omega | (simp only [st_s] <;> omega) | assumption | omega)), (show (σ.1 16) ≤ (τ_47.1 16) from by (first | omega | (simp only [st_s] <;> omega) | assumption | omega)), ag⟩
  have l_15 : ∀ (τ_15 : S0), (m_T τ_15) → (m_ag σ τ_15) → (τ_15.1 0 = σ.1 0) → (τ_15.1 3 = σ.1 3) → (τ_15.1 7 = σ.1 7) → (τ_15.1 8 = σ.1 8) → (τ_15.1 9 = σ.1 9) → (τ_15.1 22 = σ.1 22) → (τ_15.2.1 6 = σ.2.1 6) → (τ_15.2.1 7 = σ.2.1 7) → (τ_15.2.1 14 = σ.2.1 14) → ((τ_15.1 16) ≤ (τ_15.1 0)) → ((τ_15.1 17) + (τ_15.1 18) ≤ (τ_15.1 0)) → (oc (τ_15.2.1 6) < 4096) → (oc (τ_15.2.1 7) < 4096) → (¬ (σ.1 20) = 0 → (τ_15.1 20) = (σ.1 20)) → (τ_15.2.1 14 (τ_15.1 22) + τ_15.2.1 15 (τ_15.1 22) = (τ_15.1 6)) → (ca (τ_15.2.1 12) ((τ_15.1 3)) ≤ (τ_15.1 4)) → ((τ_15.1 5) = (σ.1 5)) → ((τ_15.1 13) = (σ.1 13)) → (τ_15.2.1 15 (τ_15.1 22) ≤ 2) → ((σ.1 16) ≤ (τ_15.1 16)) → ((τ_15.1 20) = 0 → τ_15.2.1 15 (τ_15.1 22) = 1) → P15 τ_15 := by
    intro τ_15 hT ag W0 W3 W7 W8 W9 W22 G6 G7 G14 i15_1 i15_2 i15_3 i15_4 i15_5 i15_6 i15_7 i15_8 i15_9 i15_10 i15_11 i15_12
    have A6 : ∀ j, (-1) ≤ τ_15.2.1 6 j ∧ τ_15.2.1 6 j ≤ 999 := fun j => hT.2 6 j
    have A7 : ∀ j, (-1) ≤ τ_15.2.1 7 j ∧ τ_15.2.1 7 j ≤ 1499 := fun j => hT.2 7 j
    have A12 : ∀ j, 0 ≤ τ_15.2.1 12 j ∧ τ_15.2.1 12 j ≤ 1 := fun j => hT.2 12 j
    have A14 : ∀ j, 0 ≤ τ_15.2.1 14 j ∧ τ_15.2.1 14 j ≤ 30000 := fun j => hT.2 14 j
    have A15 : ∀ j, 0 ≤ τ_15.2.1 15 j ∧ τ_15.2.1 15 j ≤ 300 := fun j => hT.2 15 j
    have v0 : 0 ≤ τ_15.1 0 ∧ τ_15.1 0 ≤ 60000 := hT.1 0
    have v3 : 0 ≤ τ_15.1 3 ∧ τ_15.1 3 ≤ 1000 := hT.1 3
    have v4 : 0 ≤ τ_15.1 4 ∧ τ_15.1 4 ≤ 100 := hT.1 4
    have v5 : 0 ≤ τ_15.1 5 ∧ τ_15.1 5 ≤ 1500 := hT.1 5
    have v6 : 0 ≤ τ_15.1 6 ∧ τ_15.1 6 ≤ 30000 := hT.1 6
    have v7 : 0 ≤ τ_15.1 7 ∧ τ_15.1 7 ≤ 90000 := hT.1 7
    have v8 : 0 ≤ τ_15.1 8 ∧ τ_15.1 8 ≤ 20000 := hT.1 8
    have v9 : 0 ≤ τ_15.1 9 ∧ τ_15.1 9 ≤ 20000 := hT.1 9
    have v13 : 0 ≤ τ_15.1 13 ∧ τ_15.1 13 ≤ 1500 := hT.1 13
    have v16 : 0 ≤ τ_15.1 16 ∧ τ_15.1 16 ≤ 60000 := hT.1 16
    have v17 : 0 ≤ τ_15.1 17 ∧ τ_15.1 17 ≤ 60000 := hT.1 17
    have v18 : 0 ≤ τ_15.1 18 ∧ τ_15.1 18 ≤ 60000 := hT.1 18
    have v19 : (-1) ≤ τ_15.1 19 ∧ τ_15.1 19 ≤ 125 := hT.1 19
    have v20 : 0 ≤ τ_15.1 20 ∧ τ_15.1 20 ≤ 19 := hT.1 20
    have v22 : 0 ≤ τ_15.1 22 ∧ τ_15.1 22 ≤ 1499 := hT.1 22
    have a14_22 : 0 ≤ τ_15.2.1 14 (τ_15.1 22) ∧ τ_15.2.1 14 (τ_15.1 22) ≤ 30000 := hT.2 14 _
    have a15_22 : 0 ≤ τ_15.2.1 15 (τ_15.1 22) ∧ τ_15.2.1 15 (τ_15.1 22) ≤ 300 := hT.2 15 _
    have av5 : σ.1 5 ≤ τ_15.1 5 := ag.1 5 (by decide)
    have av6 : σ.1 6 ≤ τ_15.1 6 := ag.1 6 (by decide)
    have y14_22_τ_15 : τ_15.2.1 14 (τ_15.1 22) = σ.2.1 14 (σ.1 22) := by rw [G14, W22]
    have o6_τ_15 := congrArg oc G6
    have o7_τ_15 := congrArg oc G7
    have Z1 : τ_15.2.1 14 (τ_15.1 22) + τ_15.2.1 15 (τ_15.1 22) = (τ_15.1 6) := i15_6
    have Y20 : ca (τ_15.2.1 12) ((τ_15.1 3)) ≤ (τ_15.1 4) := i15_7
    refine h15 τ_15 ?_
    refine ⟨fun c8 => ?_, fun c8 => ?_⟩
    ·
      refine ⟨_, K_X13_next hT (show (τ_15.1 16) ≤ (τ_15.1 0) from by (first | omega | (simp only [st_s] <;> omega) | assumption | omega)), ?_⟩
      intro τ11 hn_τ11 hf_τ11 hq
      obtain ⟨hT, q9_1, q9_2, q9_3, q9_4, q9_5⟩ := hq
      replace q9_1 : (τ11.1 16) ≤ (τ11.1 0) := q9_1
      replace q9_2 : (τ11.1 17) + (τ11.1 18) ≤ (τ11.1 0) := q9_2
      replace q9_3 : (τ_15.1 16) ≤ (τ11.1 16) := q9_3
      replace q9_4 : ¬ (τ_15.1 20) = 0 → (τ11.1 20) = (τ_15.1 20) := q9_4
      replace q9_5 : (τ11.1 20) = 0 → ¬ (τ11.1 19) = 0 → (τ_15.1 16) < (τ11.1 16) ∧ 0 < (τ11.1 18) := q9_5
      replace ag : m_ag σ τ11 := ag_r ag hf_τ11 rfl rfl
      have w0_τ11 : τ11.1 0 = τ_15.1 0 := hf_τ11.1 0 (by decide)
      have w3_τ11 : τ11.1 3 = τ_15.1 3 := hf_τ11.1 3 (by decide)
      have w4_τ11 : τ11.1 4 = τ_15.1 4 := hf_τ11.1 4 (by decide)
      have w5_τ11 : τ11.1 5 = τ_15.1 5 := hf_τ11.1 5 (by decide)
      have w6_τ11 : τ11.1 6 = τ_15.1 6 := hf_τ11.1 6 (by decide)
      have w7_τ11 : τ11.1 7 = τ_15.1 7 := hf_τ11.1 7 (by decide)
      have w8_τ11 : τ11.1 8 = τ_15.1 8 := hf_τ11.1 8 (by decide)
      have w9_τ11 : τ11.1 9 = τ_15.1 9 := hf_τ11.1 9 (by decide)
      have w13_τ11 : τ11.1 13 = τ_15.1 13 := hf_τ11.1 13 (by decide)
      have w22_τ11 : τ11.1 22 = τ_15.1 22 := hf_τ11.1 22 (by decide)
      have g6_τ11 : τ11.2.1 6 = τ_15.2.1 6 := hf_τ11.2.1 6 (by decide)
      have g7_τ11 : τ11.2.1 7 = τ_15.2.1 7 := hf_τ11.2.1 7 (by decide)
      have g12_τ11 : τ11.2.1 12 = τ_15.2.1 12 := hf_τ11.2.1 12 (by decide)
      have g14_τ11 : τ11.2.1 14 = τ_15.2.1 14 := hf_τ11.2.1 14 (by decide)
      have g15_τ11 : τ11.2.1 15 = τ_15.2.1 15 := hf_τ11.2.1 15 (by decide)
      first | (have o6_τ11 := congrArg oc g6_τ11) | skip
      first | (have o7_τ11 := congrArg oc g7_τ11) | skip
      have W0 : τ11.1 0 = σ.1 0 := by omega
      have W3 : τ11.1 3 = σ.1 3 := by omega
      have W7 : τ11.1 7 = σ.1 7 := by omega
      have W8 : τ11.1 8 = σ.1 8 := by omega
      have W9 : τ11.1 9 = σ.1 9 := by omega
      have W22 : τ11.1 22 = σ.1 22 := by omega
      have G6 : τ11.2.1 6 = σ.2.1 6 := (g6_τ11).trans G6
      have G7 : τ11.2.1 7 = σ.2.1 7 := (g7_τ11).trans G7
      have G14 : τ11.2.1 14 = σ.2.1 14 := (g14_τ11).trans G14
      have y14_22_τ11 : τ11.2.1 14 (τ11.1 22) = (τ_15.2.1 14) (τ_15.1 22) := by rw [g14_τ11, w22_τ11]
      have y15_22_τ11 : τ11.2.1 15 (τ11.1 22) = (τ_15.2.1 15) (τ_15.1 22) := by rw [g15_τ11, w22_τ11]
      have Z1 : τ11.2.1 14 (τ11.1 22) + τ11.2.1 15 (τ11.1 22) = (τ11.1 6) := by rw [show (τ11.2.1 14 (τ11.1 22) + τ11.2.1 15 (τ11.1 22) = (τ11.1 6)) = (τ_15.2.1 14 (τ_15.1 22) + τ_15.2.1 15 (τ_15.1 22) = (τ_15.1 6)) from by rw [w6_τ11, w22_τ11, g14_τ11, g15_τ11]]; exact Z1
      have Y20 : ca (τ11.2.1 12) ((τ11.1 3)) ≤ (τ11.1 4) := by rw [show (ca (τ11.2.1 12) ((τ11.1 3)) ≤ (τ11.1 4)) = (ca (τ_15.2.1 12) ((τ_15.1 3)) ≤ (τ_15.1 4)) from by rw [w3_τ11, w4_τ11, g12_τ11]]; exact Y20
      have A6 : ∀ j, (-1) ≤ τ11.2.1 6 j ∧ τ11.2.1 6 j ≤ 999 := fun j => hT.2 6 j
      have A7 : ∀ j, (-1) ≤ τ11.2.1 7 j ∧ τ11.2.1 7 j ≤ 1499 := fun j => hT.2 7 j
      have A12 : ∀ j, 0 ≤ τ11.2.1 12 j ∧ τ11.2.1 12 j ≤ 1 := fun j => hT.2 12 j
      have A14 : ∀ j, 0 ≤ τ11.2.1 14 j ∧ τ11.2.1 14 j ≤ 30000 := fun j => hT.2 14 j
      have A15 : ∀ j, 0 ≤ τ11.2.1 15 j ∧ τ11.2.1 15 j ≤ 300 := fun j => hT.2 15 j
      have v0 : 0 ≤ τ11.1 0 ∧ τ11.1 0 ≤ 60000 := hT.1 0
      have v3 : 0 ≤ τ11.1 3 ∧ τ11.1 3 ≤ 1000 := hT.1 3
      have v4 : 0 ≤ τ11.1 4 ∧ τ11.1 4 ≤ 100 := hT.1 4
      have v5 : 0 ≤ τ11.1 5 ∧ τ11.1 5 ≤ 1500 := hT.1 5
      have v6 : 0 ≤ τ11.1 6 ∧ τ11.1 6 ≤ 30000 := hT.1 6
      have v7 : 0 ≤ τ11.1 7 ∧ τ11.1 7 ≤ 90000 := hT.1 7
      have v8 : 0 ≤ τ11.1 8 ∧ τ11.1 8 ≤ 20000 := hT.1 8
      have v9 : 0 ≤ τ11.1 9 ∧ τ11.1 9 ≤ 20000 := hT.1 9
      have v13 : 0 ≤ τ11.1 13 ∧ τ11.1 13 ≤ 1500 := hT.1 13
      have v16 : 0 ≤ τ11.1 16 ∧ τ11.1 16 ≤ 60000 := hT.1 16
      have v17 : 0 ≤ τ11.1 17 ∧ τ11.1 17 ≤ 60000 := hT.1 17
      have v18 : 0 ≤ τ11.1 18 ∧ τ11.1 18 ≤ 60000 := hT.1 18
      have v19 : (-1) ≤ τ11.1 19 ∧ τ11.1 19 ≤ 125 := hT.1 19
      have v20 : 0 ≤ τ11.1 20 ∧ τ11.1 20 ≤ 19 := hT.1 20
      have v22 : 0 ≤ τ11.1 22 ∧ τ11.1 22 ≤ 1499 := hT.1 22
      have a14_22 : 0 ≤ τ11.2.1 14 (τ11.1 22) ∧ τ11.2.1 14 (τ11.1 22) ≤ 30000 := hT.2 14 _
      have a15_22 : 0 ≤ τ11.2.1 15 (τ11.1 22) ∧ τ11.2.1 15 (τ11.1 22) ≤ 300 := hT.2 15 _
      have av5 : σ.1 5 ≤ τ11.1 5 := ag.1 5 (by decide)
      have av6 : σ.1 6 ≤ τ11.1 6 := ag.1 6 (by decide)
      refine ⟨fun c12 => ?_, fun c12 => ?_⟩
      ·
        exact l_47 _ hT ag (show τ11.1 0 = σ.1 0 from by omega) (show τ11.1 3 = σ.1 3 from by omega) (show τ11.1 7 = σ.1 7 from by omega) (show τ11.1 8 = σ.1 8 from by omega) (show τ11.1 9 = σ.1 9 from by omega) (show τ11.1 22 = σ.1 22 from by omega) G6 G7 G14 (show (τ11.1 16) ≤ (τ11.1 0) from by (first | omega | (simp only [st_s] <;> omega) | assumption | omega)) (show (τ11.1 17) + (τ11.1 18) ≤ (τ11.1 0) from by (first | omega | (simp only [st_s] <;> omega) | assumption | omega)) (show oc (τ11.2.1 6) < 4096 from by (first | omega | (simp only [st_s] <;> omega) | assumption | omega)) (show oc (τ11.2.1 7) < 4096 from by (first | omega | (simp only [st_s] <;> omega) | assumption | omega)) (show ¬ (σ.1 20) = 0 → (τ11.1 20) = (σ.1 20) from by (first | omega | (simp only [st_s] <;> omega) | assumption | omega)) (show τ11.2.1 14 (τ11.1 22) + τ11.2.1 15 (τ11.1 22) = (τ11.1 6) from Z1) (show ca (τ11.2.1 12) ((τ11.1 3)) ≤ (τ11.1 4) from Y20) (show (τ11.1 5) = (σ.1 5) from by (first | omega | (simp only [st_s] <;> omega) | assumption | omega)) (show (τ11.1 13) = (σ.1 13) from by (first | omega | (simp only [st_s] <;> omega) | assumption | omega)) (show τ11.2.1 15 (τ11.1 22) ≤ 2 from by (first | omega | (simp only [st_s] <;> omega) | assumption | omega)) (show (σ.1 16) ≤ (τ11.1 16) from by (first | omega | (simp only [st_s] <;> omega) | assumption | omega)) (show (τ11.1 20) = 0 → τ11.2.1 15 (τ11.1 22) = 1 from by (first | omega | (simp only [st_s] <;> omega) | assumption | omega))
      ·
        refine ⟨fun c13 => ?_, fun c13 => ?_⟩
        ·
          exact l_47 _ hT ag (show τ11.1 0 = σ.1 0 from by omega) (show τ11.1 3 = σ.1 3 from by omega) (show τ11.1 7 = σ.1 7 from by omega) (show τ11.1 8 = σ.1 8 from by omega) (show τ11.1 9 = σ.1 9 from by omega) (show τ11.1 22 = σ.1 22 from by omega) G6 G7 G14 (show (τ11.1 16) ≤ (τ11.1 0) from by (first | omega | (simp only [st_s] <;> omega) | assumption | omega)) (show (τ11.1 17) + (τ11.1 18) ≤ (τ11.1 0) from by (first | omega | (simp only [st_s] <;> omega) | assumption | omega)) (show oc (τ11.2.1 6) < 4096 from by (first | omega | (simp only [st_s] <;> omega) | assumption | omega)) (show oc (τ11.2.1 7) < 4096 from by (first | omega | (simp only [st_s] <;> omega) | assumption | omega)) (show ¬ (σ.1 20) = 0 → (τ11.1 20) = (σ.1 20) from by (first | omega | (simp only [st_s] <;> omega) | assumption | omega)) (show τ11.2.1 14 (τ11.1 22) + τ11.2.1 15 (τ11.1 22) = (τ11.1 6) from Z1) (show ca (τ11.2.1 12) ((τ11.1 3)) ≤ (τ11.1 4) from Y20) (show (τ11.1 5) = (σ.1 5) from by (first | omega | (simp only [st_s] <;> omega) | assumption | omega)) (show (τ11.1 13) = (σ.1 13) from by (first | omega | (simp only [st_s] <;> omega) | assumption | omega)) (show τ11.2.1 15 (τ11.1 22) ≤ 2 from by (first | omega | (simp only [st_s] <;> omega) | assumption | omega)) (show (σ.1 16) ≤ (τ11.1 16) from by (first | omega | (simp only [st_s] <;> omega) | assumption | omega)) (show (τ11.1 20) = 0 → τ11.2.1 15 (τ11.1 22) = 1 from by (first | omega | (simp only [st_s] <;> omega) | assumption | omega))
        ·
          refine ⟨_, K_X13_failHere hT (show 0 ≤ 4 from by (first | omega | (simp only [st_s] <;> omega) | assumption | omega)) (show 4 ≤ 19 from by (first | omega | (simp only [st_s] <;> omega) | assumption | omega)), ?_⟩
          intro τ16 hn_τ16 hf_τ16 hq
          obtain ⟨hT, q14_1, q14_2⟩ := hq
          replace q14_1 : ¬ (τ11.1 20) = 0 → (τ16.1 20) = (τ11.1 20) := q14_1
          replace q14_2 : (τ11.1 20) = 0 → (τ16.1 20) = 4 := q14_2
          replace ag : m_ag σ τ16 := ag_r ag hf_τ16 rfl rfl
          have w0_τ16 : τ16.1 0 = τ11.1 0 := hf_τ16.1 0 (by decide)
          have w3_τ16 : τ16.1 3 = τ11.1 3 := hf_τ16.1 3 (by decide)
          have w4_τ16 : τ16.1 4 = τ11.1 4 := hf_τ16.1 4 (by decide)
          have w5_τ16 : τ16.1 5 = τ11.1 5 := hf_τ16.1 5 (by decide)
          have w6_τ16 : τ16.1 6 = τ11.1 6 := hf_τ16.1 6 (by decide)
          have w7_τ16 : τ16.1 7 = τ11.1 7 := hf_τ16.1 7 (by decide)
          have w8_τ16 : τ16.1 8 = τ11.1 8 := hf_τ16.1 8 (by decide)
          have w9_τ16 : τ16.1 9 = τ11.1 9 := hf_τ16.1 9 (by decide)
          have w13_τ16 : τ16.1 13 = τ11.1 13 := hf_τ16.1 13 (by decide)
          have w16_τ16 : τ16.1 16 = τ11.1 16 := hf_τ16.1 16 (by decide)
          have w17_τ16 : τ16.1 17 = τ11.1 17 := hf_τ16.1 17 (by decide)
          have w18_τ16 : τ16.1 18 = τ11.1 18 := hf_τ16.1 18 (by decide)
          have w19_τ16 : τ16.1 19 = τ11.1 19 := hf_τ16.1 19 (by decide)
          have w22_τ16 : τ16.1 22 = τ11.1 22 := hf_τ16.1 22 (by decide)
          have g6_τ16 : τ16.2.1 6 = τ11.2.1 6 := hf_τ16.2.1 6 (by decide)
          have g7_τ16 : τ16.2.1 7 = τ11.2.1 7 := hf_τ16.2.1 7 (by decide)
          have g12_τ16 : τ16.2.1 12 = τ11.2.1 12 := hf_τ16.2.1 12 (by decide)
          have g14_τ16 : τ16.2.1 14 = τ11.2.1 14 := hf_τ16.2.1 14 (by decide)
          have g15_τ16 : τ16.2.1 15 = τ11.2.1 15 := hf_τ16.2.1 15 (by decide)
          first | (have o6_τ16 := congrArg oc g6_τ16) | skip
          first | (have o7_τ16 := congrArg oc g7_τ16) | skip
          have W0 : τ16.1 0 = σ.1 0 := by omega
          have W3 : τ16.1 3 = σ.1 3 := by omega
          have W7 : τ16.1 7 = σ.1 7 := by omega
          have W8 : τ16.1 8 = σ.1 8 := by omega
          have W9 : τ16.1 9 = σ.1 9 := by omega
          have W22 : τ16.1 22 = σ.1 22 := by omega
          have G6 : τ16.2.1 6 = σ.2.1 6 := (g6_τ16).trans G6
          have G7 : τ16.2.1 7 = σ.2.1 7 := (g7_τ16).trans G7
          have G14 : τ16.2.1 14 = σ.2.1 14 := (g14_τ16).trans G14
          have y14_22_τ16 : τ16.2.1 14 (τ16.1 22) = (τ11.2.1 14) (τ11.1 22) := by rw [g14_τ16, w22_τ16]
          have y15_22_τ16 : τ16.2.1 15 (τ16.1 22) = (τ11.2.1 15) (τ11.1 22) := by rw [g15_τ16, w22_τ16]
          have Z1 : τ16.2.1 14 (τ16.1 22) + τ16.2.1 15 (τ16.1 22) = (τ16.1 6) := by rw [show (τ16.2.1 14 (τ16.1 22) + τ16.2.1 15 (τ16.1 22) = (τ16.1 6)) = (τ11.2.1 14 (τ11.1 22) + τ11.2.1 15 (τ11.1 22) = (τ11.1 6)) from by rw [w6_τ16, w22_τ16, g14_τ16, g15_τ16]]; exact Z1
          have Y20 : ca (τ16.2.1 12) ((τ16.1 3)) ≤ (τ16.1 4) := by rw [show (ca (τ16.2.1 12) ((τ16.1 3)) ≤ (τ16.1 4)) = (ca (τ11.2.1 12) ((τ11.1 3)) ≤ (τ11.1 4)) from by rw [w3_τ16, w4_τ16, g12_τ16]]; exact Y20
          have A6 : ∀ j, (-1) ≤ τ16.2.1 6 j ∧ τ16.2.1 6 j ≤ 999 := fun j => hT.2 6 j
          have A7 : ∀ j, (-1) ≤ τ16.2.1 7 j ∧ τ16.2.1 7 j ≤ 1499 := fun j => hT.2 7 j
          have A12 : ∀ j, 0 ≤ τ16.2.1 12 j ∧ τ16.2.1 12 j ≤ 1 := fun j => hT.2 12 j
          have A14 : ∀ j, 0 ≤ τ16.2.1 14 j ∧ τ16.2.1 14 j ≤ 30000 := fun j => hT.2 14 j
          have A15 : ∀ j, 0 ≤ τ16.2.1 15 j ∧ τ16.2.1 15 j ≤ 300 := fun j => hT.2 15 j
          have v0 : 0 ≤ τ16.1 0 ∧ τ16.1 0 ≤ 60000 := hT.1 0
          have v3 : 0 ≤ τ16.1 3 ∧ τ16.1 3 ≤ 1000 := hT.1 3
          have v4 : 0 ≤ τ16.1 4 ∧ τ16.1 4 ≤ 100 := hT.1 4
          have v5 : 0 ≤ τ16.1 5 ∧ τ16.1 5 ≤ 1500 := hT.1 5
          have v6 : 0 ≤ τ16.1 6 ∧ τ16.1 6 ≤ 30000 := hT.1 6
          have v7 : 0 ≤ τ16.1 7 ∧ τ16.1 7 ≤ 90000 := hT.1 7
          have v8 : 0 ≤ τ16.1 8 ∧ τ16.1 8 ≤ 20000 := hT.1 8
          have v9 : 0 ≤ τ16.1 9 ∧ τ16.1 9 ≤ 20000 := hT.1 9
          have v13 : 0 ≤ τ16.1 13 ∧ τ16.1 13 ≤ 1500 := hT.1 13
          have v16 : 0 ≤ τ16.1 16 ∧ τ16.1 16 ≤ 60000 := hT.1 16
          have v17 : 0 ≤ τ16.1 17 ∧ τ16.1 17 ≤ 60000 := hT.1 17
          have v18 : 0 ≤ τ16.1 18 ∧ τ16.1 18 ≤ 60000 := hT.1 18
          have v19 : (-1) ≤ τ16.1 19 ∧ τ16.1 19 ≤ 125 := hT.1 19
          have v20 : 0 ≤ τ16.1 20 ∧ τ16.1 20 ≤ 19 := hT.1 20
          have v22 : 0 ≤ τ16.1 22 ∧ τ16.1 22 ≤ 1499 := hT.1 22
          have a14_22 : 0 ≤ τ16.2.1 14 (τ16.1 22) ∧ τ16.2.1 14 (τ16.1 22) ≤ 30000 := hT.2 14 _
          have a15_22 : 0 ≤ τ16.2.1 15 (τ16.1 22) ∧ τ16.2.1 15 (τ16.1 22) ≤ 300 := hT.2 15 _
          have av5 : σ.1 5 ≤ τ16.1 5 := ag.1 5 (by decide)
          have av6 : σ.1 6 ≤ τ16.1 6 := ag.1 6 (by decide)
          exact l_47 _ hT ag (show τ16.1 0 = σ.1 0 from by omega) (show τ16.1 3 = σ.1 3 from by omega) (show τ16.1 7 = σ.1 7 from by omega) (show τ16.1 8 = σ.1 8 from by omega) (show τ16.1 9 = σ.1 9 from by omega) (show τ16.1 22 = σ.1 22 from by omega) G6 G7 G14 (show (τ16.1 16) ≤ (τ16.1 0) from by (first | omega | (simp only [st_s] <;> omega) | assumption | omega)) (show (τ16.1 17) + (τ16.1 18) ≤ (τ16.1 0) from by (first | omega | (simp only [st_s] <;> omega) | assumption | omega)) (show oc (τ16.2.1 6) < 4096 from by (first | omega | (simp only [st_s] <;> omega) | assumption | omega)) (show oc (τ16.2.1 7) < 4096 from by (first | omega | (simp only [st_s] <;> omega) | assumption | omega)) (show ¬ (σ.1 20) = 0 → (τ16.1 20) = (σ.1 20) from by (first | omega | (simp only [st_s] <;> omega) | assumption | omega)) (show τ16.2.1 14 (τ16.1 22) + τ16.2.1 15 (τ16.1 22) = (τ16.1 6) from Z1) (show ca (τ16.2.1 12) ((τ16.1 3)) ≤ (τ16.1 4) from Y20) (show (τ16.1 5) = (σ.1 5) from by (first | omega | (simp only [st_s] <;> omega) | assumption | omega)) (show (τ16.1 13) = (σ.1 13) from by (first | omega | (simp only [st_s] <;> omega) | assumption | omega)) (show τ16.2.1 15 (τ16.1 22) ≤ 2 from by (first | omega | (simp only [st_s] <;> omega) | assumption | omega)) (show (σ.1 16) ≤ (τ16.1 16) from by (first | omega | (simp only [st_s] <;> omega) | assumption | omega)) (show (τ16.1 20) = 0 → τ16.2.1 15 (τ16.1 22) = 1 from by (first | omega | (simp only [st_s] <;> omega) | assumption | omega))
    ·
      exact ⟨hT, (show (τ_15.1 16) ≤ (τ_15.1 0) from by (first | omega | (simp only [st_s] <;> omega) | assumption | omega)), (show (τ_15.1 17) + (τ_15.1 18) ≤ (τ_15.1 0) from by (first | omega | (simp only [st_s] <;> omega) | assumption | omega)), (show ¬ (σ.1 20) = 0 → (τ_15.1 20) = (σ.1 20) from by (first | omega | (simp only [st_s] <;> omega) | assumption | omega)), (show τ_15.2.1 14 (τ_15.1 22) + τ_15.2.1 15 (τ_15.1 22) = (τ_15.1 6) from Z1), (show ca (τ_15.2.1 12) ((τ_15.1 3)) ≤ (τ_15.1 4) from Y20), (show (τ_15.1 13) ≤ (τ_15.1 5) from by (first | omega | (simp only [st_s] <;> omega) | assumption | omega)), (show (τ_15.1 20) = 0 → (τ_15.1 5) = (σ.1 5) + 1 ∧ 2 ≤ τ_15.2.1 15 (τ_15.1 22) from by (first | omega | (simp only [st_s] <;> omega) | assumption | omega)), (show (τ_15.1 5) ≤ (σ.1 5) + 1 from by (first | omega | (simp only [st_s] <;> omega) | assumption | omega)), (show (σ.1 16) ≤ (τ_15.1 16) from by (first | omega | (simp only [st_s] <;> omega) | assumption | omega)), ag⟩
  refine ⟨_, K_X13_next hT (show (σ.1 16) ≤ (σ.1 0) from by (first | omega | (simp only [st_s] <;> omega) | assumption | omega)), ?_⟩
  intro τ3 hn_τ3 hf_τ3 hq
  obtain ⟨hT, q1_1, q1_2, q1_3, q1_4, q1_5⟩ := hq
  replace q1_1 : (τ3.1 16) ≤ (τ3.1 0) := q1_1
  replace q1_2 : (τ3.1 17) + (τ3.1 18) ≤ (τ3.1 0) := q1_2
  replace q1_3 : (σ.1 16) ≤ (τ3.1 16) := q1_3
  replace q1_4 : ¬ (σ.1 20) = 0 → (τ3.1 20) = (σ.1 20) := q1_4
  replace q1_5 : (τ3.1 20) = 0 → ¬ (τ3.1 19) = 0 → (σ.1 16) < (τ3.1 16) ∧ 0 < (τ3.1 18) := q1_5
  replace ag : m_ag σ τ3 := ag_r ag hf_τ3 rfl rfl
  have w0_τ3 : τ3.1 0 = σ.1 0 := hf_τ3.1 0 (by decide)
  have w3_τ3 : τ3.1 3 = σ.1 3 := hf_τ3.1 3 (by decide)
  have w4_τ3 : τ3.1 4 = σ.1 4 := hf_τ3.1 4 (by decide)
  have w5_τ3 : τ3.1 5 = σ.1 5 := hf_τ3.1 5 (by decide)
  have w6_τ3 : τ3.1 6 = σ.1 6 := hf_τ3.1 6 (by decide)
  have w7_τ3 : τ3.1 7 = σ.1 7 := hf_τ3.1 7 (by decide)
  have w8_τ3 : τ3.1 8 = σ.1 8 := hf_τ3.1 8 (by decide)
  have w9_τ3 : τ3.1 9 = σ.1 9 := hf_τ3.1 9 (by decide)
  have w13_τ3 : τ3.1 13 = σ.1 13 := hf_τ3.1 13 (by decide)
  have w22_τ3 : τ3.1 22 = σ.1 22 := hf_τ3.1 22 (by decide)
  have g6_τ3 : τ3.2.1 6 = σ.2.1 6 := hf_τ3.2.1 6 (by decide)
  have g7_τ3 : τ3.2.1 7 = σ.2.1 7 := hf_τ3.2.1 7 (by decide)
  have g12_τ3 : τ3.2.1 12 = σ.2.1 12 := hf_τ3.2.1 12 (by decide)
  have g14_τ3 : τ3.2.1 14 = σ.2.1 14 := hf_τ3.2.1 14 (by decide)
  have g15_τ3 : τ3.2.1 15 = σ.2.1 15 := hf_τ3.2.1 15 (by decide)
  first | (have o6_τ3 := congrArg oc g6_τ3) | skip
  first | (have o7_τ3 := congrArg oc g7_τ3) | skip
  have W0 : τ3.1 0 = σ.1 0 := by omega
  have W3 : τ3.1 3 = σ.1 3 := by omega
  have W7 : τ3.1 7 = σ.1 7 := by omega
  have W8 : τ3.1 8 = σ.1 8 := by omega
  have W9 : τ3.1 9 = σ.1 9 := by omega
  have W22 : τ3.1 22 = σ.1 22 := by omega
  have G6 : τ3.2.1 6 = σ.2.1 6 := (g6_τ3).trans G6
  have G7 : τ3.2.1 7 = σ.2.1 7 := (g7_τ3).trans G7
  have G14 : τ3.2.1 14 = σ.2.1 14 := (g14_τ3).trans G14
  have y14_22_τ3 : τ3.2.1 14 (τ3.1 22) = (σ.2.1 14) (σ.1 22) := by rw [g14_τ3, w22_τ3]
  have y15_22_τ3 : τ3.2.1 15 (τ3.1 22) = (σ.2.1 15) (σ.1 22) := by rw [g15_τ3, w22_τ3]
  have Z1 : τ3.2.1 14 (τ3.1 22) + τ3.2.1 15 (τ3.1 22) = (τ3.1 6) := by rw [show (τ3.2.1 14 (τ3.1 22) + τ3.2.1 15 (τ3.1 22) = (τ3.1 6)) = (σ.2.1 14 (σ.1 22) + σ.2.1 15 (σ.1 22) = (σ.1 6)) from by rw [w6_τ3, w22_τ3, g14_τ3, g15_τ3]]; exact Z1
  have Y20 : ca (τ3.2.1 12) ((τ3.1 3)) ≤ (τ3.1 4) := by rw [show (ca (τ3.2.1 12) ((τ3.1 3)) ≤ (τ3.1 4)) = (ca (σ.2.1 12) ((σ.1 3)) ≤ (σ.1 4)) from by rw [w3_τ3, w4_τ3, g12_τ3]]; exact Y20
  have A6 : ∀ j, (-1) ≤ τ3.2.1 6 j ∧ τ3.2.1 6 j ≤ 999 := fun j => hT.2 6 j
  have A7 : ∀ j, (-1) ≤ τ3.2.1 7 j ∧ τ3.2.1 7 j ≤ 1499 := fun j => hT.2 7 j
  have A12 : ∀ j, 0 ≤ τ3.2.1 12 j ∧ τ3.2.1 12 j ≤ 1 := fun j => hT.2 12 j
  have A14 : ∀ j, 0 ≤ τ3.2.1 14 j ∧ τ3.2.1 14 j ≤ 30000 := fun j => hT.2 14 j
  have A15 : ∀ j, 0 ≤ τ3.2.1 15 j ∧ τ3.2.1 15 j ≤ 300 := fun j => hT.2 15 j
  have v0 : 0 ≤ τ3.1 0 ∧ τ3.1 0 ≤ 60000 := hT.1 0
  have v3 : 0 ≤ τ3.1 3 ∧ τ3.1 3 ≤ 1000 := hT.1 3
  have v4 : 0 ≤ τ3.1 4 ∧ τ3.1 4 ≤ 100 := hT.1 4
  have v5 : 0 ≤ τ3.1 5 ∧ τ3.1 5 ≤ 1500 := hT.1 5
  have v6 : 0 ≤ τ3.1 6 ∧ τ3.1 6 ≤ 30000 := hT.1 6
  have v7 : 0 ≤ τ3.1 7 ∧ τ3.1 7 ≤ 90000 := hT.1 7
  have v8 : 0 ≤ τ3.1 8 ∧ τ3.1 8 ≤ 20000 := hT.1 8
  have v9 : 0 ≤ τ3.1 9 ∧ τ3.1 9 ≤ 20000 := hT.1 9
  have v13 : 0 ≤ τ3.1 13 ∧ τ3.1 13 ≤ 1500 := hT.1 13
  have v16 : 0 ≤ τ3.1 16 ∧ τ3.1 16 ≤ 60000 := hT.1 16
  have v17 : 0 ≤ τ3.1 17 ∧ τ3.1 17 ≤ 60000 := hT.1 17
  have v18 : 0 ≤ τ3.1 18 ∧ τ3.1 18 ≤ 60000 := hT.1 18
  have v19 : (-1) ≤ τ3.1 19 ∧ τ3.1 19 ≤ 125 := hT.1 19
  have v20 : 0 ≤ τ3.1 20 ∧ τ3.1 20 ≤ 19 := hT.1 20
  have v22 : 0 ≤ τ3.1 22 ∧ τ3.1 22 ≤ 1499 := hT.1 22
  have a14_22 : 0 ≤ τ3.2.1 14 (τ3.1 22) ∧ τ3.2.1 14 (τ3.1 22) ≤ 30000 := hT.2 14 _
  have a15_22 : 0 ≤ τ3.2.1 15 (τ3.1 22) ∧ τ3.2.1 15 (τ3.1 22) ≤ 300 := hT.2 15 _
  have av5 : σ.1 5 ≤ τ3.1 5 := ag.1 5 (by decide)
  have av6 : σ.1 6 ≤ τ3.1 6 := ag.1 6 (by decide)
  refine ⟨fun c4 => ?_, fun c4 => ?_⟩
  ·
    exact l_15 _ hT ag (show τ3.1 0 = σ.1 0 from by omega) (show τ3.1 3 = σ.1 3 from by omega) (show τ3.1 7 = σ.1 7 from by omega) (show τ3.1 8 = σ.1 8 from by omega) (show τ3.1 9 = σ.1 9 from by omega) (show τ3.1 22 = σ.1 22 from by omega) G6 G7 G14 (show (τ3.1 16) ≤ (τ3.1 0) from by (first | omega | (simp only [st_s] <;> omega) | assumption | omega)) (show (τ3.1 17) + (τ3.1 18) ≤ (τ3.1 0) from by (first | omega | (simp only [st_s] <;> omega) | assumption | omega)) (show oc (τ3.2.1 6) < 4096 from by (first | omega | (simp only [st_s] <;> omega) | assumption | omega)) (show oc (τ3.2.1 7) < 4096 from by (first | omega | (simp only [st_s] <;> omega) | assumption | omega)) (show ¬ (σ.1 20) = 0 → (τ3.1 20) = (σ.1 20) from by (first | omega | (simp only [st_s] <;> omega) | assumption | omega)) (show τ3.2.1 14 (τ3.1 22) + τ3.2.1 15 (τ3.1 22) = (τ3.1 6) from Z1) (show ca (τ3.2.1 12) ((τ3.1 3)) ≤ (τ3.1 4) from Y20) (show (τ3.1 5) = (σ.1 5) from by (first | omega | (simp only [st_s] <;> omega) | assumption | omega)) (show (τ3.1 13) = (σ.1 13) from by (first | omega | (simp only [st_s] <;> omega) | assumption | omega)) (show τ3.2.1 15 (τ3.1 22) ≤ 2 from by (first | omega | (simp only [st_s] <;> omega) | assumption | omega)) (show (σ.1 16) ≤ (τ3.1 16) from by (first | omega | (simp only [st_s] <;> omega) | assumption | omega)) (show (τ3.1 20) = 0 → τ3.2.1 15 (τ3.1 22) = 1 from by (first | omega | (simp only [st_s] <;> omega) | assumption | omega))
  ·
    refine ⟨_, K_X13_readFirst hT (show (τ3.1 17) + (τ3.1 18) ≤ (τ3.1 0) from by (first | omega | (simp only [st_s] <;> omega) | assumption | omega)) (show oc (τ3.2.1 6) < 4096 from by (first | omega | (simp only [st_s] <;> omega) | assumption | omega)) (show τ3.2.1 15 (τ3.1 22) = 0 from by (first | omega | (simp only [st_s] <;> omega) | assumption | omega)) (show (τ3.1 22) = (τ3.1 5) from by (first | omega | (simp only [st_s] <;> omega) | assumption | omega)) (show τ3.2.1 14 (τ3.1 22) + τ3.2.1 15 (τ3.1 22) = (τ3.1 6) from Z1) (show ca (τ3.2.1 12) ((τ3.1 3)) ≤ (τ3.1 4) from Y20), ?_⟩
    intro τ7 hn_τ7 hf_τ7 hq
    obtain ⟨hT, q5_1, q5_2, q5_3, q5_4, q5_5, q5_6⟩ := hq
    replace q5_1 : (τ7.1 20) = 0 → τ7.2.1 15 (τ7.1 22) = 1 := q5_1
    replace q5_2 : τ7.2.1 15 (τ7.1 22) ≤ 1 := q5_2
    replace q5_3 : ¬ (τ3.1 20) = 0 → (τ7.1 20) = (τ3.1 20) := q5_3
    replace q5_4 : τ7.2.1 14 (τ7.1 22) + τ7.2.1 15 (τ7.1 22) = (τ7.1 6) := q5_4
    replace q5_5 : ca (τ7.2.1 12) ((τ7.1 3)) ≤ (τ7.1 4) := q5_5
    replace q5_6 : m_ag τ3 τ7 := q5_6
    replace ag : m_ag σ τ7 := ag_t ag q5_6 rfl
    have w0_τ7 : τ7.1 0 = τ3.1 0 := hf_τ7.1 0 (by decide)
    have w3_τ7 : τ7.1 3 = τ3.1 3 := hf_τ7.1 3 (by decide)
    have w5_τ7 : τ7.1 5 = τ3.1 5 := hf_τ7.1 5 (by decide)
    have w7_τ7 : τ7.1 7 = τ3.1 7 := hf_τ7.1 7 (by decide)
    have w8_τ7 : τ7.1 8 = τ3.1 8 := hf_τ7.1 8 (by decide)
    have w9_τ7 : τ7.1 9 = τ3.1 9 := hf_τ7.1 9 (by decide)
    have w13_τ7 : τ7.1 13 = τ3.1 13 := hf_τ7.1 13 (by decide)
    have w16_τ7 : τ7.1 16 = τ3.1 16 := hf_τ7.1 16 (by decide)
    have w17_τ7 : τ7.1 17 = τ3.1 17 := hf_τ7.1 17 (by decide)
    have w18_τ7 : τ7.1 18 = τ3.1 18 := hf_τ7.1 18 (by decide)
    have w19_τ7 : τ7.1 19 = τ3.1 19 := hf_τ7.1 19 (by decide)
    have w22_τ7 : τ7.1 22 = τ3.1 22 := hf_τ7.1 22 (by decide)
    have g6_τ7 : τ7.2.1 6 = τ3.2.1 6 := hf_τ7.2.1 6 (by decide)
    have g7_τ7 : τ7.2.1 7 = τ3.2.1 7 := hf_τ7.2.1 7 (by decide)
    have g14_τ7 : τ7.2.1 14 = τ3.2.1 14 := hf_τ7.2.1 14 (by decide)
    first | (have o6_τ7 := congrArg oc g6_τ7) | skip
    first | (have o7_τ7 := congrArg oc g7_τ7) | skip
    have W0 : τ7.1 0 = σ.1 0 := by omega
    have W3 : τ7.1 3 = σ.1 3 := by omega
    have W7 : τ7.1 7 = σ.1 7 := by omega
    have W8 : τ7.1 8 = σ.1 8 := by omega
    have W9 : τ7.1 9 = σ.1 9 := by omega
    have W22 : τ7.1 22 = σ.1 22 := by omega
    have G6 : τ7.2.1 6 = σ.2.1 6 := (g6_τ7).trans G6
    have G7 : τ7.2.1 7 = σ.2.1 7 := (g7_τ7).trans G7
    have G14 : τ7.2.1 14 = σ.2.1 14 := (g14_τ7).trans G14
    have y14_22_τ7 : τ7.2.1 14 (τ7.1 22) = (τ3.2.1 14) (τ3.1 22) := by rw [g14_τ7, w22_τ7]
    have Z1 : τ7.2.1 14 (τ7.1 22) + τ7.2.1 15 (τ7.1 22) = (τ7.1 6) := q5_4
    have Y20 : ca (τ7.2.1 12) ((τ7.1 3)) ≤ (τ7.1 4) := q5_5
    have A6 : ∀ j, (-1) ≤ τ7.2.1 6 j ∧ τ7.2.1 6 j ≤ 999 := fun j => hT.2 6 j
    have A7 : ∀ j, (-1) ≤ τ7.2.1 7 j ∧ τ7.2.1 7 j ≤ 1499 := fun j => hT.2 7 j
    have A12 : ∀ j, 0 ≤ τ7.2.1 12 j ∧ τ7.2.1 12 j ≤ 1 := fun j => hT.2 12 j
    have A14 : ∀ j, 0 ≤ τ7.2.1 14 j ∧ τ7.2.1 14 j ≤ 30000 := fun j => hT.2 14 j
    have A15 : ∀ j, 0 ≤ τ7.2.1 15 j ∧ τ7.2.1 15 j ≤ 300 := fun j => hT.2 15 j
    have v0 : 0 ≤ τ7.1 0 ∧ τ7.1 0 ≤ 60000 := hT.1 0
    have v3 : 0 ≤ τ7.1 3 ∧ τ7.1 3 ≤ 1000 := hT.1 3
    have v4 : 0 ≤ τ7.1 4 ∧ τ7.1 4 ≤ 100 := hT.1 4
    have v5 : 0 ≤ τ7.1 5 ∧ τ7.1 5 ≤ 1500 := hT.1 5
    have v6 : 0 ≤ τ7.1 6 ∧ τ7.1 6 ≤ 30000 := hT.1 6
    have v7 : 0 ≤ τ7.1 7 ∧ τ7.1 7 ≤ 90000 := hT.1 7
    have v8 : 0 ≤ τ7.1 8 ∧ τ7.1 8 ≤ 20000 := hT.1 8
    have v9 : 0 ≤ τ7.1 9 ∧ τ7.1 9 ≤ 20000 := hT.1 9
    have v13 : 0 ≤ τ7.1 13 ∧ τ7.1 13 ≤ 1500 := hT.1 13
    have v16 : 0 ≤ τ7.1 16 ∧ τ7.1 16 ≤ 60000 := hT.1 16
    have v17 : 0 ≤ τ7.1 17 ∧ τ7.1 17 ≤ 60000 := hT.1 17
    have v18 : 0 ≤ τ7.1 18 ∧ τ7.1 18 ≤ 60000 := hT.1 18
    have v19 : (-1) ≤ τ7.1 19 ∧ τ7.1 19 ≤ 125 := hT.1 19
    have v20 : 0 ≤ τ7.1 20 ∧ τ7.1 20 ≤ 19 := hT.1 20
    have v22 : 0 ≤ τ7.1 22 ∧ τ7.1 22 ≤ 1499 := hT.1 22
    have a14_22 : 0 ≤ τ7.2.1 14 (τ7.1 22) ∧ τ7.2.1 14 (τ7.1 22) ≤ 30000 := hT.2 14 _
    have a15_22 : 0 ≤ τ7.2.1 15 (τ7.1 22) ∧ τ7.2.1 15 (τ7.1 22) ≤ 300 := hT.2 15 _
    have av5 : σ.1 5 ≤ τ7.1 5 := ag.1 5 (by decide)
    have av6 : σ.1 6 ≤ τ7.1 6 := ag.1 6 (by decide)
    exact l_15 _ hT ag (show τ7.1 0 = σ.1 0 from by omega) (show τ7.1 3 = σ.1 3 from by omega) (show τ7.1 7 = σ.1 7 from by omega) (show τ7.1 8 = σ.1 8 from by omega) (show τ7.1 9 = σ.1 9 from by omega) (show τ7.1 22 = σ.1 22 from by omega) G6 G7 G14 (show (τ7.1 16) ≤ (τ7.1 0) from by (first | omega | (simp only [st_s] <;> omega) | assumption | omega)) (show (τ7.1 17) + (τ7.1 18) ≤ (τ7.1 0) from by (first | omega | (simp only [st_s] <;> omega) | assumption | omega)) (show oc (τ7.2.1 6) < 4096 from by (first | omega | (simp only [st_s] <;> omega) | assumption | omega)) (show oc (τ7.2.1 7) < 4096 from by (first | omega | (simp only [st_s] <;> omega) | assumption | omega)) (show ¬ (σ.1 20) = 0 → (τ7.1 20) = (σ.1 20) from by (first | omega | (simp only [st_s] <;> omega) | assumption | omega)) (show τ7.2.1 14 (τ7.1 22) + τ7.2.1 15 (τ7.1 22) = (τ7.1 6) from Z1) (show ca (τ7.2.1 12) ((τ7.1 3)) ≤ (τ7.1 4) from Y20) (show (τ7.1 5) = (σ.1 5) from by (first | omega | (simp only [st_s] <;> omega) | assumption | omega)) (show (τ7.1 13) = (σ.1 13) from by (first | omega | (simp only [st_s] <;> omega) | assumption | omega)) (show τ7.2.1 15 (τ7.1 22) ≤ 2 from by (first | omega | (simp only [st_s] <;> omega) | assumption | omega)) (show (σ.1 16) ≤ (τ7.1 16) from by (first | omega | (simp only [st_s] <;> omega) | assumption | omega)) (show (τ7.1 20) = 0 → τ7.2.1 15 (τ7.1 22) = 1 from by (first | omega | (simp only [st_s] <;> omega) | assumption | omega))
