-- pure: the reader goes back, reads
theorem J_ht_e {nm nm' : Int} {L A N H : Int → Int} (h : J_ht nm L A N H) (e : nm = nm') : J_ht nm' L A N H := by rw [← e]; exact h
/-- what is left when a text is forgotten -/
theorem c_back {σ υ : S0} (hJ : c_J σ) (hS : c_S σ) (hT : c_T σ) (hU : c_T υ) (g : c_ag σ υ) (n : υ.1 7 = σ.1 7) (vc : υ.1 9 = σ.1 9) (hy : j_eq (σ.1 9) (σ.2.1 22) (υ.2.1 22)) (sx : J_sc 1500 (υ.1 9) (υ.2.1 13) (υ.2.1 14) (υ.2.1 15) (υ.2.1 16) (υ.2.1 22) (υ.2.1 19)) : c_S υ := by
  refine J_sc_b sx (fun m m0 m1 => ?_)
  rw [n, hy m (by omega)]
  exact (hS.1 m m0 (by omega)).1
theorem J_vs_e {n sy : Int} {f g : Int → Int} (h : J_vs n sy f) (e : j_eq n f g) : J_vs n sy g := fun i i0 i1 => by rw [e i i1]; exact h i i0 i1
theorem J_mn_e {nm sy sa : Int} {f g : Int → Int} (h : J_mn nm sy sa f) (e : j_eq nm f g) : J_mn nm sy sa g := fun i i0 i1 => by rw [e i i1]; exact h i i0 i1
/-- ranks, when those that were given are taken back -/
theorem J_rks_b {sy rs sy' rs' : Int} {rank ranked rank' ranked' rank2 : Int → Int} (h : J_rks sy rs rank ranked) (h' : J_rks sy' rs' rank' ranked') (rr : j_rr sy rank rank') (ye : j_eq rs ranked ranked') (s0 : sy ≤ sy')
    (e : ∀ s : Int, 0 ≤ s → s < sy' → (rank' s < rs ∧ rank2 s = rank' s) ∨ (rs ≤ rank' s ∧ rank2 s = -1)) (n0 : ∀ s, -1 ≤ rank' s) (r0 : 0 ≤ rs) : J_rks sy rs rank2 ranked' := by
  refine ⟨fun r a b => ?_, fun s a b => ?_⟩
  · have w := h.1 r a b
    have x := rr _ w.1 w.2.1 (by omega)
    have y := e (ranked r) w.1 (by omega)
    rw [ye r b]; omega
  · have y := e s a (by omega)
    have w := h'.2 s a (by omega)
    refine ⟨by omega, fun q => ?_⟩
    rcases y with y | y
    · rw [y.2]; exact w.2 (by omega)
    · omega
theorem j_rr_b {sy rs sy' : Int} {rank rank' rank2 : Int → Int} (rr : j_rr sy rank rank') (lt : ∀ s : Int, 0 ≤ s → s < sy → rank s < rs) (s0 : sy ≤ sy')
    (e : ∀ s : Int, 0 ≤ s → s < sy' → (rank' s < rs ∧ rank2 s = rank' s) ∨ (rs ≤ rank' s ∧ rank2 s = -1)) : j_rr sy rank rank2 := fun s a b c => by
  have x := rr s a b c
  have y := e s a (by omega)
  have := lt s a b
  omega
set_option maxHeartbeats 1000000 in
theorem K2_X0_keep {σ : S0} (hT : c_T σ) : W_X0_keep σ (fun (τ : S0) => (c_T τ) ∧ (τ.2.1 38 0 = (σ.1 13)) ∧ (τ.2.1 38 1 = (σ.1 14)) ∧ (τ.2.1 38 2 = (σ.1 15)) ∧ (τ.2.1 38 3 = (σ.1 16))) := by
  have v13 : 0 ≤ σ.1 13 ∧ σ.1 13 ≤ 90000 := hT.1 13
  have v14 : 0 ≤ σ.1 14 ∧ σ.1 14 ≤ 20000 := hT.1 14
  have v15 : 0 ≤ σ.1 15 ∧ σ.1 15 ≤ 20000 := hT.1 15
  have v16 : 0 ≤ σ.1 16 ∧ σ.1 16 ≤ 20000 := hT.1 16
  have W13 : σ.1 13 = σ.1 13 := rfl
  have W14 : σ.1 14 = σ.1 14 := rfl
  have W15 : σ.1 15 = σ.1 15 := rfl
  have W16 : σ.1 16 = σ.1 16 := rfl
  unfold W_X0_keep
  replace hT := cT_a (k := 38) (j := 0) hT (show (0 : Int) ≤ (σ.1 13) ∧ (σ.1 13) ≤ 90000 from by (first | assumption | omega | (simp only [st_s] <;> omega) | fail))
  replace hT := cT_a (k := 38) (j := 1) hT (show (0 : Int) ≤ (σ.1 14) ∧ (σ.1 14) ≤ 20000 from by (first | assumption | omega | (simp only [st_s] <;> omega) | fail))
  replace hT := cT_a (k := 38) (j := 2) hT (show (0 : Int) ≤ (σ.1 15) ∧ (σ.1 15) ≤ 20000 from by (first | assumption | omega | (simp only [st_s] <;> omega) | fail))
  replace hT := cT_a (k := 38) (j := 3) hT (show (0 : Int) ≤ (σ.1 16) ∧ (σ.1 16) ≤ 20000 from by (first | assumption | omega | (simp only [st_s] <;> omega) | fail))
  exact ⟨hT, (show (st (st (st (st (σ.2.1 38) 0 (σ.1 13)) 1 (σ.1 14)) 2 (σ.1 15)) 3 (σ.1 16)) 0 = (σ.1 13) from by (first | rfl | (repeat (first | exact st_s _ _ _ | rw [st_n _ _ (by omega)])) | fail)), (show (st (st (st (st (σ.2.1 38) 0 (σ.1 13)) 1 (σ.1 14)) 2 (σ.1 15)) 3 (σ.1 16)) 1 = (σ.1 14) from by (first | rfl | (repeat (first | exact st_s _ _ _ | rw [st_n _ _ (by omega)])) | fail)), (show (st (st (st (st (σ.2.1 38) 0 (σ.1 13)) 1 (σ.1 14)) 2 (σ.1 15)) 3 (σ.1 16)) 2 = (σ.1 15) from by (first | rfl | (repeat (first | exact st_s _ _ _ | rw [st_n _ _ (by omega)])) | fail)), (show (st (st (st (st (σ.2.1 38) 0 (σ.1 13)) 1 (σ.1 14)) 2 (σ.1 15)) 3 (σ.1 16)) 3 = (σ.1 16) from by (first | rfl | (repeat (first | exact st_s _ _ _ | rw [st_n _ _ (by omega)])) | fail))⟩
set_option maxHeartbeats 1000000 in
theorem K2_X3_goBack {σ : S0} (hT : c_T σ) (p1 : J_all (σ.1 7) (σ.1 6) (σ.1 13) (σ.1 14) (σ.1 15) (σ.2.1 13) (σ.2.1 14) (σ.2.1 15) (σ.2.1 16) (σ.2.1 10) (σ.2.1 27) (σ.2.1 28) (σ.2.1 29) (σ.2.1 30) (σ.2.1 31) (σ.2.1 32) (σ.2.1 33) (σ.2.1 34) (σ.2.1 35) (σ.2.1 36) (σ.2.1 37)) (p2 : J_ff (σ.1 5) (σ.1 7) (σ.2.1 9) (σ.2.1 13) (σ.2.1 14) (σ.2.1 15)) (p3 : J_ht (σ.1 3) (σ.2.1 2) (σ.2.1 3) (σ.2.1 5) (σ.2.1 6)) (p4 : J_rks (σ.1 5) (σ.1 4) (σ.2.1 10) (σ.2.1 11)) (p5 : σ.2.1 17 0 ≤ (σ.1 7)) (p6 : σ.2.1 17 1 ≤ (σ.1 5)) (p7 : σ.2.1 17 2 ≤ (σ.1 3)) (p8 : σ.2.1 17 3 ≤ (σ.1 4)) (p9 : 0 ≤ σ.2.1 17 0) (p10 : 0 ≤ σ.2.1 17 1) (p11 : 0 ≤ σ.2.1 17 2) (p12 : 0 ≤ σ.2.1 17 3) : W_X3_goBack σ (fun (τ : S0) => (c_T τ) ∧ ((τ.1 7) = σ.2.1 17 0) ∧ ((τ.1 5) = σ.2.1 17 1) ∧ ((τ.1 3) = σ.2.1 17 2) ∧ ((τ.1 4) = σ.2.1 17 3) ∧ ((τ.1 6) = σ.2.1 17 4) ∧ (∀ s : Int, 0 ≤ s → s < (σ.1 5) → (σ.2.1 10 s < σ.2.1 17 3 ∧ τ.2.1 10 s = σ.2.1 10 s) ∨ (σ.2.1 17 3 ≤ σ.2.1 10 s ∧ τ.2.1 10 s = -1)) ∧ (∀ s : Int, 0 ≤ s → s < (σ.1 5) → 0 ≤ τ.2.1 9 s → τ.2.1 9 s = σ.2.1 9 s ∧ σ.2.1 9 s < σ.2.1 17 0) ∧ (J_ht (σ.2.1 17 2) (σ.2.1 2) (σ.2.1 3) (σ.2.1 5) (τ.2.1 6))) := by
  have A2 : ∀ j, 0 ≤ σ.2.1 2 j ∧ σ.2.1 2 j ≤ 65535 := fun j => hT.2 2 j
  have A3 : ∀ j, 0 ≤ σ.2.1 3 j ∧ σ.2.1 3 j ≤ 30000 := fun j => hT.2 3 j
  have A5 : ∀ j, 0 ≤ σ.2.1 5 j ∧ σ.2.1 5 j ≤ 2500 := fun j => hT.2 5 j
  have A6 : ∀ j, 0 ≤ σ.2.1 6 j ∧ σ.2.1 6 j ≤ 2500 := fun j => hT.2 6 j
  have A9 : ∀ j, (-1) ≤ σ.2.1 9 j ∧ σ.2.1 9 j ≤ 1499 := fun j => hT.2 9 j
  have A10 : ∀ j, (-1) ≤ σ.2.1 10 j ∧ σ.2.1 10 j ≤ 99 := fun j => hT.2 10 j
  have A11 : ∀ j, 0 ≤ σ.2.1 11 j ∧ σ.2.1 11 j ≤ 999 := fun j => hT.2 11 j
  have A13 : ∀ j, 0 ≤ σ.2.1 13 j ∧ σ.2.1 13 j ≤ 4 := fun j => hT.2 13 j
  have A14 : ∀ j, 0 ≤ σ.2.1 14 j ∧ σ.2.1 14 j ≤ 30000 := fun j => hT.2 14 j
  have A15 : ∀ j, 0 ≤ σ.2.1 15 j ∧ σ.2.1 15 j ≤ 999 := fun j => hT.2 15 j
  have A16 : ∀ j, (-1) ≤ σ.2.1 16 j ∧ σ.2.1 16 j ≤ 1499 := fun j => hT.2 16 j
  have A27 : ∀ j, 0 ≤ σ.2.1 27 j ∧ σ.2.1 27 j ≤ 90000 := fun j => hT.2 27 j
  have A28 : ∀ j, 0 ≤ σ.2.1 28 j ∧ σ.2.1 28 j ≤ 60 := fun j => hT.2 28 j
  have A29 : ∀ j, 0 ≤ σ.2.1 29 j ∧ σ.2.1 29 j ≤ 1499 := fun j => hT.2 29 j
  have A30 : ∀ j, 0 ≤ σ.2.1 30 j ∧ σ.2.1 30 j ≤ 20000 := fun j => hT.2 30 j
  have A31 : ∀ j, 0 ≤ σ.2.1 31 j ∧ σ.2.1 31 j ≤ 20000 := fun j => hT.2 31 j
  have A32 : ∀ j, 0 ≤ σ.2.1 32 j ∧ σ.2.1 32 j ≤ 999999 := fun j => hT.2 32 j
  have A33 : ∀ j, 0 ≤ σ.2.1 33 j ∧ σ.2.1 33 j ≤ 20000 := fun j => hT.2 33 j
  have A34 : ∀ j, 0 ≤ σ.2.1 34 j ∧ σ.2.1 34 j ≤ 20000 := fun j => hT.2 34 j
  have A35 : ∀ j, 0 ≤ σ.2.1 35 j ∧ σ.2.1 35 j ≤ 1499 := fun j => hT.2 35 j
  have A36 : ∀ j, 0 ≤ σ.2.1 36 j ∧ σ.2.1 36 j ≤ 20000 := fun j => hT.2 36 j
  have A37 : ∀ j, 0 ≤ σ.2.1 37 j ∧ σ.2.1 37 j ≤ 19999 := fun j => hT.2 37 j
  have v3 : 0 ≤ σ.1 3 ∧ σ.1 3 ≤ 2500 := hT.1 3
  have v4 : 0 ≤ σ.1 4 ∧ σ.1 4 ≤ 100 := hT.1 4
  have v5 : 0 ≤ σ.1 5 ∧ σ.1 5 ≤ 1000 := hT.1 5
  have v6 : 0 ≤ σ.1 6 ∧ σ.1 6 ≤ 30000 := hT.1 6
  have v7 : 0 ≤ σ.1 7 ∧ σ.1 7 ≤ 1500 := hT.1 7
  have v13 : 0 ≤ σ.1 13 ∧ σ.1 13 ≤ 90000 := hT.1 13
  have v14 : 0 ≤ σ.1 14 ∧ σ.1 14 ≤ 20000 := hT.1 14
  have v15 : 0 ≤ σ.1 15 ∧ σ.1 15 ≤ 20000 := hT.1 15
  have W13 : σ.1 13 = σ.1 13 := rfl
  have W14 : σ.1 14 = σ.1 14 := rfl
  have W15 : σ.1 15 = σ.1 15 := rfl
  have G2 : σ.2.1 2 = σ.2.1 2 := rfl
  have G3 : σ.2.1 3 = σ.2.1 3 := rfl
  have G5 : σ.2.1 5 = σ.2.1 5 := rfl
  have G11 : σ.2.1 11 = σ.2.1 11 := rfl
  have G13 : σ.2.1 13 = σ.2.1 13 := rfl
  have G14 : σ.2.1 14 = σ.2.1 14 := rfl
  have G15 : σ.2.1 15 = σ.2.1 15 := rfl
  have G16 : σ.2.1 16 = σ.2.1 16 := rfl
  have G17 : σ.2.1 17 = σ.2.1 17 := rfl
  have G27 : σ.2.1 27 = σ.2.1 27 := rfl
  have G28 : σ.2.1 28 = σ.2.1 28 := rfl
  have G29 : σ.2.1 29 = σ.2.1 29 := rfl
  have G30 : σ.2.1 30 = σ.2.1 30 := rfl
  have G31 : σ.2.1 31 = σ.2.1 31 := rfl
  have G32 : σ.2.1 32 = σ.2.1 32 := rfl
  have G33 : σ.2.1 33 = σ.2.1 33 := rfl
  have G34 : σ.2.1 34 = σ.2.1 34 := rfl
  have G35 : σ.2.1 35 = σ.2.1 35 := rfl
  have G36 : σ.2.1 36 = σ.2.1 36 := rfl
  have G37 : σ.2.1 37 = σ.2.1 37 := rfl
  intro P7 P62 P95 h7 h62 h95
  have jt := c_Jt p1
  have rk10 := A10
  have rkx := p4
  have ffx := p2
  have a14 := A14
  have HT : J_ht (σ.1 3) (σ.2.1 2) (σ.2.1 3) (σ.2.1 5) (σ.2.1 6) := p3
  have FF : J_ff (σ.1 5) (σ.1 7) (σ.2.1 9) (σ.2.1 13) (σ.2.1 14) (σ.2.1 15) := p2
  have RKS : J_rks (σ.1 5) (σ.1 4) (σ.2.1 10) (σ.2.1 11) := p4
  have CJ : J_all (σ.1 7) (σ.1 6) (σ.1 13) (σ.1 14) (σ.1 15) (σ.2.1 13) (σ.2.1 14) (σ.2.1 15) (σ.2.1 16) (σ.2.1 10) (σ.2.1 27) (σ.2.1 28) (σ.2.1 29) (σ.2.1 30) (σ.2.1 31) (σ.2.1 32) (σ.2.1 33) (σ.2.1 34) (σ.2.1 35) (σ.2.1 36) (σ.2.1 37) := p1
  have CJ_0 := CJ
  have FF_0 := FF
  have HT_0 := HT
  have RKS_0 := RKS
  have l_95 : ∀ (m_95 : Nat) (u1_95 : Int) (τ_95 : S0), u1_95 + 2 < (m_95 : Int) → (c_T τ_95) → (τ_95.1 13 = σ.1 13) → (τ_95.1 14 = σ.1 14) → (τ_95.1 15 = σ.1 15) → (τ_95.2.1 2 = σ.2.1 2) → (τ_95.2.1 3 = σ.2.1 3) → (τ_95.2.1 5 = σ.2.1 5) → (τ_95.2.1 11 = σ.2.1 11) → (τ_95.2.1 13 = σ.2.1 13) → (τ_95.2.1 14 = σ.2.1 14) → (τ_95.2.1 15 = σ.2.1 15) → (τ_95.2.1 16 = σ.2.1 16) → (τ_95.2.1 17 = σ.2.1 17) → (τ_95.2.1 27 = σ.2.1 27) → (τ_95.2.1 28 = σ.2.1 28) → (τ_95.2.1 29 = σ.2.1 29) → (τ_95.2.1 30 = σ.2.1 30) → (τ_95.2.1 31 = σ.2.1 31) → (τ_95.2.1 32 = σ.2.1 32) → (τ_95.2.1 33 = σ.2.1 33) → (τ_95.2.1 34 = σ.2.1 34) → (τ_95.2.1 35 = σ.2.1 35) → (τ_95.2.1 36 = σ.2.1 36) → (τ_95.2.1 37 = σ.2.1 37) → (σ.2.1 17 2 - 1 ≤ u1_95) → (u1_95 < (σ.1 3)) → ((τ_95.1 7) = (σ.1 7) ∧ (τ_95.1 5) = (σ.1 5) ∧ (τ_95.1 3) = (σ.1 3) ∧ (τ_95.1 4) = (σ.1 4)) → (∀ s : Int, 0 ≤ s → s < (σ.1 5) → (σ.2.1 10 s < σ.2.1 17 3 ∧ τ_95.2.1 10 s = σ.2.1 10 s) ∨ (σ.2.1 17 3 ≤ σ.2.1 10 s ∧ τ_95.2.1 10 s = -1)) → (J_ht (u1_95 + 1) (σ.2.1 2) (σ.2.1 3) (σ.2.1 5) (τ_95.2.1 6)) → (∀ s : Int, 0 ≤ s → s < (σ.1 5) → 0 ≤ τ_95.2.1 9 s → τ_95.2.1 9 s = σ.2.1 9 s ∧ σ.2.1 9 s < σ.2.1 17 0) → P95 u1_95 τ_95 := by
    intro m_95
    induction m_95 with
    | zero =>
      intro u1_95 τ_95 hm hT W13 W14 W15 G2 G3 G5 G11 G13 G14 G15 G16 G17 G27 G28 G29 G30 G31 G32 G33 G34 G35 G36 G37 i95_1 i95_2 i95_3 i95_4 i95_5 i95_6
      have A2 : ∀ j, 0 ≤ τ_95.2.1 2 j ∧ τ_95.2.1 2 j ≤ 65535 := fun j => hT.2 2 j
      have A3 : ∀ j, 0 ≤ τ_95.2.1 3 j ∧ τ_95.2.1 3 j ≤ 30000 := fun j => hT.2 3 j
      have A5 : ∀ j, 0 ≤ τ_95.2.1 5 j ∧ τ_95.2.1 5 j ≤ 2500 := fun j => hT.2 5 j
      have A6 : ∀ j, 0 ≤ τ_95.2.1 6 j ∧ τ_95.2.1 6 j ≤ 2500 := fun j => hT.2 6 j
      have A9 : ∀ j, (-1) ≤ τ_95.2.1 9 j ∧ τ_95.2.1 9 j ≤ 1499 := fun j => hT.2 9 j
      have A10 : ∀ j, (-1) ≤ τ_95.2.1 10 j ∧ τ_95.2.1 10 j ≤ 99 := fun j => hT.2 10 j
      have A11 : ∀ j, 0 ≤ τ_95.2.1 11 j ∧ τ_95.2.1 11 j ≤ 999 := fun j => hT.2 11 j
      have A13 : ∀ j, 0 ≤ τ_95.2.1 13 j ∧ τ_95.2.1 13 j ≤ 4 := fun j => hT.2 13 j
      have A14 : ∀ j, 0 ≤ τ_95.2.1 14 j ∧ τ_95.2.1 14 j ≤ 30000 := fun j => hT.2 14 j
      have A15 : ∀ j, 0 ≤ τ_95.2.1 15 j ∧ τ_95.2.1 15 j ≤ 999 := fun j => hT.2 15 j
      have A16 : ∀ j, (-1) ≤ τ_95.2.1 16 j ∧ τ_95.2.1 16 j ≤ 1499 := fun j => hT.2 16 j
      have A27 : ∀ j, 0 ≤ τ_95.2.1 27 j ∧ τ_95.2.1 27 j ≤ 90000 := fun j => hT.2 27 j
      have A28 : ∀ j, 0 ≤ τ_95.2.1 28 j ∧ τ_95.2.1 28 j ≤ 60 := fun j => hT.2 28 j
      have A29 : ∀ j, 0 ≤ τ_95.2.1 29 j ∧ τ_95.2.1 29 j ≤ 1499 := fun j => hT.2 29 j
      have A30 : ∀ j, 0 ≤ τ_95.2.1 30 j ∧ τ_95.2.1 30 j ≤ 20000 := fun j => hT.2 30 j
      have A31 : ∀ j, 0 ≤ τ_95.2.1 31 j ∧ τ_95.2.1 31 j ≤ 20000 := fun j => hT.2 31 j
      have A32 : ∀ j, 0 ≤ τ_95.2.1 32 j ∧ τ_95.2.1 32 j ≤ 999999 := fun j => hT.2 32 j
      have A33 : ∀ j, 0 ≤ τ_95.2.1 33 j ∧ τ_95.2.1 33 j ≤ 20000 := fun j => hT.2 33 j
      have A34 : ∀ j, 0 ≤ τ_95.2.1 34 j ∧ τ_95.2.1 34 j ≤ 20000 := fun j => hT.2 34 j
      have A35 : ∀ j, 0 ≤ τ_95.2.1 35 j ∧ τ_95.2.1 35 j ≤ 1499 := fun j => hT.2 35 j
      have A36 : ∀ j, 0 ≤ τ_95.2.1 36 j ∧ τ_95.2.1 36 j ≤ 20000 := fun j => hT.2 36 j
      have A37 : ∀ j, 0 ≤ τ_95.2.1 37 j ∧ τ_95.2.1 37 j ≤ 19999 := fun j => hT.2 37 j
      have v3 : 0 ≤ τ_95.1 3 ∧ τ_95.1 3 ≤ 2500 := hT.1 3
      have v4 : 0 ≤ τ_95.1 4 ∧ τ_95.1 4 ≤ 100 := hT.1 4
      have v5 : 0 ≤ τ_95.1 5 ∧ τ_95.1 5 ≤ 1000 := hT.1 5
      have v6 : 0 ≤ τ_95.1 6 ∧ τ_95.1 6 ≤ 30000 := hT.1 6
      have v7 : 0 ≤ τ_95.1 7 ∧ τ_95.1 7 ≤ 1500 := hT.1 7
      have v13 : 0 ≤ τ_95.1 13 ∧ τ_95.1 13 ≤ 90000 := hT.1 13
      have v14 : 0 ≤ τ_95.1 14 ∧ τ_95.1 14 ≤ 20000 := hT.1 14
      have v15 : 0 ≤ τ_95.1 15 ∧ τ_95.1 15 ≤ 20000 := hT.1 15
      exfalso; (first | assumption | omega | (simp only [st_s] <;> omega) | fail)
    | succ m_95 ih_95 =>
      intro u1_95 τ_95 hm_95 hT W13 W14 W15 G2 G3 G5 G11 G13 G14 G15 G16 G17 G27 G28 G29 G30 G31 G32 G33 G34 G35 G36 G37 i95_1 i95_2 i95_3 i95_4 i95_5 i95_6
      have A2 : ∀ j, 0 ≤ τ_95.2.1 2 j ∧ τ_95.2.1 2 j ≤ 65535 := fun j => hT.2 2 j
      have A3 : ∀ j, 0 ≤ τ_95.2.1 3 j ∧ τ_95.2.1 3 j ≤ 30000 := fun j => hT.2 3 j
      have A5 : ∀ j, 0 ≤ τ_95.2.1 5 j ∧ τ_95.2.1 5 j ≤ 2500 := fun j => hT.2 5 j
      have A6 : ∀ j, 0 ≤ τ_95.2.1 6 j ∧ τ_95.2.1 6 j ≤ 2500 := fun j => hT.2 6 j
      have A9 : ∀ j, (-1) ≤ τ_95.2.1 9 j ∧ τ_95.2.1 9 j ≤ 1499 := fun j => hT.2 9 j
      have A10 : ∀ j, (-1) ≤ τ_95.2.1 10 j ∧ τ_95.2.1 10 j ≤ 99 := fun j => hT.2 10 j
      have A11 : ∀ j, 0 ≤ τ_95.2.1 11 j ∧ τ_95.2.1 11 j ≤ 999 := fun j => hT.2 11 j
      have A13 : ∀ j, 0 ≤ τ_95.2.1 13 j ∧ τ_95.2.1 13 j ≤ 4 := fun j => hT.2 13 j
      have A14 : ∀ j, 0 ≤ τ_95.2.1 14 j ∧ τ_95.2.1 14 j ≤ 30000 := fun j => hT.2 14 j
      have A15 : ∀ j, 0 ≤ τ_95.2.1 15 j ∧ τ_95.2.1 15 j ≤ 999 := fun j => hT.2 15 j
      have A16 : ∀ j, (-1) ≤ τ_95.2.1 16 j ∧ τ_95.2.1 16 j ≤ 1499 := fun j => hT.2 16 j
      have A27 : ∀ j, 0 ≤ τ_95.2.1 27 j ∧ τ_95.2.1 27 j ≤ 90000 := fun j => hT.2 27 j
      have A28 : ∀ j, 0 ≤ τ_95.2.1 28 j ∧ τ_95.2.1 28 j ≤ 60 := fun j => hT.2 28 j
      have A29 : ∀ j, 0 ≤ τ_95.2.1 29 j ∧ τ_95.2.1 29 j ≤ 1499 := fun j => hT.2 29 j
      have A30 : ∀ j, 0 ≤ τ_95.2.1 30 j ∧ τ_95.2.1 30 j ≤ 20000 := fun j => hT.2 30 j
      have A31 : ∀ j, 0 ≤ τ_95.2.1 31 j ∧ τ_95.2.1 31 j ≤ 20000 := fun j => hT.2 31 j
      have A32 : ∀ j, 0 ≤ τ_95.2.1 32 j ∧ τ_95.2.1 32 j ≤ 999999 := fun j => hT.2 32 j
      have A33 : ∀ j, 0 ≤ τ_95.2.1 33 j ∧ τ_95.2.1 33 j ≤ 20000 := fun j => hT.2 33 j
      have A34 : ∀ j, 0 ≤ τ_95.2.1 34 j ∧ τ_95.2.1 34 j ≤ 20000 := fun j => hT.2 34 j
      have A35 : ∀ j, 0 ≤ τ_95.2.1 35 j ∧ τ_95.2.1 35 j ≤ 1499 := fun j => hT.2 35 j
      have A36 : ∀ j, 0 ≤ τ_95.2.1 36 j ∧ τ_95.2.1 36 j ≤ 20000 := fun j => hT.2 36 j
      have A37 : ∀ j, 0 ≤ τ_95.2.1 37 j ∧ τ_95.2.1 37 j ≤ 19999 := fun j => hT.2 37 j
      have v3 : 0 ≤ τ_95.1 3 ∧ τ_95.1 3 ≤ 2500 := hT.1 3
      have v4 : 0 ≤ τ_95.1 4 ∧ τ_95.1 4 ≤ 100 := hT.1 4
      have v5 : 0 ≤ τ_95.1 5 ∧ τ_95.1 5 ≤ 1000 := hT.1 5
      have v6 : 0 ≤ τ_95.1 6 ∧ τ_95.1 6 ≤ 30000 := hT.1 6
      have v7 : 0 ≤ τ_95.1 7 ∧ τ_95.1 7 ≤ 1500 := hT.1 7
      have v13 : 0 ≤ τ_95.1 13 ∧ τ_95.1 13 ≤ 90000 := hT.1 13
      have v14 : 0 ≤ τ_95.1 14 ∧ τ_95.1 14 ≤ 20000 := hT.1 14
      have v15 : 0 ≤ τ_95.1 15 ∧ τ_95.1 15 ≤ 20000 := hT.1 15
      refine h95 u1_95 τ_95 ?_
      intro x26 r_x26 e_x26
      have b_x26 : 0 ≤ x26 ∧ x26 ≤ 2500 := by rw [e_x26]; exact hT.2 17 _
      rw [G17] at e_x26
      refine ⟨fun c27 => ?_, fun c27 => ?_⟩
      ·
        intro x28 r_x28 e_x28
        have b_x28 : 0 ≤ x28 ∧ x28 ≤ 1500 := by rw [e_x28]; exact hT.2 17 _
        rw [G17] at e_x28
        replace hT := cT_v (i := 7) hT (show 0 ≤ x28 ∧ x28 ≤ 1500 from by (first | assumption | omega | (simp only [st_s] <;> omega) | fail))
        intro x29 r_x29 e_x29
        have b_x29 : 0 ≤ x29 ∧ x29 ≤ 1000 := by rw [e_x29]; exact hT.2 17 _
        rw [G17] at e_x29
        replace hT := cT_v (i := 5) hT (show 0 ≤ x29 ∧ x29 ≤ 1000 from by (first | assumption | omega | (simp only [st_s] <;> omega) | fail))
        intro x30 r_x30 e_x30
        have b_x30 : 0 ≤ x30 ∧ x30 ≤ 2500 := by rw [e_x30]; exact hT.2 17 _
        rw [G17] at e_x30
        replace hT := cT_v (i := 3) hT (show 0 ≤ x30 ∧ x30 ≤ 2500 from by (first | assumption | omega | (simp only [st_s] <;> omega) | fail))
        intro x31 r_x31 e_x31
        have b_x31 : 0 ≤ x31 ∧ x31 ≤ 100 := by rw [e_x31]; exact hT.2 17 _
        rw [G17] at e_x31
        replace hT := cT_v (i := 4) hT (show 0 ≤ x31 ∧ x31 ≤ 100 from by (first | assumption | omega | (simp only [st_s] <;> omega) | fail))
        intro x32 r_x32 e_x32
        have b_x32 : 0 ≤ x32 ∧ x32 ≤ 30000 := by rw [e_x32]; exact hT.2 17 _
        rw [G17] at e_x32
        replace hT := cT_v (i := 6) hT (show 0 ≤ x32 ∧ x32 ≤ 30000 from by (first | assumption | omega | (simp only [st_s] <;> omega) | fail))
        exact ⟨hT, (show (x28) = σ.2.1 17 0 from by (first | assumption | omega | (simp only [st_s] <;> omega) | fail)), (show (x29) = σ.2.1 17 1 from by (first | assumption | omega | (simp only [st_s] <;> omega) | fail)), (show (x30) = σ.2.1 17 2 from by (first | assumption | omega | (simp only [st_s] <;> omega) | fail)), (show (x31) = σ.2.1 17 3 from by (first | assumption | omega | (simp only [st_s] <;> omega) | fail)), (show (x32) = σ.2.1 17 4 from by (first | assumption | omega | (simp only [st_s] <;> omega) | fail)), (show ∀ s : Int, 0 ≤ s → s < (σ.1 5) → (σ.2.1 10 s < σ.2.1 17 3 ∧ τ_95.2.1 10 s = σ.2.1 10 s) ∨ (σ.2.1 17 3 ≤ σ.2.1 10 s ∧ τ_95.2.1 10 s = -1) from by exact i95_4), (show ∀ s : Int, 0 ≤ s → s < (σ.1 5) → 0 ≤ τ_95.2.1 9 s → τ_95.2.1 9 s = σ.2.1 9 s ∧ σ.2.1 9 s < σ.2.1 17 0 from by exact i95_6), (show J_ht (σ.2.1 17 2) (σ.2.1 2) (σ.2.1 3) (σ.2.1 5) (τ_95.2.1 6) from by exact J_ht_e i95_5 (by omega))⟩
      ·
        have hm := J_ht_mono i95_5 (n := u1_95) (m := u1_95 + 1) (by omega) (by omega) (by omega)
        refine ⟨(show 0 ≤ u1_95 ∧ u1_95 < 2501 from by (first | assumption | omega | (simp only [st_s] <;> omega) | fail)), ?_⟩
        intro x34 r_x34 e_x34
        have b_x34 : 0 ≤ x34 ∧ x34 ≤ 30000 := by rw [e_x34]; exact hT.2 3 _
        rw [G3] at e_x34
        refine ⟨(show 0 ≤ (u1_95 + 1) ∧ (u1_95 + 1) < 2501 from by (first | assumption | omega | (simp only [st_s] <;> omega) | fail)), ?_⟩
        intro x36 r_x36 e_x36
        have b_x36 : 0 ≤ x36 ∧ x36 ≤ 30000 := by rw [e_x36]; exact hT.2 3 _
        rw [G3] at e_x36
        intro x37 r_x37 e_x37
        have b_x37 : 0 ≤ x37 ∧ x37 ≤ 30000 := by rw [e_x37]; exact hT.2 3 _
        rw [G3] at e_x37
        refine ⟨(⟨by (first | assumption | omega | (simp only [st_s] <;> omega) | fail), by (first | assumption | omega | (simp only [st_s] <;> omega) | fail)⟩ : rg (x36 - x37)), ?_⟩
        refine ⟨_, K_X3_bucket_q15 hT (show 0 ≤ x34 from by omega) (show x34 + (x36 - x37) ≤ 30000 from by (first | assumption | omega | (simp only [st_s] <;> omega) | fail)), ?_⟩
        intro x40 r_x40 hq
        obtain ⟨q39_1, q39_2⟩ := hq
        replace q39_1 : 0 ≤ x40 ∧ x40 < 4096 := q39_1
        replace q39_2 : x40 = h_b (τ_95.2.1 2) x34 (x36 - x37) := q39_2
        refine ⟨(show 0 ≤ u1_95 ∧ u1_95 < 2500 from by (first | assumption | omega | (simp only [st_s] <;> omega) | fail)), ?_⟩
        intro x43 r_x43 e_x43
        have b_x43 : 0 ≤ x43 ∧ x43 ≤ 2500 := by rw [e_x43]; exact hT.2 5 _
        rw [G5] at e_x43
        refine ⟨(show 0 ≤ x40 ∧ x40 < 4096 from by (first | assumption | omega | (simp only [st_s] <;> omega) | fail)), ?_⟩
        replace hT := cT_a (k := 6) (j := x40) hT (show (0 : Int) ≤ x43 ∧ x43 ≤ 2500 from by (first | assumption | omega | (simp only [st_s] <;> omega) | fail))
        refine ⟨(⟨by (first | assumption | omega | (simp only [st_s] <;> omega) | fail), by (first | assumption | omega | (simp only [st_s] <;> omega) | fail)⟩ : rg (u1_95 + (-1))), ?_⟩
        exact ih_95 _ _ (show ((u1_95 + (-1)) + 2 : Int) < ((m_95 : Nat) : Int) from by ((first | assumption | omega | (simp only [st_s] <;> omega) | fail))) hT (show τ_95.1 13 = σ.1 13 from by first | exact W13 | omega) (show τ_95.1 14 = σ.1 14 from by first | exact W14 | omega) (show τ_95.1 15 = σ.1 15 from by first | exact W15 | omega) G2 G3 G5 G11 G13 G14 G15 G16 G17 G27 G28 G29 G30 G31 G32 G33 G34 G35 G36 G37 (show σ.2.1 17 2 - 1 ≤ (u1_95 + (-1)) from by (first | assumption | omega | (simp only [st_s] <;> omega) | fail)) (show (u1_95 + (-1)) < (σ.1 3) from by (first | assumption | omega | (simp only [st_s] <;> omega) | fail)) (show (τ_95.1 7) = (σ.1 7) ∧ (τ_95.1 5) = (σ.1 5) ∧ (τ_95.1 3) = (σ.1 3) ∧ (τ_95.1 4) = (σ.1 4) from by (first | assumption | omega | (simp only [st_s] <;> omega) | fail)) (show ∀ s : Int, 0 ≤ s → s < (σ.1 5) → (σ.2.1 10 s < σ.2.1 17 3 ∧ τ_95.2.1 10 s = σ.2.1 10 s) ∨ (σ.2.1 17 3 ≤ σ.2.1 10 s ∧ τ_95.2.1 10 s = -1) from by (first | (intro s s0 s1; have q9 := i62_4 s s0 s1; obtain ⟨a, b⟩ := q9; have d := (rkx.2 s s0 s1).1; rcases (by omega : σ.2.1 10 s < σ.2.1 17 3 ∨ σ.2.1 17 3 ≤ σ.2.1 10 s) with y | y; exact Or.inl ⟨y, a (Or.inl y)⟩; exact Or.inr ⟨y, b y (by omega)⟩) | assumption | fail)) (show J_ht ((u1_95 + (-1)) + 1) (σ.2.1 2) (σ.2.1 3) (σ.2.1 5) ((st (τ_95.2.1 6) x40 x43)) from by (first | (rw [i62_5]; exact J_ht_e HT_0 (by omega)) | (have w := J_ht_back i95_5 (by omega); rw [show u1_95 + 1 - 1 = u1_95 from by omega] at w; rw [q39_2, e_x34, e_x36, e_x37, e_x43, G2, show u1_95 + -1 + 1 = u1_95 from by omega]; exact w) | fail)) (show ∀ s : Int, 0 ≤ s → s < (σ.1 5) → 0 ≤ τ_95.2.1 9 s → τ_95.2.1 9 s = σ.2.1 9 s ∧ σ.2.1 9 s < σ.2.1 17 0 from by assumption)
  have l_62 : ∀ (m_62 : Nat) (u1_62 : Int) (τ_62 : S0), 101 - u1_62 < (m_62 : Int) → (c_T τ_62) → (τ_62.1 13 = σ.1 13) → (τ_62.1 14 = σ.1 14) → (τ_62.1 15 = σ.1 15) → (τ_62.2.1 2 = σ.2.1 2) → (τ_62.2.1 3 = σ.2.1 3) → (τ_62.2.1 5 = σ.2.1 5) → (τ_62.2.1 11 = σ.2.1 11) → (τ_62.2.1 13 = σ.2.1 13) → (τ_62.2.1 14 = σ.2.1 14) → (τ_62.2.1 15 = σ.2.1 15) → (τ_62.2.1 16 = σ.2.1 16) → (τ_62.2.1 17 = σ.2.1 17) → (τ_62.2.1 27 = σ.2.1 27) → (τ_62.2.1 28 = σ.2.1 28) → (τ_62.2.1 29 = σ.2.1 29) → (τ_62.2.1 30 = σ.2.1 30) → (τ_62.2.1 31 = σ.2.1 31) → (τ_62.2.1 32 = σ.2.1 32) → (τ_62.2.1 33 = σ.2.1 33) → (τ_62.2.1 34 = σ.2.1 34) → (τ_62.2.1 35 = σ.2.1 35) → (τ_62.2.1 36 = σ.2.1 36) → (τ_62.2.1 37 = σ.2.1 37) → (σ.2.1 17 3 ≤ u1_62) → (u1_62 ≤ 100) → ((τ_62.1 7) = (σ.1 7) ∧ (τ_62.1 5) = (σ.1 5) ∧ (τ_62.1 3) = (σ.1 3) ∧ (τ_62.1 4) = (σ.1 4)) → (∀ s : Int, 0 ≤ s → s < (σ.1 5) → ((σ.2.1 10 s < σ.2.1 17 3 ∨ u1_62 ≤ σ.2.1 10 s) → τ_62.2.1 10 s = σ.2.1 10 s) ∧ (σ.2.1 17 3 ≤ σ.2.1 10 s → σ.2.1 10 s < u1_62 → τ_62.2.1 10 s = -1)) → (τ_62.2.1 6 = σ.2.1 6) → (∀ s : Int, 0 ≤ s → s < (σ.1 5) → 0 ≤ τ_62.2.1 9 s → τ_62.2.1 9 s = σ.2.1 9 s ∧ σ.2.1 9 s < σ.2.1 17 0) → P62 u1_62 τ_62 := by
    intro m_62
    induction m_62 with
    | zero =>
      intro u1_62 τ_62 hm hT W13 W14 W15 G2 G3 G5 G11 G13 G14 G15 G16 G17 G27 G28 G29 G30 G31 G32 G33 G34 G35 G36 G37 i62_1 i62_2 i62_3 i62_4 i62_5 i62_6
      have A2 : ∀ j, 0 ≤ τ_62.2.1 2 j ∧ τ_62.2.1 2 j ≤ 65535 := fun j => hT.2 2 j
      have A3 : ∀ j, 0 ≤ τ_62.2.1 3 j ∧ τ_62.2.1 3 j ≤ 30000 := fun j => hT.2 3 j
      have A5 : ∀ j, 0 ≤ τ_62.2.1 5 j ∧ τ_62.2.1 5 j ≤ 2500 := fun j => hT.2 5 j
      have A6 : ∀ j, 0 ≤ τ_62.2.1 6 j ∧ τ_62.2.1 6 j ≤ 2500 := fun j => hT.2 6 j
      have A9 : ∀ j, (-1) ≤ τ_62.2.1 9 j ∧ τ_62.2.1 9 j ≤ 1499 := fun j => hT.2 9 j
      have A10 : ∀ j, (-1) ≤ τ_62.2.1 10 j ∧ τ_62.2.1 10 j ≤ 99 := fun j => hT.2 10 j
      have A11 : ∀ j, 0 ≤ τ_62.2.1 11 j ∧ τ_62.2.1 11 j ≤ 999 := fun j => hT.2 11 j
      have A13 : ∀ j, 0 ≤ τ_62.2.1 13 j ∧ τ_62.2.1 13 j ≤ 4 := fun j => hT.2 13 j
      have A14 : ∀ j, 0 ≤ τ_62.2.1 14 j ∧ τ_62.2.1 14 j ≤ 30000 := fun j => hT.2 14 j
      have A15 : ∀ j, 0 ≤ τ_62.2.1 15 j ∧ τ_62.2.1 15 j ≤ 999 := fun j => hT.2 15 j
      have A16 : ∀ j, (-1) ≤ τ_62.2.1 16 j ∧ τ_62.2.1 16 j ≤ 1499 := fun j => hT.2 16 j
      have A27 : ∀ j, 0 ≤ τ_62.2.1 27 j ∧ τ_62.2.1 27 j ≤ 90000 := fun j => hT.2 27 j
      have A28 : ∀ j, 0 ≤ τ_62.2.1 28 j ∧ τ_62.2.1 28 j ≤ 60 := fun j => hT.2 28 j
      have A29 : ∀ j, 0 ≤ τ_62.2.1 29 j ∧ τ_62.2.1 29 j ≤ 1499 := fun j => hT.2 29 j
      have A30 : ∀ j, 0 ≤ τ_62.2.1 30 j ∧ τ_62.2.1 30 j ≤ 20000 := fun j => hT.2 30 j
      have A31 : ∀ j, 0 ≤ τ_62.2.1 31 j ∧ τ_62.2.1 31 j ≤ 20000 := fun j => hT.2 31 j
      have A32 : ∀ j, 0 ≤ τ_62.2.1 32 j ∧ τ_62.2.1 32 j ≤ 999999 := fun j => hT.2 32 j
      have A33 : ∀ j, 0 ≤ τ_62.2.1 33 j ∧ τ_62.2.1 33 j ≤ 20000 := fun j => hT.2 33 j
      have A34 : ∀ j, 0 ≤ τ_62.2.1 34 j ∧ τ_62.2.1 34 j ≤ 20000 := fun j => hT.2 34 j
      have A35 : ∀ j, 0 ≤ τ_62.2.1 35 j ∧ τ_62.2.1 35 j ≤ 1499 := fun j => hT.2 35 j
      have A36 : ∀ j, 0 ≤ τ_62.2.1 36 j ∧ τ_62.2.1 36 j ≤ 20000 := fun j => hT.2 36 j
      have A37 : ∀ j, 0 ≤ τ_62.2.1 37 j ∧ τ_62.2.1 37 j ≤ 19999 := fun j => hT.2 37 j
      have v3 : 0 ≤ τ_62.1 3 ∧ τ_62.1 3 ≤ 2500 := hT.1 3
      have v4 : 0 ≤ τ_62.1 4 ∧ τ_62.1 4 ≤ 100 := hT.1 4
      have v5 : 0 ≤ τ_62.1 5 ∧ τ_62.1 5 ≤ 1000 := hT.1 5
      have v6 : 0 ≤ τ_62.1 6 ∧ τ_62.1 6 ≤ 30000 := hT.1 6
      have v7 : 0 ≤ τ_62.1 7 ∧ τ_62.1 7 ≤ 1500 := hT.1 7
      have v13 : 0 ≤ τ_62.1 13 ∧ τ_62.1 13 ≤ 90000 := hT.1 13
      have v14 : 0 ≤ τ_62.1 14 ∧ τ_62.1 14 ≤ 20000 := hT.1 14
      have v15 : 0 ≤ τ_62.1 15 ∧ τ_62.1 15 ≤ 20000 := hT.1 15
      exfalso; (first | assumption | omega | (simp only [st_s] <;> omega) | fail)
    | succ m_62 ih_62 =>
      intro u1_62 τ_62 hm_62 hT W13 W14 W15 G2 G3 G5 G11 G13 G14 G15 G16 G17 G27 G28 G29 G30 G31 G32 G33 G34 G35 G36 G37 i62_1 i62_2 i62_3 i62_4 i62_5 i62_6
      have A2 : ∀ j, 0 ≤ τ_62.2.1 2 j ∧ τ_62.2.1 2 j ≤ 65535 := fun j => hT.2 2 j
      have A3 : ∀ j, 0 ≤ τ_62.2.1 3 j ∧ τ_62.2.1 3 j ≤ 30000 := fun j => hT.2 3 j
      have A5 : ∀ j, 0 ≤ τ_62.2.1 5 j ∧ τ_62.2.1 5 j ≤ 2500 := fun j => hT.2 5 j
      have A6 : ∀ j, 0 ≤ τ_62.2.1 6 j ∧ τ_62.2.1 6 j ≤ 2500 := fun j => hT.2 6 j
      have A9 : ∀ j, (-1) ≤ τ_62.2.1 9 j ∧ τ_62.2.1 9 j ≤ 1499 := fun j => hT.2 9 j
      have A10 : ∀ j, (-1) ≤ τ_62.2.1 10 j ∧ τ_62.2.1 10 j ≤ 99 := fun j => hT.2 10 j
      have A11 : ∀ j, 0 ≤ τ_62.2.1 11 j ∧ τ_62.2.1 11 j ≤ 999 := fun j => hT.2 11 j
      have A13 : ∀ j, 0 ≤ τ_62.2.1 13 j ∧ τ_62.2.1 13 j ≤ 4 := fun j => hT.2 13 j
      have A14 : ∀ j, 0 ≤ τ_62.2.1 14 j ∧ τ_62.2.1 14 j ≤ 30000 := fun j => hT.2 14 j
      have A15 : ∀ j, 0 ≤ τ_62.2.1 15 j ∧ τ_62.2.1 15 j ≤ 999 := fun j => hT.2 15 j
      have A16 : ∀ j, (-1) ≤ τ_62.2.1 16 j ∧ τ_62.2.1 16 j ≤ 1499 := fun j => hT.2 16 j
      have A27 : ∀ j, 0 ≤ τ_62.2.1 27 j ∧ τ_62.2.1 27 j ≤ 90000 := fun j => hT.2 27 j
      have A28 : ∀ j, 0 ≤ τ_62.2.1 28 j ∧ τ_62.2.1 28 j ≤ 60 := fun j => hT.2 28 j
      have A29 : ∀ j, 0 ≤ τ_62.2.1 29 j ∧ τ_62.2.1 29 j ≤ 1499 := fun j => hT.2 29 j
      have A30 : ∀ j, 0 ≤ τ_62.2.1 30 j ∧ τ_62.2.1 30 j ≤ 20000 := fun j => hT.2 30 j
      have A31 : ∀ j, 0 ≤ τ_62.2.1 31 j ∧ τ_62.2.1 31 j ≤ 20000 := fun j => hT.2 31 j
      have A32 : ∀ j, 0 ≤ τ_62.2.1 32 j ∧ τ_62.2.1 32 j ≤ 999999 := fun j => hT.2 32 j
      have A33 : ∀ j, 0 ≤ τ_62.2.1 33 j ∧ τ_62.2.1 33 j ≤ 20000 := fun j => hT.2 33 j
      have A34 : ∀ j, 0 ≤ τ_62.2.1 34 j ∧ τ_62.2.1 34 j ≤ 20000 := fun j => hT.2 34 j
      have A35 : ∀ j, 0 ≤ τ_62.2.1 35 j ∧ τ_62.2.1 35 j ≤ 1499 := fun j => hT.2 35 j
      have A36 : ∀ j, 0 ≤ τ_62.2.1 36 j ∧ τ_62.2.1 36 j ≤ 20000 := fun j => hT.2 36 j
      have A37 : ∀ j, 0 ≤ τ_62.2.1 37 j ∧ τ_62.2.1 37 j ≤ 19999 := fun j => hT.2 37 j
      have v3 : 0 ≤ τ_62.1 3 ∧ τ_62.1 3 ≤ 2500 := hT.1 3
      have v4 : 0 ≤ τ_62.1 4 ∧ τ_62.1 4 ≤ 100 := hT.1 4
      have v5 : 0 ≤ τ_62.1 5 ∧ τ_62.1 5 ≤ 1000 := hT.1 5
      have v6 : 0 ≤ τ_62.1 6 ∧ τ_62.1 6 ≤ 30000 := hT.1 6
      have v7 : 0 ≤ τ_62.1 7 ∧ τ_62.1 7 ≤ 1500 := hT.1 7
      have v13 : 0 ≤ τ_62.1 13 ∧ τ_62.1 13 ≤ 90000 := hT.1 13
      have v14 : 0 ≤ τ_62.1 14 ∧ τ_62.1 14 ≤ 20000 := hT.1 14
      have v15 : 0 ≤ τ_62.1 15 ∧ τ_62.1 15 ≤ 20000 := hT.1 15
      refine h62 u1_62 τ_62 ?_
      refine ⟨fun c20 => ?_, fun c20 => ?_⟩
      ·
        refine ⟨(⟨by (first | assumption | omega | (simp only [st_s] <;> omega) | fail), by (first | assumption | omega | (simp only [st_s] <;> omega) | fail)⟩ : rg (τ_62.1 3 - 1)), ?_⟩
        exact l_95 (((τ_62.1 3 - 1) + 2 : Int).toNat + 1) _ _ (show ((τ_62.1 3 - 1) + 2 : Int) < ((((τ_62.1 3 - 1) + 2 : Int).toNat + 1 : Nat) : Int) from by ((first | assumption | omega | (simp only [st_s] <;> omega) | fail))) hT (show τ_62.1 13 = σ.1 13 from by first | exact W13 | omega) (show τ_62.1 14 = σ.1 14 from by first | exact W14 | omega) (show τ_62.1 15 = σ.1 15 from by first | exact W15 | omega) G2 G3 G5 G11 G13 G14 G15 G16 G17 G27 G28 G29 G30 G31 G32 G33 G34 G35 G36 G37 (show σ.2.1 17 2 - 1 ≤ (τ_62.1 3 - 1) from by (first | assumption | omega | (simp only [st_s] <;> omega) | fail)) (show (τ_62.1 3 - 1) < (σ.1 3) from by (first | assumption | omega | (simp only [st_s] <;> omega) | fail)) (show (τ_62.1 7) = (σ.1 7) ∧ (τ_62.1 5) = (σ.1 5) ∧ (τ_62.1 3) = (σ.1 3) ∧ (τ_62.1 4) = (σ.1 4) from by (first | assumption | omega | (simp only [st_s] <;> omega) | fail)) (show ∀ s : Int, 0 ≤ s → s < (σ.1 5) → (σ.2.1 10 s < σ.2.1 17 3 ∧ τ_62.2.1 10 s = σ.2.1 10 s) ∨ (σ.2.1 17 3 ≤ σ.2.1 10 s ∧ τ_62.2.1 10 s = -1) from by (first | (intro s s0 s1; have q9 := i62_4 s s0 s1; obtain ⟨a, b⟩ := q9; have d := (rkx.2 s s0 s1).1; rcases (by omega : σ.2.1 10 s < σ.2.1 17 3 ∨ σ.2.1 17 3 ≤ σ.2.1 10 s) with y | y; exact Or.inl ⟨y, a (Or.inl y)⟩; exact Or.inr ⟨y, b y (by omega)⟩) | assumption | fail)) (show J_ht ((τ_62.1 3 - 1) + 1) (σ.2.1 2) (σ.2.1 3) (σ.2.1 5) (τ_62.2.1 6) from by (first | (rw [i62_5]; exact J_ht_e HT_0 (by omega)) | (have w := J_ht_back i95_5 (by omega); rw [show u1_95 + 1 - 1 = u1_95 from by omega] at w; rw [q39_2, e_x34, e_x36, e_x37, e_x43, G2, show u1_95 + -1 + 1 = u1_95 from by omega]; exact w) | fail)) (show ∀ s : Int, 0 ≤ s → s < (σ.1 5) → 0 ≤ τ_62.2.1 9 s → τ_62.2.1 9 s = σ.2.1 9 s ∧ σ.2.1 9 s < σ.2.1 17 0 from by assumption)
      ·
        have rd := rkx.1 u1_62 (by omega) (by omega)
        refine ⟨(show 0 ≤ u1_62 ∧ u1_62 < 100 from by (first | assumption | omega | (simp only [st_s] <;> omega) | fail)), ?_⟩
        intro x23 r_x23 e_x23
        have b_x23 : 0 ≤ x23 ∧ x23 ≤ 999 := by rw [e_x23]; exact hT.2 11 _
        rw [G11] at e_x23
        refine ⟨(show 0 ≤ x23 ∧ x23 < 1000 from by (first | assumption | omega | (simp only [st_s] <;> omega) | fail)), ?_⟩
        replace hT := cT_a (k := 10) (j := x23) hT (show (-1 : Int) ≤ (-1) ∧ (-1) ≤ 99 from by (first | assumption | omega | (simp only [st_s] <;> omega) | fail))
        refine ⟨(⟨by (first | assumption | omega | (simp only [st_s] <;> omega) | fail), by (first | assumption | omega | (simp only [st_s] <;> omega) | fail)⟩ : rg (u1_62 + 1)), ?_⟩
        exact ih_62 _ _ (show (101 - (u1_62 + 1) : Int) < ((m_62 : Nat) : Int) from by ((first | assumption | omega | (simp only [st_s] <;> omega) | fail))) hT (show τ_62.1 13 = σ.1 13 from by first | exact W13 | omega) (show τ_62.1 14 = σ.1 14 from by first | exact W14 | omega) (show τ_62.1 15 = σ.1 15 from by first | exact W15 | omega) G2 G3 G5 G11 G13 G14 G15 G16 G17 G27 G28 G29 G30 G31 G32 G33 G34 G35 G36 G37 (show σ.2.1 17 3 ≤ (u1_62 + 1) from by (first | assumption | omega | (simp only [st_s] <;> omega) | fail)) (show (u1_62 + 1) ≤ 100 from by (first | assumption | omega | (simp only [st_s] <;> omega) | fail)) (show (τ_62.1 7) = (σ.1 7) ∧ (τ_62.1 5) = (σ.1 5) ∧ (τ_62.1 3) = (σ.1 3) ∧ (τ_62.1 4) = (σ.1 4) from by (first | assumption | omega | (simp only [st_s] <;> omega) | fail)) (show ∀ s : Int, 0 ≤ s → s < (σ.1 5) → ((σ.2.1 10 s < σ.2.1 17 3 ∨ (u1_62 + 1) ≤ σ.2.1 10 s) → (st (τ_62.2.1 10) x23 (-1)) s = σ.2.1 10 s) ∧ (σ.2.1 17 3 ≤ σ.2.1 10 s → σ.2.1 10 s < (u1_62 + 1) → (st (τ_62.2.1 10) x23 (-1)) s = -1) from by (first | (intro s s0 s1; rw [i7_4]; exact ⟨fun _ => rfl, fun a b => by omega⟩) | (intro s s0 s1; have q9 := i62_4 s s0 s1; obtain ⟨a, b⟩ := q9; have d := (rkx.2 s s0 s1).2; by_cases y : s = x23; (rw [y, st_s]; rw [y] at d; refine ⟨fun z => ?_, fun _ _ => rfl⟩; have e : σ.2.1 10 x23 = u1_62 := (by rw [e_x23]; exact rd.2.2); omega); (rw [st_n _ _ y]; refine ⟨fun z => a (by omega), fun z w => ?_⟩; rcases (by omega : σ.2.1 10 s = u1_62 ∨ σ.2.1 10 s < u1_62) with v | v; (exfalso; have f := d (by omega); rw [v, ← e_x23] at f; exact y f.symm); exact b z v)) | fail)) (show τ_62.2.1 6 = σ.2.1 6 from by (first | exact i7_5 | assumption | fail)) (show ∀ s : Int, 0 ≤ s → s < (σ.1 5) → 0 ≤ τ_62.2.1 9 s → τ_62.2.1 9 s = σ.2.1 9 s ∧ σ.2.1 9 s < σ.2.1 17 0 from by (first | (intro s s0 s1 s2; have q9 := i7_6 s s0 s1 s2; obtain ⟨a, b⟩ := q9; have d := ffx s s0 s1 (by omega); refine ⟨a, ?_⟩; rcases (by omega : σ.2.1 9 s < σ.2.1 17 0 ∨ σ.2.1 17 0 ≤ σ.2.1 9 s) with y | y; exact y; (have := b y; omega)) | assumption | fail))
  have l_7 : ∀ (m_7 : Nat) (u1_7 : Int) (τ_7 : S0), 1501 - u1_7 < (m_7 : Int) → (c_T τ_7) → (τ_7.1 13 = σ.1 13) → (τ_7.1 14 = σ.1 14) → (τ_7.1 15 = σ.1 15) → (τ_7.2.1 2 = σ.2.1 2) → (τ_7.2.1 3 = σ.2.1 3) → (τ_7.2.1 5 = σ.2.1 5) → (τ_7.2.1 11 = σ.2.1 11) → (τ_7.2.1 13 = σ.2.1 13) → (τ_7.2.1 14 = σ.2.1 14) → (τ_7.2.1 15 = σ.2.1 15) → (τ_7.2.1 16 = σ.2.1 16) → (τ_7.2.1 17 = σ.2.1 17) → (τ_7.2.1 27 = σ.2.1 27) → (τ_7.2.1 28 = σ.2.1 28) → (τ_7.2.1 29 = σ.2.1 29) → (τ_7.2.1 30 = σ.2.1 30) → (τ_7.2.1 31 = σ.2.1 31) → (τ_7.2.1 32 = σ.2.1 32) → (τ_7.2.1 33 = σ.2.1 33) → (τ_7.2.1 34 = σ.2.1 34) → (τ_7.2.1 35 = σ.2.1 35) → (τ_7.2.1 36 = σ.2.1 36) → (τ_7.2.1 37 = σ.2.1 37) → (σ.2.1 17 0 ≤ u1_7) → (u1_7 ≤ 1500) → ((τ_7.1 7) = (σ.1 7) ∧ (τ_7.1 5) = (σ.1 5) ∧ (τ_7.1 3) = (σ.1 3) ∧ (τ_7.1 4) = (σ.1 4)) → (τ_7.2.1 10 = σ.2.1 10) → (τ_7.2.1 6 = σ.2.1 6) → (∀ s : Int, 0 ≤ s → s < (σ.1 5) → 0 ≤ τ_7.2.1 9 s → τ_7.2.1 9 s = σ.2.1 9 s ∧ (σ.2.1 17 0 ≤ σ.2.1 9 s → u1_7 ≤ σ.2.1 9 s)) → P7 u1_7 τ_7 := by
    intro m_7
    induction m_7 with
    | zero =>
      intro u1_7 τ_7 hm hT W13 W14 W15 G2 G3 G5 G11 G13 G14 G15 G16 G17 G27 G28 G29 G30 G31 G32 G33 G34 G35 G36 G37 i7_1 i7_2 i7_3 i7_4 i7_5 i7_6
      have A2 : ∀ j, 0 ≤ τ_7.2.1 2 j ∧ τ_7.2.1 2 j ≤ 65535 := fun j => hT.2 2 j
      have A3 : ∀ j, 0 ≤ τ_7.2.1 3 j ∧ τ_7.2.1 3 j ≤ 30000 := fun j => hT.2 3 j
      have A5 : ∀ j, 0 ≤ τ_7.2.1 5 j ∧ τ_7.2.1 5 j ≤ 2500 := fun j => hT.2 5 j
      have A6 : ∀ j, 0 ≤ τ_7.2.1 6 j ∧ τ_7.2.1 6 j ≤ 2500 := fun j => hT.2 6 j
      have A9 : ∀ j, (-1) ≤ τ_7.2.1 9 j ∧ τ_7.2.1 9 j ≤ 1499 := fun j => hT.2 9 j
      have A10 : ∀ j, (-1) ≤ τ_7.2.1 10 j ∧ τ_7.2.1 10 j ≤ 99 := fun j => hT.2 10 j
      have A11 : ∀ j, 0 ≤ τ_7.2.1 11 j ∧ τ_7.2.1 11 j ≤ 999 := fun j => hT.2 11 j
      have A13 : ∀ j, 0 ≤ τ_7.2.1 13 j ∧ τ_7.2.1 13 j ≤ 4 := fun j => hT.2 13 j
      have A14 : ∀ j, 0 ≤ τ_7.2.1 14 j ∧ τ_7.2.1 14 j ≤ 30000 := fun j => hT.2 14 j
      have A15 : ∀ j, 0 ≤ τ_7.2.1 15 j ∧ τ_7.2.1 15 j ≤ 999 := fun j => hT.2 15 j
      have A16 : ∀ j, (-1) ≤ τ_7.2.1 16 j ∧ τ_7.2.1 16 j ≤ 1499 := fun j => hT.2 16 j
      have A27 : ∀ j, 0 ≤ τ_7.2.1 27 j ∧ τ_7.2.1 27 j ≤ 90000 := fun j => hT.2 27 j
      have A28 : ∀ j, 0 ≤ τ_7.2.1 28 j ∧ τ_7.2.1 28 j ≤ 60 := fun j => hT.2 28 j
      have A29 : ∀ j, 0 ≤ τ_7.2.1 29 j ∧ τ_7.2.1 29 j ≤ 1499 := fun j => hT.2 29 j
      have A30 : ∀ j, 0 ≤ τ_7.2.1 30 j ∧ τ_7.2.1 30 j ≤ 20000 := fun j => hT.2 30 j
      have A31 : ∀ j, 0 ≤ τ_7.2.1 31 j ∧ τ_7.2.1 31 j ≤ 20000 := fun j => hT.2 31 j
      have A32 : ∀ j, 0 ≤ τ_7.2.1 32 j ∧ τ_7.2.1 32 j ≤ 999999 := fun j => hT.2 32 j
      have A33 : ∀ j, 0 ≤ τ_7.2.1 33 j ∧ τ_7.2.1 33 j ≤ 20000 := fun j => hT.2 33 j
      have A34 : ∀ j, 0 ≤ τ_7.2.1 34 j ∧ τ_7.2.1 34 j ≤ 20000 := fun j => hT.2 34 j
      have A35 : ∀ j, 0 ≤ τ_7.2.1 35 j ∧ τ_7.2.1 35 j ≤ 1499 := fun j => hT.2 35 j
      have A36 : ∀ j, 0 ≤ τ_7.2.1 36 j ∧ τ_7.2.1 36 j ≤ 20000 := fun j => hT.2 36 j
      have A37 : ∀ j, 0 ≤ τ_7.2.1 37 j ∧ τ_7.2.1 37 j ≤ 19999 := fun j => hT.2 37 j
      have v3 : 0 ≤ τ_7.1 3 ∧ τ_7.1 3 ≤ 2500 := hT.1 3
      have v4 : 0 ≤ τ_7.1 4 ∧ τ_7.1 4 ≤ 100 := hT.1 4
      have v5 : 0 ≤ τ_7.1 5 ∧ τ_7.1 5 ≤ 1000 := hT.1 5
      have v6 : 0 ≤ τ_7.1 6 ∧ τ_7.1 6 ≤ 30000 := hT.1 6
      have v7 : 0 ≤ τ_7.1 7 ∧ τ_7.1 7 ≤ 1500 := hT.1 7
      have v13 : 0 ≤ τ_7.1 13 ∧ τ_7.1 13 ≤ 90000 := hT.1 13
      have v14 : 0 ≤ τ_7.1 14 ∧ τ_7.1 14 ≤ 20000 := hT.1 14
      have v15 : 0 ≤ τ_7.1 15 ∧ τ_7.1 15 ≤ 20000 := hT.1 15
      exfalso; (first | assumption | omega | (simp only [st_s] <;> omega) | fail)
    | succ m_7 ih_7 =>
      intro u1_7 τ_7 hm_7 hT W13 W14 W15 G2 G3 G5 G11 G13 G14 G15 G16 G17 G27 G28 G29 G30 G31 G32 G33 G34 G35 G36 G37 i7_1 i7_2 i7_3 i7_4 i7_5 i7_6
      have A2 : ∀ j, 0 ≤ τ_7.2.1 2 j ∧ τ_7.2.1 2 j ≤ 65535 := fun j => hT.2 2 j
      have A3 : ∀ j, 0 ≤ τ_7.2.1 3 j ∧ τ_7.2.1 3 j ≤ 30000 := fun j => hT.2 3 j
      have A5 : ∀ j, 0 ≤ τ_7.2.1 5 j ∧ τ_7.2.1 5 j ≤ 2500 := fun j => hT.2 5 j
      have A6 : ∀ j, 0 ≤ τ_7.2.1 6 j ∧ τ_7.2.1 6 j ≤ 2500 := fun j => hT.2 6 j
      have A9 : ∀ j, (-1) ≤ τ_7.2.1 9 j ∧ τ_7.2.1 9 j ≤ 1499 := fun j => hT.2 9 j
      have A10 : ∀ j, (-1) ≤ τ_7.2.1 10 j ∧ τ_7.2.1 10 j ≤ 99 := fun j => hT.2 10 j
      have A11 : ∀ j, 0 ≤ τ_7.2.1 11 j ∧ τ_7.2.1 11 j ≤ 999 := fun j => hT.2 11 j
      have A13 : ∀ j, 0 ≤ τ_7.2.1 13 j ∧ τ_7.2.1 13 j ≤ 4 := fun j => hT.2 13 j
      have A14 : ∀ j, 0 ≤ τ_7.2.1 14 j ∧ τ_7.2.1 14 j ≤ 30000 := fun j => hT.2 14 j
      have A15 : ∀ j, 0 ≤ τ_7.2.1 15 j ∧ τ_7.2.1 15 j ≤ 999 := fun j => hT.2 15 j
      have A16 : ∀ j, (-1) ≤ τ_7.2.1 16 j ∧ τ_7.2.1 16 j ≤ 1499 := fun j => hT.2 16 j
      have A27 : ∀ j, 0 ≤ τ_7.2.1 27 j ∧ τ_7.2.1 27 j ≤ 90000 := fun j => hT.2 27 j
      have A28 : ∀ j, 0 ≤ τ_7.2.1 28 j ∧ τ_7.2.1 28 j ≤ 60 := fun j => hT.2 28 j
      have A29 : ∀ j, 0 ≤ τ_7.2.1 29 j ∧ τ_7.2.1 29 j ≤ 1499 := fun j => hT.2 29 j
      have A30 : ∀ j, 0 ≤ τ_7.2.1 30 j ∧ τ_7.2.1 30 j ≤ 20000 := fun j => hT.2 30 j
      have A31 : ∀ j, 0 ≤ τ_7.2.1 31 j ∧ τ_7.2.1 31 j ≤ 20000 := fun j => hT.2 31 j
      have A32 : ∀ j, 0 ≤ τ_7.2.1 32 j ∧ τ_7.2.1 32 j ≤ 999999 := fun j => hT.2 32 j
      have A33 : ∀ j, 0 ≤ τ_7.2.1 33 j ∧ τ_7.2.1 33 j ≤ 20000 := fun j => hT.2 33 j
      have A34 : ∀ j, 0 ≤ τ_7.2.1 34 j ∧ τ_7.2.1 34 j ≤ 20000 := fun j => hT.2 34 j
      have A35 : ∀ j, 0 ≤ τ_7.2.1 35 j ∧ τ_7.2.1 35 j ≤ 1499 := fun j => hT.2 35 j
      have A36 : ∀ j, 0 ≤ τ_7.2.1 36 j ∧ τ_7.2.1 36 j ≤ 20000 := fun j => hT.2 36 j
      have A37 : ∀ j, 0 ≤ τ_7.2.1 37 j ∧ τ_7.2.1 37 j ≤ 19999 := fun j => hT.2 37 j
      have v3 : 0 ≤ τ_7.1 3 ∧ τ_7.1 3 ≤ 2500 := hT.1 3
      have v4 : 0 ≤ τ_7.1 4 ∧ τ_7.1 4 ≤ 100 := hT.1 4
      have v5 : 0 ≤ τ_7.1 5 ∧ τ_7.1 5 ≤ 1000 := hT.1 5
      have v6 : 0 ≤ τ_7.1 6 ∧ τ_7.1 6 ≤ 30000 := hT.1 6
      have v7 : 0 ≤ τ_7.1 7 ∧ τ_7.1 7 ≤ 1500 := hT.1 7
      have v13 : 0 ≤ τ_7.1 13 ∧ τ_7.1 13 ≤ 90000 := hT.1 13
      have v14 : 0 ≤ τ_7.1 14 ∧ τ_7.1 14 ≤ 20000 := hT.1 14
      have v15 : 0 ≤ τ_7.1 15 ∧ τ_7.1 15 ≤ 20000 := hT.1 15
      refine h7 u1_7 τ_7 ?_
      refine ⟨fun c2 => ?_, fun c2 => ?_⟩
      ·
        intro x3 r_x3 e_x3
        have b_x3 : 0 ≤ x3 ∧ x3 ≤ 100 := by rw [e_x3]; exact hT.2 17 _
        rw [G17] at e_x3
        exact l_62 ((101 - x3 : Int).toNat + 1) _ _ (show (101 - x3 : Int) < (((101 - x3 : Int).toNat + 1 : Nat) : Int) from by ((first | assumption | omega | (simp only [st_s] <;> omega) | fail))) hT (show τ_7.1 13 = σ.1 13 from by first | exact W13 | omega) (show τ_7.1 14 = σ.1 14 from by first | exact W14 | omega) (show τ_7.1 15 = σ.1 15 from by first | exact W15 | omega) G2 G3 G5 G11 G13 G14 G15 G16 G17 G27 G28 G29 G30 G31 G32 G33 G34 G35 G36 G37 (show σ.2.1 17 3 ≤ x3 from by (first | assumption | omega | (simp only [st_s] <;> omega) | fail)) (show x3 ≤ 100 from by (first | assumption | omega | (simp only [st_s] <;> omega) | fail)) (show (τ_7.1 7) = (σ.1 7) ∧ (τ_7.1 5) = (σ.1 5) ∧ (τ_7.1 3) = (σ.1 3) ∧ (τ_7.1 4) = (σ.1 4) from by (first | assumption | omega | (simp only [st_s] <;> omega) | fail)) (show ∀ s : Int, 0 ≤ s → s < (σ.1 5) → ((σ.2.1 10 s < σ.2.1 17 3 ∨ x3 ≤ σ.2.1 10 s) → τ_7.2.1 10 s = σ.2.1 10 s) ∧ (σ.2.1 17 3 ≤ σ.2.1 10 s → σ.2.1 10 s < x3 → τ_7.2.1 10 s = -1) from by (first | (intro s s0 s1; rw [i7_4]; exact ⟨fun _ => rfl, fun a b => by omega⟩) | (intro s s0 s1; have q9 := i62_4 s s0 s1; obtain ⟨a, b⟩ := q9; have d := (rkx.2 s s0 s1).2; by_cases y : s = x23; (rw [y, st_s]; rw [y] at d; refine ⟨fun z => ?_, fun _ _ => rfl⟩; have e : σ.2.1 10 x23 = u1_62 := (by rw [e_x23]; exact rd.2.2); omega); (rw [st_n _ _ y]; refine ⟨fun z => a (by omega), fun z w => ?_⟩; rcases (by omega : σ.2.1 10 s = u1_62 ∨ σ.2.1 10 s < u1_62) with v | v; (exfalso; have f := d (by omega); rw [v, ← e_x23] at f; exact y f.symm); exact b z v)) | fail)) (show τ_7.2.1 6 = σ.2.1 6 from by (first | exact i7_5 | assumption | fail)) (show ∀ s : Int, 0 ≤ s → s < (σ.1 5) → 0 ≤ τ_7.2.1 9 s → τ_7.2.1 9 s = σ.2.1 9 s ∧ σ.2.1 9 s < σ.2.1 17 0 from by (first | (intro s s0 s1 s2; have q9 := i7_6 s s0 s1 s2; obtain ⟨a, b⟩ := q9; have d := ffx s s0 s1 (by omega); refine ⟨a, ?_⟩; rcases (by omega : σ.2.1 9 s < σ.2.1 17 0 ∨ σ.2.1 17 0 ≤ σ.2.1 9 s) with y | y; exact y; (have := b y; omega)) | assumption | fail))
      ·
        refine ⟨(show 0 ≤ u1_7 ∧ u1_7 < 1500 from by (first | assumption | omega | (simp only [st_s] <;> omega) | fail)), ?_⟩
        intro x5 r_x5 e_x5
        have b_x5 : 0 ≤ x5 ∧ x5 ≤ 4 := by rw [e_x5]; exact hT.2 13 _
        refine ⟨fun c6 => ?_, fun c6 => ?_⟩
        ·
          refine ⟨(⟨by (first | assumption | omega | (simp only [st_s] <;> omega) | fail), by (first | assumption | omega | (simp only [st_s] <;> omega) | fail)⟩ : rg (u1_7 + 1)), ?_⟩
          exact ih_7 _ _ (show (1501 - (u1_7 + 1) : Int) < ((m_7 : Nat) : Int) from by ((first | assumption | omega | (simp only [st_s] <;> omega) | fail))) hT (show τ_7.1 13 = σ.1 13 from by first | exact W13 | omega) (show τ_7.1 14 = σ.1 14 from by first | exact W14 | omega) (show τ_7.1 15 = σ.1 15 from by first | exact W15 | omega) G2 G3 G5 G11 G13 G14 G15 G16 G17 G27 G28 G29 G30 G31 G32 G33 G34 G35 G36 G37 (show σ.2.1 17 0 ≤ (u1_7 + 1) from by (first | assumption | omega | (simp only [st_s] <;> omega) | fail)) (show (u1_7 + 1) ≤ 1500 from by (first | assumption | omega | (simp only [st_s] <;> omega) | fail)) (show (τ_7.1 7) = (σ.1 7) ∧ (τ_7.1 5) = (σ.1 5) ∧ (τ_7.1 3) = (σ.1 3) ∧ (τ_7.1 4) = (σ.1 4) from by (first | assumption | omega | (simp only [st_s] <;> omega) | fail)) (show τ_7.2.1 10 = σ.2.1 10 from by (first | rfl | assumption | fail)) (show τ_7.2.1 6 = σ.2.1 6 from by (first | rfl | assumption | fail)) (show ∀ s : Int, 0 ≤ s → s < (σ.1 5) → 0 ≤ τ_7.2.1 9 s → τ_7.2.1 9 s = σ.2.1 9 s ∧ (σ.2.1 17 0 ≤ σ.2.1 9 s → (u1_7 + 1) ≤ σ.2.1 9 s) from by (first | (intro s s0 s1 s2; exact ⟨rfl, fun z => by omega⟩) | (intro s s0 s1 s2; have q9 := i7_6 s s0 s1 s2; obtain ⟨a, b⟩ := q9; refine ⟨a, fun z => ?_⟩; have c := b z; have d := ffx s s0 s1 (by omega); rcases (by omega : σ.2.1 9 s = u1_7 ∨ u1_7 + 1 ≤ σ.2.1 9 s) with y | y; (exfalso; rw [y] at d; first | (rw [← G13] at d; omega) | (rw [← G14, ← G15, ← q8_1] at d; rw [← a, ← d.2.2] at y; omega)); exact y) | (intro s s0 s1 s2; by_cases y : s = x16; (rw [y, st_s] at s2; omega); (rw [st_n _ _ y] at s2 ⊢; have q9 := i7_6 s s0 s1 s2; obtain ⟨a, b⟩ := q9; refine ⟨a, fun z => ?_⟩; have c := b z; have d := ffx s s0 s1 (by omega); rcases (by omega : σ.2.1 9 s = u1_7 ∨ u1_7 + 1 ≤ σ.2.1 9 s) with w | w; (exfalso; rw [w, ← G14, ← G15, ← q15_1] at d; exact y d.2.2.symm); exact w)) | fail))
        ·
          have jj := (jt u1_7 (by omega) (by omega)).1.2.2.2
          rw [← G13, ← G14] at jj
          have a1 := A14 (u1_7 + 1)
          refine ⟨_, K_X3_variableOf hT (show 0 ≤ u1_7 from by (first | assumption | omega | (simp only [st_s] <;> omega) | fail)) (show u1_7 ≤ 1500 from by (first | assumption | omega | (simp only [st_s] <;> omega) | fail)) (show τ_7.2.1 14 u1_7 < 29999 from by (first | assumption | omega | (simp only [st_s] <;> omega) | fail)), ?_⟩
          intro x9 r_x9 hq
          obtain ⟨q8_1, q8_2⟩ := hq
          replace q8_1 : x9 = τ_7.2.1 15 (τ_7.2.1 14 u1_7 + 1) := q8_1
          replace q8_2 : 0 ≤ x9 ∧ x9 ≤ 999 := q8_2
          refine ⟨(show 0 ≤ x9 ∧ x9 < 1000 from by (first | assumption | omega | (simp only [st_s] <;> omega) | fail)), ?_⟩
          intro x12 r_x12 e_x12
          have b_x12 : (-1) ≤ x12 ∧ x12 ≤ 1499 := by rw [e_x12]; exact hT.2 9 _
          refine ⟨fun c13 => ?_, fun c13 => ?_⟩
          ·
            refine ⟨(⟨by (first | assumption | omega | (simp only [st_s] <;> omega) | fail), by (first | assumption | omega | (simp only [st_s] <;> omega) | fail)⟩ : rg (u1_7 + 1)), ?_⟩
            exact ih_7 _ _ (show (1501 - (u1_7 + 1) : Int) < ((m_7 : Nat) : Int) from by ((first | assumption | omega | (simp only [st_s] <;> omega) | fail))) hT (show τ_7.1 13 = σ.1 13 from by first | exact W13 | omega) (show τ_7.1 14 = σ.1 14 from by first | exact W14 | omega) (show τ_7.1 15 = σ.1 15 from by first | exact W15 | omega) G2 G3 G5 G11 G13 G14 G15 G16 G17 G27 G28 G29 G30 G31 G32 G33 G34 G35 G36 G37 (show σ.2.1 17 0 ≤ (u1_7 + 1) from by (first | assumption | omega | (simp only [st_s] <;> omega) | fail)) (show (u1_7 + 1) ≤ 1500 from by (first | assumption | omega | (simp only [st_s] <;> omega) | fail)) (show (τ_7.1 7) = (σ.1 7) ∧ (τ_7.1 5) = (σ.1 5) ∧ (τ_7.1 3) = (σ.1 3) ∧ (τ_7.1 4) = (σ.1 4) from by (first | assumption | omega | (simp only [st_s] <;> omega) | fail)) (show τ_7.2.1 10 = σ.2.1 10 from by (first | rfl | assumption | fail)) (show τ_7.2.1 6 = σ.2.1 6 from by (first | rfl | assumption | fail)) (show ∀ s : Int, 0 ≤ s → s < (σ.1 5) → 0 ≤ τ_7.2.1 9 s → τ_7.2.1 9 s = σ.2.1 9 s ∧ (σ.2.1 17 0 ≤ σ.2.1 9 s → (u1_7 + 1) ≤ σ.2.1 9 s) from by (first | (intro s s0 s1 s2; exact ⟨rfl, fun z => by omega⟩) | (intro s s0 s1 s2; have q9 := i7_6 s s0 s1 s2; obtain ⟨a, b⟩ := q9; refine ⟨a, fun z => ?_⟩; have c := b z; have d := ffx s s0 s1 (by omega); rcases (by omega : σ.2.1 9 s = u1_7 ∨ u1_7 + 1 ≤ σ.2.1 9 s) with y | y; (exfalso; rw [y] at d; first | (rw [← G13] at d; omega) | (rw [← G14, ← G15, ← q8_1] at d; rw [← a, ← d.2.2] at y; omega)); exact y) | (intro s s0 s1 s2; by_cases y : s = x16; (rw [y, st_s] at s2; omega); (rw [st_n _ _ y] at s2 ⊢; have q9 := i7_6 s s0 s1 s2; obtain ⟨a, b⟩ := q9; refine ⟨a, fun z => ?_⟩; have c := b z; have d := ffx s s0 s1 (by omega); rcases (by omega : σ.2.1 9 s = u1_7 ∨ u1_7 + 1 ≤ σ.2.1 9 s) with w | w; (exfalso; rw [w, ← G14, ← G15, ← q15_1] at d; exact y d.2.2.symm); exact w)) | fail))
          ·
            have jj := (jt u1_7 (by omega) (by omega)).1.2.2.2
            rw [← G13, ← G14] at jj
            have a1 := A14 (u1_7 + 1)
            refine ⟨_, K_X3_variableOf hT (show 0 ≤ u1_7 from by (first | assumption | omega | (simp only [st_s] <;> omega) | fail)) (show u1_7 ≤ 1500 from by (first | assumption | omega | (simp only [st_s] <;> omega) | fail)) (show τ_7.2.1 14 u1_7 < 29999 from by (first | assumption | omega | (simp only [st_s] <;> omega) | fail)), ?_⟩
            intro x16 r_x16 hq
            obtain ⟨q15_1, q15_2⟩ := hq
            replace q15_1 : x16 = τ_7.2.1 15 (τ_7.2.1 14 u1_7 + 1) := q15_1
            replace q15_2 : 0 ≤ x16 ∧ x16 ≤ 999 := q15_2
            refine ⟨(show 0 ≤ x16 ∧ x16 < 1000 from by (first | assumption | omega | (simp only [st_s] <;> omega) | fail)), ?_⟩
            replace hT := cT_a (k := 9) (j := x16) hT (show (-1 : Int) ≤ (-1) ∧ (-1) ≤ 1499 from by (first | assumption | omega | (simp only [st_s] <;> omega) | fail))
            refine ⟨(⟨by (first | assumption | omega | (simp only [st_s] <;> omega) | fail), by (first | assumption | omega | (simp only [st_s] <;> omega) | fail)⟩ : rg (u1_7 + 1)), ?_⟩
            exact ih_7 _ _ (show (1501 - (u1_7 + 1) : Int) < ((m_7 : Nat) : Int) from by ((first | assumption | omega | (simp only [st_s] <;> omega) | fail))) hT (show τ_7.1 13 = σ.1 13 from by first | exact W13 | omega) (show τ_7.1 14 = σ.1 14 from by first | exact W14 | omega) (show τ_7.1 15 = σ.1 15 from by first | exact W15 | omega) G2 G3 G5 G11 G13 G14 G15 G16 G17 G27 G28 G29 G30 G31 G32 G33 G34 G35 G36 G37 (show σ.2.1 17 0 ≤ (u1_7 + 1) from by (first | assumption | omega | (simp only [st_s] <;> omega) | fail)) (show (u1_7 + 1) ≤ 1500 from by (first | assumption | omega | (simp only [st_s] <;> omega) | fail)) (show (τ_7.1 7) = (σ.1 7) ∧ (τ_7.1 5) = (σ.1 5) ∧ (τ_7.1 3) = (σ.1 3) ∧ (τ_7.1 4) = (σ.1 4) from by (first | assumption | omega | (simp only [st_s] <;> omega) | fail)) (show τ_7.2.1 10 = σ.2.1 10 from by (first | rfl | assumption | fail)) (show τ_7.2.1 6 = σ.2.1 6 from by (first | rfl | assumption | fail)) (show ∀ s : Int, 0 ≤ s → s < (σ.1 5) → 0 ≤ (st (τ_7.2.1 9) x16 (-1)) s → (st (τ_7.2.1 9) x16 (-1)) s = σ.2.1 9 s ∧ (σ.2.1 17 0 ≤ σ.2.1 9 s → (u1_7 + 1) ≤ σ.2.1 9 s) from by (first | (intro s s0 s1 s2; exact ⟨rfl, fun z => by omega⟩) | (intro s s0 s1 s2; have q9 := i7_6 s s0 s1 s2; obtain ⟨a, b⟩ := q9; refine ⟨a, fun z => ?_⟩; have c := b z; have d := ffx s s0 s1 (by omega); rcases (by omega : σ.2.1 9 s = u1_7 ∨ u1_7 + 1 ≤ σ.2.1 9 s) with y | y; (exfalso; rw [y] at d; first | (rw [← G13] at d; omega) | (rw [← G14, ← G15, ← q8_1] at d; rw [← a, ← d.2.2] at y; omega)); exact y) | (intro s s0 s1 s2; by_cases y : s = x16; (rw [y, st_s] at s2; omega); (rw [st_n _ _ y] at s2 ⊢; have q9 := i7_6 s s0 s1 s2; obtain ⟨a, b⟩ := q9; refine ⟨a, fun z => ?_⟩; have c := b z; have d := ffx s s0 s1 (by omega); rcases (by omega : σ.2.1 9 s = u1_7 ∨ u1_7 + 1 ≤ σ.2.1 9 s) with w | w; (exfalso; rw [w, ← G14, ← G15, ← q15_1] at d; exact y d.2.2.symm); exact w)) | fail))
  intro x1 r_x1 e_x1
  have b_x1 : 0 ≤ x1 ∧ x1 ≤ 1500 := by rw [e_x1]; exact hT.2 17 _
  rw [G17] at e_x1
  exact l_7 ((1501 - x1 : Int).toNat + 1) _ _ (show (1501 - x1 : Int) < (((1501 - x1 : Int).toNat + 1 : Nat) : Int) from by ((first | assumption | omega | (simp only [st_s] <;> omega) | fail))) hT (show σ.1 13 = σ.1 13 from by first | exact W13 | omega) (show σ.1 14 = σ.1 14 from by first | exact W14 | omega) (show σ.1 15 = σ.1 15 from by first | exact W15 | omega) G2 G3 G5 G11 G13 G14 G15 G16 G17 G27 G28 G29 G30 G31 G32 G33 G34 G35 G36 G37 (show σ.2.1 17 0 ≤ x1 from by (first | assumption | omega | (simp only [st_s] <;> omega) | fail)) (show x1 ≤ 1500 from by (first | assumption | omega | (simp only [st_s] <;> omega) | fail)) (show (σ.1 7) = (σ.1 7) ∧ (σ.1 5) = (σ.1 5) ∧ (σ.1 3) = (σ.1 3) ∧ (σ.1 4) = (σ.1 4) from by (first | assumption | omega | (simp only [st_s] <;> omega) | fail)) (show σ.2.1 10 = σ.2.1 10 from by (first | rfl | assumption | fail)) (show σ.2.1 6 = σ.2.1 6 from by (first | rfl | assumption | fail)) (show ∀ s : Int, 0 ≤ s → s < (σ.1 5) → 0 ≤ σ.2.1 9 s → σ.2.1 9 s = σ.2.1 9 s ∧ (σ.2.1 17 0 ≤ σ.2.1 9 s → x1 ≤ σ.2.1 9 s) from by (first | (intro s s0 s1 s2; exact ⟨rfl, fun z => by omega⟩) | (intro s s0 s1 s2; have q9 := i7_6 s s0 s1 s2; obtain ⟨a, b⟩ := q9; refine ⟨a, fun z => ?_⟩; have c := b z; have d := ffx s s0 s1 (by omega); rcases (by omega : σ.2.1 9 s = u1_7 ∨ u1_7 + 1 ≤ σ.2.1 9 s) with y | y; (exfalso; rw [y] at d; first | (rw [← G13] at d; omega) | (rw [← G14, ← G15, ← q8_1] at d; rw [← a, ← d.2.2] at y; omega)); exact y) | (intro s s0 s1 s2; by_cases y : s = x16; (rw [y, st_s] at s2; omega); (rw [st_n _ _ y] at s2 ⊢; have q9 := i7_6 s s0 s1 s2; obtain ⟨a, b⟩ := q9; refine ⟨a, fun z => ?_⟩; have c := b z; have d := ffx s s0 s1 (by omega); rcases (by omega : σ.2.1 9 s = u1_7 ∨ u1_7 + 1 ≤ σ.2.1 9 s) with w | w; (exfalso; rw [w, ← G14, ← G15, ← q15_1] at d; exact y d.2.2.symm); exact w)) | fail))
set_option maxHeartbeats 1000000 in
theorem K_X7_begin_q13 {σ : S0} (hT : c_T σ) (p1 : J_mk (σ.1 11) (σ.1 8) (σ.1 9) (σ.1 10) (σ.2.1 25)) : W_X7_begin_q13 σ (fun (τ : S0) => (c_T τ) ∧ (τ.2.1 17 0 = (σ.1 7)) ∧ (τ.2.1 17 1 = (σ.1 5)) ∧ (τ.2.1 17 2 = (σ.1 3)) ∧ (τ.2.1 17 3 = (σ.1 4)) ∧ (τ.2.1 17 4 = (σ.1 6)) ∧ (τ.2.1 38 0 = (σ.1 13)) ∧ (τ.2.1 38 1 = (σ.1 14)) ∧ (τ.2.1 38 2 = (σ.1 15)) ∧ (τ.2.1 38 3 = (σ.1 16)) ∧ (τ.2.1 25 0 = (σ.1 8)) ∧ (τ.2.1 25 1 = (σ.1 9)) ∧ (τ.2.1 25 2 = (σ.1 10)) ∧ ((τ.1 11) = 0) ∧ (J_mk (τ.1 11) (τ.1 8) (τ.1 9) (τ.1 10) (τ.2.1 25)) ∧ ((τ.1 35) = 0) ∧ ((τ.1 34) = 0) ∧ (¬ τ.1 66 = 0)) := by
  have v3 : 0 ≤ σ.1 3 ∧ σ.1 3 ≤ 2500 := hT.1 3
  have v4 : 0 ≤ σ.1 4 ∧ σ.1 4 ≤ 100 := hT.1 4
  have v5 : 0 ≤ σ.1 5 ∧ σ.1 5 ≤ 1000 := hT.1 5
  have v6 : 0 ≤ σ.1 6 ∧ σ.1 6 ≤ 30000 := hT.1 6
  have v7 : 0 ≤ σ.1 7 ∧ σ.1 7 ≤ 1500 := hT.1 7
  have v8 : 0 ≤ σ.1 8 ∧ σ.1 8 ≤ 1000 := hT.1 8
  have v9 : 0 ≤ σ.1 9 ∧ σ.1 9 ≤ 1500 := hT.1 9
  have v10 : 0 ≤ σ.1 10 ∧ σ.1 10 ≤ 1000 := hT.1 10
  have v11 : 0 ≤ σ.1 11 ∧ σ.1 11 ≤ 50 := hT.1 11
  have v13 : 0 ≤ σ.1 13 ∧ σ.1 13 ≤ 90000 := hT.1 13
  have v14 : 0 ≤ σ.1 14 ∧ σ.1 14 ≤ 20000 := hT.1 14
  have v15 : 0 ≤ σ.1 15 ∧ σ.1 15 ≤ 20000 := hT.1 15
  have v16 : 0 ≤ σ.1 16 ∧ σ.1 16 ≤ 20000 := hT.1 16
  have v34 : 0 ≤ σ.1 34 ∧ σ.1 34 ≤ 1 := hT.1 34
  have v35 : 0 ≤ σ.1 35 ∧ σ.1 35 ≤ 7 := hT.1 35
  have v66 : 0 ≤ σ.1 66 ∧ σ.1 66 ≤ 1 := hT.1 66
  have W3 : σ.1 3 = σ.1 3 := rfl
  have W4 : σ.1 4 = σ.1 4 := rfl
  have W5 : σ.1 5 = σ.1 5 := rfl
  have W6 : σ.1 6 = σ.1 6 := rfl
  have W7 : σ.1 7 = σ.1 7 := rfl
  have W8 : σ.1 8 = σ.1 8 := rfl
  have W9 : σ.1 9 = σ.1 9 := rfl
  have W10 : σ.1 10 = σ.1 10 := rfl
  have W13 : σ.1 13 = σ.1 13 := rfl
  have W14 : σ.1 14 = σ.1 14 := rfl
  have W15 : σ.1 15 = σ.1 15 := rfl
  have W16 : σ.1 16 = σ.1 16 := rfl
  have MK : J_mk (σ.1 11) (σ.1 8) (σ.1 9) (σ.1 10) (σ.2.1 25) := p1
  have MK_0 := MK
  unfold W_X7_begin_q13
  replace hT := cT_v (i := 66) hT (show (0 : Int) ≤ 1 ∧ 1 ≤ 1 from by (first | assumption | omega | (simp only [st_s] <;> omega) | fail))
  replace hT := cT_v (i := 34) hT (show (0 : Int) ≤ 0 ∧ 0 ≤ 1 from by (first | assumption | omega | (simp only [st_s] <;> omega) | fail))
  replace hT := cT_v (i := 35) hT (show (0 : Int) ≤ 0 ∧ 0 ≤ 7 from by (first | assumption | omega | (simp only [st_s] <;> omega) | fail))
  refine ⟨_, K_X3_keep hT, ?_⟩
  intro τ3 hn_τ3 hf_τ3 hq
  obtain ⟨hT, q1_1, q1_2, q1_3, q1_4, q1_5⟩ := hq
  replace q1_1 : τ3.2.1 17 0 = (σ.1 7) := q1_1
  replace q1_2 : τ3.2.1 17 1 = (σ.1 5) := q1_2
  replace q1_3 : τ3.2.1 17 2 = (σ.1 3) := q1_3
  replace q1_4 : τ3.2.1 17 3 = (σ.1 4) := q1_4
  replace q1_5 : τ3.2.1 17 4 = (σ.1 6) := q1_5
  have w3_τ3 : τ3.1 3 = σ.1 3 := hf_τ3.1 3 (by decide)
  have w4_τ3 : τ3.1 4 = σ.1 4 := hf_τ3.1 4 (by decide)
  have w5_τ3 : τ3.1 5 = σ.1 5 := hf_τ3.1 5 (by decide)
  have w6_τ3 : τ3.1 6 = σ.1 6 := hf_τ3.1 6 (by decide)
  have w7_τ3 : τ3.1 7 = σ.1 7 := hf_τ3.1 7 (by decide)
  have w8_τ3 : τ3.1 8 = σ.1 8 := hf_τ3.1 8 (by decide)
  have w9_τ3 : τ3.1 9 = σ.1 9 := hf_τ3.1 9 (by decide)
  have w10_τ3 : τ3.1 10 = σ.1 10 := hf_τ3.1 10 (by decide)
  have w11_τ3 : τ3.1 11 = σ.1 11 := hf_τ3.1 11 (by decide)
  have w13_τ3 : τ3.1 13 = σ.1 13 := hf_τ3.1 13 (by decide)
  have w14_τ3 : τ3.1 14 = σ.1 14 := hf_τ3.1 14 (by decide)
  have w15_τ3 : τ3.1 15 = σ.1 15 := hf_τ3.1 15 (by decide)
  have w16_τ3 : τ3.1 16 = σ.1 16 := hf_τ3.1 16 (by decide)
  have w34_τ3 : τ3.1 34 = 0 := hf_τ3.1 34 (by decide)
  have w35_τ3 : τ3.1 35 = 0 := hf_τ3.1 35 (by decide)
  have w66_τ3 : τ3.1 66 = 1 := hf_τ3.1 66 (by decide)
  have g25_τ3 : τ3.2.1 25 = σ.2.1 25 := hf_τ3.2.1 25 (by decide)
  have g38_τ3 : τ3.2.1 38 = σ.2.1 38 := hf_τ3.2.1 38 (by decide)
  have W3 : τ3.1 3 = σ.1 3 := by first | exact w3_τ3.trans W3 | omega
  have W4 : τ3.1 4 = σ.1 4 := by first | exact w4_τ3.trans W4 | omega
  have W5 : τ3.1 5 = σ.1 5 := by first | exact w5_τ3.trans W5 | omega
  have W6 : τ3.1 6 = σ.1 6 := by first | exact w6_τ3.trans W6 | omega
  have W7 : τ3.1 7 = σ.1 7 := by first | exact w7_τ3.trans W7 | omega
  have W8 : τ3.1 8 = σ.1 8 := by first | exact w8_τ3.trans W8 | omega
  have W9 : τ3.1 9 = σ.1 9 := by first | exact w9_τ3.trans W9 | omega
  have W10 : τ3.1 10 = σ.1 10 := by first | exact w10_τ3.trans W10 | omega
  have W13 : τ3.1 13 = σ.1 13 := by first | exact w13_τ3.trans W13 | omega
  have W14 : τ3.1 14 = σ.1 14 := by first | exact w14_τ3.trans W14 | omega
  have W15 : τ3.1 15 = σ.1 15 := by first | exact w15_τ3.trans W15 | omega
  have W16 : τ3.1 16 = σ.1 16 := by first | exact w16_τ3.trans W16 | omega
  have MK : J_mk (τ3.1 11) (τ3.1 8) (τ3.1 9) (τ3.1 10) (τ3.2.1 25) := by rw [show (J_mk (τ3.1 11) (τ3.1 8) (τ3.1 9) (τ3.1 10) (τ3.2.1 25)) = (J_mk (σ.1 11) (σ.1 8) (σ.1 9) (σ.1 10) (σ.2.1 25)) from by rw [w8_τ3, w9_τ3, w10_τ3, w11_τ3, g25_τ3]]; exact MK
  have v3 : 0 ≤ τ3.1 3 ∧ τ3.1 3 ≤ 2500 := hT.1 3
  have v4 : 0 ≤ τ3.1 4 ∧ τ3.1 4 ≤ 100 := hT.1 4
  have v5 : 0 ≤ τ3.1 5 ∧ τ3.1 5 ≤ 1000 := hT.1 5
  have v6 : 0 ≤ τ3.1 6 ∧ τ3.1 6 ≤ 30000 := hT.1 6
  have v7 : 0 ≤ τ3.1 7 ∧ τ3.1 7 ≤ 1500 := hT.1 7
  have v8 : 0 ≤ τ3.1 8 ∧ τ3.1 8 ≤ 1000 := hT.1 8
  have v9 : 0 ≤ τ3.1 9 ∧ τ3.1 9 ≤ 1500 := hT.1 9
  have v10 : 0 ≤ τ3.1 10 ∧ τ3.1 10 ≤ 1000 := hT.1 10
  have v11 : 0 ≤ τ3.1 11 ∧ τ3.1 11 ≤ 50 := hT.1 11
  have v13 : 0 ≤ τ3.1 13 ∧ τ3.1 13 ≤ 90000 := hT.1 13
  have v14 : 0 ≤ τ3.1 14 ∧ τ3.1 14 ≤ 20000 := hT.1 14
  have v15 : 0 ≤ τ3.1 15 ∧ τ3.1 15 ≤ 20000 := hT.1 15
  have v16 : 0 ≤ τ3.1 16 ∧ τ3.1 16 ≤ 20000 := hT.1 16
  have v34 : 0 ≤ τ3.1 34 ∧ τ3.1 34 ≤ 1 := hT.1 34
  have v35 : 0 ≤ τ3.1 35 ∧ τ3.1 35 ≤ 7 := hT.1 35
  have v66 : 0 ≤ τ3.1 66 ∧ τ3.1 66 ≤ 1 := hT.1 66
  refine ⟨_, K2_X0_keep hT, ?_⟩
  intro τ6 hn_τ6 hf_τ6 hq
  obtain ⟨hT, q4_1, q4_2, q4_3, q4_4⟩ := hq
  replace q4_1 : τ6.2.1 38 0 = (τ3.1 13) := q4_1
  replace q4_2 : τ6.2.1 38 1 = (τ3.1 14) := q4_2
  replace q4_3 : τ6.2.1 38 2 = (τ3.1 15) := q4_3
  replace q4_4 : τ6.2.1 38 3 = (τ3.1 16) := q4_4
  have w3_τ6 : τ6.1 3 = τ3.1 3 := hf_τ6.1 3 (by decide)
  have w4_τ6 : τ6.1 4 = τ3.1 4 := hf_τ6.1 4 (by decide)
  have w5_τ6 : τ6.1 5 = τ3.1 5 := hf_τ6.1 5 (by decide)
  have w6_τ6 : τ6.1 6 = τ3.1 6 := hf_τ6.1 6 (by decide)
  have w7_τ6 : τ6.1 7 = τ3.1 7 := hf_τ6.1 7 (by decide)
  have w8_τ6 : τ6.1 8 = τ3.1 8 := hf_τ6.1 8 (by decide)
  have w9_τ6 : τ6.1 9 = τ3.1 9 := hf_τ6.1 9 (by decide)
  have w10_τ6 : τ6.1 10 = τ3.1 10 := hf_τ6.1 10 (by decide)
  have w11_τ6 : τ6.1 11 = τ3.1 11 := hf_τ6.1 11 (by decide)
  have w13_τ6 : τ6.1 13 = τ3.1 13 := hf_τ6.1 13 (by decide)
  have w14_τ6 : τ6.1 14 = τ3.1 14 := hf_τ6.1 14 (by decide)
  have w15_τ6 : τ6.1 15 = τ3.1 15 := hf_τ6.1 15 (by decide)
  have w16_τ6 : τ6.1 16 = τ3.1 16 := hf_τ6.1 16 (by decide)
  have w34_τ6 : τ6.1 34 = τ3.1 34 := hf_τ6.1 34 (by decide)
  have w35_τ6 : τ6.1 35 = τ3.1 35 := hf_τ6.1 35 (by decide)
  have w66_τ6 : τ6.1 66 = τ3.1 66 := hf_τ6.1 66 (by decide)
  have g17_τ6 : τ6.2.1 17 = τ3.2.1 17 := hf_τ6.2.1 17 (by decide)
  have g25_τ6 : τ6.2.1 25 = τ3.2.1 25 := hf_τ6.2.1 25 (by decide)
  have W3 : τ6.1 3 = σ.1 3 := by first | exact w3_τ6.trans W3 | omega
  have W4 : τ6.1 4 = σ.1 4 := by first | exact w4_τ6.trans W4 | omega
  have W5 : τ6.1 5 = σ.1 5 := by first | exact w5_τ6.trans W5 | omega
  have W6 : τ6.1 6 = σ.1 6 := by first | exact w6_τ6.trans W6 | omega
  have W7 : τ6.1 7 = σ.1 7 := by first | exact w7_τ6.trans W7 | omega
  have W8 : τ6.1 8 = σ.1 8 := by first | exact w8_τ6.trans W8 | omega
  have W9 : τ6.1 9 = σ.1 9 := by first | exact w9_τ6.trans W9 | omega
  have W10 : τ6.1 10 = σ.1 10 := by first | exact w10_τ6.trans W10 | omega
  have W13 : τ6.1 13 = σ.1 13 := by first | exact w13_τ6.trans W13 | omega
  have W14 : τ6.1 14 = σ.1 14 := by first | exact w14_τ6.trans W14 | omega
  have W15 : τ6.1 15 = σ.1 15 := by first | exact w15_τ6.trans W15 | omega
  have W16 : τ6.1 16 = σ.1 16 := by first | exact w16_τ6.trans W16 | omega
  have MK : J_mk (τ6.1 11) (τ6.1 8) (τ6.1 9) (τ6.1 10) (τ6.2.1 25) := by rw [show (J_mk (τ6.1 11) (τ6.1 8) (τ6.1 9) (τ6.1 10) (τ6.2.1 25)) = (J_mk (τ3.1 11) (τ3.1 8) (τ3.1 9) (τ3.1 10) (τ3.2.1 25)) from by rw [w8_τ6, w9_τ6, w10_τ6, w11_τ6, g25_τ6]]; exact MK
  have v3 : 0 ≤ τ6.1 3 ∧ τ6.1 3 ≤ 2500 := hT.1 3
  have v4 : 0 ≤ τ6.1 4 ∧ τ6.1 4 ≤ 100 := hT.1 4
  have v5 : 0 ≤ τ6.1 5 ∧ τ6.1 5 ≤ 1000 := hT.1 5
  have v6 : 0 ≤ τ6.1 6 ∧ τ6.1 6 ≤ 30000 := hT.1 6
  have v7 : 0 ≤ τ6.1 7 ∧ τ6.1 7 ≤ 1500 := hT.1 7
  have v8 : 0 ≤ τ6.1 8 ∧ τ6.1 8 ≤ 1000 := hT.1 8
  have v9 : 0 ≤ τ6.1 9 ∧ τ6.1 9 ≤ 1500 := hT.1 9
  have v10 : 0 ≤ τ6.1 10 ∧ τ6.1 10 ≤ 1000 := hT.1 10
  have v11 : 0 ≤ τ6.1 11 ∧ τ6.1 11 ≤ 50 := hT.1 11
  have v13 : 0 ≤ τ6.1 13 ∧ τ6.1 13 ≤ 90000 := hT.1 13
  have v14 : 0 ≤ τ6.1 14 ∧ τ6.1 14 ≤ 20000 := hT.1 14
  have v15 : 0 ≤ τ6.1 15 ∧ τ6.1 15 ≤ 20000 := hT.1 15
  have v16 : 0 ≤ τ6.1 16 ∧ τ6.1 16 ≤ 20000 := hT.1 16
  have v34 : 0 ≤ τ6.1 34 ∧ τ6.1 34 ≤ 1 := hT.1 34
  have v35 : 0 ≤ τ6.1 35 ∧ τ6.1 35 ≤ 7 := hT.1 35
  have v66 : 0 ≤ τ6.1 66 ∧ τ6.1 66 ≤ 1 := hT.1 66
  refine ⟨_, K2_X9_keep hT, ?_⟩
  intro τ9 hn_τ9 hf_τ9 hq
  obtain ⟨hT, q7_1, q7_2, q7_3, q7_4, q7_5⟩ := hq
  replace q7_1 : (τ9.1 11) = 0 := q7_1
  replace q7_2 : J_mk (τ9.1 11) (τ9.1 8) (τ9.1 9) (τ9.1 10) (τ9.2.1 25) := q7_2
  replace q7_3 : τ9.2.1 25 0 = (τ6.1 8) := q7_3
  replace q7_4 : τ9.2.1 25 1 = (τ6.1 9) := q7_4
  replace q7_5 : τ9.2.1 25 2 = (τ6.1 10) := q7_5
  have w3_τ9 : τ9.1 3 = τ6.1 3 := hf_τ9.1 3 (by decide)
  have w4_τ9 : τ9.1 4 = τ6.1 4 := hf_τ9.1 4 (by decide)
  have w5_τ9 : τ9.1 5 = τ6.1 5 := hf_τ9.1 5 (by decide)
  have w6_τ9 : τ9.1 6 = τ6.1 6 := hf_τ9.1 6 (by decide)
  have w7_τ9 : τ9.1 7 = τ6.1 7 := hf_τ9.1 7 (by decide)
  have w8_τ9 : τ9.1 8 = τ6.1 8 := hf_τ9.1 8 (by decide)
  have w9_τ9 : τ9.1 9 = τ6.1 9 := hf_τ9.1 9 (by decide)
  have w10_τ9 : τ9.1 10 = τ6.1 10 := hf_τ9.1 10 (by decide)
  have w13_τ9 : τ9.1 13 = τ6.1 13 := hf_τ9.1 13 (by decide)
  have w14_τ9 : τ9.1 14 = τ6.1 14 := hf_τ9.1 14 (by decide)
  have w15_τ9 : τ9.1 15 = τ6.1 15 := hf_τ9.1 15 (by decide)
  have w16_τ9 : τ9.1 16 = τ6.1 16 := hf_τ9.1 16 (by decide)
  have w34_τ9 : τ9.1 34 = τ6.1 34 := hf_τ9.1 34 (by decide)
  have w35_τ9 : τ9.1 35 = τ6.1 35 := hf_τ9.1 35 (by decide)
  have w66_τ9 : τ9.1 66 = τ6.1 66 := hf_τ9.1 66 (by decide)
  have g17_τ9 : τ9.2.1 17 = τ6.2.1 17 := hf_τ9.2.1 17 (by decide)
  have g38_τ9 : τ9.2.1 38 = τ6.2.1 38 := hf_τ9.2.1 38 (by decide)
  have W3 : τ9.1 3 = σ.1 3 := by first | exact w3_τ9.trans W3 | omega
  have W4 : τ9.1 4 = σ.1 4 := by first | exact w4_τ9.trans W4 | omega
  have W5 : τ9.1 5 = σ.1 5 := by first | exact w5_τ9.trans W5 | omega
  have W6 : τ9.1 6 = σ.1 6 := by first | exact w6_τ9.trans W6 | omega
  have W7 : τ9.1 7 = σ.1 7 := by first | exact w7_τ9.trans W7 | omega
  have W8 : τ9.1 8 = σ.1 8 := by first | exact w8_τ9.trans W8 | omega
  have W9 : τ9.1 9 = σ.1 9 := by first | exact w9_τ9.trans W9 | omega
  have W10 : τ9.1 10 = σ.1 10 := by first | exact w10_τ9.trans W10 | omega
  have W13 : τ9.1 13 = σ.1 13 := by first | exact w13_τ9.trans W13 | omega
  have W14 : τ9.1 14 = σ.1 14 := by first | exact w14_τ9.trans W14 | omega
  have W15 : τ9.1 15 = σ.1 15 := by first | exact w15_τ9.trans W15 | omega
  have W16 : τ9.1 16 = σ.1 16 := by first | exact w16_τ9.trans W16 | omega
  have MK : J_mk (τ9.1 11) (τ9.1 8) (τ9.1 9) (τ9.1 10) (τ9.2.1 25) := q7_2
  have v3 : 0 ≤ τ9.1 3 ∧ τ9.1 3 ≤ 2500 := hT.1 3
  have v4 : 0 ≤ τ9.1 4 ∧ τ9.1 4 ≤ 100 := hT.1 4
  have v5 : 0 ≤ τ9.1 5 ∧ τ9.1 5 ≤ 1000 := hT.1 5
  have v6 : 0 ≤ τ9.1 6 ∧ τ9.1 6 ≤ 30000 := hT.1 6
  have v7 : 0 ≤ τ9.1 7 ∧ τ9.1 7 ≤ 1500 := hT.1 7
  have v8 : 0 ≤ τ9.1 8 ∧ τ9.1 8 ≤ 1000 := hT.1 8
  have v9 : 0 ≤ τ9.1 9 ∧ τ9.1 9 ≤ 1500 := hT.1 9
  have v10 : 0 ≤ τ9.1 10 ∧ τ9.1 10 ≤ 1000 := hT.1 10
  have v11 : 0 ≤ τ9.1 11 ∧ τ9.1 11 ≤ 50 := hT.1 11
  have v13 : 0 ≤ τ9.1 13 ∧ τ9.1 13 ≤ 90000 := hT.1 13
  have v14 : 0 ≤ τ9.1 14 ∧ τ9.1 14 ≤ 20000 := hT.1 14
  have v15 : 0 ≤ τ9.1 15 ∧ τ9.1 15 ≤ 20000 := hT.1 15
  have v16 : 0 ≤ τ9.1 16 ∧ τ9.1 16 ≤ 20000 := hT.1 16
  have v34 : 0 ≤ τ9.1 34 ∧ τ9.1 34 ≤ 1 := hT.1 34
  have v35 : 0 ≤ τ9.1 35 ∧ τ9.1 35 ≤ 7 := hT.1 35
  have v66 : 0 ≤ τ9.1 66 ∧ τ9.1 66 ≤ 1 := hT.1 66
  exact ⟨hT, (show τ9.2.1 17 0 = (σ.1 7) from by (first | (rw [g17_τ9, g17_τ6]; exact q1_1) | (have w := q1_1; rw [g17_τ9, g17_τ6]; omega) | fail)), (show τ9.2.1 17 1 = (σ.1 5) from by (first | (rw [g17_τ9, g17_τ6]; exact q1_2) | (have w := q1_2; rw [g17_τ9, g17_τ6]; omega) | fail)), (show τ9.2.1 17 2 = (σ.1 3) from by (first | (rw [g17_τ9, g17_τ6]; exact q1_3) | (have w := q1_3; rw [g17_τ9, g17_τ6]; omega) | fail)), (show τ9.2.1 17 3 = (σ.1 4) from by (first | (rw [g17_τ9, g17_τ6]; exact q1_4) | (have w := q1_4; rw [g17_τ9, g17_τ6]; omega) | fail)), (show τ9.2.1 17 4 = (σ.1 6) from by (first | (rw [g17_τ9, g17_τ6]; exact q1_5) | (have w := q1_5; rw [g17_τ9, g17_τ6]; omega) | fail)), (show τ9.2.1 38 0 = (σ.1 13) from by (first | (rw [g38_τ9]; exact q4_1) | (have w := q4_1; rw [g38_τ9]; omega) | fail)), (show τ9.2.1 38 1 = (σ.1 14) from by (first | (rw [g38_τ9]; exact q4_2) | (have w := q4_2; rw [g38_τ9]; omega) | fail)), (show τ9.2.1 38 2 = (σ.1 15) from by (first | (rw [g38_τ9]; exact q4_3) | (have w := q4_3; rw [g38_τ9]; omega) | fail)), (show τ9.2.1 38 3 = (σ.1 16) from by (first | (rw [g38_τ9]; exact q4_4) | (have w := q4_4; rw [g38_τ9]; omega) | fail)), (show τ9.2.1 25 0 = (σ.1 8) from by (have w := q7_3; omega)), (show τ9.2.1 25 1 = (σ.1 9) from by (have w := q7_4; omega)), (show τ9.2.1 25 2 = (σ.1 10) from by (have w := q7_5; omega)), (show (τ9.1 11) = 0 from by (first | assumption | omega | (simp only [st_s] <;> omega) | fail)), (show J_mk (τ9.1 11) (τ9.1 8) (τ9.1 9) (τ9.1 10) (τ9.2.1 25) from MK), (show (τ9.1 35) = 0 from by (first | assumption | omega | (simp only [st_s] <;> omega) | fail)), (show (τ9.1 34) = 0 from by (first | assumption | omega | (simp only [st_s] <;> omega) | fail)), (show ¬ τ9.1 66 = 0 from by (first | assumption | omega | (simp only [st_s] <;> omega) | fail))⟩
