-- pure: what is printed of statements and proofs
theorem j_bm {x : Int} (h : -9223372036854775808 ≤ x) (h2 : x < 9223372036854775808) : x.bmod (2 ^ 64) = x := Int.bmod_eq_of_le (by omega) (by omega)
theorem j_r5 (u : Int64) : -4 ≤ (u - u / 5 * 5).toInt ∧ (u - u / 5 * 5).toInt ≤ 4 := by
  have l := u.toInt_lt
  have m := u.le_toInt
  have f : (5 : Int64).toInt = 5 := rfl
  have a := Int.mul_tdiv_add_tmod u.toInt 5
  have b := Int.tmod_lt_of_pos u.toInt (b := 5) (by omega)
  have c := Int.lt_tmod_of_pos u.toInt (b := 5) (by omega)
  have q : -9223372036854775808 ≤ u.toInt.tdiv 5 * 5 ∧ u.toInt.tdiv 5 * 5 < 9223372036854775808 := by
    rcases Int.le_total 0 u.toInt with h | h
    · have := Int.tmod_nonneg (b := 5) h; omega
    · have h2 : 0 ≤ -u.toInt := by omega
      have := Int.tmod_nonneg 5 h2
      rw [Int.neg_tmod] at this
      omega
  have d : (u / 5).toInt = u.toInt.tdiv 5 := by rw [Int64.toInt_div, f]; exact j_bm (by omega) (by omega)
  have e : (u / 5 * 5).toInt = u.toInt.tdiv 5 * 5 := by rw [Int64.toInt_mul, d, f]; exact j_bm q.1 q.2
  have g : (u - u / 5 * 5).toInt = u.toInt - u.toInt.tdiv 5 * 5 := by rw [Int64.toInt_sub, e]; exact j_bm (by omega) (by omega)
  rw [g]
  omega
theorem J_rw_of {n us hu pr ru : Int} {kd a tx fl rk fa fs hy pa ps pq ra rc rs ca ch : Int → Int} (h : J_all n us hu pr ru kd a tx fl rk fa fs hy pa ps pq ra rc rs ca ch) (r : ru ≤ 20000) : J_rw n kd ra rc := fun i i0 i1 k => by
  have := ((h.1 i i0 i1).2.2 k).1
  omega
theorem J_fr_of {n us hu pr ru : Int} {kd a tx fl rk fa fs hy pa ps pq ra rc rs ca ch : Int → Int} (h : J_all n us hu pr ru kd a tx fl rk fa fs hy pa ps pq ra rc rs ca ch) (r : hu ≤ 90000) (q : pr ≤ 20000) : J_fr n kd fa fs pa ps := fun i i0 i1 k => by
  have := ((h.1 i i0 i1).2.1 k).1
  omega
theorem J_tr_le {tc rt b n : Int} {told same ca : Int → Int} (h : J_tr tc rt b told same ca) (n0 : 0 ≤ n) (n1 : n < tc) (r : 0 ≤ rt) : told n ≤ rt := by
  rcases h n n0 n1 with q | ⟨q, _⟩
  · exact q.2
  · omega
set_option maxHeartbeats 1000000 in
theorem K2_X4_statementOf {n1 : Int} {σ : S0} (hT : c_T σ) (p1 : 0 ≤ n1) (p2 : n1 < 20001) (p3 : σ.2.1 62 n1 ≤ (σ.1 15) - 1 - (σ.1 44)) : W_X4_statementOf n1 σ (fun (x : Int) => (-1 ≤ x ∧ x ≤ 1499) ∧ (0 ≤ σ.2.1 62 n1 → 0 ≤ x)) := by
  have A35 : ∀ j, 0 ≤ σ.2.1 35 j ∧ σ.2.1 35 j ≤ 1499 := fun j => hT.2 35 j
  have A62 : ∀ j, (-20000) ≤ σ.2.1 62 j ∧ σ.2.1 62 j ≤ 19999 := fun j => hT.2 62 j
  have v15 : 0 ≤ σ.1 15 ∧ σ.1 15 ≤ 20000 := hT.1 15
  have v44 : 0 ≤ σ.1 44 ∧ σ.1 44 ≤ 20000 := hT.1 44
  unfold W_X4_statementOf
  refine ⟨(show 0 ≤ n1 ∧ n1 < 20001 from by (first | omega | (simp only [st_s] <;> omega) | assumption | omega | fail)), ?_⟩
  intro x2 r_x2 e_x2
  have b_x2 : (-20000) ≤ x2 ∧ x2 ≤ 19999 := by rw [e_x2]; exact hT.2 62 _
  refine ⟨fun c3 => ?_, fun c3 => ?_⟩
  ·
    intro x4 r_x4 e_x4
    have b_x4 : (-20000) ≤ x4 ∧ x4 ≤ 19999 := by rw [e_x4]; exact hT.2 62 _
    refine ⟨(show 0 ≤ (σ.1 44 + x4) ∧ (σ.1 44 + x4) < 20000 from by (first | omega | (simp only [st_s] <;> omega) | assumption | omega | fail)), ?_⟩
    intro x6 r_x6 e_x6
    have b_x6 : 0 ≤ x6 ∧ x6 ≤ 1499 := by rw [e_x6]; exact hT.2 35 _
    exact ⟨(show -1 ≤ x6 ∧ x6 ≤ 1499 from by (first | omega | (simp only [st_s] <;> omega) | assumption | omega | fail)), (show 0 ≤ σ.2.1 62 n1 → 0 ≤ x6 from by (first | omega | (simp only [st_s] <;> omega) | assumption | omega | fail))⟩
  ·
    exact ⟨(show -1 ≤ (-1) ∧ (-1) ≤ 1499 from by (first | omega | (simp only [st_s] <;> omega) | assumption | omega | fail)), (show 0 ≤ σ.2.1 62 n1 → 0 ≤ (-1) from by (first | omega | (simp only [st_s] <;> omega) | assumption | omega | fail))⟩
set_option maxHeartbeats 1000000 in
theorem K_X5_putNumber {n1 : Int} {σ : S0} (hT : c_T σ) (p1 : 0 ≤ n1) (p2 : n1 ≤ 30000) : W_X5_putNumber n1 σ (fun (τ : S0) => (c_T τ)) := by
  have v63 : 0 ≤ σ.1 63 ∧ σ.1 63 ≤ 24000 := hT.1 63
  intro P13 P56 h13 h56
  have l_56 : ∀ (m_56 : Nat) (u2_56 : Int64) (u4_56 : Int) (u5_56 : Int) (τ_56 : S0), u4_56 - u5_56 + 22 < (m_56 : Int) → (c_T τ_56) → (0 ≤ u4_56) → (u4_56 ≤ 20) → (0 ≤ u5_56) → (u5_56 ≤ 21) → P56 n1 u2_56 u4_56 u5_56 τ_56 := by
    intro m_56
    induction m_56 with
    | zero =>
      intro u2_56 u4_56 u5_56 τ_56 hm hT i56_1 i56_2 i56_3 i56_4
      have v63 : 0 ≤ τ_56.1 63 ∧ τ_56.1 63 ≤ 24000 := hT.1 63
      exfalso; (first | omega | (simp only [st_s] <;> omega) | assumption | omega | fail)
    | succ m_56 ih_56 =>
      intro u2_56 u4_56 u5_56 τ_56 hm_56 hT i56_1 i56_2 i56_3 i56_4
      have v63 : 0 ≤ τ_56.1 63 ∧ τ_56.1 63 ≤ 24000 := hT.1 63
      refine h56 n1 u2_56 u4_56 u5_56 τ_56 ?_
      refine ⟨fun c9 => ?_, fun c9 => ?_⟩
      ·
        refine ⟨(⟨by (first | omega | (simp only [st_s] <;> omega) | assumption | omega | fail), by (first | omega | (simp only [st_s] <;> omega) | assumption | omega | fail)⟩ : rg (n1 - 1)), ?_⟩
        intro x11 r_x11 h1_x11 h2_x11
        refine ⟨(⟨by (first | omega | (simp only [st_s] <;> omega) | assumption | omega | fail), by (first | omega | (simp only [st_s] <;> omega) | assumption | omega | fail)⟩ : rg (65 + x11)), ?_⟩
        refine ⟨_, K_X5_put hT, ?_⟩
        intro τ15 hn_τ15 hf_τ15 hq
        obtain ⟨hT, q13_1⟩ := hq
        replace q13_1 : 0 ≤ (τ15.1 63) := q13_1
        have v63 : 0 ≤ τ15.1 63 ∧ τ15.1 63 ≤ 24000 := hT.1 63
        exact hT
      ·
        intro x16 r_x16 h1_x16
        have r5 := j_r5 u2_56
        have x5 := h1_x16 (by unfold rg; omega)
        refine ⟨(⟨by (first | omega | (simp only [st_s] <;> omega) | assumption | omega | fail), by (first | omega | (simp only [st_s] <;> omega) | assumption | omega | fail)⟩ : rg (85 + x16)), ?_⟩
        refine ⟨_, K_X5_put hT, ?_⟩
        intro τ20 hn_τ20 hf_τ20 hq
        obtain ⟨hT, q18_1⟩ := hq
        replace q18_1 : 0 ≤ (τ20.1 63) := q18_1
        have v63 : 0 ≤ τ20.1 63 ∧ τ20.1 63 ≤ 24000 := hT.1 63
        refine ⟨(⟨by (first | omega | (simp only [st_s] <;> omega) | assumption | omega | fail), by (first | omega | (simp only [st_s] <;> omega) | assumption | omega | fail)⟩ : rg (u5_56 + 1)), ?_⟩
        exact ih_56 _ _ _ _ (show (u4_56 - (u5_56 + 1) + 22 : Int) < ((m_56 : Nat) : Int) from by ((first | omega | (simp only [st_s] <;> omega) | assumption | omega | fail))) hT (show 0 ≤ u4_56 from by (first | omega | (simp only [st_s] <;> omega) | assumption | omega | fail)) (show u4_56 ≤ 20 from by (first | omega | (simp only [st_s] <;> omega) | assumption | omega | fail)) (show 0 ≤ (u5_56 + 1) from by (first | omega | (simp only [st_s] <;> omega) | assumption | omega | fail)) (show (u5_56 + 1) ≤ 21 from by (first | omega | (simp only [st_s] <;> omega) | assumption | omega | fail))
  have l_13 : ∀ (m_13 : Nat) (u2_13 : Int64) (u4_13 : Int) (u5_13 : Int) (τ_13 : S0), 21 - u4_13 < (m_13 : Int) → (c_T τ_13) → (0 ≤ u4_13) → (u4_13 ≤ 20) → (-1 ≤ u5_13) → (u5_13 ≤ 2000) → P13 n1 u2_13 u4_13 u5_13 τ_13 := by
    intro m_13
    induction m_13 with
    | zero =>
      intro u2_13 u4_13 u5_13 τ_13 hm hT i13_1 i13_2 i13_3 i13_4
      have v63 : 0 ≤ τ_13.1 63 ∧ τ_13.1 63 ≤ 24000 := hT.1 63
      exfalso; (first | omega | (simp only [st_s] <;> omega) | assumption | omega | fail)
    | succ m_13 ih_13 =>
      intro u2_13 u4_13 u5_13 τ_13 hm_13 hT i13_1 i13_2 i13_3 i13_4
      have v63 : 0 ≤ τ_13.1 63 ∧ τ_13.1 63 ≤ 24000 := hT.1 63
      refine h13 n1 u2_13 u4_13 u5_13 τ_13 ?_
      refine ⟨fun c3 => ?_, fun c3 => ?_⟩
      ·
        exact l_56 ((u4_13 - 0 + 22 : Int).toNat + 1) _ _ _ _ (show (u4_13 - 0 + 22 : Int) < (((u4_13 - 0 + 22 : Int).toNat + 1 : Nat) : Int) from by ((first | omega | (simp only [st_s] <;> omega) | assumption | omega | fail))) hT (show 0 ≤ u4_13 from by (first | omega | (simp only [st_s] <;> omega) | assumption | omega | fail)) (show u4_13 ≤ 20 from by (first | omega | (simp only [st_s] <;> omega) | assumption | omega | fail)) (show 0 ≤ 0 from by (first | omega | (simp only [st_s] <;> omega) | assumption | omega | fail)) (show 0 ≤ 21 from by (first | omega | (simp only [st_s] <;> omega) | assumption | omega | fail))
      ·
        refine ⟨fun c4 => ?_, fun c4 => ?_⟩
        ·
          exact l_56 ((u4_13 - 0 + 22 : Int).toNat + 1) _ _ _ _ (show (u4_13 - 0 + 22 : Int) < (((u4_13 - 0 + 22 : Int).toNat + 1 : Nat) : Int) from by ((first | omega | (simp only [st_s] <;> omega) | assumption | omega | fail))) hT (show 0 ≤ u4_13 from by (first | omega | (simp only [st_s] <;> omega) | assumption | omega | fail)) (show u4_13 ≤ 20 from by (first | omega | (simp only [st_s] <;> omega) | assumption | omega | fail)) (show 0 ≤ 0 from by (first | omega | (simp only [st_s] <;> omega) | assumption | omega | fail)) (show 0 ≤ 21 from by (first | omega | (simp only [st_s] <;> omega) | assumption | omega | fail))
        ·
          refine ⟨(⟨by (first | omega | (simp only [st_s] <;> omega) | assumption | omega | fail), by (first | omega | (simp only [st_s] <;> omega) | assumption | omega | fail)⟩ : rg (u5_13 - 1)), ?_⟩
          intro x6 r_x6 h1_x6 h2_x6
          intro x7 r_x7 h1_x7 h2_x7
          refine ⟨(⟨by (first | omega | (simp only [st_s] <;> omega) | assumption | omega | fail), by (first | omega | (simp only [st_s] <;> omega) | assumption | omega | fail)⟩ : rg (u4_13 + 1)), ?_⟩
          exact ih_13 _ _ _ _ (show (21 - (u4_13 + 1) : Int) < ((m_13 : Nat) : Int) from by ((first | omega | (simp only [st_s] <;> omega) | assumption | omega | fail))) hT (show 0 ≤ (u4_13 + 1) from by (first | omega | (simp only [st_s] <;> omega) | assumption | omega | fail)) (show (u4_13 + 1) ≤ 20 from by (first | omega | (simp only [st_s] <;> omega) | assumption | omega | fail)) (show -1 ≤ x7 from by (first | omega | (simp only [st_s] <;> omega) | assumption | omega | fail)) (show x7 ≤ 2000 from by (first | omega | (simp only [st_s] <;> omega) | assumption | omega | fail))
  refine ⟨(⟨by (first | omega | (simp only [st_s] <;> omega) | assumption | omega | fail), by (first | omega | (simp only [st_s] <;> omega) | assumption | omega | fail)⟩ : rg (n1 - 1)), ?_⟩
  intro x2 r_x2 h1_x2 h2_x2
  exact l_13 ((21 - 0 : Int).toNat + 1) _ _ _ _ (show (21 - 0 : Int) < (((21 - 0 : Int).toNat + 1 : Nat) : Int) from by ((first | omega | (simp only [st_s] <;> omega) | assumption | omega | fail))) hT (show 0 ≤ 0 from by (first | omega | (simp only [st_s] <;> omega) | assumption | omega | fail)) (show 0 ≤ 20 from by (first | omega | (simp only [st_s] <;> omega) | assumption | omega | fail)) (show -1 ≤ x2 from by (first | omega | (simp only [st_s] <;> omega) | assumption | omega | fail)) (show x2 ≤ 2000 from by (first | omega | (simp only [st_s] <;> omega) | assumption | omega | fail))
set_option maxHeartbeats 1000000 in
theorem K_X12_printStatement {n1 : Int} {σ : S0} (hT : c_T σ) (p1 : 0 ≤ n1) (p2 : n1 < 1500) : W_X12_printStatement n1 σ (fun (x : Int) (τ : S0) => (c_T τ)) := by
  have A14 : ∀ j, 0 ≤ σ.2.1 14 j ∧ σ.2.1 14 j ≤ 30000 := fun j => hT.2 14 j
  have G14 : σ.2.1 14 = σ.2.1 14 := rfl
  intro P17 h17
  have l_17 : ∀ (m_17 : Nat) (u2_17 : Int) (τ_17 : S0), 30001 - u2_17 < (m_17 : Int) → (c_T τ_17) → (τ_17.2.1 14 = σ.2.1 14) → (0 ≤ u2_17) → (u2_17 ≤ 30000) → P17 n1 u2_17 τ_17 := by
    intro m_17
    induction m_17 with
    | zero =>
      intro u2_17 τ_17 hm hT G14 i17_1 i17_2
      have A14 : ∀ j, 0 ≤ τ_17.2.1 14 j ∧ τ_17.2.1 14 j ≤ 30000 := fun j => hT.2 14 j
      exfalso; (first | omega | (simp only [st_s] <;> omega) | assumption | omega | fail)
    | succ m_17 ih_17 =>
      intro u2_17 τ_17 hm_17 hT G14 i17_1 i17_2
      have A14 : ∀ j, 0 ≤ τ_17.2.1 14 j ∧ τ_17.2.1 14 j ≤ 30000 := fun j => hT.2 14 j
      refine h17 n1 u2_17 τ_17 ?_
      refine ⟨(show 0 ≤ (n1 + 1) ∧ (n1 + 1) < 1501 from by (first | omega | (simp only [st_s] <;> omega) | assumption | omega | fail)), ?_⟩
      intro x7 r_x7 e_x7
      have b_x7 : 0 ≤ x7 ∧ x7 ≤ 30000 := by rw [e_x7]; exact hT.2 14 _
      refine ⟨fun c8 => ?_, fun c8 => ?_⟩
      ·
        refine ⟨_, K_X5_finish hT, ?_⟩
        intro x10 τ11 r_x10 hn_τ11 hf_τ11 hq
        replace hT := hq
        have g14_τ11 : τ11.2.1 14 = τ_17.2.1 14 := hf_τ11.2.1 14 (by decide)
        have G14 : τ11.2.1 14 = σ.2.1 14 := (g14_τ11).trans G14
        have A14 : ∀ j, 0 ≤ τ11.2.1 14 j ∧ τ11.2.1 14 j ≤ 30000 := fun j => hT.2 14 j
        exact hT
      ·
        refine ⟨(show 0 ≤ u2_17 ∧ u2_17 < 30000 from by (first | omega | (simp only [st_s] <;> omega) | assumption | omega | fail)), ?_⟩
        intro x13 r_x13 e_x13
        have b_x13 : 0 ≤ x13 ∧ x13 ≤ 999 := by rw [e_x13]; exact hT.2 15 _
        refine ⟨_, K_X5_putSymbol hT (show 0 ≤ x13 from by (first | omega | (simp only [st_s] <;> omega) | assumption | omega | fail)) (show x13 < 1000 from by (first | omega | (simp only [st_s] <;> omega) | assumption | omega | fail)), ?_⟩
        intro τ16 hn_τ16 hf_τ16 hq
        replace hT := hq
        have g14_τ16 : τ16.2.1 14 = τ_17.2.1 14 := hf_τ16.2.1 14 (by decide)
        have G14 : τ16.2.1 14 = σ.2.1 14 := (g14_τ16).trans G14
        have A14 : ∀ j, 0 ≤ τ16.2.1 14 j ∧ τ16.2.1 14 j ≤ 30000 := fun j => hT.2 14 j
        refine ⟨(⟨by (first | omega | (simp only [st_s] <;> omega) | assumption | omega | fail), by (first | omega | (simp only [st_s] <;> omega) | assumption | omega | fail)⟩ : rg (u2_17 + 1)), ?_⟩
        exact ih_17 _ _ (show (30001 - (u2_17 + 1) : Int) < ((m_17 : Nat) : Int) from by ((first | omega | (simp only [st_s] <;> omega) | assumption | omega | fail))) hT G14 (show 0 ≤ (u2_17 + 1) from by (first | omega | (simp only [st_s] <;> omega) | assumption | omega | fail)) (show (u2_17 + 1) ≤ 30000 from by (first | omega | (simp only [st_s] <;> omega) | assumption | omega | fail))
  refine ⟨_, K_X5_begin hT, ?_⟩
  intro τ3 hn_τ3 hf_τ3 hq
  replace hT := hq
  have g14_τ3 : τ3.2.1 14 = σ.2.1 14 := hf_τ3.2.1 14 (by decide)
  have G14 : τ3.2.1 14 = σ.2.1 14 := (g14_τ3).trans G14
  have A14 : ∀ j, 0 ≤ τ3.2.1 14 j ∧ τ3.2.1 14 j ≤ 30000 := fun j => hT.2 14 j
  refine ⟨(show 0 ≤ n1 ∧ n1 < 1501 from by (first | omega | (simp only [st_s] <;> omega) | assumption | omega | fail)), ?_⟩
  intro x5 r_x5 e_x5
  have b_x5 : 0 ≤ x5 ∧ x5 ≤ 30000 := by rw [e_x5]; exact hT.2 14 _
  exact l_17 ((30001 - x5 : Int).toNat + 1) _ _ (show (30001 - x5 : Int) < (((30001 - x5 : Int).toNat + 1 : Nat) : Int) from by ((first | omega | (simp only [st_s] <;> omega) | assumption | omega | fail))) hT G14 (show 0 ≤ x5 from by (first | omega | (simp only [st_s] <;> omega) | assumption | omega | fail)) (show x5 ≤ 30000 from by (first | omega | (simp only [st_s] <;> omega) | assumption | omega | fail))
set_option maxHeartbeats 1000000 in
theorem K_X5_putSymbols_q55 {n2 : Int} {n3 : Int} {σ : S0} (hT : c_T σ) (p1 : 0 ≤ n2) (p2 : n2 ≤ 42000) (p3 : n3 ≤ 42000) (p4 : ∀ j : Int, n2 ≤ j → j < n3 → σ.2.1 39 j < 1000) : W_X5_putSymbols_q55 n2 n3 σ (fun (τ : S0) => (c_T τ)) := by
  have A39 : ∀ j, 0 ≤ σ.2.1 39 j ∧ σ.2.1 39 j ≤ 1060 := fun j => hT.2 39 j
  have v64 : 0 ≤ σ.1 64 ∧ σ.1 64 ≤ 1 := hT.1 64
  have G39 : σ.2.1 39 = σ.2.1 39 := rfl
  intro P3 h3
  have l_3 : ∀ (m_3 : Nat) (u4_3 : Int) (τ_3 : S0), 42001 - u4_3 < (m_3 : Int) → (c_T τ_3) → (τ_3.2.1 39 = σ.2.1 39) → (n2 ≤ u4_3) → (u4_3 ≤ 42000) → P3 n3 u4_3 τ_3 := by
    intro m_3
    induction m_3 with
    | zero =>
      intro u4_3 τ_3 hm hT G39 i3_1 i3_2
      have A39 : ∀ j, 0 ≤ τ_3.2.1 39 j ∧ τ_3.2.1 39 j ≤ 1060 := fun j => hT.2 39 j
      have v64 : 0 ≤ τ_3.1 64 ∧ τ_3.1 64 ≤ 1 := hT.1 64
      exfalso; (first | omega | (simp only [st_s] <;> omega) | assumption | omega | fail)
    | succ m_3 ih_3 =>
      intro u4_3 τ_3 hm_3 hT G39 i3_1 i3_2
      have A39 : ∀ j, 0 ≤ τ_3.2.1 39 j ∧ τ_3.2.1 39 j ≤ 1060 := fun j => hT.2 39 j
      have v64 : 0 ≤ τ_3.1 64 ∧ τ_3.1 64 ≤ 1 := hT.1 64
      refine h3 n3 u4_3 τ_3 ?_
      refine ⟨fun c1 => ?_, fun c1 => ?_⟩
      ·
        exact hT
      ·
        refine ⟨fun c2 => ?_, fun c2 => ?_⟩
        ·
          exact hT
        ·
          refine ⟨(show 0 ≤ u4_3 ∧ u4_3 < 42000 from by (first | omega | (simp only [st_s] <;> omega) | assumption | omega | fail)), ?_⟩
          intro x4 r_x4 e_x4
          have b_x4 : 0 ≤ x4 ∧ x4 ≤ 1060 := by rw [e_x4]; exact hT.2 39 _
          have dd := p4 u4_3 (by omega) (by omega)
          rw [← G39, ← e_x4] at dd
          refine ⟨_, K_X5_putSymbol hT (show 0 ≤ x4 from by (first | omega | (simp only [st_s] <;> omega) | assumption | omega | fail)) (show x4 < 1000 from by (first | omega | (simp only [st_s] <;> omega) | assumption | omega | fail)), ?_⟩
          intro τ7 hn_τ7 hf_τ7 hq
          replace hT := hq
          have g39_τ7 : τ7.2.1 39 = τ_3.2.1 39 := hf_τ7.2.1 39 (by decide)
          have G39 : τ7.2.1 39 = σ.2.1 39 := (g39_τ7).trans G39
          have A39 : ∀ j, 0 ≤ τ7.2.1 39 j ∧ τ7.2.1 39 j ≤ 1060 := fun j => hT.2 39 j
          have v64 : 0 ≤ τ7.1 64 ∧ τ7.1 64 ≤ 1 := hT.1 64
          refine ⟨(⟨by (first | omega | (simp only [st_s] <;> omega) | assumption | omega | fail), by (first | omega | (simp only [st_s] <;> omega) | assumption | omega | fail)⟩ : rg (u4_3 + 1)), ?_⟩
          exact ih_3 _ _ (show (42001 - (u4_3 + 1) : Int) < ((m_3 : Nat) : Int) from by ((first | omega | (simp only [st_s] <;> omega) | assumption | omega | fail))) hT G39 (show n2 ≤ (u4_3 + 1) from by (first | omega | (simp only [st_s] <;> omega) | assumption | omega | fail)) (show (u4_3 + 1) ≤ 42000 from by (first | omega | (simp only [st_s] <;> omega) | assumption | omega | fail))
  exact l_3 ((42001 - n2 : Int).toNat + 1) _ _ (show (42001 - n2 : Int) < (((42001 - n2 : Int).toNat + 1 : Nat) : Int) from by ((first | omega | (simp only [st_s] <;> omega) | assumption | omega | fail))) hT G39 (show n2 ≤ n2 from by (first | omega | (simp only [st_s] <;> omega) | assumption | omega | fail)) (show n2 ≤ 42000 from by (first | omega | (simp only [st_s] <;> omega) | assumption | omega | fail))
set_option maxHeartbeats 2000000 in
theorem K_X12_printRow {n1 : Int} {n2 : Int} {σ : S0} (hT : c_T σ) (p1 : J_all (σ.1 7) (σ.1 6) (σ.1 13) (σ.1 14) (σ.1 15) (σ.2.1 13) (σ.2.1 14) (σ.2.1 15) (σ.2.1 16) (σ.2.1 10) (σ.2.1 27) (σ.2.1 28) (σ.2.1 29) (σ.2.1 30) (σ.2.1 31) (σ.2.1 32) (σ.2.1 33) (σ.2.1 34) (σ.2.1 35) (σ.2.1 36) (σ.2.1 37)) (p2 : J_bp (σ.2.1 44) (σ.2.1 45)) : W_X12_printRow n1 n2 σ (fun (x : Int) (τ : S0) => (c_T τ) ∧ (J_bp (τ.2.1 44) (τ.2.1 45))) := by
  have A10 : ∀ j, (-1) ≤ σ.2.1 10 j ∧ σ.2.1 10 j ≤ 99 := fun j => hT.2 10 j
  have A13 : ∀ j, 0 ≤ σ.2.1 13 j ∧ σ.2.1 13 j ≤ 4 := fun j => hT.2 13 j
  have A14 : ∀ j, 0 ≤ σ.2.1 14 j ∧ σ.2.1 14 j ≤ 30000 := fun j => hT.2 14 j
  have A15 : ∀ j, 0 ≤ σ.2.1 15 j ∧ σ.2.1 15 j ≤ 999 := fun j => hT.2 15 j
  have A16 : ∀ j, (-1) ≤ σ.2.1 16 j ∧ σ.2.1 16 j ≤ 1499 := fun j => hT.2 16 j
  have A27 : ∀ j, 0 ≤ σ.2.1 27 j ∧ σ.2.1 27 j ≤ 90000 := fun j => hT.2 27 j
  have A28 : ∀ j, 0 ≤ σ.2.1 28 j ∧ σ.2.1 28 j ≤ 60 := fun j => hT.2 28 j
  have A29 : ∀ j, 0 ≤ σ.2.1 29 j ∧ σ.2.1 29 j ≤ 1499 := fun j => hT.2 29 j
  have A30 : ∀ j, 0 ≤ σ.2.1 30 j ∧ σ.2.1 30 j ≤ 20000 := fun j => hT.2 30 j
  have A31 : ∀ j, 0 ≤ σ.2.1 31 j ∧ σ.2.1 31 j ≤ 20000 := fun j => hT.2 31 j
  have A32 : ∀ j, 0 ≤ σ.2.1 32 j ∧ σ.2.1 32 j ≤ 999999 := fun j => hT.2 32 j
  have A33 : ∀ j, 0 ≤ σ.2.1 33 j ∧ σ.2.1 33 j ≤ 20000 := fun j => hT.2 33 j
  have A34 : ∀ j, 0 ≤ σ.2.1 34 j ∧ σ.2.1 34 j ≤ 20000 := fun j => hT.2 34 j
  have A35 : ∀ j, 0 ≤ σ.2.1 35 j ∧ σ.2.1 35 j ≤ 1499 := fun j => hT.2 35 j
  have A36 : ∀ j, 0 ≤ σ.2.1 36 j ∧ σ.2.1 36 j ≤ 20000 := fun j => hT.2 36 j
  have A37 : ∀ j, 0 ≤ σ.2.1 37 j ∧ σ.2.1 37 j ≤ 19999 := fun j => hT.2 37 j
  have A39 : ∀ j, 0 ≤ σ.2.1 39 j ∧ σ.2.1 39 j ≤ 1060 := fun j => hT.2 39 j
  have A40 : ∀ j, 0 ≤ σ.2.1 40 j ∧ σ.2.1 40 j ≤ 42000 := fun j => hT.2 40 j
  have A41 : ∀ j, (-2) ≤ σ.2.1 41 j ∧ σ.2.1 41 j ≤ 1000 := fun j => hT.2 41 j
  have A44 : ∀ j, 0 ≤ σ.2.1 44 j ∧ σ.2.1 44 j ≤ 42000 := fun j => hT.2 44 j
  have A45 : ∀ j, 0 ≤ σ.2.1 45 j ∧ σ.2.1 45 j ≤ 1000 := fun j => hT.2 45 j
  have v6 : 0 ≤ σ.1 6 ∧ σ.1 6 ≤ 30000 := hT.1 6
  have v7 : 0 ≤ σ.1 7 ∧ σ.1 7 ≤ 1500 := hT.1 7
  have v13 : 0 ≤ σ.1 13 ∧ σ.1 13 ≤ 90000 := hT.1 13
  have v14 : 0 ≤ σ.1 14 ∧ σ.1 14 ≤ 20000 := hT.1 14
  have v15 : 0 ≤ σ.1 15 ∧ σ.1 15 ≤ 20000 := hT.1 15
  have v17 : 0 ≤ σ.1 17 ∧ σ.1 17 ≤ 42000 := hT.1 17
  have v18 : 0 ≤ σ.1 18 ∧ σ.1 18 ≤ 42000 := hT.1 18
  have W6 : σ.1 6 = σ.1 6 := rfl
  have W7 : σ.1 7 = σ.1 7 := rfl
  have W13 : σ.1 13 = σ.1 13 := rfl
  have W14 : σ.1 14 = σ.1 14 := rfl
  have W15 : σ.1 15 = σ.1 15 := rfl
  have G10 : σ.2.1 10 = σ.2.1 10 := rfl
  have G13 : σ.2.1 13 = σ.2.1 13 := rfl
  have G14 : σ.2.1 14 = σ.2.1 14 := rfl
  have G15 : σ.2.1 15 = σ.2.1 15 := rfl
  have G16 : σ.2.1 16 = σ.2.1 16 := rfl
  have G27 : σ.2.1 27 = σ.2.1 27 := rfl
  have G28 : σ.2.1 28 = σ.2.1 28 := rfl
  have G29 : σ.2.1 29 = σ.2.1 29 := rfl
  have G30 : σ.2.1 30 = σ.2.1 30 := rfl
  have G31 : σ.2.1 31 = σ.2.1 31 := rfl
  have G32 : σ.2.1 32 = σ.2.1 32 := rfl
  have G33 : σ.2.1 33 = σ.2.1 33 := rfl
  have G34 : σ.2.1 34 = σ.2.1 34 := rfl
  have G35 : σ.2.1 35 = σ.2.1 35 := rfl
  have G36 : σ.2.1 36 = σ.2.1 36 := rfl
  have G37 : σ.2.1 37 = σ.2.1 37 := rfl
  have RW := J_rw_of p1 (by omega)
  have RWJ := RW
  have s34 := A34 n1
  have CJ : J_all (σ.1 7) (σ.1 6) (σ.1 13) (σ.1 14) (σ.1 15) (σ.2.1 13) (σ.2.1 14) (σ.2.1 15) (σ.2.1 16) (σ.2.1 10) (σ.2.1 27) (σ.2.1 28) (σ.2.1 29) (σ.2.1 30) (σ.2.1 31) (σ.2.1 32) (σ.2.1 33) (σ.2.1 34) (σ.2.1 35) (σ.2.1 36) (σ.2.1 37) := p1
  have BP : J_bp (σ.2.1 44) (σ.2.1 45) := p2
  have BP_0 := BP
  have CJ_0 := CJ
  unfold W_X12_printRow
  refine ⟨_, K_X12_isRow hT (show J_rw (σ.1 7) (σ.2.1 13) (σ.2.1 33) (σ.2.1 34) from by exact RW), ?_⟩
  intro x2 r_x2 hq
  obtain ⟨q1_1, q1_2⟩ := hq
  replace q1_1 : 0 ≤ x2 ∧ x2 ≤ 1 := q1_1
  replace q1_2 : ¬ x2 = 0 → 0 ≤ n1 ∧ n1 < (σ.1 7) ∧ σ.2.1 13 n1 = 3 ∧ 0 ≤ n2 ∧ n2 < σ.2.1 34 n1 := q1_2
  refine ⟨fun c4 => ?_, fun c4 => ?_⟩
  ·
    exact ⟨hT, (show J_bp (σ.2.1 44) (σ.2.1 45) from BP)⟩
  ·
    refine ⟨_, K_X6_goAgain hT (show 0 ≤ n1 from by (first | omega | (simp only [st_s] <;> omega) | assumption | omega | fail)) (show n1 < (σ.1 7) from by (first | omega | (simp only [st_s] <;> omega) | assumption | omega | fail)) (show σ.2.1 13 n1 = 3 from by (first | omega | (simp only [st_s] <;> omega) | assumption | omega | fail)) (show n2 < σ.2.1 34 n1 from by (first | omega | (simp only [st_s] <;> omega) | assumption | omega | fail)) (show J_all (σ.1 7) (σ.1 6) (σ.1 13) (σ.1 14) (σ.1 15) (σ.2.1 13) (σ.2.1 14) (σ.2.1 15) (σ.2.1 16) (σ.2.1 10) (σ.2.1 27) (σ.2.1 28) (σ.2.1 29) (σ.2.1 30) (σ.2.1 31) (σ.2.1 32) (σ.2.1 33) (σ.2.1 34) (σ.2.1 35) (σ.2.1 36) (σ.2.1 37) from CJ) (show J_bp (σ.2.1 44) (σ.2.1 45) from BP) (show -1 ≤ n2 from by (first | omega | (simp only [st_s] <;> omega) | assumption | omega | fail)), ?_⟩
    intro x6 τ7 r_x6 hn_τ7 hf_τ7 hq
    obtain ⟨hT, q5_1, q5_2, q5_3⟩ := hq
    replace q5_1 : 0 ≤ x6 ∧ x6 ≤ 1 := q5_1
    replace q5_2 : J_bp (τ7.2.1 44) (τ7.2.1 45) := q5_2
    replace q5_3 : ¬ x6 = 0 → J_dt (τ7.1 17) (τ7.1 18) (n2 + 1) (τ7.2.1 39) (τ7.2.1 40) (τ7.2.1 41) := q5_3
    have w6_τ7 : τ7.1 6 = σ.1 6 := hf_τ7.1 6 (by decide)
    have w7_τ7 : τ7.1 7 = σ.1 7 := hf_τ7.1 7 (by decide)
    have w13_τ7 : τ7.1 13 = σ.1 13 := hf_τ7.1 13 (by decide)
    have w14_τ7 : τ7.1 14 = σ.1 14 := hf_τ7.1 14 (by decide)
    have w15_τ7 : τ7.1 15 = σ.1 15 := hf_τ7.1 15 (by decide)
    have g10_τ7 : τ7.2.1 10 = σ.2.1 10 := hf_τ7.2.1 10 (by decide)
    have g13_τ7 : τ7.2.1 13 = σ.2.1 13 := hf_τ7.2.1 13 (by decide)
    have g14_τ7 : τ7.2.1 14 = σ.2.1 14 := hf_τ7.2.1 14 (by decide)
    have g15_τ7 : τ7.2.1 15 = σ.2.1 15 := hf_τ7.2.1 15 (by decide)
    have g16_τ7 : τ7.2.1 16 = σ.2.1 16 := hf_τ7.2.1 16 (by decide)
    have g27_τ7 : τ7.2.1 27 = σ.2.1 27 := hf_τ7.2.1 27 (by decide)
    have g28_τ7 : τ7.2.1 28 = σ.2.1 28 := hf_τ7.2.1 28 (by decide)
    have g29_τ7 : τ7.2.1 29 = σ.2.1 29 := hf_τ7.2.1 29 (by decide)
    have g30_τ7 : τ7.2.1 30 = σ.2.1 30 := hf_τ7.2.1 30 (by decide)
    have g31_τ7 : τ7.2.1 31 = σ.2.1 31 := hf_τ7.2.1 31 (by decide)
    have g32_τ7 : τ7.2.1 32 = σ.2.1 32 := hf_τ7.2.1 32 (by decide)
    have g33_τ7 : τ7.2.1 33 = σ.2.1 33 := hf_τ7.2.1 33 (by decide)
    have g34_τ7 : τ7.2.1 34 = σ.2.1 34 := hf_τ7.2.1 34 (by decide)
    have g35_τ7 : τ7.2.1 35 = σ.2.1 35 := hf_τ7.2.1 35 (by decide)
    have g36_τ7 : τ7.2.1 36 = σ.2.1 36 := hf_τ7.2.1 36 (by decide)
    have g37_τ7 : τ7.2.1 37 = σ.2.1 37 := hf_τ7.2.1 37 (by decide)
    have W6 : τ7.1 6 = σ.1 6 := by first | exact w6_τ7.trans W6 | omega
    have W7 : τ7.1 7 = σ.1 7 := by first | exact w7_τ7.trans W7 | omega
    have W13 : τ7.1 13 = σ.1 13 := by first | exact w13_τ7.trans W13 | omega
    have W14 : τ7.1 14 = σ.1 14 := by first | exact w14_τ7.trans W14 | omega
    have W15 : τ7.1 15 = σ.1 15 := by first | exact w15_τ7.trans W15 | omega
    have G10 : τ7.2.1 10 = σ.2.1 10 := (g10_τ7).trans G10
    have G13 : τ7.2.1 13 = σ.2.1 13 := (g13_τ7).trans G13
    have G14 : τ7.2.1 14 = σ.2.1 14 := (g14_τ7).trans G14
    have G15 : τ7.2.1 15 = σ.2.1 15 := (g15_τ7).trans G15
    have G16 : τ7.2.1 16 = σ.2.1 16 := (g16_τ7).trans G16
    have G27 : τ7.2.1 27 = σ.2.1 27 := (g27_τ7).trans G27
    have G28 : τ7.2.1 28 = σ.2.1 28 := (g28_τ7).trans G28
    have G29 : τ7.2.1 29 = σ.2.1 29 := (g29_τ7).trans G29
    have G30 : τ7.2.1 30 = σ.2.1 30 := (g30_τ7).trans G30
    have G31 : τ7.2.1 31 = σ.2.1 31 := (g31_τ7).trans G31
    have G32 : τ7.2.1 32 = σ.2.1 32 := (g32_τ7).trans G32
    have G33 : τ7.2.1 33 = σ.2.1 33 := (g33_τ7).trans G33
    have G34 : τ7.2.1 34 = σ.2.1 34 := (g34_τ7).trans G34
    have G35 : τ7.2.1 35 = σ.2.1 35 := (g35_τ7).trans G35
    have G36 : τ7.2.1 36 = σ.2.1 36 := (g36_τ7).trans G36
    have G37 : τ7.2.1 37 = σ.2.1 37 := (g37_τ7).trans G37
    have CJ : J_all (τ7.1 7) (τ7.1 6) (τ7.1 13) (τ7.1 14) (τ7.1 15) (τ7.2.1 13) (τ7.2.1 14) (τ7.2.1 15) (τ7.2.1 16) (τ7.2.1 10) (τ7.2.1 27) (τ7.2.1 28) (τ7.2.1 29) (τ7.2.1 30) (τ7.2.1 31) (τ7.2.1 32) (τ7.2.1 33) (τ7.2.1 34) (τ7.2.1 35) (τ7.2.1 36) (τ7.2.1 37) := by rw [show (J_all (τ7.1 7) (τ7.1 6) (τ7.1 13) (τ7.1 14) (τ7.1 15) (τ7.2.1 13) (τ7.2.1 14) (τ7.2.1 15) (τ7.2.1 16) (τ7.2.1 10) (τ7.2.1 27) (τ7.2.1 28) (τ7.2.1 29) (τ7.2.1 30) (τ7.2.1 31) (τ7.2.1 32) (τ7.2.1 33) (τ7.2.1 34) (τ7.2.1 35) (τ7.2.1 36) (τ7.2.1 37)) = (J_all (σ.1 7) (σ.1 6) (σ.1 13) (σ.1 14) (σ.1 15) (σ.2.1 13) (σ.2.1 14) (σ.2.1 15) (σ.2.1 16) (σ.2.1 10) (σ.2.1 27) (σ.2.1 28) (σ.2.1 29) (σ.2.1 30) (σ.2.1 31) (σ.2.1 32) (σ.2.1 33) (σ.2.1 34) (σ.2.1 35) (σ.2.1 36) (σ.2.1 37)) from by rw [w6_τ7, w7_τ7, w13_τ7, w14_τ7, w15_τ7, g10_τ7, g13_τ7, g14_τ7, g15_τ7, g16_τ7, g27_τ7, g28_τ7, g29_τ7, g30_τ7, g31_τ7, g32_τ7, g33_τ7, g34_τ7, g35_τ7, g36_τ7, g37_τ7]]; exact CJ
    have BP : J_bp (τ7.2.1 44) (τ7.2.1 45) := q5_2
    have A10 : ∀ j, (-1) ≤ τ7.2.1 10 j ∧ τ7.2.1 10 j ≤ 99 := fun j => hT.2 10 j
    have A13 : ∀ j, 0 ≤ τ7.2.1 13 j ∧ τ7.2.1 13 j ≤ 4 := fun j => hT.2 13 j
    have A14 : ∀ j, 0 ≤ τ7.2.1 14 j ∧ τ7.2.1 14 j ≤ 30000 := fun j => hT.2 14 j
    have A15 : ∀ j, 0 ≤ τ7.2.1 15 j ∧ τ7.2.1 15 j ≤ 999 := fun j => hT.2 15 j
    have A16 : ∀ j, (-1) ≤ τ7.2.1 16 j ∧ τ7.2.1 16 j ≤ 1499 := fun j => hT.2 16 j
    have A27 : ∀ j, 0 ≤ τ7.2.1 27 j ∧ τ7.2.1 27 j ≤ 90000 := fun j => hT.2 27 j
    have A28 : ∀ j, 0 ≤ τ7.2.1 28 j ∧ τ7.2.1 28 j ≤ 60 := fun j => hT.2 28 j
    have A29 : ∀ j, 0 ≤ τ7.2.1 29 j ∧ τ7.2.1 29 j ≤ 1499 := fun j => hT.2 29 j
    have A30 : ∀ j, 0 ≤ τ7.2.1 30 j ∧ τ7.2.1 30 j ≤ 20000 := fun j => hT.2 30 j
    have A31 : ∀ j, 0 ≤ τ7.2.1 31 j ∧ τ7.2.1 31 j ≤ 20000 := fun j => hT.2 31 j
    have A32 : ∀ j, 0 ≤ τ7.2.1 32 j ∧ τ7.2.1 32 j ≤ 999999 := fun j => hT.2 32 j
    have A33 : ∀ j, 0 ≤ τ7.2.1 33 j ∧ τ7.2.1 33 j ≤ 20000 := fun j => hT.2 33 j
    have A34 : ∀ j, 0 ≤ τ7.2.1 34 j ∧ τ7.2.1 34 j ≤ 20000 := fun j => hT.2 34 j
    have A35 : ∀ j, 0 ≤ τ7.2.1 35 j ∧ τ7.2.1 35 j ≤ 1499 := fun j => hT.2 35 j
    have A36 : ∀ j, 0 ≤ τ7.2.1 36 j ∧ τ7.2.1 36 j ≤ 20000 := fun j => hT.2 36 j
    have A37 : ∀ j, 0 ≤ τ7.2.1 37 j ∧ τ7.2.1 37 j ≤ 19999 := fun j => hT.2 37 j
    have A39 : ∀ j, 0 ≤ τ7.2.1 39 j ∧ τ7.2.1 39 j ≤ 1060 := fun j => hT.2 39 j
    have A40 : ∀ j, 0 ≤ τ7.2.1 40 j ∧ τ7.2.1 40 j ≤ 42000 := fun j => hT.2 40 j
    have A41 : ∀ j, (-2) ≤ τ7.2.1 41 j ∧ τ7.2.1 41 j ≤ 1000 := fun j => hT.2 41 j
    have A44 : ∀ j, 0 ≤ τ7.2.1 44 j ∧ τ7.2.1 44 j ≤ 42000 := fun j => hT.2 44 j
    have A45 : ∀ j, 0 ≤ τ7.2.1 45 j ∧ τ7.2.1 45 j ≤ 1000 := fun j => hT.2 45 j
    have v6 : 0 ≤ τ7.1 6 ∧ τ7.1 6 ≤ 30000 := hT.1 6
    have v7 : 0 ≤ τ7.1 7 ∧ τ7.1 7 ≤ 1500 := hT.1 7
    have v13 : 0 ≤ τ7.1 13 ∧ τ7.1 13 ≤ 90000 := hT.1 13
    have v14 : 0 ≤ τ7.1 14 ∧ τ7.1 14 ≤ 20000 := hT.1 14
    have v15 : 0 ≤ τ7.1 15 ∧ τ7.1 15 ≤ 20000 := hT.1 15
    have v17 : 0 ≤ τ7.1 17 ∧ τ7.1 17 ≤ 42000 := hT.1 17
    have v18 : 0 ≤ τ7.1 18 ∧ τ7.1 18 ≤ 42000 := hT.1 18
    have s40 := A40
    refine ⟨fun c8 => ?_, fun c8 => ?_⟩
    ·
      refine ⟨_, K_X5_begin hT, ?_⟩
      intro τ11 hn_τ11 hf_τ11 hq
      replace hT := hq
      have w6_τ11 : τ11.1 6 = τ7.1 6 := hf_τ11.1 6 (by decide)
      have w7_τ11 : τ11.1 7 = τ7.1 7 := hf_τ11.1 7 (by decide)
      have w13_τ11 : τ11.1 13 = τ7.1 13 := hf_τ11.1 13 (by decide)
      have w14_τ11 : τ11.1 14 = τ7.1 14 := hf_τ11.1 14 (by decide)
      have w15_τ11 : τ11.1 15 = τ7.1 15 := hf_τ11.1 15 (by decide)
      have w17_τ11 : τ11.1 17 = τ7.1 17 := hf_τ11.1 17 (by decide)
      have w18_τ11 : τ11.1 18 = τ7.1 18 := hf_τ11.1 18 (by decide)
      have g10_τ11 : τ11.2.1 10 = τ7.2.1 10 := hf_τ11.2.1 10 (by decide)
      have g13_τ11 : τ11.2.1 13 = τ7.2.1 13 := hf_τ11.2.1 13 (by decide)
      have g14_τ11 : τ11.2.1 14 = τ7.2.1 14 := hf_τ11.2.1 14 (by decide)
      have g15_τ11 : τ11.2.1 15 = τ7.2.1 15 := hf_τ11.2.1 15 (by decide)
      have g16_τ11 : τ11.2.1 16 = τ7.2.1 16 := hf_τ11.2.1 16 (by decide)
      have g27_τ11 : τ11.2.1 27 = τ7.2.1 27 := hf_τ11.2.1 27 (by decide)
      have g28_τ11 : τ11.2.1 28 = τ7.2.1 28 := hf_τ11.2.1 28 (by decide)
      have g29_τ11 : τ11.2.1 29 = τ7.2.1 29 := hf_τ11.2.1 29 (by decide)
      have g30_τ11 : τ11.2.1 30 = τ7.2.1 30 := hf_τ11.2.1 30 (by decide)
      have g31_τ11 : τ11.2.1 31 = τ7.2.1 31 := hf_τ11.2.1 31 (by decide)
      have g32_τ11 : τ11.2.1 32 = τ7.2.1 32 := hf_τ11.2.1 32 (by decide)
      have g33_τ11 : τ11.2.1 33 = τ7.2.1 33 := hf_τ11.2.1 33 (by decide)
      have g34_τ11 : τ11.2.1 34 = τ7.2.1 34 := hf_τ11.2.1 34 (by decide)
      have g35_τ11 : τ11.2.1 35 = τ7.2.1 35 := hf_τ11.2.1 35 (by decide)
      have g36_τ11 : τ11.2.1 36 = τ7.2.1 36 := hf_τ11.2.1 36 (by decide)
      have g37_τ11 : τ11.2.1 37 = τ7.2.1 37 := hf_τ11.2.1 37 (by decide)
      have g39_τ11 : τ11.2.1 39 = τ7.2.1 39 := hf_τ11.2.1 39 (by decide)
      have g40_τ11 : τ11.2.1 40 = τ7.2.1 40 := hf_τ11.2.1 40 (by decide)
      have g41_τ11 : τ11.2.1 41 = τ7.2.1 41 := hf_τ11.2.1 41 (by decide)
      have g44_τ11 : τ11.2.1 44 = τ7.2.1 44 := hf_τ11.2.1 44 (by decide)
      have g45_τ11 : τ11.2.1 45 = τ7.2.1 45 := hf_τ11.2.1 45 (by decide)
      have W6 : τ11.1 6 = σ.1 6 := by first | exact w6_τ11.trans W6 | omega
      have W7 : τ11.1 7 = σ.1 7 := by first | exact w7_τ11.trans W7 | omega
      have W13 : τ11.1 13 = σ.1 13 := by first | exact w13_τ11.trans W13 | omega
      have W14 : τ11.1 14 = σ.1 14 := by first | exact w14_τ11.trans W14 | omega
      have W15 : τ11.1 15 = σ.1 15 := by first | exact w15_τ11.trans W15 | omega
      have G10 : τ11.2.1 10 = σ.2.1 10 := (g10_τ11).trans G10
      have G13 : τ11.2.1 13 = σ.2.1 13 := (g13_τ11).trans G13
      have G14 : τ11.2.1 14 = σ.2.1 14 := (g14_τ11).trans G14
      have G15 : τ11.2.1 15 = σ.2.1 15 := (g15_τ11).trans G15
      have G16 : τ11.2.1 16 = σ.2.1 16 := (g16_τ11).trans G16
      have G27 : τ11.2.1 27 = σ.2.1 27 := (g27_τ11).trans G27
      have G28 : τ11.2.1 28 = σ.2.1 28 := (g28_τ11).trans G28
      have G29 : τ11.2.1 29 = σ.2.1 29 := (g29_τ11).trans G29
      have G30 : τ11.2.1 30 = σ.2.1 30 := (g30_τ11).trans G30
      have G31 : τ11.2.1 31 = σ.2.1 31 := (g31_τ11).trans G31
      have G32 : τ11.2.1 32 = σ.2.1 32 := (g32_τ11).trans G32
      have G33 : τ11.2.1 33 = σ.2.1 33 := (g33_τ11).trans G33
      have G34 : τ11.2.1 34 = σ.2.1 34 := (g34_τ11).trans G34
      have G35 : τ11.2.1 35 = σ.2.1 35 := (g35_τ11).trans G35
      have G36 : τ11.2.1 36 = σ.2.1 36 := (g36_τ11).trans G36
      have G37 : τ11.2.1 37 = σ.2.1 37 := (g37_τ11).trans G37
      have CJ : J_all (τ11.1 7) (τ11.1 6) (τ11.1 13) (τ11.1 14) (τ11.1 15) (τ11.2.1 13) (τ11.2.1 14) (τ11.2.1 15) (τ11.2.1 16) (τ11.2.1 10) (τ11.2.1 27) (τ11.2.1 28) (τ11.2.1 29) (τ11.2.1 30) (τ11.2.1 31) (τ11.2.1 32) (τ11.2.1 33) (τ11.2.1 34) (τ11.2.1 35) (τ11.2.1 36) (τ11.2.1 37) := by rw [show (J_all (τ11.1 7) (τ11.1 6) (τ11.1 13) (τ11.1 14) (τ11.1 15) (τ11.2.1 13) (τ11.2.1 14) (τ11.2.1 15) (τ11.2.1 16) (τ11.2.1 10) (τ11.2.1 27) (τ11.2.1 28) (τ11.2.1 29) (τ11.2.1 30) (τ11.2.1 31) (τ11.2.1 32) (τ11.2.1 33) (τ11.2.1 34) (τ11.2.1 35) (τ11.2.1 36) (τ11.2.1 37)) = (J_all (τ7.1 7) (τ7.1 6) (τ7.1 13) (τ7.1 14) (τ7.1 15) (τ7.2.1 13) (τ7.2.1 14) (τ7.2.1 15) (τ7.2.1 16) (τ7.2.1 10) (τ7.2.1 27) (τ7.2.1 28) (τ7.2.1 29) (τ7.2.1 30) (τ7.2.1 31) (τ7.2.1 32) (τ7.2.1 33) (τ7.2.1 34) (τ7.2.1 35) (τ7.2.1 36) (τ7.2.1 37)) from by rw [w6_τ11, w7_τ11, w13_τ11, w14_τ11, w15_τ11, g10_τ11, g13_τ11, g14_τ11, g15_τ11, g16_τ11, g27_τ11, g28_τ11, g29_τ11, g30_τ11, g31_τ11, g32_τ11, g33_τ11, g34_τ11, g35_τ11, g36_τ11, g37_τ11]]; exact CJ
      have BP : J_bp (τ11.2.1 44) (τ11.2.1 45) := by rw [show (J_bp (τ11.2.1 44) (τ11.2.1 45)) = (J_bp (τ7.2.1 44) (τ7.2.1 45)) from by rw [g44_τ11, g45_τ11]]; exact BP
      have A10 : ∀ j, (-1) ≤ τ11.2.1 10 j ∧ τ11.2.1 10 j ≤ 99 := fun j => hT.2 10 j
      have A13 : ∀ j, 0 ≤ τ11.2.1 13 j ∧ τ11.2.1 13 j ≤ 4 := fun j => hT.2 13 j
      have A14 : ∀ j, 0 ≤ τ11.2.1 14 j ∧ τ11.2.1 14 j ≤ 30000 := fun j => hT.2 14 j
      have A15 : ∀ j, 0 ≤ τ11.2.1 15 j ∧ τ11.2.1 15 j ≤ 999 := fun j => hT.2 15 j
      have A16 : ∀ j, (-1) ≤ τ11.2.1 16 j ∧ τ11.2.1 16 j ≤ 1499 := fun j => hT.2 16 j
      have A27 : ∀ j, 0 ≤ τ11.2.1 27 j ∧ τ11.2.1 27 j ≤ 90000 := fun j => hT.2 27 j
      have A28 : ∀ j, 0 ≤ τ11.2.1 28 j ∧ τ11.2.1 28 j ≤ 60 := fun j => hT.2 28 j
      have A29 : ∀ j, 0 ≤ τ11.2.1 29 j ∧ τ11.2.1 29 j ≤ 1499 := fun j => hT.2 29 j
      have A30 : ∀ j, 0 ≤ τ11.2.1 30 j ∧ τ11.2.1 30 j ≤ 20000 := fun j => hT.2 30 j
      have A31 : ∀ j, 0 ≤ τ11.2.1 31 j ∧ τ11.2.1 31 j ≤ 20000 := fun j => hT.2 31 j
      have A32 : ∀ j, 0 ≤ τ11.2.1 32 j ∧ τ11.2.1 32 j ≤ 999999 := fun j => hT.2 32 j
      have A33 : ∀ j, 0 ≤ τ11.2.1 33 j ∧ τ11.2.1 33 j ≤ 20000 := fun j => hT.2 33 j
      have A34 : ∀ j, 0 ≤ τ11.2.1 34 j ∧ τ11.2.1 34 j ≤ 20000 := fun j => hT.2 34 j
      have A35 : ∀ j, 0 ≤ τ11.2.1 35 j ∧ τ11.2.1 35 j ≤ 1499 := fun j => hT.2 35 j
      have A36 : ∀ j, 0 ≤ τ11.2.1 36 j ∧ τ11.2.1 36 j ≤ 20000 := fun j => hT.2 36 j
      have A37 : ∀ j, 0 ≤ τ11.2.1 37 j ∧ τ11.2.1 37 j ≤ 19999 := fun j => hT.2 37 j
      have A39 : ∀ j, 0 ≤ τ11.2.1 39 j ∧ τ11.2.1 39 j ≤ 1060 := fun j => hT.2 39 j
      have A40 : ∀ j, 0 ≤ τ11.2.1 40 j ∧ τ11.2.1 40 j ≤ 42000 := fun j => hT.2 40 j
      have A41 : ∀ j, (-2) ≤ τ11.2.1 41 j ∧ τ11.2.1 41 j ≤ 1000 := fun j => hT.2 41 j
      have A44 : ∀ j, 0 ≤ τ11.2.1 44 j ∧ τ11.2.1 44 j ≤ 42000 := fun j => hT.2 44 j
      have A45 : ∀ j, 0 ≤ τ11.2.1 45 j ∧ τ11.2.1 45 j ≤ 1000 := fun j => hT.2 45 j
      have v6 : 0 ≤ τ11.1 6 ∧ τ11.1 6 ≤ 30000 := hT.1 6
      have v7 : 0 ≤ τ11.1 7 ∧ τ11.1 7 ≤ 1500 := hT.1 7
      have v13 : 0 ≤ τ11.1 13 ∧ τ11.1 13 ≤ 90000 := hT.1 13
      have v14 : 0 ≤ τ11.1 14 ∧ τ11.1 14 ≤ 20000 := hT.1 14
      have v15 : 0 ≤ τ11.1 15 ∧ τ11.1 15 ≤ 20000 := hT.1 15
      have v17 : 0 ≤ τ11.1 17 ∧ τ11.1 17 ≤ 42000 := hT.1 17
      have v18 : 0 ≤ τ11.1 18 ∧ τ11.1 18 ≤ 42000 := hT.1 18
      have a34 := s34
      refine ⟨(show 0 ≤ n2 ∧ n2 < 20000 from by (first | omega | (simp only [st_s] <;> omega) | assumption | omega | fail)), ?_⟩
      intro x13 r_x13 e_x13
      have b_x13 : 0 ≤ x13 ∧ x13 ≤ 42000 := by rw [e_x13]; exact hT.2 40 _
      rw [g40_τ11] at e_x13
      intro x14 r_x14 e_x14
      have b_x14 : 0 ≤ x14 ∧ x14 ≤ 42000 := by rw [e_x14]; exact hT.2 40 _
      rw [g40_τ11] at e_x14
      intro x15 r_x15 e_x15
      have b_x15 : (-2) ≤ x15 ∧ x15 ≤ 1000 := by rw [e_x15]; exact hT.2 41 _
      rw [g41_τ11] at e_x15
      refine ⟨(⟨by (first | omega | (simp only [st_s] <;> omega) | assumption | omega | fail), by (first | omega | (simp only [st_s] <;> omega) | assumption | omega | fail)⟩ : rg (x14 + x15)), ?_⟩
      have db := J_dt_b (q5_3 c8) (r := n2) (by omega) (by omega)
      have dd := J_dt_d (q5_3 c8) (r := n2) (by omega) (by omega) (fun j => (s40 j).1)
      refine ⟨_, K_X5_putSymbols_q55 hT (show 0 ≤ x13 from by omega) (show x13 ≤ 42000 from by omega) (show (x14 + x15) ≤ 42000 from by omega) (show ∀ j : Int, x13 ≤ j → j < (x14 + x15) → τ11.2.1 39 j < 1000 from by (rw [g39_τ11, e_x13, e_x14, e_x15]; exact dd)), ?_⟩
      intro τ19 hn_τ19 hf_τ19 hq
      replace hT := hq
      have w6_τ19 : τ19.1 6 = τ11.1 6 := hf_τ19.1 6 (by decide)
      have w7_τ19 : τ19.1 7 = τ11.1 7 := hf_τ19.1 7 (by decide)
      have w13_τ19 : τ19.1 13 = τ11.1 13 := hf_τ19.1 13 (by decide)
      have w14_τ19 : τ19.1 14 = τ11.1 14 := hf_τ19.1 14 (by decide)
      have w15_τ19 : τ19.1 15 = τ11.1 15 := hf_τ19.1 15 (by decide)
      have w17_τ19 : τ19.1 17 = τ11.1 17 := hf_τ19.1 17 (by decide)
      have w18_τ19 : τ19.1 18 = τ11.1 18 := hf_τ19.1 18 (by decide)
      have g10_τ19 : τ19.2.1 10 = τ11.2.1 10 := hf_τ19.2.1 10 (by decide)
      have g13_τ19 : τ19.2.1 13 = τ11.2.1 13 := hf_τ19.2.1 13 (by decide)
      have g14_τ19 : τ19.2.1 14 = τ11.2.1 14 := hf_τ19.2.1 14 (by decide)
      have g15_τ19 : τ19.2.1 15 = τ11.2.1 15 := hf_τ19.2.1 15 (by decide)
      have g16_τ19 : τ19.2.1 16 = τ11.2.1 16 := hf_τ19.2.1 16 (by decide)
      have g27_τ19 : τ19.2.1 27 = τ11.2.1 27 := hf_τ19.2.1 27 (by decide)
      have g28_τ19 : τ19.2.1 28 = τ11.2.1 28 := hf_τ19.2.1 28 (by decide)
      have g29_τ19 : τ19.2.1 29 = τ11.2.1 29 := hf_τ19.2.1 29 (by decide)
      have g30_τ19 : τ19.2.1 30 = τ11.2.1 30 := hf_τ19.2.1 30 (by decide)
      have g31_τ19 : τ19.2.1 31 = τ11.2.1 31 := hf_τ19.2.1 31 (by decide)
      have g32_τ19 : τ19.2.1 32 = τ11.2.1 32 := hf_τ19.2.1 32 (by decide)
      have g33_τ19 : τ19.2.1 33 = τ11.2.1 33 := hf_τ19.2.1 33 (by decide)
      have g34_τ19 : τ19.2.1 34 = τ11.2.1 34 := hf_τ19.2.1 34 (by decide)
      have g35_τ19 : τ19.2.1 35 = τ11.2.1 35 := hf_τ19.2.1 35 (by decide)
      have g36_τ19 : τ19.2.1 36 = τ11.2.1 36 := hf_τ19.2.1 36 (by decide)
      have g37_τ19 : τ19.2.1 37 = τ11.2.1 37 := hf_τ19.2.1 37 (by decide)
      have g39_τ19 : τ19.2.1 39 = τ11.2.1 39 := hf_τ19.2.1 39 (by decide)
      have g40_τ19 : τ19.2.1 40 = τ11.2.1 40 := hf_τ19.2.1 40 (by decide)
      have g41_τ19 : τ19.2.1 41 = τ11.2.1 41 := hf_τ19.2.1 41 (by decide)
      have g44_τ19 : τ19.2.1 44 = τ11.2.1 44 := hf_τ19.2.1 44 (by decide)
      have g45_τ19 : τ19.2.1 45 = τ11.2.1 45 := hf_τ19.2.1 45 (by decide)
      have W6 : τ19.1 6 = σ.1 6 := by first | exact w6_τ19.trans W6 | omega
      have W7 : τ19.1 7 = σ.1 7 := by first | exact w7_τ19.trans W7 | omega
      have W13 : τ19.1 13 = σ.1 13 := by first | exact w13_τ19.trans W13 | omega
      have W14 : τ19.1 14 = σ.1 14 := by first | exact w14_τ19.trans W14 | omega
      have W15 : τ19.1 15 = σ.1 15 := by first | exact w15_τ19.trans W15 | omega
      have G10 : τ19.2.1 10 = σ.2.1 10 := (g10_τ19).trans G10
      have G13 : τ19.2.1 13 = σ.2.1 13 := (g13_τ19).trans G13
      have G14 : τ19.2.1 14 = σ.2.1 14 := (g14_τ19).trans G14
      have G15 : τ19.2.1 15 = σ.2.1 15 := (g15_τ19).trans G15
      have G16 : τ19.2.1 16 = σ.2.1 16 := (g16_τ19).trans G16
      have G27 : τ19.2.1 27 = σ.2.1 27 := (g27_τ19).trans G27
      have G28 : τ19.2.1 28 = σ.2.1 28 := (g28_τ19).trans G28
      have G29 : τ19.2.1 29 = σ.2.1 29 := (g29_τ19).trans G29
      have G30 : τ19.2.1 30 = σ.2.1 30 := (g30_τ19).trans G30
      have G31 : τ19.2.1 31 = σ.2.1 31 := (g31_τ19).trans G31
      have G32 : τ19.2.1 32 = σ.2.1 32 := (g32_τ19).trans G32
      have G33 : τ19.2.1 33 = σ.2.1 33 := (g33_τ19).trans G33
      have G34 : τ19.2.1 34 = σ.2.1 34 := (g34_τ19).trans G34
      have G35 : τ19.2.1 35 = σ.2.1 35 := (g35_τ19).trans G35
      have G36 : τ19.2.1 36 = σ.2.1 36 := (g36_τ19).trans G36
      have G37 : τ19.2.1 37 = σ.2.1 37 := (g37_τ19).trans G37
      have CJ : J_all (τ19.1 7) (τ19.1 6) (τ19.1 13) (τ19.1 14) (τ19.1 15) (τ19.2.1 13) (τ19.2.1 14) (τ19.2.1 15) (τ19.2.1 16) (τ19.2.1 10) (τ19.2.1 27) (τ19.2.1 28) (τ19.2.1 29) (τ19.2.1 30) (τ19.2.1 31) (τ19.2.1 32) (τ19.2.1 33) (τ19.2.1 34) (τ19.2.1 35) (τ19.2.1 36) (τ19.2.1 37) := by rw [show (J_all (τ19.1 7) (τ19.1 6) (τ19.1 13) (τ19.1 14) (τ19.1 15) (τ19.2.1 13) (τ19.2.1 14) (τ19.2.1 15) (τ19.2.1 16) (τ19.2.1 10) (τ19.2.1 27) (τ19.2.1 28) (τ19.2.1 29) (τ19.2.1 30) (τ19.2.1 31) (τ19.2.1 32) (τ19.2.1 33) (τ19.2.1 34) (τ19.2.1 35) (τ19.2.1 36) (τ19.2.1 37)) = (J_all (τ11.1 7) (τ11.1 6) (τ11.1 13) (τ11.1 14) (τ11.1 15) (τ11.2.1 13) (τ11.2.1 14) (τ11.2.1 15) (τ11.2.1 16) (τ11.2.1 10) (τ11.2.1 27) (τ11.2.1 28) (τ11.2.1 29) (τ11.2.1 30) (τ11.2.1 31) (τ11.2.1 32) (τ11.2.1 33) (τ11.2.1 34) (τ11.2.1 35) (τ11.2.1 36) (τ11.2.1 37)) from by rw [w6_τ19, w7_τ19, w13_τ19, w14_τ19, w15_τ19, g10_τ19, g13_τ19, g14_τ19, g15_τ19, g16_τ19, g27_τ19, g28_τ19, g29_τ19, g30_τ19, g31_τ19, g32_τ19, g33_τ19, g34_τ19, g35_τ19, g36_τ19, g37_τ19]]; exact CJ
      have BP : J_bp (τ19.2.1 44) (τ19.2.1 45) := by rw [show (J_bp (τ19.2.1 44) (τ19.2.1 45)) = (J_bp (τ11.2.1 44) (τ11.2.1 45)) from by rw [g44_τ19, g45_τ19]]; exact BP
      have A10 : ∀ j, (-1) ≤ τ19.2.1 10 j ∧ τ19.2.1 10 j ≤ 99 := fun j => hT.2 10 j
      have A13 : ∀ j, 0 ≤ τ19.2.1 13 j ∧ τ19.2.1 13 j ≤ 4 := fun j => hT.2 13 j
      have A14 : ∀ j, 0 ≤ τ19.2.1 14 j ∧ τ19.2.1 14 j ≤ 30000 := fun j => hT.2 14 j
      have A15 : ∀ j, 0 ≤ τ19.2.1 15 j ∧ τ19.2.1 15 j ≤ 999 := fun j => hT.2 15 j
      have A16 : ∀ j, (-1) ≤ τ19.2.1 16 j ∧ τ19.2.1 16 j ≤ 1499 := fun j => hT.2 16 j
      have A27 : ∀ j, 0 ≤ τ19.2.1 27 j ∧ τ19.2.1 27 j ≤ 90000 := fun j => hT.2 27 j
      have A28 : ∀ j, 0 ≤ τ19.2.1 28 j ∧ τ19.2.1 28 j ≤ 60 := fun j => hT.2 28 j
      have A29 : ∀ j, 0 ≤ τ19.2.1 29 j ∧ τ19.2.1 29 j ≤ 1499 := fun j => hT.2 29 j
      have A30 : ∀ j, 0 ≤ τ19.2.1 30 j ∧ τ19.2.1 30 j ≤ 20000 := fun j => hT.2 30 j
      have A31 : ∀ j, 0 ≤ τ19.2.1 31 j ∧ τ19.2.1 31 j ≤ 20000 := fun j => hT.2 31 j
      have A32 : ∀ j, 0 ≤ τ19.2.1 32 j ∧ τ19.2.1 32 j ≤ 999999 := fun j => hT.2 32 j
      have A33 : ∀ j, 0 ≤ τ19.2.1 33 j ∧ τ19.2.1 33 j ≤ 20000 := fun j => hT.2 33 j
      have A34 : ∀ j, 0 ≤ τ19.2.1 34 j ∧ τ19.2.1 34 j ≤ 20000 := fun j => hT.2 34 j
      have A35 : ∀ j, 0 ≤ τ19.2.1 35 j ∧ τ19.2.1 35 j ≤ 1499 := fun j => hT.2 35 j
      have A36 : ∀ j, 0 ≤ τ19.2.1 36 j ∧ τ19.2.1 36 j ≤ 20000 := fun j => hT.2 36 j
      have A37 : ∀ j, 0 ≤ τ19.2.1 37 j ∧ τ19.2.1 37 j ≤ 19999 := fun j => hT.2 37 j
      have A39 : ∀ j, 0 ≤ τ19.2.1 39 j ∧ τ19.2.1 39 j ≤ 1060 := fun j => hT.2 39 j
      have A40 : ∀ j, 0 ≤ τ19.2.1 40 j ∧ τ19.2.1 40 j ≤ 42000 := fun j => hT.2 40 j
      have A41 : ∀ j, (-2) ≤ τ19.2.1 41 j ∧ τ19.2.1 41 j ≤ 1000 := fun j => hT.2 41 j
      have A44 : ∀ j, 0 ≤ τ19.2.1 44 j ∧ τ19.2.1 44 j ≤ 42000 := fun j => hT.2 44 j
      have A45 : ∀ j, 0 ≤ τ19.2.1 45 j ∧ τ19.2.1 45 j ≤ 1000 := fun j => hT.2 45 j
      have v6 : 0 ≤ τ19.1 6 ∧ τ19.1 6 ≤ 30000 := hT.1 6
      have v7 : 0 ≤ τ19.1 7 ∧ τ19.1 7 ≤ 1500 := hT.1 7
      have v13 : 0 ≤ τ19.1 13 ∧ τ19.1 13 ≤ 90000 := hT.1 13
      have v14 : 0 ≤ τ19.1 14 ∧ τ19.1 14 ≤ 20000 := hT.1 14
      have v15 : 0 ≤ τ19.1 15 ∧ τ19.1 15 ≤ 20000 := hT.1 15
      have v17 : 0 ≤ τ19.1 17 ∧ τ19.1 17 ≤ 42000 := hT.1 17
      have v18 : 0 ≤ τ19.1 18 ∧ τ19.1 18 ≤ 42000 := hT.1 18
      refine ⟨_, K_X5_finish hT, ?_⟩
      intro x21 τ22 r_x21 hn_τ22 hf_τ22 hq
      replace hT := hq
      have w6_τ22 : τ22.1 6 = τ19.1 6 := hf_τ22.1 6 (by decide)
      have w7_τ22 : τ22.1 7 = τ19.1 7 := hf_τ22.1 7 (by decide)
      have w13_τ22 : τ22.1 13 = τ19.1 13 := hf_τ22.1 13 (by decide)
      have w14_τ22 : τ22.1 14 = τ19.1 14 := hf_τ22.1 14 (by decide)
      have w15_τ22 : τ22.1 15 = τ19.1 15 := hf_τ22.1 15 (by decide)
      have w17_τ22 : τ22.1 17 = τ19.1 17 := hf_τ22.1 17 (by decide)
      have w18_τ22 : τ22.1 18 = τ19.1 18 := hf_τ22.1 18 (by decide)
      have g10_τ22 : τ22.2.1 10 = τ19.2.1 10 := hf_τ22.2.1 10 (by decide)
      have g13_τ22 : τ22.2.1 13 = τ19.2.1 13 := hf_τ22.2.1 13 (by decide)
      have g14_τ22 : τ22.2.1 14 = τ19.2.1 14 := hf_τ22.2.1 14 (by decide)
      have g15_τ22 : τ22.2.1 15 = τ19.2.1 15 := hf_τ22.2.1 15 (by decide)
      have g16_τ22 : τ22.2.1 16 = τ19.2.1 16 := hf_τ22.2.1 16 (by decide)
      have g27_τ22 : τ22.2.1 27 = τ19.2.1 27 := hf_τ22.2.1 27 (by decide)
      have g28_τ22 : τ22.2.1 28 = τ19.2.1 28 := hf_τ22.2.1 28 (by decide)
      have g29_τ22 : τ22.2.1 29 = τ19.2.1 29 := hf_τ22.2.1 29 (by decide)
      have g30_τ22 : τ22.2.1 30 = τ19.2.1 30 := hf_τ22.2.1 30 (by decide)
      have g31_τ22 : τ22.2.1 31 = τ19.2.1 31 := hf_τ22.2.1 31 (by decide)
      have g32_τ22 : τ22.2.1 32 = τ19.2.1 32 := hf_τ22.2.1 32 (by decide)
      have g33_τ22 : τ22.2.1 33 = τ19.2.1 33 := hf_τ22.2.1 33 (by decide)
      have g34_τ22 : τ22.2.1 34 = τ19.2.1 34 := hf_τ22.2.1 34 (by decide)
      have g35_τ22 : τ22.2.1 35 = τ19.2.1 35 := hf_τ22.2.1 35 (by decide)
      have g36_τ22 : τ22.2.1 36 = τ19.2.1 36 := hf_τ22.2.1 36 (by decide)
      have g37_τ22 : τ22.2.1 37 = τ19.2.1 37 := hf_τ22.2.1 37 (by decide)
      have g39_τ22 : τ22.2.1 39 = τ19.2.1 39 := hf_τ22.2.1 39 (by decide)
      have g40_τ22 : τ22.2.1 40 = τ19.2.1 40 := hf_τ22.2.1 40 (by decide)
      have g41_τ22 : τ22.2.1 41 = τ19.2.1 41 := hf_τ22.2.1 41 (by decide)
      have g44_τ22 : τ22.2.1 44 = τ19.2.1 44 := hf_τ22.2.1 44 (by decide)
      have g45_τ22 : τ22.2.1 45 = τ19.2.1 45 := hf_τ22.2.1 45 (by decide)
      have W6 : τ22.1 6 = σ.1 6 := by first | exact w6_τ22.trans W6 | omega
      have W7 : τ22.1 7 = σ.1 7 := by first | exact w7_τ22.trans W7 | omega
      have W13 : τ22.1 13 = σ.1 13 := by first | exact w13_τ22.trans W13 | omega
      have W14 : τ22.1 14 = σ.1 14 := by first | exact w14_τ22.trans W14 | omega
      have W15 : τ22.1 15 = σ.1 15 := by first | exact w15_τ22.trans W15 | omega
      have G10 : τ22.2.1 10 = σ.2.1 10 := (g10_τ22).trans G10
      have G13 : τ22.2.1 13 = σ.2.1 13 := (g13_τ22).trans G13
      have G14 : τ22.2.1 14 = σ.2.1 14 := (g14_τ22).trans G14
      have G15 : τ22.2.1 15 = σ.2.1 15 := (g15_τ22).trans G15
      have G16 : τ22.2.1 16 = σ.2.1 16 := (g16_τ22).trans G16
      have G27 : τ22.2.1 27 = σ.2.1 27 := (g27_τ22).trans G27
      have G28 : τ22.2.1 28 = σ.2.1 28 := (g28_τ22).trans G28
      have G29 : τ22.2.1 29 = σ.2.1 29 := (g29_τ22).trans G29
      have G30 : τ22.2.1 30 = σ.2.1 30 := (g30_τ22).trans G30
      have G31 : τ22.2.1 31 = σ.2.1 31 := (g31_τ22).trans G31
      have G32 : τ22.2.1 32 = σ.2.1 32 := (g32_τ22).trans G32
      have G33 : τ22.2.1 33 = σ.2.1 33 := (g33_τ22).trans G33
      have G34 : τ22.2.1 34 = σ.2.1 34 := (g34_τ22).trans G34
      have G35 : τ22.2.1 35 = σ.2.1 35 := (g35_τ22).trans G35
      have G36 : τ22.2.1 36 = σ.2.1 36 := (g36_τ22).trans G36
      have G37 : τ22.2.1 37 = σ.2.1 37 := (g37_τ22).trans G37
      have CJ : J_all (τ22.1 7) (τ22.1 6) (τ22.1 13) (τ22.1 14) (τ22.1 15) (τ22.2.1 13) (τ22.2.1 14) (τ22.2.1 15) (τ22.2.1 16) (τ22.2.1 10) (τ22.2.1 27) (τ22.2.1 28) (τ22.2.1 29) (τ22.2.1 30) (τ22.2.1 31) (τ22.2.1 32) (τ22.2.1 33) (τ22.2.1 34) (τ22.2.1 35) (τ22.2.1 36) (τ22.2.1 37) := by rw [show (J_all (τ22.1 7) (τ22.1 6) (τ22.1 13) (τ22.1 14) (τ22.1 15) (τ22.2.1 13) (τ22.2.1 14) (τ22.2.1 15) (τ22.2.1 16) (τ22.2.1 10) (τ22.2.1 27) (τ22.2.1 28) (τ22.2.1 29) (τ22.2.1 30) (τ22.2.1 31) (τ22.2.1 32) (τ22.2.1 33) (τ22.2.1 34) (τ22.2.1 35) (τ22.2.1 36) (τ22.2.1 37)) = (J_all (τ19.1 7) (τ19.1 6) (τ19.1 13) (τ19.1 14) (τ19.1 15) (τ19.2.1 13) (τ19.2.1 14) (τ19.2.1 15) (τ19.2.1 16) (τ19.2.1 10) (τ19.2.1 27) (τ19.2.1 28) (τ19.2.1 29) (τ19.2.1 30) (τ19.2.1 31) (τ19.2.1 32) (τ19.2.1 33) (τ19.2.1 34) (τ19.2.1 35) (τ19.2.1 36) (τ19.2.1 37)) from by rw [w6_τ22, w7_τ22, w13_τ22, w14_τ22, w15_τ22, g10_τ22, g13_τ22, g14_τ22, g15_τ22, g16_τ22, g27_τ22, g28_τ22, g29_τ22, g30_τ22, g31_τ22, g32_τ22, g33_τ22, g34_τ22, g35_τ22, g36_τ22, g37_τ22]]; exact CJ
      have BP : J_bp (τ22.2.1 44) (τ22.2.1 45) := by rw [show (J_bp (τ22.2.1 44) (τ22.2.1 45)) = (J_bp (τ19.2.1 44) (τ19.2.1 45)) from by rw [g44_τ22, g45_τ22]]; exact BP
      have A10 : ∀ j, (-1) ≤ τ22.2.1 10 j ∧ τ22.2.1 10 j ≤ 99 := fun j => hT.2 10 j
      have A13 : ∀ j, 0 ≤ τ22.2.1 13 j ∧ τ22.2.1 13 j ≤ 4 := fun j => hT.2 13 j
      have A14 : ∀ j, 0 ≤ τ22.2.1 14 j ∧ τ22.2.1 14 j ≤ 30000 := fun j => hT.2 14 j
      have A15 : ∀ j, 0 ≤ τ22.2.1 15 j ∧ τ22.2.1 15 j ≤ 999 := fun j => hT.2 15 j
      have A16 : ∀ j, (-1) ≤ τ22.2.1 16 j ∧ τ22.2.1 16 j ≤ 1499 := fun j => hT.2 16 j
      have A27 : ∀ j, 0 ≤ τ22.2.1 27 j ∧ τ22.2.1 27 j ≤ 90000 := fun j => hT.2 27 j
      have A28 : ∀ j, 0 ≤ τ22.2.1 28 j ∧ τ22.2.1 28 j ≤ 60 := fun j => hT.2 28 j
      have A29 : ∀ j, 0 ≤ τ22.2.1 29 j ∧ τ22.2.1 29 j ≤ 1499 := fun j => hT.2 29 j
      have A30 : ∀ j, 0 ≤ τ22.2.1 30 j ∧ τ22.2.1 30 j ≤ 20000 := fun j => hT.2 30 j
      have A31 : ∀ j, 0 ≤ τ22.2.1 31 j ∧ τ22.2.1 31 j ≤ 20000 := fun j => hT.2 31 j
      have A32 : ∀ j, 0 ≤ τ22.2.1 32 j ∧ τ22.2.1 32 j ≤ 999999 := fun j => hT.2 32 j
      have A33 : ∀ j, 0 ≤ τ22.2.1 33 j ∧ τ22.2.1 33 j ≤ 20000 := fun j => hT.2 33 j
      have A34 : ∀ j, 0 ≤ τ22.2.1 34 j ∧ τ22.2.1 34 j ≤ 20000 := fun j => hT.2 34 j
      have A35 : ∀ j, 0 ≤ τ22.2.1 35 j ∧ τ22.2.1 35 j ≤ 1499 := fun j => hT.2 35 j
      have A36 : ∀ j, 0 ≤ τ22.2.1 36 j ∧ τ22.2.1 36 j ≤ 20000 := fun j => hT.2 36 j
      have A37 : ∀ j, 0 ≤ τ22.2.1 37 j ∧ τ22.2.1 37 j ≤ 19999 := fun j => hT.2 37 j
      have A39 : ∀ j, 0 ≤ τ22.2.1 39 j ∧ τ22.2.1 39 j ≤ 1060 := fun j => hT.2 39 j
      have A40 : ∀ j, 0 ≤ τ22.2.1 40 j ∧ τ22.2.1 40 j ≤ 42000 := fun j => hT.2 40 j
      have A41 : ∀ j, (-2) ≤ τ22.2.1 41 j ∧ τ22.2.1 41 j ≤ 1000 := fun j => hT.2 41 j
      have A44 : ∀ j, 0 ≤ τ22.2.1 44 j ∧ τ22.2.1 44 j ≤ 42000 := fun j => hT.2 44 j
      have A45 : ∀ j, 0 ≤ τ22.2.1 45 j ∧ τ22.2.1 45 j ≤ 1000 := fun j => hT.2 45 j
      have v6 : 0 ≤ τ22.1 6 ∧ τ22.1 6 ≤ 30000 := hT.1 6
      have v7 : 0 ≤ τ22.1 7 ∧ τ22.1 7 ≤ 1500 := hT.1 7
      have v13 : 0 ≤ τ22.1 13 ∧ τ22.1 13 ≤ 90000 := hT.1 13
      have v14 : 0 ≤ τ22.1 14 ∧ τ22.1 14 ≤ 20000 := hT.1 14
      have v15 : 0 ≤ τ22.1 15 ∧ τ22.1 15 ≤ 20000 := hT.1 15
      have v17 : 0 ≤ τ22.1 17 ∧ τ22.1 17 ≤ 42000 := hT.1 17
      have v18 : 0 ≤ τ22.1 18 ∧ τ22.1 18 ≤ 42000 := hT.1 18
      exact ⟨hT, (show J_bp (τ22.2.1 44) (τ22.2.1 45) from BP)⟩
    ·
      exact ⟨hT, (show J_bp (τ7.2.1 44) (τ7.2.1 45) from BP)⟩
set_option maxHeartbeats 1000000 in
theorem K_X12_printPacked {n1 : Int} {σ : S0} (hT : c_T σ) (p1 : J_all (σ.1 7) (σ.1 6) (σ.1 13) (σ.1 14) (σ.1 15) (σ.2.1 13) (σ.2.1 14) (σ.2.1 15) (σ.2.1 16) (σ.2.1 10) (σ.2.1 27) (σ.2.1 28) (σ.2.1 29) (σ.2.1 30) (σ.2.1 31) (σ.2.1 32) (σ.2.1 33) (σ.2.1 34) (σ.2.1 35) (σ.2.1 36) (σ.2.1 37)) : W_X12_printPacked n1 σ (fun (x : Int) (τ : S0) => (c_T τ)) := by
  have A10 : ∀ j, (-1) ≤ σ.2.1 10 j ∧ σ.2.1 10 j ≤ 99 := fun j => hT.2 10 j
  have A13 : ∀ j, 0 ≤ σ.2.1 13 j ∧ σ.2.1 13 j ≤ 4 := fun j => hT.2 13 j
  have A14 : ∀ j, 0 ≤ σ.2.1 14 j ∧ σ.2.1 14 j ≤ 30000 := fun j => hT.2 14 j
  have A15 : ∀ j, 0 ≤ σ.2.1 15 j ∧ σ.2.1 15 j ≤ 999 := fun j => hT.2 15 j
  have A16 : ∀ j, (-1) ≤ σ.2.1 16 j ∧ σ.2.1 16 j ≤ 1499 := fun j => hT.2 16 j
  have A27 : ∀ j, 0 ≤ σ.2.1 27 j ∧ σ.2.1 27 j ≤ 90000 := fun j => hT.2 27 j
  have A28 : ∀ j, 0 ≤ σ.2.1 28 j ∧ σ.2.1 28 j ≤ 60 := fun j => hT.2 28 j
  have A29 : ∀ j, 0 ≤ σ.2.1 29 j ∧ σ.2.1 29 j ≤ 1499 := fun j => hT.2 29 j
  have A30 : ∀ j, 0 ≤ σ.2.1 30 j ∧ σ.2.1 30 j ≤ 20000 := fun j => hT.2 30 j
  have A31 : ∀ j, 0 ≤ σ.2.1 31 j ∧ σ.2.1 31 j ≤ 20000 := fun j => hT.2 31 j
  have A32 : ∀ j, 0 ≤ σ.2.1 32 j ∧ σ.2.1 32 j ≤ 999999 := fun j => hT.2 32 j
  have A33 : ∀ j, 0 ≤ σ.2.1 33 j ∧ σ.2.1 33 j ≤ 20000 := fun j => hT.2 33 j
  have A34 : ∀ j, 0 ≤ σ.2.1 34 j ∧ σ.2.1 34 j ≤ 20000 := fun j => hT.2 34 j
  have A35 : ∀ j, 0 ≤ σ.2.1 35 j ∧ σ.2.1 35 j ≤ 1499 := fun j => hT.2 35 j
  have A36 : ∀ j, 0 ≤ σ.2.1 36 j ∧ σ.2.1 36 j ≤ 20000 := fun j => hT.2 36 j
  have A37 : ∀ j, 0 ≤ σ.2.1 37 j ∧ σ.2.1 37 j ≤ 19999 := fun j => hT.2 37 j
  have A55 : ∀ j, 0 ≤ σ.2.1 55 j ∧ σ.2.1 55 j ≤ 19999 := fun j => hT.2 55 j
  have A62 : ∀ j, (-20000) ≤ σ.2.1 62 j ∧ σ.2.1 62 j ≤ 19999 := fun j => hT.2 62 j
  have v6 : 0 ≤ σ.1 6 ∧ σ.1 6 ≤ 30000 := hT.1 6
  have v7 : 0 ≤ σ.1 7 ∧ σ.1 7 ≤ 1500 := hT.1 7
  have v13 : 0 ≤ σ.1 13 ∧ σ.1 13 ≤ 90000 := hT.1 13
  have v14 : 0 ≤ σ.1 14 ∧ σ.1 14 ≤ 20000 := hT.1 14
  have v15 : 0 ≤ σ.1 15 ∧ σ.1 15 ≤ 20000 := hT.1 15
  have v40 : 0 ≤ σ.1 40 ∧ σ.1 40 ≤ 1500 := hT.1 40
  have v41 : 0 ≤ σ.1 41 ∧ σ.1 41 ≤ 20001 := hT.1 41
  have v44 : 0 ≤ σ.1 44 ∧ σ.1 44 ≤ 20000 := hT.1 44
  have v63 : 0 ≤ σ.1 63 ∧ σ.1 63 ≤ 24000 := hT.1 63
  have W6 : σ.1 6 = σ.1 6 := rfl
  have W7 : σ.1 7 = σ.1 7 := rfl
  have W13 : σ.1 13 = σ.1 13 := rfl
  have W14 : σ.1 14 = σ.1 14 := rfl
  have W15 : σ.1 15 = σ.1 15 := rfl
  have G10 : σ.2.1 10 = σ.2.1 10 := rfl
  have G13 : σ.2.1 13 = σ.2.1 13 := rfl
  have G14 : σ.2.1 14 = σ.2.1 14 := rfl
  have G15 : σ.2.1 15 = σ.2.1 15 := rfl
  have G16 : σ.2.1 16 = σ.2.1 16 := rfl
  have G27 : σ.2.1 27 = σ.2.1 27 := rfl
  have G28 : σ.2.1 28 = σ.2.1 28 := rfl
  have G29 : σ.2.1 29 = σ.2.1 29 := rfl
  have G30 : σ.2.1 30 = σ.2.1 30 := rfl
  have G31 : σ.2.1 31 = σ.2.1 31 := rfl
  have G32 : σ.2.1 32 = σ.2.1 32 := rfl
  have G33 : σ.2.1 33 = σ.2.1 33 := rfl
  have G34 : σ.2.1 34 = σ.2.1 34 := rfl
  have G35 : σ.2.1 35 = σ.2.1 35 := rfl
  have G36 : σ.2.1 36 = σ.2.1 36 := rfl
  have G37 : σ.2.1 37 = σ.2.1 37 := rfl
  intro P39 P98 h39 h98
  have CJ : J_all (σ.1 7) (σ.1 6) (σ.1 13) (σ.1 14) (σ.1 15) (σ.2.1 13) (σ.2.1 14) (σ.2.1 15) (σ.2.1 16) (σ.2.1 10) (σ.2.1 27) (σ.2.1 28) (σ.2.1 29) (σ.2.1 30) (σ.2.1 31) (σ.2.1 32) (σ.2.1 33) (σ.2.1 34) (σ.2.1 35) (σ.2.1 36) (σ.2.1 37) := p1
  have CJ_0 := CJ
  have l_98 : ∀ (m_98 : Nat) (u2_98 : Int) (τ_98 : S0), 20002 - u2_98 < (m_98 : Int) → (c_T τ_98) → (τ_98.1 6 = σ.1 6) → (τ_98.1 7 = σ.1 7) → (τ_98.1 13 = σ.1 13) → (τ_98.1 14 = σ.1 14) → (τ_98.1 15 = σ.1 15) → (τ_98.2.1 10 = σ.2.1 10) → (τ_98.2.1 13 = σ.2.1 13) → (τ_98.2.1 14 = σ.2.1 14) → (τ_98.2.1 15 = σ.2.1 15) → (τ_98.2.1 16 = σ.2.1 16) → (τ_98.2.1 27 = σ.2.1 27) → (τ_98.2.1 28 = σ.2.1 28) → (τ_98.2.1 29 = σ.2.1 29) → (τ_98.2.1 30 = σ.2.1 30) → (τ_98.2.1 31 = σ.2.1 31) → (τ_98.2.1 32 = σ.2.1 32) → (τ_98.2.1 33 = σ.2.1 33) → (τ_98.2.1 34 = σ.2.1 34) → (τ_98.2.1 35 = σ.2.1 35) → (τ_98.2.1 36 = σ.2.1 36) → (τ_98.2.1 37 = σ.2.1 37) → (0 ≤ u2_98 ∧ u2_98 ≤ 20001) → (J_tr (τ_98.1 41) ((τ_98.1 15) - 1 - (τ_98.1 44)) (τ_98.1 44) (τ_98.2.1 62) (τ_98.2.1 55) (τ_98.2.1 36)) → ((τ_98.1 44) ≤ (σ.1 15) - 1) → P98 u2_98 τ_98 := by
    intro m_98
    induction m_98 with
    | zero =>
      intro u2_98 τ_98 hm hT W6 W7 W13 W14 W15 G10 G13 G14 G15 G16 G27 G28 G29 G30 G31 G32 G33 G34 G35 G36 G37 i98_1 i98_2 i98_3
      have A10 : ∀ j, (-1) ≤ τ_98.2.1 10 j ∧ τ_98.2.1 10 j ≤ 99 := fun j => hT.2 10 j
      have A13 : ∀ j, 0 ≤ τ_98.2.1 13 j ∧ τ_98.2.1 13 j ≤ 4 := fun j => hT.2 13 j
      have A14 : ∀ j, 0 ≤ τ_98.2.1 14 j ∧ τ_98.2.1 14 j ≤ 30000 := fun j => hT.2 14 j
      have A15 : ∀ j, 0 ≤ τ_98.2.1 15 j ∧ τ_98.2.1 15 j ≤ 999 := fun j => hT.2 15 j
      have A16 : ∀ j, (-1) ≤ τ_98.2.1 16 j ∧ τ_98.2.1 16 j ≤ 1499 := fun j => hT.2 16 j
      have A27 : ∀ j, 0 ≤ τ_98.2.1 27 j ∧ τ_98.2.1 27 j ≤ 90000 := fun j => hT.2 27 j
      have A28 : ∀ j, 0 ≤ τ_98.2.1 28 j ∧ τ_98.2.1 28 j ≤ 60 := fun j => hT.2 28 j
      have A29 : ∀ j, 0 ≤ τ_98.2.1 29 j ∧ τ_98.2.1 29 j ≤ 1499 := fun j => hT.2 29 j
      have A30 : ∀ j, 0 ≤ τ_98.2.1 30 j ∧ τ_98.2.1 30 j ≤ 20000 := fun j => hT.2 30 j
      have A31 : ∀ j, 0 ≤ τ_98.2.1 31 j ∧ τ_98.2.1 31 j ≤ 20000 := fun j => hT.2 31 j
      have A32 : ∀ j, 0 ≤ τ_98.2.1 32 j ∧ τ_98.2.1 32 j ≤ 999999 := fun j => hT.2 32 j
      have A33 : ∀ j, 0 ≤ τ_98.2.1 33 j ∧ τ_98.2.1 33 j ≤ 20000 := fun j => hT.2 33 j
      have A34 : ∀ j, 0 ≤ τ_98.2.1 34 j ∧ τ_98.2.1 34 j ≤ 20000 := fun j => hT.2 34 j
      have A35 : ∀ j, 0 ≤ τ_98.2.1 35 j ∧ τ_98.2.1 35 j ≤ 1499 := fun j => hT.2 35 j
      have A36 : ∀ j, 0 ≤ τ_98.2.1 36 j ∧ τ_98.2.1 36 j ≤ 20000 := fun j => hT.2 36 j
      have A37 : ∀ j, 0 ≤ τ_98.2.1 37 j ∧ τ_98.2.1 37 j ≤ 19999 := fun j => hT.2 37 j
      have A55 : ∀ j, 0 ≤ τ_98.2.1 55 j ∧ τ_98.2.1 55 j ≤ 19999 := fun j => hT.2 55 j
      have A62 : ∀ j, (-20000) ≤ τ_98.2.1 62 j ∧ τ_98.2.1 62 j ≤ 19999 := fun j => hT.2 62 j
      have v6 : 0 ≤ τ_98.1 6 ∧ τ_98.1 6 ≤ 30000 := hT.1 6
      have v7 : 0 ≤ τ_98.1 7 ∧ τ_98.1 7 ≤ 1500 := hT.1 7
      have v13 : 0 ≤ τ_98.1 13 ∧ τ_98.1 13 ≤ 90000 := hT.1 13
      have v14 : 0 ≤ τ_98.1 14 ∧ τ_98.1 14 ≤ 20000 := hT.1 14
      have v15 : 0 ≤ τ_98.1 15 ∧ τ_98.1 15 ≤ 20000 := hT.1 15
      have v40 : 0 ≤ τ_98.1 40 ∧ τ_98.1 40 ≤ 1500 := hT.1 40
      have v41 : 0 ≤ τ_98.1 41 ∧ τ_98.1 41 ≤ 20001 := hT.1 41
      have v44 : 0 ≤ τ_98.1 44 ∧ τ_98.1 44 ≤ 20000 := hT.1 44
      have v63 : 0 ≤ τ_98.1 63 ∧ τ_98.1 63 ≤ 24000 := hT.1 63
      exfalso; (first | omega | (simp only [st_s] <;> omega) | assumption | omega | fail)
    | succ m_98 ih_98 =>
      intro u2_98 τ_98 hm_98 hT W6 W7 W13 W14 W15 G10 G13 G14 G15 G16 G27 G28 G29 G30 G31 G32 G33 G34 G35 G36 G37 i98_1 i98_2 i98_3
      have A10 : ∀ j, (-1) ≤ τ_98.2.1 10 j ∧ τ_98.2.1 10 j ≤ 99 := fun j => hT.2 10 j
      have A13 : ∀ j, 0 ≤ τ_98.2.1 13 j ∧ τ_98.2.1 13 j ≤ 4 := fun j => hT.2 13 j
      have A14 : ∀ j, 0 ≤ τ_98.2.1 14 j ∧ τ_98.2.1 14 j ≤ 30000 := fun j => hT.2 14 j
      have A15 : ∀ j, 0 ≤ τ_98.2.1 15 j ∧ τ_98.2.1 15 j ≤ 999 := fun j => hT.2 15 j
      have A16 : ∀ j, (-1) ≤ τ_98.2.1 16 j ∧ τ_98.2.1 16 j ≤ 1499 := fun j => hT.2 16 j
      have A27 : ∀ j, 0 ≤ τ_98.2.1 27 j ∧ τ_98.2.1 27 j ≤ 90000 := fun j => hT.2 27 j
      have A28 : ∀ j, 0 ≤ τ_98.2.1 28 j ∧ τ_98.2.1 28 j ≤ 60 := fun j => hT.2 28 j
      have A29 : ∀ j, 0 ≤ τ_98.2.1 29 j ∧ τ_98.2.1 29 j ≤ 1499 := fun j => hT.2 29 j
      have A30 : ∀ j, 0 ≤ τ_98.2.1 30 j ∧ τ_98.2.1 30 j ≤ 20000 := fun j => hT.2 30 j
      have A31 : ∀ j, 0 ≤ τ_98.2.1 31 j ∧ τ_98.2.1 31 j ≤ 20000 := fun j => hT.2 31 j
      have A32 : ∀ j, 0 ≤ τ_98.2.1 32 j ∧ τ_98.2.1 32 j ≤ 999999 := fun j => hT.2 32 j
      have A33 : ∀ j, 0 ≤ τ_98.2.1 33 j ∧ τ_98.2.1 33 j ≤ 20000 := fun j => hT.2 33 j
      have A34 : ∀ j, 0 ≤ τ_98.2.1 34 j ∧ τ_98.2.1 34 j ≤ 20000 := fun j => hT.2 34 j
      have A35 : ∀ j, 0 ≤ τ_98.2.1 35 j ∧ τ_98.2.1 35 j ≤ 1499 := fun j => hT.2 35 j
      have A36 : ∀ j, 0 ≤ τ_98.2.1 36 j ∧ τ_98.2.1 36 j ≤ 20000 := fun j => hT.2 36 j
      have A37 : ∀ j, 0 ≤ τ_98.2.1 37 j ∧ τ_98.2.1 37 j ≤ 19999 := fun j => hT.2 37 j
      have A55 : ∀ j, 0 ≤ τ_98.2.1 55 j ∧ τ_98.2.1 55 j ≤ 19999 := fun j => hT.2 55 j
      have A62 : ∀ j, (-20000) ≤ τ_98.2.1 62 j ∧ τ_98.2.1 62 j ≤ 19999 := fun j => hT.2 62 j
      have v6 : 0 ≤ τ_98.1 6 ∧ τ_98.1 6 ≤ 30000 := hT.1 6
      have v7 : 0 ≤ τ_98.1 7 ∧ τ_98.1 7 ≤ 1500 := hT.1 7
      have v13 : 0 ≤ τ_98.1 13 ∧ τ_98.1 13 ≤ 90000 := hT.1 13
      have v14 : 0 ≤ τ_98.1 14 ∧ τ_98.1 14 ≤ 20000 := hT.1 14
      have v15 : 0 ≤ τ_98.1 15 ∧ τ_98.1 15 ≤ 20000 := hT.1 15
      have v40 : 0 ≤ τ_98.1 40 ∧ τ_98.1 40 ≤ 1500 := hT.1 40
      have v41 : 0 ≤ τ_98.1 41 ∧ τ_98.1 41 ≤ 20001 := hT.1 41
      have v44 : 0 ≤ τ_98.1 44 ∧ τ_98.1 44 ≤ 20000 := hT.1 44
      have v63 : 0 ≤ τ_98.1 63 ∧ τ_98.1 63 ≤ 24000 := hT.1 63
      have CJ : J_all (τ_98.1 7) (τ_98.1 6) (τ_98.1 13) (τ_98.1 14) (τ_98.1 15) (τ_98.2.1 13) (τ_98.2.1 14) (τ_98.2.1 15) (τ_98.2.1 16) (τ_98.2.1 10) (τ_98.2.1 27) (τ_98.2.1 28) (τ_98.2.1 29) (τ_98.2.1 30) (τ_98.2.1 31) (τ_98.2.1 32) (τ_98.2.1 33) (τ_98.2.1 34) (τ_98.2.1 35) (τ_98.2.1 36) (τ_98.2.1 37) := by rw [show (J_all (τ_98.1 7) (τ_98.1 6) (τ_98.1 13) (τ_98.1 14) (τ_98.1 15) (τ_98.2.1 13) (τ_98.2.1 14) (τ_98.2.1 15) (τ_98.2.1 16) (τ_98.2.1 10) (τ_98.2.1 27) (τ_98.2.1 28) (τ_98.2.1 29) (τ_98.2.1 30) (τ_98.2.1 31) (τ_98.2.1 32) (τ_98.2.1 33) (τ_98.2.1 34) (τ_98.2.1 35) (τ_98.2.1 36) (τ_98.2.1 37)) = (J_all (σ.1 7) (σ.1 6) (σ.1 13) (σ.1 14) (σ.1 15) (σ.2.1 13) (σ.2.1 14) (σ.2.1 15) (σ.2.1 16) (σ.2.1 10) (σ.2.1 27) (σ.2.1 28) (σ.2.1 29) (σ.2.1 30) (σ.2.1 31) (σ.2.1 32) (σ.2.1 33) (σ.2.1 34) (σ.2.1 35) (σ.2.1 36) (σ.2.1 37)) from by rw [W6, W7, W13, W14, W15, G10, G13, G14, G15, G16, G27, G28, G29, G30, G31, G32, G33, G34, G35, G36, G37]]; exact CJ_0
      have TR : J_tr (τ_98.1 41) ((τ_98.1 15) - 1 - (τ_98.1 44)) (τ_98.1 44) (τ_98.2.1 62) (τ_98.2.1 55) (τ_98.2.1 36) := i98_2
      refine h98 u2_98 τ_98 ?_
      refine ⟨fun c29 => ?_, fun c29 => ?_⟩
      ·
        refine ⟨_, K_X5_finish hT, ?_⟩
        intro x31 τ32 r_x31 hn_τ32 hf_τ32 hq
        replace hT := hq
        have w6_τ32 : τ32.1 6 = τ_98.1 6 := hf_τ32.1 6 (by decide)
        have w7_τ32 : τ32.1 7 = τ_98.1 7 := hf_τ32.1 7 (by decide)
        have w13_τ32 : τ32.1 13 = τ_98.1 13 := hf_τ32.1 13 (by decide)
        have w14_τ32 : τ32.1 14 = τ_98.1 14 := hf_τ32.1 14 (by decide)
        have w15_τ32 : τ32.1 15 = τ_98.1 15 := hf_τ32.1 15 (by decide)
        have w40_τ32 : τ32.1 40 = τ_98.1 40 := hf_τ32.1 40 (by decide)
        have w41_τ32 : τ32.1 41 = τ_98.1 41 := hf_τ32.1 41 (by decide)
        have w44_τ32 : τ32.1 44 = τ_98.1 44 := hf_τ32.1 44 (by decide)
        have w63_τ32 : τ32.1 63 = τ_98.1 63 := hf_τ32.1 63 (by decide)
        have g10_τ32 : τ32.2.1 10 = τ_98.2.1 10 := hf_τ32.2.1 10 (by decide)
        have g13_τ32 : τ32.2.1 13 = τ_98.2.1 13 := hf_τ32.2.1 13 (by decide)
        have g14_τ32 : τ32.2.1 14 = τ_98.2.1 14 := hf_τ32.2.1 14 (by decide)
        have g15_τ32 : τ32.2.1 15 = τ_98.2.1 15 := hf_τ32.2.1 15 (by decide)
        have g16_τ32 : τ32.2.1 16 = τ_98.2.1 16 := hf_τ32.2.1 16 (by decide)
        have g27_τ32 : τ32.2.1 27 = τ_98.2.1 27 := hf_τ32.2.1 27 (by decide)
        have g28_τ32 : τ32.2.1 28 = τ_98.2.1 28 := hf_τ32.2.1 28 (by decide)
        have g29_τ32 : τ32.2.1 29 = τ_98.2.1 29 := hf_τ32.2.1 29 (by decide)
        have g30_τ32 : τ32.2.1 30 = τ_98.2.1 30 := hf_τ32.2.1 30 (by decide)
        have g31_τ32 : τ32.2.1 31 = τ_98.2.1 31 := hf_τ32.2.1 31 (by decide)
        have g32_τ32 : τ32.2.1 32 = τ_98.2.1 32 := hf_τ32.2.1 32 (by decide)
        have g33_τ32 : τ32.2.1 33 = τ_98.2.1 33 := hf_τ32.2.1 33 (by decide)
        have g34_τ32 : τ32.2.1 34 = τ_98.2.1 34 := hf_τ32.2.1 34 (by decide)
        have g35_τ32 : τ32.2.1 35 = τ_98.2.1 35 := hf_τ32.2.1 35 (by decide)
        have g36_τ32 : τ32.2.1 36 = τ_98.2.1 36 := hf_τ32.2.1 36 (by decide)
        have g37_τ32 : τ32.2.1 37 = τ_98.2.1 37 := hf_τ32.2.1 37 (by decide)
        have g55_τ32 : τ32.2.1 55 = τ_98.2.1 55 := hf_τ32.2.1 55 (by decide)
        have g62_τ32 : τ32.2.1 62 = τ_98.2.1 62 := hf_τ32.2.1 62 (by decide)
        have W6 : τ32.1 6 = σ.1 6 := by first | exact w6_τ32.trans W6 | omega
        have W7 : τ32.1 7 = σ.1 7 := by first | exact w7_τ32.trans W7 | omega
        have W13 : τ32.1 13 = σ.1 13 := by first | exact w13_τ32.trans W13 | omega
        have W14 : τ32.1 14 = σ.1 14 := by first | exact w14_τ32.trans W14 | omega
        have W15 : τ32.1 15 = σ.1 15 := by first | exact w15_τ32.trans W15 | omega
        have G10 : τ32.2.1 10 = σ.2.1 10 := (g10_τ32).trans G10
        have G13 : τ32.2.1 13 = σ.2.1 13 := (g13_τ32).trans G13
        have G14 : τ32.2.1 14 = σ.2.1 14 := (g14_τ32).trans G14
        have G15 : τ32.2.1 15 = σ.2.1 15 := (g15_τ32).trans G15
        have G16 : τ32.2.1 16 = σ.2.1 16 := (g16_τ32).trans G16
        have G27 : τ32.2.1 27 = σ.2.1 27 := (g27_τ32).trans G27
        have G28 : τ32.2.1 28 = σ.2.1 28 := (g28_τ32).trans G28
        have G29 : τ32.2.1 29 = σ.2.1 29 := (g29_τ32).trans G29
        have G30 : τ32.2.1 30 = σ.2.1 30 := (g30_τ32).trans G30
        have G31 : τ32.2.1 31 = σ.2.1 31 := (g31_τ32).trans G31
        have G32 : τ32.2.1 32 = σ.2.1 32 := (g32_τ32).trans G32
        have G33 : τ32.2.1 33 = σ.2.1 33 := (g33_τ32).trans G33
        have G34 : τ32.2.1 34 = σ.2.1 34 := (g34_τ32).trans G34
        have G35 : τ32.2.1 35 = σ.2.1 35 := (g35_τ32).trans G35
        have G36 : τ32.2.1 36 = σ.2.1 36 := (g36_τ32).trans G36
        have G37 : τ32.2.1 37 = σ.2.1 37 := (g37_τ32).trans G37
        have CJ : J_all (τ32.1 7) (τ32.1 6) (τ32.1 13) (τ32.1 14) (τ32.1 15) (τ32.2.1 13) (τ32.2.1 14) (τ32.2.1 15) (τ32.2.1 16) (τ32.2.1 10) (τ32.2.1 27) (τ32.2.1 28) (τ32.2.1 29) (τ32.2.1 30) (τ32.2.1 31) (τ32.2.1 32) (τ32.2.1 33) (τ32.2.1 34) (τ32.2.1 35) (τ32.2.1 36) (τ32.2.1 37) := by rw [show (J_all (τ32.1 7) (τ32.1 6) (τ32.1 13) (τ32.1 14) (τ32.1 15) (τ32.2.1 13) (τ32.2.1 14) (τ32.2.1 15) (τ32.2.1 16) (τ32.2.1 10) (τ32.2.1 27) (τ32.2.1 28) (τ32.2.1 29) (τ32.2.1 30) (τ32.2.1 31) (τ32.2.1 32) (τ32.2.1 33) (τ32.2.1 34) (τ32.2.1 35) (τ32.2.1 36) (τ32.2.1 37)) = (J_all (τ_98.1 7) (τ_98.1 6) (τ_98.1 13) (τ_98.1 14) (τ_98.1 15) (τ_98.2.1 13) (τ_98.2.1 14) (τ_98.2.1 15) (τ_98.2.1 16) (τ_98.2.1 10) (τ_98.2.1 27) (τ_98.2.1 28) (τ_98.2.1 29) (τ_98.2.1 30) (τ_98.2.1 31) (τ_98.2.1 32) (τ_98.2.1 33) (τ_98.2.1 34) (τ_98.2.1 35) (τ_98.2.1 36) (τ_98.2.1 37)) from by rw [w6_τ32, w7_τ32, w13_τ32, w14_τ32, w15_τ32, g10_τ32, g13_τ32, g14_τ32, g15_τ32, g16_τ32, g27_τ32, g28_τ32, g29_τ32, g30_τ32, g31_τ32, g32_τ32, g33_τ32, g34_τ32, g35_τ32, g36_τ32, g37_τ32]]; exact CJ
        have TR : J_tr (τ32.1 41) ((τ32.1 15) - 1 - (τ32.1 44)) (τ32.1 44) (τ32.2.1 62) (τ32.2.1 55) (τ32.2.1 36) := by rw [show (J_tr (τ32.1 41) ((τ32.1 15) - 1 - (τ32.1 44)) (τ32.1 44) (τ32.2.1 62) (τ32.2.1 55) (τ32.2.1 36)) = (J_tr (τ_98.1 41) ((τ_98.1 15) - 1 - (τ_98.1 44)) (τ_98.1 44) (τ_98.2.1 62) (τ_98.2.1 55) (τ_98.2.1 36)) from by rw [w15_τ32, w41_τ32, w44_τ32, g36_τ32, g55_τ32, g62_τ32]]; exact TR
        have A10 : ∀ j, (-1) ≤ τ32.2.1 10 j ∧ τ32.2.1 10 j ≤ 99 := fun j => hT.2 10 j
        have A13 : ∀ j, 0 ≤ τ32.2.1 13 j ∧ τ32.2.1 13 j ≤ 4 := fun j => hT.2 13 j
        have A14 : ∀ j, 0 ≤ τ32.2.1 14 j ∧ τ32.2.1 14 j ≤ 30000 := fun j => hT.2 14 j
        have A15 : ∀ j, 0 ≤ τ32.2.1 15 j ∧ τ32.2.1 15 j ≤ 999 := fun j => hT.2 15 j
        have A16 : ∀ j, (-1) ≤ τ32.2.1 16 j ∧ τ32.2.1 16 j ≤ 1499 := fun j => hT.2 16 j
        have A27 : ∀ j, 0 ≤ τ32.2.1 27 j ∧ τ32.2.1 27 j ≤ 90000 := fun j => hT.2 27 j
        have A28 : ∀ j, 0 ≤ τ32.2.1 28 j ∧ τ32.2.1 28 j ≤ 60 := fun j => hT.2 28 j
        have A29 : ∀ j, 0 ≤ τ32.2.1 29 j ∧ τ32.2.1 29 j ≤ 1499 := fun j => hT.2 29 j
        have A30 : ∀ j, 0 ≤ τ32.2.1 30 j ∧ τ32.2.1 30 j ≤ 20000 := fun j => hT.2 30 j
        have A31 : ∀ j, 0 ≤ τ32.2.1 31 j ∧ τ32.2.1 31 j ≤ 20000 := fun j => hT.2 31 j
        have A32 : ∀ j, 0 ≤ τ32.2.1 32 j ∧ τ32.2.1 32 j ≤ 999999 := fun j => hT.2 32 j
        have A33 : ∀ j, 0 ≤ τ32.2.1 33 j ∧ τ32.2.1 33 j ≤ 20000 := fun j => hT.2 33 j
        have A34 : ∀ j, 0 ≤ τ32.2.1 34 j ∧ τ32.2.1 34 j ≤ 20000 := fun j => hT.2 34 j
        have A35 : ∀ j, 0 ≤ τ32.2.1 35 j ∧ τ32.2.1 35 j ≤ 1499 := fun j => hT.2 35 j
        have A36 : ∀ j, 0 ≤ τ32.2.1 36 j ∧ τ32.2.1 36 j ≤ 20000 := fun j => hT.2 36 j
        have A37 : ∀ j, 0 ≤ τ32.2.1 37 j ∧ τ32.2.1 37 j ≤ 19999 := fun j => hT.2 37 j
        have A55 : ∀ j, 0 ≤ τ32.2.1 55 j ∧ τ32.2.1 55 j ≤ 19999 := fun j => hT.2 55 j
        have A62 : ∀ j, (-20000) ≤ τ32.2.1 62 j ∧ τ32.2.1 62 j ≤ 19999 := fun j => hT.2 62 j
        have v6 : 0 ≤ τ32.1 6 ∧ τ32.1 6 ≤ 30000 := hT.1 6
        have v7 : 0 ≤ τ32.1 7 ∧ τ32.1 7 ≤ 1500 := hT.1 7
        have v13 : 0 ≤ τ32.1 13 ∧ τ32.1 13 ≤ 90000 := hT.1 13
        have v14 : 0 ≤ τ32.1 14 ∧ τ32.1 14 ≤ 20000 := hT.1 14
        have v15 : 0 ≤ τ32.1 15 ∧ τ32.1 15 ≤ 20000 := hT.1 15
        have v40 : 0 ≤ τ32.1 40 ∧ τ32.1 40 ≤ 1500 := hT.1 40
        have v41 : 0 ≤ τ32.1 41 ∧ τ32.1 41 ≤ 20001 := hT.1 41
        have v44 : 0 ≤ τ32.1 44 ∧ τ32.1 44 ≤ 20000 := hT.1 44
        have v63 : 0 ≤ τ32.1 63 ∧ τ32.1 63 ≤ 24000 := hT.1 63
        exact hT
      ·
        have tr := J_tr_le TR (n := u2_98) (by omega) (by omega) (by omega)
        refine ⟨_, K_X4_numberOf hT (show 0 ≤ u2_98 from by (first | omega | (simp only [st_s] <;> omega) | assumption | omega | fail)) (show u2_98 < 20001 from by (first | omega | (simp only [st_s] <;> omega) | assumption | omega | fail)) (show τ_98.2.1 62 u2_98 ≤ (τ_98.1 15) - 1 - (τ_98.1 44) from by (first | omega | (simp only [st_s] <;> omega) | assumption | omega | fail)), ?_⟩
        intro x34 r_x34 hq
        have q33_1 := hq
        replace q33_1 : 0 ≤ x34 ∧ x34 ≤ 30000 := q33_1
        refine ⟨_, K_X5_putNumber hT (show 0 ≤ x34 from by (first | omega | (simp only [st_s] <;> omega) | assumption | omega | fail)) (show x34 ≤ 30000 from by (first | omega | (simp only [st_s] <;> omega) | assumption | omega | fail)), ?_⟩
        intro τ38 hn_τ38 hf_τ38 hq
        replace hT := hq
        have w6_τ38 : τ38.1 6 = τ_98.1 6 := hf_τ38.1 6 (by decide)
        have w7_τ38 : τ38.1 7 = τ_98.1 7 := hf_τ38.1 7 (by decide)
        have w13_τ38 : τ38.1 13 = τ_98.1 13 := hf_τ38.1 13 (by decide)
        have w14_τ38 : τ38.1 14 = τ_98.1 14 := hf_τ38.1 14 (by decide)
        have w15_τ38 : τ38.1 15 = τ_98.1 15 := hf_τ38.1 15 (by decide)
        have w40_τ38 : τ38.1 40 = τ_98.1 40 := hf_τ38.1 40 (by decide)
        have w41_τ38 : τ38.1 41 = τ_98.1 41 := hf_τ38.1 41 (by decide)
        have w44_τ38 : τ38.1 44 = τ_98.1 44 := hf_τ38.1 44 (by decide)
        have g10_τ38 : τ38.2.1 10 = τ_98.2.1 10 := hf_τ38.2.1 10 (by decide)
        have g13_τ38 : τ38.2.1 13 = τ_98.2.1 13 := hf_τ38.2.1 13 (by decide)
        have g14_τ38 : τ38.2.1 14 = τ_98.2.1 14 := hf_τ38.2.1 14 (by decide)
        have g15_τ38 : τ38.2.1 15 = τ_98.2.1 15 := hf_τ38.2.1 15 (by decide)
        have g16_τ38 : τ38.2.1 16 = τ_98.2.1 16 := hf_τ38.2.1 16 (by decide)
        have g27_τ38 : τ38.2.1 27 = τ_98.2.1 27 := hf_τ38.2.1 27 (by decide)
        have g28_τ38 : τ38.2.1 28 = τ_98.2.1 28 := hf_τ38.2.1 28 (by decide)
        have g29_τ38 : τ38.2.1 29 = τ_98.2.1 29 := hf_τ38.2.1 29 (by decide)
        have g30_τ38 : τ38.2.1 30 = τ_98.2.1 30 := hf_τ38.2.1 30 (by decide)
        have g31_τ38 : τ38.2.1 31 = τ_98.2.1 31 := hf_τ38.2.1 31 (by decide)
        have g32_τ38 : τ38.2.1 32 = τ_98.2.1 32 := hf_τ38.2.1 32 (by decide)
        have g33_τ38 : τ38.2.1 33 = τ_98.2.1 33 := hf_τ38.2.1 33 (by decide)
        have g34_τ38 : τ38.2.1 34 = τ_98.2.1 34 := hf_τ38.2.1 34 (by decide)
        have g35_τ38 : τ38.2.1 35 = τ_98.2.1 35 := hf_τ38.2.1 35 (by decide)
        have g36_τ38 : τ38.2.1 36 = τ_98.2.1 36 := hf_τ38.2.1 36 (by decide)
        have g37_τ38 : τ38.2.1 37 = τ_98.2.1 37 := hf_τ38.2.1 37 (by decide)
        have g55_τ38 : τ38.2.1 55 = τ_98.2.1 55 := hf_τ38.2.1 55 (by decide)
        have g62_τ38 : τ38.2.1 62 = τ_98.2.1 62 := hf_τ38.2.1 62 (by decide)
        have W6 : τ38.1 6 = σ.1 6 := by first | exact w6_τ38.trans W6 | omega
        have W7 : τ38.1 7 = σ.1 7 := by first | exact w7_τ38.trans W7 | omega
        have W13 : τ38.1 13 = σ.1 13 := by first | exact w13_τ38.trans W13 | omega
        have W14 : τ38.1 14 = σ.1 14 := by first | exact w14_τ38.trans W14 | omega
        have W15 : τ38.1 15 = σ.1 15 := by first | exact w15_τ38.trans W15 | omega
        have G10 : τ38.2.1 10 = σ.2.1 10 := (g10_τ38).trans G10
        have G13 : τ38.2.1 13 = σ.2.1 13 := (g13_τ38).trans G13
        have G14 : τ38.2.1 14 = σ.2.1 14 := (g14_τ38).trans G14
        have G15 : τ38.2.1 15 = σ.2.1 15 := (g15_τ38).trans G15
        have G16 : τ38.2.1 16 = σ.2.1 16 := (g16_τ38).trans G16
        have G27 : τ38.2.1 27 = σ.2.1 27 := (g27_τ38).trans G27
        have G28 : τ38.2.1 28 = σ.2.1 28 := (g28_τ38).trans G28
        have G29 : τ38.2.1 29 = σ.2.1 29 := (g29_τ38).trans G29
        have G30 : τ38.2.1 30 = σ.2.1 30 := (g30_τ38).trans G30
        have G31 : τ38.2.1 31 = σ.2.1 31 := (g31_τ38).trans G31
        have G32 : τ38.2.1 32 = σ.2.1 32 := (g32_τ38).trans G32
        have G33 : τ38.2.1 33 = σ.2.1 33 := (g33_τ38).trans G33
        have G34 : τ38.2.1 34 = σ.2.1 34 := (g34_τ38).trans G34
        have G35 : τ38.2.1 35 = σ.2.1 35 := (g35_τ38).trans G35
        have G36 : τ38.2.1 36 = σ.2.1 36 := (g36_τ38).trans G36
        have G37 : τ38.2.1 37 = σ.2.1 37 := (g37_τ38).trans G37
        have CJ : J_all (τ38.1 7) (τ38.1 6) (τ38.1 13) (τ38.1 14) (τ38.1 15) (τ38.2.1 13) (τ38.2.1 14) (τ38.2.1 15) (τ38.2.1 16) (τ38.2.1 10) (τ38.2.1 27) (τ38.2.1 28) (τ38.2.1 29) (τ38.2.1 30) (τ38.2.1 31) (τ38.2.1 32) (τ38.2.1 33) (τ38.2.1 34) (τ38.2.1 35) (τ38.2.1 36) (τ38.2.1 37) := by rw [show (J_all (τ38.1 7) (τ38.1 6) (τ38.1 13) (τ38.1 14) (τ38.1 15) (τ38.2.1 13) (τ38.2.1 14) (τ38.2.1 15) (τ38.2.1 16) (τ38.2.1 10) (τ38.2.1 27) (τ38.2.1 28) (τ38.2.1 29) (τ38.2.1 30) (τ38.2.1 31) (τ38.2.1 32) (τ38.2.1 33) (τ38.2.1 34) (τ38.2.1 35) (τ38.2.1 36) (τ38.2.1 37)) = (J_all (τ_98.1 7) (τ_98.1 6) (τ_98.1 13) (τ_98.1 14) (τ_98.1 15) (τ_98.2.1 13) (τ_98.2.1 14) (τ_98.2.1 15) (τ_98.2.1 16) (τ_98.2.1 10) (τ_98.2.1 27) (τ_98.2.1 28) (τ_98.2.1 29) (τ_98.2.1 30) (τ_98.2.1 31) (τ_98.2.1 32) (τ_98.2.1 33) (τ_98.2.1 34) (τ_98.2.1 35) (τ_98.2.1 36) (τ_98.2.1 37)) from by rw [w6_τ38, w7_τ38, w13_τ38, w14_τ38, w15_τ38, g10_τ38, g13_τ38, g14_τ38, g15_τ38, g16_τ38, g27_τ38, g28_τ38, g29_τ38, g30_τ38, g31_τ38, g32_τ38, g33_τ38, g34_τ38, g35_τ38, g36_τ38, g37_τ38]]; exact CJ
        have TR : J_tr (τ38.1 41) ((τ38.1 15) - 1 - (τ38.1 44)) (τ38.1 44) (τ38.2.1 62) (τ38.2.1 55) (τ38.2.1 36) := by rw [show (J_tr (τ38.1 41) ((τ38.1 15) - 1 - (τ38.1 44)) (τ38.1 44) (τ38.2.1 62) (τ38.2.1 55) (τ38.2.1 36)) = (J_tr (τ_98.1 41) ((τ_98.1 15) - 1 - (τ_98.1 44)) (τ_98.1 44) (τ_98.2.1 62) (τ_98.2.1 55) (τ_98.2.1 36)) from by rw [w15_τ38, w41_τ38, w44_τ38, g36_τ38, g55_τ38, g62_τ38]]; exact TR
        have A10 : ∀ j, (-1) ≤ τ38.2.1 10 j ∧ τ38.2.1 10 j ≤ 99 := fun j => hT.2 10 j
        have A13 : ∀ j, 0 ≤ τ38.2.1 13 j ∧ τ38.2.1 13 j ≤ 4 := fun j => hT.2 13 j
        have A14 : ∀ j, 0 ≤ τ38.2.1 14 j ∧ τ38.2.1 14 j ≤ 30000 := fun j => hT.2 14 j
        have A15 : ∀ j, 0 ≤ τ38.2.1 15 j ∧ τ38.2.1 15 j ≤ 999 := fun j => hT.2 15 j
        have A16 : ∀ j, (-1) ≤ τ38.2.1 16 j ∧ τ38.2.1 16 j ≤ 1499 := fun j => hT.2 16 j
        have A27 : ∀ j, 0 ≤ τ38.2.1 27 j ∧ τ38.2.1 27 j ≤ 90000 := fun j => hT.2 27 j
        have A28 : ∀ j, 0 ≤ τ38.2.1 28 j ∧ τ38.2.1 28 j ≤ 60 := fun j => hT.2 28 j
        have A29 : ∀ j, 0 ≤ τ38.2.1 29 j ∧ τ38.2.1 29 j ≤ 1499 := fun j => hT.2 29 j
        have A30 : ∀ j, 0 ≤ τ38.2.1 30 j ∧ τ38.2.1 30 j ≤ 20000 := fun j => hT.2 30 j
        have A31 : ∀ j, 0 ≤ τ38.2.1 31 j ∧ τ38.2.1 31 j ≤ 20000 := fun j => hT.2 31 j
        have A32 : ∀ j, 0 ≤ τ38.2.1 32 j ∧ τ38.2.1 32 j ≤ 999999 := fun j => hT.2 32 j
        have A33 : ∀ j, 0 ≤ τ38.2.1 33 j ∧ τ38.2.1 33 j ≤ 20000 := fun j => hT.2 33 j
        have A34 : ∀ j, 0 ≤ τ38.2.1 34 j ∧ τ38.2.1 34 j ≤ 20000 := fun j => hT.2 34 j
        have A35 : ∀ j, 0 ≤ τ38.2.1 35 j ∧ τ38.2.1 35 j ≤ 1499 := fun j => hT.2 35 j
        have A36 : ∀ j, 0 ≤ τ38.2.1 36 j ∧ τ38.2.1 36 j ≤ 20000 := fun j => hT.2 36 j
        have A37 : ∀ j, 0 ≤ τ38.2.1 37 j ∧ τ38.2.1 37 j ≤ 19999 := fun j => hT.2 37 j
        have A55 : ∀ j, 0 ≤ τ38.2.1 55 j ∧ τ38.2.1 55 j ≤ 19999 := fun j => hT.2 55 j
        have A62 : ∀ j, (-20000) ≤ τ38.2.1 62 j ∧ τ38.2.1 62 j ≤ 19999 := fun j => hT.2 62 j
        have v6 : 0 ≤ τ38.1 6 ∧ τ38.1 6 ≤ 30000 := hT.1 6
        have v7 : 0 ≤ τ38.1 7 ∧ τ38.1 7 ≤ 1500 := hT.1 7
        have v13 : 0 ≤ τ38.1 13 ∧ τ38.1 13 ≤ 90000 := hT.1 13
        have v14 : 0 ≤ τ38.1 14 ∧ τ38.1 14 ≤ 20000 := hT.1 14
        have v15 : 0 ≤ τ38.1 15 ∧ τ38.1 15 ≤ 20000 := hT.1 15
        have v40 : 0 ≤ τ38.1 40 ∧ τ38.1 40 ≤ 1500 := hT.1 40
        have v41 : 0 ≤ τ38.1 41 ∧ τ38.1 41 ≤ 20001 := hT.1 41
        have v44 : 0 ≤ τ38.1 44 ∧ τ38.1 44 ≤ 20000 := hT.1 44
        have v63 : 0 ≤ τ38.1 63 ∧ τ38.1 63 ≤ 24000 := hT.1 63
        have tr2 := tr
        rw [← g62_τ38] at tr2
        refine ⟨_, K_X4_saves hT (show 0 ≤ u2_98 from by (first | omega | (simp only [st_s] <;> omega) | assumption | omega | fail)) (show u2_98 < 20001 from by (first | omega | (simp only [st_s] <;> omega) | assumption | omega | fail)) (show τ38.2.1 62 u2_98 ≤ (τ38.1 15) - 1 - (τ38.1 44) from by omega), ?_⟩
        intro x40 r_x40 hq
        obtain ⟨q39_1, q39_2⟩ := hq
        replace q39_1 : 0 ≤ x40 ∧ x40 ≤ 1 := q39_1
        replace q39_2 : ¬ x40 = 0 → 0 ≤ τ38.2.1 62 u2_98 := q39_2
        refine ⟨fun c42 => ?_, fun c42 => ?_⟩
        ·
          refine ⟨(⟨by (first | omega | (simp only [st_s] <;> omega) | assumption | omega | fail), by (first | omega | (simp only [st_s] <;> omega) | assumption | omega | fail)⟩ : rg (u2_98 + 1)), ?_⟩
          exact ih_98 _ _ (show (20002 - (u2_98 + 1) : Int) < ((m_98 : Nat) : Int) from by ((first | omega | (simp only [st_s] <;> omega) | assumption | omega | fail))) hT (show τ38.1 6 = σ.1 6 from by first | exact W6 | omega) (show τ38.1 7 = σ.1 7 from by first | exact W7 | omega) (show τ38.1 13 = σ.1 13 from by first | exact W13 | omega) (show τ38.1 14 = σ.1 14 from by first | exact W14 | omega) (show τ38.1 15 = σ.1 15 from by first | exact W15 | omega) G10 G13 G14 G15 G16 G27 G28 G29 G30 G31 G32 G33 G34 G35 G36 G37 (show 0 ≤ (u2_98 + 1) ∧ (u2_98 + 1) ≤ 20001 from by (first | omega | (simp only [st_s] <;> omega) | assumption | omega | fail)) (show J_tr (τ38.1 41) ((τ38.1 15) - 1 - (τ38.1 44)) (τ38.1 44) (τ38.2.1 62) (τ38.2.1 55) (τ38.2.1 36) from TR) (show (τ38.1 44) ≤ (σ.1 15) - 1 from by (first | omega | (simp only [st_s] <;> omega) | assumption | omega | fail))
        ·
          refine ⟨_, K_X5_put hT, ?_⟩
          intro τ46 hn_τ46 hf_τ46 hq
          obtain ⟨hT, q44_1⟩ := hq
          replace q44_1 : 0 ≤ (τ46.1 63) := q44_1
          have w6_τ46 : τ46.1 6 = τ38.1 6 := hf_τ46.1 6 (by decide)
          have w7_τ46 : τ46.1 7 = τ38.1 7 := hf_τ46.1 7 (by decide)
          have w13_τ46 : τ46.1 13 = τ38.1 13 := hf_τ46.1 13 (by decide)
          have w14_τ46 : τ46.1 14 = τ38.1 14 := hf_τ46.1 14 (by decide)
          have w15_τ46 : τ46.1 15 = τ38.1 15 := hf_τ46.1 15 (by decide)
          have w40_τ46 : τ46.1 40 = τ38.1 40 := hf_τ46.1 40 (by decide)
          have w41_τ46 : τ46.1 41 = τ38.1 41 := hf_τ46.1 41 (by decide)
          have w44_τ46 : τ46.1 44 = τ38.1 44 := hf_τ46.1 44 (by decide)
          have g10_τ46 : τ46.2.1 10 = τ38.2.1 10 := hf_τ46.2.1 10 (by decide)
          have g13_τ46 : τ46.2.1 13 = τ38.2.1 13 := hf_τ46.2.1 13 (by decide)
          have g14_τ46 : τ46.2.1 14 = τ38.2.1 14 := hf_τ46.2.1 14 (by decide)
          have g15_τ46 : τ46.2.1 15 = τ38.2.1 15 := hf_τ46.2.1 15 (by decide)
          have g16_τ46 : τ46.2.1 16 = τ38.2.1 16 := hf_τ46.2.1 16 (by decide)
          have g27_τ46 : τ46.2.1 27 = τ38.2.1 27 := hf_τ46.2.1 27 (by decide)
          have g28_τ46 : τ46.2.1 28 = τ38.2.1 28 := hf_τ46.2.1 28 (by decide)
          have g29_τ46 : τ46.2.1 29 = τ38.2.1 29 := hf_τ46.2.1 29 (by decide)
          have g30_τ46 : τ46.2.1 30 = τ38.2.1 30 := hf_τ46.2.1 30 (by decide)
          have g31_τ46 : τ46.2.1 31 = τ38.2.1 31 := hf_τ46.2.1 31 (by decide)
          have g32_τ46 : τ46.2.1 32 = τ38.2.1 32 := hf_τ46.2.1 32 (by decide)
          have g33_τ46 : τ46.2.1 33 = τ38.2.1 33 := hf_τ46.2.1 33 (by decide)
          have g34_τ46 : τ46.2.1 34 = τ38.2.1 34 := hf_τ46.2.1 34 (by decide)
          have g35_τ46 : τ46.2.1 35 = τ38.2.1 35 := hf_τ46.2.1 35 (by decide)
          have g36_τ46 : τ46.2.1 36 = τ38.2.1 36 := hf_τ46.2.1 36 (by decide)
          have g37_τ46 : τ46.2.1 37 = τ38.2.1 37 := hf_τ46.2.1 37 (by decide)
          have g55_τ46 : τ46.2.1 55 = τ38.2.1 55 := hf_τ46.2.1 55 (by decide)
          have g62_τ46 : τ46.2.1 62 = τ38.2.1 62 := hf_τ46.2.1 62 (by decide)
          have W6 : τ46.1 6 = σ.1 6 := by first | exact w6_τ46.trans W6 | omega
          have W7 : τ46.1 7 = σ.1 7 := by first | exact w7_τ46.trans W7 | omega
          have W13 : τ46.1 13 = σ.1 13 := by first | exact w13_τ46.trans W13 | omega
          have W14 : τ46.1 14 = σ.1 14 := by first | exact w14_τ46.trans W14 | omega
          have W15 : τ46.1 15 = σ.1 15 := by first | exact w15_τ46.trans W15 | omega
          have G10 : τ46.2.1 10 = σ.2.1 10 := (g10_τ46).trans G10
          have G13 : τ46.2.1 13 = σ.2.1 13 := (g13_τ46).trans G13
          have G14 : τ46.2.1 14 = σ.2.1 14 := (g14_τ46).trans G14
          have G15 : τ46.2.1 15 = σ.2.1 15 := (g15_τ46).trans G15
          have G16 : τ46.2.1 16 = σ.2.1 16 := (g16_τ46).trans G16
          have G27 : τ46.2.1 27 = σ.2.1 27 := (g27_τ46).trans G27
          have G28 : τ46.2.1 28 = σ.2.1 28 := (g28_τ46).trans G28
          have G29 : τ46.2.1 29 = σ.2.1 29 := (g29_τ46).trans G29
          have G30 : τ46.2.1 30 = σ.2.1 30 := (g30_τ46).trans G30
          have G31 : τ46.2.1 31 = σ.2.1 31 := (g31_τ46).trans G31
          have G32 : τ46.2.1 32 = σ.2.1 32 := (g32_τ46).trans G32
          have G33 : τ46.2.1 33 = σ.2.1 33 := (g33_τ46).trans G33
          have G34 : τ46.2.1 34 = σ.2.1 34 := (g34_τ46).trans G34
          have G35 : τ46.2.1 35 = σ.2.1 35 := (g35_τ46).trans G35
          have G36 : τ46.2.1 36 = σ.2.1 36 := (g36_τ46).trans G36
          have G37 : τ46.2.1 37 = σ.2.1 37 := (g37_τ46).trans G37
          have CJ : J_all (τ46.1 7) (τ46.1 6) (τ46.1 13) (τ46.1 14) (τ46.1 15) (τ46.2.1 13) (τ46.2.1 14) (τ46.2.1 15) (τ46.2.1 16) (τ46.2.1 10) (τ46.2.1 27) (τ46.2.1 28) (τ46.2.1 29) (τ46.2.1 30) (τ46.2.1 31) (τ46.2.1 32) (τ46.2.1 33) (τ46.2.1 34) (τ46.2.1 35) (τ46.2.1 36) (τ46.2.1 37) := by rw [show (J_all (τ46.1 7) (τ46.1 6) (τ46.1 13) (τ46.1 14) (τ46.1 15) (τ46.2.1 13) (τ46.2.1 14) (τ46.2.1 15) (τ46.2.1 16) (τ46.2.1 10) (τ46.2.1 27) (τ46.2.1 28) (τ46.2.1 29) (τ46.2.1 30) (τ46.2.1 31) (τ46.2.1 32) (τ46.2.1 33) (τ46.2.1 34) (τ46.2.1 35) (τ46.2.1 36) (τ46.2.1 37)) = (J_all (τ38.1 7) (τ38.1 6) (τ38.1 13) (τ38.1 14) (τ38.1 15) (τ38.2.1 13) (τ38.2.1 14) (τ38.2.1 15) (τ38.2.1 16) (τ38.2.1 10) (τ38.2.1 27) (τ38.2.1 28) (τ38.2.1 29) (τ38.2.1 30) (τ38.2.1 31) (τ38.2.1 32) (τ38.2.1 33) (τ38.2.1 34) (τ38.2.1 35) (τ38.2.1 36) (τ38.2.1 37)) from by rw [w6_τ46, w7_τ46, w13_τ46, w14_τ46, w15_τ46, g10_τ46, g13_τ46, g14_τ46, g15_τ46, g16_τ46, g27_τ46, g28_τ46, g29_τ46, g30_τ46, g31_τ46, g32_τ46, g33_τ46, g34_τ46, g35_τ46, g36_τ46, g37_τ46]]; exact CJ
          have TR : J_tr (τ46.1 41) ((τ46.1 15) - 1 - (τ46.1 44)) (τ46.1 44) (τ46.2.1 62) (τ46.2.1 55) (τ46.2.1 36) := by rw [show (J_tr (τ46.1 41) ((τ46.1 15) - 1 - (τ46.1 44)) (τ46.1 44) (τ46.2.1 62) (τ46.2.1 55) (τ46.2.1 36)) = (J_tr (τ38.1 41) ((τ38.1 15) - 1 - (τ38.1 44)) (τ38.1 44) (τ38.2.1 62) (τ38.2.1 55) (τ38.2.1 36)) from by rw [w15_τ46, w41_τ46, w44_τ46, g36_τ46, g55_τ46, g62_τ46]]; exact TR
          have A10 : ∀ j, (-1) ≤ τ46.2.1 10 j ∧ τ46.2.1 10 j ≤ 99 := fun j => hT.2 10 j
          have A13 : ∀ j, 0 ≤ τ46.2.1 13 j ∧ τ46.2.1 13 j ≤ 4 := fun j => hT.2 13 j
          have A14 : ∀ j, 0 ≤ τ46.2.1 14 j ∧ τ46.2.1 14 j ≤ 30000 := fun j => hT.2 14 j
          have A15 : ∀ j, 0 ≤ τ46.2.1 15 j ∧ τ46.2.1 15 j ≤ 999 := fun j => hT.2 15 j
          have A16 : ∀ j, (-1) ≤ τ46.2.1 16 j ∧ τ46.2.1 16 j ≤ 1499 := fun j => hT.2 16 j
          have A27 : ∀ j, 0 ≤ τ46.2.1 27 j ∧ τ46.2.1 27 j ≤ 90000 := fun j => hT.2 27 j
          have A28 : ∀ j, 0 ≤ τ46.2.1 28 j ∧ τ46.2.1 28 j ≤ 60 := fun j => hT.2 28 j
          have A29 : ∀ j, 0 ≤ τ46.2.1 29 j ∧ τ46.2.1 29 j ≤ 1499 := fun j => hT.2 29 j
          have A30 : ∀ j, 0 ≤ τ46.2.1 30 j ∧ τ46.2.1 30 j ≤ 20000 := fun j => hT.2 30 j
          have A31 : ∀ j, 0 ≤ τ46.2.1 31 j ∧ τ46.2.1 31 j ≤ 20000 := fun j => hT.2 31 j
          have A32 : ∀ j, 0 ≤ τ46.2.1 32 j ∧ τ46.2.1 32 j ≤ 999999 := fun j => hT.2 32 j
          have A33 : ∀ j, 0 ≤ τ46.2.1 33 j ∧ τ46.2.1 33 j ≤ 20000 := fun j => hT.2 33 j
          have A34 : ∀ j, 0 ≤ τ46.2.1 34 j ∧ τ46.2.1 34 j ≤ 20000 := fun j => hT.2 34 j
          have A35 : ∀ j, 0 ≤ τ46.2.1 35 j ∧ τ46.2.1 35 j ≤ 1499 := fun j => hT.2 35 j
          have A36 : ∀ j, 0 ≤ τ46.2.1 36 j ∧ τ46.2.1 36 j ≤ 20000 := fun j => hT.2 36 j
          have A37 : ∀ j, 0 ≤ τ46.2.1 37 j ∧ τ46.2.1 37 j ≤ 19999 := fun j => hT.2 37 j
          have A55 : ∀ j, 0 ≤ τ46.2.1 55 j ∧ τ46.2.1 55 j ≤ 19999 := fun j => hT.2 55 j
          have A62 : ∀ j, (-20000) ≤ τ46.2.1 62 j ∧ τ46.2.1 62 j ≤ 19999 := fun j => hT.2 62 j
          have v6 : 0 ≤ τ46.1 6 ∧ τ46.1 6 ≤ 30000 := hT.1 6
          have v7 : 0 ≤ τ46.1 7 ∧ τ46.1 7 ≤ 1500 := hT.1 7
          have v13 : 0 ≤ τ46.1 13 ∧ τ46.1 13 ≤ 90000 := hT.1 13
          have v14 : 0 ≤ τ46.1 14 ∧ τ46.1 14 ≤ 20000 := hT.1 14
          have v15 : 0 ≤ τ46.1 15 ∧ τ46.1 15 ≤ 20000 := hT.1 15
          have v40 : 0 ≤ τ46.1 40 ∧ τ46.1 40 ≤ 1500 := hT.1 40
          have v41 : 0 ≤ τ46.1 41 ∧ τ46.1 41 ≤ 20001 := hT.1 41
          have v44 : 0 ≤ τ46.1 44 ∧ τ46.1 44 ≤ 20000 := hT.1 44
          have v63 : 0 ≤ τ46.1 63 ∧ τ46.1 63 ≤ 24000 := hT.1 63
          refine ⟨(⟨by (first | omega | (simp only [st_s] <;> omega) | assumption | omega | fail), by (first | omega | (simp only [st_s] <;> omega) | assumption | omega | fail)⟩ : rg (u2_98 + 1)), ?_⟩
          exact ih_98 _ _ (show (20002 - (u2_98 + 1) : Int) < ((m_98 : Nat) : Int) from by ((first | omega | (simp only [st_s] <;> omega) | assumption | omega | fail))) hT (show τ46.1 6 = σ.1 6 from by first | exact W6 | omega) (show τ46.1 7 = σ.1 7 from by first | exact W7 | omega) (show τ46.1 13 = σ.1 13 from by first | exact W13 | omega) (show τ46.1 14 = σ.1 14 from by first | exact W14 | omega) (show τ46.1 15 = σ.1 15 from by first | exact W15 | omega) G10 G13 G14 G15 G16 G27 G28 G29 G30 G31 G32 G33 G34 G35 G36 G37 (show 0 ≤ (u2_98 + 1) ∧ (u2_98 + 1) ≤ 20001 from by (first | omega | (simp only [st_s] <;> omega) | assumption | omega | fail)) (show J_tr (τ46.1 41) ((τ46.1 15) - 1 - (τ46.1 44)) (τ46.1 44) (τ46.2.1 62) (τ46.2.1 55) (τ46.2.1 36) from TR) (show (τ46.1 44) ≤ (σ.1 15) - 1 from by (first | omega | (simp only [st_s] <;> omega) | assumption | omega | fail))
  have l_39 : ∀ (m_39 : Nat) (u2_39 : Int) (τ_39 : S0), 1501 - u2_39 < (m_39 : Int) → (c_T τ_39) → (τ_39.1 6 = σ.1 6) → (τ_39.1 7 = σ.1 7) → (τ_39.1 13 = σ.1 13) → (τ_39.1 14 = σ.1 14) → (τ_39.1 15 = σ.1 15) → (τ_39.2.1 10 = σ.2.1 10) → (τ_39.2.1 13 = σ.2.1 13) → (τ_39.2.1 14 = σ.2.1 14) → (τ_39.2.1 15 = σ.2.1 15) → (τ_39.2.1 16 = σ.2.1 16) → (τ_39.2.1 27 = σ.2.1 27) → (τ_39.2.1 28 = σ.2.1 28) → (τ_39.2.1 29 = σ.2.1 29) → (τ_39.2.1 30 = σ.2.1 30) → (τ_39.2.1 31 = σ.2.1 31) → (τ_39.2.1 32 = σ.2.1 32) → (τ_39.2.1 33 = σ.2.1 33) → (τ_39.2.1 34 = σ.2.1 34) → (τ_39.2.1 35 = σ.2.1 35) → (τ_39.2.1 36 = σ.2.1 36) → (τ_39.2.1 37 = σ.2.1 37) → (0 ≤ u2_39 ∧ u2_39 ≤ 1500) → (J_tr (τ_39.1 41) ((τ_39.1 15) - 1 - (τ_39.1 44)) (τ_39.1 44) (τ_39.2.1 62) (τ_39.2.1 55) (τ_39.2.1 36)) → ((τ_39.1 44) ≤ (σ.1 15) - 1) → P39 u2_39 τ_39 := by
    intro m_39
    induction m_39 with
    | zero =>
      intro u2_39 τ_39 hm hT W6 W7 W13 W14 W15 G10 G13 G14 G15 G16 G27 G28 G29 G30 G31 G32 G33 G34 G35 G36 G37 i39_1 i39_2 i39_3
      have A10 : ∀ j, (-1) ≤ τ_39.2.1 10 j ∧ τ_39.2.1 10 j ≤ 99 := fun j => hT.2 10 j
      have A13 : ∀ j, 0 ≤ τ_39.2.1 13 j ∧ τ_39.2.1 13 j ≤ 4 := fun j => hT.2 13 j
      have A14 : ∀ j, 0 ≤ τ_39.2.1 14 j ∧ τ_39.2.1 14 j ≤ 30000 := fun j => hT.2 14 j
      have A15 : ∀ j, 0 ≤ τ_39.2.1 15 j ∧ τ_39.2.1 15 j ≤ 999 := fun j => hT.2 15 j
      have A16 : ∀ j, (-1) ≤ τ_39.2.1 16 j ∧ τ_39.2.1 16 j ≤ 1499 := fun j => hT.2 16 j
      have A27 : ∀ j, 0 ≤ τ_39.2.1 27 j ∧ τ_39.2.1 27 j ≤ 90000 := fun j => hT.2 27 j
      have A28 : ∀ j, 0 ≤ τ_39.2.1 28 j ∧ τ_39.2.1 28 j ≤ 60 := fun j => hT.2 28 j
      have A29 : ∀ j, 0 ≤ τ_39.2.1 29 j ∧ τ_39.2.1 29 j ≤ 1499 := fun j => hT.2 29 j
      have A30 : ∀ j, 0 ≤ τ_39.2.1 30 j ∧ τ_39.2.1 30 j ≤ 20000 := fun j => hT.2 30 j
      have A31 : ∀ j, 0 ≤ τ_39.2.1 31 j ∧ τ_39.2.1 31 j ≤ 20000 := fun j => hT.2 31 j
      have A32 : ∀ j, 0 ≤ τ_39.2.1 32 j ∧ τ_39.2.1 32 j ≤ 999999 := fun j => hT.2 32 j
      have A33 : ∀ j, 0 ≤ τ_39.2.1 33 j ∧ τ_39.2.1 33 j ≤ 20000 := fun j => hT.2 33 j
      have A34 : ∀ j, 0 ≤ τ_39.2.1 34 j ∧ τ_39.2.1 34 j ≤ 20000 := fun j => hT.2 34 j
      have A35 : ∀ j, 0 ≤ τ_39.2.1 35 j ∧ τ_39.2.1 35 j ≤ 1499 := fun j => hT.2 35 j
      have A36 : ∀ j, 0 ≤ τ_39.2.1 36 j ∧ τ_39.2.1 36 j ≤ 20000 := fun j => hT.2 36 j
      have A37 : ∀ j, 0 ≤ τ_39.2.1 37 j ∧ τ_39.2.1 37 j ≤ 19999 := fun j => hT.2 37 j
      have A55 : ∀ j, 0 ≤ τ_39.2.1 55 j ∧ τ_39.2.1 55 j ≤ 19999 := fun j => hT.2 55 j
      have A62 : ∀ j, (-20000) ≤ τ_39.2.1 62 j ∧ τ_39.2.1 62 j ≤ 19999 := fun j => hT.2 62 j
      have v6 : 0 ≤ τ_39.1 6 ∧ τ_39.1 6 ≤ 30000 := hT.1 6
      have v7 : 0 ≤ τ_39.1 7 ∧ τ_39.1 7 ≤ 1500 := hT.1 7
      have v13 : 0 ≤ τ_39.1 13 ∧ τ_39.1 13 ≤ 90000 := hT.1 13
      have v14 : 0 ≤ τ_39.1 14 ∧ τ_39.1 14 ≤ 20000 := hT.1 14
      have v15 : 0 ≤ τ_39.1 15 ∧ τ_39.1 15 ≤ 20000 := hT.1 15
      have v40 : 0 ≤ τ_39.1 40 ∧ τ_39.1 40 ≤ 1500 := hT.1 40
      have v41 : 0 ≤ τ_39.1 41 ∧ τ_39.1 41 ≤ 20001 := hT.1 41
      have v44 : 0 ≤ τ_39.1 44 ∧ τ_39.1 44 ≤ 20000 := hT.1 44
      have v63 : 0 ≤ τ_39.1 63 ∧ τ_39.1 63 ≤ 24000 := hT.1 63
      exfalso; (first | omega | (simp only [st_s] <;> omega) | assumption | omega | fail)
    | succ m_39 ih_39 =>
      intro u2_39 τ_39 hm_39 hT W6 W7 W13 W14 W15 G10 G13 G14 G15 G16 G27 G28 G29 G30 G31 G32 G33 G34 G35 G36 G37 i39_1 i39_2 i39_3
      have A10 : ∀ j, (-1) ≤ τ_39.2.1 10 j ∧ τ_39.2.1 10 j ≤ 99 := fun j => hT.2 10 j
      have A13 : ∀ j, 0 ≤ τ_39.2.1 13 j ∧ τ_39.2.1 13 j ≤ 4 := fun j => hT.2 13 j
      have A14 : ∀ j, 0 ≤ τ_39.2.1 14 j ∧ τ_39.2.1 14 j ≤ 30000 := fun j => hT.2 14 j
      have A15 : ∀ j, 0 ≤ τ_39.2.1 15 j ∧ τ_39.2.1 15 j ≤ 999 := fun j => hT.2 15 j
      have A16 : ∀ j, (-1) ≤ τ_39.2.1 16 j ∧ τ_39.2.1 16 j ≤ 1499 := fun j => hT.2 16 j
      have A27 : ∀ j, 0 ≤ τ_39.2.1 27 j ∧ τ_39.2.1 27 j ≤ 90000 := fun j => hT.2 27 j
      have A28 : ∀ j, 0 ≤ τ_39.2.1 28 j ∧ τ_39.2.1 28 j ≤ 60 := fun j => hT.2 28 j
      have A29 : ∀ j, 0 ≤ τ_39.2.1 29 j ∧ τ_39.2.1 29 j ≤ 1499 := fun j => hT.2 29 j
      have A30 : ∀ j, 0 ≤ τ_39.2.1 30 j ∧ τ_39.2.1 30 j ≤ 20000 := fun j => hT.2 30 j
      have A31 : ∀ j, 0 ≤ τ_39.2.1 31 j ∧ τ_39.2.1 31 j ≤ 20000 := fun j => hT.2 31 j
      have A32 : ∀ j, 0 ≤ τ_39.2.1 32 j ∧ τ_39.2.1 32 j ≤ 999999 := fun j => hT.2 32 j
      have A33 : ∀ j, 0 ≤ τ_39.2.1 33 j ∧ τ_39.2.1 33 j ≤ 20000 := fun j => hT.2 33 j
      have A34 : ∀ j, 0 ≤ τ_39.2.1 34 j ∧ τ_39.2.1 34 j ≤ 20000 := fun j => hT.2 34 j
      have A35 : ∀ j, 0 ≤ τ_39.2.1 35 j ∧ τ_39.2.1 35 j ≤ 1499 := fun j => hT.2 35 j
      have A36 : ∀ j, 0 ≤ τ_39.2.1 36 j ∧ τ_39.2.1 36 j ≤ 20000 := fun j => hT.2 36 j
      have A37 : ∀ j, 0 ≤ τ_39.2.1 37 j ∧ τ_39.2.1 37 j ≤ 19999 := fun j => hT.2 37 j
      have A55 : ∀ j, 0 ≤ τ_39.2.1 55 j ∧ τ_39.2.1 55 j ≤ 19999 := fun j => hT.2 55 j
      have A62 : ∀ j, (-20000) ≤ τ_39.2.1 62 j ∧ τ_39.2.1 62 j ≤ 19999 := fun j => hT.2 62 j
      have v6 : 0 ≤ τ_39.1 6 ∧ τ_39.1 6 ≤ 30000 := hT.1 6
      have v7 : 0 ≤ τ_39.1 7 ∧ τ_39.1 7 ≤ 1500 := hT.1 7
      have v13 : 0 ≤ τ_39.1 13 ∧ τ_39.1 13 ≤ 90000 := hT.1 13
      have v14 : 0 ≤ τ_39.1 14 ∧ τ_39.1 14 ≤ 20000 := hT.1 14
      have v15 : 0 ≤ τ_39.1 15 ∧ τ_39.1 15 ≤ 20000 := hT.1 15
      have v40 : 0 ≤ τ_39.1 40 ∧ τ_39.1 40 ≤ 1500 := hT.1 40
      have v41 : 0 ≤ τ_39.1 41 ∧ τ_39.1 41 ≤ 20001 := hT.1 41
      have v44 : 0 ≤ τ_39.1 44 ∧ τ_39.1 44 ≤ 20000 := hT.1 44
      have v63 : 0 ≤ τ_39.1 63 ∧ τ_39.1 63 ≤ 24000 := hT.1 63
      have CJ : J_all (τ_39.1 7) (τ_39.1 6) (τ_39.1 13) (τ_39.1 14) (τ_39.1 15) (τ_39.2.1 13) (τ_39.2.1 14) (τ_39.2.1 15) (τ_39.2.1 16) (τ_39.2.1 10) (τ_39.2.1 27) (τ_39.2.1 28) (τ_39.2.1 29) (τ_39.2.1 30) (τ_39.2.1 31) (τ_39.2.1 32) (τ_39.2.1 33) (τ_39.2.1 34) (τ_39.2.1 35) (τ_39.2.1 36) (τ_39.2.1 37) := by rw [show (J_all (τ_39.1 7) (τ_39.1 6) (τ_39.1 13) (τ_39.1 14) (τ_39.1 15) (τ_39.2.1 13) (τ_39.2.1 14) (τ_39.2.1 15) (τ_39.2.1 16) (τ_39.2.1 10) (τ_39.2.1 27) (τ_39.2.1 28) (τ_39.2.1 29) (τ_39.2.1 30) (τ_39.2.1 31) (τ_39.2.1 32) (τ_39.2.1 33) (τ_39.2.1 34) (τ_39.2.1 35) (τ_39.2.1 36) (τ_39.2.1 37)) = (J_all (σ.1 7) (σ.1 6) (σ.1 13) (σ.1 14) (σ.1 15) (σ.2.1 13) (σ.2.1 14) (σ.2.1 15) (σ.2.1 16) (σ.2.1 10) (σ.2.1 27) (σ.2.1 28) (σ.2.1 29) (σ.2.1 30) (σ.2.1 31) (σ.2.1 32) (σ.2.1 33) (σ.2.1 34) (σ.2.1 35) (σ.2.1 36) (σ.2.1 37)) from by rw [W6, W7, W13, W14, W15, G10, G13, G14, G15, G16, G27, G28, G29, G30, G31, G32, G33, G34, G35, G36, G37]]; exact CJ_0
      have TR : J_tr (τ_39.1 41) ((τ_39.1 15) - 1 - (τ_39.1 44)) (τ_39.1 44) (τ_39.2.1 62) (τ_39.2.1 55) (τ_39.2.1 36) := i39_2
      refine h39 u2_39 τ_39 ?_
      refine ⟨fun c14 => ?_, fun c14 => ?_⟩
      ·
        refine ⟨_, K_X5_putToken hT, ?_⟩
        intro τ17 hn_τ17 hf_τ17 hq
        replace hT := hq
        have w6_τ17 : τ17.1 6 = τ_39.1 6 := hf_τ17.1 6 (by decide)
        have w7_τ17 : τ17.1 7 = τ_39.1 7 := hf_τ17.1 7 (by decide)
        have w13_τ17 : τ17.1 13 = τ_39.1 13 := hf_τ17.1 13 (by decide)
        have w14_τ17 : τ17.1 14 = τ_39.1 14 := hf_τ17.1 14 (by decide)
        have w15_τ17 : τ17.1 15 = τ_39.1 15 := hf_τ17.1 15 (by decide)
        have w40_τ17 : τ17.1 40 = τ_39.1 40 := hf_τ17.1 40 (by decide)
        have w41_τ17 : τ17.1 41 = τ_39.1 41 := hf_τ17.1 41 (by decide)
        have w44_τ17 : τ17.1 44 = τ_39.1 44 := hf_τ17.1 44 (by decide)
        have g10_τ17 : τ17.2.1 10 = τ_39.2.1 10 := hf_τ17.2.1 10 (by decide)
        have g13_τ17 : τ17.2.1 13 = τ_39.2.1 13 := hf_τ17.2.1 13 (by decide)
        have g14_τ17 : τ17.2.1 14 = τ_39.2.1 14 := hf_τ17.2.1 14 (by decide)
        have g15_τ17 : τ17.2.1 15 = τ_39.2.1 15 := hf_τ17.2.1 15 (by decide)
        have g16_τ17 : τ17.2.1 16 = τ_39.2.1 16 := hf_τ17.2.1 16 (by decide)
        have g27_τ17 : τ17.2.1 27 = τ_39.2.1 27 := hf_τ17.2.1 27 (by decide)
        have g28_τ17 : τ17.2.1 28 = τ_39.2.1 28 := hf_τ17.2.1 28 (by decide)
        have g29_τ17 : τ17.2.1 29 = τ_39.2.1 29 := hf_τ17.2.1 29 (by decide)
        have g30_τ17 : τ17.2.1 30 = τ_39.2.1 30 := hf_τ17.2.1 30 (by decide)
        have g31_τ17 : τ17.2.1 31 = τ_39.2.1 31 := hf_τ17.2.1 31 (by decide)
        have g32_τ17 : τ17.2.1 32 = τ_39.2.1 32 := hf_τ17.2.1 32 (by decide)
        have g33_τ17 : τ17.2.1 33 = τ_39.2.1 33 := hf_τ17.2.1 33 (by decide)
        have g34_τ17 : τ17.2.1 34 = τ_39.2.1 34 := hf_τ17.2.1 34 (by decide)
        have g35_τ17 : τ17.2.1 35 = τ_39.2.1 35 := hf_τ17.2.1 35 (by decide)
        have g36_τ17 : τ17.2.1 36 = τ_39.2.1 36 := hf_τ17.2.1 36 (by decide)
        have g37_τ17 : τ17.2.1 37 = τ_39.2.1 37 := hf_τ17.2.1 37 (by decide)
        have g55_τ17 : τ17.2.1 55 = τ_39.2.1 55 := hf_τ17.2.1 55 (by decide)
        have g62_τ17 : τ17.2.1 62 = τ_39.2.1 62 := hf_τ17.2.1 62 (by decide)
        have W6 : τ17.1 6 = σ.1 6 := by first | exact w6_τ17.trans W6 | omega
        have W7 : τ17.1 7 = σ.1 7 := by first | exact w7_τ17.trans W7 | omega
        have W13 : τ17.1 13 = σ.1 13 := by first | exact w13_τ17.trans W13 | omega
        have W14 : τ17.1 14 = σ.1 14 := by first | exact w14_τ17.trans W14 | omega
        have W15 : τ17.1 15 = σ.1 15 := by first | exact w15_τ17.trans W15 | omega
        have G10 : τ17.2.1 10 = σ.2.1 10 := (g10_τ17).trans G10
        have G13 : τ17.2.1 13 = σ.2.1 13 := (g13_τ17).trans G13
        have G14 : τ17.2.1 14 = σ.2.1 14 := (g14_τ17).trans G14
        have G15 : τ17.2.1 15 = σ.2.1 15 := (g15_τ17).trans G15
        have G16 : τ17.2.1 16 = σ.2.1 16 := (g16_τ17).trans G16
        have G27 : τ17.2.1 27 = σ.2.1 27 := (g27_τ17).trans G27
        have G28 : τ17.2.1 28 = σ.2.1 28 := (g28_τ17).trans G28
        have G29 : τ17.2.1 29 = σ.2.1 29 := (g29_τ17).trans G29
        have G30 : τ17.2.1 30 = σ.2.1 30 := (g30_τ17).trans G30
        have G31 : τ17.2.1 31 = σ.2.1 31 := (g31_τ17).trans G31
        have G32 : τ17.2.1 32 = σ.2.1 32 := (g32_τ17).trans G32
        have G33 : τ17.2.1 33 = σ.2.1 33 := (g33_τ17).trans G33
        have G34 : τ17.2.1 34 = σ.2.1 34 := (g34_τ17).trans G34
        have G35 : τ17.2.1 35 = σ.2.1 35 := (g35_τ17).trans G35
        have G36 : τ17.2.1 36 = σ.2.1 36 := (g36_τ17).trans G36
        have G37 : τ17.2.1 37 = σ.2.1 37 := (g37_τ17).trans G37
        have CJ : J_all (τ17.1 7) (τ17.1 6) (τ17.1 13) (τ17.1 14) (τ17.1 15) (τ17.2.1 13) (τ17.2.1 14) (τ17.2.1 15) (τ17.2.1 16) (τ17.2.1 10) (τ17.2.1 27) (τ17.2.1 28) (τ17.2.1 29) (τ17.2.1 30) (τ17.2.1 31) (τ17.2.1 32) (τ17.2.1 33) (τ17.2.1 34) (τ17.2.1 35) (τ17.2.1 36) (τ17.2.1 37) := by rw [show (J_all (τ17.1 7) (τ17.1 6) (τ17.1 13) (τ17.1 14) (τ17.1 15) (τ17.2.1 13) (τ17.2.1 14) (τ17.2.1 15) (τ17.2.1 16) (τ17.2.1 10) (τ17.2.1 27) (τ17.2.1 28) (τ17.2.1 29) (τ17.2.1 30) (τ17.2.1 31) (τ17.2.1 32) (τ17.2.1 33) (τ17.2.1 34) (τ17.2.1 35) (τ17.2.1 36) (τ17.2.1 37)) = (J_all (τ_39.1 7) (τ_39.1 6) (τ_39.1 13) (τ_39.1 14) (τ_39.1 15) (τ_39.2.1 13) (τ_39.2.1 14) (τ_39.2.1 15) (τ_39.2.1 16) (τ_39.2.1 10) (τ_39.2.1 27) (τ_39.2.1 28) (τ_39.2.1 29) (τ_39.2.1 30) (τ_39.2.1 31) (τ_39.2.1 32) (τ_39.2.1 33) (τ_39.2.1 34) (τ_39.2.1 35) (τ_39.2.1 36) (τ_39.2.1 37)) from by rw [w6_τ17, w7_τ17, w13_τ17, w14_τ17, w15_τ17, g10_τ17, g13_τ17, g14_τ17, g15_τ17, g16_τ17, g27_τ17, g28_τ17, g29_τ17, g30_τ17, g31_τ17, g32_τ17, g33_τ17, g34_τ17, g35_τ17, g36_τ17, g37_τ17]]; exact CJ
        have TR : J_tr (τ17.1 41) ((τ17.1 15) - 1 - (τ17.1 44)) (τ17.1 44) (τ17.2.1 62) (τ17.2.1 55) (τ17.2.1 36) := by rw [show (J_tr (τ17.1 41) ((τ17.1 15) - 1 - (τ17.1 44)) (τ17.1 44) (τ17.2.1 62) (τ17.2.1 55) (τ17.2.1 36)) = (J_tr (τ_39.1 41) ((τ_39.1 15) - 1 - (τ_39.1 44)) (τ_39.1 44) (τ_39.2.1 62) (τ_39.2.1 55) (τ_39.2.1 36)) from by rw [w15_τ17, w41_τ17, w44_τ17, g36_τ17, g55_τ17, g62_τ17]]; exact TR
        have A10 : ∀ j, (-1) ≤ τ17.2.1 10 j ∧ τ17.2.1 10 j ≤ 99 := fun j => hT.2 10 j
        have A13 : ∀ j, 0 ≤ τ17.2.1 13 j ∧ τ17.2.1 13 j ≤ 4 := fun j => hT.2 13 j
        have A14 : ∀ j, 0 ≤ τ17.2.1 14 j ∧ τ17.2.1 14 j ≤ 30000 := fun j => hT.2 14 j
        have A15 : ∀ j, 0 ≤ τ17.2.1 15 j ∧ τ17.2.1 15 j ≤ 999 := fun j => hT.2 15 j
        have A16 : ∀ j, (-1) ≤ τ17.2.1 16 j ∧ τ17.2.1 16 j ≤ 1499 := fun j => hT.2 16 j
        have A27 : ∀ j, 0 ≤ τ17.2.1 27 j ∧ τ17.2.1 27 j ≤ 90000 := fun j => hT.2 27 j
        have A28 : ∀ j, 0 ≤ τ17.2.1 28 j ∧ τ17.2.1 28 j ≤ 60 := fun j => hT.2 28 j
        have A29 : ∀ j, 0 ≤ τ17.2.1 29 j ∧ τ17.2.1 29 j ≤ 1499 := fun j => hT.2 29 j
        have A30 : ∀ j, 0 ≤ τ17.2.1 30 j ∧ τ17.2.1 30 j ≤ 20000 := fun j => hT.2 30 j
        have A31 : ∀ j, 0 ≤ τ17.2.1 31 j ∧ τ17.2.1 31 j ≤ 20000 := fun j => hT.2 31 j
        have A32 : ∀ j, 0 ≤ τ17.2.1 32 j ∧ τ17.2.1 32 j ≤ 999999 := fun j => hT.2 32 j
        have A33 : ∀ j, 0 ≤ τ17.2.1 33 j ∧ τ17.2.1 33 j ≤ 20000 := fun j => hT.2 33 j
        have A34 : ∀ j, 0 ≤ τ17.2.1 34 j ∧ τ17.2.1 34 j ≤ 20000 := fun j => hT.2 34 j
        have A35 : ∀ j, 0 ≤ τ17.2.1 35 j ∧ τ17.2.1 35 j ≤ 1499 := fun j => hT.2 35 j
        have A36 : ∀ j, 0 ≤ τ17.2.1 36 j ∧ τ17.2.1 36 j ≤ 20000 := fun j => hT.2 36 j
        have A37 : ∀ j, 0 ≤ τ17.2.1 37 j ∧ τ17.2.1 37 j ≤ 19999 := fun j => hT.2 37 j
        have A55 : ∀ j, 0 ≤ τ17.2.1 55 j ∧ τ17.2.1 55 j ≤ 19999 := fun j => hT.2 55 j
        have A62 : ∀ j, (-20000) ≤ τ17.2.1 62 j ∧ τ17.2.1 62 j ≤ 19999 := fun j => hT.2 62 j
        have v6 : 0 ≤ τ17.1 6 ∧ τ17.1 6 ≤ 30000 := hT.1 6
        have v7 : 0 ≤ τ17.1 7 ∧ τ17.1 7 ≤ 1500 := hT.1 7
        have v13 : 0 ≤ τ17.1 13 ∧ τ17.1 13 ≤ 90000 := hT.1 13
        have v14 : 0 ≤ τ17.1 14 ∧ τ17.1 14 ≤ 20000 := hT.1 14
        have v15 : 0 ≤ τ17.1 15 ∧ τ17.1 15 ≤ 20000 := hT.1 15
        have v40 : 0 ≤ τ17.1 40 ∧ τ17.1 40 ≤ 1500 := hT.1 40
        have v41 : 0 ≤ τ17.1 41 ∧ τ17.1 41 ≤ 20001 := hT.1 41
        have v44 : 0 ≤ τ17.1 44 ∧ τ17.1 44 ≤ 20000 := hT.1 44
        have v63 : 0 ≤ τ17.1 63 ∧ τ17.1 63 ≤ 24000 := hT.1 63
        refine ⟨_, K_X5_putBlank hT, ?_⟩
        intro τ20 hn_τ20 hf_τ20 hq
        replace hT := hq
        have w6_τ20 : τ20.1 6 = τ17.1 6 := hf_τ20.1 6 (by decide)
        have w7_τ20 : τ20.1 7 = τ17.1 7 := hf_τ20.1 7 (by decide)
        have w13_τ20 : τ20.1 13 = τ17.1 13 := hf_τ20.1 13 (by decide)
        have w14_τ20 : τ20.1 14 = τ17.1 14 := hf_τ20.1 14 (by decide)
        have w15_τ20 : τ20.1 15 = τ17.1 15 := hf_τ20.1 15 (by decide)
        have w40_τ20 : τ20.1 40 = τ17.1 40 := hf_τ20.1 40 (by decide)
        have w41_τ20 : τ20.1 41 = τ17.1 41 := hf_τ20.1 41 (by decide)
        have w44_τ20 : τ20.1 44 = τ17.1 44 := hf_τ20.1 44 (by decide)
        have g10_τ20 : τ20.2.1 10 = τ17.2.1 10 := hf_τ20.2.1 10 (by decide)
        have g13_τ20 : τ20.2.1 13 = τ17.2.1 13 := hf_τ20.2.1 13 (by decide)
        have g14_τ20 : τ20.2.1 14 = τ17.2.1 14 := hf_τ20.2.1 14 (by decide)
        have g15_τ20 : τ20.2.1 15 = τ17.2.1 15 := hf_τ20.2.1 15 (by decide)
        have g16_τ20 : τ20.2.1 16 = τ17.2.1 16 := hf_τ20.2.1 16 (by decide)
        have g27_τ20 : τ20.2.1 27 = τ17.2.1 27 := hf_τ20.2.1 27 (by decide)
        have g28_τ20 : τ20.2.1 28 = τ17.2.1 28 := hf_τ20.2.1 28 (by decide)
        have g29_τ20 : τ20.2.1 29 = τ17.2.1 29 := hf_τ20.2.1 29 (by decide)
        have g30_τ20 : τ20.2.1 30 = τ17.2.1 30 := hf_τ20.2.1 30 (by decide)
        have g31_τ20 : τ20.2.1 31 = τ17.2.1 31 := hf_τ20.2.1 31 (by decide)
        have g32_τ20 : τ20.2.1 32 = τ17.2.1 32 := hf_τ20.2.1 32 (by decide)
        have g33_τ20 : τ20.2.1 33 = τ17.2.1 33 := hf_τ20.2.1 33 (by decide)
        have g34_τ20 : τ20.2.1 34 = τ17.2.1 34 := hf_τ20.2.1 34 (by decide)
        have g35_τ20 : τ20.2.1 35 = τ17.2.1 35 := hf_τ20.2.1 35 (by decide)
        have g36_τ20 : τ20.2.1 36 = τ17.2.1 36 := hf_τ20.2.1 36 (by decide)
        have g37_τ20 : τ20.2.1 37 = τ17.2.1 37 := hf_τ20.2.1 37 (by decide)
        have g55_τ20 : τ20.2.1 55 = τ17.2.1 55 := hf_τ20.2.1 55 (by decide)
        have g62_τ20 : τ20.2.1 62 = τ17.2.1 62 := hf_τ20.2.1 62 (by decide)
        have W6 : τ20.1 6 = σ.1 6 := by first | exact w6_τ20.trans W6 | omega
        have W7 : τ20.1 7 = σ.1 7 := by first | exact w7_τ20.trans W7 | omega
        have W13 : τ20.1 13 = σ.1 13 := by first | exact w13_τ20.trans W13 | omega
        have W14 : τ20.1 14 = σ.1 14 := by first | exact w14_τ20.trans W14 | omega
        have W15 : τ20.1 15 = σ.1 15 := by first | exact w15_τ20.trans W15 | omega
        have G10 : τ20.2.1 10 = σ.2.1 10 := (g10_τ20).trans G10
        have G13 : τ20.2.1 13 = σ.2.1 13 := (g13_τ20).trans G13
        have G14 : τ20.2.1 14 = σ.2.1 14 := (g14_τ20).trans G14
        have G15 : τ20.2.1 15 = σ.2.1 15 := (g15_τ20).trans G15
        have G16 : τ20.2.1 16 = σ.2.1 16 := (g16_τ20).trans G16
        have G27 : τ20.2.1 27 = σ.2.1 27 := (g27_τ20).trans G27
        have G28 : τ20.2.1 28 = σ.2.1 28 := (g28_τ20).trans G28
        have G29 : τ20.2.1 29 = σ.2.1 29 := (g29_τ20).trans G29
        have G30 : τ20.2.1 30 = σ.2.1 30 := (g30_τ20).trans G30
        have G31 : τ20.2.1 31 = σ.2.1 31 := (g31_τ20).trans G31
        have G32 : τ20.2.1 32 = σ.2.1 32 := (g32_τ20).trans G32
        have G33 : τ20.2.1 33 = σ.2.1 33 := (g33_τ20).trans G33
        have G34 : τ20.2.1 34 = σ.2.1 34 := (g34_τ20).trans G34
        have G35 : τ20.2.1 35 = σ.2.1 35 := (g35_τ20).trans G35
        have G36 : τ20.2.1 36 = σ.2.1 36 := (g36_τ20).trans G36
        have G37 : τ20.2.1 37 = σ.2.1 37 := (g37_τ20).trans G37
        have CJ : J_all (τ20.1 7) (τ20.1 6) (τ20.1 13) (τ20.1 14) (τ20.1 15) (τ20.2.1 13) (τ20.2.1 14) (τ20.2.1 15) (τ20.2.1 16) (τ20.2.1 10) (τ20.2.1 27) (τ20.2.1 28) (τ20.2.1 29) (τ20.2.1 30) (τ20.2.1 31) (τ20.2.1 32) (τ20.2.1 33) (τ20.2.1 34) (τ20.2.1 35) (τ20.2.1 36) (τ20.2.1 37) := by rw [show (J_all (τ20.1 7) (τ20.1 6) (τ20.1 13) (τ20.1 14) (τ20.1 15) (τ20.2.1 13) (τ20.2.1 14) (τ20.2.1 15) (τ20.2.1 16) (τ20.2.1 10) (τ20.2.1 27) (τ20.2.1 28) (τ20.2.1 29) (τ20.2.1 30) (τ20.2.1 31) (τ20.2.1 32) (τ20.2.1 33) (τ20.2.1 34) (τ20.2.1 35) (τ20.2.1 36) (τ20.2.1 37)) = (J_all (τ17.1 7) (τ17.1 6) (τ17.1 13) (τ17.1 14) (τ17.1 15) (τ17.2.1 13) (τ17.2.1 14) (τ17.2.1 15) (τ17.2.1 16) (τ17.2.1 10) (τ17.2.1 27) (τ17.2.1 28) (τ17.2.1 29) (τ17.2.1 30) (τ17.2.1 31) (τ17.2.1 32) (τ17.2.1 33) (τ17.2.1 34) (τ17.2.1 35) (τ17.2.1 36) (τ17.2.1 37)) from by rw [w6_τ20, w7_τ20, w13_τ20, w14_τ20, w15_τ20, g10_τ20, g13_τ20, g14_τ20, g15_τ20, g16_τ20, g27_τ20, g28_τ20, g29_τ20, g30_τ20, g31_τ20, g32_τ20, g33_τ20, g34_τ20, g35_τ20, g36_τ20, g37_τ20]]; exact CJ
        have TR : J_tr (τ20.1 41) ((τ20.1 15) - 1 - (τ20.1 44)) (τ20.1 44) (τ20.2.1 62) (τ20.2.1 55) (τ20.2.1 36) := by rw [show (J_tr (τ20.1 41) ((τ20.1 15) - 1 - (τ20.1 44)) (τ20.1 44) (τ20.2.1 62) (τ20.2.1 55) (τ20.2.1 36)) = (J_tr (τ17.1 41) ((τ17.1 15) - 1 - (τ17.1 44)) (τ17.1 44) (τ17.2.1 62) (τ17.2.1 55) (τ17.2.1 36)) from by rw [w15_τ20, w41_τ20, w44_τ20, g36_τ20, g55_τ20, g62_τ20]]; exact TR
        have A10 : ∀ j, (-1) ≤ τ20.2.1 10 j ∧ τ20.2.1 10 j ≤ 99 := fun j => hT.2 10 j
        have A13 : ∀ j, 0 ≤ τ20.2.1 13 j ∧ τ20.2.1 13 j ≤ 4 := fun j => hT.2 13 j
        have A14 : ∀ j, 0 ≤ τ20.2.1 14 j ∧ τ20.2.1 14 j ≤ 30000 := fun j => hT.2 14 j
        have A15 : ∀ j, 0 ≤ τ20.2.1 15 j ∧ τ20.2.1 15 j ≤ 999 := fun j => hT.2 15 j
        have A16 : ∀ j, (-1) ≤ τ20.2.1 16 j ∧ τ20.2.1 16 j ≤ 1499 := fun j => hT.2 16 j
        have A27 : ∀ j, 0 ≤ τ20.2.1 27 j ∧ τ20.2.1 27 j ≤ 90000 := fun j => hT.2 27 j
        have A28 : ∀ j, 0 ≤ τ20.2.1 28 j ∧ τ20.2.1 28 j ≤ 60 := fun j => hT.2 28 j
        have A29 : ∀ j, 0 ≤ τ20.2.1 29 j ∧ τ20.2.1 29 j ≤ 1499 := fun j => hT.2 29 j
        have A30 : ∀ j, 0 ≤ τ20.2.1 30 j ∧ τ20.2.1 30 j ≤ 20000 := fun j => hT.2 30 j
        have A31 : ∀ j, 0 ≤ τ20.2.1 31 j ∧ τ20.2.1 31 j ≤ 20000 := fun j => hT.2 31 j
        have A32 : ∀ j, 0 ≤ τ20.2.1 32 j ∧ τ20.2.1 32 j ≤ 999999 := fun j => hT.2 32 j
        have A33 : ∀ j, 0 ≤ τ20.2.1 33 j ∧ τ20.2.1 33 j ≤ 20000 := fun j => hT.2 33 j
        have A34 : ∀ j, 0 ≤ τ20.2.1 34 j ∧ τ20.2.1 34 j ≤ 20000 := fun j => hT.2 34 j
        have A35 : ∀ j, 0 ≤ τ20.2.1 35 j ∧ τ20.2.1 35 j ≤ 1499 := fun j => hT.2 35 j
        have A36 : ∀ j, 0 ≤ τ20.2.1 36 j ∧ τ20.2.1 36 j ≤ 20000 := fun j => hT.2 36 j
        have A37 : ∀ j, 0 ≤ τ20.2.1 37 j ∧ τ20.2.1 37 j ≤ 19999 := fun j => hT.2 37 j
        have A55 : ∀ j, 0 ≤ τ20.2.1 55 j ∧ τ20.2.1 55 j ≤ 19999 := fun j => hT.2 55 j
        have A62 : ∀ j, (-20000) ≤ τ20.2.1 62 j ∧ τ20.2.1 62 j ≤ 19999 := fun j => hT.2 62 j
        have v6 : 0 ≤ τ20.1 6 ∧ τ20.1 6 ≤ 30000 := hT.1 6
        have v7 : 0 ≤ τ20.1 7 ∧ τ20.1 7 ≤ 1500 := hT.1 7
        have v13 : 0 ≤ τ20.1 13 ∧ τ20.1 13 ≤ 90000 := hT.1 13
        have v14 : 0 ≤ τ20.1 14 ∧ τ20.1 14 ≤ 20000 := hT.1 14
        have v15 : 0 ≤ τ20.1 15 ∧ τ20.1 15 ≤ 20000 := hT.1 15
        have v40 : 0 ≤ τ20.1 40 ∧ τ20.1 40 ≤ 1500 := hT.1 40
        have v41 : 0 ≤ τ20.1 41 ∧ τ20.1 41 ≤ 20001 := hT.1 41
        have v44 : 0 ≤ τ20.1 44 ∧ τ20.1 44 ≤ 20000 := hT.1 44
        have v63 : 0 ≤ τ20.1 63 ∧ τ20.1 63 ≤ 24000 := hT.1 63
        exact l_98 ((20002 - 0 : Int).toNat + 1) _ _ (show (20002 - 0 : Int) < (((20002 - 0 : Int).toNat + 1 : Nat) : Int) from by ((first | omega | (simp only [st_s] <;> omega) | assumption | omega | fail))) hT (show τ20.1 6 = σ.1 6 from by first | exact W6 | omega) (show τ20.1 7 = σ.1 7 from by first | exact W7 | omega) (show τ20.1 13 = σ.1 13 from by first | exact W13 | omega) (show τ20.1 14 = σ.1 14 from by first | exact W14 | omega) (show τ20.1 15 = σ.1 15 from by first | exact W15 | omega) G10 G13 G14 G15 G16 G27 G28 G29 G30 G31 G32 G33 G34 G35 G36 G37 (show 0 ≤ 0 ∧ 0 ≤ 20001 from by (first | omega | (simp only [st_s] <;> omega) | assumption | omega | fail)) (show J_tr (τ20.1 41) ((τ20.1 15) - 1 - (τ20.1 44)) (τ20.1 44) (τ20.2.1 62) (τ20.2.1 55) (τ20.2.1 36) from TR) (show (τ20.1 44) ≤ (σ.1 15) - 1 from by (first | omega | (simp only [st_s] <;> omega) | assumption | omega | fail))
      ·
        refine ⟨(show 0 ≤ u2_39 ∧ u2_39 < 1500 from by (first | omega | (simp only [st_s] <;> omega) | assumption | omega | fail)), ?_⟩
        intro x22 r_x22 e_x22
        have b_x22 : 0 ≤ x22 ∧ x22 ≤ 1499 := by rw [e_x22]; exact hT.2 61 _
        refine ⟨(show 0 ≤ x22 ∧ x22 < 1500 from by (first | omega | (simp only [st_s] <;> omega) | assumption | omega | fail)), ?_⟩
        intro x24 r_x24 e_x24
        have b_x24 : 0 ≤ x24 ∧ x24 ≤ 2499 := by rw [e_x24]; exact hT.2 12 _
        refine ⟨_, K_X5_putName hT (show 0 ≤ x24 from by (first | omega | (simp only [st_s] <;> omega) | assumption | omega | fail)) (show x24 < 2500 from by (first | omega | (simp only [st_s] <;> omega) | assumption | omega | fail)), ?_⟩
        intro τ27 hn_τ27 hf_τ27 hq
        replace hT := hq
        have w6_τ27 : τ27.1 6 = τ_39.1 6 := hf_τ27.1 6 (by decide)
        have w7_τ27 : τ27.1 7 = τ_39.1 7 := hf_τ27.1 7 (by decide)
        have w13_τ27 : τ27.1 13 = τ_39.1 13 := hf_τ27.1 13 (by decide)
        have w14_τ27 : τ27.1 14 = τ_39.1 14 := hf_τ27.1 14 (by decide)
        have w15_τ27 : τ27.1 15 = τ_39.1 15 := hf_τ27.1 15 (by decide)
        have w40_τ27 : τ27.1 40 = τ_39.1 40 := hf_τ27.1 40 (by decide)
        have w41_τ27 : τ27.1 41 = τ_39.1 41 := hf_τ27.1 41 (by decide)
        have w44_τ27 : τ27.1 44 = τ_39.1 44 := hf_τ27.1 44 (by decide)
        have g10_τ27 : τ27.2.1 10 = τ_39.2.1 10 := hf_τ27.2.1 10 (by decide)
        have g13_τ27 : τ27.2.1 13 = τ_39.2.1 13 := hf_τ27.2.1 13 (by decide)
        have g14_τ27 : τ27.2.1 14 = τ_39.2.1 14 := hf_τ27.2.1 14 (by decide)
        have g15_τ27 : τ27.2.1 15 = τ_39.2.1 15 := hf_τ27.2.1 15 (by decide)
        have g16_τ27 : τ27.2.1 16 = τ_39.2.1 16 := hf_τ27.2.1 16 (by decide)
        have g27_τ27 : τ27.2.1 27 = τ_39.2.1 27 := hf_τ27.2.1 27 (by decide)
        have g28_τ27 : τ27.2.1 28 = τ_39.2.1 28 := hf_τ27.2.1 28 (by decide)
        have g29_τ27 : τ27.2.1 29 = τ_39.2.1 29 := hf_τ27.2.1 29 (by decide)
        have g30_τ27 : τ27.2.1 30 = τ_39.2.1 30 := hf_τ27.2.1 30 (by decide)
        have g31_τ27 : τ27.2.1 31 = τ_39.2.1 31 := hf_τ27.2.1 31 (by decide)
        have g32_τ27 : τ27.2.1 32 = τ_39.2.1 32 := hf_τ27.2.1 32 (by decide)
        have g33_τ27 : τ27.2.1 33 = τ_39.2.1 33 := hf_τ27.2.1 33 (by decide)
        have g34_τ27 : τ27.2.1 34 = τ_39.2.1 34 := hf_τ27.2.1 34 (by decide)
        have g35_τ27 : τ27.2.1 35 = τ_39.2.1 35 := hf_τ27.2.1 35 (by decide)
        have g36_τ27 : τ27.2.1 36 = τ_39.2.1 36 := hf_τ27.2.1 36 (by decide)
        have g37_τ27 : τ27.2.1 37 = τ_39.2.1 37 := hf_τ27.2.1 37 (by decide)
        have g55_τ27 : τ27.2.1 55 = τ_39.2.1 55 := hf_τ27.2.1 55 (by decide)
        have g62_τ27 : τ27.2.1 62 = τ_39.2.1 62 := hf_τ27.2.1 62 (by decide)
        have W6 : τ27.1 6 = σ.1 6 := by first | exact w6_τ27.trans W6 | omega
        have W7 : τ27.1 7 = σ.1 7 := by first | exact w7_τ27.trans W7 | omega
        have W13 : τ27.1 13 = σ.1 13 := by first | exact w13_τ27.trans W13 | omega
        have W14 : τ27.1 14 = σ.1 14 := by first | exact w14_τ27.trans W14 | omega
        have W15 : τ27.1 15 = σ.1 15 := by first | exact w15_τ27.trans W15 | omega
        have G10 : τ27.2.1 10 = σ.2.1 10 := (g10_τ27).trans G10
        have G13 : τ27.2.1 13 = σ.2.1 13 := (g13_τ27).trans G13
        have G14 : τ27.2.1 14 = σ.2.1 14 := (g14_τ27).trans G14
        have G15 : τ27.2.1 15 = σ.2.1 15 := (g15_τ27).trans G15
        have G16 : τ27.2.1 16 = σ.2.1 16 := (g16_τ27).trans G16
        have G27 : τ27.2.1 27 = σ.2.1 27 := (g27_τ27).trans G27
        have G28 : τ27.2.1 28 = σ.2.1 28 := (g28_τ27).trans G28
        have G29 : τ27.2.1 29 = σ.2.1 29 := (g29_τ27).trans G29
        have G30 : τ27.2.1 30 = σ.2.1 30 := (g30_τ27).trans G30
        have G31 : τ27.2.1 31 = σ.2.1 31 := (g31_τ27).trans G31
        have G32 : τ27.2.1 32 = σ.2.1 32 := (g32_τ27).trans G32
        have G33 : τ27.2.1 33 = σ.2.1 33 := (g33_τ27).trans G33
        have G34 : τ27.2.1 34 = σ.2.1 34 := (g34_τ27).trans G34
        have G35 : τ27.2.1 35 = σ.2.1 35 := (g35_τ27).trans G35
        have G36 : τ27.2.1 36 = σ.2.1 36 := (g36_τ27).trans G36
        have G37 : τ27.2.1 37 = σ.2.1 37 := (g37_τ27).trans G37
        have CJ : J_all (τ27.1 7) (τ27.1 6) (τ27.1 13) (τ27.1 14) (τ27.1 15) (τ27.2.1 13) (τ27.2.1 14) (τ27.2.1 15) (τ27.2.1 16) (τ27.2.1 10) (τ27.2.1 27) (τ27.2.1 28) (τ27.2.1 29) (τ27.2.1 30) (τ27.2.1 31) (τ27.2.1 32) (τ27.2.1 33) (τ27.2.1 34) (τ27.2.1 35) (τ27.2.1 36) (τ27.2.1 37) := by rw [show (J_all (τ27.1 7) (τ27.1 6) (τ27.1 13) (τ27.1 14) (τ27.1 15) (τ27.2.1 13) (τ27.2.1 14) (τ27.2.1 15) (τ27.2.1 16) (τ27.2.1 10) (τ27.2.1 27) (τ27.2.1 28) (τ27.2.1 29) (τ27.2.1 30) (τ27.2.1 31) (τ27.2.1 32) (τ27.2.1 33) (τ27.2.1 34) (τ27.2.1 35) (τ27.2.1 36) (τ27.2.1 37)) = (J_all (τ_39.1 7) (τ_39.1 6) (τ_39.1 13) (τ_39.1 14) (τ_39.1 15) (τ_39.2.1 13) (τ_39.2.1 14) (τ_39.2.1 15) (τ_39.2.1 16) (τ_39.2.1 10) (τ_39.2.1 27) (τ_39.2.1 28) (τ_39.2.1 29) (τ_39.2.1 30) (τ_39.2.1 31) (τ_39.2.1 32) (τ_39.2.1 33) (τ_39.2.1 34) (τ_39.2.1 35) (τ_39.2.1 36) (τ_39.2.1 37)) from by rw [w6_τ27, w7_τ27, w13_τ27, w14_τ27, w15_τ27, g10_τ27, g13_τ27, g14_τ27, g15_τ27, g16_τ27, g27_τ27, g28_τ27, g29_τ27, g30_τ27, g31_τ27, g32_τ27, g33_τ27, g34_τ27, g35_τ27, g36_τ27, g37_τ27]]; exact CJ
        have TR : J_tr (τ27.1 41) ((τ27.1 15) - 1 - (τ27.1 44)) (τ27.1 44) (τ27.2.1 62) (τ27.2.1 55) (τ27.2.1 36) := by rw [show (J_tr (τ27.1 41) ((τ27.1 15) - 1 - (τ27.1 44)) (τ27.1 44) (τ27.2.1 62) (τ27.2.1 55) (τ27.2.1 36)) = (J_tr (τ_39.1 41) ((τ_39.1 15) - 1 - (τ_39.1 44)) (τ_39.1 44) (τ_39.2.1 62) (τ_39.2.1 55) (τ_39.2.1 36)) from by rw [w15_τ27, w41_τ27, w44_τ27, g36_τ27, g55_τ27, g62_τ27]]; exact TR
        have A10 : ∀ j, (-1) ≤ τ27.2.1 10 j ∧ τ27.2.1 10 j ≤ 99 := fun j => hT.2 10 j
        have A13 : ∀ j, 0 ≤ τ27.2.1 13 j ∧ τ27.2.1 13 j ≤ 4 := fun j => hT.2 13 j
        have A14 : ∀ j, 0 ≤ τ27.2.1 14 j ∧ τ27.2.1 14 j ≤ 30000 := fun j => hT.2 14 j
        have A15 : ∀ j, 0 ≤ τ27.2.1 15 j ∧ τ27.2.1 15 j ≤ 999 := fun j => hT.2 15 j
        have A16 : ∀ j, (-1) ≤ τ27.2.1 16 j ∧ τ27.2.1 16 j ≤ 1499 := fun j => hT.2 16 j
        have A27 : ∀ j, 0 ≤ τ27.2.1 27 j ∧ τ27.2.1 27 j ≤ 90000 := fun j => hT.2 27 j
        have A28 : ∀ j, 0 ≤ τ27.2.1 28 j ∧ τ27.2.1 28 j ≤ 60 := fun j => hT.2 28 j
        have A29 : ∀ j, 0 ≤ τ27.2.1 29 j ∧ τ27.2.1 29 j ≤ 1499 := fun j => hT.2 29 j
        have A30 : ∀ j, 0 ≤ τ27.2.1 30 j ∧ τ27.2.1 30 j ≤ 20000 := fun j => hT.2 30 j
        have A31 : ∀ j, 0 ≤ τ27.2.1 31 j ∧ τ27.2.1 31 j ≤ 20000 := fun j => hT.2 31 j
        have A32 : ∀ j, 0 ≤ τ27.2.1 32 j ∧ τ27.2.1 32 j ≤ 999999 := fun j => hT.2 32 j
        have A33 : ∀ j, 0 ≤ τ27.2.1 33 j ∧ τ27.2.1 33 j ≤ 20000 := fun j => hT.2 33 j
        have A34 : ∀ j, 0 ≤ τ27.2.1 34 j ∧ τ27.2.1 34 j ≤ 20000 := fun j => hT.2 34 j
        have A35 : ∀ j, 0 ≤ τ27.2.1 35 j ∧ τ27.2.1 35 j ≤ 1499 := fun j => hT.2 35 j
        have A36 : ∀ j, 0 ≤ τ27.2.1 36 j ∧ τ27.2.1 36 j ≤ 20000 := fun j => hT.2 36 j
        have A37 : ∀ j, 0 ≤ τ27.2.1 37 j ∧ τ27.2.1 37 j ≤ 19999 := fun j => hT.2 37 j
        have A55 : ∀ j, 0 ≤ τ27.2.1 55 j ∧ τ27.2.1 55 j ≤ 19999 := fun j => hT.2 55 j
        have A62 : ∀ j, (-20000) ≤ τ27.2.1 62 j ∧ τ27.2.1 62 j ≤ 19999 := fun j => hT.2 62 j
        have v6 : 0 ≤ τ27.1 6 ∧ τ27.1 6 ≤ 30000 := hT.1 6
        have v7 : 0 ≤ τ27.1 7 ∧ τ27.1 7 ≤ 1500 := hT.1 7
        have v13 : 0 ≤ τ27.1 13 ∧ τ27.1 13 ≤ 90000 := hT.1 13
        have v14 : 0 ≤ τ27.1 14 ∧ τ27.1 14 ≤ 20000 := hT.1 14
        have v15 : 0 ≤ τ27.1 15 ∧ τ27.1 15 ≤ 20000 := hT.1 15
        have v40 : 0 ≤ τ27.1 40 ∧ τ27.1 40 ≤ 1500 := hT.1 40
        have v41 : 0 ≤ τ27.1 41 ∧ τ27.1 41 ≤ 20001 := hT.1 41
        have v44 : 0 ≤ τ27.1 44 ∧ τ27.1 44 ≤ 20000 := hT.1 44
        have v63 : 0 ≤ τ27.1 63 ∧ τ27.1 63 ≤ 24000 := hT.1 63
        refine ⟨(⟨by (first | omega | (simp only [st_s] <;> omega) | assumption | omega | fail), by (first | omega | (simp only [st_s] <;> omega) | assumption | omega | fail)⟩ : rg (u2_39 + 1)), ?_⟩
        exact ih_39 _ _ (show (1501 - (u2_39 + 1) : Int) < ((m_39 : Nat) : Int) from by ((first | omega | (simp only [st_s] <;> omega) | assumption | omega | fail))) hT (show τ27.1 6 = σ.1 6 from by first | exact W6 | omega) (show τ27.1 7 = σ.1 7 from by first | exact W7 | omega) (show τ27.1 13 = σ.1 13 from by first | exact W13 | omega) (show τ27.1 14 = σ.1 14 from by first | exact W14 | omega) (show τ27.1 15 = σ.1 15 from by first | exact W15 | omega) G10 G13 G14 G15 G16 G27 G28 G29 G30 G31 G32 G33 G34 G35 G36 G37 (show 0 ≤ (u2_39 + 1) ∧ (u2_39 + 1) ≤ 1500 from by (first | omega | (simp only [st_s] <;> omega) | assumption | omega | fail)) (show J_tr (τ27.1 41) ((τ27.1 15) - 1 - (τ27.1 44)) (τ27.1 44) (τ27.2.1 62) (τ27.2.1 55) (τ27.2.1 36) from TR) (show (τ27.1 44) ≤ (σ.1 15) - 1 from by (first | omega | (simp only [st_s] <;> omega) | assumption | omega | fail))
  refine ⟨_, K_X3_isProved hT, ?_⟩
  intro x2 r_x2 hq
  obtain ⟨q1_1, q1_2⟩ := hq
  replace q1_1 : 0 ≤ x2 ∧ x2 ≤ 1 := q1_1
  replace q1_2 : ¬ x2 = 0 → 0 ≤ n1 ∧ n1 < (σ.1 7) ∧ σ.2.1 13 n1 = 3 := q1_2
  refine ⟨fun c4 => ?_, fun c4 => ?_⟩
  ·
    have jr := ((p1.1 n1 (by omega) (by omega)).2.2 (by omega)).1
    refine ⟨_, K_X4_pack hT (show 0 ≤ n1 from by (first | omega | (simp only [st_s] <;> omega) | assumption | omega | fail)) (show n1 < (σ.1 7) from by (first | omega | (simp only [st_s] <;> omega) | assumption | omega | fail)) (show σ.2.1 13 n1 = 3 from by (first | omega | (simp only [st_s] <;> omega) | assumption | omega | fail)) (show J_all (σ.1 7) (σ.1 6) (σ.1 13) (σ.1 14) (σ.1 15) (σ.2.1 13) (σ.2.1 14) (σ.2.1 15) (σ.2.1 16) (σ.2.1 10) (σ.2.1 27) (σ.2.1 28) (σ.2.1 29) (σ.2.1 30) (σ.2.1 31) (σ.2.1 32) (σ.2.1 33) (σ.2.1 34) (σ.2.1 35) (σ.2.1 36) (σ.2.1 37) from CJ), ?_⟩
    intro τ7 hn_τ7 hf_τ7 hq
    obtain ⟨hT, q5_1, q5_2⟩ := hq
    replace q5_1 : J_tr (τ7.1 41) ((τ7.1 15) - 1 - (τ7.1 44)) (τ7.1 44) (τ7.2.1 62) (τ7.2.1 55) (τ7.2.1 36) := q5_1
    replace q5_2 : (τ7.1 44) = σ.2.1 33 n1 := q5_2
    have w6_τ7 : τ7.1 6 = σ.1 6 := hf_τ7.1 6 (by decide)
    have w7_τ7 : τ7.1 7 = σ.1 7 := hf_τ7.1 7 (by decide)
    have w13_τ7 : τ7.1 13 = σ.1 13 := hf_τ7.1 13 (by decide)
    have w14_τ7 : τ7.1 14 = σ.1 14 := hf_τ7.1 14 (by decide)
    have w15_τ7 : τ7.1 15 = σ.1 15 := hf_τ7.1 15 (by decide)
    have w63_τ7 : τ7.1 63 = σ.1 63 := hf_τ7.1 63 (by decide)
    have g10_τ7 : τ7.2.1 10 = σ.2.1 10 := hf_τ7.2.1 10 (by decide)
    have g13_τ7 : τ7.2.1 13 = σ.2.1 13 := hf_τ7.2.1 13 (by decide)
    have g14_τ7 : τ7.2.1 14 = σ.2.1 14 := hf_τ7.2.1 14 (by decide)
    have g15_τ7 : τ7.2.1 15 = σ.2.1 15 := hf_τ7.2.1 15 (by decide)
    have g16_τ7 : τ7.2.1 16 = σ.2.1 16 := hf_τ7.2.1 16 (by decide)
    have g27_τ7 : τ7.2.1 27 = σ.2.1 27 := hf_τ7.2.1 27 (by decide)
    have g28_τ7 : τ7.2.1 28 = σ.2.1 28 := hf_τ7.2.1 28 (by decide)
    have g29_τ7 : τ7.2.1 29 = σ.2.1 29 := hf_τ7.2.1 29 (by decide)
    have g30_τ7 : τ7.2.1 30 = σ.2.1 30 := hf_τ7.2.1 30 (by decide)
    have g31_τ7 : τ7.2.1 31 = σ.2.1 31 := hf_τ7.2.1 31 (by decide)
    have g32_τ7 : τ7.2.1 32 = σ.2.1 32 := hf_τ7.2.1 32 (by decide)
    have g33_τ7 : τ7.2.1 33 = σ.2.1 33 := hf_τ7.2.1 33 (by decide)
    have g34_τ7 : τ7.2.1 34 = σ.2.1 34 := hf_τ7.2.1 34 (by decide)
    have g35_τ7 : τ7.2.1 35 = σ.2.1 35 := hf_τ7.2.1 35 (by decide)
    have g36_τ7 : τ7.2.1 36 = σ.2.1 36 := hf_τ7.2.1 36 (by decide)
    have g37_τ7 : τ7.2.1 37 = σ.2.1 37 := hf_τ7.2.1 37 (by decide)
    have W6 : τ7.1 6 = σ.1 6 := by first | exact w6_τ7.trans W6 | omega
    have W7 : τ7.1 7 = σ.1 7 := by first | exact w7_τ7.trans W7 | omega
    have W13 : τ7.1 13 = σ.1 13 := by first | exact w13_τ7.trans W13 | omega
    have W14 : τ7.1 14 = σ.1 14 := by first | exact w14_τ7.trans W14 | omega
    have W15 : τ7.1 15 = σ.1 15 := by first | exact w15_τ7.trans W15 | omega
    have G10 : τ7.2.1 10 = σ.2.1 10 := (g10_τ7).trans G10
    have G13 : τ7.2.1 13 = σ.2.1 13 := (g13_τ7).trans G13
    have G14 : τ7.2.1 14 = σ.2.1 14 := (g14_τ7).trans G14
    have G15 : τ7.2.1 15 = σ.2.1 15 := (g15_τ7).trans G15
    have G16 : τ7.2.1 16 = σ.2.1 16 := (g16_τ7).trans G16
    have G27 : τ7.2.1 27 = σ.2.1 27 := (g27_τ7).trans G27
    have G28 : τ7.2.1 28 = σ.2.1 28 := (g28_τ7).trans G28
    have G29 : τ7.2.1 29 = σ.2.1 29 := (g29_τ7).trans G29
    have G30 : τ7.2.1 30 = σ.2.1 30 := (g30_τ7).trans G30
    have G31 : τ7.2.1 31 = σ.2.1 31 := (g31_τ7).trans G31
    have G32 : τ7.2.1 32 = σ.2.1 32 := (g32_τ7).trans G32
    have G33 : τ7.2.1 33 = σ.2.1 33 := (g33_τ7).trans G33
    have G34 : τ7.2.1 34 = σ.2.1 34 := (g34_τ7).trans G34
    have G35 : τ7.2.1 35 = σ.2.1 35 := (g35_τ7).trans G35
    have G36 : τ7.2.1 36 = σ.2.1 36 := (g36_τ7).trans G36
    have G37 : τ7.2.1 37 = σ.2.1 37 := (g37_τ7).trans G37
    have CJ : J_all (τ7.1 7) (τ7.1 6) (τ7.1 13) (τ7.1 14) (τ7.1 15) (τ7.2.1 13) (τ7.2.1 14) (τ7.2.1 15) (τ7.2.1 16) (τ7.2.1 10) (τ7.2.1 27) (τ7.2.1 28) (τ7.2.1 29) (τ7.2.1 30) (τ7.2.1 31) (τ7.2.1 32) (τ7.2.1 33) (τ7.2.1 34) (τ7.2.1 35) (τ7.2.1 36) (τ7.2.1 37) := by rw [show (J_all (τ7.1 7) (τ7.1 6) (τ7.1 13) (τ7.1 14) (τ7.1 15) (τ7.2.1 13) (τ7.2.1 14) (τ7.2.1 15) (τ7.2.1 16) (τ7.2.1 10) (τ7.2.1 27) (τ7.2.1 28) (τ7.2.1 29) (τ7.2.1 30) (τ7.2.1 31) (τ7.2.1 32) (τ7.2.1 33) (τ7.2.1 34) (τ7.2.1 35) (τ7.2.1 36) (τ7.2.1 37)) = (J_all (σ.1 7) (σ.1 6) (σ.1 13) (σ.1 14) (σ.1 15) (σ.2.1 13) (σ.2.1 14) (σ.2.1 15) (σ.2.1 16) (σ.2.1 10) (σ.2.1 27) (σ.2.1 28) (σ.2.1 29) (σ.2.1 30) (σ.2.1 31) (σ.2.1 32) (σ.2.1 33) (σ.2.1 34) (σ.2.1 35) (σ.2.1 36) (σ.2.1 37)) from by rw [w6_τ7, w7_τ7, w13_τ7, w14_τ7, w15_τ7, g10_τ7, g13_τ7, g14_τ7, g15_τ7, g16_τ7, g27_τ7, g28_τ7, g29_τ7, g30_τ7, g31_τ7, g32_τ7, g33_τ7, g34_τ7, g35_τ7, g36_τ7, g37_τ7]]; exact CJ
    have TR : J_tr (τ7.1 41) ((τ7.1 15) - 1 - (τ7.1 44)) (τ7.1 44) (τ7.2.1 62) (τ7.2.1 55) (τ7.2.1 36) := q5_1
    have A10 : ∀ j, (-1) ≤ τ7.2.1 10 j ∧ τ7.2.1 10 j ≤ 99 := fun j => hT.2 10 j
    have A13 : ∀ j, 0 ≤ τ7.2.1 13 j ∧ τ7.2.1 13 j ≤ 4 := fun j => hT.2 13 j
    have A14 : ∀ j, 0 ≤ τ7.2.1 14 j ∧ τ7.2.1 14 j ≤ 30000 := fun j => hT.2 14 j
    have A15 : ∀ j, 0 ≤ τ7.2.1 15 j ∧ τ7.2.1 15 j ≤ 999 := fun j => hT.2 15 j
    have A16 : ∀ j, (-1) ≤ τ7.2.1 16 j ∧ τ7.2.1 16 j ≤ 1499 := fun j => hT.2 16 j
    have A27 : ∀ j, 0 ≤ τ7.2.1 27 j ∧ τ7.2.1 27 j ≤ 90000 := fun j => hT.2 27 j
    have A28 : ∀ j, 0 ≤ τ7.2.1 28 j ∧ τ7.2.1 28 j ≤ 60 := fun j => hT.2 28 j
    have A29 : ∀ j, 0 ≤ τ7.2.1 29 j ∧ τ7.2.1 29 j ≤ 1499 := fun j => hT.2 29 j
    have A30 : ∀ j, 0 ≤ τ7.2.1 30 j ∧ τ7.2.1 30 j ≤ 20000 := fun j => hT.2 30 j
    have A31 : ∀ j, 0 ≤ τ7.2.1 31 j ∧ τ7.2.1 31 j ≤ 20000 := fun j => hT.2 31 j
    have A32 : ∀ j, 0 ≤ τ7.2.1 32 j ∧ τ7.2.1 32 j ≤ 999999 := fun j => hT.2 32 j
    have A33 : ∀ j, 0 ≤ τ7.2.1 33 j ∧ τ7.2.1 33 j ≤ 20000 := fun j => hT.2 33 j
    have A34 : ∀ j, 0 ≤ τ7.2.1 34 j ∧ τ7.2.1 34 j ≤ 20000 := fun j => hT.2 34 j
    have A35 : ∀ j, 0 ≤ τ7.2.1 35 j ∧ τ7.2.1 35 j ≤ 1499 := fun j => hT.2 35 j
    have A36 : ∀ j, 0 ≤ τ7.2.1 36 j ∧ τ7.2.1 36 j ≤ 20000 := fun j => hT.2 36 j
    have A37 : ∀ j, 0 ≤ τ7.2.1 37 j ∧ τ7.2.1 37 j ≤ 19999 := fun j => hT.2 37 j
    have A55 : ∀ j, 0 ≤ τ7.2.1 55 j ∧ τ7.2.1 55 j ≤ 19999 := fun j => hT.2 55 j
    have A62 : ∀ j, (-20000) ≤ τ7.2.1 62 j ∧ τ7.2.1 62 j ≤ 19999 := fun j => hT.2 62 j
    have v6 : 0 ≤ τ7.1 6 ∧ τ7.1 6 ≤ 30000 := hT.1 6
    have v7 : 0 ≤ τ7.1 7 ∧ τ7.1 7 ≤ 1500 := hT.1 7
    have v13 : 0 ≤ τ7.1 13 ∧ τ7.1 13 ≤ 90000 := hT.1 13
    have v14 : 0 ≤ τ7.1 14 ∧ τ7.1 14 ≤ 20000 := hT.1 14
    have v15 : 0 ≤ τ7.1 15 ∧ τ7.1 15 ≤ 20000 := hT.1 15
    have v40 : 0 ≤ τ7.1 40 ∧ τ7.1 40 ≤ 1500 := hT.1 40
    have v41 : 0 ≤ τ7.1 41 ∧ τ7.1 41 ≤ 20001 := hT.1 41
    have v44 : 0 ≤ τ7.1 44 ∧ τ7.1 44 ≤ 20000 := hT.1 44
    have v63 : 0 ≤ τ7.1 63 ∧ τ7.1 63 ≤ 24000 := hT.1 63
    refine ⟨_, K_X5_begin hT, ?_⟩
    intro τ10 hn_τ10 hf_τ10 hq
    replace hT := hq
    have w6_τ10 : τ10.1 6 = τ7.1 6 := hf_τ10.1 6 (by decide)
    have w7_τ10 : τ10.1 7 = τ7.1 7 := hf_τ10.1 7 (by decide)
    have w13_τ10 : τ10.1 13 = τ7.1 13 := hf_τ10.1 13 (by decide)
    have w14_τ10 : τ10.1 14 = τ7.1 14 := hf_τ10.1 14 (by decide)
    have w15_τ10 : τ10.1 15 = τ7.1 15 := hf_τ10.1 15 (by decide)
    have w40_τ10 : τ10.1 40 = τ7.1 40 := hf_τ10.1 40 (by decide)
    have w41_τ10 : τ10.1 41 = τ7.1 41 := hf_τ10.1 41 (by decide)
    have w44_τ10 : τ10.1 44 = τ7.1 44 := hf_τ10.1 44 (by decide)
    have g10_τ10 : τ10.2.1 10 = τ7.2.1 10 := hf_τ10.2.1 10 (by decide)
    have g13_τ10 : τ10.2.1 13 = τ7.2.1 13 := hf_τ10.2.1 13 (by decide)
    have g14_τ10 : τ10.2.1 14 = τ7.2.1 14 := hf_τ10.2.1 14 (by decide)
    have g15_τ10 : τ10.2.1 15 = τ7.2.1 15 := hf_τ10.2.1 15 (by decide)
    have g16_τ10 : τ10.2.1 16 = τ7.2.1 16 := hf_τ10.2.1 16 (by decide)
    have g27_τ10 : τ10.2.1 27 = τ7.2.1 27 := hf_τ10.2.1 27 (by decide)
    have g28_τ10 : τ10.2.1 28 = τ7.2.1 28 := hf_τ10.2.1 28 (by decide)
    have g29_τ10 : τ10.2.1 29 = τ7.2.1 29 := hf_τ10.2.1 29 (by decide)
    have g30_τ10 : τ10.2.1 30 = τ7.2.1 30 := hf_τ10.2.1 30 (by decide)
    have g31_τ10 : τ10.2.1 31 = τ7.2.1 31 := hf_τ10.2.1 31 (by decide)
    have g32_τ10 : τ10.2.1 32 = τ7.2.1 32 := hf_τ10.2.1 32 (by decide)
    have g33_τ10 : τ10.2.1 33 = τ7.2.1 33 := hf_τ10.2.1 33 (by decide)
    have g34_τ10 : τ10.2.1 34 = τ7.2.1 34 := hf_τ10.2.1 34 (by decide)
    have g35_τ10 : τ10.2.1 35 = τ7.2.1 35 := hf_τ10.2.1 35 (by decide)
    have g36_τ10 : τ10.2.1 36 = τ7.2.1 36 := hf_τ10.2.1 36 (by decide)
    have g37_τ10 : τ10.2.1 37 = τ7.2.1 37 := hf_τ10.2.1 37 (by decide)
    have g55_τ10 : τ10.2.1 55 = τ7.2.1 55 := hf_τ10.2.1 55 (by decide)
    have g62_τ10 : τ10.2.1 62 = τ7.2.1 62 := hf_τ10.2.1 62 (by decide)
    have W6 : τ10.1 6 = σ.1 6 := by first | exact w6_τ10.trans W6 | omega
    have W7 : τ10.1 7 = σ.1 7 := by first | exact w7_τ10.trans W7 | omega
    have W13 : τ10.1 13 = σ.1 13 := by first | exact w13_τ10.trans W13 | omega
    have W14 : τ10.1 14 = σ.1 14 := by first | exact w14_τ10.trans W14 | omega
    have W15 : τ10.1 15 = σ.1 15 := by first | exact w15_τ10.trans W15 | omega
    have G10 : τ10.2.1 10 = σ.2.1 10 := (g10_τ10).trans G10
    have G13 : τ10.2.1 13 = σ.2.1 13 := (g13_τ10).trans G13
    have G14 : τ10.2.1 14 = σ.2.1 14 := (g14_τ10).trans G14
    have G15 : τ10.2.1 15 = σ.2.1 15 := (g15_τ10).trans G15
    have G16 : τ10.2.1 16 = σ.2.1 16 := (g16_τ10).trans G16
    have G27 : τ10.2.1 27 = σ.2.1 27 := (g27_τ10).trans G27
    have G28 : τ10.2.1 28 = σ.2.1 28 := (g28_τ10).trans G28
    have G29 : τ10.2.1 29 = σ.2.1 29 := (g29_τ10).trans G29
    have G30 : τ10.2.1 30 = σ.2.1 30 := (g30_τ10).trans G30
    have G31 : τ10.2.1 31 = σ.2.1 31 := (g31_τ10).trans G31
    have G32 : τ10.2.1 32 = σ.2.1 32 := (g32_τ10).trans G32
    have G33 : τ10.2.1 33 = σ.2.1 33 := (g33_τ10).trans G33
    have G34 : τ10.2.1 34 = σ.2.1 34 := (g34_τ10).trans G34
    have G35 : τ10.2.1 35 = σ.2.1 35 := (g35_τ10).trans G35
    have G36 : τ10.2.1 36 = σ.2.1 36 := (g36_τ10).trans G36
    have G37 : τ10.2.1 37 = σ.2.1 37 := (g37_τ10).trans G37
    have CJ : J_all (τ10.1 7) (τ10.1 6) (τ10.1 13) (τ10.1 14) (τ10.1 15) (τ10.2.1 13) (τ10.2.1 14) (τ10.2.1 15) (τ10.2.1 16) (τ10.2.1 10) (τ10.2.1 27) (τ10.2.1 28) (τ10.2.1 29) (τ10.2.1 30) (τ10.2.1 31) (τ10.2.1 32) (τ10.2.1 33) (τ10.2.1 34) (τ10.2.1 35) (τ10.2.1 36) (τ10.2.1 37) := by rw [show (J_all (τ10.1 7) (τ10.1 6) (τ10.1 13) (τ10.1 14) (τ10.1 15) (τ10.2.1 13) (τ10.2.1 14) (τ10.2.1 15) (τ10.2.1 16) (τ10.2.1 10) (τ10.2.1 27) (τ10.2.1 28) (τ10.2.1 29) (τ10.2.1 30) (τ10.2.1 31) (τ10.2.1 32) (τ10.2.1 33) (τ10.2.1 34) (τ10.2.1 35) (τ10.2.1 36) (τ10.2.1 37)) = (J_all (τ7.1 7) (τ7.1 6) (τ7.1 13) (τ7.1 14) (τ7.1 15) (τ7.2.1 13) (τ7.2.1 14) (τ7.2.1 15) (τ7.2.1 16) (τ7.2.1 10) (τ7.2.1 27) (τ7.2.1 28) (τ7.2.1 29) (τ7.2.1 30) (τ7.2.1 31) (τ7.2.1 32) (τ7.2.1 33) (τ7.2.1 34) (τ7.2.1 35) (τ7.2.1 36) (τ7.2.1 37)) from by rw [w6_τ10, w7_τ10, w13_τ10, w14_τ10, w15_τ10, g10_τ10, g13_τ10, g14_τ10, g15_τ10, g16_τ10, g27_τ10, g28_τ10, g29_τ10, g30_τ10, g31_τ10, g32_τ10, g33_τ10, g34_τ10, g35_τ10, g36_τ10, g37_τ10]]; exact CJ
    have TR : J_tr (τ10.1 41) ((τ10.1 15) - 1 - (τ10.1 44)) (τ10.1 44) (τ10.2.1 62) (τ10.2.1 55) (τ10.2.1 36) := by rw [show (J_tr (τ10.1 41) ((τ10.1 15) - 1 - (τ10.1 44)) (τ10.1 44) (τ10.2.1 62) (τ10.2.1 55) (τ10.2.1 36)) = (J_tr (τ7.1 41) ((τ7.1 15) - 1 - (τ7.1 44)) (τ7.1 44) (τ7.2.1 62) (τ7.2.1 55) (τ7.2.1 36)) from by rw [w15_τ10, w41_τ10, w44_τ10, g36_τ10, g55_τ10, g62_τ10]]; exact TR
    have A10 : ∀ j, (-1) ≤ τ10.2.1 10 j ∧ τ10.2.1 10 j ≤ 99 := fun j => hT.2 10 j
    have A13 : ∀ j, 0 ≤ τ10.2.1 13 j ∧ τ10.2.1 13 j ≤ 4 := fun j => hT.2 13 j
    have A14 : ∀ j, 0 ≤ τ10.2.1 14 j ∧ τ10.2.1 14 j ≤ 30000 := fun j => hT.2 14 j
    have A15 : ∀ j, 0 ≤ τ10.2.1 15 j ∧ τ10.2.1 15 j ≤ 999 := fun j => hT.2 15 j
    have A16 : ∀ j, (-1) ≤ τ10.2.1 16 j ∧ τ10.2.1 16 j ≤ 1499 := fun j => hT.2 16 j
    have A27 : ∀ j, 0 ≤ τ10.2.1 27 j ∧ τ10.2.1 27 j ≤ 90000 := fun j => hT.2 27 j
    have A28 : ∀ j, 0 ≤ τ10.2.1 28 j ∧ τ10.2.1 28 j ≤ 60 := fun j => hT.2 28 j
    have A29 : ∀ j, 0 ≤ τ10.2.1 29 j ∧ τ10.2.1 29 j ≤ 1499 := fun j => hT.2 29 j
    have A30 : ∀ j, 0 ≤ τ10.2.1 30 j ∧ τ10.2.1 30 j ≤ 20000 := fun j => hT.2 30 j
    have A31 : ∀ j, 0 ≤ τ10.2.1 31 j ∧ τ10.2.1 31 j ≤ 20000 := fun j => hT.2 31 j
    have A32 : ∀ j, 0 ≤ τ10.2.1 32 j ∧ τ10.2.1 32 j ≤ 999999 := fun j => hT.2 32 j
    have A33 : ∀ j, 0 ≤ τ10.2.1 33 j ∧ τ10.2.1 33 j ≤ 20000 := fun j => hT.2 33 j
    have A34 : ∀ j, 0 ≤ τ10.2.1 34 j ∧ τ10.2.1 34 j ≤ 20000 := fun j => hT.2 34 j
    have A35 : ∀ j, 0 ≤ τ10.2.1 35 j ∧ τ10.2.1 35 j ≤ 1499 := fun j => hT.2 35 j
    have A36 : ∀ j, 0 ≤ τ10.2.1 36 j ∧ τ10.2.1 36 j ≤ 20000 := fun j => hT.2 36 j
    have A37 : ∀ j, 0 ≤ τ10.2.1 37 j ∧ τ10.2.1 37 j ≤ 19999 := fun j => hT.2 37 j
    have A55 : ∀ j, 0 ≤ τ10.2.1 55 j ∧ τ10.2.1 55 j ≤ 19999 := fun j => hT.2 55 j
    have A62 : ∀ j, (-20000) ≤ τ10.2.1 62 j ∧ τ10.2.1 62 j ≤ 19999 := fun j => hT.2 62 j
    have v6 : 0 ≤ τ10.1 6 ∧ τ10.1 6 ≤ 30000 := hT.1 6
    have v7 : 0 ≤ τ10.1 7 ∧ τ10.1 7 ≤ 1500 := hT.1 7
    have v13 : 0 ≤ τ10.1 13 ∧ τ10.1 13 ≤ 90000 := hT.1 13
    have v14 : 0 ≤ τ10.1 14 ∧ τ10.1 14 ≤ 20000 := hT.1 14
    have v15 : 0 ≤ τ10.1 15 ∧ τ10.1 15 ≤ 20000 := hT.1 15
    have v40 : 0 ≤ τ10.1 40 ∧ τ10.1 40 ≤ 1500 := hT.1 40
    have v41 : 0 ≤ τ10.1 41 ∧ τ10.1 41 ≤ 20001 := hT.1 41
    have v44 : 0 ≤ τ10.1 44 ∧ τ10.1 44 ≤ 20000 := hT.1 44
    have v63 : 0 ≤ τ10.1 63 ∧ τ10.1 63 ≤ 24000 := hT.1 63
    refine ⟨_, K_X5_putToken hT, ?_⟩
    intro τ13 hn_τ13 hf_τ13 hq
    replace hT := hq
    have w6_τ13 : τ13.1 6 = τ10.1 6 := hf_τ13.1 6 (by decide)
    have w7_τ13 : τ13.1 7 = τ10.1 7 := hf_τ13.1 7 (by decide)
    have w13_τ13 : τ13.1 13 = τ10.1 13 := hf_τ13.1 13 (by decide)
    have w14_τ13 : τ13.1 14 = τ10.1 14 := hf_τ13.1 14 (by decide)
    have w15_τ13 : τ13.1 15 = τ10.1 15 := hf_τ13.1 15 (by decide)
    have w40_τ13 : τ13.1 40 = τ10.1 40 := hf_τ13.1 40 (by decide)
    have w41_τ13 : τ13.1 41 = τ10.1 41 := hf_τ13.1 41 (by decide)
    have w44_τ13 : τ13.1 44 = τ10.1 44 := hf_τ13.1 44 (by decide)
    have g10_τ13 : τ13.2.1 10 = τ10.2.1 10 := hf_τ13.2.1 10 (by decide)
    have g13_τ13 : τ13.2.1 13 = τ10.2.1 13 := hf_τ13.2.1 13 (by decide)
    have g14_τ13 : τ13.2.1 14 = τ10.2.1 14 := hf_τ13.2.1 14 (by decide)
    have g15_τ13 : τ13.2.1 15 = τ10.2.1 15 := hf_τ13.2.1 15 (by decide)
    have g16_τ13 : τ13.2.1 16 = τ10.2.1 16 := hf_τ13.2.1 16 (by decide)
    have g27_τ13 : τ13.2.1 27 = τ10.2.1 27 := hf_τ13.2.1 27 (by decide)
    have g28_τ13 : τ13.2.1 28 = τ10.2.1 28 := hf_τ13.2.1 28 (by decide)
    have g29_τ13 : τ13.2.1 29 = τ10.2.1 29 := hf_τ13.2.1 29 (by decide)
    have g30_τ13 : τ13.2.1 30 = τ10.2.1 30 := hf_τ13.2.1 30 (by decide)
    have g31_τ13 : τ13.2.1 31 = τ10.2.1 31 := hf_τ13.2.1 31 (by decide)
    have g32_τ13 : τ13.2.1 32 = τ10.2.1 32 := hf_τ13.2.1 32 (by decide)
    have g33_τ13 : τ13.2.1 33 = τ10.2.1 33 := hf_τ13.2.1 33 (by decide)
    have g34_τ13 : τ13.2.1 34 = τ10.2.1 34 := hf_τ13.2.1 34 (by decide)
    have g35_τ13 : τ13.2.1 35 = τ10.2.1 35 := hf_τ13.2.1 35 (by decide)
    have g36_τ13 : τ13.2.1 36 = τ10.2.1 36 := hf_τ13.2.1 36 (by decide)
    have g37_τ13 : τ13.2.1 37 = τ10.2.1 37 := hf_τ13.2.1 37 (by decide)
    have g55_τ13 : τ13.2.1 55 = τ10.2.1 55 := hf_τ13.2.1 55 (by decide)
    have g62_τ13 : τ13.2.1 62 = τ10.2.1 62 := hf_τ13.2.1 62 (by decide)
    have W6 : τ13.1 6 = σ.1 6 := by first | exact w6_τ13.trans W6 | omega
    have W7 : τ13.1 7 = σ.1 7 := by first | exact w7_τ13.trans W7 | omega
    have W13 : τ13.1 13 = σ.1 13 := by first | exact w13_τ13.trans W13 | omega
    have W14 : τ13.1 14 = σ.1 14 := by first | exact w14_τ13.trans W14 | omega
    have W15 : τ13.1 15 = σ.1 15 := by first | exact w15_τ13.trans W15 | omega
    have G10 : τ13.2.1 10 = σ.2.1 10 := (g10_τ13).trans G10
    have G13 : τ13.2.1 13 = σ.2.1 13 := (g13_τ13).trans G13
    have G14 : τ13.2.1 14 = σ.2.1 14 := (g14_τ13).trans G14
    have G15 : τ13.2.1 15 = σ.2.1 15 := (g15_τ13).trans G15
    have G16 : τ13.2.1 16 = σ.2.1 16 := (g16_τ13).trans G16
    have G27 : τ13.2.1 27 = σ.2.1 27 := (g27_τ13).trans G27
    have G28 : τ13.2.1 28 = σ.2.1 28 := (g28_τ13).trans G28
    have G29 : τ13.2.1 29 = σ.2.1 29 := (g29_τ13).trans G29
    have G30 : τ13.2.1 30 = σ.2.1 30 := (g30_τ13).trans G30
    have G31 : τ13.2.1 31 = σ.2.1 31 := (g31_τ13).trans G31
    have G32 : τ13.2.1 32 = σ.2.1 32 := (g32_τ13).trans G32
    have G33 : τ13.2.1 33 = σ.2.1 33 := (g33_τ13).trans G33
    have G34 : τ13.2.1 34 = σ.2.1 34 := (g34_τ13).trans G34
    have G35 : τ13.2.1 35 = σ.2.1 35 := (g35_τ13).trans G35
    have G36 : τ13.2.1 36 = σ.2.1 36 := (g36_τ13).trans G36
    have G37 : τ13.2.1 37 = σ.2.1 37 := (g37_τ13).trans G37
    have CJ : J_all (τ13.1 7) (τ13.1 6) (τ13.1 13) (τ13.1 14) (τ13.1 15) (τ13.2.1 13) (τ13.2.1 14) (τ13.2.1 15) (τ13.2.1 16) (τ13.2.1 10) (τ13.2.1 27) (τ13.2.1 28) (τ13.2.1 29) (τ13.2.1 30) (τ13.2.1 31) (τ13.2.1 32) (τ13.2.1 33) (τ13.2.1 34) (τ13.2.1 35) (τ13.2.1 36) (τ13.2.1 37) := by rw [show (J_all (τ13.1 7) (τ13.1 6) (τ13.1 13) (τ13.1 14) (τ13.1 15) (τ13.2.1 13) (τ13.2.1 14) (τ13.2.1 15) (τ13.2.1 16) (τ13.2.1 10) (τ13.2.1 27) (τ13.2.1 28) (τ13.2.1 29) (τ13.2.1 30) (τ13.2.1 31) (τ13.2.1 32) (τ13.2.1 33) (τ13.2.1 34) (τ13.2.1 35) (τ13.2.1 36) (τ13.2.1 37)) = (J_all (τ10.1 7) (τ10.1 6) (τ10.1 13) (τ10.1 14) (τ10.1 15) (τ10.2.1 13) (τ10.2.1 14) (τ10.2.1 15) (τ10.2.1 16) (τ10.2.1 10) (τ10.2.1 27) (τ10.2.1 28) (τ10.2.1 29) (τ10.2.1 30) (τ10.2.1 31) (τ10.2.1 32) (τ10.2.1 33) (τ10.2.1 34) (τ10.2.1 35) (τ10.2.1 36) (τ10.2.1 37)) from by rw [w6_τ13, w7_τ13, w13_τ13, w14_τ13, w15_τ13, g10_τ13, g13_τ13, g14_τ13, g15_τ13, g16_τ13, g27_τ13, g28_τ13, g29_τ13, g30_τ13, g31_τ13, g32_τ13, g33_τ13, g34_τ13, g35_τ13, g36_τ13, g37_τ13]]; exact CJ
    have TR : J_tr (τ13.1 41) ((τ13.1 15) - 1 - (τ13.1 44)) (τ13.1 44) (τ13.2.1 62) (τ13.2.1 55) (τ13.2.1 36) := by rw [show (J_tr (τ13.1 41) ((τ13.1 15) - 1 - (τ13.1 44)) (τ13.1 44) (τ13.2.1 62) (τ13.2.1 55) (τ13.2.1 36)) = (J_tr (τ10.1 41) ((τ10.1 15) - 1 - (τ10.1 44)) (τ10.1 44) (τ10.2.1 62) (τ10.2.1 55) (τ10.2.1 36)) from by rw [w15_τ13, w41_τ13, w44_τ13, g36_τ13, g55_τ13, g62_τ13]]; exact TR
    have A10 : ∀ j, (-1) ≤ τ13.2.1 10 j ∧ τ13.2.1 10 j ≤ 99 := fun j => hT.2 10 j
    have A13 : ∀ j, 0 ≤ τ13.2.1 13 j ∧ τ13.2.1 13 j ≤ 4 := fun j => hT.2 13 j
    have A14 : ∀ j, 0 ≤ τ13.2.1 14 j ∧ τ13.2.1 14 j ≤ 30000 := fun j => hT.2 14 j
    have A15 : ∀ j, 0 ≤ τ13.2.1 15 j ∧ τ13.2.1 15 j ≤ 999 := fun j => hT.2 15 j
    have A16 : ∀ j, (-1) ≤ τ13.2.1 16 j ∧ τ13.2.1 16 j ≤ 1499 := fun j => hT.2 16 j
    have A27 : ∀ j, 0 ≤ τ13.2.1 27 j ∧ τ13.2.1 27 j ≤ 90000 := fun j => hT.2 27 j
    have A28 : ∀ j, 0 ≤ τ13.2.1 28 j ∧ τ13.2.1 28 j ≤ 60 := fun j => hT.2 28 j
    have A29 : ∀ j, 0 ≤ τ13.2.1 29 j ∧ τ13.2.1 29 j ≤ 1499 := fun j => hT.2 29 j
    have A30 : ∀ j, 0 ≤ τ13.2.1 30 j ∧ τ13.2.1 30 j ≤ 20000 := fun j => hT.2 30 j
    have A31 : ∀ j, 0 ≤ τ13.2.1 31 j ∧ τ13.2.1 31 j ≤ 20000 := fun j => hT.2 31 j
    have A32 : ∀ j, 0 ≤ τ13.2.1 32 j ∧ τ13.2.1 32 j ≤ 999999 := fun j => hT.2 32 j
    have A33 : ∀ j, 0 ≤ τ13.2.1 33 j ∧ τ13.2.1 33 j ≤ 20000 := fun j => hT.2 33 j
    have A34 : ∀ j, 0 ≤ τ13.2.1 34 j ∧ τ13.2.1 34 j ≤ 20000 := fun j => hT.2 34 j
    have A35 : ∀ j, 0 ≤ τ13.2.1 35 j ∧ τ13.2.1 35 j ≤ 1499 := fun j => hT.2 35 j
    have A36 : ∀ j, 0 ≤ τ13.2.1 36 j ∧ τ13.2.1 36 j ≤ 20000 := fun j => hT.2 36 j
    have A37 : ∀ j, 0 ≤ τ13.2.1 37 j ∧ τ13.2.1 37 j ≤ 19999 := fun j => hT.2 37 j
    have A55 : ∀ j, 0 ≤ τ13.2.1 55 j ∧ τ13.2.1 55 j ≤ 19999 := fun j => hT.2 55 j
    have A62 : ∀ j, (-20000) ≤ τ13.2.1 62 j ∧ τ13.2.1 62 j ≤ 19999 := fun j => hT.2 62 j
    have v6 : 0 ≤ τ13.1 6 ∧ τ13.1 6 ≤ 30000 := hT.1 6
    have v7 : 0 ≤ τ13.1 7 ∧ τ13.1 7 ≤ 1500 := hT.1 7
    have v13 : 0 ≤ τ13.1 13 ∧ τ13.1 13 ≤ 90000 := hT.1 13
    have v14 : 0 ≤ τ13.1 14 ∧ τ13.1 14 ≤ 20000 := hT.1 14
    have v15 : 0 ≤ τ13.1 15 ∧ τ13.1 15 ≤ 20000 := hT.1 15
    have v40 : 0 ≤ τ13.1 40 ∧ τ13.1 40 ≤ 1500 := hT.1 40
    have v41 : 0 ≤ τ13.1 41 ∧ τ13.1 41 ≤ 20001 := hT.1 41
    have v44 : 0 ≤ τ13.1 44 ∧ τ13.1 44 ≤ 20000 := hT.1 44
    have v63 : 0 ≤ τ13.1 63 ∧ τ13.1 63 ≤ 24000 := hT.1 63
    exact l_39 ((1501 - 0 : Int).toNat + 1) _ _ (show (1501 - 0 : Int) < (((1501 - 0 : Int).toNat + 1 : Nat) : Int) from by ((first | omega | (simp only [st_s] <;> omega) | assumption | omega | fail))) hT (show τ13.1 6 = σ.1 6 from by first | exact W6 | omega) (show τ13.1 7 = σ.1 7 from by first | exact W7 | omega) (show τ13.1 13 = σ.1 13 from by first | exact W13 | omega) (show τ13.1 14 = σ.1 14 from by first | exact W14 | omega) (show τ13.1 15 = σ.1 15 from by first | exact W15 | omega) G10 G13 G14 G15 G16 G27 G28 G29 G30 G31 G32 G33 G34 G35 G36 G37 (show 0 ≤ 0 ∧ 0 ≤ 1500 from by (first | omega | (simp only [st_s] <;> omega) | assumption | omega | fail)) (show J_tr (τ13.1 41) ((τ13.1 15) - 1 - (τ13.1 44)) (τ13.1 44) (τ13.2.1 62) (τ13.2.1 55) (τ13.2.1 36) from TR) (show (τ13.1 44) ≤ (σ.1 15) - 1 from by (first | omega | (simp only [st_s] <;> omega) | assumption | omega | fail))
  ·
    exact hT
set_option maxHeartbeats 1000000 in
theorem K_X12_printUnpacked {n1 : Int} {σ : S0} (hT : c_T σ) (p1 : J_all (σ.1 7) (σ.1 6) (σ.1 13) (σ.1 14) (σ.1 15) (σ.2.1 13) (σ.2.1 14) (σ.2.1 15) (σ.2.1 16) (σ.2.1 10) (σ.2.1 27) (σ.2.1 28) (σ.2.1 29) (σ.2.1 30) (σ.2.1 31) (σ.2.1 32) (σ.2.1 33) (σ.2.1 34) (σ.2.1 35) (σ.2.1 36) (σ.2.1 37)) : W_X12_printUnpacked n1 σ (fun (x : Int) (τ : S0) => (c_T τ)) := by
  have A10 : ∀ j, (-1) ≤ σ.2.1 10 j ∧ σ.2.1 10 j ≤ 99 := fun j => hT.2 10 j
  have A13 : ∀ j, 0 ≤ σ.2.1 13 j ∧ σ.2.1 13 j ≤ 4 := fun j => hT.2 13 j
  have A14 : ∀ j, 0 ≤ σ.2.1 14 j ∧ σ.2.1 14 j ≤ 30000 := fun j => hT.2 14 j
  have A15 : ∀ j, 0 ≤ σ.2.1 15 j ∧ σ.2.1 15 j ≤ 999 := fun j => hT.2 15 j
  have A16 : ∀ j, (-1) ≤ σ.2.1 16 j ∧ σ.2.1 16 j ≤ 1499 := fun j => hT.2 16 j
  have A27 : ∀ j, 0 ≤ σ.2.1 27 j ∧ σ.2.1 27 j ≤ 90000 := fun j => hT.2 27 j
  have A28 : ∀ j, 0 ≤ σ.2.1 28 j ∧ σ.2.1 28 j ≤ 60 := fun j => hT.2 28 j
  have A29 : ∀ j, 0 ≤ σ.2.1 29 j ∧ σ.2.1 29 j ≤ 1499 := fun j => hT.2 29 j
  have A30 : ∀ j, 0 ≤ σ.2.1 30 j ∧ σ.2.1 30 j ≤ 20000 := fun j => hT.2 30 j
  have A31 : ∀ j, 0 ≤ σ.2.1 31 j ∧ σ.2.1 31 j ≤ 20000 := fun j => hT.2 31 j
  have A32 : ∀ j, 0 ≤ σ.2.1 32 j ∧ σ.2.1 32 j ≤ 999999 := fun j => hT.2 32 j
  have A33 : ∀ j, 0 ≤ σ.2.1 33 j ∧ σ.2.1 33 j ≤ 20000 := fun j => hT.2 33 j
  have A34 : ∀ j, 0 ≤ σ.2.1 34 j ∧ σ.2.1 34 j ≤ 20000 := fun j => hT.2 34 j
  have A35 : ∀ j, 0 ≤ σ.2.1 35 j ∧ σ.2.1 35 j ≤ 1499 := fun j => hT.2 35 j
  have A36 : ∀ j, 0 ≤ σ.2.1 36 j ∧ σ.2.1 36 j ≤ 20000 := fun j => hT.2 36 j
  have A37 : ∀ j, 0 ≤ σ.2.1 37 j ∧ σ.2.1 37 j ≤ 19999 := fun j => hT.2 37 j
  have A55 : ∀ j, 0 ≤ σ.2.1 55 j ∧ σ.2.1 55 j ≤ 19999 := fun j => hT.2 55 j
  have A62 : ∀ j, (-20000) ≤ σ.2.1 62 j ∧ σ.2.1 62 j ≤ 19999 := fun j => hT.2 62 j
  have v6 : 0 ≤ σ.1 6 ∧ σ.1 6 ≤ 30000 := hT.1 6
  have v7 : 0 ≤ σ.1 7 ∧ σ.1 7 ≤ 1500 := hT.1 7
  have v13 : 0 ≤ σ.1 13 ∧ σ.1 13 ≤ 90000 := hT.1 13
  have v14 : 0 ≤ σ.1 14 ∧ σ.1 14 ≤ 20000 := hT.1 14
  have v15 : 0 ≤ σ.1 15 ∧ σ.1 15 ≤ 20000 := hT.1 15
  have v41 : 0 ≤ σ.1 41 ∧ σ.1 41 ≤ 20001 := hT.1 41
  have v44 : 0 ≤ σ.1 44 ∧ σ.1 44 ≤ 20000 := hT.1 44
  have W6 : σ.1 6 = σ.1 6 := rfl
  have W7 : σ.1 7 = σ.1 7 := rfl
  have W13 : σ.1 13 = σ.1 13 := rfl
  have W14 : σ.1 14 = σ.1 14 := rfl
  have W15 : σ.1 15 = σ.1 15 := rfl
  have G10 : σ.2.1 10 = σ.2.1 10 := rfl
  have G13 : σ.2.1 13 = σ.2.1 13 := rfl
  have G14 : σ.2.1 14 = σ.2.1 14 := rfl
  have G15 : σ.2.1 15 = σ.2.1 15 := rfl
  have G16 : σ.2.1 16 = σ.2.1 16 := rfl
  have G27 : σ.2.1 27 = σ.2.1 27 := rfl
  have G28 : σ.2.1 28 = σ.2.1 28 := rfl
  have G29 : σ.2.1 29 = σ.2.1 29 := rfl
  have G30 : σ.2.1 30 = σ.2.1 30 := rfl
  have G31 : σ.2.1 31 = σ.2.1 31 := rfl
  have G32 : σ.2.1 32 = σ.2.1 32 := rfl
  have G33 : σ.2.1 33 = σ.2.1 33 := rfl
  have G34 : σ.2.1 34 = σ.2.1 34 := rfl
  have G35 : σ.2.1 35 = σ.2.1 35 := rfl
  have G36 : σ.2.1 36 = σ.2.1 36 := rfl
  have G37 : σ.2.1 37 = σ.2.1 37 := rfl
  have G55 : σ.2.1 55 = σ.2.1 55 := rfl
  intro P48 h48
  have CJ : J_all (σ.1 7) (σ.1 6) (σ.1 13) (σ.1 14) (σ.1 15) (σ.2.1 13) (σ.2.1 14) (σ.2.1 15) (σ.2.1 16) (σ.2.1 10) (σ.2.1 27) (σ.2.1 28) (σ.2.1 29) (σ.2.1 30) (σ.2.1 31) (σ.2.1 32) (σ.2.1 33) (σ.2.1 34) (σ.2.1 35) (σ.2.1 36) (σ.2.1 37) := p1
  have CJ_0 := CJ
  have l_48 : ∀ (m_48 : Nat) (u2_48 : Int) (τ_48 : S0), 20002 - u2_48 < (m_48 : Int) → (c_T τ_48) → (τ_48.1 6 = σ.1 6) → (τ_48.1 7 = σ.1 7) → (τ_48.1 13 = σ.1 13) → (τ_48.1 14 = σ.1 14) → (τ_48.1 15 = σ.1 15) → (τ_48.2.1 10 = σ.2.1 10) → (τ_48.2.1 13 = σ.2.1 13) → (τ_48.2.1 14 = σ.2.1 14) → (τ_48.2.1 15 = σ.2.1 15) → (τ_48.2.1 16 = σ.2.1 16) → (τ_48.2.1 27 = σ.2.1 27) → (τ_48.2.1 28 = σ.2.1 28) → (τ_48.2.1 29 = σ.2.1 29) → (τ_48.2.1 30 = σ.2.1 30) → (τ_48.2.1 31 = σ.2.1 31) → (τ_48.2.1 32 = σ.2.1 32) → (τ_48.2.1 33 = σ.2.1 33) → (τ_48.2.1 34 = σ.2.1 34) → (τ_48.2.1 35 = σ.2.1 35) → (τ_48.2.1 36 = σ.2.1 36) → (τ_48.2.1 37 = σ.2.1 37) → (τ_48.2.1 55 = σ.2.1 55) → (0 ≤ u2_48 ∧ u2_48 ≤ 20001) → (J_tr (τ_48.1 41) ((τ_48.1 15) - 1 - (τ_48.1 44)) (τ_48.1 44) (τ_48.2.1 62) (τ_48.2.1 55) (τ_48.2.1 36)) → (∀ n : Int, 0 ≤ n → n < (τ_48.1 41) → 0 ≤ τ_48.2.1 62 n) → ((τ_48.1 44) ≤ (σ.1 15) - 1) → P48 u2_48 τ_48 := by
    intro m_48
    induction m_48 with
    | zero =>
      intro u2_48 τ_48 hm hT W6 W7 W13 W14 W15 G10 G13 G14 G15 G16 G27 G28 G29 G30 G31 G32 G33 G34 G35 G36 G37 G55 i48_1 i48_2 i48_3 i48_4
      have A10 : ∀ j, (-1) ≤ τ_48.2.1 10 j ∧ τ_48.2.1 10 j ≤ 99 := fun j => hT.2 10 j
      have A13 : ∀ j, 0 ≤ τ_48.2.1 13 j ∧ τ_48.2.1 13 j ≤ 4 := fun j => hT.2 13 j
      have A14 : ∀ j, 0 ≤ τ_48.2.1 14 j ∧ τ_48.2.1 14 j ≤ 30000 := fun j => hT.2 14 j
      have A15 : ∀ j, 0 ≤ τ_48.2.1 15 j ∧ τ_48.2.1 15 j ≤ 999 := fun j => hT.2 15 j
      have A16 : ∀ j, (-1) ≤ τ_48.2.1 16 j ∧ τ_48.2.1 16 j ≤ 1499 := fun j => hT.2 16 j
      have A27 : ∀ j, 0 ≤ τ_48.2.1 27 j ∧ τ_48.2.1 27 j ≤ 90000 := fun j => hT.2 27 j
      have A28 : ∀ j, 0 ≤ τ_48.2.1 28 j ∧ τ_48.2.1 28 j ≤ 60 := fun j => hT.2 28 j
      have A29 : ∀ j, 0 ≤ τ_48.2.1 29 j ∧ τ_48.2.1 29 j ≤ 1499 := fun j => hT.2 29 j
      have A30 : ∀ j, 0 ≤ τ_48.2.1 30 j ∧ τ_48.2.1 30 j ≤ 20000 := fun j => hT.2 30 j
      have A31 : ∀ j, 0 ≤ τ_48.2.1 31 j ∧ τ_48.2.1 31 j ≤ 20000 := fun j => hT.2 31 j
      have A32 : ∀ j, 0 ≤ τ_48.2.1 32 j ∧ τ_48.2.1 32 j ≤ 999999 := fun j => hT.2 32 j
      have A33 : ∀ j, 0 ≤ τ_48.2.1 33 j ∧ τ_48.2.1 33 j ≤ 20000 := fun j => hT.2 33 j
      have A34 : ∀ j, 0 ≤ τ_48.2.1 34 j ∧ τ_48.2.1 34 j ≤ 20000 := fun j => hT.2 34 j
      have A35 : ∀ j, 0 ≤ τ_48.2.1 35 j ∧ τ_48.2.1 35 j ≤ 1499 := fun j => hT.2 35 j
      have A36 : ∀ j, 0 ≤ τ_48.2.1 36 j ∧ τ_48.2.1 36 j ≤ 20000 := fun j => hT.2 36 j
      have A37 : ∀ j, 0 ≤ τ_48.2.1 37 j ∧ τ_48.2.1 37 j ≤ 19999 := fun j => hT.2 37 j
      have A55 : ∀ j, 0 ≤ τ_48.2.1 55 j ∧ τ_48.2.1 55 j ≤ 19999 := fun j => hT.2 55 j
      have A62 : ∀ j, (-20000) ≤ τ_48.2.1 62 j ∧ τ_48.2.1 62 j ≤ 19999 := fun j => hT.2 62 j
      have v6 : 0 ≤ τ_48.1 6 ∧ τ_48.1 6 ≤ 30000 := hT.1 6
      have v7 : 0 ≤ τ_48.1 7 ∧ τ_48.1 7 ≤ 1500 := hT.1 7
      have v13 : 0 ≤ τ_48.1 13 ∧ τ_48.1 13 ≤ 90000 := hT.1 13
      have v14 : 0 ≤ τ_48.1 14 ∧ τ_48.1 14 ≤ 20000 := hT.1 14
      have v15 : 0 ≤ τ_48.1 15 ∧ τ_48.1 15 ≤ 20000 := hT.1 15
      have v41 : 0 ≤ τ_48.1 41 ∧ τ_48.1 41 ≤ 20001 := hT.1 41
      have v44 : 0 ≤ τ_48.1 44 ∧ τ_48.1 44 ≤ 20000 := hT.1 44
      exfalso; (first | omega | (simp only [st_s] <;> omega) | assumption | omega | fail)
    | succ m_48 ih_48 =>
      intro u2_48 τ_48 hm_48 hT W6 W7 W13 W14 W15 G10 G13 G14 G15 G16 G27 G28 G29 G30 G31 G32 G33 G34 G35 G36 G37 G55 i48_1 i48_2 i48_3 i48_4
      have A10 : ∀ j, (-1) ≤ τ_48.2.1 10 j ∧ τ_48.2.1 10 j ≤ 99 := fun j => hT.2 10 j
      have A13 : ∀ j, 0 ≤ τ_48.2.1 13 j ∧ τ_48.2.1 13 j ≤ 4 := fun j => hT.2 13 j
      have A14 : ∀ j, 0 ≤ τ_48.2.1 14 j ∧ τ_48.2.1 14 j ≤ 30000 := fun j => hT.2 14 j
      have A15 : ∀ j, 0 ≤ τ_48.2.1 15 j ∧ τ_48.2.1 15 j ≤ 999 := fun j => hT.2 15 j
      have A16 : ∀ j, (-1) ≤ τ_48.2.1 16 j ∧ τ_48.2.1 16 j ≤ 1499 := fun j => hT.2 16 j
      have A27 : ∀ j, 0 ≤ τ_48.2.1 27 j ∧ τ_48.2.1 27 j ≤ 90000 := fun j => hT.2 27 j
      have A28 : ∀ j, 0 ≤ τ_48.2.1 28 j ∧ τ_48.2.1 28 j ≤ 60 := fun j => hT.2 28 j
      have A29 : ∀ j, 0 ≤ τ_48.2.1 29 j ∧ τ_48.2.1 29 j ≤ 1499 := fun j => hT.2 29 j
      have A30 : ∀ j, 0 ≤ τ_48.2.1 30 j ∧ τ_48.2.1 30 j ≤ 20000 := fun j => hT.2 30 j
      have A31 : ∀ j, 0 ≤ τ_48.2.1 31 j ∧ τ_48.2.1 31 j ≤ 20000 := fun j => hT.2 31 j
      have A32 : ∀ j, 0 ≤ τ_48.2.1 32 j ∧ τ_48.2.1 32 j ≤ 999999 := fun j => hT.2 32 j
      have A33 : ∀ j, 0 ≤ τ_48.2.1 33 j ∧ τ_48.2.1 33 j ≤ 20000 := fun j => hT.2 33 j
      have A34 : ∀ j, 0 ≤ τ_48.2.1 34 j ∧ τ_48.2.1 34 j ≤ 20000 := fun j => hT.2 34 j
      have A35 : ∀ j, 0 ≤ τ_48.2.1 35 j ∧ τ_48.2.1 35 j ≤ 1499 := fun j => hT.2 35 j
      have A36 : ∀ j, 0 ≤ τ_48.2.1 36 j ∧ τ_48.2.1 36 j ≤ 20000 := fun j => hT.2 36 j
      have A37 : ∀ j, 0 ≤ τ_48.2.1 37 j ∧ τ_48.2.1 37 j ≤ 19999 := fun j => hT.2 37 j
      have A55 : ∀ j, 0 ≤ τ_48.2.1 55 j ∧ τ_48.2.1 55 j ≤ 19999 := fun j => hT.2 55 j
      have A62 : ∀ j, (-20000) ≤ τ_48.2.1 62 j ∧ τ_48.2.1 62 j ≤ 19999 := fun j => hT.2 62 j
      have v6 : 0 ≤ τ_48.1 6 ∧ τ_48.1 6 ≤ 30000 := hT.1 6
      have v7 : 0 ≤ τ_48.1 7 ∧ τ_48.1 7 ≤ 1500 := hT.1 7
      have v13 : 0 ≤ τ_48.1 13 ∧ τ_48.1 13 ≤ 90000 := hT.1 13
      have v14 : 0 ≤ τ_48.1 14 ∧ τ_48.1 14 ≤ 20000 := hT.1 14
      have v15 : 0 ≤ τ_48.1 15 ∧ τ_48.1 15 ≤ 20000 := hT.1 15
      have v41 : 0 ≤ τ_48.1 41 ∧ τ_48.1 41 ≤ 20001 := hT.1 41
      have v44 : 0 ≤ τ_48.1 44 ∧ τ_48.1 44 ≤ 20000 := hT.1 44
      have CJ : J_all (τ_48.1 7) (τ_48.1 6) (τ_48.1 13) (τ_48.1 14) (τ_48.1 15) (τ_48.2.1 13) (τ_48.2.1 14) (τ_48.2.1 15) (τ_48.2.1 16) (τ_48.2.1 10) (τ_48.2.1 27) (τ_48.2.1 28) (τ_48.2.1 29) (τ_48.2.1 30) (τ_48.2.1 31) (τ_48.2.1 32) (τ_48.2.1 33) (τ_48.2.1 34) (τ_48.2.1 35) (τ_48.2.1 36) (τ_48.2.1 37) := by rw [show (J_all (τ_48.1 7) (τ_48.1 6) (τ_48.1 13) (τ_48.1 14) (τ_48.1 15) (τ_48.2.1 13) (τ_48.2.1 14) (τ_48.2.1 15) (τ_48.2.1 16) (τ_48.2.1 10) (τ_48.2.1 27) (τ_48.2.1 28) (τ_48.2.1 29) (τ_48.2.1 30) (τ_48.2.1 31) (τ_48.2.1 32) (τ_48.2.1 33) (τ_48.2.1 34) (τ_48.2.1 35) (τ_48.2.1 36) (τ_48.2.1 37)) = (J_all (σ.1 7) (σ.1 6) (σ.1 13) (σ.1 14) (σ.1 15) (σ.2.1 13) (σ.2.1 14) (σ.2.1 15) (σ.2.1 16) (σ.2.1 10) (σ.2.1 27) (σ.2.1 28) (σ.2.1 29) (σ.2.1 30) (σ.2.1 31) (σ.2.1 32) (σ.2.1 33) (σ.2.1 34) (σ.2.1 35) (σ.2.1 36) (σ.2.1 37)) from by rw [W6, W7, W13, W14, W15, G10, G13, G14, G15, G16, G27, G28, G29, G30, G31, G32, G33, G34, G35, G36, G37]]; exact CJ_0
      have TR : J_tr (τ_48.1 41) ((τ_48.1 15) - 1 - (τ_48.1 44)) (τ_48.1 44) (τ_48.2.1 62) (τ_48.2.1 55) (τ_48.2.1 36) := i48_2
      refine h48 u2_48 τ_48 ?_
      refine ⟨fun c15 => ?_, fun c15 => ?_⟩
      ·
        refine ⟨_, K_X5_finish hT, ?_⟩
        intro x17 τ18 r_x17 hn_τ18 hf_τ18 hq
        replace hT := hq
        have w6_τ18 : τ18.1 6 = τ_48.1 6 := hf_τ18.1 6 (by decide)
        have w7_τ18 : τ18.1 7 = τ_48.1 7 := hf_τ18.1 7 (by decide)
        have w13_τ18 : τ18.1 13 = τ_48.1 13 := hf_τ18.1 13 (by decide)
        have w14_τ18 : τ18.1 14 = τ_48.1 14 := hf_τ18.1 14 (by decide)
        have w15_τ18 : τ18.1 15 = τ_48.1 15 := hf_τ18.1 15 (by decide)
        have w41_τ18 : τ18.1 41 = τ_48.1 41 := hf_τ18.1 41 (by decide)
        have w44_τ18 : τ18.1 44 = τ_48.1 44 := hf_τ18.1 44 (by decide)
        have g10_τ18 : τ18.2.1 10 = τ_48.2.1 10 := hf_τ18.2.1 10 (by decide)
        have g13_τ18 : τ18.2.1 13 = τ_48.2.1 13 := hf_τ18.2.1 13 (by decide)
        have g14_τ18 : τ18.2.1 14 = τ_48.2.1 14 := hf_τ18.2.1 14 (by decide)
        have g15_τ18 : τ18.2.1 15 = τ_48.2.1 15 := hf_τ18.2.1 15 (by decide)
        have g16_τ18 : τ18.2.1 16 = τ_48.2.1 16 := hf_τ18.2.1 16 (by decide)
        have g27_τ18 : τ18.2.1 27 = τ_48.2.1 27 := hf_τ18.2.1 27 (by decide)
        have g28_τ18 : τ18.2.1 28 = τ_48.2.1 28 := hf_τ18.2.1 28 (by decide)
        have g29_τ18 : τ18.2.1 29 = τ_48.2.1 29 := hf_τ18.2.1 29 (by decide)
        have g30_τ18 : τ18.2.1 30 = τ_48.2.1 30 := hf_τ18.2.1 30 (by decide)
        have g31_τ18 : τ18.2.1 31 = τ_48.2.1 31 := hf_τ18.2.1 31 (by decide)
        have g32_τ18 : τ18.2.1 32 = τ_48.2.1 32 := hf_τ18.2.1 32 (by decide)
        have g33_τ18 : τ18.2.1 33 = τ_48.2.1 33 := hf_τ18.2.1 33 (by decide)
        have g34_τ18 : τ18.2.1 34 = τ_48.2.1 34 := hf_τ18.2.1 34 (by decide)
        have g35_τ18 : τ18.2.1 35 = τ_48.2.1 35 := hf_τ18.2.1 35 (by decide)
        have g36_τ18 : τ18.2.1 36 = τ_48.2.1 36 := hf_τ18.2.1 36 (by decide)
        have g37_τ18 : τ18.2.1 37 = τ_48.2.1 37 := hf_τ18.2.1 37 (by decide)
        have g55_τ18 : τ18.2.1 55 = τ_48.2.1 55 := hf_τ18.2.1 55 (by decide)
        have g62_τ18 : τ18.2.1 62 = τ_48.2.1 62 := hf_τ18.2.1 62 (by decide)
        have W6 : τ18.1 6 = σ.1 6 := by first | exact w6_τ18.trans W6 | omega
        have W7 : τ18.1 7 = σ.1 7 := by first | exact w7_τ18.trans W7 | omega
        have W13 : τ18.1 13 = σ.1 13 := by first | exact w13_τ18.trans W13 | omega
        have W14 : τ18.1 14 = σ.1 14 := by first | exact w14_τ18.trans W14 | omega
        have W15 : τ18.1 15 = σ.1 15 := by first | exact w15_τ18.trans W15 | omega
        have G10 : τ18.2.1 10 = σ.2.1 10 := (g10_τ18).trans G10
        have G13 : τ18.2.1 13 = σ.2.1 13 := (g13_τ18).trans G13
        have G14 : τ18.2.1 14 = σ.2.1 14 := (g14_τ18).trans G14
        have G15 : τ18.2.1 15 = σ.2.1 15 := (g15_τ18).trans G15
        have G16 : τ18.2.1 16 = σ.2.1 16 := (g16_τ18).trans G16
        have G27 : τ18.2.1 27 = σ.2.1 27 := (g27_τ18).trans G27
        have G28 : τ18.2.1 28 = σ.2.1 28 := (g28_τ18).trans G28
        have G29 : τ18.2.1 29 = σ.2.1 29 := (g29_τ18).trans G29
        have G30 : τ18.2.1 30 = σ.2.1 30 := (g30_τ18).trans G30
        have G31 : τ18.2.1 31 = σ.2.1 31 := (g31_τ18).trans G31
        have G32 : τ18.2.1 32 = σ.2.1 32 := (g32_τ18).trans G32
        have G33 : τ18.2.1 33 = σ.2.1 33 := (g33_τ18).trans G33
        have G34 : τ18.2.1 34 = σ.2.1 34 := (g34_τ18).trans G34
        have G35 : τ18.2.1 35 = σ.2.1 35 := (g35_τ18).trans G35
        have G36 : τ18.2.1 36 = σ.2.1 36 := (g36_τ18).trans G36
        have G37 : τ18.2.1 37 = σ.2.1 37 := (g37_τ18).trans G37
        have G55 : τ18.2.1 55 = σ.2.1 55 := (g55_τ18).trans G55
        have CJ : J_all (τ18.1 7) (τ18.1 6) (τ18.1 13) (τ18.1 14) (τ18.1 15) (τ18.2.1 13) (τ18.2.1 14) (τ18.2.1 15) (τ18.2.1 16) (τ18.2.1 10) (τ18.2.1 27) (τ18.2.1 28) (τ18.2.1 29) (τ18.2.1 30) (τ18.2.1 31) (τ18.2.1 32) (τ18.2.1 33) (τ18.2.1 34) (τ18.2.1 35) (τ18.2.1 36) (τ18.2.1 37) := by rw [show (J_all (τ18.1 7) (τ18.1 6) (τ18.1 13) (τ18.1 14) (τ18.1 15) (τ18.2.1 13) (τ18.2.1 14) (τ18.2.1 15) (τ18.2.1 16) (τ18.2.1 10) (τ18.2.1 27) (τ18.2.1 28) (τ18.2.1 29) (τ18.2.1 30) (τ18.2.1 31) (τ18.2.1 32) (τ18.2.1 33) (τ18.2.1 34) (τ18.2.1 35) (τ18.2.1 36) (τ18.2.1 37)) = (J_all (τ_48.1 7) (τ_48.1 6) (τ_48.1 13) (τ_48.1 14) (τ_48.1 15) (τ_48.2.1 13) (τ_48.2.1 14) (τ_48.2.1 15) (τ_48.2.1 16) (τ_48.2.1 10) (τ_48.2.1 27) (τ_48.2.1 28) (τ_48.2.1 29) (τ_48.2.1 30) (τ_48.2.1 31) (τ_48.2.1 32) (τ_48.2.1 33) (τ_48.2.1 34) (τ_48.2.1 35) (τ_48.2.1 36) (τ_48.2.1 37)) from by rw [w6_τ18, w7_τ18, w13_τ18, w14_τ18, w15_τ18, g10_τ18, g13_τ18, g14_τ18, g15_τ18, g16_τ18, g27_τ18, g28_τ18, g29_τ18, g30_τ18, g31_τ18, g32_τ18, g33_τ18, g34_τ18, g35_τ18, g36_τ18, g37_τ18]]; exact CJ
        have TR : J_tr (τ18.1 41) ((τ18.1 15) - 1 - (τ18.1 44)) (τ18.1 44) (τ18.2.1 62) (τ18.2.1 55) (τ18.2.1 36) := by rw [show (J_tr (τ18.1 41) ((τ18.1 15) - 1 - (τ18.1 44)) (τ18.1 44) (τ18.2.1 62) (τ18.2.1 55) (τ18.2.1 36)) = (J_tr (τ_48.1 41) ((τ_48.1 15) - 1 - (τ_48.1 44)) (τ_48.1 44) (τ_48.2.1 62) (τ_48.2.1 55) (τ_48.2.1 36)) from by rw [w15_τ18, w41_τ18, w44_τ18, g36_τ18, g55_τ18, g62_τ18]]; exact TR
        have A10 : ∀ j, (-1) ≤ τ18.2.1 10 j ∧ τ18.2.1 10 j ≤ 99 := fun j => hT.2 10 j
        have A13 : ∀ j, 0 ≤ τ18.2.1 13 j ∧ τ18.2.1 13 j ≤ 4 := fun j => hT.2 13 j
        have A14 : ∀ j, 0 ≤ τ18.2.1 14 j ∧ τ18.2.1 14 j ≤ 30000 := fun j => hT.2 14 j
        have A15 : ∀ j, 0 ≤ τ18.2.1 15 j ∧ τ18.2.1 15 j ≤ 999 := fun j => hT.2 15 j
        have A16 : ∀ j, (-1) ≤ τ18.2.1 16 j ∧ τ18.2.1 16 j ≤ 1499 := fun j => hT.2 16 j
        have A27 : ∀ j, 0 ≤ τ18.2.1 27 j ∧ τ18.2.1 27 j ≤ 90000 := fun j => hT.2 27 j
        have A28 : ∀ j, 0 ≤ τ18.2.1 28 j ∧ τ18.2.1 28 j ≤ 60 := fun j => hT.2 28 j
        have A29 : ∀ j, 0 ≤ τ18.2.1 29 j ∧ τ18.2.1 29 j ≤ 1499 := fun j => hT.2 29 j
        have A30 : ∀ j, 0 ≤ τ18.2.1 30 j ∧ τ18.2.1 30 j ≤ 20000 := fun j => hT.2 30 j
        have A31 : ∀ j, 0 ≤ τ18.2.1 31 j ∧ τ18.2.1 31 j ≤ 20000 := fun j => hT.2 31 j
        have A32 : ∀ j, 0 ≤ τ18.2.1 32 j ∧ τ18.2.1 32 j ≤ 999999 := fun j => hT.2 32 j
        have A33 : ∀ j, 0 ≤ τ18.2.1 33 j ∧ τ18.2.1 33 j ≤ 20000 := fun j => hT.2 33 j
        have A34 : ∀ j, 0 ≤ τ18.2.1 34 j ∧ τ18.2.1 34 j ≤ 20000 := fun j => hT.2 34 j
        have A35 : ∀ j, 0 ≤ τ18.2.1 35 j ∧ τ18.2.1 35 j ≤ 1499 := fun j => hT.2 35 j
        have A36 : ∀ j, 0 ≤ τ18.2.1 36 j ∧ τ18.2.1 36 j ≤ 20000 := fun j => hT.2 36 j
        have A37 : ∀ j, 0 ≤ τ18.2.1 37 j ∧ τ18.2.1 37 j ≤ 19999 := fun j => hT.2 37 j
        have A55 : ∀ j, 0 ≤ τ18.2.1 55 j ∧ τ18.2.1 55 j ≤ 19999 := fun j => hT.2 55 j
        have A62 : ∀ j, (-20000) ≤ τ18.2.1 62 j ∧ τ18.2.1 62 j ≤ 19999 := fun j => hT.2 62 j
        have v6 : 0 ≤ τ18.1 6 ∧ τ18.1 6 ≤ 30000 := hT.1 6
        have v7 : 0 ≤ τ18.1 7 ∧ τ18.1 7 ≤ 1500 := hT.1 7
        have v13 : 0 ≤ τ18.1 13 ∧ τ18.1 13 ≤ 90000 := hT.1 13
        have v14 : 0 ≤ τ18.1 14 ∧ τ18.1 14 ≤ 20000 := hT.1 14
        have v15 : 0 ≤ τ18.1 15 ∧ τ18.1 15 ≤ 20000 := hT.1 15
        have v41 : 0 ≤ τ18.1 41 ∧ τ18.1 41 ≤ 20001 := hT.1 41
        have v44 : 0 ≤ τ18.1 44 ∧ τ18.1 44 ≤ 20000 := hT.1 44
        exact hT
      ·
        have tr := J_tr_le TR (n := u2_48) (by omega) (by omega) (by omega)
        have tp := i48_3 u2_48 (by omega) (by omega)
        refine ⟨_, K2_X4_statementOf hT (show 0 ≤ u2_48 from by (first | omega | (simp only [st_s] <;> omega) | assumption | omega | fail)) (show u2_48 < 20001 from by (first | omega | (simp only [st_s] <;> omega) | assumption | omega | fail)) (show τ_48.2.1 62 u2_48 ≤ (τ_48.1 15) - 1 - (τ_48.1 44) from by (first | omega | (simp only [st_s] <;> omega) | assumption | omega | fail)), ?_⟩
        intro x20 r_x20 hq
        obtain ⟨q19_1, q19_2⟩ := hq
        replace q19_1 : -1 ≤ x20 ∧ x20 ≤ 1499 := q19_1
        replace q19_2 : 0 ≤ τ_48.2.1 62 u2_48 → 0 ≤ x20 := q19_2
        refine ⟨(show 0 ≤ x20 ∧ x20 < 1500 from by (first | omega | (simp only [st_s] <;> omega) | assumption | omega | fail)), ?_⟩
        intro x23 r_x23 e_x23
        have b_x23 : 0 ≤ x23 ∧ x23 ≤ 2499 := by rw [e_x23]; exact hT.2 12 _
        refine ⟨_, K_X5_putName hT (show 0 ≤ x23 from by (first | omega | (simp only [st_s] <;> omega) | assumption | omega | fail)) (show x23 < 2500 from by (first | omega | (simp only [st_s] <;> omega) | assumption | omega | fail)), ?_⟩
        intro τ26 hn_τ26 hf_τ26 hq
        replace hT := hq
        have w6_τ26 : τ26.1 6 = τ_48.1 6 := hf_τ26.1 6 (by decide)
        have w7_τ26 : τ26.1 7 = τ_48.1 7 := hf_τ26.1 7 (by decide)
        have w13_τ26 : τ26.1 13 = τ_48.1 13 := hf_τ26.1 13 (by decide)
        have w14_τ26 : τ26.1 14 = τ_48.1 14 := hf_τ26.1 14 (by decide)
        have w15_τ26 : τ26.1 15 = τ_48.1 15 := hf_τ26.1 15 (by decide)
        have w41_τ26 : τ26.1 41 = τ_48.1 41 := hf_τ26.1 41 (by decide)
        have w44_τ26 : τ26.1 44 = τ_48.1 44 := hf_τ26.1 44 (by decide)
        have g10_τ26 : τ26.2.1 10 = τ_48.2.1 10 := hf_τ26.2.1 10 (by decide)
        have g13_τ26 : τ26.2.1 13 = τ_48.2.1 13 := hf_τ26.2.1 13 (by decide)
        have g14_τ26 : τ26.2.1 14 = τ_48.2.1 14 := hf_τ26.2.1 14 (by decide)
        have g15_τ26 : τ26.2.1 15 = τ_48.2.1 15 := hf_τ26.2.1 15 (by decide)
        have g16_τ26 : τ26.2.1 16 = τ_48.2.1 16 := hf_τ26.2.1 16 (by decide)
        have g27_τ26 : τ26.2.1 27 = τ_48.2.1 27 := hf_τ26.2.1 27 (by decide)
        have g28_τ26 : τ26.2.1 28 = τ_48.2.1 28 := hf_τ26.2.1 28 (by decide)
        have g29_τ26 : τ26.2.1 29 = τ_48.2.1 29 := hf_τ26.2.1 29 (by decide)
        have g30_τ26 : τ26.2.1 30 = τ_48.2.1 30 := hf_τ26.2.1 30 (by decide)
        have g31_τ26 : τ26.2.1 31 = τ_48.2.1 31 := hf_τ26.2.1 31 (by decide)
        have g32_τ26 : τ26.2.1 32 = τ_48.2.1 32 := hf_τ26.2.1 32 (by decide)
        have g33_τ26 : τ26.2.1 33 = τ_48.2.1 33 := hf_τ26.2.1 33 (by decide)
        have g34_τ26 : τ26.2.1 34 = τ_48.2.1 34 := hf_τ26.2.1 34 (by decide)
        have g35_τ26 : τ26.2.1 35 = τ_48.2.1 35 := hf_τ26.2.1 35 (by decide)
        have g36_τ26 : τ26.2.1 36 = τ_48.2.1 36 := hf_τ26.2.1 36 (by decide)
        have g37_τ26 : τ26.2.1 37 = τ_48.2.1 37 := hf_τ26.2.1 37 (by decide)
        have g55_τ26 : τ26.2.1 55 = τ_48.2.1 55 := hf_τ26.2.1 55 (by decide)
        have g62_τ26 : τ26.2.1 62 = τ_48.2.1 62 := hf_τ26.2.1 62 (by decide)
        have W6 : τ26.1 6 = σ.1 6 := by first | exact w6_τ26.trans W6 | omega
        have W7 : τ26.1 7 = σ.1 7 := by first | exact w7_τ26.trans W7 | omega
        have W13 : τ26.1 13 = σ.1 13 := by first | exact w13_τ26.trans W13 | omega
        have W14 : τ26.1 14 = σ.1 14 := by first | exact w14_τ26.trans W14 | omega
        have W15 : τ26.1 15 = σ.1 15 := by first | exact w15_τ26.trans W15 | omega
        have G10 : τ26.2.1 10 = σ.2.1 10 := (g10_τ26).trans G10
        have G13 : τ26.2.1 13 = σ.2.1 13 := (g13_τ26).trans G13
        have G14 : τ26.2.1 14 = σ.2.1 14 := (g14_τ26).trans G14
        have G15 : τ26.2.1 15 = σ.2.1 15 := (g15_τ26).trans G15
        have G16 : τ26.2.1 16 = σ.2.1 16 := (g16_τ26).trans G16
        have G27 : τ26.2.1 27 = σ.2.1 27 := (g27_τ26).trans G27
        have G28 : τ26.2.1 28 = σ.2.1 28 := (g28_τ26).trans G28
        have G29 : τ26.2.1 29 = σ.2.1 29 := (g29_τ26).trans G29
        have G30 : τ26.2.1 30 = σ.2.1 30 := (g30_τ26).trans G30
        have G31 : τ26.2.1 31 = σ.2.1 31 := (g31_τ26).trans G31
        have G32 : τ26.2.1 32 = σ.2.1 32 := (g32_τ26).trans G32
        have G33 : τ26.2.1 33 = σ.2.1 33 := (g33_τ26).trans G33
        have G34 : τ26.2.1 34 = σ.2.1 34 := (g34_τ26).trans G34
        have G35 : τ26.2.1 35 = σ.2.1 35 := (g35_τ26).trans G35
        have G36 : τ26.2.1 36 = σ.2.1 36 := (g36_τ26).trans G36
        have G37 : τ26.2.1 37 = σ.2.1 37 := (g37_τ26).trans G37
        have G55 : τ26.2.1 55 = σ.2.1 55 := (g55_τ26).trans G55
        have CJ : J_all (τ26.1 7) (τ26.1 6) (τ26.1 13) (τ26.1 14) (τ26.1 15) (τ26.2.1 13) (τ26.2.1 14) (τ26.2.1 15) (τ26.2.1 16) (τ26.2.1 10) (τ26.2.1 27) (τ26.2.1 28) (τ26.2.1 29) (τ26.2.1 30) (τ26.2.1 31) (τ26.2.1 32) (τ26.2.1 33) (τ26.2.1 34) (τ26.2.1 35) (τ26.2.1 36) (τ26.2.1 37) := by rw [show (J_all (τ26.1 7) (τ26.1 6) (τ26.1 13) (τ26.1 14) (τ26.1 15) (τ26.2.1 13) (τ26.2.1 14) (τ26.2.1 15) (τ26.2.1 16) (τ26.2.1 10) (τ26.2.1 27) (τ26.2.1 28) (τ26.2.1 29) (τ26.2.1 30) (τ26.2.1 31) (τ26.2.1 32) (τ26.2.1 33) (τ26.2.1 34) (τ26.2.1 35) (τ26.2.1 36) (τ26.2.1 37)) = (J_all (τ_48.1 7) (τ_48.1 6) (τ_48.1 13) (τ_48.1 14) (τ_48.1 15) (τ_48.2.1 13) (τ_48.2.1 14) (τ_48.2.1 15) (τ_48.2.1 16) (τ_48.2.1 10) (τ_48.2.1 27) (τ_48.2.1 28) (τ_48.2.1 29) (τ_48.2.1 30) (τ_48.2.1 31) (τ_48.2.1 32) (τ_48.2.1 33) (τ_48.2.1 34) (τ_48.2.1 35) (τ_48.2.1 36) (τ_48.2.1 37)) from by rw [w6_τ26, w7_τ26, w13_τ26, w14_τ26, w15_τ26, g10_τ26, g13_τ26, g14_τ26, g15_τ26, g16_τ26, g27_τ26, g28_τ26, g29_τ26, g30_τ26, g31_τ26, g32_τ26, g33_τ26, g34_τ26, g35_τ26, g36_τ26, g37_τ26]]; exact CJ
        have TR : J_tr (τ26.1 41) ((τ26.1 15) - 1 - (τ26.1 44)) (τ26.1 44) (τ26.2.1 62) (τ26.2.1 55) (τ26.2.1 36) := by rw [show (J_tr (τ26.1 41) ((τ26.1 15) - 1 - (τ26.1 44)) (τ26.1 44) (τ26.2.1 62) (τ26.2.1 55) (τ26.2.1 36)) = (J_tr (τ_48.1 41) ((τ_48.1 15) - 1 - (τ_48.1 44)) (τ_48.1 44) (τ_48.2.1 62) (τ_48.2.1 55) (τ_48.2.1 36)) from by rw [w15_τ26, w41_τ26, w44_τ26, g36_τ26, g55_τ26, g62_τ26]]; exact TR
        have A10 : ∀ j, (-1) ≤ τ26.2.1 10 j ∧ τ26.2.1 10 j ≤ 99 := fun j => hT.2 10 j
        have A13 : ∀ j, 0 ≤ τ26.2.1 13 j ∧ τ26.2.1 13 j ≤ 4 := fun j => hT.2 13 j
        have A14 : ∀ j, 0 ≤ τ26.2.1 14 j ∧ τ26.2.1 14 j ≤ 30000 := fun j => hT.2 14 j
        have A15 : ∀ j, 0 ≤ τ26.2.1 15 j ∧ τ26.2.1 15 j ≤ 999 := fun j => hT.2 15 j
        have A16 : ∀ j, (-1) ≤ τ26.2.1 16 j ∧ τ26.2.1 16 j ≤ 1499 := fun j => hT.2 16 j
        have A27 : ∀ j, 0 ≤ τ26.2.1 27 j ∧ τ26.2.1 27 j ≤ 90000 := fun j => hT.2 27 j
        have A28 : ∀ j, 0 ≤ τ26.2.1 28 j ∧ τ26.2.1 28 j ≤ 60 := fun j => hT.2 28 j
        have A29 : ∀ j, 0 ≤ τ26.2.1 29 j ∧ τ26.2.1 29 j ≤ 1499 := fun j => hT.2 29 j
        have A30 : ∀ j, 0 ≤ τ26.2.1 30 j ∧ τ26.2.1 30 j ≤ 20000 := fun j => hT.2 30 j
        have A31 : ∀ j, 0 ≤ τ26.2.1 31 j ∧ τ26.2.1 31 j ≤ 20000 := fun j => hT.2 31 j
        have A32 : ∀ j, 0 ≤ τ26.2.1 32 j ∧ τ26.2.1 32 j ≤ 999999 := fun j => hT.2 32 j
        have A33 : ∀ j, 0 ≤ τ26.2.1 33 j ∧ τ26.2.1 33 j ≤ 20000 := fun j => hT.2 33 j
        have A34 : ∀ j, 0 ≤ τ26.2.1 34 j ∧ τ26.2.1 34 j ≤ 20000 := fun j => hT.2 34 j
        have A35 : ∀ j, 0 ≤ τ26.2.1 35 j ∧ τ26.2.1 35 j ≤ 1499 := fun j => hT.2 35 j
        have A36 : ∀ j, 0 ≤ τ26.2.1 36 j ∧ τ26.2.1 36 j ≤ 20000 := fun j => hT.2 36 j
        have A37 : ∀ j, 0 ≤ τ26.2.1 37 j ∧ τ26.2.1 37 j ≤ 19999 := fun j => hT.2 37 j
        have A55 : ∀ j, 0 ≤ τ26.2.1 55 j ∧ τ26.2.1 55 j ≤ 19999 := fun j => hT.2 55 j
        have A62 : ∀ j, (-20000) ≤ τ26.2.1 62 j ∧ τ26.2.1 62 j ≤ 19999 := fun j => hT.2 62 j
        have v6 : 0 ≤ τ26.1 6 ∧ τ26.1 6 ≤ 30000 := hT.1 6
        have v7 : 0 ≤ τ26.1 7 ∧ τ26.1 7 ≤ 1500 := hT.1 7
        have v13 : 0 ≤ τ26.1 13 ∧ τ26.1 13 ≤ 90000 := hT.1 13
        have v14 : 0 ≤ τ26.1 14 ∧ τ26.1 14 ≤ 20000 := hT.1 14
        have v15 : 0 ≤ τ26.1 15 ∧ τ26.1 15 ≤ 20000 := hT.1 15
        have v41 : 0 ≤ τ26.1 41 ∧ τ26.1 41 ≤ 20001 := hT.1 41
        have v44 : 0 ≤ τ26.1 44 ∧ τ26.1 44 ≤ 20000 := hT.1 44
        refine ⟨(⟨by (first | omega | (simp only [st_s] <;> omega) | assumption | omega | fail), by (first | omega | (simp only [st_s] <;> omega) | assumption | omega | fail)⟩ : rg (u2_48 + 1)), ?_⟩
        exact ih_48 _ _ (show (20002 - (u2_48 + 1) : Int) < ((m_48 : Nat) : Int) from by ((first | omega | (simp only [st_s] <;> omega) | assumption | omega | fail))) hT (show τ26.1 6 = σ.1 6 from by first | exact W6 | omega) (show τ26.1 7 = σ.1 7 from by first | exact W7 | omega) (show τ26.1 13 = σ.1 13 from by first | exact W13 | omega) (show τ26.1 14 = σ.1 14 from by first | exact W14 | omega) (show τ26.1 15 = σ.1 15 from by first | exact W15 | omega) G10 G13 G14 G15 G16 G27 G28 G29 G30 G31 G32 G33 G34 G35 G36 G37 G55 (show 0 ≤ (u2_48 + 1) ∧ (u2_48 + 1) ≤ 20001 from by (first | omega | (simp only [st_s] <;> omega) | assumption | omega | fail)) (show J_tr (τ26.1 41) ((τ26.1 15) - 1 - (τ26.1 44)) (τ26.1 44) (τ26.2.1 62) (τ26.2.1 55) (τ26.2.1 36) from TR) (show ∀ n : Int, 0 ≤ n → n < (τ26.1 41) → 0 ≤ τ26.2.1 62 n from by (first | exact i48_3 | (rw [w41_τ14, g62_τ14]; exact q9_3) | (rw [w41_τ26, g62_τ26]; exact i48_3) | fail)) (show (τ26.1 44) ≤ (σ.1 15) - 1 from by (first | omega | (simp only [st_s] <;> omega) | assumption | omega | fail))
  refine ⟨_, K_X3_isProved hT, ?_⟩
  intro x2 r_x2 hq
  obtain ⟨q1_1, q1_2⟩ := hq
  replace q1_1 : 0 ≤ x2 ∧ x2 ≤ 1 := q1_1
  replace q1_2 : ¬ x2 = 0 → 0 ≤ n1 ∧ n1 < (σ.1 7) ∧ σ.2.1 13 n1 = 3 := q1_2
  refine ⟨fun c4 => ?_, fun c4 => ?_⟩
  ·
    have jr := ((p1.1 n1 (by omega) (by omega)).2.2 (by omega)).1
    have a33 := A33 n1
    refine ⟨_, K_X0_labelsOf hT (show 0 ≤ n1 from by (first | omega | (simp only [st_s] <;> omega) | assumption | omega | fail)) (show n1 < 1500 from by (first | omega | (simp only [st_s] <;> omega) | assumption | omega | fail)) (show 1 ≤ σ.2.1 33 n1 + σ.2.1 34 n1 from by (first | omega | (simp only [st_s] <;> omega) | assumption | omega | fail)) (show σ.2.1 33 n1 + σ.2.1 34 n1 ≤ 20000 from by (first | omega | (simp only [st_s] <;> omega) | assumption | omega | fail)), ?_⟩
    intro x6 hq
    refine ⟨fun c8 => ?_, fun c8 => ?_⟩
    ·
      refine ⟨_, K_X4_unpack hT (show 0 ≤ n1 from by (first | omega | (simp only [st_s] <;> omega) | assumption | omega | fail)) (show n1 < (σ.1 7) from by (first | omega | (simp only [st_s] <;> omega) | assumption | omega | fail)) (show σ.2.1 13 n1 = 3 from by (first | omega | (simp only [st_s] <;> omega) | assumption | omega | fail)) (show J_all (σ.1 7) (σ.1 6) (σ.1 13) (σ.1 14) (σ.1 15) (σ.2.1 13) (σ.2.1 14) (σ.2.1 15) (σ.2.1 16) (σ.2.1 10) (σ.2.1 27) (σ.2.1 28) (σ.2.1 29) (σ.2.1 30) (σ.2.1 31) (σ.2.1 32) (σ.2.1 33) (σ.2.1 34) (σ.2.1 35) (σ.2.1 36) (σ.2.1 37) from CJ), ?_⟩
      intro τ11 hn_τ11 hf_τ11 hq
      obtain ⟨hT, q9_1, q9_2, q9_3⟩ := hq
      replace q9_1 : J_tr (τ11.1 41) ((τ11.1 15) - 1 - (τ11.1 44)) (τ11.1 44) (τ11.2.1 62) (τ11.2.1 55) (τ11.2.1 36) := q9_1
      replace q9_2 : (τ11.1 44) = σ.2.1 33 n1 := q9_2
      replace q9_3 : ∀ n : Int, 0 ≤ n → n < (τ11.1 41) → 0 ≤ τ11.2.1 62 n := q9_3
      have w6_τ11 : τ11.1 6 = σ.1 6 := hf_τ11.1 6 (by decide)
      have w7_τ11 : τ11.1 7 = σ.1 7 := hf_τ11.1 7 (by decide)
      have w13_τ11 : τ11.1 13 = σ.1 13 := hf_τ11.1 13 (by decide)
      have w14_τ11 : τ11.1 14 = σ.1 14 := hf_τ11.1 14 (by decide)
      have w15_τ11 : τ11.1 15 = σ.1 15 := hf_τ11.1 15 (by decide)
      have g10_τ11 : τ11.2.1 10 = σ.2.1 10 := hf_τ11.2.1 10 (by decide)
      have g13_τ11 : τ11.2.1 13 = σ.2.1 13 := hf_τ11.2.1 13 (by decide)
      have g14_τ11 : τ11.2.1 14 = σ.2.1 14 := hf_τ11.2.1 14 (by decide)
      have g15_τ11 : τ11.2.1 15 = σ.2.1 15 := hf_τ11.2.1 15 (by decide)
      have g16_τ11 : τ11.2.1 16 = σ.2.1 16 := hf_τ11.2.1 16 (by decide)
      have g27_τ11 : τ11.2.1 27 = σ.2.1 27 := hf_τ11.2.1 27 (by decide)
      have g28_τ11 : τ11.2.1 28 = σ.2.1 28 := hf_τ11.2.1 28 (by decide)
      have g29_τ11 : τ11.2.1 29 = σ.2.1 29 := hf_τ11.2.1 29 (by decide)
      have g30_τ11 : τ11.2.1 30 = σ.2.1 30 := hf_τ11.2.1 30 (by decide)
      have g31_τ11 : τ11.2.1 31 = σ.2.1 31 := hf_τ11.2.1 31 (by decide)
      have g32_τ11 : τ11.2.1 32 = σ.2.1 32 := hf_τ11.2.1 32 (by decide)
      have g33_τ11 : τ11.2.1 33 = σ.2.1 33 := hf_τ11.2.1 33 (by decide)
      have g34_τ11 : τ11.2.1 34 = σ.2.1 34 := hf_τ11.2.1 34 (by decide)
      have g35_τ11 : τ11.2.1 35 = σ.2.1 35 := hf_τ11.2.1 35 (by decide)
      have g36_τ11 : τ11.2.1 36 = σ.2.1 36 := hf_τ11.2.1 36 (by decide)
      have g37_τ11 : τ11.2.1 37 = σ.2.1 37 := hf_τ11.2.1 37 (by decide)
      have g55_τ11 : τ11.2.1 55 = σ.2.1 55 := hf_τ11.2.1 55 (by decide)
      have W6 : τ11.1 6 = σ.1 6 := by first | exact w6_τ11.trans W6 | omega
      have W7 : τ11.1 7 = σ.1 7 := by first | exact w7_τ11.trans W7 | omega
      have W13 : τ11.1 13 = σ.1 13 := by first | exact w13_τ11.trans W13 | omega
      have W14 : τ11.1 14 = σ.1 14 := by first | exact w14_τ11.trans W14 | omega
      have W15 : τ11.1 15 = σ.1 15 := by first | exact w15_τ11.trans W15 | omega
      have G10 : τ11.2.1 10 = σ.2.1 10 := (g10_τ11).trans G10
      have G13 : τ11.2.1 13 = σ.2.1 13 := (g13_τ11).trans G13
      have G14 : τ11.2.1 14 = σ.2.1 14 := (g14_τ11).trans G14
      have G15 : τ11.2.1 15 = σ.2.1 15 := (g15_τ11).trans G15
      have G16 : τ11.2.1 16 = σ.2.1 16 := (g16_τ11).trans G16
      have G27 : τ11.2.1 27 = σ.2.1 27 := (g27_τ11).trans G27
      have G28 : τ11.2.1 28 = σ.2.1 28 := (g28_τ11).trans G28
      have G29 : τ11.2.1 29 = σ.2.1 29 := (g29_τ11).trans G29
      have G30 : τ11.2.1 30 = σ.2.1 30 := (g30_τ11).trans G30
      have G31 : τ11.2.1 31 = σ.2.1 31 := (g31_τ11).trans G31
      have G32 : τ11.2.1 32 = σ.2.1 32 := (g32_τ11).trans G32
      have G33 : τ11.2.1 33 = σ.2.1 33 := (g33_τ11).trans G33
      have G34 : τ11.2.1 34 = σ.2.1 34 := (g34_τ11).trans G34
      have G35 : τ11.2.1 35 = σ.2.1 35 := (g35_τ11).trans G35
      have G36 : τ11.2.1 36 = σ.2.1 36 := (g36_τ11).trans G36
      have G37 : τ11.2.1 37 = σ.2.1 37 := (g37_τ11).trans G37
      have G55 : τ11.2.1 55 = σ.2.1 55 := (g55_τ11).trans G55
      have CJ : J_all (τ11.1 7) (τ11.1 6) (τ11.1 13) (τ11.1 14) (τ11.1 15) (τ11.2.1 13) (τ11.2.1 14) (τ11.2.1 15) (τ11.2.1 16) (τ11.2.1 10) (τ11.2.1 27) (τ11.2.1 28) (τ11.2.1 29) (τ11.2.1 30) (τ11.2.1 31) (τ11.2.1 32) (τ11.2.1 33) (τ11.2.1 34) (τ11.2.1 35) (τ11.2.1 36) (τ11.2.1 37) := by rw [show (J_all (τ11.1 7) (τ11.1 6) (τ11.1 13) (τ11.1 14) (τ11.1 15) (τ11.2.1 13) (τ11.2.1 14) (τ11.2.1 15) (τ11.2.1 16) (τ11.2.1 10) (τ11.2.1 27) (τ11.2.1 28) (τ11.2.1 29) (τ11.2.1 30) (τ11.2.1 31) (τ11.2.1 32) (τ11.2.1 33) (τ11.2.1 34) (τ11.2.1 35) (τ11.2.1 36) (τ11.2.1 37)) = (J_all (σ.1 7) (σ.1 6) (σ.1 13) (σ.1 14) (σ.1 15) (σ.2.1 13) (σ.2.1 14) (σ.2.1 15) (σ.2.1 16) (σ.2.1 10) (σ.2.1 27) (σ.2.1 28) (σ.2.1 29) (σ.2.1 30) (σ.2.1 31) (σ.2.1 32) (σ.2.1 33) (σ.2.1 34) (σ.2.1 35) (σ.2.1 36) (σ.2.1 37)) from by rw [w6_τ11, w7_τ11, w13_τ11, w14_τ11, w15_τ11, g10_τ11, g13_τ11, g14_τ11, g15_τ11, g16_τ11, g27_τ11, g28_τ11, g29_τ11, g30_τ11, g31_τ11, g32_τ11, g33_τ11, g34_τ11, g35_τ11, g36_τ11, g37_τ11]]; exact CJ
      have TR : J_tr (τ11.1 41) ((τ11.1 15) - 1 - (τ11.1 44)) (τ11.1 44) (τ11.2.1 62) (τ11.2.1 55) (τ11.2.1 36) := q9_1
      have A10 : ∀ j, (-1) ≤ τ11.2.1 10 j ∧ τ11.2.1 10 j ≤ 99 := fun j => hT.2 10 j
      have A13 : ∀ j, 0 ≤ τ11.2.1 13 j ∧ τ11.2.1 13 j ≤ 4 := fun j => hT.2 13 j
      have A14 : ∀ j, 0 ≤ τ11.2.1 14 j ∧ τ11.2.1 14 j ≤ 30000 := fun j => hT.2 14 j
      have A15 : ∀ j, 0 ≤ τ11.2.1 15 j ∧ τ11.2.1 15 j ≤ 999 := fun j => hT.2 15 j
      have A16 : ∀ j, (-1) ≤ τ11.2.1 16 j ∧ τ11.2.1 16 j ≤ 1499 := fun j => hT.2 16 j
      have A27 : ∀ j, 0 ≤ τ11.2.1 27 j ∧ τ11.2.1 27 j ≤ 90000 := fun j => hT.2 27 j
      have A28 : ∀ j, 0 ≤ τ11.2.1 28 j ∧ τ11.2.1 28 j ≤ 60 := fun j => hT.2 28 j
      have A29 : ∀ j, 0 ≤ τ11.2.1 29 j ∧ τ11.2.1 29 j ≤ 1499 := fun j => hT.2 29 j
      have A30 : ∀ j, 0 ≤ τ11.2.1 30 j ∧ τ11.2.1 30 j ≤ 20000 := fun j => hT.2 30 j
      have A31 : ∀ j, 0 ≤ τ11.2.1 31 j ∧ τ11.2.1 31 j ≤ 20000 := fun j => hT.2 31 j
      have A32 : ∀ j, 0 ≤ τ11.2.1 32 j ∧ τ11.2.1 32 j ≤ 999999 := fun j => hT.2 32 j
      have A33 : ∀ j, 0 ≤ τ11.2.1 33 j ∧ τ11.2.1 33 j ≤ 20000 := fun j => hT.2 33 j
      have A34 : ∀ j, 0 ≤ τ11.2.1 34 j ∧ τ11.2.1 34 j ≤ 20000 := fun j => hT.2 34 j
      have A35 : ∀ j, 0 ≤ τ11.2.1 35 j ∧ τ11.2.1 35 j ≤ 1499 := fun j => hT.2 35 j
      have A36 : ∀ j, 0 ≤ τ11.2.1 36 j ∧ τ11.2.1 36 j ≤ 20000 := fun j => hT.2 36 j
      have A37 : ∀ j, 0 ≤ τ11.2.1 37 j ∧ τ11.2.1 37 j ≤ 19999 := fun j => hT.2 37 j
      have A55 : ∀ j, 0 ≤ τ11.2.1 55 j ∧ τ11.2.1 55 j ≤ 19999 := fun j => hT.2 55 j
      have A62 : ∀ j, (-20000) ≤ τ11.2.1 62 j ∧ τ11.2.1 62 j ≤ 19999 := fun j => hT.2 62 j
      have v6 : 0 ≤ τ11.1 6 ∧ τ11.1 6 ≤ 30000 := hT.1 6
      have v7 : 0 ≤ τ11.1 7 ∧ τ11.1 7 ≤ 1500 := hT.1 7
      have v13 : 0 ≤ τ11.1 13 ∧ τ11.1 13 ≤ 90000 := hT.1 13
      have v14 : 0 ≤ τ11.1 14 ∧ τ11.1 14 ≤ 20000 := hT.1 14
      have v15 : 0 ≤ τ11.1 15 ∧ τ11.1 15 ≤ 20000 := hT.1 15
      have v41 : 0 ≤ τ11.1 41 ∧ τ11.1 41 ≤ 20001 := hT.1 41
      have v44 : 0 ≤ τ11.1 44 ∧ τ11.1 44 ≤ 20000 := hT.1 44
      refine ⟨_, K_X5_begin hT, ?_⟩
      intro τ14 hn_τ14 hf_τ14 hq
      replace hT := hq
      have w6_τ14 : τ14.1 6 = τ11.1 6 := hf_τ14.1 6 (by decide)
      have w7_τ14 : τ14.1 7 = τ11.1 7 := hf_τ14.1 7 (by decide)
      have w13_τ14 : τ14.1 13 = τ11.1 13 := hf_τ14.1 13 (by decide)
      have w14_τ14 : τ14.1 14 = τ11.1 14 := hf_τ14.1 14 (by decide)
      have w15_τ14 : τ14.1 15 = τ11.1 15 := hf_τ14.1 15 (by decide)
      have w41_τ14 : τ14.1 41 = τ11.1 41 := hf_τ14.1 41 (by decide)
      have w44_τ14 : τ14.1 44 = τ11.1 44 := hf_τ14.1 44 (by decide)
      have g10_τ14 : τ14.2.1 10 = τ11.2.1 10 := hf_τ14.2.1 10 (by decide)
      have g13_τ14 : τ14.2.1 13 = τ11.2.1 13 := hf_τ14.2.1 13 (by decide)
      have g14_τ14 : τ14.2.1 14 = τ11.2.1 14 := hf_τ14.2.1 14 (by decide)
      have g15_τ14 : τ14.2.1 15 = τ11.2.1 15 := hf_τ14.2.1 15 (by decide)
      have g16_τ14 : τ14.2.1 16 = τ11.2.1 16 := hf_τ14.2.1 16 (by decide)
      have g27_τ14 : τ14.2.1 27 = τ11.2.1 27 := hf_τ14.2.1 27 (by decide)
      have g28_τ14 : τ14.2.1 28 = τ11.2.1 28 := hf_τ14.2.1 28 (by decide)
      have g29_τ14 : τ14.2.1 29 = τ11.2.1 29 := hf_τ14.2.1 29 (by decide)
      have g30_τ14 : τ14.2.1 30 = τ11.2.1 30 := hf_τ14.2.1 30 (by decide)
      have g31_τ14 : τ14.2.1 31 = τ11.2.1 31 := hf_τ14.2.1 31 (by decide)
      have g32_τ14 : τ14.2.1 32 = τ11.2.1 32 := hf_τ14.2.1 32 (by decide)
      have g33_τ14 : τ14.2.1 33 = τ11.2.1 33 := hf_τ14.2.1 33 (by decide)
      have g34_τ14 : τ14.2.1 34 = τ11.2.1 34 := hf_τ14.2.1 34 (by decide)
      have g35_τ14 : τ14.2.1 35 = τ11.2.1 35 := hf_τ14.2.1 35 (by decide)
      have g36_τ14 : τ14.2.1 36 = τ11.2.1 36 := hf_τ14.2.1 36 (by decide)
      have g37_τ14 : τ14.2.1 37 = τ11.2.1 37 := hf_τ14.2.1 37 (by decide)
      have g55_τ14 : τ14.2.1 55 = τ11.2.1 55 := hf_τ14.2.1 55 (by decide)
      have g62_τ14 : τ14.2.1 62 = τ11.2.1 62 := hf_τ14.2.1 62 (by decide)
      have W6 : τ14.1 6 = σ.1 6 := by first | exact w6_τ14.trans W6 | omega
      have W7 : τ14.1 7 = σ.1 7 := by first | exact w7_τ14.trans W7 | omega
      have W13 : τ14.1 13 = σ.1 13 := by first | exact w13_τ14.trans W13 | omega
      have W14 : τ14.1 14 = σ.1 14 := by first | exact w14_τ14.trans W14 | omega
      have W15 : τ14.1 15 = σ.1 15 := by first | exact w15_τ14.trans W15 | omega
      have G10 : τ14.2.1 10 = σ.2.1 10 := (g10_τ14).trans G10
      have G13 : τ14.2.1 13 = σ.2.1 13 := (g13_τ14).trans G13
      have G14 : τ14.2.1 14 = σ.2.1 14 := (g14_τ14).trans G14
      have G15 : τ14.2.1 15 = σ.2.1 15 := (g15_τ14).trans G15
      have G16 : τ14.2.1 16 = σ.2.1 16 := (g16_τ14).trans G16
      have G27 : τ14.2.1 27 = σ.2.1 27 := (g27_τ14).trans G27
      have G28 : τ14.2.1 28 = σ.2.1 28 := (g28_τ14).trans G28
      have G29 : τ14.2.1 29 = σ.2.1 29 := (g29_τ14).trans G29
      have G30 : τ14.2.1 30 = σ.2.1 30 := (g30_τ14).trans G30
      have G31 : τ14.2.1 31 = σ.2.1 31 := (g31_τ14).trans G31
      have G32 : τ14.2.1 32 = σ.2.1 32 := (g32_τ14).trans G32
      have G33 : τ14.2.1 33 = σ.2.1 33 := (g33_τ14).trans G33
      have G34 : τ14.2.1 34 = σ.2.1 34 := (g34_τ14).trans G34
      have G35 : τ14.2.1 35 = σ.2.1 35 := (g35_τ14).trans G35
      have G36 : τ14.2.1 36 = σ.2.1 36 := (g36_τ14).trans G36
      have G37 : τ14.2.1 37 = σ.2.1 37 := (g37_τ14).trans G37
      have G55 : τ14.2.1 55 = σ.2.1 55 := (g55_τ14).trans G55
      have CJ : J_all (τ14.1 7) (τ14.1 6) (τ14.1 13) (τ14.1 14) (τ14.1 15) (τ14.2.1 13) (τ14.2.1 14) (τ14.2.1 15) (τ14.2.1 16) (τ14.2.1 10) (τ14.2.1 27) (τ14.2.1 28) (τ14.2.1 29) (τ14.2.1 30) (τ14.2.1 31) (τ14.2.1 32) (τ14.2.1 33) (τ14.2.1 34) (τ14.2.1 35) (τ14.2.1 36) (τ14.2.1 37) := by rw [show (J_all (τ14.1 7) (τ14.1 6) (τ14.1 13) (τ14.1 14) (τ14.1 15) (τ14.2.1 13) (τ14.2.1 14) (τ14.2.1 15) (τ14.2.1 16) (τ14.2.1 10) (τ14.2.1 27) (τ14.2.1 28) (τ14.2.1 29) (τ14.2.1 30) (τ14.2.1 31) (τ14.2.1 32) (τ14.2.1 33) (τ14.2.1 34) (τ14.2.1 35) (τ14.2.1 36) (τ14.2.1 37)) = (J_all (τ11.1 7) (τ11.1 6) (τ11.1 13) (τ11.1 14) (τ11.1 15) (τ11.2.1 13) (τ11.2.1 14) (τ11.2.1 15) (τ11.2.1 16) (τ11.2.1 10) (τ11.2.1 27) (τ11.2.1 28) (τ11.2.1 29) (τ11.2.1 30) (τ11.2.1 31) (τ11.2.1 32) (τ11.2.1 33) (τ11.2.1 34) (τ11.2.1 35) (τ11.2.1 36) (τ11.2.1 37)) from by rw [w6_τ14, w7_τ14, w13_τ14, w14_τ14, w15_τ14, g10_τ14, g13_τ14, g14_τ14, g15_τ14, g16_τ14, g27_τ14, g28_τ14, g29_τ14, g30_τ14, g31_τ14, g32_τ14, g33_τ14, g34_τ14, g35_τ14, g36_τ14, g37_τ14]]; exact CJ
      have TR : J_tr (τ14.1 41) ((τ14.1 15) - 1 - (τ14.1 44)) (τ14.1 44) (τ14.2.1 62) (τ14.2.1 55) (τ14.2.1 36) := by rw [show (J_tr (τ14.1 41) ((τ14.1 15) - 1 - (τ14.1 44)) (τ14.1 44) (τ14.2.1 62) (τ14.2.1 55) (τ14.2.1 36)) = (J_tr (τ11.1 41) ((τ11.1 15) - 1 - (τ11.1 44)) (τ11.1 44) (τ11.2.1 62) (τ11.2.1 55) (τ11.2.1 36)) from by rw [w15_τ14, w41_τ14, w44_τ14, g36_τ14, g55_τ14, g62_τ14]]; exact TR
      have A10 : ∀ j, (-1) ≤ τ14.2.1 10 j ∧ τ14.2.1 10 j ≤ 99 := fun j => hT.2 10 j
      have A13 : ∀ j, 0 ≤ τ14.2.1 13 j ∧ τ14.2.1 13 j ≤ 4 := fun j => hT.2 13 j
      have A14 : ∀ j, 0 ≤ τ14.2.1 14 j ∧ τ14.2.1 14 j ≤ 30000 := fun j => hT.2 14 j
      have A15 : ∀ j, 0 ≤ τ14.2.1 15 j ∧ τ14.2.1 15 j ≤ 999 := fun j => hT.2 15 j
      have A16 : ∀ j, (-1) ≤ τ14.2.1 16 j ∧ τ14.2.1 16 j ≤ 1499 := fun j => hT.2 16 j
      have A27 : ∀ j, 0 ≤ τ14.2.1 27 j ∧ τ14.2.1 27 j ≤ 90000 := fun j => hT.2 27 j
      have A28 : ∀ j, 0 ≤ τ14.2.1 28 j ∧ τ14.2.1 28 j ≤ 60 := fun j => hT.2 28 j
      have A29 : ∀ j, 0 ≤ τ14.2.1 29 j ∧ τ14.2.1 29 j ≤ 1499 := fun j => hT.2 29 j
      have A30 : ∀ j, 0 ≤ τ14.2.1 30 j ∧ τ14.2.1 30 j ≤ 20000 := fun j => hT.2 30 j
      have A31 : ∀ j, 0 ≤ τ14.2.1 31 j ∧ τ14.2.1 31 j ≤ 20000 := fun j => hT.2 31 j
      have A32 : ∀ j, 0 ≤ τ14.2.1 32 j ∧ τ14.2.1 32 j ≤ 999999 := fun j => hT.2 32 j
      have A33 : ∀ j, 0 ≤ τ14.2.1 33 j ∧ τ14.2.1 33 j ≤ 20000 := fun j => hT.2 33 j
      have A34 : ∀ j, 0 ≤ τ14.2.1 34 j ∧ τ14.2.1 34 j ≤ 20000 := fun j => hT.2 34 j
      have A35 : ∀ j, 0 ≤ τ14.2.1 35 j ∧ τ14.2.1 35 j ≤ 1499 := fun j => hT.2 35 j
      have A36 : ∀ j, 0 ≤ τ14.2.1 36 j ∧ τ14.2.1 36 j ≤ 20000 := fun j => hT.2 36 j
      have A37 : ∀ j, 0 ≤ τ14.2.1 37 j ∧ τ14.2.1 37 j ≤ 19999 := fun j => hT.2 37 j
      have A55 : ∀ j, 0 ≤ τ14.2.1 55 j ∧ τ14.2.1 55 j ≤ 19999 := fun j => hT.2 55 j
      have A62 : ∀ j, (-20000) ≤ τ14.2.1 62 j ∧ τ14.2.1 62 j ≤ 19999 := fun j => hT.2 62 j
      have v6 : 0 ≤ τ14.1 6 ∧ τ14.1 6 ≤ 30000 := hT.1 6
      have v7 : 0 ≤ τ14.1 7 ∧ τ14.1 7 ≤ 1500 := hT.1 7
      have v13 : 0 ≤ τ14.1 13 ∧ τ14.1 13 ≤ 90000 := hT.1 13
      have v14 : 0 ≤ τ14.1 14 ∧ τ14.1 14 ≤ 20000 := hT.1 14
      have v15 : 0 ≤ τ14.1 15 ∧ τ14.1 15 ≤ 20000 := hT.1 15
      have v41 : 0 ≤ τ14.1 41 ∧ τ14.1 41 ≤ 20001 := hT.1 41
      have v44 : 0 ≤ τ14.1 44 ∧ τ14.1 44 ≤ 20000 := hT.1 44
      exact l_48 ((20002 - 0 : Int).toNat + 1) _ _ (show (20002 - 0 : Int) < (((20002 - 0 : Int).toNat + 1 : Nat) : Int) from by ((first | omega | (simp only [st_s] <;> omega) | assumption | omega | fail))) hT (show τ14.1 6 = σ.1 6 from by first | exact W6 | omega) (show τ14.1 7 = σ.1 7 from by first | exact W7 | omega) (show τ14.1 13 = σ.1 13 from by first | exact W13 | omega) (show τ14.1 14 = σ.1 14 from by first | exact W14 | omega) (show τ14.1 15 = σ.1 15 from by first | exact W15 | omega) G10 G13 G14 G15 G16 G27 G28 G29 G30 G31 G32 G33 G34 G35 G36 G37 G55 (show 0 ≤ 0 ∧ 0 ≤ 20001 from by (first | omega | (simp only [st_s] <;> omega) | assumption | omega | fail)) (show J_tr (τ14.1 41) ((τ14.1 15) - 1 - (τ14.1 44)) (τ14.1 44) (τ14.2.1 62) (τ14.2.1 55) (τ14.2.1 36) from TR) (show ∀ n : Int, 0 ≤ n → n < (τ14.1 41) → 0 ≤ τ14.2.1 62 n from by (first | exact i48_3 | (rw [w41_τ14, g62_τ14]; exact q9_3) | (rw [w41_τ26, g62_τ26]; exact i48_3) | fail)) (show (τ14.1 44) ≤ (σ.1 15) - 1 from by (first | omega | (simp only [st_s] <;> omega) | assumption | omega | fail))
    ·
      exact hT
  ·
    exact hT
set_option maxHeartbeats 1000000 in
theorem K_X12_printSymbol {n1 : Int} {σ : S0} (hT : c_T σ) : W_X12_printSymbol n1 σ (fun (x : Int) (τ : S0) => (c_T τ)) := by
  have v5 : 0 ≤ σ.1 5 ∧ σ.1 5 ≤ 1000 := hT.1 5
  have W5 : σ.1 5 = σ.1 5 := rfl
  unfold W_X12_printSymbol
  refine ⟨_, K_X3_isSymbol hT, ?_⟩
  intro x2 r_x2 hq
  obtain ⟨q1_1, q1_2⟩ := hq
  replace q1_1 : 0 ≤ x2 ∧ x2 ≤ 1 := q1_1
  replace q1_2 : ¬ x2 = 0 → 0 ≤ n1 ∧ n1 < (σ.1 5) := q1_2
  refine ⟨fun c4 => ?_, fun c4 => ?_⟩
  ·
    refine ⟨_, K_X5_begin hT, ?_⟩
    intro τ7 hn_τ7 hf_τ7 hq
    replace hT := hq
    have w5_τ7 : τ7.1 5 = σ.1 5 := hf_τ7.1 5 (by decide)
    have W5 : τ7.1 5 = σ.1 5 := by first | exact w5_τ7.trans W5 | omega
    have v5 : 0 ≤ τ7.1 5 ∧ τ7.1 5 ≤ 1000 := hT.1 5
    refine ⟨_, K_X5_putSymbol hT (show 0 ≤ n1 from by (first | omega | (simp only [st_s] <;> omega) | assumption | omega | fail)) (show n1 < 1000 from by (first | omega | (simp only [st_s] <;> omega) | assumption | omega | fail)), ?_⟩
    intro τ10 hn_τ10 hf_τ10 hq
    replace hT := hq
    have w5_τ10 : τ10.1 5 = τ7.1 5 := hf_τ10.1 5 (by decide)
    have W5 : τ10.1 5 = σ.1 5 := by first | exact w5_τ10.trans W5 | omega
    have v5 : 0 ≤ τ10.1 5 ∧ τ10.1 5 ≤ 1000 := hT.1 5
    refine ⟨_, K_X5_finish hT, ?_⟩
    intro x12 τ13 r_x12 hn_τ13 hf_τ13 hq
    replace hT := hq
    have w5_τ13 : τ13.1 5 = τ10.1 5 := hf_τ13.1 5 (by decide)
    have W5 : τ13.1 5 = σ.1 5 := by first | exact w5_τ13.trans W5 | omega
    have v5 : 0 ≤ τ13.1 5 ∧ τ13.1 5 ≤ 1000 := hT.1 5
    exact hT
  ·
    exact hT
set_option maxHeartbeats 1000000 in
theorem K_X5_putSymbols_q93 {n2 : Int} {n3 : Int} {σ : S0} (hT : c_T σ) (p1 : 0 ≤ n2) (p2 : n2 ≤ 60) (p3 : n3 ≤ 60) : W_X5_putSymbols_q93 n2 n3 σ (fun (τ : S0) => (c_T τ)) := by
  have A77 : ∀ j, 0 ≤ σ.2.1 77 j ∧ σ.2.1 77 j ≤ 999 := fun j => hT.2 77 j
  have v64 : 0 ≤ σ.1 64 ∧ σ.1 64 ≤ 1 := hT.1 64
  have G77 : σ.2.1 77 = σ.2.1 77 := rfl
  intro P3 h3
  have l_3 : ∀ (m_3 : Nat) (u4_3 : Int) (τ_3 : S0), 61 - u4_3 < (m_3 : Int) → (c_T τ_3) → (τ_3.2.1 77 = σ.2.1 77) → (0 ≤ u4_3) → (u4_3 ≤ 60) → P3 n3 u4_3 τ_3 := by
    intro m_3
    induction m_3 with
    | zero =>
      intro u4_3 τ_3 hm hT G77 i3_1 i3_2
      have A77 : ∀ j, 0 ≤ τ_3.2.1 77 j ∧ τ_3.2.1 77 j ≤ 999 := fun j => hT.2 77 j
      have v64 : 0 ≤ τ_3.1 64 ∧ τ_3.1 64 ≤ 1 := hT.1 64
      exfalso; (first | omega | (simp only [st_s] <;> omega) | assumption | omega | fail)
    | succ m_3 ih_3 =>
      intro u4_3 τ_3 hm_3 hT G77 i3_1 i3_2
      have A77 : ∀ j, 0 ≤ τ_3.2.1 77 j ∧ τ_3.2.1 77 j ≤ 999 := fun j => hT.2 77 j
      have v64 : 0 ≤ τ_3.1 64 ∧ τ_3.1 64 ≤ 1 := hT.1 64
      refine h3 n3 u4_3 τ_3 ?_
      refine ⟨fun c1 => ?_, fun c1 => ?_⟩
      ·
        exact hT
      ·
        refine ⟨fun c2 => ?_, fun c2 => ?_⟩
        ·
          exact hT
        ·
          refine ⟨(show 0 ≤ u4_3 ∧ u4_3 < 60 from by (first | omega | (simp only [st_s] <;> omega) | assumption | omega | fail)), ?_⟩
          intro x4 r_x4 e_x4
          have b_x4 : 0 ≤ x4 ∧ x4 ≤ 999 := by rw [e_x4]; exact hT.2 77 _
          refine ⟨_, K_X5_putSymbol hT (show 0 ≤ x4 from by (first | omega | (simp only [st_s] <;> omega) | assumption | omega | fail)) (show x4 < 1000 from by (first | omega | (simp only [st_s] <;> omega) | assumption | omega | fail)), ?_⟩
          intro τ7 hn_τ7 hf_τ7 hq
          replace hT := hq
          have g77_τ7 : τ7.2.1 77 = τ_3.2.1 77 := hf_τ7.2.1 77 (by decide)
          have G77 : τ7.2.1 77 = σ.2.1 77 := (g77_τ7).trans G77
          have A77 : ∀ j, 0 ≤ τ7.2.1 77 j ∧ τ7.2.1 77 j ≤ 999 := fun j => hT.2 77 j
          have v64 : 0 ≤ τ7.1 64 ∧ τ7.1 64 ≤ 1 := hT.1 64
          refine ⟨(⟨by (first | omega | (simp only [st_s] <;> omega) | assumption | omega | fail), by (first | omega | (simp only [st_s] <;> omega) | assumption | omega | fail)⟩ : rg (u4_3 + 1)), ?_⟩
          exact ih_3 _ _ (show (61 - (u4_3 + 1) : Int) < ((m_3 : Nat) : Int) from by ((first | omega | (simp only [st_s] <;> omega) | assumption | omega | fail))) hT G77 (show 0 ≤ (u4_3 + 1) from by (first | omega | (simp only [st_s] <;> omega) | assumption | omega | fail)) (show (u4_3 + 1) ≤ 60 from by (first | omega | (simp only [st_s] <;> omega) | assumption | omega | fail))
  exact l_3 ((61 - n2 : Int).toNat + 1) _ _ (show (61 - n2 : Int) < (((61 - n2 : Int).toNat + 1 : Nat) : Int) from by ((first | omega | (simp only [st_s] <;> omega) | assumption | omega | fail))) hT G77 (show 0 ≤ n2 from by (first | omega | (simp only [st_s] <;> omega) | assumption | omega | fail)) (show n2 ≤ 60 from by (first | omega | (simp only [st_s] <;> omega) | assumption | omega | fail))
set_option maxHeartbeats 1000000 in
theorem K_X12_printBound {n1 : Int} {σ : S0} (hT : c_T σ) (p1 : 0 ≤ n1) (p2 : n1 < 1500) : W_X12_printBound n1 σ (fun (τ : S0) => (c_T τ)) := by
  have A14 : ∀ j, 0 ≤ σ.2.1 14 j ∧ σ.2.1 14 j ≤ 30000 := fun j => hT.2 14 j
  have G14 : σ.2.1 14 = σ.2.1 14 := rfl
  intro P10 h10
  have l_10 : ∀ (m_10 : Nat) (u2_10 : Int) (τ_10 : S0), 30001 - u2_10 < (m_10 : Int) → (c_T τ_10) → (τ_10.2.1 14 = σ.2.1 14) → (0 ≤ u2_10) → (u2_10 ≤ 30000) → P10 n1 u2_10 τ_10 := by
    intro m_10
    induction m_10 with
    | zero =>
      intro u2_10 τ_10 hm hT G14 i10_1 i10_2
      have A14 : ∀ j, 0 ≤ τ_10.2.1 14 j ∧ τ_10.2.1 14 j ≤ 30000 := fun j => hT.2 14 j
      exfalso; (first | omega | (simp only [st_s] <;> omega) | assumption | omega | fail)
    | succ m_10 ih_10 =>
      intro u2_10 τ_10 hm_10 hT G14 i10_1 i10_2
      have A14 : ∀ j, 0 ≤ τ_10.2.1 14 j ∧ τ_10.2.1 14 j ≤ 30000 := fun j => hT.2 14 j
      refine h10 n1 u2_10 τ_10 ?_
      refine ⟨(show 0 ≤ (n1 + 1) ∧ (n1 + 1) < 1501 from by (first | omega | (simp only [st_s] <;> omega) | assumption | omega | fail)), ?_⟩
      intro x4 r_x4 e_x4
      have b_x4 : 0 ≤ x4 ∧ x4 ≤ 30000 := by rw [e_x4]; exact hT.2 14 _
      refine ⟨fun c5 => ?_, fun c5 => ?_⟩
      ·
        exact hT
      ·
        refine ⟨(show 0 ≤ u2_10 ∧ u2_10 < 30000 from by (first | omega | (simp only [st_s] <;> omega) | assumption | omega | fail)), ?_⟩
        intro x7 r_x7 e_x7
        have b_x7 : 0 ≤ x7 ∧ x7 ≤ 999 := by rw [e_x7]; exact hT.2 15 _
        intro x8 r_x8 e_x8
        have b_x8 : (-1) ≤ x8 ∧ x8 ≤ 1499 := by rw [e_x8]; exact hT.2 16 _
        refine ⟨fun c9 => ?_, fun c9 => ?_⟩
        ·
          refine ⟨(show 0 ≤ x7 ∧ x7 < 1000 from by (first | omega | (simp only [st_s] <;> omega) | assumption | omega | fail)), ?_⟩
          intro x11 r_x11 e_x11
          have b_x11 : 0 ≤ x11 ∧ x11 ≤ 59 := by rw [e_x11]; exact hT.2 89 _
          intro x12 r_x12 e_x12
          have b_x12 : 0 ≤ x12 ∧ x12 ≤ 59 := by rw [e_x12]; exact hT.2 90 _
          refine ⟨_, K_X5_putSymbols_q93 hT (show 0 ≤ x11 from by (first | omega | (simp only [st_s] <;> omega) | assumption | omega | fail)) (show x11 ≤ 60 from by (first | omega | (simp only [st_s] <;> omega) | assumption | omega | fail)) (show x12 ≤ 60 from by (first | omega | (simp only [st_s] <;> omega) | assumption | omega | fail)), ?_⟩
          intro τ15 hn_τ15 hf_τ15 hq
          replace hT := hq
          have g14_τ15 : τ15.2.1 14 = τ_10.2.1 14 := hf_τ15.2.1 14 (by decide)
          have G14 : τ15.2.1 14 = σ.2.1 14 := (g14_τ15).trans G14
          have A14 : ∀ j, 0 ≤ τ15.2.1 14 j ∧ τ15.2.1 14 j ≤ 30000 := fun j => hT.2 14 j
          refine ⟨(⟨by (first | omega | (simp only [st_s] <;> omega) | assumption | omega | fail), by (first | omega | (simp only [st_s] <;> omega) | assumption | omega | fail)⟩ : rg (u2_10 + 1)), ?_⟩
          exact ih_10 _ _ (show (30001 - (u2_10 + 1) : Int) < ((m_10 : Nat) : Int) from by ((first | omega | (simp only [st_s] <;> omega) | assumption | omega | fail))) hT G14 (show 0 ≤ (u2_10 + 1) from by (first | omega | (simp only [st_s] <;> omega) | assumption | omega | fail)) (show (u2_10 + 1) ≤ 30000 from by (first | omega | (simp only [st_s] <;> omega) | assumption | omega | fail))
        ·
          refine ⟨_, K_X5_putSymbol hT (show 0 ≤ x7 from by (first | omega | (simp only [st_s] <;> omega) | assumption | omega | fail)) (show x7 < 1000 from by (first | omega | (simp only [st_s] <;> omega) | assumption | omega | fail)), ?_⟩
          intro τ19 hn_τ19 hf_τ19 hq
          replace hT := hq
          have g14_τ19 : τ19.2.1 14 = τ_10.2.1 14 := hf_τ19.2.1 14 (by decide)
          have G14 : τ19.2.1 14 = σ.2.1 14 := (g14_τ19).trans G14
          have A14 : ∀ j, 0 ≤ τ19.2.1 14 j ∧ τ19.2.1 14 j ≤ 30000 := fun j => hT.2 14 j
          refine ⟨(⟨by (first | omega | (simp only [st_s] <;> omega) | assumption | omega | fail), by (first | omega | (simp only [st_s] <;> omega) | assumption | omega | fail)⟩ : rg (u2_10 + 1)), ?_⟩
          exact ih_10 _ _ (show (30001 - (u2_10 + 1) : Int) < ((m_10 : Nat) : Int) from by ((first | omega | (simp only [st_s] <;> omega) | assumption | omega | fail))) hT G14 (show 0 ≤ (u2_10 + 1) from by (first | omega | (simp only [st_s] <;> omega) | assumption | omega | fail)) (show (u2_10 + 1) ≤ 30000 from by (first | omega | (simp only [st_s] <;> omega) | assumption | omega | fail))
  refine ⟨(show 0 ≤ n1 ∧ n1 < 1501 from by (first | omega | (simp only [st_s] <;> omega) | assumption | omega | fail)), ?_⟩
  intro x2 r_x2 e_x2
  have b_x2 : 0 ≤ x2 ∧ x2 ≤ 30000 := by rw [e_x2]; exact hT.2 14 _
  exact l_10 ((30001 - x2 : Int).toNat + 1) _ _ (show (30001 - x2 : Int) < (((30001 - x2 : Int).toNat + 1 : Nat) : Int) from by ((first | omega | (simp only [st_s] <;> omega) | assumption | omega | fail))) hT G14 (show 0 ≤ x2 from by (first | omega | (simp only [st_s] <;> omega) | assumption | omega | fail)) (show x2 ≤ 30000 from by (first | omega | (simp only [st_s] <;> omega) | assumption | omega | fail))
set_option maxHeartbeats 1000000 in
theorem K_X12_printEssentials {n1 : Int} {σ : S0} (hT : c_T σ) (p1 : 0 ≤ n1) (p2 : n1 < 1500) (p3 : σ.2.1 27 n1 + σ.2.1 28 n1 ≤ 90000) : W_X12_printEssentials n1 σ (fun (x : Int) (τ : S0) => (c_T τ)) := by
  have A27 : ∀ j, 0 ≤ σ.2.1 27 j ∧ σ.2.1 27 j ≤ 90000 := fun j => hT.2 27 j
  have A28 : ∀ j, 0 ≤ σ.2.1 28 j ∧ σ.2.1 28 j ≤ 60 := fun j => hT.2 28 j
  have G27 : σ.2.1 27 = σ.2.1 27 := rfl
  have G28 : σ.2.1 28 = σ.2.1 28 := rfl
  intro P22 P80 h22 h80
  have a27 := A27 n1
  have l_22 : ∀ (m_22 : Nat) (u2_22 : Int) (u3_22 : Int) (u4_22 : Int) (τ_22 : S0), 90001 - u4_22 < (m_22 : Int) → (c_T τ_22) → (τ_22.2.1 27 = σ.2.1 27) → (τ_22.2.1 28 = σ.2.1 28) → (0 ≤ u2_22 ∧ u2_22 ≤ u4_22 - u3_22) → (u3_22 ≤ u4_22) → (u3_22 = σ.2.1 27 n1) → (u4_22 ≤ 90000) → P22 n1 u2_22 u3_22 u4_22 τ_22 := by
    intro m_22
    induction m_22 with
    | zero =>
      intro u2_22 u3_22 u4_22 τ_22 hm hT G27 G28 i22_1 i22_2 i22_3 i22_4
      have A27 : ∀ j, 0 ≤ τ_22.2.1 27 j ∧ τ_22.2.1 27 j ≤ 90000 := fun j => hT.2 27 j
      have A28 : ∀ j, 0 ≤ τ_22.2.1 28 j ∧ τ_22.2.1 28 j ≤ 60 := fun j => hT.2 28 j
      exfalso; (first | omega | (simp only [st_s] <;> omega) | assumption | omega | fail)
    | succ m_22 ih_22 =>
      intro u2_22 u3_22 u4_22 τ_22 hm_22 hT G27 G28 i22_1 i22_2 i22_3 i22_4
      have A27 : ∀ j, 0 ≤ τ_22.2.1 27 j ∧ τ_22.2.1 27 j ≤ 90000 := fun j => hT.2 27 j
      have A28 : ∀ j, 0 ≤ τ_22.2.1 28 j ∧ τ_22.2.1 28 j ≤ 60 := fun j => hT.2 28 j
      refine h22 n1 u2_22 u3_22 u4_22 τ_22 ?_
      refine ⟨(show 0 ≤ n1 ∧ n1 < 1500 from by (first | omega | (simp only [st_s] <;> omega) | assumption | omega | fail)), ?_⟩
      intro x7 r_x7 e_x7
      have b_x7 : 0 ≤ x7 ∧ x7 ≤ 60 := by rw [e_x7]; exact hT.2 28 _
      rw [G28] at e_x7
      refine ⟨(⟨by (first | omega | (simp only [st_s] <;> omega) | assumption | omega | fail), by (first | omega | (simp only [st_s] <;> omega) | assumption | omega | fail)⟩ : rg (u3_22 + x7)), ?_⟩
      refine ⟨fun c9 => ?_, fun c9 => ?_⟩
      ·
        refine ⟨_, K_X5_finish hT, ?_⟩
        intro x11 τ12 r_x11 hn_τ12 hf_τ12 hq
        replace hT := hq
        have g27_τ12 : τ12.2.1 27 = τ_22.2.1 27 := hf_τ12.2.1 27 (by decide)
        have g28_τ12 : τ12.2.1 28 = τ_22.2.1 28 := hf_τ12.2.1 28 (by decide)
        have G27 : τ12.2.1 27 = σ.2.1 27 := (g27_τ12).trans G27
        have G28 : τ12.2.1 28 = σ.2.1 28 := (g28_τ12).trans G28
        have A27 : ∀ j, 0 ≤ τ12.2.1 27 j ∧ τ12.2.1 27 j ≤ 90000 := fun j => hT.2 27 j
        have A28 : ∀ j, 0 ≤ τ12.2.1 28 j ∧ τ12.2.1 28 j ≤ 60 := fun j => hT.2 28 j
        refine ⟨fun c13 => ?_, fun c13 => ?_⟩
        ·
          exact hT
        ·
          exact hT
      ·
        refine ⟨(show 0 ≤ u4_22 ∧ u4_22 < 90000 from by (first | omega | (simp only [st_s] <;> omega) | assumption | omega | fail)), ?_⟩
        intro x15 r_x15 e_x15
        have b_x15 : 0 ≤ x15 ∧ x15 ≤ 1499 := by rw [e_x15]; exact hT.2 29 _
        refine ⟨(show 0 ≤ x15 ∧ x15 < 1500 from by (first | omega | (simp only [st_s] <;> omega) | assumption | omega | fail)), ?_⟩
        intro x17 r_x17 e_x17
        have b_x17 : 0 ≤ x17 ∧ x17 ≤ 4 := by rw [e_x17]; exact hT.2 13 _
        refine ⟨fun c18 => ?_, fun c18 => ?_⟩
        ·
          refine ⟨fun c19 => ?_, fun c19 => ?_⟩
          ·
            refine h80 _ _ _ _ _ _ ?_
            refine ⟨_, K_X12_printBound hT (show 0 ≤ x15 from by (first | omega | (simp only [st_s] <;> omega) | assumption | omega | fail)) (show x15 < 1500 from by (first | omega | (simp only [st_s] <;> omega) | assumption | omega | fail)), ?_⟩
            intro τ26 hn_τ26 hf_τ26 hq
            replace hT := hq
            have g27_τ26 : τ26.2.1 27 = τ_22.2.1 27 := hf_τ26.2.1 27 (by decide)
            have g28_τ26 : τ26.2.1 28 = τ_22.2.1 28 := hf_τ26.2.1 28 (by decide)
            have G27 : τ26.2.1 27 = σ.2.1 27 := (g27_τ26).trans G27
            have G28 : τ26.2.1 28 = σ.2.1 28 := (g28_τ26).trans G28
            have A27 : ∀ j, 0 ≤ τ26.2.1 27 j ∧ τ26.2.1 27 j ≤ 90000 := fun j => hT.2 27 j
            have A28 : ∀ j, 0 ≤ τ26.2.1 28 j ∧ τ26.2.1 28 j ≤ 60 := fun j => hT.2 28 j
            refine ⟨(⟨by (first | omega | (simp only [st_s] <;> omega) | assumption | omega | fail), by (first | omega | (simp only [st_s] <;> omega) | assumption | omega | fail)⟩ : rg (u2_22 + 1)), ?_⟩
            refine ⟨(⟨by (first | omega | (simp only [st_s] <;> omega) | assumption | omega | fail), by (first | omega | (simp only [st_s] <;> omega) | assumption | omega | fail)⟩ : rg (u4_22 + 1)), ?_⟩
            exact ih_22 _ _ _ _ (show (90001 - (u4_22 + 1) : Int) < ((m_22 : Nat) : Int) from by ((first | omega | (simp only [st_s] <;> omega) | assumption | omega | fail))) hT G27 G28 (show 0 ≤ (u2_22 + 1) ∧ (u2_22 + 1) ≤ (u4_22 + 1) - u3_22 from by (first | omega | (simp only [st_s] <;> omega) | assumption | omega | fail)) (show u3_22 ≤ (u4_22 + 1) from by (first | omega | (simp only [st_s] <;> omega) | assumption | omega | fail)) (show u3_22 = σ.2.1 27 n1 from by (first | omega | (simp only [st_s] <;> omega) | assumption | omega | fail)) (show (u4_22 + 1) ≤ 90000 from by (first | omega | (simp only [st_s] <;> omega) | assumption | omega | fail))
          ·
            refine ⟨_, K_X5_putToken hT, ?_⟩
            intro τ22 hn_τ22 hf_τ22 hq
            replace hT := hq
            have g27_τ22 : τ22.2.1 27 = τ_22.2.1 27 := hf_τ22.2.1 27 (by decide)
            have g28_τ22 : τ22.2.1 28 = τ_22.2.1 28 := hf_τ22.2.1 28 (by decide)
            have G27 : τ22.2.1 27 = σ.2.1 27 := (g27_τ22).trans G27
            have G28 : τ22.2.1 28 = σ.2.1 28 := (g28_τ22).trans G28
            have A27 : ∀ j, 0 ≤ τ22.2.1 27 j ∧ τ22.2.1 27 j ≤ 90000 := fun j => hT.2 27 j
            have A28 : ∀ j, 0 ≤ τ22.2.1 28 j ∧ τ22.2.1 28 j ≤ 60 := fun j => hT.2 28 j
            refine h80 _ _ _ _ _ _ ?_
            refine ⟨_, K_X12_printBound hT (show 0 ≤ x15 from by (first | omega | (simp only [st_s] <;> omega) | assumption | omega | fail)) (show x15 < 1500 from by (first | omega | (simp only [st_s] <;> omega) | assumption | omega | fail)), ?_⟩
            intro τ26 hn_τ26 hf_τ26 hq
            replace hT := hq
            have g27_τ26 : τ26.2.1 27 = τ22.2.1 27 := hf_τ26.2.1 27 (by decide)
            have g28_τ26 : τ26.2.1 28 = τ22.2.1 28 := hf_τ26.2.1 28 (by decide)
            have G27 : τ26.2.1 27 = σ.2.1 27 := (g27_τ26).trans G27
            have G28 : τ26.2.1 28 = σ.2.1 28 := (g28_τ26).trans G28
            have A27 : ∀ j, 0 ≤ τ26.2.1 27 j ∧ τ26.2.1 27 j ≤ 90000 := fun j => hT.2 27 j
            have A28 : ∀ j, 0 ≤ τ26.2.1 28 j ∧ τ26.2.1 28 j ≤ 60 := fun j => hT.2 28 j
            refine ⟨(⟨by (first | omega | (simp only [st_s] <;> omega) | assumption | omega | fail), by (first | omega | (simp only [st_s] <;> omega) | assumption | omega | fail)⟩ : rg (u2_22 + 1)), ?_⟩
            refine ⟨(⟨by (first | omega | (simp only [st_s] <;> omega) | assumption | omega | fail), by (first | omega | (simp only [st_s] <;> omega) | assumption | omega | fail)⟩ : rg (u4_22 + 1)), ?_⟩
            exact ih_22 _ _ _ _ (show (90001 - (u4_22 + 1) : Int) < ((m_22 : Nat) : Int) from by ((first | omega | (simp only [st_s] <;> omega) | assumption | omega | fail))) hT G27 G28 (show 0 ≤ (u2_22 + 1) ∧ (u2_22 + 1) ≤ (u4_22 + 1) - u3_22 from by (first | omega | (simp only [st_s] <;> omega) | assumption | omega | fail)) (show u3_22 ≤ (u4_22 + 1) from by (first | omega | (simp only [st_s] <;> omega) | assumption | omega | fail)) (show u3_22 = σ.2.1 27 n1 from by (first | omega | (simp only [st_s] <;> omega) | assumption | omega | fail)) (show (u4_22 + 1) ≤ 90000 from by (first | omega | (simp only [st_s] <;> omega) | assumption | omega | fail))
        ·
          refine ⟨(⟨by (first | omega | (simp only [st_s] <;> omega) | assumption | omega | fail), by (first | omega | (simp only [st_s] <;> omega) | assumption | omega | fail)⟩ : rg (u4_22 + 1)), ?_⟩
          exact ih_22 _ _ _ _ (show (90001 - (u4_22 + 1) : Int) < ((m_22 : Nat) : Int) from by ((first | omega | (simp only [st_s] <;> omega) | assumption | omega | fail))) hT G27 G28 (show 0 ≤ u2_22 ∧ u2_22 ≤ (u4_22 + 1) - u3_22 from by (first | omega | (simp only [st_s] <;> omega) | assumption | omega | fail)) (show u3_22 ≤ (u4_22 + 1) from by (first | omega | (simp only [st_s] <;> omega) | assumption | omega | fail)) (show u3_22 = σ.2.1 27 n1 from by (first | omega | (simp only [st_s] <;> omega) | assumption | omega | fail)) (show (u4_22 + 1) ≤ 90000 from by (first | omega | (simp only [st_s] <;> omega) | assumption | omega | fail))
  refine ⟨_, K_X5_begin hT, ?_⟩
  intro τ3 hn_τ3 hf_τ3 hq
  replace hT := hq
  have g27_τ3 : τ3.2.1 27 = σ.2.1 27 := hf_τ3.2.1 27 (by decide)
  have g28_τ3 : τ3.2.1 28 = σ.2.1 28 := hf_τ3.2.1 28 (by decide)
  have G27 : τ3.2.1 27 = σ.2.1 27 := (g27_τ3).trans G27
  have G28 : τ3.2.1 28 = σ.2.1 28 := (g28_τ3).trans G28
  have A27 : ∀ j, 0 ≤ τ3.2.1 27 j ∧ τ3.2.1 27 j ≤ 90000 := fun j => hT.2 27 j
  have A28 : ∀ j, 0 ≤ τ3.2.1 28 j ∧ τ3.2.1 28 j ≤ 60 := fun j => hT.2 28 j
  refine ⟨(show 0 ≤ n1 ∧ n1 < 1500 from by (first | omega | (simp only [st_s] <;> omega) | assumption | omega | fail)), ?_⟩
  intro x5 r_x5 e_x5
  have b_x5 : 0 ≤ x5 ∧ x5 ≤ 90000 := by rw [e_x5]; exact hT.2 27 _
  rw [g27_τ3] at e_x5
  exact l_22 ((90001 - x5 : Int).toNat + 1) _ _ _ _ (show (90001 - x5 : Int) < (((90001 - x5 : Int).toNat + 1 : Nat) : Int) from by ((first | omega | (simp only [st_s] <;> omega) | assumption | omega | fail))) hT G27 G28 (show 0 ≤ 0 ∧ 0 ≤ x5 - x5 from by (first | omega | (simp only [st_s] <;> omega) | assumption | omega | fail)) (show x5 ≤ x5 from by (first | omega | (simp only [st_s] <;> omega) | assumption | omega | fail)) (show x5 = σ.2.1 27 n1 from by (first | omega | (simp only [st_s] <;> omega) | assumption | omega | fail)) (show x5 ≤ 90000 from by (first | omega | (simp only [st_s] <;> omega) | assumption | omega | fail))
set_option maxHeartbeats 2000000 in
theorem K_X12_isSound {n1 : Int} {σ : S0} (hT : c_T σ) (p1 : 0 ≤ n1) (p2 : n1 < (σ.1 7)) (p3 : σ.2.1 13 n1 = 3) (p4 : J_all (σ.1 7) (σ.1 6) (σ.1 13) (σ.1 14) (σ.1 15) (σ.2.1 13) (σ.2.1 14) (σ.2.1 15) (σ.2.1 16) (σ.2.1 10) (σ.2.1 27) (σ.2.1 28) (σ.2.1 29) (σ.2.1 30) (σ.2.1 31) (σ.2.1 32) (σ.2.1 33) (σ.2.1 34) (σ.2.1 35) (σ.2.1 36) (σ.2.1 37)) (p5 : J_bp (σ.2.1 44) (σ.2.1 45)) : W_X12_isSound n1 σ (fun (x : Int) (τ : S0) => (c_T τ) ∧ (0 ≤ x ∧ x ≤ 1) ∧ (J_bp (τ.2.1 44) (τ.2.1 45))) := by
  have A10 : ∀ j, (-1) ≤ σ.2.1 10 j ∧ σ.2.1 10 j ≤ 99 := fun j => hT.2 10 j
  have A13 : ∀ j, 0 ≤ σ.2.1 13 j ∧ σ.2.1 13 j ≤ 4 := fun j => hT.2 13 j
  have A14 : ∀ j, 0 ≤ σ.2.1 14 j ∧ σ.2.1 14 j ≤ 30000 := fun j => hT.2 14 j
  have A15 : ∀ j, 0 ≤ σ.2.1 15 j ∧ σ.2.1 15 j ≤ 999 := fun j => hT.2 15 j
  have A16 : ∀ j, (-1) ≤ σ.2.1 16 j ∧ σ.2.1 16 j ≤ 1499 := fun j => hT.2 16 j
  have A27 : ∀ j, 0 ≤ σ.2.1 27 j ∧ σ.2.1 27 j ≤ 90000 := fun j => hT.2 27 j
  have A28 : ∀ j, 0 ≤ σ.2.1 28 j ∧ σ.2.1 28 j ≤ 60 := fun j => hT.2 28 j
  have A29 : ∀ j, 0 ≤ σ.2.1 29 j ∧ σ.2.1 29 j ≤ 1499 := fun j => hT.2 29 j
  have A30 : ∀ j, 0 ≤ σ.2.1 30 j ∧ σ.2.1 30 j ≤ 20000 := fun j => hT.2 30 j
  have A31 : ∀ j, 0 ≤ σ.2.1 31 j ∧ σ.2.1 31 j ≤ 20000 := fun j => hT.2 31 j
  have A32 : ∀ j, 0 ≤ σ.2.1 32 j ∧ σ.2.1 32 j ≤ 999999 := fun j => hT.2 32 j
  have A33 : ∀ j, 0 ≤ σ.2.1 33 j ∧ σ.2.1 33 j ≤ 20000 := fun j => hT.2 33 j
  have A34 : ∀ j, 0 ≤ σ.2.1 34 j ∧ σ.2.1 34 j ≤ 20000 := fun j => hT.2 34 j
  have A35 : ∀ j, 0 ≤ σ.2.1 35 j ∧ σ.2.1 35 j ≤ 1499 := fun j => hT.2 35 j
  have A36 : ∀ j, 0 ≤ σ.2.1 36 j ∧ σ.2.1 36 j ≤ 20000 := fun j => hT.2 36 j
  have A37 : ∀ j, 0 ≤ σ.2.1 37 j ∧ σ.2.1 37 j ≤ 19999 := fun j => hT.2 37 j
  have A40 : ∀ j, 0 ≤ σ.2.1 40 j ∧ σ.2.1 40 j ≤ 42000 := fun j => hT.2 40 j
  have A41 : ∀ j, (-2) ≤ σ.2.1 41 j ∧ σ.2.1 41 j ≤ 1000 := fun j => hT.2 41 j
  have A44 : ∀ j, 0 ≤ σ.2.1 44 j ∧ σ.2.1 44 j ≤ 42000 := fun j => hT.2 44 j
  have A45 : ∀ j, 0 ≤ σ.2.1 45 j ∧ σ.2.1 45 j ≤ 1000 := fun j => hT.2 45 j
  have v6 : 0 ≤ σ.1 6 ∧ σ.1 6 ≤ 30000 := hT.1 6
  have v7 : 0 ≤ σ.1 7 ∧ σ.1 7 ≤ 1500 := hT.1 7
  have v13 : 0 ≤ σ.1 13 ∧ σ.1 13 ≤ 90000 := hT.1 13
  have v14 : 0 ≤ σ.1 14 ∧ σ.1 14 ≤ 20000 := hT.1 14
  have v15 : 0 ≤ σ.1 15 ∧ σ.1 15 ≤ 20000 := hT.1 15
  have v17 : 0 ≤ σ.1 17 ∧ σ.1 17 ≤ 42000 := hT.1 17
  have v18 : 0 ≤ σ.1 18 ∧ σ.1 18 ≤ 42000 := hT.1 18
  have W6 : σ.1 6 = σ.1 6 := rfl
  have W7 : σ.1 7 = σ.1 7 := rfl
  have W13 : σ.1 13 = σ.1 13 := rfl
  have W14 : σ.1 14 = σ.1 14 := rfl
  have W15 : σ.1 15 = σ.1 15 := rfl
  have G10 : σ.2.1 10 = σ.2.1 10 := rfl
  have G13 : σ.2.1 13 = σ.2.1 13 := rfl
  have G14 : σ.2.1 14 = σ.2.1 14 := rfl
  have G15 : σ.2.1 15 = σ.2.1 15 := rfl
  have G16 : σ.2.1 16 = σ.2.1 16 := rfl
  have G27 : σ.2.1 27 = σ.2.1 27 := rfl
  have G28 : σ.2.1 28 = σ.2.1 28 := rfl
  have G29 : σ.2.1 29 = σ.2.1 29 := rfl
  have G30 : σ.2.1 30 = σ.2.1 30 := rfl
  have G31 : σ.2.1 31 = σ.2.1 31 := rfl
  have G32 : σ.2.1 32 = σ.2.1 32 := rfl
  have G33 : σ.2.1 33 = σ.2.1 33 := rfl
  have G34 : σ.2.1 34 = σ.2.1 34 := rfl
  have G35 : σ.2.1 35 = σ.2.1 35 := rfl
  have G36 : σ.2.1 36 = σ.2.1 36 := rfl
  have G37 : σ.2.1 37 = σ.2.1 37 := rfl
  intro P66 h66
  have jr := ((p4.1 n1 p1 p2).2.2 p3).1
  have s40 := A40
  have a33 := A33 n1
  have CJ : J_all (σ.1 7) (σ.1 6) (σ.1 13) (σ.1 14) (σ.1 15) (σ.2.1 13) (σ.2.1 14) (σ.2.1 15) (σ.2.1 16) (σ.2.1 10) (σ.2.1 27) (σ.2.1 28) (σ.2.1 29) (σ.2.1 30) (σ.2.1 31) (σ.2.1 32) (σ.2.1 33) (σ.2.1 34) (σ.2.1 35) (σ.2.1 36) (σ.2.1 37) := p4
  have BP : J_bp (σ.2.1 44) (σ.2.1 45) := p5
  have BP_0 := BP
  have CJ_0 := CJ
  refine ⟨(show 0 ≤ n1 ∧ n1 < 1500 from by (first | omega | (simp only [st_s] <;> omega) | assumption | omega | fail)), ?_⟩
  intro x2 r_x2 e_x2
  have b_x2 : 0 ≤ x2 ∧ x2 ≤ 20000 := by rw [e_x2]; exact hT.2 34 _
  refine ⟨(⟨by (first | omega | (simp only [st_s] <;> omega) | assumption | omega | fail), by (first | omega | (simp only [st_s] <;> omega) | assumption | omega | fail)⟩ : rg (x2 - 1)), ?_⟩
  refine ⟨_, K_X6_goAgain hT (show 0 ≤ n1 from by (first | omega | (simp only [st_s] <;> omega) | assumption | omega | fail)) (show n1 < (σ.1 7) from by (first | omega | (simp only [st_s] <;> omega) | assumption | omega | fail)) (show σ.2.1 13 n1 = 3 from by (first | omega | (simp only [st_s] <;> omega) | assumption | omega | fail)) (show (x2 - 1) < σ.2.1 34 n1 from by (first | omega | (simp only [st_s] <;> omega) | assumption | omega | fail)) (show J_all (σ.1 7) (σ.1 6) (σ.1 13) (σ.1 14) (σ.1 15) (σ.2.1 13) (σ.2.1 14) (σ.2.1 15) (σ.2.1 16) (σ.2.1 10) (σ.2.1 27) (σ.2.1 28) (σ.2.1 29) (σ.2.1 30) (σ.2.1 31) (σ.2.1 32) (σ.2.1 33) (σ.2.1 34) (σ.2.1 35) (σ.2.1 36) (σ.2.1 37) from CJ) (show J_bp (σ.2.1 44) (σ.2.1 45) from BP) (show -1 ≤ (x2 - 1) from by (first | omega | (simp only [st_s] <;> omega) | assumption | omega | fail)), ?_⟩
  intro x5 τ6 r_x5 hn_τ6 hf_τ6 hq
  obtain ⟨hT, q4_1, q4_2, q4_3⟩ := hq
  replace q4_1 : 0 ≤ x5 ∧ x5 ≤ 1 := q4_1
  replace q4_2 : J_bp (τ6.2.1 44) (τ6.2.1 45) := q4_2
  replace q4_3 : ¬ x5 = 0 → J_dt (τ6.1 17) (τ6.1 18) ((x2 - 1) + 1) (τ6.2.1 39) (τ6.2.1 40) (τ6.2.1 41) := q4_3
  have w6_τ6 : τ6.1 6 = σ.1 6 := hf_τ6.1 6 (by decide)
  have w7_τ6 : τ6.1 7 = σ.1 7 := hf_τ6.1 7 (by decide)
  have w13_τ6 : τ6.1 13 = σ.1 13 := hf_τ6.1 13 (by decide)
  have w14_τ6 : τ6.1 14 = σ.1 14 := hf_τ6.1 14 (by decide)
  have w15_τ6 : τ6.1 15 = σ.1 15 := hf_τ6.1 15 (by decide)
  have g10_τ6 : τ6.2.1 10 = σ.2.1 10 := hf_τ6.2.1 10 (by decide)
  have g13_τ6 : τ6.2.1 13 = σ.2.1 13 := hf_τ6.2.1 13 (by decide)
  have g14_τ6 : τ6.2.1 14 = σ.2.1 14 := hf_τ6.2.1 14 (by decide)
  have g15_τ6 : τ6.2.1 15 = σ.2.1 15 := hf_τ6.2.1 15 (by decide)
  have g16_τ6 : τ6.2.1 16 = σ.2.1 16 := hf_τ6.2.1 16 (by decide)
  have g27_τ6 : τ6.2.1 27 = σ.2.1 27 := hf_τ6.2.1 27 (by decide)
  have g28_τ6 : τ6.2.1 28 = σ.2.1 28 := hf_τ6.2.1 28 (by decide)
  have g29_τ6 : τ6.2.1 29 = σ.2.1 29 := hf_τ6.2.1 29 (by decide)
  have g30_τ6 : τ6.2.1 30 = σ.2.1 30 := hf_τ6.2.1 30 (by decide)
  have g31_τ6 : τ6.2.1 31 = σ.2.1 31 := hf_τ6.2.1 31 (by decide)
  have g32_τ6 : τ6.2.1 32 = σ.2.1 32 := hf_τ6.2.1 32 (by decide)
  have g33_τ6 : τ6.2.1 33 = σ.2.1 33 := hf_τ6.2.1 33 (by decide)
  have g34_τ6 : τ6.2.1 34 = σ.2.1 34 := hf_τ6.2.1 34 (by decide)
  have g35_τ6 : τ6.2.1 35 = σ.2.1 35 := hf_τ6.2.1 35 (by decide)
  have g36_τ6 : τ6.2.1 36 = σ.2.1 36 := hf_τ6.2.1 36 (by decide)
  have g37_τ6 : τ6.2.1 37 = σ.2.1 37 := hf_τ6.2.1 37 (by decide)
  have W6 : τ6.1 6 = σ.1 6 := by first | exact w6_τ6.trans W6 | omega
  have W7 : τ6.1 7 = σ.1 7 := by first | exact w7_τ6.trans W7 | omega
  have W13 : τ6.1 13 = σ.1 13 := by first | exact w13_τ6.trans W13 | omega
  have W14 : τ6.1 14 = σ.1 14 := by first | exact w14_τ6.trans W14 | omega
  have W15 : τ6.1 15 = σ.1 15 := by first | exact w15_τ6.trans W15 | omega
  have G10 : τ6.2.1 10 = σ.2.1 10 := (g10_τ6).trans G10
  have G13 : τ6.2.1 13 = σ.2.1 13 := (g13_τ6).trans G13
  have G14 : τ6.2.1 14 = σ.2.1 14 := (g14_τ6).trans G14
  have G15 : τ6.2.1 15 = σ.2.1 15 := (g15_τ6).trans G15
  have G16 : τ6.2.1 16 = σ.2.1 16 := (g16_τ6).trans G16
  have G27 : τ6.2.1 27 = σ.2.1 27 := (g27_τ6).trans G27
  have G28 : τ6.2.1 28 = σ.2.1 28 := (g28_τ6).trans G28
  have G29 : τ6.2.1 29 = σ.2.1 29 := (g29_τ6).trans G29
  have G30 : τ6.2.1 30 = σ.2.1 30 := (g30_τ6).trans G30
  have G31 : τ6.2.1 31 = σ.2.1 31 := (g31_τ6).trans G31
  have G32 : τ6.2.1 32 = σ.2.1 32 := (g32_τ6).trans G32
  have G33 : τ6.2.1 33 = σ.2.1 33 := (g33_τ6).trans G33
  have G34 : τ6.2.1 34 = σ.2.1 34 := (g34_τ6).trans G34
  have G35 : τ6.2.1 35 = σ.2.1 35 := (g35_τ6).trans G35
  have G36 : τ6.2.1 36 = σ.2.1 36 := (g36_τ6).trans G36
  have G37 : τ6.2.1 37 = σ.2.1 37 := (g37_τ6).trans G37
  have CJ : J_all (τ6.1 7) (τ6.1 6) (τ6.1 13) (τ6.1 14) (τ6.1 15) (τ6.2.1 13) (τ6.2.1 14) (τ6.2.1 15) (τ6.2.1 16) (τ6.2.1 10) (τ6.2.1 27) (τ6.2.1 28) (τ6.2.1 29) (τ6.2.1 30) (τ6.2.1 31) (τ6.2.1 32) (τ6.2.1 33) (τ6.2.1 34) (τ6.2.1 35) (τ6.2.1 36) (τ6.2.1 37) := by rw [show (J_all (τ6.1 7) (τ6.1 6) (τ6.1 13) (τ6.1 14) (τ6.1 15) (τ6.2.1 13) (τ6.2.1 14) (τ6.2.1 15) (τ6.2.1 16) (τ6.2.1 10) (τ6.2.1 27) (τ6.2.1 28) (τ6.2.1 29) (τ6.2.1 30) (τ6.2.1 31) (τ6.2.1 32) (τ6.2.1 33) (τ6.2.1 34) (τ6.2.1 35) (τ6.2.1 36) (τ6.2.1 37)) = (J_all (σ.1 7) (σ.1 6) (σ.1 13) (σ.1 14) (σ.1 15) (σ.2.1 13) (σ.2.1 14) (σ.2.1 15) (σ.2.1 16) (σ.2.1 10) (σ.2.1 27) (σ.2.1 28) (σ.2.1 29) (σ.2.1 30) (σ.2.1 31) (σ.2.1 32) (σ.2.1 33) (σ.2.1 34) (σ.2.1 35) (σ.2.1 36) (σ.2.1 37)) from by rw [w6_τ6, w7_τ6, w13_τ6, w14_τ6, w15_τ6, g10_τ6, g13_τ6, g14_τ6, g15_τ6, g16_τ6, g27_τ6, g28_τ6, g29_τ6, g30_τ6, g31_τ6, g32_τ6, g33_τ6, g34_τ6, g35_τ6, g36_τ6, g37_τ6]]; exact CJ
  have BP : J_bp (τ6.2.1 44) (τ6.2.1 45) := q4_2
  have A10 : ∀ j, (-1) ≤ τ6.2.1 10 j ∧ τ6.2.1 10 j ≤ 99 := fun j => hT.2 10 j
  have A13 : ∀ j, 0 ≤ τ6.2.1 13 j ∧ τ6.2.1 13 j ≤ 4 := fun j => hT.2 13 j
  have A14 : ∀ j, 0 ≤ τ6.2.1 14 j ∧ τ6.2.1 14 j ≤ 30000 := fun j => hT.2 14 j
  have A15 : ∀ j, 0 ≤ τ6.2.1 15 j ∧ τ6.2.1 15 j ≤ 999 := fun j => hT.2 15 j
  have A16 : ∀ j, (-1) ≤ τ6.2.1 16 j ∧ τ6.2.1 16 j ≤ 1499 := fun j => hT.2 16 j
  have A27 : ∀ j, 0 ≤ τ6.2.1 27 j ∧ τ6.2.1 27 j ≤ 90000 := fun j => hT.2 27 j
  have A28 : ∀ j, 0 ≤ τ6.2.1 28 j ∧ τ6.2.1 28 j ≤ 60 := fun j => hT.2 28 j
  have A29 : ∀ j, 0 ≤ τ6.2.1 29 j ∧ τ6.2.1 29 j ≤ 1499 := fun j => hT.2 29 j
  have A30 : ∀ j, 0 ≤ τ6.2.1 30 j ∧ τ6.2.1 30 j ≤ 20000 := fun j => hT.2 30 j
  have A31 : ∀ j, 0 ≤ τ6.2.1 31 j ∧ τ6.2.1 31 j ≤ 20000 := fun j => hT.2 31 j
  have A32 : ∀ j, 0 ≤ τ6.2.1 32 j ∧ τ6.2.1 32 j ≤ 999999 := fun j => hT.2 32 j
  have A33 : ∀ j, 0 ≤ τ6.2.1 33 j ∧ τ6.2.1 33 j ≤ 20000 := fun j => hT.2 33 j
  have A34 : ∀ j, 0 ≤ τ6.2.1 34 j ∧ τ6.2.1 34 j ≤ 20000 := fun j => hT.2 34 j
  have A35 : ∀ j, 0 ≤ τ6.2.1 35 j ∧ τ6.2.1 35 j ≤ 1499 := fun j => hT.2 35 j
  have A36 : ∀ j, 0 ≤ τ6.2.1 36 j ∧ τ6.2.1 36 j ≤ 20000 := fun j => hT.2 36 j
  have A37 : ∀ j, 0 ≤ τ6.2.1 37 j ∧ τ6.2.1 37 j ≤ 19999 := fun j => hT.2 37 j
  have A40 : ∀ j, 0 ≤ τ6.2.1 40 j ∧ τ6.2.1 40 j ≤ 42000 := fun j => hT.2 40 j
  have A41 : ∀ j, (-2) ≤ τ6.2.1 41 j ∧ τ6.2.1 41 j ≤ 1000 := fun j => hT.2 41 j
  have A44 : ∀ j, 0 ≤ τ6.2.1 44 j ∧ τ6.2.1 44 j ≤ 42000 := fun j => hT.2 44 j
  have A45 : ∀ j, 0 ≤ τ6.2.1 45 j ∧ τ6.2.1 45 j ≤ 1000 := fun j => hT.2 45 j
  have v6 : 0 ≤ τ6.1 6 ∧ τ6.1 6 ≤ 30000 := hT.1 6
  have v7 : 0 ≤ τ6.1 7 ∧ τ6.1 7 ≤ 1500 := hT.1 7
  have v13 : 0 ≤ τ6.1 13 ∧ τ6.1 13 ≤ 90000 := hT.1 13
  have v14 : 0 ≤ τ6.1 14 ∧ τ6.1 14 ≤ 20000 := hT.1 14
  have v15 : 0 ≤ τ6.1 15 ∧ τ6.1 15 ≤ 20000 := hT.1 15
  have v17 : 0 ≤ τ6.1 17 ∧ τ6.1 17 ≤ 42000 := hT.1 17
  have v18 : 0 ≤ τ6.1 18 ∧ τ6.1 18 ≤ 42000 := hT.1 18
  refine ⟨fun c7 => ?_, fun c7 => ?_⟩
  ·
    exact ⟨hT, (show 0 ≤ 0 ∧ 0 ≤ 1 from by (first | omega | (simp only [st_s] <;> omega) | assumption | omega | fail)), (show J_bp (τ6.2.1 44) (τ6.2.1 45) from BP)⟩
  ·
    have db := J_dt_b (q4_3 c7) (r := x2 - 1) (by omega) (by omega)
    refine ⟨_, K_X6_isStatement hT (show 0 ≤ (x2 - 1) from by (first | omega | (simp only [st_s] <;> omega) | assumption | omega | fail)) (show (x2 - 1) < 20000 from by (first | omega | (simp only [st_s] <;> omega) | assumption | omega | fail)) (show τ6.2.1 40 (x2 - 1) + τ6.2.1 41 (x2 - 1) ≤ 42000 from by (first | omega | (simp only [st_s] <;> omega) | assumption | omega | fail)) (show 0 ≤ n1 from by (first | omega | (simp only [st_s] <;> omega) | assumption | omega | fail)) (show n1 < 1500 from by (first | omega | (simp only [st_s] <;> omega) | assumption | omega | fail)), ?_⟩
    intro x9 r_x9 hq
    have q8_1 := hq
    replace q8_1 : 0 ≤ x9 ∧ x9 ≤ 1 := q8_1
    refine ⟨fun c11 => ?_, fun c11 => ?_⟩
    ·
      refine ⟨_, K_X0_labelsOf hT (show 0 ≤ n1 from by (first | omega | (simp only [st_s] <;> omega) | assumption | omega | fail)) (show n1 < 1500 from by (first | omega | (simp only [st_s] <;> omega) | assumption | omega | fail)) (show 1 ≤ τ6.2.1 33 n1 + τ6.2.1 34 n1 from by (rw [G33, G34]; omega)) (show τ6.2.1 33 n1 + τ6.2.1 34 n1 ≤ 20000 from by (rw [G33, G34]; omega)), ?_⟩
      intro x13 hq
      refine ⟨fun c15 => ?_, fun c15 => ?_⟩
      ·
        refine h66 _ _ ?_
        refine ⟨_, K_X0_restsOnEarlier hT (show 0 ≤ n1 from by (first | omega | (simp only [st_s] <;> omega) | assumption | omega | fail)) (show n1 < 1500 from by (first | omega | (simp only [st_s] <;> omega) | assumption | omega | fail)), ?_⟩
        intro x21 r_x21 hq
        have q20_1 := hq
        replace q20_1 : 0 ≤ x21 ∧ x21 ≤ 1 := q20_1
        refine ⟨(show 0 ≤ x21 ∧ x21 ≤ 1 from by (first | omega | (simp only [st_s] <;> omega) | assumption | omega | fail)), ?_⟩
        exact ⟨hT, (show 0 ≤ x21 ∧ x21 ≤ 1 from by (first | omega | (simp only [st_s] <;> omega) | assumption | omega | fail)), (show J_bp (τ6.2.1 44) (τ6.2.1 45) from BP)⟩
      ·
        refine ⟨_, K_X4_comesBack hT (show 0 ≤ n1 from by (first | omega | (simp only [st_s] <;> omega) | assumption | omega | fail)) (show n1 < (τ6.1 7) from by (first | omega | (simp only [st_s] <;> omega) | assumption | omega | fail)) (show τ6.2.1 13 n1 = 3 from by (rw [G13]; exact p3)) (show J_all (τ6.1 7) (τ6.1 6) (τ6.1 13) (τ6.1 14) (τ6.1 15) (τ6.2.1 13) (τ6.2.1 14) (τ6.2.1 15) (τ6.2.1 16) (τ6.2.1 10) (τ6.2.1 27) (τ6.2.1 28) (τ6.2.1 29) (τ6.2.1 30) (τ6.2.1 31) (τ6.2.1 32) (τ6.2.1 33) (τ6.2.1 34) (τ6.2.1 35) (τ6.2.1 36) (τ6.2.1 37) from CJ), ?_⟩
        intro x17 τ18 r_x17 hn_τ18 hf_τ18 hq
        obtain ⟨hT, q16_1⟩ := hq
        replace q16_1 : 0 ≤ x17 ∧ x17 ≤ 1 := q16_1
        have w6_τ18 : τ18.1 6 = τ6.1 6 := hf_τ18.1 6 (by decide)
        have w7_τ18 : τ18.1 7 = τ6.1 7 := hf_τ18.1 7 (by decide)
        have w13_τ18 : τ18.1 13 = τ6.1 13 := hf_τ18.1 13 (by decide)
        have w14_τ18 : τ18.1 14 = τ6.1 14 := hf_τ18.1 14 (by decide)
        have w15_τ18 : τ18.1 15 = τ6.1 15 := hf_τ18.1 15 (by decide)
        have w17_τ18 : τ18.1 17 = τ6.1 17 := hf_τ18.1 17 (by decide)
        have w18_τ18 : τ18.1 18 = τ6.1 18 := hf_τ18.1 18 (by decide)
        have g10_τ18 : τ18.2.1 10 = τ6.2.1 10 := hf_τ18.2.1 10 (by decide)
        have g13_τ18 : τ18.2.1 13 = τ6.2.1 13 := hf_τ18.2.1 13 (by decide)
        have g14_τ18 : τ18.2.1 14 = τ6.2.1 14 := hf_τ18.2.1 14 (by decide)
        have g15_τ18 : τ18.2.1 15 = τ6.2.1 15 := hf_τ18.2.1 15 (by decide)
        have g16_τ18 : τ18.2.1 16 = τ6.2.1 16 := hf_τ18.2.1 16 (by decide)
        have g27_τ18 : τ18.2.1 27 = τ6.2.1 27 := hf_τ18.2.1 27 (by decide)
        have g28_τ18 : τ18.2.1 28 = τ6.2.1 28 := hf_τ18.2.1 28 (by decide)
        have g29_τ18 : τ18.2.1 29 = τ6.2.1 29 := hf_τ18.2.1 29 (by decide)
        have g30_τ18 : τ18.2.1 30 = τ6.2.1 30 := hf_τ18.2.1 30 (by decide)
        have g31_τ18 : τ18.2.1 31 = τ6.2.1 31 := hf_τ18.2.1 31 (by decide)
        have g32_τ18 : τ18.2.1 32 = τ6.2.1 32 := hf_τ18.2.1 32 (by decide)
        have g33_τ18 : τ18.2.1 33 = τ6.2.1 33 := hf_τ18.2.1 33 (by decide)
        have g34_τ18 : τ18.2.1 34 = τ6.2.1 34 := hf_τ18.2.1 34 (by decide)
        have g35_τ18 : τ18.2.1 35 = τ6.2.1 35 := hf_τ18.2.1 35 (by decide)
        have g36_τ18 : τ18.2.1 36 = τ6.2.1 36 := hf_τ18.2.1 36 (by decide)
        have g37_τ18 : τ18.2.1 37 = τ6.2.1 37 := hf_τ18.2.1 37 (by decide)
        have g40_τ18 : τ18.2.1 40 = τ6.2.1 40 := hf_τ18.2.1 40 (by decide)
        have g41_τ18 : τ18.2.1 41 = τ6.2.1 41 := hf_τ18.2.1 41 (by decide)
        have g44_τ18 : τ18.2.1 44 = τ6.2.1 44 := hf_τ18.2.1 44 (by decide)
        have g45_τ18 : τ18.2.1 45 = τ6.2.1 45 := hf_τ18.2.1 45 (by decide)
        have W6 : τ18.1 6 = σ.1 6 := by first | exact w6_τ18.trans W6 | omega
        have W7 : τ18.1 7 = σ.1 7 := by first | exact w7_τ18.trans W7 | omega
        have W13 : τ18.1 13 = σ.1 13 := by first | exact w13_τ18.trans W13 | omega
        have W14 : τ18.1 14 = σ.1 14 := by first | exact w14_τ18.trans W14 | omega
        have W15 : τ18.1 15 = σ.1 15 := by first | exact w15_τ18.trans W15 | omega
        have G10 : τ18.2.1 10 = σ.2.1 10 := (g10_τ18).trans G10
        have G13 : τ18.2.1 13 = σ.2.1 13 := (g13_τ18).trans G13
        have G14 : τ18.2.1 14 = σ.2.1 14 := (g14_τ18).trans G14
        have G15 : τ18.2.1 15 = σ.2.1 15 := (g15_τ18).trans G15
        have G16 : τ18.2.1 16 = σ.2.1 16 := (g16_τ18).trans G16
        have G27 : τ18.2.1 27 = σ.2.1 27 := (g27_τ18).trans G27
        have G28 : τ18.2.1 28 = σ.2.1 28 := (g28_τ18).trans G28
        have G29 : τ18.2.1 29 = σ.2.1 29 := (g29_τ18).trans G29
        have G30 : τ18.2.1 30 = σ.2.1 30 := (g30_τ18).trans G30
        have G31 : τ18.2.1 31 = σ.2.1 31 := (g31_τ18).trans G31
        have G32 : τ18.2.1 32 = σ.2.1 32 := (g32_τ18).trans G32
        have G33 : τ18.2.1 33 = σ.2.1 33 := (g33_τ18).trans G33
        have G34 : τ18.2.1 34 = σ.2.1 34 := (g34_τ18).trans G34
        have G35 : τ18.2.1 35 = σ.2.1 35 := (g35_τ18).trans G35
        have G36 : τ18.2.1 36 = σ.2.1 36 := (g36_τ18).trans G36
        have G37 : τ18.2.1 37 = σ.2.1 37 := (g37_τ18).trans G37
        have CJ : J_all (τ18.1 7) (τ18.1 6) (τ18.1 13) (τ18.1 14) (τ18.1 15) (τ18.2.1 13) (τ18.2.1 14) (τ18.2.1 15) (τ18.2.1 16) (τ18.2.1 10) (τ18.2.1 27) (τ18.2.1 28) (τ18.2.1 29) (τ18.2.1 30) (τ18.2.1 31) (τ18.2.1 32) (τ18.2.1 33) (τ18.2.1 34) (τ18.2.1 35) (τ18.2.1 36) (τ18.2.1 37) := by rw [show (J_all (τ18.1 7) (τ18.1 6) (τ18.1 13) (τ18.1 14) (τ18.1 15) (τ18.2.1 13) (τ18.2.1 14) (τ18.2.1 15) (τ18.2.1 16) (τ18.2.1 10) (τ18.2.1 27) (τ18.2.1 28) (τ18.2.1 29) (τ18.2.1 30) (τ18.2.1 31) (τ18.2.1 32) (τ18.2.1 33) (τ18.2.1 34) (τ18.2.1 35) (τ18.2.1 36) (τ18.2.1 37)) = (J_all (τ6.1 7) (τ6.1 6) (τ6.1 13) (τ6.1 14) (τ6.1 15) (τ6.2.1 13) (τ6.2.1 14) (τ6.2.1 15) (τ6.2.1 16) (τ6.2.1 10) (τ6.2.1 27) (τ6.2.1 28) (τ6.2.1 29) (τ6.2.1 30) (τ6.2.1 31) (τ6.2.1 32) (τ6.2.1 33) (τ6.2.1 34) (τ6.2.1 35) (τ6.2.1 36) (τ6.2.1 37)) from by rw [w6_τ18, w7_τ18, w13_τ18, w14_τ18, w15_τ18, g10_τ18, g13_τ18, g14_τ18, g15_τ18, g16_τ18, g27_τ18, g28_τ18, g29_τ18, g30_τ18, g31_τ18, g32_τ18, g33_τ18, g34_τ18, g35_τ18, g36_τ18, g37_τ18]]; exact CJ
        have BP : J_bp (τ18.2.1 44) (τ18.2.1 45) := by rw [show (J_bp (τ18.2.1 44) (τ18.2.1 45)) = (J_bp (τ6.2.1 44) (τ6.2.1 45)) from by rw [g44_τ18, g45_τ18]]; exact BP
        have A10 : ∀ j, (-1) ≤ τ18.2.1 10 j ∧ τ18.2.1 10 j ≤ 99 := fun j => hT.2 10 j
        have A13 : ∀ j, 0 ≤ τ18.2.1 13 j ∧ τ18.2.1 13 j ≤ 4 := fun j => hT.2 13 j
        have A14 : ∀ j, 0 ≤ τ18.2.1 14 j ∧ τ18.2.1 14 j ≤ 30000 := fun j => hT.2 14 j
        have A15 : ∀ j, 0 ≤ τ18.2.1 15 j ∧ τ18.2.1 15 j ≤ 999 := fun j => hT.2 15 j
        have A16 : ∀ j, (-1) ≤ τ18.2.1 16 j ∧ τ18.2.1 16 j ≤ 1499 := fun j => hT.2 16 j
        have A27 : ∀ j, 0 ≤ τ18.2.1 27 j ∧ τ18.2.1 27 j ≤ 90000 := fun j => hT.2 27 j
        have A28 : ∀ j, 0 ≤ τ18.2.1 28 j ∧ τ18.2.1 28 j ≤ 60 := fun j => hT.2 28 j
        have A29 : ∀ j, 0 ≤ τ18.2.1 29 j ∧ τ18.2.1 29 j ≤ 1499 := fun j => hT.2 29 j
        have A30 : ∀ j, 0 ≤ τ18.2.1 30 j ∧ τ18.2.1 30 j ≤ 20000 := fun j => hT.2 30 j
        have A31 : ∀ j, 0 ≤ τ18.2.1 31 j ∧ τ18.2.1 31 j ≤ 20000 := fun j => hT.2 31 j
        have A32 : ∀ j, 0 ≤ τ18.2.1 32 j ∧ τ18.2.1 32 j ≤ 999999 := fun j => hT.2 32 j
        have A33 : ∀ j, 0 ≤ τ18.2.1 33 j ∧ τ18.2.1 33 j ≤ 20000 := fun j => hT.2 33 j
        have A34 : ∀ j, 0 ≤ τ18.2.1 34 j ∧ τ18.2.1 34 j ≤ 20000 := fun j => hT.2 34 j
        have A35 : ∀ j, 0 ≤ τ18.2.1 35 j ∧ τ18.2.1 35 j ≤ 1499 := fun j => hT.2 35 j
        have A36 : ∀ j, 0 ≤ τ18.2.1 36 j ∧ τ18.2.1 36 j ≤ 20000 := fun j => hT.2 36 j
        have A37 : ∀ j, 0 ≤ τ18.2.1 37 j ∧ τ18.2.1 37 j ≤ 19999 := fun j => hT.2 37 j
        have A40 : ∀ j, 0 ≤ τ18.2.1 40 j ∧ τ18.2.1 40 j ≤ 42000 := fun j => hT.2 40 j
        have A41 : ∀ j, (-2) ≤ τ18.2.1 41 j ∧ τ18.2.1 41 j ≤ 1000 := fun j => hT.2 41 j
        have A44 : ∀ j, 0 ≤ τ18.2.1 44 j ∧ τ18.2.1 44 j ≤ 42000 := fun j => hT.2 44 j
        have A45 : ∀ j, 0 ≤ τ18.2.1 45 j ∧ τ18.2.1 45 j ≤ 1000 := fun j => hT.2 45 j
        have v6 : 0 ≤ τ18.1 6 ∧ τ18.1 6 ≤ 30000 := hT.1 6
        have v7 : 0 ≤ τ18.1 7 ∧ τ18.1 7 ≤ 1500 := hT.1 7
        have v13 : 0 ≤ τ18.1 13 ∧ τ18.1 13 ≤ 90000 := hT.1 13
        have v14 : 0 ≤ τ18.1 14 ∧ τ18.1 14 ≤ 20000 := hT.1 14
        have v15 : 0 ≤ τ18.1 15 ∧ τ18.1 15 ≤ 20000 := hT.1 15
        have v17 : 0 ≤ τ18.1 17 ∧ τ18.1 17 ≤ 42000 := hT.1 17
        have v18 : 0 ≤ τ18.1 18 ∧ τ18.1 18 ≤ 42000 := hT.1 18
        refine ⟨fun c19 => ?_, fun c19 => ?_⟩
        ·
          refine h66 _ _ ?_
          refine ⟨_, K_X0_restsOnEarlier hT (show 0 ≤ n1 from by (first | omega | (simp only [st_s] <;> omega) | assumption | omega | fail)) (show n1 < 1500 from by (first | omega | (simp only [st_s] <;> omega) | assumption | omega | fail)), ?_⟩
          intro x21 r_x21 hq
          have q20_1 := hq
          replace q20_1 : 0 ≤ x21 ∧ x21 ≤ 1 := q20_1
          refine ⟨(show 0 ≤ x21 ∧ x21 ≤ 1 from by (first | omega | (simp only [st_s] <;> omega) | assumption | omega | fail)), ?_⟩
          exact ⟨hT, (show 0 ≤ x21 ∧ x21 ≤ 1 from by (first | omega | (simp only [st_s] <;> omega) | assumption | omega | fail)), (show J_bp (τ18.2.1 44) (τ18.2.1 45) from BP)⟩
        ·
          exact ⟨hT, (show 0 ≤ 0 ∧ 0 ≤ 1 from by (first | omega | (simp only [st_s] <;> omega) | assumption | omega | fail)), (show J_bp (τ18.2.1 44) (τ18.2.1 45) from BP)⟩
    ·
      exact ⟨hT, (show 0 ≤ 0 ∧ 0 ≤ 1 from by (first | omega | (simp only [st_s] <;> omega) | assumption | omega | fail)), (show J_bp (τ6.2.1 44) (τ6.2.1 45) from BP)⟩
