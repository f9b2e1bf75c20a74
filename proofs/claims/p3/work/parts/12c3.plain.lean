-- pure: proofs that are printed plain
def n_g (ro cn : Int → Int) : Int → Int := fun j => 62 ^ (ro j).toNat * (61 - cn j)
def n_W (m : Int) (ro cn : Int → Int) : Int := sm (n_g ro cn) m
theorem n_62 (k : Nat) : (1 : Int) ≤ 62 ^ k := by
  induction k with
  | zero => decide
  | succ k ih => rw [Int.pow_succ]; omega
theorem n_62l {x r : Int} (x0 : 0 ≤ x) (xr : x < r) : (62 : Int) ^ x.toNat * 61 < 62 ^ r.toNat := by
  obtain ⟨d, hd⟩ : ∃ d : Nat, r.toNat = x.toNat + 1 + d := ⟨r.toNat - (x.toNat + 1), by omega⟩
  have p := n_62 x.toNat
  have q := n_62 d
  have a : (62 : Int) ^ (x.toNat + 1) = 62 ^ x.toNat * 62 := Int.pow_succ _ _
  have e : ∀ d : Nat, (62 : Int) ^ (x.toNat + 1) ≤ 62 ^ (x.toNat + 1 + d) := fun d => by
    induction d with
    | zero => exact Int.le_refl _
    | succ d ih => rw [show x.toNat + 1 + (d + 1) = (x.toNat + 1 + d) + 1 from rfl, Int.pow_succ]; have := n_62 (x.toNat + 1 + d); omega
  have b := e d
  rw [hd]; omega
/-- rows that stand one in the other fall -/
def n_sk (m R : Int) (w ro cn : Int → Int) : Prop := ∀ j : Int, 0 ≤ j → j < m → (0 ≤ ro j ∧ ro j + j < R) ∧ 0 ≤ cn j ∧ cn j ≤ w (ro j) ∧ w (ro j) ≤ 60
theorem n_W_0 {m R : Int} {w ro cn : Int → Int} (h : n_sk m R w ro cn) (m0 : 0 ≤ m) : 0 ≤ n_W m ro cn := by
  have q := sm_m (g := n_g ro cn) (n := 0) (m := m) (fun e e0 e1 => by
    have a := h e e0 e1
    exact Int.mul_nonneg (by have := n_62 (ro e).toNat; omega) (by omega)) (Int.le_refl _) m0
  rw [sm_0] at q; exact q
theorem n_W_p {m c x : Int} {ro cn : Int → Int} (m1 : 1 ≤ m) (ec : c = cn (m - 1)) (x0 : 0 ≤ x) (xr : x < ro (m - 1)) : n_W (m + 1) (st ro m x) (st (st cn (m - 1) (c + 1)) m 0) < n_W m ro cn := by
  have s1 := sm_s (n_g (st ro m x) (st (st cn (m - 1) (c + 1)) m 0)) (n := m) (by omega)
  have s2 := sm_s (n_g (st ro m x) (st (st cn (m - 1) (c + 1)) m 0)) (n := m - 1) (by omega)
  have s3 := sm_s (n_g ro cn) (n := m - 1) (by omega)
  rw [show m - 1 + 1 = m by omega] at s2 s3
  have e : sm (n_g (st ro m x) (st (st cn (m - 1) (c + 1)) m 0)) (m - 1) = sm (n_g ro cn) (m - 1) := sm_x (fun j j0 j1 => by
    show 62 ^ (st ro m x j).toNat * (61 - st (st cn (m - 1) (c + 1)) m 0 j) = 62 ^ (ro j).toNat * (61 - cn j)
    rw [st_n _ _ (by omega), st_n _ _ (by omega), st_n _ _ (by omega)])
  have g1 : n_g (st ro m x) (st (st cn (m - 1) (c + 1)) m 0) m = 62 ^ x.toNat * 61 := by
    show 62 ^ (st ro m x m).toNat * (61 - st (st cn (m - 1) (c + 1)) m 0 m) = _
    rw [st_s, st_s]; rfl
  have g2 : n_g (st ro m x) (st (st cn (m - 1) (c + 1)) m 0) (m - 1) = 62 ^ (ro (m - 1)).toNat * (61 - c) - 62 ^ (ro (m - 1)).toNat := by
    show 62 ^ (st ro m x (m - 1)).toNat * (61 - st (st cn (m - 1) (c + 1)) m 0 (m - 1)) = _
    rw [st_n _ _ (by omega), st_n _ _ (by omega), st_s, show 61 - (c + 1) = (61 - c) - 1 by omega, Int.mul_sub, Int.mul_one]
  have g3 : n_g ro cn (m - 1) = 62 ^ (ro (m - 1)).toNat * (61 - c) := by rw [ec]; rfl
  have l := n_62l x0 xr
  unfold n_W
  rw [s1, s2, s3, e, g1, g2, g3]
  omega
theorem n_W_q {m R : Int} {w ro cn : Int → Int} (h : n_sk m R w ro cn) (m1 : 1 ≤ m) : n_W (m - 1) ro cn < n_W m ro cn := by
  have s3 := sm_s (n_g ro cn) (n := m - 1) (by omega)
  rw [show m - 1 + 1 = m by omega] at s3
  have a := h (m - 1) (by omega) (by omega)
  have p := n_62 (ro (m - 1)).toNat
  have g : 1 ≤ n_g ro cn (m - 1) := by
    show 1 ≤ 62 ^ (ro (m - 1)).toNat * (61 - cn (m - 1))
    have q := Int.mul_le_mul p (show (1 : Int) ≤ 61 - cn (m - 1) by omega) (by omega) (by omega)
    omega
  unfold n_W
  rw [s3]; omega
theorem n_sk_p {m R c x : Int} {w ro cn : Int → Int} (h : n_sk m R w ro cn) (m1 : 1 ≤ m) (c0 : 0 ≤ c) (c1 : c + 1 ≤ w (ro (m - 1))) (x0 : 0 ≤ x) (xr : x < ro (m - 1)) (wx : 0 ≤ w x ∧ w x ≤ 60) : n_sk (m + 1) R w (st ro m x) (st (st cn (m - 1) (c + 1)) m 0) := fun j j0 j1 => by
  have t := h (m - 1) (by omega) (by omega)
  rcases (by omega : j < m - 1 ∨ j = m - 1 ∨ j = m) with q | q | q
  · rw [st_n _ _ (by omega), st_n _ _ (by omega), st_n _ _ (by omega)]; exact h j j0 (by omega)
  · rw [q, st_n _ _ (by omega), st_n _ _ (by omega), st_s]; exact ⟨t.1, by omega, c1, t.2.2.2⟩
  · rw [q, st_s, st_s]; exact ⟨⟨x0, by omega⟩, Int.le_refl _, wx.1, wx.2⟩
theorem n_sk_q {m R : Int} {w ro cn : Int → Int} (h : n_sk m R w ro cn) : n_sk (m - 1) R w ro cn := fun j j0 j1 => h j j0 (by omega)
theorem n_sk_0 {R x : Int} {w ro cn : Int → Int} (x0 : 0 ≤ x) (x1 : x < R) (wx : 0 ≤ w x ∧ w x ≤ 60) : n_sk (0 + 1) R w (st ro 0 x) (st cn 0 0) := fun j j0 j1 => by
  rw [show j = 0 by omega, st_s, st_s]; exact ⟨⟨x0, by omega⟩, Int.le_refl _, wx.1, wx.2⟩
theorem n_wd_b {kd hs : Int → Int} (h : ∀ j : Int, 0 ≤ hs j ∧ hs j ≤ 60) (r : Int) : 0 ≤ n_wd kd hs r ∧ n_wd kd hs r ≤ 60 := by
  unfold n_wd
  by_cases z : 2 ≤ kd r
  · rw [if_pos z]; exact h r
  · rw [if_neg z]; omega
set_option maxHeartbeats 1000000 in
theorem K_X13_enter {n1 : Int} {σ : S0} (hT : m_T σ) (p1 : (σ.1 42) < 40000) (p2 : 0 ≤ n1 ∧ n1 ≤ 60000) : W_X13_enter n1 σ (fun (τ : S0) => (m_T τ) ∧ ((τ.1 42) = (σ.1 42) + 1) ∧ (τ.2.1 65 = st (σ.2.1 65) (σ.1 42) n1) ∧ (τ.2.1 66 = st (σ.2.1 66) (σ.1 42) 0)) := by
  have A65 : ∀ j, 0 ≤ σ.2.1 65 j ∧ σ.2.1 65 j ≤ 60000 := fun j => hT.2 65 j
  have A66 : ∀ j, 0 ≤ σ.2.1 66 j ∧ σ.2.1 66 j ≤ 60 := fun j => hT.2 66 j
  have v42 : 0 ≤ σ.1 42 ∧ σ.1 42 ≤ 40000 := hT.1 42
  unfold W_X13_enter
  refine ⟨(show 0 ≤ σ.1 42 ∧ σ.1 42 < 40002 from by (first | omega | (simp only [st_s] <;> omega) | assumption | omega | fail)), ?_⟩
  replace hT := mT_a (k := 65) (j := (σ.1 42)) hT (show (0 : Int) ≤ n1 ∧ n1 ≤ 60000 from by (first | omega | (simp only [st_s] <;> omega) | assumption | omega | fail))
  replace hT := mT_a (k := 66) (j := (σ.1 42)) hT (show (0 : Int) ≤ 0 ∧ 0 ≤ 60 from by (first | omega | (simp only [st_s] <;> omega) | assumption | omega | fail))
  refine ⟨(⟨by (first | omega | (simp only [st_s] <;> omega) | assumption | omega | fail), by (first | omega | (simp only [st_s] <;> omega) | assumption | omega | fail)⟩ : rg (σ.1 42 + 1)), ?_⟩
  replace hT := mT_v (i := 42) hT (show 0 ≤ (σ.1 42 + 1) ∧ (σ.1 42 + 1) ≤ 40000 from by (first | omega | (simp only [st_s] <;> omega) | assumption | omega | fail))
  exact ⟨hT, (show ((σ.1 42 + 1)) = (σ.1 42) + 1 from by (first | omega | (simp only [st_s] <;> omega) | assumption | omega | fail)), (show (st (σ.2.1 65) (σ.1 42) n1) = st (σ.2.1 65) (σ.1 42) n1 from by (first | omega | (simp only [st_s] <;> omega) | assumption | omega | fail)), (show (st (σ.2.1 66) (σ.1 42) 0) = st (σ.2.1 66) (σ.1 42) 0 from by (first | omega | (simp only [st_s] <;> omega) | assumption | omega | fail))⟩
set_option maxHeartbeats 1000000 in
theorem K_X13_putNumber {n1 : Int} {σ : S0} (hT : m_T σ) (p1 : 0 ≤ n1) (p2 : n1 ≤ 1000000) : W_X13_putNumber n1 σ (fun (τ : S0) => (m_T τ)) := by
  intro P15 P40 P51 h15 h40 h51
  have l_40 : ∀ (m_40 : Nat) (u2_40 : Int) (u3_40 : Int) (u5_40 : Int) (τ_40 : S0), u5_40 + 1 < (m_40 : Int) → (m_T τ_40) → (0 ≤ u2_40) → (u2_40 ≤ 1000000) → (u3_40 = 1) → (-1 ≤ u5_40) → (u5_40 ≤ 1000000) → P40 n1 u2_40 u3_40 u5_40 τ_40 := by
    intro m_40
    induction m_40 with
    | zero =>
      intro u2_40 u3_40 u5_40 τ_40 hm hT i40_1 i40_2 i40_3 i40_4 i40_5
      exfalso; (first | omega | (simp only [st_s] <;> omega) | assumption | omega | fail)
    | succ m_40 ih_40 =>
      intro u2_40 u3_40 u5_40 τ_40 hm_40 hT i40_1 i40_2 i40_3 i40_4 i40_5
      have l_51 : ∀ (m_51 : Nat) (u2_51 : Int) (u3_51 : Int) (u5_51 : Int) (u6_51 : Int) (u7_51 : Int) (τ_51 : S0), u5_51 - u7_51 < (m_51 : Int) → (m_T τ_51) → (0 ≤ u2_51) → (u2_51 ≤ 1000000) → (u3_51 = 1) → (0 ≤ u5_51) → (u5_51 ≤ 1000000) → (0 ≤ u6_51) → (u6_51 ≤ 1000000) → (0 ≤ u7_51) → (u7_51 ≤ u5_51) → (u5_51 + 1 ≤ (m_40 : Int)) → P51 n1 u2_51 u3_51 u5_51 u6_51 u7_51 τ_51 := by
        intro m_51
        induction m_51 with
        | zero =>
          intro u2_51 u3_51 u5_51 u6_51 u7_51 τ_51 hm hT i51_1 i51_2 i51_3 i51_4 i51_5 i51_6 i51_7 i51_8 i51_9 i51_10
          exfalso; (first | omega | (simp only [st_s] <;> omega) | assumption | omega | fail)
        | succ m_51 ih_51 =>
          intro u2_51 u3_51 u5_51 u6_51 u7_51 τ_51 hm_51 hT i51_1 i51_2 i51_3 i51_4 i51_5 i51_6 i51_7 i51_8 i51_9 i51_10
          refine h51 n1 u2_51 u3_51 u5_51 u6_51 u7_51 τ_51 ?_
          refine ⟨fun c15 => ?_, fun c15 => ?_⟩
          ·
            refine ⟨(⟨by (first | omega | (simp only [st_s] <;> omega) | assumption | omega | fail), by (first | omega | (simp only [st_s] <;> omega) | assumption | omega | fail)⟩ : rg (u6_51 - 1)), ?_⟩
            intro x17 r_x17 h1_x17 h2_x17
            refine ⟨(⟨by (first | omega | (simp only [st_s] <;> omega) | assumption | omega | fail), by (first | omega | (simp only [st_s] <;> omega) | assumption | omega | fail)⟩ : rg (85 + x17)), ?_⟩
            refine ⟨_, K_X13_put hT (show 0 ≤ (85 + x17) from by (first | omega | (simp only [st_s] <;> omega) | assumption | omega | fail)) (show (85 + x17) ≤ 255 from by (first | omega | (simp only [st_s] <;> omega) | assumption | omega | fail)), ?_⟩
            intro τ21 hn_τ21 hf_τ21 hq
            replace hT := hq
            refine ⟨(⟨by (first | omega | (simp only [st_s] <;> omega) | assumption | omega | fail), by (first | omega | (simp only [st_s] <;> omega) | assumption | omega | fail)⟩ : rg (u5_51 + (-1))), ?_⟩
            exact ih_40 _ _ _ _ (show ((u5_51 + (-1)) + 1 : Int) < ((m_40 : Nat) : Int) from by ((first | omega | (simp only [st_s] <;> omega) | assumption | omega | fail))) hT (show 0 ≤ u2_51 from by (first | omega | (simp only [st_s] <;> omega) | assumption | omega | fail)) (show u2_51 ≤ 1000000 from by (first | omega | (simp only [st_s] <;> omega) | assumption | omega | fail)) (show u3_51 = 1 from by (first | omega | (simp only [st_s] <;> omega) | assumption | omega | fail)) (show -1 ≤ (u5_51 + (-1)) from by (first | omega | (simp only [st_s] <;> omega) | assumption | omega | fail)) (show (u5_51 + (-1)) ≤ 1000000 from by (first | omega | (simp only [st_s] <;> omega) | assumption | omega | fail))
          ·
            refine ⟨(⟨by (first | omega | (simp only [st_s] <;> omega) | assumption | omega | fail), by (first | omega | (simp only [st_s] <;> omega) | assumption | omega | fail)⟩ : rg (u6_51 - 1)), ?_⟩
            intro x24 r_x24 h1_x24 h2_x24
            refine ⟨(⟨by (first | omega | (simp only [st_s] <;> omega) | assumption | omega | fail), by (first | omega | (simp only [st_s] <;> omega) | assumption | omega | fail)⟩ : rg (u7_51 + 1)), ?_⟩
            exact ih_51 _ _ _ _ _ _ (show (u5_51 - (u7_51 + 1) : Int) < ((m_51 : Nat) : Int) from by ((first | omega | (simp only [st_s] <;> omega) | assumption | omega | fail))) hT (show 0 ≤ u2_51 from by (first | omega | (simp only [st_s] <;> omega) | assumption | omega | fail)) (show u2_51 ≤ 1000000 from by (first | omega | (simp only [st_s] <;> omega) | assumption | omega | fail)) (show u3_51 = 1 from by (first | omega | (simp only [st_s] <;> omega) | assumption | omega | fail)) (show 0 ≤ u5_51 from by (first | omega | (simp only [st_s] <;> omega) | assumption | omega | fail)) (show u5_51 ≤ 1000000 from by (first | omega | (simp only [st_s] <;> omega) | assumption | omega | fail)) (show 0 ≤ x24 from by (first | omega | (simp only [st_s] <;> omega) | assumption | omega | fail)) (show x24 ≤ 1000000 from by (first | omega | (simp only [st_s] <;> omega) | assumption | omega | fail)) (show 0 ≤ (u7_51 + 1) from by (first | omega | (simp only [st_s] <;> omega) | assumption | omega | fail)) (show (u7_51 + 1) ≤ u5_51 from by (first | omega | (simp only [st_s] <;> omega) | assumption | omega | fail)) (show u5_51 + 1 ≤ (m_40 : Int) from by (first | omega | (simp only [st_s] <;> omega) | assumption | omega | fail))
      refine h40 n1 u2_40 u3_40 u5_40 τ_40 ?_
      refine ⟨fun c8 => ?_, fun c8 => ?_⟩
      ·
        refine ⟨(⟨by (first | omega | (simp only [st_s] <;> omega) | assumption | omega | fail), by (first | omega | (simp only [st_s] <;> omega) | assumption | omega | fail)⟩ : rg (n1 - 1)), ?_⟩
        intro x10 r_x10 h1_x10 h2_x10
        refine ⟨(⟨by (first | omega | (simp only [st_s] <;> omega) | assumption | omega | fail), by (first | omega | (simp only [st_s] <;> omega) | assumption | omega | fail)⟩ : rg ((64 + u3_40) + x10)), ?_⟩
        refine ⟨_, K_X13_put hT (show 0 ≤ ((64 + u3_40) + x10) from by (first | omega | (simp only [st_s] <;> omega) | assumption | omega | fail)) (show ((64 + u3_40) + x10) ≤ 255 from by (first | omega | (simp only [st_s] <;> omega) | assumption | omega | fail)), ?_⟩
        intro τ14 hn_τ14 hf_τ14 hq
        replace hT := hq
        exact hT
      ·
        exact l_51 ((u5_40 - 0 : Int).toNat + 1) _ _ _ _ _ _ (show (u5_40 - 0 : Int) < (((u5_40 - 0 : Int).toNat + 1 : Nat) : Int) from by ((first | omega | (simp only [st_s] <;> omega) | assumption | omega | fail))) hT (show 0 ≤ u2_40 from by (first | omega | (simp only [st_s] <;> omega) | assumption | omega | fail)) (show u2_40 ≤ 1000000 from by (first | omega | (simp only [st_s] <;> omega) | assumption | omega | fail)) (show u3_40 = 1 from by (first | omega | (simp only [st_s] <;> omega) | assumption | omega | fail)) (show 0 ≤ u5_40 from by (first | omega | (simp only [st_s] <;> omega) | assumption | omega | fail)) (show u5_40 ≤ 1000000 from by (first | omega | (simp only [st_s] <;> omega) | assumption | omega | fail)) (show 0 ≤ u2_40 from by (first | omega | (simp only [st_s] <;> omega) | assumption | omega | fail)) (show u2_40 ≤ 1000000 from by (first | omega | (simp only [st_s] <;> omega) | assumption | omega | fail)) (show 0 ≤ 0 from by (first | omega | (simp only [st_s] <;> omega) | assumption | omega | fail)) (show 0 ≤ u5_40 from by (first | omega | (simp only [st_s] <;> omega) | assumption | omega | fail)) (show u5_40 + 1 ≤ (m_40 : Int) from by (first | omega | (simp only [st_s] <;> omega) | assumption | omega | fail))
  have l_15 : ∀ (m_15 : Nat) (u2_15 : Int) (u3_15 : Int) (u4_15 : Int) (u5_15 : Int) (τ_15 : S0), u5_15 < (m_15 : Int) → (m_T τ_15) → (0 ≤ u2_15) → (u2_15 ≤ 1000000) → (u3_15 = 1) → (0 ≤ u4_15) → (u4_15 + u5_15 ≤ 1000000) → (0 ≤ u5_15) → P15 n1 u2_15 u3_15 u4_15 u5_15 τ_15 := by
    intro m_15
    induction m_15 with
    | zero =>
      intro u2_15 u3_15 u4_15 u5_15 τ_15 hm hT i15_1 i15_2 i15_3 i15_4 i15_5 i15_6
      exfalso; (first | omega | (simp only [st_s] <;> omega) | assumption | omega | fail)
    | succ m_15 ih_15 =>
      intro u2_15 u3_15 u4_15 u5_15 τ_15 hm_15 hT i15_1 i15_2 i15_3 i15_4 i15_5 i15_6
      refine h15 n1 u2_15 u3_15 u4_15 u5_15 τ_15 ?_
      refine ⟨fun c3 => ?_, fun c3 => ?_⟩
      ·
        refine ⟨(⟨by (first | omega | (simp only [st_s] <;> omega) | assumption | omega | fail), by (first | omega | (simp only [st_s] <;> omega) | assumption | omega | fail)⟩ : rg (u4_15 - 1)), ?_⟩
        exact l_40 (((u4_15 - 1) + 1 : Int).toNat + 1) _ _ _ _ (show ((u4_15 - 1) + 1 : Int) < ((((u4_15 - 1) + 1 : Int).toNat + 1 : Nat) : Int) from by ((first | omega | (simp only [st_s] <;> omega) | assumption | omega | fail))) hT (show 0 ≤ u2_15 from by (first | omega | (simp only [st_s] <;> omega) | assumption | omega | fail)) (show u2_15 ≤ 1000000 from by (first | omega | (simp only [st_s] <;> omega) | assumption | omega | fail)) (show u3_15 = 1 from by (first | omega | (simp only [st_s] <;> omega) | assumption | omega | fail)) (show -1 ≤ (u4_15 - 1) from by (first | omega | (simp only [st_s] <;> omega) | assumption | omega | fail)) (show (u4_15 - 1) ≤ 1000000 from by (first | omega | (simp only [st_s] <;> omega) | assumption | omega | fail))
      ·
        refine ⟨(⟨by (first | omega | (simp only [st_s] <;> omega) | assumption | omega | fail), by (first | omega | (simp only [st_s] <;> omega) | assumption | omega | fail)⟩ : rg (u5_15 - 1)), ?_⟩
        intro x6 r_x6 h1_x6 h2_x6
        refine ⟨(⟨by (first | omega | (simp only [st_s] <;> omega) | assumption | omega | fail), by (first | omega | (simp only [st_s] <;> omega) | assumption | omega | fail)⟩ : rg (u4_15 + 1)), ?_⟩
        exact ih_15 _ _ _ _ _ (show (x6 : Int) < ((m_15 : Nat) : Int) from by ((first | omega | (simp only [st_s] <;> omega) | assumption | omega | fail))) hT (show 0 ≤ u2_15 from by (first | omega | (simp only [st_s] <;> omega) | assumption | omega | fail)) (show u2_15 ≤ 1000000 from by (first | omega | (simp only [st_s] <;> omega) | assumption | omega | fail)) (show u3_15 = 1 from by (first | omega | (simp only [st_s] <;> omega) | assumption | omega | fail)) (show 0 ≤ (u4_15 + 1) from by (first | omega | (simp only [st_s] <;> omega) | assumption | omega | fail)) (show (u4_15 + 1) + x6 ≤ 1000000 from by (first | omega | (simp only [st_s] <;> omega) | assumption | omega | fail)) (show 0 ≤ x6 from by (first | omega | (simp only [st_s] <;> omega) | assumption | omega | fail))
  refine ⟨(⟨by (first | omega | (simp only [st_s] <;> omega) | assumption | omega | fail), by (first | omega | (simp only [st_s] <;> omega) | assumption | omega | fail)⟩ : rg (n1 - 1)), ?_⟩
  intro x2 r_x2 h1_x2 h2_x2
  exact l_15 ((x2 : Int).toNat + 1) _ _ _ _ _ (show (x2 : Int) < (((x2 : Int).toNat + 1 : Nat) : Int) from by ((first | omega | (simp only [st_s] <;> omega) | assumption | omega | fail))) hT (show 0 ≤ x2 from by (first | omega | (simp only [st_s] <;> omega) | assumption | omega | fail)) (show x2 ≤ 1000000 from by (first | omega | (simp only [st_s] <;> omega) | assumption | omega | fail)) (show 1 = 1 from by (first | omega | (simp only [st_s] <;> omega) | assumption | omega | fail)) (show 0 ≤ 0 from by (first | omega | (simp only [st_s] <;> omega) | assumption | omega | fail)) (show 0 + x2 ≤ 1000000 from by (first | omega | (simp only [st_s] <;> omega) | assumption | omega | fail)) (show 0 ≤ x2 from by (first | omega | (simp only [st_s] <;> omega) | assumption | omega | fail))
set_option maxHeartbeats 6000000 in
theorem K3_X13_printPlain {n1 : Int} {σ : S0} (hT : m_T σ) (p1 : 0 ≤ n1) (p2 : n1 < σ.1 5) (p3 : σ.2.1 13 n1 = 3) (p4 : n_J σ) (p5 : m_J σ) (p6 : n_Y σ) : W_X13_printPlain n1 σ (fun (x : Int) (τ : S0) => (m_T τ) ∧ (n_Y τ)) := by
  have A13 : ∀ j, 0 ≤ σ.2.1 13 j ∧ σ.2.1 13 j ≤ 4 := fun j => hT.2 13 j
  have A19 : ∀ j, 0 ≤ σ.2.1 19 j ∧ σ.2.1 19 j ≤ 60 := fun j => hT.2 19 j
  have A25 : ∀ j, 0 ≤ σ.2.1 25 j ∧ σ.2.1 25 j ≤ 20000 := fun j => hT.2 25 j
  have A26 : ∀ j, 0 ≤ σ.2.1 26 j ∧ σ.2.1 26 j ≤ 20000 := fun j => hT.2 26 j
  have A27 : ∀ j, (-300) ≤ σ.2.1 27 j ∧ σ.2.1 27 j ≤ 1499 := fun j => hT.2 27 j
  have A56 : ∀ j, 0 ≤ σ.2.1 56 j ∧ σ.2.1 56 j ≤ 1499 := fun j => hT.2 56 j
  have A57 : ∀ j, 0 ≤ σ.2.1 57 j ∧ σ.2.1 57 j ≤ 120000 := fun j => hT.2 57 j
  have A58 : ∀ j, 0 ≤ σ.2.1 58 j ∧ σ.2.1 58 j ≤ 20000 := fun j => hT.2 58 j
  have A65 : ∀ j, 0 ≤ σ.2.1 65 j ∧ σ.2.1 65 j ≤ 60000 := fun j => hT.2 65 j
  have A66 : ∀ j, 0 ≤ σ.2.1 66 j ∧ σ.2.1 66 j ≤ 60 := fun j => hT.2 66 j
  have v5 : 0 ≤ σ.1 5 ∧ σ.1 5 ≤ 1500 := hT.1 5
  have v36 : 0 ≤ σ.1 36 ∧ σ.1 36 ≤ 20000 := hT.1 36
  have v38 : 0 ≤ σ.1 38 ∧ σ.1 38 ≤ 1500 := hT.1 38
  have v42 : 0 ≤ σ.1 42 ∧ σ.1 42 ≤ 40000 := hT.1 42
  have W5 : σ.1 5 = σ.1 5 := rfl
  have G13 : σ.2.1 13 = σ.2.1 13 := rfl
  have G19 : σ.2.1 19 = σ.2.1 19 := rfl
  have G25 : σ.2.1 25 = σ.2.1 25 := rfl
  have G26 : σ.2.1 26 = σ.2.1 26 := rfl
  have G27 : σ.2.1 27 = σ.2.1 27 := rfl
  intro P41 h41
  have s19 := A19
  have l_41 : ∀ (m_41 : Nat) (τ_41 : S0), n_W (τ_41.1 42) (τ_41.2.1 65) (τ_41.2.1 66) < (m_41 : Int) → (m_T τ_41) → (τ_41.1 5 = σ.1 5) → (τ_41.2.1 13 = σ.2.1 13) → (τ_41.2.1 19 = σ.2.1 19) → (τ_41.2.1 25 = σ.2.1 25) → (τ_41.2.1 26 = σ.2.1 26) → (τ_41.2.1 27 = σ.2.1 27) → ((τ_41.1 38) = n1 + 1) → (n_Y τ_41) → (n_sk (τ_41.1 42) (τ_41.1 36) (fun r => n_wd (τ_41.2.1 13) (τ_41.2.1 19) (τ_41.2.1 56 r)) (τ_41.2.1 65) (τ_41.2.1 66)) → ((τ_41.1 42) ≤ 20001) → P41 τ_41 := by
    intro m_41
    induction m_41 with
    | zero =>
      intro τ_41 hm hT W5 G13 G19 G25 G26 G27 i41_1 i41_2 i41_3 i41_4
      have A13 : ∀ j, 0 ≤ τ_41.2.1 13 j ∧ τ_41.2.1 13 j ≤ 4 := fun j => hT.2 13 j
      have A19 : ∀ j, 0 ≤ τ_41.2.1 19 j ∧ τ_41.2.1 19 j ≤ 60 := fun j => hT.2 19 j
      have A25 : ∀ j, 0 ≤ τ_41.2.1 25 j ∧ τ_41.2.1 25 j ≤ 20000 := fun j => hT.2 25 j
      have A26 : ∀ j, 0 ≤ τ_41.2.1 26 j ∧ τ_41.2.1 26 j ≤ 20000 := fun j => hT.2 26 j
      have A27 : ∀ j, (-300) ≤ τ_41.2.1 27 j ∧ τ_41.2.1 27 j ≤ 1499 := fun j => hT.2 27 j
      have A56 : ∀ j, 0 ≤ τ_41.2.1 56 j ∧ τ_41.2.1 56 j ≤ 1499 := fun j => hT.2 56 j
      have A57 : ∀ j, 0 ≤ τ_41.2.1 57 j ∧ τ_41.2.1 57 j ≤ 120000 := fun j => hT.2 57 j
      have A58 : ∀ j, 0 ≤ τ_41.2.1 58 j ∧ τ_41.2.1 58 j ≤ 20000 := fun j => hT.2 58 j
      have A65 : ∀ j, 0 ≤ τ_41.2.1 65 j ∧ τ_41.2.1 65 j ≤ 60000 := fun j => hT.2 65 j
      have A66 : ∀ j, 0 ≤ τ_41.2.1 66 j ∧ τ_41.2.1 66 j ≤ 60 := fun j => hT.2 66 j
      have v5 : 0 ≤ τ_41.1 5 ∧ τ_41.1 5 ≤ 1500 := hT.1 5
      have v36 : 0 ≤ τ_41.1 36 ∧ τ_41.1 36 ≤ 20000 := hT.1 36
      have v38 : 0 ≤ τ_41.1 38 ∧ τ_41.1 38 ≤ 1500 := hT.1 38
      have v42 : 0 ≤ τ_41.1 42 ∧ τ_41.1 42 ≤ 40000 := hT.1 42
      exfalso; (have w := n_W_0 i41_3 (by omega); omega)
    | succ m_41 ih_41 =>
      intro τ_41 hm_41 hT W5 G13 G19 G25 G26 G27 i41_1 i41_2 i41_3 i41_4
      have A13 : ∀ j, 0 ≤ τ_41.2.1 13 j ∧ τ_41.2.1 13 j ≤ 4 := fun j => hT.2 13 j
      have A19 : ∀ j, 0 ≤ τ_41.2.1 19 j ∧ τ_41.2.1 19 j ≤ 60 := fun j => hT.2 19 j
      have A25 : ∀ j, 0 ≤ τ_41.2.1 25 j ∧ τ_41.2.1 25 j ≤ 20000 := fun j => hT.2 25 j
      have A26 : ∀ j, 0 ≤ τ_41.2.1 26 j ∧ τ_41.2.1 26 j ≤ 20000 := fun j => hT.2 26 j
      have A27 : ∀ j, (-300) ≤ τ_41.2.1 27 j ∧ τ_41.2.1 27 j ≤ 1499 := fun j => hT.2 27 j
      have A56 : ∀ j, 0 ≤ τ_41.2.1 56 j ∧ τ_41.2.1 56 j ≤ 1499 := fun j => hT.2 56 j
      have A57 : ∀ j, 0 ≤ τ_41.2.1 57 j ∧ τ_41.2.1 57 j ≤ 120000 := fun j => hT.2 57 j
      have A58 : ∀ j, 0 ≤ τ_41.2.1 58 j ∧ τ_41.2.1 58 j ≤ 20000 := fun j => hT.2 58 j
      have A65 : ∀ j, 0 ≤ τ_41.2.1 65 j ∧ τ_41.2.1 65 j ≤ 60000 := fun j => hT.2 65 j
      have A66 : ∀ j, 0 ≤ τ_41.2.1 66 j ∧ τ_41.2.1 66 j ≤ 60 := fun j => hT.2 66 j
      have v5 : 0 ≤ τ_41.1 5 ∧ τ_41.1 5 ≤ 1500 := hT.1 5
      have v36 : 0 ≤ τ_41.1 36 ∧ τ_41.1 36 ≤ 20000 := hT.1 36
      have v38 : 0 ≤ τ_41.1 38 ∧ τ_41.1 38 ≤ 1500 := hT.1 38
      have v42 : 0 ≤ τ_41.1 42 ∧ τ_41.1 42 ≤ 40000 := hT.1 42
      refine h41 τ_41 ?_
      refine ⟨fun c10 => ?_, fun c10 => ?_⟩
      ·
        refine ⟨_, K_X13_keepDraft hT, ?_⟩
        intro x12 τ13 r_x12 hn_τ13 hf_τ13 hq
        replace hT := hq
        have w5_τ13 : τ13.1 5 = τ_41.1 5 := hf_τ13.1 5 (by decide)
        have w36_τ13 : τ13.1 36 = τ_41.1 36 := hf_τ13.1 36 (by decide)
        have w38_τ13 : τ13.1 38 = τ_41.1 38 := hf_τ13.1 38 (by decide)
        have w42_τ13 : τ13.1 42 = τ_41.1 42 := hf_τ13.1 42 (by decide)
        have g13_τ13 : τ13.2.1 13 = τ_41.2.1 13 := hf_τ13.2.1 13 (by decide)
        have g19_τ13 : τ13.2.1 19 = τ_41.2.1 19 := hf_τ13.2.1 19 (by decide)
        have g25_τ13 : τ13.2.1 25 = τ_41.2.1 25 := hf_τ13.2.1 25 (by decide)
        have g26_τ13 : τ13.2.1 26 = τ_41.2.1 26 := hf_τ13.2.1 26 (by decide)
        have g27_τ13 : τ13.2.1 27 = τ_41.2.1 27 := hf_τ13.2.1 27 (by decide)
        have g56_τ13 : τ13.2.1 56 = τ_41.2.1 56 := hf_τ13.2.1 56 (by decide)
        have g57_τ13 : τ13.2.1 57 = τ_41.2.1 57 := hf_τ13.2.1 57 (by decide)
        have g58_τ13 : τ13.2.1 58 = τ_41.2.1 58 := hf_τ13.2.1 58 (by decide)
        have g65_τ13 : τ13.2.1 65 = τ_41.2.1 65 := hf_τ13.2.1 65 (by decide)
        have g66_τ13 : τ13.2.1 66 = τ_41.2.1 66 := hf_τ13.2.1 66 (by decide)
        have W5 : τ13.1 5 = σ.1 5 := by first | exact w5_τ13.trans W5 | omega
        have G13 : τ13.2.1 13 = σ.2.1 13 := (g13_τ13).trans G13
        have G19 : τ13.2.1 19 = σ.2.1 19 := (g19_τ13).trans G19
        have G25 : τ13.2.1 25 = σ.2.1 25 := (g25_τ13).trans G25
        have G26 : τ13.2.1 26 = σ.2.1 26 := (g26_τ13).trans G26
        have G27 : τ13.2.1 27 = σ.2.1 27 := (g27_τ13).trans G27
        have A13 : ∀ j, 0 ≤ τ13.2.1 13 j ∧ τ13.2.1 13 j ≤ 4 := fun j => hT.2 13 j
        have A19 : ∀ j, 0 ≤ τ13.2.1 19 j ∧ τ13.2.1 19 j ≤ 60 := fun j => hT.2 19 j
        have A25 : ∀ j, 0 ≤ τ13.2.1 25 j ∧ τ13.2.1 25 j ≤ 20000 := fun j => hT.2 25 j
        have A26 : ∀ j, 0 ≤ τ13.2.1 26 j ∧ τ13.2.1 26 j ≤ 20000 := fun j => hT.2 26 j
        have A27 : ∀ j, (-300) ≤ τ13.2.1 27 j ∧ τ13.2.1 27 j ≤ 1499 := fun j => hT.2 27 j
        have A56 : ∀ j, 0 ≤ τ13.2.1 56 j ∧ τ13.2.1 56 j ≤ 1499 := fun j => hT.2 56 j
        have A57 : ∀ j, 0 ≤ τ13.2.1 57 j ∧ τ13.2.1 57 j ≤ 120000 := fun j => hT.2 57 j
        have A58 : ∀ j, 0 ≤ τ13.2.1 58 j ∧ τ13.2.1 58 j ≤ 20000 := fun j => hT.2 58 j
        have A65 : ∀ j, 0 ≤ τ13.2.1 65 j ∧ τ13.2.1 65 j ≤ 60000 := fun j => hT.2 65 j
        have A66 : ∀ j, 0 ≤ τ13.2.1 66 j ∧ τ13.2.1 66 j ≤ 60 := fun j => hT.2 66 j
        have v5 : 0 ≤ τ13.1 5 ∧ τ13.1 5 ≤ 1500 := hT.1 5
        have v36 : 0 ≤ τ13.1 36 ∧ τ13.1 36 ≤ 20000 := hT.1 36
        have v38 : 0 ≤ τ13.1 38 ∧ τ13.1 38 ≤ 1500 := hT.1 38
        have v42 : 0 ≤ τ13.1 42 ∧ τ13.1 42 ≤ 40000 := hT.1 42
        exact ⟨hT, (show n_Y τ13 from by (first | exact q1_2 | exact n_Y_h i41_2 hf_τ13 rfl rfl | fail))⟩
      ·
        have s41 : ∀ j : Int, 0 ≤ τ_41.2.1 19 j ∧ τ_41.2.1 19 j ≤ 60 := by (rw [G19]; exact s19)
        have tp := i41_3 (τ_41.1 42 - 1) (by omega) (by omega)
        obtain ⟨⟨tp1, tp2⟩, tp3, tp4, tp5⟩ := tp
        have yy := (n_Y_e (n := n1) i41_2 (by omega) (by omega)).2 (τ_41.2.1 65 (τ_41.1 42 - 1)) tp1 (by omega)
        obtain ⟨yy1, ⟨yy2, yy3⟩, yy4⟩ := yy
        have tp4 : τ_41.2.1 66 (τ_41.1 42 - 1) ≤ n_wd (τ_41.2.1 13) (τ_41.2.1 19) (τ_41.2.1 56 (τ_41.2.1 65 (τ_41.1 42 - 1))) := tp4
        refine ⟨(show 0 ≤ (τ_41.1 42 - 1) ∧ (τ_41.1 42 - 1) < 40002 from by (first | omega | (simp only [st_s] <;> omega) | assumption | omega | fail)), ?_⟩
        intro x15 r_x15 e_x15
        have b_x15 : 0 ≤ x15 ∧ x15 ≤ 60000 := by rw [e_x15]; exact hT.2 65 _
        rw [← e_x15] at tp1 tp2 tp4 yy1 yy2 yy3 yy4
        intro x16 r_x16 e_x16
        have b_x16 : 0 ≤ x16 ∧ x16 ≤ 60 := by rw [e_x16]; exact hT.2 66 _
        rw [← e_x16] at tp3 tp4
        refine ⟨_, K3_X13_rowWidth hT (show 0 ≤ x15 from by (first | omega | (simp only [st_s] <;> omega) | assumption | omega | fail)) (show x15 < 20001 from by (first | omega | (simp only [st_s] <;> omega) | assumption | omega | fail)), ?_⟩
        intro x18 r_x18 hq
        obtain ⟨q17_1, q17_2⟩ := hq
        replace q17_1 : 0 ≤ x18 ∧ x18 ≤ 60 := q17_1
        replace q17_2 : x18 = n_wd (τ_41.2.1 13) (τ_41.2.1 19) (τ_41.2.1 56 x15) := q17_2
        refine ⟨fun c20 => ?_, fun c20 => ?_⟩
        ·
          intro x21 r_x21 e_x21
          have b_x21 : 0 ≤ x21 ∧ x21 ≤ 60 := by rw [e_x21]; exact hT.2 66 _
          refine ⟨(⟨by (first | omega | (simp only [st_s] <;> omega) | assumption | omega | fail), by (first | omega | (simp only [st_s] <;> omega) | assumption | omega | fail)⟩ : rg (x21 + 1)), ?_⟩
          replace hT := mT_a (k := 66) (j := (τ_41.1 42 - 1)) hT (show (0 : Int) ≤ (x21 + 1) ∧ (x21 + 1) ≤ 60 from by (first | omega | (simp only [st_s] <;> omega) | assumption | omega | fail))
          refine ⟨(show 0 ≤ x15 ∧ x15 < 20001 from by (first | omega | (simp only [st_s] <;> omega) | assumption | omega | fail)), ?_⟩
          intro x24 r_x24 e_x24
          have b_x24 : 0 ≤ x24 ∧ x24 ≤ 120000 := by rw [e_x24]; exact hT.2 57 _
          rw [← e_x24] at yy2 yy3 yy4
          refine ⟨(show 0 ≤ (x24 + x16) ∧ (x24 + x16) < 120000 from by (first | omega | (simp only [st_s] <;> omega) | assumption | omega | fail)), ?_⟩
          intro x26 r_x26 e_x26
          have b_x26 : 0 ≤ x26 ∧ x26 ≤ 20000 := by rw [e_x26]; exact hT.2 58 _
          have y4 := yy4 x16 (by omega) (by omega)
          rw [← e_x26] at y4
          refine ⟨_, K_X13_enter hT (show (τ_41.1 42) < 40000 from by (first | omega | (simp only [st_s] <;> omega) | assumption | omega | fail)) (show 0 ≤ x26 ∧ x26 ≤ 60000 from by (first | omega | (simp only [st_s] <;> omega) | assumption | omega | fail)), ?_⟩
          intro τ29 hn_τ29 hf_τ29 hq
          obtain ⟨hT, q27_1, q27_2, q27_3⟩ := hq
          replace q27_1 : (τ29.1 42) = (τ_41.1 42) + 1 := q27_1
          replace q27_2 : τ29.2.1 65 = st (τ_41.2.1 65) (τ_41.1 42) x26 := q27_2
          replace q27_3 : τ29.2.1 66 = st ((st (τ_41.2.1 66) (τ_41.1 42 - 1) (x21 + 1))) (τ_41.1 42) 0 := q27_3
          have w5_τ29 : τ29.1 5 = τ_41.1 5 := hf_τ29.1 5 (by decide)
          have w36_τ29 : τ29.1 36 = τ_41.1 36 := hf_τ29.1 36 (by decide)
          have w38_τ29 : τ29.1 38 = τ_41.1 38 := hf_τ29.1 38 (by decide)
          have g13_τ29 : τ29.2.1 13 = τ_41.2.1 13 := hf_τ29.2.1 13 (by decide)
          have g19_τ29 : τ29.2.1 19 = τ_41.2.1 19 := hf_τ29.2.1 19 (by decide)
          have g25_τ29 : τ29.2.1 25 = τ_41.2.1 25 := hf_τ29.2.1 25 (by decide)
          have g26_τ29 : τ29.2.1 26 = τ_41.2.1 26 := hf_τ29.2.1 26 (by decide)
          have g27_τ29 : τ29.2.1 27 = τ_41.2.1 27 := hf_τ29.2.1 27 (by decide)
          have g56_τ29 : τ29.2.1 56 = τ_41.2.1 56 := hf_τ29.2.1 56 (by decide)
          have g57_τ29 : τ29.2.1 57 = τ_41.2.1 57 := hf_τ29.2.1 57 (by decide)
          have g58_τ29 : τ29.2.1 58 = τ_41.2.1 58 := hf_τ29.2.1 58 (by decide)
          have W5 : τ29.1 5 = σ.1 5 := by first | exact w5_τ29.trans W5 | omega
          have G13 : τ29.2.1 13 = σ.2.1 13 := (g13_τ29).trans G13
          have G19 : τ29.2.1 19 = σ.2.1 19 := (g19_τ29).trans G19
          have G25 : τ29.2.1 25 = σ.2.1 25 := (g25_τ29).trans G25
          have G26 : τ29.2.1 26 = σ.2.1 26 := (g26_τ29).trans G26
          have G27 : τ29.2.1 27 = σ.2.1 27 := (g27_τ29).trans G27
          have A13 : ∀ j, 0 ≤ τ29.2.1 13 j ∧ τ29.2.1 13 j ≤ 4 := fun j => hT.2 13 j
          have A19 : ∀ j, 0 ≤ τ29.2.1 19 j ∧ τ29.2.1 19 j ≤ 60 := fun j => hT.2 19 j
          have A25 : ∀ j, 0 ≤ τ29.2.1 25 j ∧ τ29.2.1 25 j ≤ 20000 := fun j => hT.2 25 j
          have A26 : ∀ j, 0 ≤ τ29.2.1 26 j ∧ τ29.2.1 26 j ≤ 20000 := fun j => hT.2 26 j
          have A27 : ∀ j, (-300) ≤ τ29.2.1 27 j ∧ τ29.2.1 27 j ≤ 1499 := fun j => hT.2 27 j
          have A56 : ∀ j, 0 ≤ τ29.2.1 56 j ∧ τ29.2.1 56 j ≤ 1499 := fun j => hT.2 56 j
          have A57 : ∀ j, 0 ≤ τ29.2.1 57 j ∧ τ29.2.1 57 j ≤ 120000 := fun j => hT.2 57 j
          have A58 : ∀ j, 0 ≤ τ29.2.1 58 j ∧ τ29.2.1 58 j ≤ 20000 := fun j => hT.2 58 j
          have A65 : ∀ j, 0 ≤ τ29.2.1 65 j ∧ τ29.2.1 65 j ≤ 60000 := fun j => hT.2 65 j
          have A66 : ∀ j, 0 ≤ τ29.2.1 66 j ∧ τ29.2.1 66 j ≤ 60 := fun j => hT.2 66 j
          have v5 : 0 ≤ τ29.1 5 ∧ τ29.1 5 ≤ 1500 := hT.1 5
          have v36 : 0 ≤ τ29.1 36 ∧ τ29.1 36 ≤ 20000 := hT.1 36
          have v38 : 0 ≤ τ29.1 38 ∧ τ29.1 38 ≤ 1500 := hT.1 38
          have v42 : 0 ≤ τ29.1 42 ∧ τ29.1 42 ≤ 40000 := hT.1 42
          have y29 : n_Y τ29 := n_Y_h (show n_Y (s_a τ_41 66 (τ_41.1 42 - 1) (x21 + 1)) from i41_2) hf_τ29 rfl rfl
          have sk29 : n_sk (τ29.1 42) (τ29.1 36) (fun r => n_wd (τ29.2.1 13) (τ29.2.1 19) (τ29.2.1 56 r)) (τ29.2.1 65) (τ29.2.1 66) := by (rw [q27_1, q27_2, q27_3, show τ29.1 36 = τ_41.1 36 from by omega, g13_τ29, g19_τ29, g56_τ29]; exact n_sk_p i41_3 (by omega) (by omega) (show x21 + 1 ≤ n_wd (τ_41.2.1 13) (τ_41.2.1 19) (τ_41.2.1 56 (τ_41.2.1 65 (τ_41.1 42 - 1))) by (rw [← e_x15]; omega)) (by omega) (by omega) (n_wd_b s41 _))
          have m29 : n_W (τ29.1 42) (τ29.2.1 65) (τ29.2.1 66) < n_W (τ_41.1 42) (τ_41.2.1 65) (τ_41.2.1 66) := by (rw [q27_1, q27_2, q27_3]; exact n_W_p (by omega) e_x21 (by omega) (by omega))
          exact ih_41 _ (show (n_W (τ29.1 42) (τ29.2.1 65) (τ29.2.1 66) : Int) < ((m_41 : Nat) : Int) from by ((first | omega | exact m29 | exact m34 | fail))) hT (show τ29.1 5 = σ.1 5 from by first | exact W5 | omega) G13 G19 G25 G26 G27 (show (τ29.1 38) = n1 + 1 from by (first | omega | (simp only [st_s] <;> omega) | assumption | omega | fail)) (show n_Y τ29 from by (first | exact y9 | exact y29 | exact y34 | fail)) (show n_sk (τ29.1 42) (τ29.1 36) (fun r => n_wd (τ29.2.1 13) (τ29.2.1 19) (τ29.2.1 56 r)) (τ29.2.1 65) (τ29.2.1 66) from by (first | exact sk9 | exact sk29 | exact sk34 | fail)) (show (τ29.1 42) ≤ 20001 from by (first | omega | (simp only [st_s] <;> omega) | assumption | omega | fail))
        ·
          replace hT := mT_v (i := 42) hT (show 0 ≤ (τ_41.1 42 - 1) ∧ (τ_41.1 42 - 1) ≤ 40000 from by (first | omega | (simp only [st_s] <;> omega) | assumption | omega | fail))
          refine ⟨(show 0 ≤ x15 ∧ x15 < 20001 from by (first | omega | (simp only [st_s] <;> omega) | assumption | omega | fail)), ?_⟩
          intro x31 r_x31 e_x31
          have b_x31 : 0 ≤ x31 ∧ x31 ≤ 1499 := by rw [e_x31]; exact hT.2 56 _
          refine ⟨_, K_X13_putLabel hT (show 0 ≤ x31 from by (first | omega | (simp only [st_s] <;> omega) | assumption | omega | fail)) (show x31 < 1500 from by (first | omega | (simp only [st_s] <;> omega) | assumption | omega | fail)), ?_⟩
          intro τ34 hn_τ34 hf_τ34 hq
          replace hT := hq
          have w5_τ34 : τ34.1 5 = τ_41.1 5 := hf_τ34.1 5 (by decide)
          have w36_τ34 : τ34.1 36 = τ_41.1 36 := hf_τ34.1 36 (by decide)
          have w38_τ34 : τ34.1 38 = τ_41.1 38 := hf_τ34.1 38 (by decide)
          have w42_τ34 : τ34.1 42 = (τ_41.1 42 - 1) := hf_τ34.1 42 (by decide)
          have g13_τ34 : τ34.2.1 13 = τ_41.2.1 13 := hf_τ34.2.1 13 (by decide)
          have g19_τ34 : τ34.2.1 19 = τ_41.2.1 19 := hf_τ34.2.1 19 (by decide)
          have g25_τ34 : τ34.2.1 25 = τ_41.2.1 25 := hf_τ34.2.1 25 (by decide)
          have g26_τ34 : τ34.2.1 26 = τ_41.2.1 26 := hf_τ34.2.1 26 (by decide)
          have g27_τ34 : τ34.2.1 27 = τ_41.2.1 27 := hf_τ34.2.1 27 (by decide)
          have g56_τ34 : τ34.2.1 56 = τ_41.2.1 56 := hf_τ34.2.1 56 (by decide)
          have g57_τ34 : τ34.2.1 57 = τ_41.2.1 57 := hf_τ34.2.1 57 (by decide)
          have g58_τ34 : τ34.2.1 58 = τ_41.2.1 58 := hf_τ34.2.1 58 (by decide)
          have g65_τ34 : τ34.2.1 65 = τ_41.2.1 65 := hf_τ34.2.1 65 (by decide)
          have g66_τ34 : τ34.2.1 66 = τ_41.2.1 66 := hf_τ34.2.1 66 (by decide)
          have W5 : τ34.1 5 = σ.1 5 := by first | exact w5_τ34.trans W5 | omega
          have G13 : τ34.2.1 13 = σ.2.1 13 := (g13_τ34).trans G13
          have G19 : τ34.2.1 19 = σ.2.1 19 := (g19_τ34).trans G19
          have G25 : τ34.2.1 25 = σ.2.1 25 := (g25_τ34).trans G25
          have G26 : τ34.2.1 26 = σ.2.1 26 := (g26_τ34).trans G26
          have G27 : τ34.2.1 27 = σ.2.1 27 := (g27_τ34).trans G27
          have A13 : ∀ j, 0 ≤ τ34.2.1 13 j ∧ τ34.2.1 13 j ≤ 4 := fun j => hT.2 13 j
          have A19 : ∀ j, 0 ≤ τ34.2.1 19 j ∧ τ34.2.1 19 j ≤ 60 := fun j => hT.2 19 j
          have A25 : ∀ j, 0 ≤ τ34.2.1 25 j ∧ τ34.2.1 25 j ≤ 20000 := fun j => hT.2 25 j
          have A26 : ∀ j, 0 ≤ τ34.2.1 26 j ∧ τ34.2.1 26 j ≤ 20000 := fun j => hT.2 26 j
          have A27 : ∀ j, (-300) ≤ τ34.2.1 27 j ∧ τ34.2.1 27 j ≤ 1499 := fun j => hT.2 27 j
          have A56 : ∀ j, 0 ≤ τ34.2.1 56 j ∧ τ34.2.1 56 j ≤ 1499 := fun j => hT.2 56 j
          have A57 : ∀ j, 0 ≤ τ34.2.1 57 j ∧ τ34.2.1 57 j ≤ 120000 := fun j => hT.2 57 j
          have A58 : ∀ j, 0 ≤ τ34.2.1 58 j ∧ τ34.2.1 58 j ≤ 20000 := fun j => hT.2 58 j
          have A65 : ∀ j, 0 ≤ τ34.2.1 65 j ∧ τ34.2.1 65 j ≤ 60000 := fun j => hT.2 65 j
          have A66 : ∀ j, 0 ≤ τ34.2.1 66 j ∧ τ34.2.1 66 j ≤ 60 := fun j => hT.2 66 j
          have v5 : 0 ≤ τ34.1 5 ∧ τ34.1 5 ≤ 1500 := hT.1 5
          have v36 : 0 ≤ τ34.1 36 ∧ τ34.1 36 ≤ 20000 := hT.1 36
          have v38 : 0 ≤ τ34.1 38 ∧ τ34.1 38 ≤ 1500 := hT.1 38
          have v42 : 0 ≤ τ34.1 42 ∧ τ34.1 42 ≤ 40000 := hT.1 42
          have y34 : n_Y τ34 := n_Y_h (show n_Y (s_v τ_41 42 (τ_41.1 42 - 1)) from i41_2) hf_τ34 rfl rfl
          have sk34 : n_sk (τ34.1 42) (τ34.1 36) (fun r => n_wd (τ34.2.1 13) (τ34.2.1 19) (τ34.2.1 56 r)) (τ34.2.1 65) (τ34.2.1 66) := by (rw [show τ34.1 42 = τ_41.1 42 - 1 from by omega, show τ34.1 36 = τ_41.1 36 from by omega, g13_τ34, g19_τ34, g56_τ34, g65_τ34, g66_τ34]; exact n_sk_q i41_3)
          have m34 : n_W (τ34.1 42) (τ34.2.1 65) (τ34.2.1 66) < n_W (τ_41.1 42) (τ_41.2.1 65) (τ_41.2.1 66) := by (rw [show τ34.1 42 = τ_41.1 42 - 1 from by omega, g65_τ34, g66_τ34]; exact n_W_q i41_3 (by omega))
          exact ih_41 _ (show (n_W (τ34.1 42) (τ34.2.1 65) (τ34.2.1 66) : Int) < ((m_41 : Nat) : Int) from by ((first | omega | exact m29 | exact m34 | fail))) hT (show τ34.1 5 = σ.1 5 from by first | exact W5 | omega) G13 G19 G25 G26 G27 (show (τ34.1 38) = n1 + 1 from by (first | omega | (simp only [st_s] <;> omega) | assumption | omega | fail)) (show n_Y τ34 from by (first | exact y9 | exact y29 | exact y34 | fail)) (show n_sk (τ34.1 42) (τ34.1 36) (fun r => n_wd (τ34.2.1 13) (τ34.2.1 19) (τ34.2.1 56 r)) (τ34.2.1 65) (τ34.2.1 66) from by (first | exact sk9 | exact sk29 | exact sk34 | fail)) (show (τ34.1 42) ≤ 20001 from by (first | omega | (simp only [st_s] <;> omega) | assumption | omega | fail))
  refine ⟨_, K3_X13_makeSizes hT (show 0 ≤ n1 from by (first | omega | (simp only [st_s] <;> omega) | assumption | omega | fail)) (show n1 < σ.1 5 from by (first | omega | (simp only [st_s] <;> omega) | assumption | omega | fail)) (show σ.2.1 13 n1 = 3 from by (first | omega | (simp only [st_s] <;> omega) | assumption | omega | fail)) (show n_J σ from by (first | omega | (simp only [st_s] <;> omega) | assumption | omega | fail)) (show m_J σ from by (first | omega | (simp only [st_s] <;> omega) | assumption | omega | fail)) (show n_Y σ from by (first | omega | (simp only [st_s] <;> omega) | assumption | omega | fail)), ?_⟩
  intro τ3 hn_τ3 hf_τ3 hq
  obtain ⟨hT, q1_1, q1_2⟩ := hq
  replace q1_1 : (τ3.1 38) = n1 + 1 := q1_1
  replace q1_2 : n_Y τ3 := q1_2
  have w5_τ3 : τ3.1 5 = σ.1 5 := hf_τ3.1 5 (by decide)
  have w42_τ3 : τ3.1 42 = σ.1 42 := hf_τ3.1 42 (by decide)
  have g13_τ3 : τ3.2.1 13 = σ.2.1 13 := hf_τ3.2.1 13 (by decide)
  have g19_τ3 : τ3.2.1 19 = σ.2.1 19 := hf_τ3.2.1 19 (by decide)
  have g25_τ3 : τ3.2.1 25 = σ.2.1 25 := hf_τ3.2.1 25 (by decide)
  have g26_τ3 : τ3.2.1 26 = σ.2.1 26 := hf_τ3.2.1 26 (by decide)
  have g27_τ3 : τ3.2.1 27 = σ.2.1 27 := hf_τ3.2.1 27 (by decide)
  have g65_τ3 : τ3.2.1 65 = σ.2.1 65 := hf_τ3.2.1 65 (by decide)
  have g66_τ3 : τ3.2.1 66 = σ.2.1 66 := hf_τ3.2.1 66 (by decide)
  have W5 : τ3.1 5 = σ.1 5 := by first | exact w5_τ3.trans W5 | omega
  have G13 : τ3.2.1 13 = σ.2.1 13 := (g13_τ3).trans G13
  have G19 : τ3.2.1 19 = σ.2.1 19 := (g19_τ3).trans G19
  have G25 : τ3.2.1 25 = σ.2.1 25 := (g25_τ3).trans G25
  have G26 : τ3.2.1 26 = σ.2.1 26 := (g26_τ3).trans G26
  have G27 : τ3.2.1 27 = σ.2.1 27 := (g27_τ3).trans G27
  have A13 : ∀ j, 0 ≤ τ3.2.1 13 j ∧ τ3.2.1 13 j ≤ 4 := fun j => hT.2 13 j
  have A19 : ∀ j, 0 ≤ τ3.2.1 19 j ∧ τ3.2.1 19 j ≤ 60 := fun j => hT.2 19 j
  have A25 : ∀ j, 0 ≤ τ3.2.1 25 j ∧ τ3.2.1 25 j ≤ 20000 := fun j => hT.2 25 j
  have A26 : ∀ j, 0 ≤ τ3.2.1 26 j ∧ τ3.2.1 26 j ≤ 20000 := fun j => hT.2 26 j
  have A27 : ∀ j, (-300) ≤ τ3.2.1 27 j ∧ τ3.2.1 27 j ≤ 1499 := fun j => hT.2 27 j
  have A56 : ∀ j, 0 ≤ τ3.2.1 56 j ∧ τ3.2.1 56 j ≤ 1499 := fun j => hT.2 56 j
  have A57 : ∀ j, 0 ≤ τ3.2.1 57 j ∧ τ3.2.1 57 j ≤ 120000 := fun j => hT.2 57 j
  have A58 : ∀ j, 0 ≤ τ3.2.1 58 j ∧ τ3.2.1 58 j ≤ 20000 := fun j => hT.2 58 j
  have A65 : ∀ j, 0 ≤ τ3.2.1 65 j ∧ τ3.2.1 65 j ≤ 60000 := fun j => hT.2 65 j
  have A66 : ∀ j, 0 ≤ τ3.2.1 66 j ∧ τ3.2.1 66 j ≤ 60 := fun j => hT.2 66 j
  have v5 : 0 ≤ τ3.1 5 ∧ τ3.1 5 ≤ 1500 := hT.1 5
  have v36 : 0 ≤ τ3.1 36 ∧ τ3.1 36 ≤ 20000 := hT.1 36
  have v38 : 0 ≤ τ3.1 38 ∧ τ3.1 38 ≤ 1500 := hT.1 38
  have v42 : 0 ≤ τ3.1 42 ∧ τ3.1 42 ≤ 40000 := hT.1 42
  have yz := (n_Y_e (n := n1) q1_2 (by omega) (by omega)).1
  refine ⟨(show 0 ≤ (τ3.1 36 - 1) ∧ (τ3.1 36 - 1) < 20001 from by (first | omega | (simp only [st_s] <;> omega) | assumption | omega | fail)), ?_⟩
  intro x5 e_x5
  refine ⟨fun c6 => ?_, fun c6 => ?_⟩
  ·
    replace hT := mT_v (i := 42) hT (show (0 : Int) ≤ 0 ∧ 0 ≤ 40000 from by (first | omega | (simp only [st_s] <;> omega) | assumption | omega | fail))
    refine ⟨_, K_X13_enter hT (show ((0 : Int)) < 40000 from by (first | omega | (simp only [st_s] <;> omega) | assumption | omega | fail)) (show 0 ≤ (τ3.1 36 - 1) ∧ (τ3.1 36 - 1) ≤ 60000 from by (first | omega | (simp only [st_s] <;> omega) | assumption | omega | fail)), ?_⟩
    intro τ9 hn_τ9 hf_τ9 hq
    obtain ⟨hT, q7_1, q7_2, q7_3⟩ := hq
    replace q7_1 : (τ9.1 42) = ((0 : Int)) + 1 := q7_1
    replace q7_2 : τ9.2.1 65 = st (τ3.2.1 65) ((0 : Int)) (τ3.1 36 - 1) := q7_2
    replace q7_3 : τ9.2.1 66 = st (τ3.2.1 66) ((0 : Int)) 0 := q7_3
    have w5_τ9 : τ9.1 5 = τ3.1 5 := hf_τ9.1 5 (by decide)
    have w36_τ9 : τ9.1 36 = τ3.1 36 := hf_τ9.1 36 (by decide)
    have w38_τ9 : τ9.1 38 = τ3.1 38 := hf_τ9.1 38 (by decide)
    have g13_τ9 : τ9.2.1 13 = τ3.2.1 13 := hf_τ9.2.1 13 (by decide)
    have g19_τ9 : τ9.2.1 19 = τ3.2.1 19 := hf_τ9.2.1 19 (by decide)
    have g25_τ9 : τ9.2.1 25 = τ3.2.1 25 := hf_τ9.2.1 25 (by decide)
    have g26_τ9 : τ9.2.1 26 = τ3.2.1 26 := hf_τ9.2.1 26 (by decide)
    have g27_τ9 : τ9.2.1 27 = τ3.2.1 27 := hf_τ9.2.1 27 (by decide)
    have g56_τ9 : τ9.2.1 56 = τ3.2.1 56 := hf_τ9.2.1 56 (by decide)
    have g57_τ9 : τ9.2.1 57 = τ3.2.1 57 := hf_τ9.2.1 57 (by decide)
    have g58_τ9 : τ9.2.1 58 = τ3.2.1 58 := hf_τ9.2.1 58 (by decide)
    have W5 : τ9.1 5 = σ.1 5 := by first | exact w5_τ9.trans W5 | omega
    have G13 : τ9.2.1 13 = σ.2.1 13 := (g13_τ9).trans G13
    have G19 : τ9.2.1 19 = σ.2.1 19 := (g19_τ9).trans G19
    have G25 : τ9.2.1 25 = σ.2.1 25 := (g25_τ9).trans G25
    have G26 : τ9.2.1 26 = σ.2.1 26 := (g26_τ9).trans G26
    have G27 : τ9.2.1 27 = σ.2.1 27 := (g27_τ9).trans G27
    have A13 : ∀ j, 0 ≤ τ9.2.1 13 j ∧ τ9.2.1 13 j ≤ 4 := fun j => hT.2 13 j
    have A19 : ∀ j, 0 ≤ τ9.2.1 19 j ∧ τ9.2.1 19 j ≤ 60 := fun j => hT.2 19 j
    have A25 : ∀ j, 0 ≤ τ9.2.1 25 j ∧ τ9.2.1 25 j ≤ 20000 := fun j => hT.2 25 j
    have A26 : ∀ j, 0 ≤ τ9.2.1 26 j ∧ τ9.2.1 26 j ≤ 20000 := fun j => hT.2 26 j
    have A27 : ∀ j, (-300) ≤ τ9.2.1 27 j ∧ τ9.2.1 27 j ≤ 1499 := fun j => hT.2 27 j
    have A56 : ∀ j, 0 ≤ τ9.2.1 56 j ∧ τ9.2.1 56 j ≤ 1499 := fun j => hT.2 56 j
    have A57 : ∀ j, 0 ≤ τ9.2.1 57 j ∧ τ9.2.1 57 j ≤ 120000 := fun j => hT.2 57 j
    have A58 : ∀ j, 0 ≤ τ9.2.1 58 j ∧ τ9.2.1 58 j ≤ 20000 := fun j => hT.2 58 j
    have A65 : ∀ j, 0 ≤ τ9.2.1 65 j ∧ τ9.2.1 65 j ≤ 60000 := fun j => hT.2 65 j
    have A66 : ∀ j, 0 ≤ τ9.2.1 66 j ∧ τ9.2.1 66 j ≤ 60 := fun j => hT.2 66 j
    have v5 : 0 ≤ τ9.1 5 ∧ τ9.1 5 ≤ 1500 := hT.1 5
    have v36 : 0 ≤ τ9.1 36 ∧ τ9.1 36 ≤ 20000 := hT.1 36
    have v38 : 0 ≤ τ9.1 38 ∧ τ9.1 38 ≤ 1500 := hT.1 38
    have v42 : 0 ≤ τ9.1 42 ∧ τ9.1 42 ≤ 40000 := hT.1 42
    have y9 : n_Y τ9 := n_Y_h (show n_Y (s_v τ3 42 0) from q1_2) hf_τ9 rfl rfl
    have sk9 : n_sk (τ9.1 42) (τ9.1 36) (fun r => n_wd (τ9.2.1 13) (τ9.2.1 19) (τ9.2.1 56 r)) (τ9.2.1 65) (τ9.2.1 66) := by (rw [q7_1, q7_2, q7_3, show τ9.1 36 = τ3.1 36 from by omega, g19_τ9, g19_τ3, g13_τ9, g13_τ3, g56_τ9]; exact n_sk_0 (by omega) (by omega) (n_wd_b s19 _))
    exact l_41 ((n_W (τ9.1 42) (τ9.2.1 65) (τ9.2.1 66) : Int).toNat + 1) _ (show (n_W (τ9.1 42) (τ9.2.1 65) (τ9.2.1 66) : Int) < (((n_W (τ9.1 42) (τ9.2.1 65) (τ9.2.1 66) : Int).toNat + 1 : Nat) : Int) from by ((first | omega | exact m29 | exact m34 | fail))) hT (show τ9.1 5 = σ.1 5 from by first | exact W5 | omega) G13 G19 G25 G26 G27 (show (τ9.1 38) = n1 + 1 from by (first | omega | (simp only [st_s] <;> omega) | assumption | omega | fail)) (show n_Y τ9 from by (first | exact y9 | exact y29 | exact y34 | fail)) (show n_sk (τ9.1 42) (τ9.1 36) (fun r => n_wd (τ9.2.1 13) (τ9.2.1 19) (τ9.2.1 56 r)) (τ9.2.1 65) (τ9.2.1 66) from by (first | exact sk9 | exact sk29 | exact sk34 | fail)) (show (τ9.1 42) ≤ 20001 from by (first | omega | (simp only [st_s] <;> omega) | assumption | omega | fail))
  ·
    exact ⟨hT, (show n_Y τ3 from by (first | exact q1_2 | exact n_Y_h i41_2 hf_τ13 rfl rfl | fail))⟩
