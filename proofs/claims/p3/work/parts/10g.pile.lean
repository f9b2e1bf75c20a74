-- pure: the pile
def j_bw (fl tx bS : Int → Int) (p : Int) : Int := if fl p = -1 then 1 else bS (tx p)
theorem j_bw_u (fl tx bS : Int → Int) (p : Int) : (fl p = -1 ∧ j_bw fl tx bS p = 1) ∨ (¬ fl p = -1 ∧ j_bw fl tx bS p = bS (tx p)) := by
  unfold j_bw
  by_cases z : fl p = -1
  · rw [if_pos z]; exact Or.inl ⟨z, rfl⟩
  · rw [if_neg z]; exact Or.inr ⟨z, rfl⟩
/-- rows that stand among children: where they lie they are symbols -/
def J_cf (n c : Int) (ch at_ sz dt : Int → Int) : Prop := ∀ k : Int, 0 ≤ k → k < c → 0 ≤ sz (ch (n + k)) ∧ at_ (ch (n + k)) + sz (ch (n + k)) ≤ 42000 ∧ ∀ j : Int, at_ (ch (n + k)) ≤ j → j < at_ (ch (n + k)) + sz (ch (n + k)) → dt j < 1000
def J_tb (i : Int) (a tx fl dt bA bS : Int → Int) : Prop := ∀ p : Int, a i ≤ p → p < a (i + 1) → ¬ fl p = -1 → J_bd (tx p) dt bA bS
/-- what stands in what is built -/
def J_bt (n : Int) (bt : Int → Int) : Prop := ∀ j : Int, 0 ≤ j → j < n → bt j < 1000
theorem J_bt_a {n x : Int} {bt : Int → Int} (h : J_bt n bt) (hx : x < 1000) : J_bt (n + 1) (st bt n x) := fun j a b => by
  by_cases z : j = n
  · rw [z, st_s]; exact hx
  · rw [st_n _ _ z]; exact h j a (by omega)
theorem J_bt_c {n x c : Int} {bt dt : Int → Int} (h : J_bt n bt) (hx : ∀ j : Int, x ≤ j → j < x + c → dt j < 1000) : J_bt (n + c) (c_py dt bt x n c) := fun j a b => by
  unfold c_py
  by_cases z : n ≤ j ∧ j < n + c
  · rw [if_pos z]; exact hx _ (by omega) (by omega)
  · rw [if_neg z]; exact h j a (by omega)
set_option maxHeartbeats 1000000 in
theorem K2_X0_firstOf {n1 : Int} {σ : S0} (hT : c_T σ) (p1 : 0 ≤ n1) (p2 : n1 < 20000) : W_X0_firstOf n1 σ (fun (x : Int) => (0 ≤ x ∧ x ≤ 999) ∧ (x = σ.2.1 32 n1 / 1000)) := by
  have A32 : ∀ j, 0 ≤ σ.2.1 32 j ∧ σ.2.1 32 j ≤ 999999 := fun j => hT.2 32 j
  unfold W_X0_firstOf
  refine ⟨(show 0 ≤ n1 ∧ n1 < 20000 from by (first | omega | (simp only [st_s] <;> omega) | assumption | omega | fail)), ?_⟩
  intro x2 r_x2 e_x2
  have b_x2 : 0 ≤ x2 ∧ x2 ≤ 999999 := by rw [e_x2]; exact hT.2 32 _
  intro x3 r_x3 h1_x3 h2_x3
  exact ⟨(show 0 ≤ x3 ∧ x3 ≤ 999 from by (first | omega | (simp only [st_s] <;> omega) | assumption | omega | fail)), (show x3 = σ.2.1 32 n1 / 1000 from by omega)⟩
set_option maxHeartbeats 1000000 in
theorem K2_X0_secondOf {n1 : Int} {σ : S0} (hT : c_T σ) (p1 : 0 ≤ n1) (p2 : n1 < 20000) : W_X0_secondOf n1 σ (fun (x : Int) => (0 ≤ x ∧ x ≤ 999) ∧ (x = σ.2.1 32 n1 % 1000)) := by
  have A32 : ∀ j, 0 ≤ σ.2.1 32 j ∧ σ.2.1 32 j ≤ 999999 := fun j => hT.2 32 j
  unfold W_X0_secondOf
  refine ⟨(show 0 ≤ n1 ∧ n1 < 20000 from by (first | omega | (simp only [st_s] <;> omega) | assumption | omega | fail)), ?_⟩
  intro x2 r_x2 e_x2
  have b_x2 : 0 ≤ x2 ∧ x2 ≤ 999999 := by rw [e_x2]; exact hT.2 32 _
  intro x3 r_x3 h1_x3 h2_x3
  exact ⟨(show 0 ≤ x3 ∧ x3 ≤ 999 from by (first | omega | (simp only [st_s] <;> omega) | assumption | omega | fail)), (show x3 = σ.2.1 32 n1 % 1000 from by omega)⟩
set_option maxHeartbeats 1000000 in
theorem K2_X6_clear {σ : S0} (hT : c_T σ) : W_X6_clear σ (fun (τ : S0) => (c_T τ) ∧ ((τ.1 17) = 0) ∧ ((τ.1 18) = 42000)) := by
  have v17 : 0 ≤ σ.1 17 ∧ σ.1 17 ≤ 42000 := hT.1 17
  have v18 : 0 ≤ σ.1 18 ∧ σ.1 18 ≤ 42000 := hT.1 18
  unfold W_X6_clear
  replace hT := cT_v (i := 17) hT (show (0 : Int) ≤ 0 ∧ 0 ≤ 42000 from by (first | omega | (simp only [st_s] <;> omega) | assumption | omega | fail))
  replace hT := cT_v (i := 18) hT (show (0 : Int) ≤ 42000 ∧ 42000 ≤ 42000 from by (first | omega | (simp only [st_s] <;> omega) | assumption | omega | fail))
  exact ⟨hT, (show ((0 : Int)) = 0 from by (first | omega | (simp only [st_s] <;> omega) | assumption | omega | fail)), (show ((42000 : Int)) = 42000 from by (first | omega | (simp only [st_s] <;> omega) | assumption | omega | fail))⟩
set_option maxHeartbeats 1000000 in
theorem K_X6_put {n1 : Int} {n2 : Int} {σ : S0} (hT : c_T σ) (p1 : 0 ≤ n1) (p2 : n1 < 20000) (p3 : 0 ≤ n2 ∧ n2 ≤ 1) : W_X6_put n1 n2 σ (fun (x : Int) (τ : S0) => (c_T τ) ∧ (0 ≤ x ∧ x ≤ 1) ∧ (x = 0 → (τ.1 17) = (σ.1 17) ∧ (τ.1 18) = (σ.1 18)) ∧ (¬ x = 0 → (σ.1 17) + (σ.1 19) ≤ (σ.1 18)) ∧ (¬ x = 0 → n2 = 0 → (τ.1 17) = (σ.1 17) + (σ.1 19) ∧ (τ.1 18) = (σ.1 18) ∧ τ.2.1 40 = st (σ.2.1 40) n1 (σ.1 17) ∧ τ.2.1 39 = c_py (σ.2.1 43) (σ.2.1 39) 0 (σ.1 17) (σ.1 19)) ∧ (¬ x = 0 → ¬ n2 = 0 → (τ.1 17) = (σ.1 17) ∧ (τ.1 18) = (σ.1 18) - (σ.1 19) ∧ τ.2.1 40 = st (st (σ.2.1 40) n1 (σ.1 17)) n1 ((σ.1 18) - (σ.1 19)) ∧ τ.2.1 39 = c_py (σ.2.1 43) (σ.2.1 39) 0 ((σ.1 18) - (σ.1 19)) (σ.1 19)) ∧ (¬ x = 0 → τ.2.1 41 = st (σ.2.1 41) n1 (σ.1 19) ∧ τ.2.1 42 = st (σ.2.1 42) n1 (1 + n2))) := by
  have A39 : ∀ j, 0 ≤ σ.2.1 39 j ∧ σ.2.1 39 j ≤ 1060 := fun j => hT.2 39 j
  have A40 : ∀ j, 0 ≤ σ.2.1 40 j ∧ σ.2.1 40 j ≤ 42000 := fun j => hT.2 40 j
  have A41 : ∀ j, (-2) ≤ σ.2.1 41 j ∧ σ.2.1 41 j ≤ 1000 := fun j => hT.2 41 j
  have A42 : ∀ j, (-2147483648) ≤ σ.2.1 42 j ∧ σ.2.1 42 j ≤ 2147483647 := fun j => hT.2 42 j
  have A43 : ∀ j, 0 ≤ σ.2.1 43 j ∧ σ.2.1 43 j ≤ 1060 := fun j => hT.2 43 j
  have v17 : 0 ≤ σ.1 17 ∧ σ.1 17 ≤ 42000 := hT.1 17
  have v18 : 0 ≤ σ.1 18 ∧ σ.1 18 ≤ 42000 := hT.1 18
  have v19 : 0 ≤ σ.1 19 ∧ σ.1 19 ≤ 1000 := hT.1 19
  have W19 : σ.1 19 = σ.1 19 := rfl
  have G43 : σ.2.1 43 = σ.2.1 43 := rfl
  intro P32 P96 h32 h96
  have l_96 : ∀ (u1_96 : Int) (τ_96 : S0), (c_T τ_96) → (τ_96.1 19 = σ.1 19) → (τ_96.2.1 43 = σ.2.1 43) → (u1_96 = n1) → ((σ.1 17) + (σ.1 19) ≤ (σ.1 18)) → (n2 = 0 → (τ_96.1 17) = (σ.1 17) + (σ.1 19) ∧ (τ_96.1 18) = (σ.1 18) ∧ τ_96.2.1 40 = st (σ.2.1 40) n1 (σ.1 17)) → (¬ n2 = 0 → (τ_96.1 17) = (σ.1 17) ∧ (τ_96.1 18) = (σ.1 18) - (σ.1 19) ∧ τ_96.2.1 40 = st (st (σ.2.1 40) n1 (σ.1 17)) n1 ((σ.1 18) - (σ.1 19))) → (τ_96.2.1 41 = st (σ.2.1 41) n1 (σ.1 19) ∧ τ_96.2.1 42 = st (σ.2.1 42) n1 (1 + n2)) → (τ_96.2.1 39 = σ.2.1 39) → P96 u1_96 τ_96 := by
    intro u1_96 τ_96 hT W19 G43 i96_1 i96_2 i96_3 i96_4 i96_5 i96_6
    have A39 : ∀ j, 0 ≤ τ_96.2.1 39 j ∧ τ_96.2.1 39 j ≤ 1060 := fun j => hT.2 39 j
    have A40 : ∀ j, 0 ≤ τ_96.2.1 40 j ∧ τ_96.2.1 40 j ≤ 42000 := fun j => hT.2 40 j
    have A41 : ∀ j, (-2) ≤ τ_96.2.1 41 j ∧ τ_96.2.1 41 j ≤ 1000 := fun j => hT.2 41 j
    have A42 : ∀ j, (-2147483648) ≤ τ_96.2.1 42 j ∧ τ_96.2.1 42 j ≤ 2147483647 := fun j => hT.2 42 j
    have A43 : ∀ j, 0 ≤ τ_96.2.1 43 j ∧ τ_96.2.1 43 j ≤ 1060 := fun j => hT.2 43 j
    have v17 : 0 ≤ τ_96.1 17 ∧ τ_96.1 17 ≤ 42000 := hT.1 17
    have v18 : 0 ≤ τ_96.1 18 ∧ τ_96.1 18 ≤ 42000 := hT.1 18
    have v19 : 0 ≤ τ_96.1 19 ∧ τ_96.1 19 ≤ 1000 := hT.1 19
    have e40 : n2 = 0 → τ_96.2.1 40 n1 = σ.1 17 := fun z => by rw [(i96_3 z).2.2, st_s]
    have e41 : ¬ n2 = 0 → τ_96.2.1 40 n1 = σ.1 18 - σ.1 19 := fun z => by rw [(i96_4 z).2.2, st_s]
    refine h96 u1_96 τ_96 ?_
    refine ⟨(show 0 ≤ u1_96 ∧ u1_96 < 20000 from by (first | omega | (simp only [st_s] <;> omega) | assumption | omega | fail)), ?_⟩
    intro x10 r_x10 e_x10
    have b_x10 : 0 ≤ x10 ∧ x10 ≤ 42000 := by rw [e_x10]; exact hT.2 40 _
    rw [i96_1] at e_x10
    refine ⟨(show (0 : Int) ≤ 0 ∧ (0 : Int) ≤ x10 ∧ (0 : Int) ≤ τ_96.1 19 ∧ 0 + τ_96.1 19 ≤ 1000 ∧ x10 + τ_96.1 19 ≤ 42000 from by (first | omega | (simp only [st_s] <;> omega) | assumption | omega | fail)), ?_⟩
    replace hT := cT_f (k := 39) (f := (c_py (τ_96.2.1 43) (τ_96.2.1 39) 0 x10 (τ_96.1 19))) hT (cpy_r (lo := fun _ => (0 : Int)) (hi := fun _ => (1060 : Int)) A43 A39 (fun _ => rfl) (fun _ => rfl))
    exact ⟨hT, (show 0 ≤ 1 ∧ 1 ≤ 1 from by (first | omega | (simp only [st_s] <;> omega) | assumption | omega | fail)), (show 1 = 0 → (τ_96.1 17) = (σ.1 17) ∧ (τ_96.1 18) = (σ.1 18) from by (first | (intro z; exfalso; omega) | exact fun _ => ⟨rfl, rfl⟩ | fail)), (show ¬ 1 = 0 → (σ.1 17) + (σ.1 19) ≤ (σ.1 18) from by (first | (intro z; exfalso; omega) | exact fun _ => i96_2 | fail)), (show ¬ 1 = 0 → n2 = 0 → (τ_96.1 17) = (σ.1 17) + (σ.1 19) ∧ (τ_96.1 18) = (σ.1 18) ∧ τ_96.2.1 40 = st (σ.2.1 40) n1 (σ.1 17) ∧ (c_py (τ_96.2.1 43) (τ_96.2.1 39) 0 x10 (τ_96.1 19)) = c_py (σ.2.1 43) (σ.2.1 39) 0 (σ.1 17) (σ.1 19) from by (first | (intro z; exfalso; omega) | (intro _ z; have := i96_3 z; have y := e40 z; refine ⟨this.1, this.2.1, this.2.2, ?_⟩; rw [e_x10, y, i96_6, G43, W19]) | fail)), (show ¬ 1 = 0 → ¬ n2 = 0 → (τ_96.1 17) = (σ.1 17) ∧ (τ_96.1 18) = (σ.1 18) - (σ.1 19) ∧ τ_96.2.1 40 = st (st (σ.2.1 40) n1 (σ.1 17)) n1 ((σ.1 18) - (σ.1 19)) ∧ (c_py (τ_96.2.1 43) (τ_96.2.1 39) 0 x10 (τ_96.1 19)) = c_py (σ.2.1 43) (σ.2.1 39) 0 ((σ.1 18) - (σ.1 19)) (σ.1 19) from by (first | (intro z; exfalso; omega) | (intro _ z; have := i96_4 z; have y := e41 z; refine ⟨this.1, this.2.1, this.2.2, ?_⟩; rw [e_x10, y, i96_6, G43, W19]) | fail)), (show ¬ 1 = 0 → τ_96.2.1 41 = st (σ.2.1 41) n1 (σ.1 19) ∧ τ_96.2.1 42 = st (σ.2.1 42) n1 (1 + n2) from by (first | (intro z; exfalso; omega) | exact fun _ => i96_5 | fail))⟩
  refine ⟨(⟨by (first | omega | (simp only [st_s] <;> omega) | assumption | omega | fail), by (first | omega | (simp only [st_s] <;> omega) | assumption | omega | fail)⟩ : rg (σ.1 17 + σ.1 19)), ?_⟩
  refine ⟨fun c2 => ?_, fun c2 => ?_⟩
  ·
    refine ⟨fun c3 => ?_, fun c3 => ?_⟩
    ·
      refine h32 _ _ _ _ _ ?_
      refine ⟨(show 0 ≤ n1 ∧ n1 < 20000 from by (first | omega | (simp only [st_s] <;> omega) | assumption | omega | fail)), ?_⟩
      replace hT := cT_a (k := 42) (j := n1) hT (show (-2147483648 : Int) ≤ 1 ∧ 1 ≤ 2147483647 from by (first | omega | (simp only [st_s] <;> omega) | assumption | omega | fail))
      refine ⟨(show 0 ≤ n1 ∧ n1 < 20000 from by (first | omega | (simp only [st_s] <;> omega) | assumption | omega | fail)), ?_⟩
      replace hT := cT_a (k := 41) (j := n1) hT (show (-2 : Int) ≤ (σ.1 19) ∧ (σ.1 19) ≤ 1000 from by (first | omega | (simp only [st_s] <;> omega) | assumption | omega | fail))
      replace hT := cT_a (k := 40) (j := n1) hT (show (0 : Int) ≤ (σ.1 17) ∧ (σ.1 17) ≤ 42000 from by (first | omega | (simp only [st_s] <;> omega) | assumption | omega | fail))
      refine ⟨fun c6 => ?_, fun c6 => ?_⟩
      ·
        refine ⟨(⟨by (first | omega | (simp only [st_s] <;> omega) | assumption | omega | fail), by (first | omega | (simp only [st_s] <;> omega) | assumption | omega | fail)⟩ : rg (σ.1 17 + σ.1 19)), ?_⟩
        replace hT := cT_v (i := 17) hT (show 0 ≤ (σ.1 17 + σ.1 19) ∧ (σ.1 17 + σ.1 19) ≤ 42000 from by (first | omega | (simp only [st_s] <;> omega) | assumption | omega | fail))
        exact l_96 _ _ hT (show σ.1 19 = σ.1 19 from by first | exact W19 | omega) G43 (show n1 = n1 from by (first | omega | (simp only [st_s] <;> omega) | assumption | omega | fail)) (show (σ.1 17) + (σ.1 19) ≤ (σ.1 18) from by (first | omega | (simp only [st_s] <;> omega) | assumption | omega | fail)) (show n2 = 0 → ((σ.1 17 + σ.1 19)) = (σ.1 17) + (σ.1 19) ∧ (σ.1 18) = (σ.1 18) ∧ (st (σ.2.1 40) n1 (σ.1 17)) = st (σ.2.1 40) n1 (σ.1 17) from by (intro z; first | (exfalso; omega) | exact ⟨rfl, rfl, rfl⟩ | (refine ⟨by omega, by omega, ?_⟩; first | rfl | (rw [g40_τ_32])))) (show ¬ n2 = 0 → ((σ.1 17 + σ.1 19)) = (σ.1 17) ∧ (σ.1 18) = (σ.1 18) - (σ.1 19) ∧ (st (σ.2.1 40) n1 (σ.1 17)) = st (st (σ.2.1 40) n1 (σ.1 17)) n1 ((σ.1 18) - (σ.1 19)) from by (intro z; first | (exfalso; omega) | exact ⟨rfl, rfl, rfl⟩ | (refine ⟨by omega, by omega, ?_⟩; first | rfl | (rw [g40_τ_32])))) (show (st (σ.2.1 41) n1 (σ.1 19)) = st (σ.2.1 41) n1 (σ.1 19) ∧ (st (σ.2.1 42) n1 1) = st (σ.2.1 42) n1 (1 + n2) from by (first | (exact ⟨rfl, by rw [show n2 = 0 from by omega]; rfl⟩) | (exact ⟨rfl, by rw [show n2 = 1 from by omega]; rfl⟩) | fail)) (show σ.2.1 39 = σ.2.1 39 from by rfl)
      ·
        refine ⟨(⟨by (first | omega | (simp only [st_s] <;> omega) | assumption | omega | fail), by (first | omega | (simp only [st_s] <;> omega) | assumption | omega | fail)⟩ : rg (σ.1 18 - σ.1 19)), ?_⟩
        replace hT := cT_v (i := 18) hT (show 0 ≤ (σ.1 18 - σ.1 19) ∧ (σ.1 18 - σ.1 19) ≤ 42000 from by (first | omega | (simp only [st_s] <;> omega) | assumption | omega | fail))
        replace hT := cT_a (k := 40) (j := n1) hT (show (0 : Int) ≤ (σ.1 18 - σ.1 19) ∧ (σ.1 18 - σ.1 19) ≤ 42000 from by (first | omega | (simp only [st_s] <;> omega) | assumption | omega | fail))
        exact l_96 _ _ hT (show σ.1 19 = σ.1 19 from by first | exact W19 | omega) G43 (show n1 = n1 from by (first | omega | (simp only [st_s] <;> omega) | assumption | omega | fail)) (show (σ.1 17) + (σ.1 19) ≤ (σ.1 18) from by (first | omega | (simp only [st_s] <;> omega) | assumption | omega | fail)) (show n2 = 0 → (σ.1 17) = (σ.1 17) + (σ.1 19) ∧ ((σ.1 18 - σ.1 19)) = (σ.1 18) ∧ (st (st (σ.2.1 40) n1 (σ.1 17)) n1 (σ.1 18 - σ.1 19)) = st (σ.2.1 40) n1 (σ.1 17) from by (intro z; first | (exfalso; omega) | exact ⟨rfl, rfl, rfl⟩ | (refine ⟨by omega, by omega, ?_⟩; first | rfl | (rw [g40_τ_32])))) (show ¬ n2 = 0 → (σ.1 17) = (σ.1 17) ∧ ((σ.1 18 - σ.1 19)) = (σ.1 18) - (σ.1 19) ∧ (st (st (σ.2.1 40) n1 (σ.1 17)) n1 (σ.1 18 - σ.1 19)) = st (st (σ.2.1 40) n1 (σ.1 17)) n1 ((σ.1 18) - (σ.1 19)) from by (intro z; first | (exfalso; omega) | exact ⟨rfl, rfl, rfl⟩ | (refine ⟨by omega, by omega, ?_⟩; first | rfl | (rw [g40_τ_32])))) (show (st (σ.2.1 41) n1 (σ.1 19)) = st (σ.2.1 41) n1 (σ.1 19) ∧ (st (σ.2.1 42) n1 1) = st (σ.2.1 42) n1 (1 + n2) from by (first | (exact ⟨rfl, by rw [show n2 = 0 from by omega]; rfl⟩) | (exact ⟨rfl, by rw [show n2 = 1 from by omega]; rfl⟩) | fail)) (show σ.2.1 39 = σ.2.1 39 from by rfl)
    ·
      refine h32 _ _ _ _ _ ?_
      refine ⟨(show 0 ≤ n1 ∧ n1 < 20000 from by (first | omega | (simp only [st_s] <;> omega) | assumption | omega | fail)), ?_⟩
      replace hT := cT_a (k := 42) (j := n1) hT (show (-2147483648 : Int) ≤ 2 ∧ 2 ≤ 2147483647 from by (first | omega | (simp only [st_s] <;> omega) | assumption | omega | fail))
      refine ⟨(show 0 ≤ n1 ∧ n1 < 20000 from by (first | omega | (simp only [st_s] <;> omega) | assumption | omega | fail)), ?_⟩
      replace hT := cT_a (k := 41) (j := n1) hT (show (-2 : Int) ≤ (σ.1 19) ∧ (σ.1 19) ≤ 1000 from by (first | omega | (simp only [st_s] <;> omega) | assumption | omega | fail))
      replace hT := cT_a (k := 40) (j := n1) hT (show (0 : Int) ≤ (σ.1 17) ∧ (σ.1 17) ≤ 42000 from by (first | omega | (simp only [st_s] <;> omega) | assumption | omega | fail))
      refine ⟨fun c6 => ?_, fun c6 => ?_⟩
      ·
        refine ⟨(⟨by (first | omega | (simp only [st_s] <;> omega) | assumption | omega | fail), by (first | omega | (simp only [st_s] <;> omega) | assumption | omega | fail)⟩ : rg (σ.1 17 + σ.1 19)), ?_⟩
        replace hT := cT_v (i := 17) hT (show 0 ≤ (σ.1 17 + σ.1 19) ∧ (σ.1 17 + σ.1 19) ≤ 42000 from by (first | omega | (simp only [st_s] <;> omega) | assumption | omega | fail))
        exact l_96 _ _ hT (show σ.1 19 = σ.1 19 from by first | exact W19 | omega) G43 (show n1 = n1 from by (first | omega | (simp only [st_s] <;> omega) | assumption | omega | fail)) (show (σ.1 17) + (σ.1 19) ≤ (σ.1 18) from by (first | omega | (simp only [st_s] <;> omega) | assumption | omega | fail)) (show n2 = 0 → ((σ.1 17 + σ.1 19)) = (σ.1 17) + (σ.1 19) ∧ (σ.1 18) = (σ.1 18) ∧ (st (σ.2.1 40) n1 (σ.1 17)) = st (σ.2.1 40) n1 (σ.1 17) from by (intro z; first | (exfalso; omega) | exact ⟨rfl, rfl, rfl⟩ | (refine ⟨by omega, by omega, ?_⟩; first | rfl | (rw [g40_τ_32])))) (show ¬ n2 = 0 → ((σ.1 17 + σ.1 19)) = (σ.1 17) ∧ (σ.1 18) = (σ.1 18) - (σ.1 19) ∧ (st (σ.2.1 40) n1 (σ.1 17)) = st (st (σ.2.1 40) n1 (σ.1 17)) n1 ((σ.1 18) - (σ.1 19)) from by (intro z; first | (exfalso; omega) | exact ⟨rfl, rfl, rfl⟩ | (refine ⟨by omega, by omega, ?_⟩; first | rfl | (rw [g40_τ_32])))) (show (st (σ.2.1 41) n1 (σ.1 19)) = st (σ.2.1 41) n1 (σ.1 19) ∧ (st (σ.2.1 42) n1 2) = st (σ.2.1 42) n1 (1 + n2) from by (first | (exact ⟨rfl, by rw [show n2 = 0 from by omega]; rfl⟩) | (exact ⟨rfl, by rw [show n2 = 1 from by omega]; rfl⟩) | fail)) (show σ.2.1 39 = σ.2.1 39 from by rfl)
      ·
        refine ⟨(⟨by (first | omega | (simp only [st_s] <;> omega) | assumption | omega | fail), by (first | omega | (simp only [st_s] <;> omega) | assumption | omega | fail)⟩ : rg (σ.1 18 - σ.1 19)), ?_⟩
        replace hT := cT_v (i := 18) hT (show 0 ≤ (σ.1 18 - σ.1 19) ∧ (σ.1 18 - σ.1 19) ≤ 42000 from by (first | omega | (simp only [st_s] <;> omega) | assumption | omega | fail))
        replace hT := cT_a (k := 40) (j := n1) hT (show (0 : Int) ≤ (σ.1 18 - σ.1 19) ∧ (σ.1 18 - σ.1 19) ≤ 42000 from by (first | omega | (simp only [st_s] <;> omega) | assumption | omega | fail))
        exact l_96 _ _ hT (show σ.1 19 = σ.1 19 from by first | exact W19 | omega) G43 (show n1 = n1 from by (first | omega | (simp only [st_s] <;> omega) | assumption | omega | fail)) (show (σ.1 17) + (σ.1 19) ≤ (σ.1 18) from by (first | omega | (simp only [st_s] <;> omega) | assumption | omega | fail)) (show n2 = 0 → (σ.1 17) = (σ.1 17) + (σ.1 19) ∧ ((σ.1 18 - σ.1 19)) = (σ.1 18) ∧ (st (st (σ.2.1 40) n1 (σ.1 17)) n1 (σ.1 18 - σ.1 19)) = st (σ.2.1 40) n1 (σ.1 17) from by (intro z; first | (exfalso; omega) | exact ⟨rfl, rfl, rfl⟩ | (refine ⟨by omega, by omega, ?_⟩; first | rfl | (rw [g40_τ_32])))) (show ¬ n2 = 0 → (σ.1 17) = (σ.1 17) ∧ ((σ.1 18 - σ.1 19)) = (σ.1 18) - (σ.1 19) ∧ (st (st (σ.2.1 40) n1 (σ.1 17)) n1 (σ.1 18 - σ.1 19)) = st (st (σ.2.1 40) n1 (σ.1 17)) n1 ((σ.1 18) - (σ.1 19)) from by (intro z; first | (exfalso; omega) | exact ⟨rfl, rfl, rfl⟩ | (refine ⟨by omega, by omega, ?_⟩; first | rfl | (rw [g40_τ_32])))) (show (st (σ.2.1 41) n1 (σ.1 19)) = st (σ.2.1 41) n1 (σ.1 19) ∧ (st (σ.2.1 42) n1 2) = st (σ.2.1 42) n1 (1 + n2) from by (first | (exact ⟨rfl, by rw [show n2 = 0 from by omega]; rfl⟩) | (exact ⟨rfl, by rw [show n2 = 1 from by omega]; rfl⟩) | fail)) (show σ.2.1 39 = σ.2.1 39 from by rfl)
  ·
    exact ⟨hT, (show 0 ≤ 0 ∧ 0 ≤ 1 from by (first | omega | (simp only [st_s] <;> omega) | assumption | omega | fail)), (show 0 = 0 → (σ.1 17) = (σ.1 17) ∧ (σ.1 18) = (σ.1 18) from by (first | (intro z; exfalso; omega) | exact fun _ => ⟨rfl, rfl⟩ | fail)), (show ¬ 0 = 0 → (σ.1 17) + (σ.1 19) ≤ (σ.1 18) from by (first | (intro z; exfalso; omega) | exact fun _ => i96_2 | fail)), (show ¬ 0 = 0 → n2 = 0 → (σ.1 17) = (σ.1 17) + (σ.1 19) ∧ (σ.1 18) = (σ.1 18) ∧ σ.2.1 40 = st (σ.2.1 40) n1 (σ.1 17) ∧ σ.2.1 39 = c_py (σ.2.1 43) (σ.2.1 39) 0 (σ.1 17) (σ.1 19) from by (first | (intro z; exfalso; omega) | (intro _ z; have := i96_3 z; have y := e40 z; refine ⟨this.1, this.2.1, this.2.2, ?_⟩; rw [e_x10, y, i96_6, G43, W19]) | fail)), (show ¬ 0 = 0 → ¬ n2 = 0 → (σ.1 17) = (σ.1 17) ∧ (σ.1 18) = (σ.1 18) - (σ.1 19) ∧ σ.2.1 40 = st (st (σ.2.1 40) n1 (σ.1 17)) n1 ((σ.1 18) - (σ.1 19)) ∧ σ.2.1 39 = c_py (σ.2.1 43) (σ.2.1 39) 0 ((σ.1 18) - (σ.1 19)) (σ.1 19) from by (first | (intro z; exfalso; omega) | (intro _ z; have := i96_4 z; have y := e41 z; refine ⟨this.1, this.2.1, this.2.2, ?_⟩; rw [e_x10, y, i96_6, G43, W19]) | fail)), (show ¬ 0 = 0 → σ.2.1 41 = st (σ.2.1 41) n1 (σ.1 19) ∧ σ.2.1 42 = st (σ.2.1 42) n1 (1 + n2) from by (first | (intro z; exfalso; omega) | exact fun _ => i96_5 | fail))⟩
set_option maxHeartbeats 1000000 in
theorem K_X6_isEssential {n1 : Int} {n2 : Int} {σ : S0} (hT : c_T σ) (p1 : 0 ≤ n1) (p2 : n1 < 20000) (p3 : 0 ≤ σ.2.1 41 n1) (p4 : σ.2.1 40 n1 + σ.2.1 41 n1 ≤ 42000) (p5 : 0 ≤ n2) (p6 : n2 < 1500) (p7 : σ.2.1 14 n2 ≤ σ.2.1 14 (n2 + 1)) (p8 : J_bp (σ.2.1 44) (σ.2.1 45)) : W_X6_isEssential n1 n2 σ (fun (x : Int) => (0 ≤ x ∧ x ≤ 1)) := by
  have A14 : ∀ j, 0 ≤ σ.2.1 14 j ∧ σ.2.1 14 j ≤ 30000 := fun j => hT.2 14 j
  have A40 : ∀ j, 0 ≤ σ.2.1 40 j ∧ σ.2.1 40 j ≤ 42000 := fun j => hT.2 40 j
  have A41 : ∀ j, (-2) ≤ σ.2.1 41 j ∧ σ.2.1 41 j ≤ 1000 := fun j => hT.2 41 j
  have A44 : ∀ j, 0 ≤ σ.2.1 44 j ∧ σ.2.1 44 j ≤ 42000 := fun j => hT.2 44 j
  have A45 : ∀ j, 0 ≤ σ.2.1 45 j ∧ σ.2.1 45 j ≤ 1000 := fun j => hT.2 45 j
  intro P28 P75 P93 h28 h75 h93
  have bb := A14 (n2 + 1)
  have ba := A14 n2
  have BP : J_bp (σ.2.1 44) (σ.2.1 45) := p8
  have BP_0 := BP
  have l_28 : ∀ (m_28 : Nat) (u3_28 : Int) (u4_28 : Int) (u5_28 : Int), 30001 - u5_28 < (m_28 : Int) → (σ.2.1 14 n2 ≤ u5_28) → (u5_28 ≤ 30000) → (0 ≤ u3_28) → (u4_28 ≤ 42000) → (u3_28 ≤ u4_28) → P28 n2 u3_28 u4_28 u5_28 := by
    intro m_28
    induction m_28 with
    | zero =>
      intro u3_28 u4_28 u5_28 hm i28_1 i28_2 i28_3 i28_4 i28_5
      exfalso; (first | omega | (simp only [st_s] <;> omega) | assumption | omega | fail)
    | succ m_28 ih_28 =>
      intro u3_28 u4_28 u5_28 hm_28 i28_1 i28_2 i28_3 i28_4 i28_5
      refine h28 n2 u3_28 u4_28 u5_28 ?_
      refine ⟨(show 0 ≤ (n2 + 1) ∧ (n2 + 1) < 1501 from by (first | omega | (simp only [st_s] <;> omega) | assumption | omega | fail)), ?_⟩
      intro x8 r_x8 e_x8
      have b_x8 : 0 ≤ x8 ∧ x8 ≤ 30000 := by rw [e_x8]; exact hT.2 14 _
      refine ⟨fun c9 => ?_, fun c9 => ?_⟩
      ·
        refine ⟨fun c10 => ?_, fun c10 => ?_⟩
        ·
          exact (show 0 ≤ 0 ∧ 0 ≤ 1 from by (first | omega | (simp only [st_s] <;> omega) | assumption | omega | fail))
        ·
          exact (show 0 ≤ 1 ∧ 1 ≤ 1 from by (first | omega | (simp only [st_s] <;> omega) | assumption | omega | fail))
      ·
        refine ⟨(show 0 ≤ u5_28 ∧ u5_28 < 30000 from by (first | omega | (simp only [st_s] <;> omega) | assumption | omega | fail)), ?_⟩
        intro x12 r_x12 e_x12
        have b_x12 : 0 ≤ x12 ∧ x12 ≤ 999 := by rw [e_x12]; exact hT.2 15 _
        intro x13 r_x13 e_x13
        have b_x13 : (-1) ≤ x13 ∧ x13 ≤ 1499 := by rw [e_x13]; exact hT.2 16 _
        refine ⟨fun c14 => ?_, fun c14 => ?_⟩
        ·
          refine h75 _ _ _ _ _ _ ?_
          refine ⟨fun c15 => ?_, fun c15 => ?_⟩
          ·
            refine ⟨(show 0 ≤ x12 ∧ x12 < 1000 from by (first | omega | (simp only [st_s] <;> omega) | assumption | omega | fail)), ?_⟩
            intro x17 r_x17 e_x17
            have b_x17 : 0 ≤ x17 ∧ x17 ≤ 1000 := by rw [e_x17]; exact hT.2 45 _
            refine h93 _ _ _ _ _ _ _ ?_
            refine ⟨(⟨by (first | omega | (simp only [st_s] <;> omega) | assumption | omega | fail), by (first | omega | (simp only [st_s] <;> omega) | assumption | omega | fail)⟩ : rg (u3_28 + x17)), ?_⟩
            refine ⟨fun c19 => ?_, fun c19 => ?_⟩
            ·
              refine ⟨fun c20 => ?_, fun c20 => ?_⟩
              ·
                refine ⟨(show 0 ≤ x12 ∧ x12 < 1000 from by (first | omega | (simp only [st_s] <;> omega) | assumption | omega | fail)), ?_⟩
                intro x22 r_x22 e_x22
                have b_x22 : 0 ≤ x22 ∧ x22 ≤ 42000 := by rw [e_x22]; exact hT.2 44 _
                have bpv := p8 x12
                have bpz := A45 x12
                refine ⟨_, K_X6_isSame hT (show 0 ≤ x22 from by (first | omega | (simp only [st_s] <;> omega) | assumption | omega | fail)) (show 0 ≤ u3_28 from by (first | omega | (simp only [st_s] <;> omega) | assumption | omega | fail)) (show x22 + x17 ≤ 42000 from by (first | omega | (simp only [st_s] <;> omega) | assumption | omega | fail)) (show u3_28 + x17 ≤ 42000 from by (first | omega | (simp only [st_s] <;> omega) | assumption | omega | fail)), ?_⟩
                intro x24 r_x24 hq
                have q23_1 := hq
                replace q23_1 : 0 ≤ x24 ∧ x24 ≤ 1 := q23_1
                refine ⟨fun c26 => ?_, fun c26 => ?_⟩
                ·
                  refine ⟨(⟨by (first | omega | (simp only [st_s] <;> omega) | assumption | omega | fail), by (first | omega | (simp only [st_s] <;> omega) | assumption | omega | fail)⟩ : rg (u5_28 + 1)), ?_⟩
                  exact ih_28 _ _ _ (show (30001 - (u5_28 + 1) : Int) < ((m_28 : Nat) : Int) from by ((first | omega | (simp only [st_s] <;> omega) | assumption | omega | fail))) (show σ.2.1 14 n2 ≤ (u5_28 + 1) from by (first | omega | (simp only [st_s] <;> omega) | assumption | omega | fail)) (show (u5_28 + 1) ≤ 30000 from by (first | omega | (simp only [st_s] <;> omega) | assumption | omega | fail)) (show 0 ≤ (u3_28 + x17) from by (first | omega | (simp only [st_s] <;> omega) | assumption | omega | fail)) (show u4_28 ≤ 42000 from by (first | omega | (simp only [st_s] <;> omega) | assumption | omega | fail)) (show (u3_28 + x17) ≤ u4_28 from by (first | omega | (simp only [st_s] <;> omega) | assumption | omega | fail))
                ·
                  exact (show 0 ≤ 0 ∧ 0 ≤ 1 from by (first | omega | (simp only [st_s] <;> omega) | assumption | omega | fail))
              ·
                refine ⟨(show 0 ≤ u3_28 ∧ u3_28 < 42000 from by (first | omega | (simp only [st_s] <;> omega) | assumption | omega | fail)), ?_⟩
                intro x29 r_x29 e_x29
                have b_x29 : 0 ≤ x29 ∧ x29 ≤ 1060 := by rw [e_x29]; exact hT.2 39 _
                refine ⟨fun c30 => ?_, fun c30 => ?_⟩
                ·
                  refine ⟨(⟨by (first | omega | (simp only [st_s] <;> omega) | assumption | omega | fail), by (first | omega | (simp only [st_s] <;> omega) | assumption | omega | fail)⟩ : rg (u5_28 + 1)), ?_⟩
                  exact ih_28 _ _ _ (show (30001 - (u5_28 + 1) : Int) < ((m_28 : Nat) : Int) from by ((first | omega | (simp only [st_s] <;> omega) | assumption | omega | fail))) (show σ.2.1 14 n2 ≤ (u5_28 + 1) from by (first | omega | (simp only [st_s] <;> omega) | assumption | omega | fail)) (show (u5_28 + 1) ≤ 30000 from by (first | omega | (simp only [st_s] <;> omega) | assumption | omega | fail)) (show 0 ≤ (u3_28 + x17) from by (first | omega | (simp only [st_s] <;> omega) | assumption | omega | fail)) (show u4_28 ≤ 42000 from by (first | omega | (simp only [st_s] <;> omega) | assumption | omega | fail)) (show (u3_28 + x17) ≤ u4_28 from by (first | omega | (simp only [st_s] <;> omega) | assumption | omega | fail))
                ·
                  exact (show 0 ≤ 0 ∧ 0 ≤ 1 from by (first | omega | (simp only [st_s] <;> omega) | assumption | omega | fail))
            ·
              exact (show 0 ≤ 0 ∧ 0 ≤ 1 from by (first | omega | (simp only [st_s] <;> omega) | assumption | omega | fail))
          ·
            refine h93 _ _ _ _ _ _ _ ?_
            refine ⟨(⟨by (first | omega | (simp only [st_s] <;> omega) | assumption | omega | fail), by (first | omega | (simp only [st_s] <;> omega) | assumption | omega | fail)⟩ : rg (u3_28 + 1)), ?_⟩
            refine ⟨fun c19 => ?_, fun c19 => ?_⟩
            ·
              refine ⟨fun c20 => ?_, fun c20 => ?_⟩
              ·
                refine ⟨(show 0 ≤ x12 ∧ x12 < 1000 from by (first | omega | (simp only [st_s] <;> omega) | assumption | omega | fail)), ?_⟩
                intro x22 r_x22 e_x22
                have b_x22 : 0 ≤ x22 ∧ x22 ≤ 42000 := by rw [e_x22]; exact hT.2 44 _
                have bpv := p8 x12
                have bpz := A45 x12
                refine ⟨_, K_X6_isSame hT (show 0 ≤ x22 from by (first | omega | (simp only [st_s] <;> omega) | assumption | omega | fail)) (show 0 ≤ u3_28 from by (first | omega | (simp only [st_s] <;> omega) | assumption | omega | fail)) (show x22 + (1 : Int) ≤ 42000 from by (first | omega | (simp only [st_s] <;> omega) | assumption | omega | fail)) (show u3_28 + (1 : Int) ≤ 42000 from by (first | omega | (simp only [st_s] <;> omega) | assumption | omega | fail)), ?_⟩
                intro x24 r_x24 hq
                have q23_1 := hq
                replace q23_1 : 0 ≤ x24 ∧ x24 ≤ 1 := q23_1
                refine ⟨fun c26 => ?_, fun c26 => ?_⟩
                ·
                  refine ⟨(⟨by (first | omega | (simp only [st_s] <;> omega) | assumption | omega | fail), by (first | omega | (simp only [st_s] <;> omega) | assumption | omega | fail)⟩ : rg (u5_28 + 1)), ?_⟩
                  exact ih_28 _ _ _ (show (30001 - (u5_28 + 1) : Int) < ((m_28 : Nat) : Int) from by ((first | omega | (simp only [st_s] <;> omega) | assumption | omega | fail))) (show σ.2.1 14 n2 ≤ (u5_28 + 1) from by (first | omega | (simp only [st_s] <;> omega) | assumption | omega | fail)) (show (u5_28 + 1) ≤ 30000 from by (first | omega | (simp only [st_s] <;> omega) | assumption | omega | fail)) (show 0 ≤ (u3_28 + 1) from by (first | omega | (simp only [st_s] <;> omega) | assumption | omega | fail)) (show u4_28 ≤ 42000 from by (first | omega | (simp only [st_s] <;> omega) | assumption | omega | fail)) (show (u3_28 + 1) ≤ u4_28 from by (first | omega | (simp only [st_s] <;> omega) | assumption | omega | fail))
                ·
                  exact (show 0 ≤ 0 ∧ 0 ≤ 1 from by (first | omega | (simp only [st_s] <;> omega) | assumption | omega | fail))
              ·
                refine ⟨(show 0 ≤ u3_28 ∧ u3_28 < 42000 from by (first | omega | (simp only [st_s] <;> omega) | assumption | omega | fail)), ?_⟩
                intro x29 r_x29 e_x29
                have b_x29 : 0 ≤ x29 ∧ x29 ≤ 1060 := by rw [e_x29]; exact hT.2 39 _
                refine ⟨fun c30 => ?_, fun c30 => ?_⟩
                ·
                  refine ⟨(⟨by (first | omega | (simp only [st_s] <;> omega) | assumption | omega | fail), by (first | omega | (simp only [st_s] <;> omega) | assumption | omega | fail)⟩ : rg (u5_28 + 1)), ?_⟩
                  exact ih_28 _ _ _ (show (30001 - (u5_28 + 1) : Int) < ((m_28 : Nat) : Int) from by ((first | omega | (simp only [st_s] <;> omega) | assumption | omega | fail))) (show σ.2.1 14 n2 ≤ (u5_28 + 1) from by (first | omega | (simp only [st_s] <;> omega) | assumption | omega | fail)) (show (u5_28 + 1) ≤ 30000 from by (first | omega | (simp only [st_s] <;> omega) | assumption | omega | fail)) (show 0 ≤ (u3_28 + 1) from by (first | omega | (simp only [st_s] <;> omega) | assumption | omega | fail)) (show u4_28 ≤ 42000 from by (first | omega | (simp only [st_s] <;> omega) | assumption | omega | fail)) (show (u3_28 + 1) ≤ u4_28 from by (first | omega | (simp only [st_s] <;> omega) | assumption | omega | fail))
                ·
                  exact (show 0 ≤ 0 ∧ 0 ≤ 1 from by (first | omega | (simp only [st_s] <;> omega) | assumption | omega | fail))
            ·
              exact (show 0 ≤ 0 ∧ 0 ≤ 1 from by (first | omega | (simp only [st_s] <;> omega) | assumption | omega | fail))
        ·
          refine h75 _ _ _ _ _ _ ?_
          refine ⟨fun c15 => ?_, fun c15 => ?_⟩
          ·
            refine ⟨(show 0 ≤ x12 ∧ x12 < 1000 from by (first | omega | (simp only [st_s] <;> omega) | assumption | omega | fail)), ?_⟩
            intro x17 r_x17 e_x17
            have b_x17 : 0 ≤ x17 ∧ x17 ≤ 1000 := by rw [e_x17]; exact hT.2 45 _
            refine h93 _ _ _ _ _ _ _ ?_
            refine ⟨(⟨by (first | omega | (simp only [st_s] <;> omega) | assumption | omega | fail), by (first | omega | (simp only [st_s] <;> omega) | assumption | omega | fail)⟩ : rg (u3_28 + x17)), ?_⟩
            refine ⟨fun c19 => ?_, fun c19 => ?_⟩
            ·
              refine ⟨fun c20 => ?_, fun c20 => ?_⟩
              ·
                refine ⟨(show 0 ≤ x12 ∧ x12 < 1000 from by (first | omega | (simp only [st_s] <;> omega) | assumption | omega | fail)), ?_⟩
                intro x22 r_x22 e_x22
                have b_x22 : 0 ≤ x22 ∧ x22 ≤ 42000 := by rw [e_x22]; exact hT.2 44 _
                have bpv := p8 x12
                have bpz := A45 x12
                refine ⟨_, K_X6_isSame hT (show 0 ≤ x22 from by (first | omega | (simp only [st_s] <;> omega) | assumption | omega | fail)) (show 0 ≤ u3_28 from by (first | omega | (simp only [st_s] <;> omega) | assumption | omega | fail)) (show x22 + x17 ≤ 42000 from by (first | omega | (simp only [st_s] <;> omega) | assumption | omega | fail)) (show u3_28 + x17 ≤ 42000 from by (first | omega | (simp only [st_s] <;> omega) | assumption | omega | fail)), ?_⟩
                intro x24 r_x24 hq
                have q23_1 := hq
                replace q23_1 : 0 ≤ x24 ∧ x24 ≤ 1 := q23_1
                refine ⟨fun c26 => ?_, fun c26 => ?_⟩
                ·
                  refine ⟨(⟨by (first | omega | (simp only [st_s] <;> omega) | assumption | omega | fail), by (first | omega | (simp only [st_s] <;> omega) | assumption | omega | fail)⟩ : rg (u5_28 + 1)), ?_⟩
                  exact ih_28 _ _ _ (show (30001 - (u5_28 + 1) : Int) < ((m_28 : Nat) : Int) from by ((first | omega | (simp only [st_s] <;> omega) | assumption | omega | fail))) (show σ.2.1 14 n2 ≤ (u5_28 + 1) from by (first | omega | (simp only [st_s] <;> omega) | assumption | omega | fail)) (show (u5_28 + 1) ≤ 30000 from by (first | omega | (simp only [st_s] <;> omega) | assumption | omega | fail)) (show 0 ≤ (u3_28 + x17) from by (first | omega | (simp only [st_s] <;> omega) | assumption | omega | fail)) (show u4_28 ≤ 42000 from by (first | omega | (simp only [st_s] <;> omega) | assumption | omega | fail)) (show (u3_28 + x17) ≤ u4_28 from by (first | omega | (simp only [st_s] <;> omega) | assumption | omega | fail))
                ·
                  exact (show 0 ≤ 0 ∧ 0 ≤ 1 from by (first | omega | (simp only [st_s] <;> omega) | assumption | omega | fail))
              ·
                refine ⟨(show 0 ≤ u3_28 ∧ u3_28 < 42000 from by (first | omega | (simp only [st_s] <;> omega) | assumption | omega | fail)), ?_⟩
                intro x29 r_x29 e_x29
                have b_x29 : 0 ≤ x29 ∧ x29 ≤ 1060 := by rw [e_x29]; exact hT.2 39 _
                refine ⟨fun c30 => ?_, fun c30 => ?_⟩
                ·
                  refine ⟨(⟨by (first | omega | (simp only [st_s] <;> omega) | assumption | omega | fail), by (first | omega | (simp only [st_s] <;> omega) | assumption | omega | fail)⟩ : rg (u5_28 + 1)), ?_⟩
                  exact ih_28 _ _ _ (show (30001 - (u5_28 + 1) : Int) < ((m_28 : Nat) : Int) from by ((first | omega | (simp only [st_s] <;> omega) | assumption | omega | fail))) (show σ.2.1 14 n2 ≤ (u5_28 + 1) from by (first | omega | (simp only [st_s] <;> omega) | assumption | omega | fail)) (show (u5_28 + 1) ≤ 30000 from by (first | omega | (simp only [st_s] <;> omega) | assumption | omega | fail)) (show 0 ≤ (u3_28 + x17) from by (first | omega | (simp only [st_s] <;> omega) | assumption | omega | fail)) (show u4_28 ≤ 42000 from by (first | omega | (simp only [st_s] <;> omega) | assumption | omega | fail)) (show (u3_28 + x17) ≤ u4_28 from by (first | omega | (simp only [st_s] <;> omega) | assumption | omega | fail))
                ·
                  exact (show 0 ≤ 0 ∧ 0 ≤ 1 from by (first | omega | (simp only [st_s] <;> omega) | assumption | omega | fail))
            ·
              exact (show 0 ≤ 0 ∧ 0 ≤ 1 from by (first | omega | (simp only [st_s] <;> omega) | assumption | omega | fail))
          ·
            refine h93 _ _ _ _ _ _ _ ?_
            refine ⟨(⟨by (first | omega | (simp only [st_s] <;> omega) | assumption | omega | fail), by (first | omega | (simp only [st_s] <;> omega) | assumption | omega | fail)⟩ : rg (u3_28 + 1)), ?_⟩
            refine ⟨fun c19 => ?_, fun c19 => ?_⟩
            ·
              refine ⟨fun c20 => ?_, fun c20 => ?_⟩
              ·
                refine ⟨(show 0 ≤ x12 ∧ x12 < 1000 from by (first | omega | (simp only [st_s] <;> omega) | assumption | omega | fail)), ?_⟩
                intro x22 r_x22 e_x22
                have b_x22 : 0 ≤ x22 ∧ x22 ≤ 42000 := by rw [e_x22]; exact hT.2 44 _
                have bpv := p8 x12
                have bpz := A45 x12
                refine ⟨_, K_X6_isSame hT (show 0 ≤ x22 from by (first | omega | (simp only [st_s] <;> omega) | assumption | omega | fail)) (show 0 ≤ u3_28 from by (first | omega | (simp only [st_s] <;> omega) | assumption | omega | fail)) (show x22 + (1 : Int) ≤ 42000 from by (first | omega | (simp only [st_s] <;> omega) | assumption | omega | fail)) (show u3_28 + (1 : Int) ≤ 42000 from by (first | omega | (simp only [st_s] <;> omega) | assumption | omega | fail)), ?_⟩
                intro x24 r_x24 hq
                have q23_1 := hq
                replace q23_1 : 0 ≤ x24 ∧ x24 ≤ 1 := q23_1
                refine ⟨fun c26 => ?_, fun c26 => ?_⟩
                ·
                  refine ⟨(⟨by (first | omega | (simp only [st_s] <;> omega) | assumption | omega | fail), by (first | omega | (simp only [st_s] <;> omega) | assumption | omega | fail)⟩ : rg (u5_28 + 1)), ?_⟩
                  exact ih_28 _ _ _ (show (30001 - (u5_28 + 1) : Int) < ((m_28 : Nat) : Int) from by ((first | omega | (simp only [st_s] <;> omega) | assumption | omega | fail))) (show σ.2.1 14 n2 ≤ (u5_28 + 1) from by (first | omega | (simp only [st_s] <;> omega) | assumption | omega | fail)) (show (u5_28 + 1) ≤ 30000 from by (first | omega | (simp only [st_s] <;> omega) | assumption | omega | fail)) (show 0 ≤ (u3_28 + 1) from by (first | omega | (simp only [st_s] <;> omega) | assumption | omega | fail)) (show u4_28 ≤ 42000 from by (first | omega | (simp only [st_s] <;> omega) | assumption | omega | fail)) (show (u3_28 + 1) ≤ u4_28 from by (first | omega | (simp only [st_s] <;> omega) | assumption | omega | fail))
                ·
                  exact (show 0 ≤ 0 ∧ 0 ≤ 1 from by (first | omega | (simp only [st_s] <;> omega) | assumption | omega | fail))
              ·
                refine ⟨(show 0 ≤ u3_28 ∧ u3_28 < 42000 from by (first | omega | (simp only [st_s] <;> omega) | assumption | omega | fail)), ?_⟩
                intro x29 r_x29 e_x29
                have b_x29 : 0 ≤ x29 ∧ x29 ≤ 1060 := by rw [e_x29]; exact hT.2 39 _
                refine ⟨fun c30 => ?_, fun c30 => ?_⟩
                ·
                  refine ⟨(⟨by (first | omega | (simp only [st_s] <;> omega) | assumption | omega | fail), by (first | omega | (simp only [st_s] <;> omega) | assumption | omega | fail)⟩ : rg (u5_28 + 1)), ?_⟩
                  exact ih_28 _ _ _ (show (30001 - (u5_28 + 1) : Int) < ((m_28 : Nat) : Int) from by ((first | omega | (simp only [st_s] <;> omega) | assumption | omega | fail))) (show σ.2.1 14 n2 ≤ (u5_28 + 1) from by (first | omega | (simp only [st_s] <;> omega) | assumption | omega | fail)) (show (u5_28 + 1) ≤ 30000 from by (first | omega | (simp only [st_s] <;> omega) | assumption | omega | fail)) (show 0 ≤ (u3_28 + 1) from by (first | omega | (simp only [st_s] <;> omega) | assumption | omega | fail)) (show u4_28 ≤ 42000 from by (first | omega | (simp only [st_s] <;> omega) | assumption | omega | fail)) (show (u3_28 + 1) ≤ u4_28 from by (first | omega | (simp only [st_s] <;> omega) | assumption | omega | fail))
                ·
                  exact (show 0 ≤ 0 ∧ 0 ≤ 1 from by (first | omega | (simp only [st_s] <;> omega) | assumption | omega | fail))
            ·
              exact (show 0 ≤ 0 ∧ 0 ≤ 1 from by (first | omega | (simp only [st_s] <;> omega) | assumption | omega | fail))
  refine ⟨(show 0 ≤ n1 ∧ n1 < 20000 from by (first | omega | (simp only [st_s] <;> omega) | assumption | omega | fail)), ?_⟩
  intro x2 r_x2 e_x2
  have b_x2 : 0 ≤ x2 ∧ x2 ≤ 42000 := by rw [e_x2]; exact hT.2 40 _
  intro x3 r_x3 e_x3
  have b_x3 : (-2) ≤ x3 ∧ x3 ≤ 1000 := by rw [e_x3]; exact hT.2 41 _
  refine ⟨(show 0 ≤ n2 ∧ n2 < 1501 from by (first | omega | (simp only [st_s] <;> omega) | assumption | omega | fail)), ?_⟩
  intro x5 r_x5 e_x5
  have b_x5 : 0 ≤ x5 ∧ x5 ≤ 30000 := by rw [e_x5]; exact hT.2 14 _
  refine ⟨(⟨by (first | omega | (simp only [st_s] <;> omega) | assumption | omega | fail), by (first | omega | (simp only [st_s] <;> omega) | assumption | omega | fail)⟩ : rg (x2 + x3)), ?_⟩
  exact l_28 ((30001 - x5 : Int).toNat + 1) _ _ _ (show (30001 - x5 : Int) < (((30001 - x5 : Int).toNat + 1 : Nat) : Int) from by ((first | omega | (simp only [st_s] <;> omega) | assumption | omega | fail))) (show σ.2.1 14 n2 ≤ x5 from by (first | omega | (simp only [st_s] <;> omega) | assumption | omega | fail)) (show x5 ≤ 30000 from by (first | omega | (simp only [st_s] <;> omega) | assumption | omega | fail)) (show 0 ≤ x2 from by (first | omega | (simp only [st_s] <;> omega) | assumption | omega | fail)) (show (x2 + x3) ≤ 42000 from by (first | omega | (simp only [st_s] <;> omega) | assumption | omega | fail)) (show x2 ≤ (x2 + x3) from by (first | omega | (simp only [st_s] <;> omega) | assumption | omega | fail))
set_option maxHeartbeats 1000000 in
theorem K_X6_bind {n1 : Int} {n2 : Int} {σ : S0} (hT : c_T σ) (p1 : 0 ≤ n1) (p2 : n1 < (σ.1 7)) (p3 : 2 ≤ σ.2.1 13 n1) (p4 : J_all (σ.1 7) (σ.1 6) (σ.1 13) (σ.1 14) (σ.1 15) (σ.2.1 13) (σ.2.1 14) (σ.2.1 15) (σ.2.1 16) (σ.2.1 10) (σ.2.1 27) (σ.2.1 28) (σ.2.1 29) (σ.2.1 30) (σ.2.1 31) (σ.2.1 32) (σ.2.1 33) (σ.2.1 34) (σ.2.1 35) (σ.2.1 36) (σ.2.1 37)) (p5 : 0 ≤ n2) (p6 : n2 + σ.2.1 28 n1 ≤ 20000) (p7 : J_cf n2 (σ.2.1 28 n1) (σ.2.1 37) (σ.2.1 40) (σ.2.1 41) (σ.2.1 39)) (p8 : J_bp (σ.2.1 44) (σ.2.1 45)) : W_X6_bind n1 n2 σ (fun (x : Int) (τ : S0) => (c_T τ) ∧ (0 ≤ x ∧ x ≤ 1) ∧ (J_bp (τ.2.1 44) (τ.2.1 45)) ∧ (¬ x = 0 → J_bn n1 (τ.2.1 28 n1) (τ.2.1 13) (τ.2.1 14) (τ.2.1 15) (τ.2.1 27) (τ.2.1 29) (τ.2.1 39) (τ.2.1 44) (τ.2.1 45))) := by
  have A10 : ∀ j, (-1) ≤ σ.2.1 10 j ∧ σ.2.1 10 j ≤ 99 := fun j => hT.2 10 j
  have A13 : ∀ j, 0 ≤ σ.2.1 13 j ∧ σ.2.1 13 j ≤ 4 := fun j => hT.2 13 j
  have A14 : ∀ j, 0 ≤ σ.2.1 14 j ∧ σ.2.1 14 j ≤ 30000 := fun j => hT.2 14 j
  have A15 : ∀ j, 0 ≤ σ.2.1 15 j ∧ σ.2.1 15 j ≤ 999 := fun j => hT.2 15 j
  have A16 : ∀ j, (-1) ≤ σ.2.1 16 j ∧ σ.2.1 16 j ≤ 1499 := fun j => hT.2 16 j
  have A27 : ∀ j, 0 ≤ σ.2.1 27 j ∧ σ.2.1 27 j ≤ 90000 := fun j => hT.2 27 j
  have A28 : ∀ j, 0 ≤ σ.2.1 28 j ∧ σ.2.1 28 j ≤ 60 := fun j => hT.2 28 j
  have A29 : ∀ j, 0 ≤ σ.2.1 29 j ∧ σ.2.1 29 j ≤ 1499 := fun j => hT.2 29 j
  have A30 : ∀ j, 0 ≤ σ.2.1 30 j ∧ σ.2.1 30 j ≤ 20000 := fun j => hT.2 30 j
  have A31 : ∀ j, 0 ≤ σ.2.1 31 j ∧ σ.2.1 31 j ≤ 20000 := fun j => hT.2 31 j
  have A32 : ∀ j, 0 ≤ σ.2.1 32 j ∧ σ.2.1 32 j ≤ 999999 := fun j => hT.2 32 j
  have A33 : ∀ j, 0 ≤ σ.2.1 33 j ∧ σ.2.1 33 j ≤ 20000 := fun j => hT.2 33 j
  have A34 : ∀ j, 0 ≤ σ.2.1 34 j ∧ σ.2.1 34 j ≤ 20000 := fun j => hT.2 34 j
  have A35 : ∀ j, 0 ≤ σ.2.1 35 j ∧ σ.2.1 35 j ≤ 1499 := fun j => hT.2 35 j
  have A36 : ∀ j, 0 ≤ σ.2.1 36 j ∧ σ.2.1 36 j ≤ 20000 := fun j => hT.2 36 j
  have A37 : ∀ j, 0 ≤ σ.2.1 37 j ∧ σ.2.1 37 j ≤ 19999 := fun j => hT.2 37 j
  have A39 : ∀ j, 0 ≤ σ.2.1 39 j ∧ σ.2.1 39 j ≤ 1060 := fun j => hT.2 39 j
  have A40 : ∀ j, 0 ≤ σ.2.1 40 j ∧ σ.2.1 40 j ≤ 42000 := fun j => hT.2 40 j
  have A41 : ∀ j, (-2) ≤ σ.2.1 41 j ∧ σ.2.1 41 j ≤ 1000 := fun j => hT.2 41 j
  have A44 : ∀ j, 0 ≤ σ.2.1 44 j ∧ σ.2.1 44 j ≤ 42000 := fun j => hT.2 44 j
  have A45 : ∀ j, 0 ≤ σ.2.1 45 j ∧ σ.2.1 45 j ≤ 1000 := fun j => hT.2 45 j
  have v6 : 0 ≤ σ.1 6 ∧ σ.1 6 ≤ 30000 := hT.1 6
  have v7 : 0 ≤ σ.1 7 ∧ σ.1 7 ≤ 1500 := hT.1 7
  have v13 : 0 ≤ σ.1 13 ∧ σ.1 13 ≤ 90000 := hT.1 13
  have v14 : 0 ≤ σ.1 14 ∧ σ.1 14 ≤ 20000 := hT.1 14
  have v15 : 0 ≤ σ.1 15 ∧ σ.1 15 ≤ 20000 := hT.1 15
  have W6 : σ.1 6 = σ.1 6 := rfl
  have W7 : σ.1 7 = σ.1 7 := rfl
  have W13 : σ.1 13 = σ.1 13 := rfl
  have W14 : σ.1 14 = σ.1 14 := rfl
  have W15 : σ.1 15 = σ.1 15 := rfl
  have G10 : σ.2.1 10 = σ.2.1 10 := rfl
  have G13 : σ.2.1 13 = σ.2.1 13 := rfl
  have G14 : σ.2.1 14 = σ.2.1 14 := rfl
  have G15 : σ.2.1 15 = σ.2.1 15 := rfl
  have G16 : σ.2.1 16 = σ.2.1 16 := rfl
  have G27 : σ.2.1 27 = σ.2.1 27 := rfl
  have G28 : σ.2.1 28 = σ.2.1 28 := rfl
  have G29 : σ.2.1 29 = σ.2.1 29 := rfl
  have G30 : σ.2.1 30 = σ.2.1 30 := rfl
  have G31 : σ.2.1 31 = σ.2.1 31 := rfl
  have G32 : σ.2.1 32 = σ.2.1 32 := rfl
  have G33 : σ.2.1 33 = σ.2.1 33 := rfl
  have G34 : σ.2.1 34 = σ.2.1 34 := rfl
  have G35 : σ.2.1 35 = σ.2.1 35 := rfl
  have G36 : σ.2.1 36 = σ.2.1 36 := rfl
  have G37 : σ.2.1 37 = σ.2.1 37 := rfl
  have G39 : σ.2.1 39 = σ.2.1 39 := rfl
  have G40 : σ.2.1 40 = σ.2.1 40 := rfl
  have G41 : σ.2.1 41 = σ.2.1 41 := rfl
  intro P2 h2
  have jf := (p4.1 n1 p1 p2).2.1 p3
  have jb := jf.1
  have CJ0 := p4
  have a28 := A28 n1
  have a27 := A27 n1
  have CJ : J_all (σ.1 7) (σ.1 6) (σ.1 13) (σ.1 14) (σ.1 15) (σ.2.1 13) (σ.2.1 14) (σ.2.1 15) (σ.2.1 16) (σ.2.1 10) (σ.2.1 27) (σ.2.1 28) (σ.2.1 29) (σ.2.1 30) (σ.2.1 31) (σ.2.1 32) (σ.2.1 33) (σ.2.1 34) (σ.2.1 35) (σ.2.1 36) (σ.2.1 37) := p4
  have BP : J_bp (σ.2.1 44) (σ.2.1 45) := p8
  have BP_0 := BP
  have CJ_0 := CJ
  have l_2 : ∀ (m_2 : Nat) (u3_2 : Int) (τ_2 : S0), 61 - u3_2 < (m_2 : Int) → (c_T τ_2) → (τ_2.1 6 = σ.1 6) → (τ_2.1 7 = σ.1 7) → (τ_2.1 13 = σ.1 13) → (τ_2.1 14 = σ.1 14) → (τ_2.1 15 = σ.1 15) → (τ_2.2.1 10 = σ.2.1 10) → (τ_2.2.1 13 = σ.2.1 13) → (τ_2.2.1 14 = σ.2.1 14) → (τ_2.2.1 15 = σ.2.1 15) → (τ_2.2.1 16 = σ.2.1 16) → (τ_2.2.1 27 = σ.2.1 27) → (τ_2.2.1 28 = σ.2.1 28) → (τ_2.2.1 29 = σ.2.1 29) → (τ_2.2.1 30 = σ.2.1 30) → (τ_2.2.1 31 = σ.2.1 31) → (τ_2.2.1 32 = σ.2.1 32) → (τ_2.2.1 33 = σ.2.1 33) → (τ_2.2.1 34 = σ.2.1 34) → (τ_2.2.1 35 = σ.2.1 35) → (τ_2.2.1 36 = σ.2.1 36) → (τ_2.2.1 37 = σ.2.1 37) → (τ_2.2.1 39 = σ.2.1 39) → (τ_2.2.1 40 = σ.2.1 40) → (τ_2.2.1 41 = σ.2.1 41) → (0 ≤ u3_2) → (J_bp (τ_2.2.1 44) (τ_2.2.1 45)) → (J_bn n1 u3_2 (τ_2.2.1 13) (τ_2.2.1 14) (τ_2.2.1 15) (τ_2.2.1 27) (τ_2.2.1 29) (τ_2.2.1 39) (τ_2.2.1 44) (τ_2.2.1 45)) → (u3_2 ≤ σ.2.1 28 n1) → P2 n1 n2 u3_2 τ_2 := by
    intro m_2
    induction m_2 with
    | zero =>
      intro u3_2 τ_2 hm hT W6 W7 W13 W14 W15 G10 G13 G14 G15 G16 G27 G28 G29 G30 G31 G32 G33 G34 G35 G36 G37 G39 G40 G41 i2_1 i2_2 i2_3 i2_4
      have A10 : ∀ j, (-1) ≤ τ_2.2.1 10 j ∧ τ_2.2.1 10 j ≤ 99 := fun j => hT.2 10 j
      have A13 : ∀ j, 0 ≤ τ_2.2.1 13 j ∧ τ_2.2.1 13 j ≤ 4 := fun j => hT.2 13 j
      have A14 : ∀ j, 0 ≤ τ_2.2.1 14 j ∧ τ_2.2.1 14 j ≤ 30000 := fun j => hT.2 14 j
      have A15 : ∀ j, 0 ≤ τ_2.2.1 15 j ∧ τ_2.2.1 15 j ≤ 999 := fun j => hT.2 15 j
      have A16 : ∀ j, (-1) ≤ τ_2.2.1 16 j ∧ τ_2.2.1 16 j ≤ 1499 := fun j => hT.2 16 j
      have A27 : ∀ j, 0 ≤ τ_2.2.1 27 j ∧ τ_2.2.1 27 j ≤ 90000 := fun j => hT.2 27 j
      have A28 : ∀ j, 0 ≤ τ_2.2.1 28 j ∧ τ_2.2.1 28 j ≤ 60 := fun j => hT.2 28 j
      have A29 : ∀ j, 0 ≤ τ_2.2.1 29 j ∧ τ_2.2.1 29 j ≤ 1499 := fun j => hT.2 29 j
      have A30 : ∀ j, 0 ≤ τ_2.2.1 30 j ∧ τ_2.2.1 30 j ≤ 20000 := fun j => hT.2 30 j
      have A31 : ∀ j, 0 ≤ τ_2.2.1 31 j ∧ τ_2.2.1 31 j ≤ 20000 := fun j => hT.2 31 j
      have A32 : ∀ j, 0 ≤ τ_2.2.1 32 j ∧ τ_2.2.1 32 j ≤ 999999 := fun j => hT.2 32 j
      have A33 : ∀ j, 0 ≤ τ_2.2.1 33 j ∧ τ_2.2.1 33 j ≤ 20000 := fun j => hT.2 33 j
      have A34 : ∀ j, 0 ≤ τ_2.2.1 34 j ∧ τ_2.2.1 34 j ≤ 20000 := fun j => hT.2 34 j
      have A35 : ∀ j, 0 ≤ τ_2.2.1 35 j ∧ τ_2.2.1 35 j ≤ 1499 := fun j => hT.2 35 j
      have A36 : ∀ j, 0 ≤ τ_2.2.1 36 j ∧ τ_2.2.1 36 j ≤ 20000 := fun j => hT.2 36 j
      have A37 : ∀ j, 0 ≤ τ_2.2.1 37 j ∧ τ_2.2.1 37 j ≤ 19999 := fun j => hT.2 37 j
      have A39 : ∀ j, 0 ≤ τ_2.2.1 39 j ∧ τ_2.2.1 39 j ≤ 1060 := fun j => hT.2 39 j
      have A40 : ∀ j, 0 ≤ τ_2.2.1 40 j ∧ τ_2.2.1 40 j ≤ 42000 := fun j => hT.2 40 j
      have A41 : ∀ j, (-2) ≤ τ_2.2.1 41 j ∧ τ_2.2.1 41 j ≤ 1000 := fun j => hT.2 41 j
      have A44 : ∀ j, 0 ≤ τ_2.2.1 44 j ∧ τ_2.2.1 44 j ≤ 42000 := fun j => hT.2 44 j
      have A45 : ∀ j, 0 ≤ τ_2.2.1 45 j ∧ τ_2.2.1 45 j ≤ 1000 := fun j => hT.2 45 j
      have v6 : 0 ≤ τ_2.1 6 ∧ τ_2.1 6 ≤ 30000 := hT.1 6
      have v7 : 0 ≤ τ_2.1 7 ∧ τ_2.1 7 ≤ 1500 := hT.1 7
      have v13 : 0 ≤ τ_2.1 13 ∧ τ_2.1 13 ≤ 90000 := hT.1 13
      have v14 : 0 ≤ τ_2.1 14 ∧ τ_2.1 14 ≤ 20000 := hT.1 14
      have v15 : 0 ≤ τ_2.1 15 ∧ τ_2.1 15 ≤ 20000 := hT.1 15
      exfalso; (first | omega | (simp only [st_s] <;> omega) | assumption | omega | fail)
    | succ m_2 ih_2 =>
      intro u3_2 τ_2 hm_2 hT W6 W7 W13 W14 W15 G10 G13 G14 G15 G16 G27 G28 G29 G30 G31 G32 G33 G34 G35 G36 G37 G39 G40 G41 i2_1 i2_2 i2_3 i2_4
      have A10 : ∀ j, (-1) ≤ τ_2.2.1 10 j ∧ τ_2.2.1 10 j ≤ 99 := fun j => hT.2 10 j
      have A13 : ∀ j, 0 ≤ τ_2.2.1 13 j ∧ τ_2.2.1 13 j ≤ 4 := fun j => hT.2 13 j
      have A14 : ∀ j, 0 ≤ τ_2.2.1 14 j ∧ τ_2.2.1 14 j ≤ 30000 := fun j => hT.2 14 j
      have A15 : ∀ j, 0 ≤ τ_2.2.1 15 j ∧ τ_2.2.1 15 j ≤ 999 := fun j => hT.2 15 j
      have A16 : ∀ j, (-1) ≤ τ_2.2.1 16 j ∧ τ_2.2.1 16 j ≤ 1499 := fun j => hT.2 16 j
      have A27 : ∀ j, 0 ≤ τ_2.2.1 27 j ∧ τ_2.2.1 27 j ≤ 90000 := fun j => hT.2 27 j
      have A28 : ∀ j, 0 ≤ τ_2.2.1 28 j ∧ τ_2.2.1 28 j ≤ 60 := fun j => hT.2 28 j
      have A29 : ∀ j, 0 ≤ τ_2.2.1 29 j ∧ τ_2.2.1 29 j ≤ 1499 := fun j => hT.2 29 j
      have A30 : ∀ j, 0 ≤ τ_2.2.1 30 j ∧ τ_2.2.1 30 j ≤ 20000 := fun j => hT.2 30 j
      have A31 : ∀ j, 0 ≤ τ_2.2.1 31 j ∧ τ_2.2.1 31 j ≤ 20000 := fun j => hT.2 31 j
      have A32 : ∀ j, 0 ≤ τ_2.2.1 32 j ∧ τ_2.2.1 32 j ≤ 999999 := fun j => hT.2 32 j
      have A33 : ∀ j, 0 ≤ τ_2.2.1 33 j ∧ τ_2.2.1 33 j ≤ 20000 := fun j => hT.2 33 j
      have A34 : ∀ j, 0 ≤ τ_2.2.1 34 j ∧ τ_2.2.1 34 j ≤ 20000 := fun j => hT.2 34 j
      have A35 : ∀ j, 0 ≤ τ_2.2.1 35 j ∧ τ_2.2.1 35 j ≤ 1499 := fun j => hT.2 35 j
      have A36 : ∀ j, 0 ≤ τ_2.2.1 36 j ∧ τ_2.2.1 36 j ≤ 20000 := fun j => hT.2 36 j
      have A37 : ∀ j, 0 ≤ τ_2.2.1 37 j ∧ τ_2.2.1 37 j ≤ 19999 := fun j => hT.2 37 j
      have A39 : ∀ j, 0 ≤ τ_2.2.1 39 j ∧ τ_2.2.1 39 j ≤ 1060 := fun j => hT.2 39 j
      have A40 : ∀ j, 0 ≤ τ_2.2.1 40 j ∧ τ_2.2.1 40 j ≤ 42000 := fun j => hT.2 40 j
      have A41 : ∀ j, (-2) ≤ τ_2.2.1 41 j ∧ τ_2.2.1 41 j ≤ 1000 := fun j => hT.2 41 j
      have A44 : ∀ j, 0 ≤ τ_2.2.1 44 j ∧ τ_2.2.1 44 j ≤ 42000 := fun j => hT.2 44 j
      have A45 : ∀ j, 0 ≤ τ_2.2.1 45 j ∧ τ_2.2.1 45 j ≤ 1000 := fun j => hT.2 45 j
      have v6 : 0 ≤ τ_2.1 6 ∧ τ_2.1 6 ≤ 30000 := hT.1 6
      have v7 : 0 ≤ τ_2.1 7 ∧ τ_2.1 7 ≤ 1500 := hT.1 7
      have v13 : 0 ≤ τ_2.1 13 ∧ τ_2.1 13 ≤ 90000 := hT.1 13
      have v14 : 0 ≤ τ_2.1 14 ∧ τ_2.1 14 ≤ 20000 := hT.1 14
      have v15 : 0 ≤ τ_2.1 15 ∧ τ_2.1 15 ≤ 20000 := hT.1 15
      have CJ : J_all (τ_2.1 7) (τ_2.1 6) (τ_2.1 13) (τ_2.1 14) (τ_2.1 15) (τ_2.2.1 13) (τ_2.2.1 14) (τ_2.2.1 15) (τ_2.2.1 16) (τ_2.2.1 10) (τ_2.2.1 27) (τ_2.2.1 28) (τ_2.2.1 29) (τ_2.2.1 30) (τ_2.2.1 31) (τ_2.2.1 32) (τ_2.2.1 33) (τ_2.2.1 34) (τ_2.2.1 35) (τ_2.2.1 36) (τ_2.2.1 37) := by rw [show (J_all (τ_2.1 7) (τ_2.1 6) (τ_2.1 13) (τ_2.1 14) (τ_2.1 15) (τ_2.2.1 13) (τ_2.2.1 14) (τ_2.2.1 15) (τ_2.2.1 16) (τ_2.2.1 10) (τ_2.2.1 27) (τ_2.2.1 28) (τ_2.2.1 29) (τ_2.2.1 30) (τ_2.2.1 31) (τ_2.2.1 32) (τ_2.2.1 33) (τ_2.2.1 34) (τ_2.2.1 35) (τ_2.2.1 36) (τ_2.2.1 37)) = (J_all (σ.1 7) (σ.1 6) (σ.1 13) (σ.1 14) (σ.1 15) (σ.2.1 13) (σ.2.1 14) (σ.2.1 15) (σ.2.1 16) (σ.2.1 10) (σ.2.1 27) (σ.2.1 28) (σ.2.1 29) (σ.2.1 30) (σ.2.1 31) (σ.2.1 32) (σ.2.1 33) (σ.2.1 34) (σ.2.1 35) (σ.2.1 36) (σ.2.1 37)) from by rw [W6, W7, W13, W14, W15, G10, G13, G14, G15, G16, G27, G28, G29, G30, G31, G32, G33, G34, G35, G36, G37]]; exact CJ_0
      have BP : J_bp (τ_2.2.1 44) (τ_2.2.1 45) := i2_2
      refine h2 n1 n2 u3_2 τ_2 ?_
      refine ⟨(show 0 ≤ n1 ∧ n1 < 1500 from by (first | omega | (simp only [st_s] <;> omega) | assumption | omega | fail)), ?_⟩
      intro x2 r_x2 e_x2
      have b_x2 : 0 ≤ x2 ∧ x2 ≤ 60 := by rw [e_x2]; exact hT.2 28 _
      rw [G28] at e_x2
      refine ⟨fun c3 => ?_, fun c3 => ?_⟩
      ·
        exact ⟨hT, (show 0 ≤ 1 ∧ 1 ≤ 1 from by (first | omega | (simp only [st_s] <;> omega) | assumption | omega | fail)), (show J_bp (τ_2.2.1 44) (τ_2.2.1 45) from BP), (show ¬ 1 = 0 → J_bn n1 (τ_2.2.1 28 n1) (τ_2.2.1 13) (τ_2.2.1 14) (τ_2.2.1 15) (τ_2.2.1 27) (τ_2.2.1 29) (τ_2.2.1 39) (τ_2.2.1 44) (τ_2.2.1 45) from by (first | (intro z; exfalso; omega) | (intro _; rw [G28, show σ.2.1 28 n1 = u3_2 from by omega]; exact i2_3) | fail))⟩
      ·
        intro x4 r_x4 e_x4
        have b_x4 : 0 ≤ x4 ∧ x4 ≤ 90000 := by rw [e_x4]; exact hT.2 27 _
        rw [G27] at e_x4
        refine ⟨(show 0 ≤ (x4 + u3_2) ∧ (x4 + u3_2) < 90000 from by (first | omega | (simp only [st_s] <;> omega) | assumption | omega | fail)), ?_⟩
        intro x6 r_x6 e_x6
        have b_x6 : 0 ≤ x6 ∧ x6 ≤ 1499 := by rw [e_x6]; exact hT.2 29 _
        rw [G29] at e_x6
        refine ⟨(show 0 ≤ (n2 + u3_2) ∧ (n2 + u3_2) < 20000 from by (first | omega | (simp only [st_s] <;> omega) | assumption | omega | fail)), ?_⟩
        intro x8 r_x8 e_x8
        have b_x8 : 0 ≤ x8 ∧ x8 ≤ 19999 := by rw [e_x8]; exact hT.2 37 _
        rw [G37] at e_x8
        have hj := jf.2.1 u3_2 (by omega) (by omega)
        rw [← e_x4, ← e_x6] at hj
        have jt := (CJ0.1 x6 (by omega) (by omega)).1.1
        have cf := p7 u3_2 (by omega) (by omega)
        rw [← e_x8] at cf
        have b14 := A14 (x6 + 1)
        refine ⟨(show 0 ≤ x6 ∧ x6 < 1500 from by (first | omega | (simp only [st_s] <;> omega) | assumption | omega | fail)), ?_⟩
        intro x10 r_x10 e_x10
        have b_x10 : 0 ≤ x10 ∧ x10 ≤ 4 := by rw [e_x10]; exact hT.2 13 _
        rw [G13] at e_x10
        refine ⟨fun c11 => ?_, fun c11 => ?_⟩
        ·
          refine ⟨(show 0 ≤ x8 ∧ x8 < 20000 from by (first | omega | (simp only [st_s] <;> omega) | assumption | omega | fail)), ?_⟩
          intro x13 r_x13 e_x13
          have b_x13 : (-2) ≤ x13 ∧ x13 ≤ 1000 := by rw [e_x13]; exact hT.2 41 _
          rw [G41] at e_x13
          refine ⟨fun c14 => ?_, fun c14 => ?_⟩
          ·
            exact ⟨hT, (show 0 ≤ 0 ∧ 0 ≤ 1 from by (first | omega | (simp only [st_s] <;> omega) | assumption | omega | fail)), (show J_bp (τ_2.2.1 44) (τ_2.2.1 45) from BP), (show ¬ 0 = 0 → J_bn n1 (τ_2.2.1 28 n1) (τ_2.2.1 13) (τ_2.2.1 14) (τ_2.2.1 15) (τ_2.2.1 27) (τ_2.2.1 29) (τ_2.2.1 39) (τ_2.2.1 44) (τ_2.2.1 45) from by (first | (intro z; exfalso; omega) | (intro _; rw [G28, show σ.2.1 28 n1 = u3_2 from by omega]; exact i2_3) | fail))⟩
          ·
            intro x15 r_x15 e_x15
            have b_x15 : 0 ≤ x15 ∧ x15 ≤ 42000 := by rw [e_x15]; exact hT.2 40 _
            rw [G40] at e_x15
            refine ⟨(show 0 ≤ x15 ∧ x15 < 42000 from by (first | omega | (simp only [st_s] <;> omega) | assumption | omega | fail)), ?_⟩
            intro x17 r_x17 e_x17
            have b_x17 : 0 ≤ x17 ∧ x17 ≤ 1060 := by rw [e_x17]; exact hT.2 39 _
            refine ⟨_, K_X3_typeOf hT (show 0 ≤ x6 from by (first | omega | (simp only [st_s] <;> omega) | assumption | omega | fail)) (show x6 ≤ 1500 from by (first | omega | (simp only [st_s] <;> omega) | assumption | omega | fail)) (show τ_2.2.1 14 x6 < 30000 from by (rw [G14]; omega)), ?_⟩
            intro x19 r_x19 hq
            obtain ⟨q18_1, q18_2⟩ := hq
            replace q18_1 : x19 = τ_2.2.1 15 (τ_2.2.1 14 x6) := q18_1
            replace q18_2 : 0 ≤ x19 ∧ x19 ≤ 999 := q18_2
            refine ⟨fun c21 => ?_, fun c21 => ?_⟩
            ·
              refine ⟨_, K_X3_variableOf hT (show 0 ≤ x6 from by (first | omega | (simp only [st_s] <;> omega) | assumption | omega | fail)) (show x6 ≤ 1500 from by (first | omega | (simp only [st_s] <;> omega) | assumption | omega | fail)) (show τ_2.2.1 14 x6 < 29999 from by (rw [G14]; omega)), ?_⟩
              intro x23 r_x23 hq
              obtain ⟨q22_1, q22_2⟩ := hq
              replace q22_1 : x23 = τ_2.2.1 15 (τ_2.2.1 14 x6 + 1) := q22_1
              replace q22_2 : 0 ≤ x23 ∧ x23 ≤ 999 := q22_2
              rw [G14, G15] at q22_1
              intro x25 r_x25 e_x25
              have b_x25 : 0 ≤ x25 ∧ x25 ≤ 42000 := by rw [e_x25]; exact hT.2 40 _
              rw [G40] at e_x25
              refine ⟨(show 0 ≤ x23 ∧ x23 < 1000 from by (first | omega | (simp only [st_s] <;> omega) | assumption | omega | fail)), ?_⟩
              refine ⟨(⟨by (first | omega | (simp only [st_s] <;> omega) | assumption | omega | fail), by (first | omega | (simp only [st_s] <;> omega) | assumption | omega | fail)⟩ : rg (x25 + 1)), ?_⟩
              replace hT := cT_a (k := 44) (j := x23) hT (show (0 : Int) ≤ (x25 + 1) ∧ (x25 + 1) ≤ 42000 from by (first | omega | (simp only [st_s] <;> omega) | assumption | omega | fail))
              refine ⟨_, K_X3_variableOf hT (show 0 ≤ x6 from by (first | omega | (simp only [st_s] <;> omega) | assumption | omega | fail)) (show x6 ≤ 1500 from by (first | omega | (simp only [st_s] <;> omega) | assumption | omega | fail)) (show τ_2.2.1 14 x6 < 29999 from by (rw [G14]; omega)), ?_⟩
              intro x29 r_x29 hq
              obtain ⟨q28_1, q28_2⟩ := hq
              replace q28_1 : x29 = τ_2.2.1 15 (τ_2.2.1 14 x6 + 1) := q28_1
              replace q28_2 : 0 ≤ x29 ∧ x29 ≤ 999 := q28_2
              rw [G14, G15] at q28_1
              intro x31 r_x31 e_x31
              have b_x31 : (-2) ≤ x31 ∧ x31 ≤ 1000 := by rw [e_x31]; exact hT.2 41 _
              rw [G41] at e_x31
              refine ⟨(show 0 ≤ x29 ∧ x29 < 1000 from by (first | omega | (simp only [st_s] <;> omega) | assumption | omega | fail)), ?_⟩
              refine ⟨(⟨by (first | omega | (simp only [st_s] <;> omega) | assumption | omega | fail), by (first | omega | (simp only [st_s] <;> omega) | assumption | omega | fail)⟩ : rg (x31 - 1)), ?_⟩
              replace hT := cT_a (k := 45) (j := x29) hT (show (0 : Int) ≤ (x31 - 1) ∧ (x31 - 1) ≤ 1000 from by (first | omega | (simp only [st_s] <;> omega) | assumption | omega | fail))
              refine ⟨(⟨by (first | omega | (simp only [st_s] <;> omega) | assumption | omega | fail), by (first | omega | (simp only [st_s] <;> omega) | assumption | omega | fail)⟩ : rg (u3_2 + 1)), ?_⟩
              exact ih_2 _ _ (show (61 - (u3_2 + 1) : Int) < ((m_2 : Nat) : Int) from by ((first | omega | (simp only [st_s] <;> omega) | assumption | omega | fail))) hT (show τ_2.1 6 = σ.1 6 from by first | exact W6 | omega) (show τ_2.1 7 = σ.1 7 from by first | exact W7 | omega) (show τ_2.1 13 = σ.1 13 from by first | exact W13 | omega) (show τ_2.1 14 = σ.1 14 from by first | exact W14 | omega) (show τ_2.1 15 = σ.1 15 from by first | exact W15 | omega) G10 G13 G14 G15 G16 G27 G28 G29 G30 G31 G32 G33 G34 G35 G36 G37 G39 G40 G41 (show 0 ≤ (u3_2 + 1) from by (first | omega | (simp only [st_s] <;> omega) | assumption | omega | fail)) (show J_bp ((st (τ_2.2.1 44) x23 (x25 + 1))) ((st (τ_2.2.1 45) x29 (x31 - 1))) from by (first | exact BP | (rw [show x29 = x23 from by omega]; exact J_bp_s BP (by omega)) | fail)) (show J_bn n1 (u3_2 + 1) (τ_2.2.1 13) (τ_2.2.1 14) (τ_2.2.1 15) (τ_2.2.1 27) (τ_2.2.1 29) (τ_2.2.1 39) ((st (τ_2.2.1 44) x23 (x25 + 1))) ((st (τ_2.2.1 45) x29 (x31 - 1))) from by (first | (intro k a b; exfalso; omega) | (refine J_bn_e i2_3 ?_; rw [G13, G27, G29, ← e_x4, ← e_x6, ← e_x10]; omega) | (rw [show x29 = x23 from by omega]; refine J_bn_s i2_3 ?_ ?_; (rw [G14, G15, G27, G29, ← e_x4, ← e_x6, ← q22_1]); (intro j a b; rw [G39]; exact cf.2.2 j (by omega) (by omega))) | fail)) (show (u3_2 + 1) ≤ σ.2.1 28 n1 from by (first | omega | (simp only [st_s] <;> omega) | assumption | omega | fail))
            ·
              exact ⟨hT, (show 0 ≤ 0 ∧ 0 ≤ 1 from by (first | omega | (simp only [st_s] <;> omega) | assumption | omega | fail)), (show J_bp (τ_2.2.1 44) (τ_2.2.1 45) from BP), (show ¬ 0 = 0 → J_bn n1 (τ_2.2.1 28 n1) (τ_2.2.1 13) (τ_2.2.1 14) (τ_2.2.1 15) (τ_2.2.1 27) (τ_2.2.1 29) (τ_2.2.1 39) (τ_2.2.1 44) (τ_2.2.1 45) from by (first | (intro z; exfalso; omega) | (intro _; rw [G28, show σ.2.1 28 n1 = u3_2 from by omega]; exact i2_3) | fail))⟩
        ·
          refine ⟨_, K_X6_isEssential hT (show 0 ≤ x8 from by (first | omega | (simp only [st_s] <;> omega) | assumption | omega | fail)) (show x8 < 20000 from by (first | omega | (simp only [st_s] <;> omega) | assumption | omega | fail)) (show 0 ≤ τ_2.2.1 41 x8 from by (rw [G41]; exact cf.1)) (show τ_2.2.1 40 x8 + τ_2.2.1 41 x8 ≤ 42000 from by (rw [G40, G41]; exact cf.2.1)) (show 0 ≤ x6 from by (first | omega | (simp only [st_s] <;> omega) | assumption | omega | fail)) (show x6 < 1500 from by (first | omega | (simp only [st_s] <;> omega) | assumption | omega | fail)) (show τ_2.2.1 14 x6 ≤ τ_2.2.1 14 (x6 + 1) from by (rw [G14]; omega)) (show J_bp (τ_2.2.1 44) (τ_2.2.1 45) from BP), ?_⟩
          intro x36 r_x36 hq
          have q35_1 := hq
          replace q35_1 : 0 ≤ x36 ∧ x36 ≤ 1 := q35_1
          refine ⟨fun c38 => ?_, fun c38 => ?_⟩
          ·
            refine ⟨(⟨by (first | omega | (simp only [st_s] <;> omega) | assumption | omega | fail), by (first | omega | (simp only [st_s] <;> omega) | assumption | omega | fail)⟩ : rg (u3_2 + 1)), ?_⟩
            exact ih_2 _ _ (show (61 - (u3_2 + 1) : Int) < ((m_2 : Nat) : Int) from by ((first | omega | (simp only [st_s] <;> omega) | assumption | omega | fail))) hT (show τ_2.1 6 = σ.1 6 from by first | exact W6 | omega) (show τ_2.1 7 = σ.1 7 from by first | exact W7 | omega) (show τ_2.1 13 = σ.1 13 from by first | exact W13 | omega) (show τ_2.1 14 = σ.1 14 from by first | exact W14 | omega) (show τ_2.1 15 = σ.1 15 from by first | exact W15 | omega) G10 G13 G14 G15 G16 G27 G28 G29 G30 G31 G32 G33 G34 G35 G36 G37 G39 G40 G41 (show 0 ≤ (u3_2 + 1) from by (first | omega | (simp only [st_s] <;> omega) | assumption | omega | fail)) (show J_bp (τ_2.2.1 44) (τ_2.2.1 45) from BP) (show J_bn n1 (u3_2 + 1) (τ_2.2.1 13) (τ_2.2.1 14) (τ_2.2.1 15) (τ_2.2.1 27) (τ_2.2.1 29) (τ_2.2.1 39) (τ_2.2.1 44) (τ_2.2.1 45) from by (first | (intro k a b; exfalso; omega) | (refine J_bn_e i2_3 ?_; rw [G13, G27, G29, ← e_x4, ← e_x6, ← e_x10]; omega) | (rw [show x29 = x23 from by omega]; refine J_bn_s i2_3 ?_ ?_; (rw [G14, G15, G27, G29, ← e_x4, ← e_x6, ← q22_1]); (intro j a b; rw [G39]; exact cf.2.2 j (by omega) (by omega))) | fail)) (show (u3_2 + 1) ≤ σ.2.1 28 n1 from by (first | omega | (simp only [st_s] <;> omega) | assumption | omega | fail))
          ·
            exact ⟨hT, (show 0 ≤ 0 ∧ 0 ≤ 1 from by (first | omega | (simp only [st_s] <;> omega) | assumption | omega | fail)), (show J_bp (τ_2.2.1 44) (τ_2.2.1 45) from BP), (show ¬ 0 = 0 → J_bn n1 (τ_2.2.1 28 n1) (τ_2.2.1 13) (τ_2.2.1 14) (τ_2.2.1 15) (τ_2.2.1 27) (τ_2.2.1 29) (τ_2.2.1 39) (τ_2.2.1 44) (τ_2.2.1 45) from by (first | (intro z; exfalso; omega) | (intro _; rw [G28, show σ.2.1 28 n1 = u3_2 from by omega]; exact i2_3) | fail))⟩
  exact l_2 ((61 - 0 : Int).toNat + 1) _ _ (show (61 - 0 : Int) < (((61 - 0 : Int).toNat + 1 : Nat) : Int) from by ((first | omega | (simp only [st_s] <;> omega) | assumption | omega | fail))) hT (show σ.1 6 = σ.1 6 from by first | exact W6 | omega) (show σ.1 7 = σ.1 7 from by first | exact W7 | omega) (show σ.1 13 = σ.1 13 from by first | exact W13 | omega) (show σ.1 14 = σ.1 14 from by first | exact W14 | omega) (show σ.1 15 = σ.1 15 from by first | exact W15 | omega) G10 G13 G14 G15 G16 G27 G28 G29 G30 G31 G32 G33 G34 G35 G36 G37 G39 G40 G41 (show 0 ≤ 0 from by (first | omega | (simp only [st_s] <;> omega) | assumption | omega | fail)) (show J_bp (σ.2.1 44) (σ.2.1 45) from BP) (show J_bn n1 0 (σ.2.1 13) (σ.2.1 14) (σ.2.1 15) (σ.2.1 27) (σ.2.1 29) (σ.2.1 39) (σ.2.1 44) (σ.2.1 45) from by (first | (intro k a b; exfalso; omega) | (refine J_bn_e i2_3 ?_; rw [G13, G27, G29, ← e_x4, ← e_x6, ← e_x10]; omega) | (rw [show x29 = x23 from by omega]; refine J_bn_s i2_3 ?_ ?_; (rw [G14, G15, G27, G29, ← e_x4, ← e_x6, ← q22_1]); (intro j a b; rw [G39]; exact cf.2.2 j (by omega) (by omega))) | fail)) (show 0 ≤ σ.2.1 28 n1 from by (first | omega | (simp only [st_s] <;> omega) | assumption | omega | fail))
set_option maxHeartbeats 1000000 in
theorem K_X6_gather_q63 {n1 : Int} {σ : S0} (hT : c_T σ) (p1 : 0 ≤ n1) (p2 : n1 < 1000) (p3 : J_bp (σ.2.1 44) (σ.2.1 45)) (p4 : J_bd n1 (σ.2.1 39) (σ.2.1 44) (σ.2.1 45)) : W_X6_gather_q63 n1 σ (fun (x : Int) (τ : S0) => (c_T τ) ∧ (0 ≤ x ∧ x ≤ 1000)) := by
  have A39 : ∀ j, 0 ≤ σ.2.1 39 j ∧ σ.2.1 39 j ≤ 1060 := fun j => hT.2 39 j
  have A44 : ∀ j, 0 ≤ σ.2.1 44 j ∧ σ.2.1 44 j ≤ 42000 := fun j => hT.2 44 j
  have A45 : ∀ j, 0 ≤ σ.2.1 45 j ∧ σ.2.1 45 j ≤ 1000 := fun j => hT.2 45 j
  have v20 : (-2147483648) ≤ σ.1 20 ∧ σ.1 20 ≤ 2147483647 := hT.1 20
  have G39 : σ.2.1 39 = σ.2.1 39 := rfl
  have G44 : σ.2.1 44 = σ.2.1 44 := rfl
  have G45 : σ.2.1 45 = σ.2.1 45 := rfl
  intro P20 h20
  have bpv := p3 n1
  have bpz := A45 n1
  have bpa := A44 n1
  have BP : J_bp (σ.2.1 44) (σ.2.1 45) := p3
  have BP_0 := BP
  have l_20 : ∀ (m_20 : Nat) (u3_20 : Int) (u4_20 : Int) (τ_20 : S0), 42001 - u4_20 < (m_20 : Int) → (c_T τ_20) → (τ_20.2.1 39 = σ.2.1 39) → (τ_20.2.1 44 = σ.2.1 44) → (τ_20.2.1 45 = σ.2.1 45) → (0 ≤ u3_20) → (u3_20 ≤ u4_20 - σ.2.1 44 n1) → (u4_20 ≤ σ.2.1 44 n1 + σ.2.1 45 n1) → P20 n1 u3_20 u4_20 τ_20 := by
    intro m_20
    induction m_20 with
    | zero =>
      intro u3_20 u4_20 τ_20 hm hT G39 G44 G45 i20_1 i20_2 i20_3
      have A39 : ∀ j, 0 ≤ τ_20.2.1 39 j ∧ τ_20.2.1 39 j ≤ 1060 := fun j => hT.2 39 j
      have A44 : ∀ j, 0 ≤ τ_20.2.1 44 j ∧ τ_20.2.1 44 j ≤ 42000 := fun j => hT.2 44 j
      have A45 : ∀ j, 0 ≤ τ_20.2.1 45 j ∧ τ_20.2.1 45 j ≤ 1000 := fun j => hT.2 45 j
      have v20 : (-2147483648) ≤ τ_20.1 20 ∧ τ_20.1 20 ≤ 2147483647 := hT.1 20
      exfalso; (first | omega | (simp only [st_s] <;> omega) | assumption | omega | fail)
    | succ m_20 ih_20 =>
      intro u3_20 u4_20 τ_20 hm_20 hT G39 G44 G45 i20_1 i20_2 i20_3
      have A39 : ∀ j, 0 ≤ τ_20.2.1 39 j ∧ τ_20.2.1 39 j ≤ 1060 := fun j => hT.2 39 j
      have A44 : ∀ j, 0 ≤ τ_20.2.1 44 j ∧ τ_20.2.1 44 j ≤ 42000 := fun j => hT.2 44 j
      have A45 : ∀ j, 0 ≤ τ_20.2.1 45 j ∧ τ_20.2.1 45 j ≤ 1000 := fun j => hT.2 45 j
      have v20 : (-2147483648) ≤ τ_20.1 20 ∧ τ_20.1 20 ≤ 2147483647 := hT.1 20
      have BP : J_bp (τ_20.2.1 44) (τ_20.2.1 45) := by rw [show (J_bp (τ_20.2.1 44) (τ_20.2.1 45)) = (J_bp (σ.2.1 44) (σ.2.1 45)) from by rw [G44, G45]]; exact BP_0
      refine h20 n1 u3_20 u4_20 τ_20 ?_
      refine ⟨(show 0 ≤ n1 ∧ n1 < 1000 from by (first | omega | (simp only [st_s] <;> omega) | assumption | omega | fail)), ?_⟩
      intro x5 r_x5 e_x5
      have b_x5 : 0 ≤ x5 ∧ x5 ≤ 42000 := by rw [e_x5]; exact hT.2 44 _
      rw [G44] at e_x5
      intro x6 r_x6 e_x6
      have b_x6 : 0 ≤ x6 ∧ x6 ≤ 1000 := by rw [e_x6]; exact hT.2 45 _
      rw [G45] at e_x6
      refine ⟨(⟨by (first | omega | (simp only [st_s] <;> omega) | assumption | omega | fail), by (first | omega | (simp only [st_s] <;> omega) | assumption | omega | fail)⟩ : rg (x5 + x6)), ?_⟩
      refine ⟨fun c8 => ?_, fun c8 => ?_⟩
      ·
        exact ⟨hT, (show 0 ≤ u3_20 ∧ u3_20 ≤ 1000 from by (first | omega | (simp only [st_s] <;> omega) | assumption | omega | fail))⟩
      ·
        refine ⟨(show 0 ≤ u4_20 ∧ u4_20 < 42000 from by (first | omega | (simp only [st_s] <;> omega) | assumption | omega | fail)), ?_⟩
        intro x10 r_x10 e_x10
        have b_x10 : 0 ≤ x10 ∧ x10 ≤ 1060 := by rw [e_x10]; exact hT.2 39 _
        have dd := p4 u4_20 (by omega) (by omega)
        rw [← G39, ← e_x10] at dd
        refine ⟨(show 0 ≤ x10 ∧ x10 < 1000 from by (first | omega | (simp only [st_s] <;> omega) | assumption | omega | fail)), ?_⟩
        intro x12 r_x12 e_x12
        have b_x12 : 0 ≤ x12 ∧ x12 ≤ 1 := by rw [e_x12]; exact hT.2 8 _
        refine ⟨fun c13 => ?_, fun c13 => ?_⟩
        ·
          refine ⟨(⟨by (first | omega | (simp only [st_s] <;> omega) | assumption | omega | fail), by (first | omega | (simp only [st_s] <;> omega) | assumption | omega | fail)⟩ : rg (u4_20 + 1)), ?_⟩
          exact ih_20 _ _ _ (show (42001 - (u4_20 + 1) : Int) < ((m_20 : Nat) : Int) from by ((first | omega | (simp only [st_s] <;> omega) | assumption | omega | fail))) hT G39 G44 G45 (show 0 ≤ u3_20 from by (first | omega | (simp only [st_s] <;> omega) | assumption | omega | fail)) (show u3_20 ≤ (u4_20 + 1) - σ.2.1 44 n1 from by (first | omega | (simp only [st_s] <;> omega) | assumption | omega | fail)) (show (u4_20 + 1) ≤ σ.2.1 44 n1 + σ.2.1 45 n1 from by (first | omega | (simp only [st_s] <;> omega) | assumption | omega | fail))
        ·
          intro x15 r_x15 e_x15
          have b_x15 : (-2147483648) ≤ x15 ∧ x15 ≤ 2147483647 := by rw [e_x15]; exact hT.2 46 _
          refine ⟨fun c16 => ?_, fun c16 => ?_⟩
          ·
            refine ⟨(⟨by (first | omega | (simp only [st_s] <;> omega) | assumption | omega | fail), by (first | omega | (simp only [st_s] <;> omega) | assumption | omega | fail)⟩ : rg (u4_20 + 1)), ?_⟩
            exact ih_20 _ _ _ (show (42001 - (u4_20 + 1) : Int) < ((m_20 : Nat) : Int) from by ((first | omega | (simp only [st_s] <;> omega) | assumption | omega | fail))) hT G39 G44 G45 (show 0 ≤ u3_20 from by (first | omega | (simp only [st_s] <;> omega) | assumption | omega | fail)) (show u3_20 ≤ (u4_20 + 1) - σ.2.1 44 n1 from by (first | omega | (simp only [st_s] <;> omega) | assumption | omega | fail)) (show (u4_20 + 1) ≤ σ.2.1 44 n1 + σ.2.1 45 n1 from by (first | omega | (simp only [st_s] <;> omega) | assumption | omega | fail))
          ·
            replace hT := cT_a (k := 46) (j := x10) hT (show (-2147483648 : Int) ≤ (τ_20.1 20) ∧ (τ_20.1 20) ≤ 2147483647 from by (first | omega | (simp only [st_s] <;> omega) | assumption | omega | fail))
            refine ⟨(show 0 ≤ u3_20 ∧ u3_20 < 1000 from by (first | omega | (simp only [st_s] <;> omega) | assumption | omega | fail)), ?_⟩
            replace hT := cT_a (k := 47) (j := u3_20) hT (show (0 : Int) ≤ x10 ∧ x10 ≤ 999 from by (first | omega | (simp only [st_s] <;> omega) | assumption | omega | fail))
            refine ⟨(⟨by (first | omega | (simp only [st_s] <;> omega) | assumption | omega | fail), by (first | omega | (simp only [st_s] <;> omega) | assumption | omega | fail)⟩ : rg (u3_20 + 1)), ?_⟩
            refine ⟨(⟨by (first | omega | (simp only [st_s] <;> omega) | assumption | omega | fail), by (first | omega | (simp only [st_s] <;> omega) | assumption | omega | fail)⟩ : rg (u4_20 + 1)), ?_⟩
            exact ih_20 _ _ _ (show (42001 - (u4_20 + 1) : Int) < ((m_20 : Nat) : Int) from by ((first | omega | (simp only [st_s] <;> omega) | assumption | omega | fail))) hT G39 G44 G45 (show 0 ≤ (u3_20 + 1) from by (first | omega | (simp only [st_s] <;> omega) | assumption | omega | fail)) (show (u3_20 + 1) ≤ (u4_20 + 1) - σ.2.1 44 n1 from by (first | omega | (simp only [st_s] <;> omega) | assumption | omega | fail)) (show (u4_20 + 1) ≤ σ.2.1 44 n1 + σ.2.1 45 n1 from by (first | omega | (simp only [st_s] <;> omega) | assumption | omega | fail))
  intro x1 r_x1
  replace hT := cT_v (i := 20) hT (show (-2147483648) ≤ x1 ∧ x1 ≤ 2147483647 from by (first | omega | (simp only [st_s] <;> omega) | assumption | omega | fail))
  refine ⟨(show 0 ≤ n1 ∧ n1 < 1000 from by (first | omega | (simp only [st_s] <;> omega) | assumption | omega | fail)), ?_⟩
  intro x3 r_x3 e_x3
  have b_x3 : 0 ≤ x3 ∧ x3 ≤ 42000 := by rw [e_x3]; exact hT.2 44 _
  exact l_20 ((42001 - x3 : Int).toNat + 1) _ _ _ (show (42001 - x3 : Int) < (((42001 - x3 : Int).toNat + 1 : Nat) : Int) from by ((first | omega | (simp only [st_s] <;> omega) | assumption | omega | fail))) hT G39 G44 G45 (show 0 ≤ 0 from by (first | omega | (simp only [st_s] <;> omega) | assumption | omega | fail)) (show 0 ≤ x3 - σ.2.1 44 n1 from by (first | omega | (simp only [st_s] <;> omega) | assumption | omega | fail)) (show x3 ≤ σ.2.1 44 n1 + σ.2.1 45 n1 from by (first | omega | (simp only [st_s] <;> omega) | assumption | omega | fail))
set_option maxHeartbeats 1000000 in
theorem K_X6_gather_q64 {n1 : Int} {σ : S0} (hT : c_T σ) (p1 : 0 ≤ n1) (p2 : n1 < 1000) (p3 : J_bp (σ.2.1 44) (σ.2.1 45)) (p4 : J_bd n1 (σ.2.1 39) (σ.2.1 44) (σ.2.1 45)) : W_X6_gather_q64 n1 σ (fun (x : Int) (τ : S0) => (c_T τ) ∧ (0 ≤ x ∧ x ≤ 1000)) := by
  have A39 : ∀ j, 0 ≤ σ.2.1 39 j ∧ σ.2.1 39 j ≤ 1060 := fun j => hT.2 39 j
  have A44 : ∀ j, 0 ≤ σ.2.1 44 j ∧ σ.2.1 44 j ≤ 42000 := fun j => hT.2 44 j
  have A45 : ∀ j, 0 ≤ σ.2.1 45 j ∧ σ.2.1 45 j ≤ 1000 := fun j => hT.2 45 j
  have v20 : (-2147483648) ≤ σ.1 20 ∧ σ.1 20 ≤ 2147483647 := hT.1 20
  have G39 : σ.2.1 39 = σ.2.1 39 := rfl
  have G44 : σ.2.1 44 = σ.2.1 44 := rfl
  have G45 : σ.2.1 45 = σ.2.1 45 := rfl
  intro P20 h20
  have bpv := p3 n1
  have bpz := A45 n1
  have bpa := A44 n1
  have BP : J_bp (σ.2.1 44) (σ.2.1 45) := p3
  have BP_0 := BP
  have l_20 : ∀ (m_20 : Nat) (u3_20 : Int) (u4_20 : Int) (τ_20 : S0), 42001 - u4_20 < (m_20 : Int) → (c_T τ_20) → (τ_20.2.1 39 = σ.2.1 39) → (τ_20.2.1 44 = σ.2.1 44) → (τ_20.2.1 45 = σ.2.1 45) → (0 ≤ u3_20) → (u3_20 ≤ u4_20 - σ.2.1 44 n1) → (u4_20 ≤ σ.2.1 44 n1 + σ.2.1 45 n1) → P20 n1 u3_20 u4_20 τ_20 := by
    intro m_20
    induction m_20 with
    | zero =>
      intro u3_20 u4_20 τ_20 hm hT G39 G44 G45 i20_1 i20_2 i20_3
      have A39 : ∀ j, 0 ≤ τ_20.2.1 39 j ∧ τ_20.2.1 39 j ≤ 1060 := fun j => hT.2 39 j
      have A44 : ∀ j, 0 ≤ τ_20.2.1 44 j ∧ τ_20.2.1 44 j ≤ 42000 := fun j => hT.2 44 j
      have A45 : ∀ j, 0 ≤ τ_20.2.1 45 j ∧ τ_20.2.1 45 j ≤ 1000 := fun j => hT.2 45 j
      have v20 : (-2147483648) ≤ τ_20.1 20 ∧ τ_20.1 20 ≤ 2147483647 := hT.1 20
      exfalso; (first | omega | (simp only [st_s] <;> omega) | assumption | omega | fail)
    | succ m_20 ih_20 =>
      intro u3_20 u4_20 τ_20 hm_20 hT G39 G44 G45 i20_1 i20_2 i20_3
      have A39 : ∀ j, 0 ≤ τ_20.2.1 39 j ∧ τ_20.2.1 39 j ≤ 1060 := fun j => hT.2 39 j
      have A44 : ∀ j, 0 ≤ τ_20.2.1 44 j ∧ τ_20.2.1 44 j ≤ 42000 := fun j => hT.2 44 j
      have A45 : ∀ j, 0 ≤ τ_20.2.1 45 j ∧ τ_20.2.1 45 j ≤ 1000 := fun j => hT.2 45 j
      have v20 : (-2147483648) ≤ τ_20.1 20 ∧ τ_20.1 20 ≤ 2147483647 := hT.1 20
      have BP : J_bp (τ_20.2.1 44) (τ_20.2.1 45) := by rw [show (J_bp (τ_20.2.1 44) (τ_20.2.1 45)) = (J_bp (σ.2.1 44) (σ.2.1 45)) from by rw [G44, G45]]; exact BP_0
      refine h20 n1 u3_20 u4_20 τ_20 ?_
      refine ⟨(show 0 ≤ n1 ∧ n1 < 1000 from by (first | omega | (simp only [st_s] <;> omega) | assumption | omega | fail)), ?_⟩
      intro x5 r_x5 e_x5
      have b_x5 : 0 ≤ x5 ∧ x5 ≤ 42000 := by rw [e_x5]; exact hT.2 44 _
      rw [G44] at e_x5
      intro x6 r_x6 e_x6
      have b_x6 : 0 ≤ x6 ∧ x6 ≤ 1000 := by rw [e_x6]; exact hT.2 45 _
      rw [G45] at e_x6
      refine ⟨(⟨by (first | omega | (simp only [st_s] <;> omega) | assumption | omega | fail), by (first | omega | (simp only [st_s] <;> omega) | assumption | omega | fail)⟩ : rg (x5 + x6)), ?_⟩
      refine ⟨fun c8 => ?_, fun c8 => ?_⟩
      ·
        exact ⟨hT, (show 0 ≤ u3_20 ∧ u3_20 ≤ 1000 from by (first | omega | (simp only [st_s] <;> omega) | assumption | omega | fail))⟩
      ·
        refine ⟨(show 0 ≤ u4_20 ∧ u4_20 < 42000 from by (first | omega | (simp only [st_s] <;> omega) | assumption | omega | fail)), ?_⟩
        intro x10 r_x10 e_x10
        have b_x10 : 0 ≤ x10 ∧ x10 ≤ 1060 := by rw [e_x10]; exact hT.2 39 _
        have dd := p4 u4_20 (by omega) (by omega)
        rw [← G39, ← e_x10] at dd
        refine ⟨(show 0 ≤ x10 ∧ x10 < 1000 from by (first | omega | (simp only [st_s] <;> omega) | assumption | omega | fail)), ?_⟩
        intro x12 r_x12 e_x12
        have b_x12 : 0 ≤ x12 ∧ x12 ≤ 1 := by rw [e_x12]; exact hT.2 8 _
        refine ⟨fun c13 => ?_, fun c13 => ?_⟩
        ·
          refine ⟨(⟨by (first | omega | (simp only [st_s] <;> omega) | assumption | omega | fail), by (first | omega | (simp only [st_s] <;> omega) | assumption | omega | fail)⟩ : rg (u4_20 + 1)), ?_⟩
          exact ih_20 _ _ _ (show (42001 - (u4_20 + 1) : Int) < ((m_20 : Nat) : Int) from by ((first | omega | (simp only [st_s] <;> omega) | assumption | omega | fail))) hT G39 G44 G45 (show 0 ≤ u3_20 from by (first | omega | (simp only [st_s] <;> omega) | assumption | omega | fail)) (show u3_20 ≤ (u4_20 + 1) - σ.2.1 44 n1 from by (first | omega | (simp only [st_s] <;> omega) | assumption | omega | fail)) (show (u4_20 + 1) ≤ σ.2.1 44 n1 + σ.2.1 45 n1 from by (first | omega | (simp only [st_s] <;> omega) | assumption | omega | fail))
        ·
          intro x15 r_x15 e_x15
          have b_x15 : (-2147483648) ≤ x15 ∧ x15 ≤ 2147483647 := by rw [e_x15]; exact hT.2 46 _
          refine ⟨fun c16 => ?_, fun c16 => ?_⟩
          ·
            refine ⟨(⟨by (first | omega | (simp only [st_s] <;> omega) | assumption | omega | fail), by (first | omega | (simp only [st_s] <;> omega) | assumption | omega | fail)⟩ : rg (u4_20 + 1)), ?_⟩
            exact ih_20 _ _ _ (show (42001 - (u4_20 + 1) : Int) < ((m_20 : Nat) : Int) from by ((first | omega | (simp only [st_s] <;> omega) | assumption | omega | fail))) hT G39 G44 G45 (show 0 ≤ u3_20 from by (first | omega | (simp only [st_s] <;> omega) | assumption | omega | fail)) (show u3_20 ≤ (u4_20 + 1) - σ.2.1 44 n1 from by (first | omega | (simp only [st_s] <;> omega) | assumption | omega | fail)) (show (u4_20 + 1) ≤ σ.2.1 44 n1 + σ.2.1 45 n1 from by (first | omega | (simp only [st_s] <;> omega) | assumption | omega | fail))
          ·
            replace hT := cT_a (k := 46) (j := x10) hT (show (-2147483648 : Int) ≤ (τ_20.1 20) ∧ (τ_20.1 20) ≤ 2147483647 from by (first | omega | (simp only [st_s] <;> omega) | assumption | omega | fail))
            refine ⟨(show 0 ≤ u3_20 ∧ u3_20 < 1000 from by (first | omega | (simp only [st_s] <;> omega) | assumption | omega | fail)), ?_⟩
            replace hT := cT_a (k := 48) (j := u3_20) hT (show (0 : Int) ≤ x10 ∧ x10 ≤ 999 from by (first | omega | (simp only [st_s] <;> omega) | assumption | omega | fail))
            refine ⟨(⟨by (first | omega | (simp only [st_s] <;> omega) | assumption | omega | fail), by (first | omega | (simp only [st_s] <;> omega) | assumption | omega | fail)⟩ : rg (u3_20 + 1)), ?_⟩
            refine ⟨(⟨by (first | omega | (simp only [st_s] <;> omega) | assumption | omega | fail), by (first | omega | (simp only [st_s] <;> omega) | assumption | omega | fail)⟩ : rg (u4_20 + 1)), ?_⟩
            exact ih_20 _ _ _ (show (42001 - (u4_20 + 1) : Int) < ((m_20 : Nat) : Int) from by ((first | omega | (simp only [st_s] <;> omega) | assumption | omega | fail))) hT G39 G44 G45 (show 0 ≤ (u3_20 + 1) from by (first | omega | (simp only [st_s] <;> omega) | assumption | omega | fail)) (show (u3_20 + 1) ≤ (u4_20 + 1) - σ.2.1 44 n1 from by (first | omega | (simp only [st_s] <;> omega) | assumption | omega | fail)) (show (u4_20 + 1) ≤ σ.2.1 44 n1 + σ.2.1 45 n1 from by (first | omega | (simp only [st_s] <;> omega) | assumption | omega | fail))
  intro x1 r_x1
  replace hT := cT_v (i := 20) hT (show (-2147483648) ≤ x1 ∧ x1 ≤ 2147483647 from by (first | omega | (simp only [st_s] <;> omega) | assumption | omega | fail))
  refine ⟨(show 0 ≤ n1 ∧ n1 < 1000 from by (first | omega | (simp only [st_s] <;> omega) | assumption | omega | fail)), ?_⟩
  intro x3 r_x3 e_x3
  have b_x3 : 0 ≤ x3 ∧ x3 ≤ 42000 := by rw [e_x3]; exact hT.2 44 _
  exact l_20 ((42001 - x3 : Int).toNat + 1) _ _ _ (show (42001 - x3 : Int) < (((42001 - x3 : Int).toNat + 1 : Nat) : Int) from by ((first | omega | (simp only [st_s] <;> omega) | assumption | omega | fail))) hT G39 G44 G45 (show 0 ≤ 0 from by (first | omega | (simp only [st_s] <;> omega) | assumption | omega | fail)) (show 0 ≤ x3 - σ.2.1 44 n1 from by (first | omega | (simp only [st_s] <;> omega) | assumption | omega | fail)) (show x3 ≤ σ.2.1 44 n1 + σ.2.1 45 n1 from by (first | omega | (simp only [st_s] <;> omega) | assumption | omega | fail))
set_option maxHeartbeats 1000000 in
theorem K_X6_areApart {n1 : Int} {n2 : Int} {σ : S0} (hT : c_T σ) (p1 : 0 ≤ n1) (p2 : n1 ≤ 1000) (p3 : 0 ≤ n2) (p4 : n2 ≤ 1000) : W_X6_areApart n1 n2 σ (fun (x : Int) => (0 ≤ x ∧ x ≤ 1)) := by
  intro P2 P10 h2 h10
  have l_2 : ∀ (m_2 : Nat) (u3_2 : Int), 1001 - u3_2 < (m_2 : Int) → (0 ≤ u3_2) → (u3_2 ≤ 1000) → P2 n1 n2 u3_2 := by
    intro m_2
    induction m_2 with
    | zero =>
      intro u3_2 hm i2_1 i2_2
      exfalso; (first | omega | (simp only [st_s] <;> omega) | assumption | omega | fail)
    | succ m_2 ih_2 =>
      intro u3_2 hm_2 i2_1 i2_2
      have l_10 : ∀ (m_10 : Nat) (u3_10 : Int) (u4_10 : Int), 1001 - u4_10 < (m_10 : Int) → (0 ≤ u3_10) → (u3_10 < n1) → (0 ≤ u4_10) → (u4_10 ≤ 1000) → (u3_10 + (m_2 : Int) ≥ 1001) → P10 n1 n2 u3_10 u4_10 := by
        intro m_10
        induction m_10 with
        | zero =>
          intro u3_10 u4_10 hm i10_1 i10_2 i10_3 i10_4 i10_5
          exfalso; (first | omega | (simp only [st_s] <;> omega) | assumption | omega | fail)
        | succ m_10 ih_10 =>
          intro u3_10 u4_10 hm_10 i10_1 i10_2 i10_3 i10_4 i10_5
          refine h10 n1 n2 u3_10 u4_10 ?_
          refine ⟨fun c2 => ?_, fun c2 => ?_⟩
          ·
            refine ⟨(⟨by (first | omega | (simp only [st_s] <;> omega) | assumption | omega | fail), by (first | omega | (simp only [st_s] <;> omega) | assumption | omega | fail)⟩ : rg (u3_10 + 1)), ?_⟩
            exact ih_2 _ (show (1001 - (u3_10 + 1) : Int) < ((m_2 : Nat) : Int) from by ((first | omega | (simp only [st_s] <;> omega) | assumption | omega | fail))) (show 0 ≤ (u3_10 + 1) from by (first | omega | (simp only [st_s] <;> omega) | assumption | omega | fail)) (show (u3_10 + 1) ≤ 1000 from by (first | omega | (simp only [st_s] <;> omega) | assumption | omega | fail))
          ·
            refine ⟨(show 0 ≤ u3_10 ∧ u3_10 < 1000 from by (first | omega | (simp only [st_s] <;> omega) | assumption | omega | fail)), ?_⟩
            intro x5 r_x5 e_x5
            have b_x5 : 0 ≤ x5 ∧ x5 ≤ 999 := by rw [e_x5]; exact hT.2 47 _
            refine ⟨(show 0 ≤ u4_10 ∧ u4_10 < 1000 from by (first | omega | (simp only [st_s] <;> omega) | assumption | omega | fail)), ?_⟩
            intro x7 r_x7 e_x7
            have b_x7 : 0 ≤ x7 ∧ x7 ≤ 999 := by rw [e_x7]; exact hT.2 48 _
            refine ⟨_, K_X9_areApart hT (show 0 ≤ x5 from by (first | omega | (simp only [st_s] <;> omega) | assumption | omega | fail)) (show x5 < 1000 from by (first | omega | (simp only [st_s] <;> omega) | assumption | omega | fail)) (show 0 ≤ x7 from by (first | omega | (simp only [st_s] <;> omega) | assumption | omega | fail)) (show x7 < 1000 from by (first | omega | (simp only [st_s] <;> omega) | assumption | omega | fail)), ?_⟩
            intro x9 r_x9 hq
            have q8_1 := hq
            replace q8_1 : 0 ≤ x9 ∧ x9 ≤ 1 := q8_1
            refine ⟨fun c11 => ?_, fun c11 => ?_⟩
            ·
              refine ⟨(⟨by (first | omega | (simp only [st_s] <;> omega) | assumption | omega | fail), by (first | omega | (simp only [st_s] <;> omega) | assumption | omega | fail)⟩ : rg (u4_10 + 1)), ?_⟩
              exact ih_10 _ _ (show (1001 - (u4_10 + 1) : Int) < ((m_10 : Nat) : Int) from by ((first | omega | (simp only [st_s] <;> omega) | assumption | omega | fail))) (show 0 ≤ u3_10 from by (first | omega | (simp only [st_s] <;> omega) | assumption | omega | fail)) (show u3_10 < n1 from by (first | omega | (simp only [st_s] <;> omega) | assumption | omega | fail)) (show 0 ≤ (u4_10 + 1) from by (first | omega | (simp only [st_s] <;> omega) | assumption | omega | fail)) (show (u4_10 + 1) ≤ 1000 from by (first | omega | (simp only [st_s] <;> omega) | assumption | omega | fail)) (show u3_10 + (m_2 : Int) ≥ 1001 from by (first | omega | (simp only [st_s] <;> omega) | assumption | omega | fail))
            ·
              exact (show 0 ≤ 0 ∧ 0 ≤ 1 from by (first | omega | (simp only [st_s] <;> omega) | assumption | omega | fail))
      refine h2 n1 n2 u3_2 ?_
      refine ⟨fun c1 => ?_, fun c1 => ?_⟩
      ·
        exact (show 0 ≤ 1 ∧ 1 ≤ 1 from by (first | omega | (simp only [st_s] <;> omega) | assumption | omega | fail))
      ·
        exact l_10 ((1001 - 0 : Int).toNat + 1) _ _ (show (1001 - 0 : Int) < (((1001 - 0 : Int).toNat + 1 : Nat) : Int) from by ((first | omega | (simp only [st_s] <;> omega) | assumption | omega | fail))) (show 0 ≤ u3_2 from by (first | omega | (simp only [st_s] <;> omega) | assumption | omega | fail)) (show u3_2 < n1 from by (first | omega | (simp only [st_s] <;> omega) | assumption | omega | fail)) (show 0 ≤ 0 from by (first | omega | (simp only [st_s] <;> omega) | assumption | omega | fail)) (show 0 ≤ 1000 from by (first | omega | (simp only [st_s] <;> omega) | assumption | omega | fail)) (show u3_2 + (m_2 : Int) ≥ 1001 from by (first | omega | (simp only [st_s] <;> omega) | assumption | omega | fail))
  exact l_2 ((1001 - 0 : Int).toNat + 1) _ (show (1001 - 0 : Int) < (((1001 - 0 : Int).toNat + 1 : Nat) : Int) from by ((first | omega | (simp only [st_s] <;> omega) | assumption | omega | fail))) (show 0 ≤ 0 from by (first | omega | (simp only [st_s] <;> omega) | assumption | omega | fail)) (show 0 ≤ 1000 from by (first | omega | (simp only [st_s] <;> omega) | assumption | omega | fail))
set_option maxHeartbeats 1000000 in
theorem K_X6_keepsApart {n1 : Int} {σ : S0} (hT : c_T σ) (p1 : 0 ≤ n1) (p2 : n1 < (σ.1 7)) (p3 : 2 ≤ σ.2.1 13 n1) (p4 : J_all (σ.1 7) (σ.1 6) (σ.1 13) (σ.1 14) (σ.1 15) (σ.2.1 13) (σ.2.1 14) (σ.2.1 15) (σ.2.1 16) (σ.2.1 10) (σ.2.1 27) (σ.2.1 28) (σ.2.1 29) (σ.2.1 30) (σ.2.1 31) (σ.2.1 32) (σ.2.1 33) (σ.2.1 34) (σ.2.1 35) (σ.2.1 36) (σ.2.1 37)) (p5 : J_bp (σ.2.1 44) (σ.2.1 45)) (p6 : J_bn n1 (σ.2.1 28 n1) (σ.2.1 13) (σ.2.1 14) (σ.2.1 15) (σ.2.1 27) (σ.2.1 29) (σ.2.1 39) (σ.2.1 44) (σ.2.1 45)) : W_X6_keepsApart n1 σ (fun (x : Int) (τ : S0) => (c_T τ) ∧ (0 ≤ x ∧ x ≤ 1)) := by
  have A10 : ∀ j, (-1) ≤ σ.2.1 10 j ∧ σ.2.1 10 j ≤ 99 := fun j => hT.2 10 j
  have A13 : ∀ j, 0 ≤ σ.2.1 13 j ∧ σ.2.1 13 j ≤ 4 := fun j => hT.2 13 j
  have A14 : ∀ j, 0 ≤ σ.2.1 14 j ∧ σ.2.1 14 j ≤ 30000 := fun j => hT.2 14 j
  have A15 : ∀ j, 0 ≤ σ.2.1 15 j ∧ σ.2.1 15 j ≤ 999 := fun j => hT.2 15 j
  have A16 : ∀ j, (-1) ≤ σ.2.1 16 j ∧ σ.2.1 16 j ≤ 1499 := fun j => hT.2 16 j
  have A27 : ∀ j, 0 ≤ σ.2.1 27 j ∧ σ.2.1 27 j ≤ 90000 := fun j => hT.2 27 j
  have A28 : ∀ j, 0 ≤ σ.2.1 28 j ∧ σ.2.1 28 j ≤ 60 := fun j => hT.2 28 j
  have A29 : ∀ j, 0 ≤ σ.2.1 29 j ∧ σ.2.1 29 j ≤ 1499 := fun j => hT.2 29 j
  have A30 : ∀ j, 0 ≤ σ.2.1 30 j ∧ σ.2.1 30 j ≤ 20000 := fun j => hT.2 30 j
  have A31 : ∀ j, 0 ≤ σ.2.1 31 j ∧ σ.2.1 31 j ≤ 20000 := fun j => hT.2 31 j
  have A32 : ∀ j, 0 ≤ σ.2.1 32 j ∧ σ.2.1 32 j ≤ 999999 := fun j => hT.2 32 j
  have A33 : ∀ j, 0 ≤ σ.2.1 33 j ∧ σ.2.1 33 j ≤ 20000 := fun j => hT.2 33 j
  have A34 : ∀ j, 0 ≤ σ.2.1 34 j ∧ σ.2.1 34 j ≤ 20000 := fun j => hT.2 34 j
  have A35 : ∀ j, 0 ≤ σ.2.1 35 j ∧ σ.2.1 35 j ≤ 1499 := fun j => hT.2 35 j
  have A36 : ∀ j, 0 ≤ σ.2.1 36 j ∧ σ.2.1 36 j ≤ 20000 := fun j => hT.2 36 j
  have A37 : ∀ j, 0 ≤ σ.2.1 37 j ∧ σ.2.1 37 j ≤ 19999 := fun j => hT.2 37 j
  have A39 : ∀ j, 0 ≤ σ.2.1 39 j ∧ σ.2.1 39 j ≤ 1060 := fun j => hT.2 39 j
  have A44 : ∀ j, 0 ≤ σ.2.1 44 j ∧ σ.2.1 44 j ≤ 42000 := fun j => hT.2 44 j
  have A45 : ∀ j, 0 ≤ σ.2.1 45 j ∧ σ.2.1 45 j ≤ 1000 := fun j => hT.2 45 j
  have v6 : 0 ≤ σ.1 6 ∧ σ.1 6 ≤ 30000 := hT.1 6
  have v7 : 0 ≤ σ.1 7 ∧ σ.1 7 ≤ 1500 := hT.1 7
  have v13 : 0 ≤ σ.1 13 ∧ σ.1 13 ≤ 90000 := hT.1 13
  have v14 : 0 ≤ σ.1 14 ∧ σ.1 14 ≤ 20000 := hT.1 14
  have v15 : 0 ≤ σ.1 15 ∧ σ.1 15 ≤ 20000 := hT.1 15
  have W6 : σ.1 6 = σ.1 6 := rfl
  have W7 : σ.1 7 = σ.1 7 := rfl
  have W13 : σ.1 13 = σ.1 13 := rfl
  have W14 : σ.1 14 = σ.1 14 := rfl
  have W15 : σ.1 15 = σ.1 15 := rfl
  have G10 : σ.2.1 10 = σ.2.1 10 := rfl
  have G13 : σ.2.1 13 = σ.2.1 13 := rfl
  have G14 : σ.2.1 14 = σ.2.1 14 := rfl
  have G15 : σ.2.1 15 = σ.2.1 15 := rfl
  have G16 : σ.2.1 16 = σ.2.1 16 := rfl
  have G27 : σ.2.1 27 = σ.2.1 27 := rfl
  have G28 : σ.2.1 28 = σ.2.1 28 := rfl
  have G29 : σ.2.1 29 = σ.2.1 29 := rfl
  have G30 : σ.2.1 30 = σ.2.1 30 := rfl
  have G31 : σ.2.1 31 = σ.2.1 31 := rfl
  have G32 : σ.2.1 32 = σ.2.1 32 := rfl
  have G33 : σ.2.1 33 = σ.2.1 33 := rfl
  have G34 : σ.2.1 34 = σ.2.1 34 := rfl
  have G35 : σ.2.1 35 = σ.2.1 35 := rfl
  have G36 : σ.2.1 36 = σ.2.1 36 := rfl
  have G37 : σ.2.1 37 = σ.2.1 37 := rfl
  have G39 : σ.2.1 39 = σ.2.1 39 := rfl
  have G44 : σ.2.1 44 = σ.2.1 44 := rfl
  have G45 : σ.2.1 45 = σ.2.1 45 := rfl
  intro P10 h10
  have jf := (p4.1 n1 p1 p2).2.1 p3
  have vf := jf.2.2.2.1
  have jb := jf.1
  have pa0 := A30 n1
  have ps0 := A31 n1
  have CJ : J_all (σ.1 7) (σ.1 6) (σ.1 13) (σ.1 14) (σ.1 15) (σ.2.1 13) (σ.2.1 14) (σ.2.1 15) (σ.2.1 16) (σ.2.1 10) (σ.2.1 27) (σ.2.1 28) (σ.2.1 29) (σ.2.1 30) (σ.2.1 31) (σ.2.1 32) (σ.2.1 33) (σ.2.1 34) (σ.2.1 35) (σ.2.1 36) (σ.2.1 37) := p4
  have BP : J_bp (σ.2.1 44) (σ.2.1 45) := p5
  have BP_0 := BP
  have CJ_0 := CJ
  have l_10 : ∀ (m_10 : Nat) (u2_10 : Int) (τ_10 : S0), 20001 - u2_10 < (m_10 : Int) → (c_T τ_10) → (τ_10.1 6 = σ.1 6) → (τ_10.1 7 = σ.1 7) → (τ_10.1 13 = σ.1 13) → (τ_10.1 14 = σ.1 14) → (τ_10.1 15 = σ.1 15) → (τ_10.2.1 10 = σ.2.1 10) → (τ_10.2.1 13 = σ.2.1 13) → (τ_10.2.1 14 = σ.2.1 14) → (τ_10.2.1 15 = σ.2.1 15) → (τ_10.2.1 16 = σ.2.1 16) → (τ_10.2.1 27 = σ.2.1 27) → (τ_10.2.1 28 = σ.2.1 28) → (τ_10.2.1 29 = σ.2.1 29) → (τ_10.2.1 30 = σ.2.1 30) → (τ_10.2.1 31 = σ.2.1 31) → (τ_10.2.1 32 = σ.2.1 32) → (τ_10.2.1 33 = σ.2.1 33) → (τ_10.2.1 34 = σ.2.1 34) → (τ_10.2.1 35 = σ.2.1 35) → (τ_10.2.1 36 = σ.2.1 36) → (τ_10.2.1 37 = σ.2.1 37) → (τ_10.2.1 39 = σ.2.1 39) → (τ_10.2.1 44 = σ.2.1 44) → (τ_10.2.1 45 = σ.2.1 45) → (σ.2.1 30 n1 ≤ u2_10) → (u2_10 ≤ 20000) → P10 n1 u2_10 τ_10 := by
    intro m_10
    induction m_10 with
    | zero =>
      intro u2_10 τ_10 hm hT W6 W7 W13 W14 W15 G10 G13 G14 G15 G16 G27 G28 G29 G30 G31 G32 G33 G34 G35 G36 G37 G39 G44 G45 i10_1 i10_2
      have A10 : ∀ j, (-1) ≤ τ_10.2.1 10 j ∧ τ_10.2.1 10 j ≤ 99 := fun j => hT.2 10 j
      have A13 : ∀ j, 0 ≤ τ_10.2.1 13 j ∧ τ_10.2.1 13 j ≤ 4 := fun j => hT.2 13 j
      have A14 : ∀ j, 0 ≤ τ_10.2.1 14 j ∧ τ_10.2.1 14 j ≤ 30000 := fun j => hT.2 14 j
      have A15 : ∀ j, 0 ≤ τ_10.2.1 15 j ∧ τ_10.2.1 15 j ≤ 999 := fun j => hT.2 15 j
      have A16 : ∀ j, (-1) ≤ τ_10.2.1 16 j ∧ τ_10.2.1 16 j ≤ 1499 := fun j => hT.2 16 j
      have A27 : ∀ j, 0 ≤ τ_10.2.1 27 j ∧ τ_10.2.1 27 j ≤ 90000 := fun j => hT.2 27 j
      have A28 : ∀ j, 0 ≤ τ_10.2.1 28 j ∧ τ_10.2.1 28 j ≤ 60 := fun j => hT.2 28 j
      have A29 : ∀ j, 0 ≤ τ_10.2.1 29 j ∧ τ_10.2.1 29 j ≤ 1499 := fun j => hT.2 29 j
      have A30 : ∀ j, 0 ≤ τ_10.2.1 30 j ∧ τ_10.2.1 30 j ≤ 20000 := fun j => hT.2 30 j
      have A31 : ∀ j, 0 ≤ τ_10.2.1 31 j ∧ τ_10.2.1 31 j ≤ 20000 := fun j => hT.2 31 j
      have A32 : ∀ j, 0 ≤ τ_10.2.1 32 j ∧ τ_10.2.1 32 j ≤ 999999 := fun j => hT.2 32 j
      have A33 : ∀ j, 0 ≤ τ_10.2.1 33 j ∧ τ_10.2.1 33 j ≤ 20000 := fun j => hT.2 33 j
      have A34 : ∀ j, 0 ≤ τ_10.2.1 34 j ∧ τ_10.2.1 34 j ≤ 20000 := fun j => hT.2 34 j
      have A35 : ∀ j, 0 ≤ τ_10.2.1 35 j ∧ τ_10.2.1 35 j ≤ 1499 := fun j => hT.2 35 j
      have A36 : ∀ j, 0 ≤ τ_10.2.1 36 j ∧ τ_10.2.1 36 j ≤ 20000 := fun j => hT.2 36 j
      have A37 : ∀ j, 0 ≤ τ_10.2.1 37 j ∧ τ_10.2.1 37 j ≤ 19999 := fun j => hT.2 37 j
      have A39 : ∀ j, 0 ≤ τ_10.2.1 39 j ∧ τ_10.2.1 39 j ≤ 1060 := fun j => hT.2 39 j
      have A44 : ∀ j, 0 ≤ τ_10.2.1 44 j ∧ τ_10.2.1 44 j ≤ 42000 := fun j => hT.2 44 j
      have A45 : ∀ j, 0 ≤ τ_10.2.1 45 j ∧ τ_10.2.1 45 j ≤ 1000 := fun j => hT.2 45 j
      have v6 : 0 ≤ τ_10.1 6 ∧ τ_10.1 6 ≤ 30000 := hT.1 6
      have v7 : 0 ≤ τ_10.1 7 ∧ τ_10.1 7 ≤ 1500 := hT.1 7
      have v13 : 0 ≤ τ_10.1 13 ∧ τ_10.1 13 ≤ 90000 := hT.1 13
      have v14 : 0 ≤ τ_10.1 14 ∧ τ_10.1 14 ≤ 20000 := hT.1 14
      have v15 : 0 ≤ τ_10.1 15 ∧ τ_10.1 15 ≤ 20000 := hT.1 15
      exfalso; (first | omega | (simp only [st_s] <;> omega) | assumption | omega | fail)
    | succ m_10 ih_10 =>
      intro u2_10 τ_10 hm_10 hT W6 W7 W13 W14 W15 G10 G13 G14 G15 G16 G27 G28 G29 G30 G31 G32 G33 G34 G35 G36 G37 G39 G44 G45 i10_1 i10_2
      have A10 : ∀ j, (-1) ≤ τ_10.2.1 10 j ∧ τ_10.2.1 10 j ≤ 99 := fun j => hT.2 10 j
      have A13 : ∀ j, 0 ≤ τ_10.2.1 13 j ∧ τ_10.2.1 13 j ≤ 4 := fun j => hT.2 13 j
      have A14 : ∀ j, 0 ≤ τ_10.2.1 14 j ∧ τ_10.2.1 14 j ≤ 30000 := fun j => hT.2 14 j
      have A15 : ∀ j, 0 ≤ τ_10.2.1 15 j ∧ τ_10.2.1 15 j ≤ 999 := fun j => hT.2 15 j
      have A16 : ∀ j, (-1) ≤ τ_10.2.1 16 j ∧ τ_10.2.1 16 j ≤ 1499 := fun j => hT.2 16 j
      have A27 : ∀ j, 0 ≤ τ_10.2.1 27 j ∧ τ_10.2.1 27 j ≤ 90000 := fun j => hT.2 27 j
      have A28 : ∀ j, 0 ≤ τ_10.2.1 28 j ∧ τ_10.2.1 28 j ≤ 60 := fun j => hT.2 28 j
      have A29 : ∀ j, 0 ≤ τ_10.2.1 29 j ∧ τ_10.2.1 29 j ≤ 1499 := fun j => hT.2 29 j
      have A30 : ∀ j, 0 ≤ τ_10.2.1 30 j ∧ τ_10.2.1 30 j ≤ 20000 := fun j => hT.2 30 j
      have A31 : ∀ j, 0 ≤ τ_10.2.1 31 j ∧ τ_10.2.1 31 j ≤ 20000 := fun j => hT.2 31 j
      have A32 : ∀ j, 0 ≤ τ_10.2.1 32 j ∧ τ_10.2.1 32 j ≤ 999999 := fun j => hT.2 32 j
      have A33 : ∀ j, 0 ≤ τ_10.2.1 33 j ∧ τ_10.2.1 33 j ≤ 20000 := fun j => hT.2 33 j
      have A34 : ∀ j, 0 ≤ τ_10.2.1 34 j ∧ τ_10.2.1 34 j ≤ 20000 := fun j => hT.2 34 j
      have A35 : ∀ j, 0 ≤ τ_10.2.1 35 j ∧ τ_10.2.1 35 j ≤ 1499 := fun j => hT.2 35 j
      have A36 : ∀ j, 0 ≤ τ_10.2.1 36 j ∧ τ_10.2.1 36 j ≤ 20000 := fun j => hT.2 36 j
      have A37 : ∀ j, 0 ≤ τ_10.2.1 37 j ∧ τ_10.2.1 37 j ≤ 19999 := fun j => hT.2 37 j
      have A39 : ∀ j, 0 ≤ τ_10.2.1 39 j ∧ τ_10.2.1 39 j ≤ 1060 := fun j => hT.2 39 j
      have A44 : ∀ j, 0 ≤ τ_10.2.1 44 j ∧ τ_10.2.1 44 j ≤ 42000 := fun j => hT.2 44 j
      have A45 : ∀ j, 0 ≤ τ_10.2.1 45 j ∧ τ_10.2.1 45 j ≤ 1000 := fun j => hT.2 45 j
      have v6 : 0 ≤ τ_10.1 6 ∧ τ_10.1 6 ≤ 30000 := hT.1 6
      have v7 : 0 ≤ τ_10.1 7 ∧ τ_10.1 7 ≤ 1500 := hT.1 7
      have v13 : 0 ≤ τ_10.1 13 ∧ τ_10.1 13 ≤ 90000 := hT.1 13
      have v14 : 0 ≤ τ_10.1 14 ∧ τ_10.1 14 ≤ 20000 := hT.1 14
      have v15 : 0 ≤ τ_10.1 15 ∧ τ_10.1 15 ≤ 20000 := hT.1 15
      have CJ : J_all (τ_10.1 7) (τ_10.1 6) (τ_10.1 13) (τ_10.1 14) (τ_10.1 15) (τ_10.2.1 13) (τ_10.2.1 14) (τ_10.2.1 15) (τ_10.2.1 16) (τ_10.2.1 10) (τ_10.2.1 27) (τ_10.2.1 28) (τ_10.2.1 29) (τ_10.2.1 30) (τ_10.2.1 31) (τ_10.2.1 32) (τ_10.2.1 33) (τ_10.2.1 34) (τ_10.2.1 35) (τ_10.2.1 36) (τ_10.2.1 37) := by rw [show (J_all (τ_10.1 7) (τ_10.1 6) (τ_10.1 13) (τ_10.1 14) (τ_10.1 15) (τ_10.2.1 13) (τ_10.2.1 14) (τ_10.2.1 15) (τ_10.2.1 16) (τ_10.2.1 10) (τ_10.2.1 27) (τ_10.2.1 28) (τ_10.2.1 29) (τ_10.2.1 30) (τ_10.2.1 31) (τ_10.2.1 32) (τ_10.2.1 33) (τ_10.2.1 34) (τ_10.2.1 35) (τ_10.2.1 36) (τ_10.2.1 37)) = (J_all (σ.1 7) (σ.1 6) (σ.1 13) (σ.1 14) (σ.1 15) (σ.2.1 13) (σ.2.1 14) (σ.2.1 15) (σ.2.1 16) (σ.2.1 10) (σ.2.1 27) (σ.2.1 28) (σ.2.1 29) (σ.2.1 30) (σ.2.1 31) (σ.2.1 32) (σ.2.1 33) (σ.2.1 34) (σ.2.1 35) (σ.2.1 36) (σ.2.1 37)) from by rw [W6, W7, W13, W14, W15, G10, G13, G14, G15, G16, G27, G28, G29, G30, G31, G32, G33, G34, G35, G36, G37]]; exact CJ_0
      have BP : J_bp (τ_10.2.1 44) (τ_10.2.1 45) := by rw [show (J_bp (τ_10.2.1 44) (τ_10.2.1 45)) = (J_bp (σ.2.1 44) (σ.2.1 45)) from by rw [G44, G45]]; exact BP_0
      refine h10 n1 u2_10 τ_10 ?_
      refine ⟨(show 0 ≤ n1 ∧ n1 < 1500 from by (first | omega | (simp only [st_s] <;> omega) | assumption | omega | fail)), ?_⟩
      intro x4 r_x4 e_x4
      have b_x4 : 0 ≤ x4 ∧ x4 ≤ 20000 := by rw [e_x4]; exact hT.2 30 _
      rw [G30] at e_x4
      intro x5 r_x5 e_x5
      have b_x5 : 0 ≤ x5 ∧ x5 ≤ 20000 := by rw [e_x5]; exact hT.2 31 _
      rw [G31] at e_x5
      refine ⟨(⟨by (first | omega | (simp only [st_s] <;> omega) | assumption | omega | fail), by (first | omega | (simp only [st_s] <;> omega) | assumption | omega | fail)⟩ : rg (x4 + x5)), ?_⟩
      refine ⟨fun c7 => ?_, fun c7 => ?_⟩
      ·
        exact ⟨hT, (show 0 ≤ 1 ∧ 1 ≤ 1 from by (first | omega | (simp only [st_s] <;> omega) | assumption | omega | fail))⟩
      ·
        refine ⟨_, K2_X0_firstOf hT (show 0 ≤ u2_10 from by (first | omega | (simp only [st_s] <;> omega) | assumption | omega | fail)) (show u2_10 < 20000 from by (first | omega | (simp only [st_s] <;> omega) | assumption | omega | fail)), ?_⟩
        intro x9 r_x9 hq
        obtain ⟨q8_1, q8_2⟩ := hq
        replace q8_1 : 0 ≤ x9 ∧ x9 ≤ 999 := q8_1
        replace q8_2 : x9 = τ_10.2.1 32 u2_10 / 1000 := q8_2
        have vq := vf u2_10 (by omega) (by omega)
        have vx := J_bn_v p6 vq.1
        have vy := J_bn_v p6 vq.2
        rw [← G32] at vx vy
        rw [← q8_2] at vx
        refine ⟨_, K_X6_gather_q63 hT (show 0 ≤ x9 from by (first | omega | (simp only [st_s] <;> omega) | assumption | omega | fail)) (show x9 < 1000 from by (first | omega | (simp only [st_s] <;> omega) | assumption | omega | fail)) (show J_bp (τ_10.2.1 44) (τ_10.2.1 45) from BP) (show J_bd x9 (τ_10.2.1 39) (τ_10.2.1 44) (τ_10.2.1 45) from by (rw [G39, G44, G45]; exact vx)), ?_⟩
        intro x12 τ13 r_x12 hn_τ13 hf_τ13 hq
        obtain ⟨hT, q11_1⟩ := hq
        replace q11_1 : 0 ≤ x12 ∧ x12 ≤ 1000 := q11_1
        have w6_τ13 : τ13.1 6 = τ_10.1 6 := hf_τ13.1 6 (by decide)
        have w7_τ13 : τ13.1 7 = τ_10.1 7 := hf_τ13.1 7 (by decide)
        have w13_τ13 : τ13.1 13 = τ_10.1 13 := hf_τ13.1 13 (by decide)
        have w14_τ13 : τ13.1 14 = τ_10.1 14 := hf_τ13.1 14 (by decide)
        have w15_τ13 : τ13.1 15 = τ_10.1 15 := hf_τ13.1 15 (by decide)
        have g10_τ13 : τ13.2.1 10 = τ_10.2.1 10 := hf_τ13.2.1 10 (by decide)
        have g13_τ13 : τ13.2.1 13 = τ_10.2.1 13 := hf_τ13.2.1 13 (by decide)
        have g14_τ13 : τ13.2.1 14 = τ_10.2.1 14 := hf_τ13.2.1 14 (by decide)
        have g15_τ13 : τ13.2.1 15 = τ_10.2.1 15 := hf_τ13.2.1 15 (by decide)
        have g16_τ13 : τ13.2.1 16 = τ_10.2.1 16 := hf_τ13.2.1 16 (by decide)
        have g27_τ13 : τ13.2.1 27 = τ_10.2.1 27 := hf_τ13.2.1 27 (by decide)
        have g28_τ13 : τ13.2.1 28 = τ_10.2.1 28 := hf_τ13.2.1 28 (by decide)
        have g29_τ13 : τ13.2.1 29 = τ_10.2.1 29 := hf_τ13.2.1 29 (by decide)
        have g30_τ13 : τ13.2.1 30 = τ_10.2.1 30 := hf_τ13.2.1 30 (by decide)
        have g31_τ13 : τ13.2.1 31 = τ_10.2.1 31 := hf_τ13.2.1 31 (by decide)
        have g32_τ13 : τ13.2.1 32 = τ_10.2.1 32 := hf_τ13.2.1 32 (by decide)
        have g33_τ13 : τ13.2.1 33 = τ_10.2.1 33 := hf_τ13.2.1 33 (by decide)
        have g34_τ13 : τ13.2.1 34 = τ_10.2.1 34 := hf_τ13.2.1 34 (by decide)
        have g35_τ13 : τ13.2.1 35 = τ_10.2.1 35 := hf_τ13.2.1 35 (by decide)
        have g36_τ13 : τ13.2.1 36 = τ_10.2.1 36 := hf_τ13.2.1 36 (by decide)
        have g37_τ13 : τ13.2.1 37 = τ_10.2.1 37 := hf_τ13.2.1 37 (by decide)
        have g39_τ13 : τ13.2.1 39 = τ_10.2.1 39 := hf_τ13.2.1 39 (by decide)
        have g44_τ13 : τ13.2.1 44 = τ_10.2.1 44 := hf_τ13.2.1 44 (by decide)
        have g45_τ13 : τ13.2.1 45 = τ_10.2.1 45 := hf_τ13.2.1 45 (by decide)
        have W6 : τ13.1 6 = σ.1 6 := by first | exact w6_τ13.trans W6 | omega
        have W7 : τ13.1 7 = σ.1 7 := by first | exact w7_τ13.trans W7 | omega
        have W13 : τ13.1 13 = σ.1 13 := by first | exact w13_τ13.trans W13 | omega
        have W14 : τ13.1 14 = σ.1 14 := by first | exact w14_τ13.trans W14 | omega
        have W15 : τ13.1 15 = σ.1 15 := by first | exact w15_τ13.trans W15 | omega
        have G10 : τ13.2.1 10 = σ.2.1 10 := (g10_τ13).trans G10
        have G13 : τ13.2.1 13 = σ.2.1 13 := (g13_τ13).trans G13
        have G14 : τ13.2.1 14 = σ.2.1 14 := (g14_τ13).trans G14
        have G15 : τ13.2.1 15 = σ.2.1 15 := (g15_τ13).trans G15
        have G16 : τ13.2.1 16 = σ.2.1 16 := (g16_τ13).trans G16
        have G27 : τ13.2.1 27 = σ.2.1 27 := (g27_τ13).trans G27
        have G28 : τ13.2.1 28 = σ.2.1 28 := (g28_τ13).trans G28
        have G29 : τ13.2.1 29 = σ.2.1 29 := (g29_τ13).trans G29
        have G30 : τ13.2.1 30 = σ.2.1 30 := (g30_τ13).trans G30
        have G31 : τ13.2.1 31 = σ.2.1 31 := (g31_τ13).trans G31
        have G32 : τ13.2.1 32 = σ.2.1 32 := (g32_τ13).trans G32
        have G33 : τ13.2.1 33 = σ.2.1 33 := (g33_τ13).trans G33
        have G34 : τ13.2.1 34 = σ.2.1 34 := (g34_τ13).trans G34
        have G35 : τ13.2.1 35 = σ.2.1 35 := (g35_τ13).trans G35
        have G36 : τ13.2.1 36 = σ.2.1 36 := (g36_τ13).trans G36
        have G37 : τ13.2.1 37 = σ.2.1 37 := (g37_τ13).trans G37
        have G39 : τ13.2.1 39 = σ.2.1 39 := (g39_τ13).trans G39
        have G44 : τ13.2.1 44 = σ.2.1 44 := (g44_τ13).trans G44
        have G45 : τ13.2.1 45 = σ.2.1 45 := (g45_τ13).trans G45
        have CJ : J_all (τ13.1 7) (τ13.1 6) (τ13.1 13) (τ13.1 14) (τ13.1 15) (τ13.2.1 13) (τ13.2.1 14) (τ13.2.1 15) (τ13.2.1 16) (τ13.2.1 10) (τ13.2.1 27) (τ13.2.1 28) (τ13.2.1 29) (τ13.2.1 30) (τ13.2.1 31) (τ13.2.1 32) (τ13.2.1 33) (τ13.2.1 34) (τ13.2.1 35) (τ13.2.1 36) (τ13.2.1 37) := by rw [show (J_all (τ13.1 7) (τ13.1 6) (τ13.1 13) (τ13.1 14) (τ13.1 15) (τ13.2.1 13) (τ13.2.1 14) (τ13.2.1 15) (τ13.2.1 16) (τ13.2.1 10) (τ13.2.1 27) (τ13.2.1 28) (τ13.2.1 29) (τ13.2.1 30) (τ13.2.1 31) (τ13.2.1 32) (τ13.2.1 33) (τ13.2.1 34) (τ13.2.1 35) (τ13.2.1 36) (τ13.2.1 37)) = (J_all (τ_10.1 7) (τ_10.1 6) (τ_10.1 13) (τ_10.1 14) (τ_10.1 15) (τ_10.2.1 13) (τ_10.2.1 14) (τ_10.2.1 15) (τ_10.2.1 16) (τ_10.2.1 10) (τ_10.2.1 27) (τ_10.2.1 28) (τ_10.2.1 29) (τ_10.2.1 30) (τ_10.2.1 31) (τ_10.2.1 32) (τ_10.2.1 33) (τ_10.2.1 34) (τ_10.2.1 35) (τ_10.2.1 36) (τ_10.2.1 37)) from by rw [w6_τ13, w7_τ13, w13_τ13, w14_τ13, w15_τ13, g10_τ13, g13_τ13, g14_τ13, g15_τ13, g16_τ13, g27_τ13, g28_τ13, g29_τ13, g30_τ13, g31_τ13, g32_τ13, g33_τ13, g34_τ13, g35_τ13, g36_τ13, g37_τ13]]; exact CJ
        have BP : J_bp (τ13.2.1 44) (τ13.2.1 45) := by rw [show (J_bp (τ13.2.1 44) (τ13.2.1 45)) = (J_bp (τ_10.2.1 44) (τ_10.2.1 45)) from by rw [g44_τ13, g45_τ13]]; exact BP
        have A10 : ∀ j, (-1) ≤ τ13.2.1 10 j ∧ τ13.2.1 10 j ≤ 99 := fun j => hT.2 10 j
        have A13 : ∀ j, 0 ≤ τ13.2.1 13 j ∧ τ13.2.1 13 j ≤ 4 := fun j => hT.2 13 j
        have A14 : ∀ j, 0 ≤ τ13.2.1 14 j ∧ τ13.2.1 14 j ≤ 30000 := fun j => hT.2 14 j
        have A15 : ∀ j, 0 ≤ τ13.2.1 15 j ∧ τ13.2.1 15 j ≤ 999 := fun j => hT.2 15 j
        have A16 : ∀ j, (-1) ≤ τ13.2.1 16 j ∧ τ13.2.1 16 j ≤ 1499 := fun j => hT.2 16 j
        have A27 : ∀ j, 0 ≤ τ13.2.1 27 j ∧ τ13.2.1 27 j ≤ 90000 := fun j => hT.2 27 j
        have A28 : ∀ j, 0 ≤ τ13.2.1 28 j ∧ τ13.2.1 28 j ≤ 60 := fun j => hT.2 28 j
        have A29 : ∀ j, 0 ≤ τ13.2.1 29 j ∧ τ13.2.1 29 j ≤ 1499 := fun j => hT.2 29 j
        have A30 : ∀ j, 0 ≤ τ13.2.1 30 j ∧ τ13.2.1 30 j ≤ 20000 := fun j => hT.2 30 j
        have A31 : ∀ j, 0 ≤ τ13.2.1 31 j ∧ τ13.2.1 31 j ≤ 20000 := fun j => hT.2 31 j
        have A32 : ∀ j, 0 ≤ τ13.2.1 32 j ∧ τ13.2.1 32 j ≤ 999999 := fun j => hT.2 32 j
        have A33 : ∀ j, 0 ≤ τ13.2.1 33 j ∧ τ13.2.1 33 j ≤ 20000 := fun j => hT.2 33 j
        have A34 : ∀ j, 0 ≤ τ13.2.1 34 j ∧ τ13.2.1 34 j ≤ 20000 := fun j => hT.2 34 j
        have A35 : ∀ j, 0 ≤ τ13.2.1 35 j ∧ τ13.2.1 35 j ≤ 1499 := fun j => hT.2 35 j
        have A36 : ∀ j, 0 ≤ τ13.2.1 36 j ∧ τ13.2.1 36 j ≤ 20000 := fun j => hT.2 36 j
        have A37 : ∀ j, 0 ≤ τ13.2.1 37 j ∧ τ13.2.1 37 j ≤ 19999 := fun j => hT.2 37 j
        have A39 : ∀ j, 0 ≤ τ13.2.1 39 j ∧ τ13.2.1 39 j ≤ 1060 := fun j => hT.2 39 j
        have A44 : ∀ j, 0 ≤ τ13.2.1 44 j ∧ τ13.2.1 44 j ≤ 42000 := fun j => hT.2 44 j
        have A45 : ∀ j, 0 ≤ τ13.2.1 45 j ∧ τ13.2.1 45 j ≤ 1000 := fun j => hT.2 45 j
        have v6 : 0 ≤ τ13.1 6 ∧ τ13.1 6 ≤ 30000 := hT.1 6
        have v7 : 0 ≤ τ13.1 7 ∧ τ13.1 7 ≤ 1500 := hT.1 7
        have v13 : 0 ≤ τ13.1 13 ∧ τ13.1 13 ≤ 90000 := hT.1 13
        have v14 : 0 ≤ τ13.1 14 ∧ τ13.1 14 ≤ 20000 := hT.1 14
        have v15 : 0 ≤ τ13.1 15 ∧ τ13.1 15 ≤ 20000 := hT.1 15
        refine ⟨_, K2_X0_secondOf hT (show 0 ≤ u2_10 from by (first | omega | (simp only [st_s] <;> omega) | assumption | omega | fail)) (show u2_10 < 20000 from by (first | omega | (simp only [st_s] <;> omega) | assumption | omega | fail)), ?_⟩
        intro x15 r_x15 hq
        obtain ⟨q14_1, q14_2⟩ := hq
        replace q14_1 : 0 ≤ x15 ∧ x15 ≤ 999 := q14_1
        replace q14_2 : x15 = τ13.2.1 32 u2_10 % 1000 := q14_2
        rw [g32_τ13] at q14_2
        rw [← q14_2] at vy
        refine ⟨_, K_X6_gather_q64 hT (show 0 ≤ x15 from by (first | omega | (simp only [st_s] <;> omega) | assumption | omega | fail)) (show x15 < 1000 from by (first | omega | (simp only [st_s] <;> omega) | assumption | omega | fail)) (show J_bp (τ13.2.1 44) (τ13.2.1 45) from BP) (show J_bd x15 (τ13.2.1 39) (τ13.2.1 44) (τ13.2.1 45) from by (rw [G39, G44, G45]; exact vy)), ?_⟩
        intro x18 τ19 r_x18 hn_τ19 hf_τ19 hq
        obtain ⟨hT, q17_1⟩ := hq
        replace q17_1 : 0 ≤ x18 ∧ x18 ≤ 1000 := q17_1
        have w6_τ19 : τ19.1 6 = τ13.1 6 := hf_τ19.1 6 (by decide)
        have w7_τ19 : τ19.1 7 = τ13.1 7 := hf_τ19.1 7 (by decide)
        have w13_τ19 : τ19.1 13 = τ13.1 13 := hf_τ19.1 13 (by decide)
        have w14_τ19 : τ19.1 14 = τ13.1 14 := hf_τ19.1 14 (by decide)
        have w15_τ19 : τ19.1 15 = τ13.1 15 := hf_τ19.1 15 (by decide)
        have g10_τ19 : τ19.2.1 10 = τ13.2.1 10 := hf_τ19.2.1 10 (by decide)
        have g13_τ19 : τ19.2.1 13 = τ13.2.1 13 := hf_τ19.2.1 13 (by decide)
        have g14_τ19 : τ19.2.1 14 = τ13.2.1 14 := hf_τ19.2.1 14 (by decide)
        have g15_τ19 : τ19.2.1 15 = τ13.2.1 15 := hf_τ19.2.1 15 (by decide)
        have g16_τ19 : τ19.2.1 16 = τ13.2.1 16 := hf_τ19.2.1 16 (by decide)
        have g27_τ19 : τ19.2.1 27 = τ13.2.1 27 := hf_τ19.2.1 27 (by decide)
        have g28_τ19 : τ19.2.1 28 = τ13.2.1 28 := hf_τ19.2.1 28 (by decide)
        have g29_τ19 : τ19.2.1 29 = τ13.2.1 29 := hf_τ19.2.1 29 (by decide)
        have g30_τ19 : τ19.2.1 30 = τ13.2.1 30 := hf_τ19.2.1 30 (by decide)
        have g31_τ19 : τ19.2.1 31 = τ13.2.1 31 := hf_τ19.2.1 31 (by decide)
        have g32_τ19 : τ19.2.1 32 = τ13.2.1 32 := hf_τ19.2.1 32 (by decide)
        have g33_τ19 : τ19.2.1 33 = τ13.2.1 33 := hf_τ19.2.1 33 (by decide)
        have g34_τ19 : τ19.2.1 34 = τ13.2.1 34 := hf_τ19.2.1 34 (by decide)
        have g35_τ19 : τ19.2.1 35 = τ13.2.1 35 := hf_τ19.2.1 35 (by decide)
        have g36_τ19 : τ19.2.1 36 = τ13.2.1 36 := hf_τ19.2.1 36 (by decide)
        have g37_τ19 : τ19.2.1 37 = τ13.2.1 37 := hf_τ19.2.1 37 (by decide)
        have g39_τ19 : τ19.2.1 39 = τ13.2.1 39 := hf_τ19.2.1 39 (by decide)
        have g44_τ19 : τ19.2.1 44 = τ13.2.1 44 := hf_τ19.2.1 44 (by decide)
        have g45_τ19 : τ19.2.1 45 = τ13.2.1 45 := hf_τ19.2.1 45 (by decide)
        have W6 : τ19.1 6 = σ.1 6 := by first | exact w6_τ19.trans W6 | omega
        have W7 : τ19.1 7 = σ.1 7 := by first | exact w7_τ19.trans W7 | omega
        have W13 : τ19.1 13 = σ.1 13 := by first | exact w13_τ19.trans W13 | omega
        have W14 : τ19.1 14 = σ.1 14 := by first | exact w14_τ19.trans W14 | omega
        have W15 : τ19.1 15 = σ.1 15 := by first | exact w15_τ19.trans W15 | omega
        have G10 : τ19.2.1 10 = σ.2.1 10 := (g10_τ19).trans G10
        have G13 : τ19.2.1 13 = σ.2.1 13 := (g13_τ19).trans G13
        have G14 : τ19.2.1 14 = σ.2.1 14 := (g14_τ19).trans G14
        have G15 : τ19.2.1 15 = σ.2.1 15 := (g15_τ19).trans G15
        have G16 : τ19.2.1 16 = σ.2.1 16 := (g16_τ19).trans G16
        have G27 : τ19.2.1 27 = σ.2.1 27 := (g27_τ19).trans G27
        have G28 : τ19.2.1 28 = σ.2.1 28 := (g28_τ19).trans G28
        have G29 : τ19.2.1 29 = σ.2.1 29 := (g29_τ19).trans G29
        have G30 : τ19.2.1 30 = σ.2.1 30 := (g30_τ19).trans G30
        have G31 : τ19.2.1 31 = σ.2.1 31 := (g31_τ19).trans G31
        have G32 : τ19.2.1 32 = σ.2.1 32 := (g32_τ19).trans G32
        have G33 : τ19.2.1 33 = σ.2.1 33 := (g33_τ19).trans G33
        have G34 : τ19.2.1 34 = σ.2.1 34 := (g34_τ19).trans G34
        have G35 : τ19.2.1 35 = σ.2.1 35 := (g35_τ19).trans G35
        have G36 : τ19.2.1 36 = σ.2.1 36 := (g36_τ19).trans G36
        have G37 : τ19.2.1 37 = σ.2.1 37 := (g37_τ19).trans G37
        have G39 : τ19.2.1 39 = σ.2.1 39 := (g39_τ19).trans G39
        have G44 : τ19.2.1 44 = σ.2.1 44 := (g44_τ19).trans G44
        have G45 : τ19.2.1 45 = σ.2.1 45 := (g45_τ19).trans G45
        have CJ : J_all (τ19.1 7) (τ19.1 6) (τ19.1 13) (τ19.1 14) (τ19.1 15) (τ19.2.1 13) (τ19.2.1 14) (τ19.2.1 15) (τ19.2.1 16) (τ19.2.1 10) (τ19.2.1 27) (τ19.2.1 28) (τ19.2.1 29) (τ19.2.1 30) (τ19.2.1 31) (τ19.2.1 32) (τ19.2.1 33) (τ19.2.1 34) (τ19.2.1 35) (τ19.2.1 36) (τ19.2.1 37) := by rw [show (J_all (τ19.1 7) (τ19.1 6) (τ19.1 13) (τ19.1 14) (τ19.1 15) (τ19.2.1 13) (τ19.2.1 14) (τ19.2.1 15) (τ19.2.1 16) (τ19.2.1 10) (τ19.2.1 27) (τ19.2.1 28) (τ19.2.1 29) (τ19.2.1 30) (τ19.2.1 31) (τ19.2.1 32) (τ19.2.1 33) (τ19.2.1 34) (τ19.2.1 35) (τ19.2.1 36) (τ19.2.1 37)) = (J_all (τ13.1 7) (τ13.1 6) (τ13.1 13) (τ13.1 14) (τ13.1 15) (τ13.2.1 13) (τ13.2.1 14) (τ13.2.1 15) (τ13.2.1 16) (τ13.2.1 10) (τ13.2.1 27) (τ13.2.1 28) (τ13.2.1 29) (τ13.2.1 30) (τ13.2.1 31) (τ13.2.1 32) (τ13.2.1 33) (τ13.2.1 34) (τ13.2.1 35) (τ13.2.1 36) (τ13.2.1 37)) from by rw [w6_τ19, w7_τ19, w13_τ19, w14_τ19, w15_τ19, g10_τ19, g13_τ19, g14_τ19, g15_τ19, g16_τ19, g27_τ19, g28_τ19, g29_τ19, g30_τ19, g31_τ19, g32_τ19, g33_τ19, g34_τ19, g35_τ19, g36_τ19, g37_τ19]]; exact CJ
        have BP : J_bp (τ19.2.1 44) (τ19.2.1 45) := by rw [show (J_bp (τ19.2.1 44) (τ19.2.1 45)) = (J_bp (τ13.2.1 44) (τ13.2.1 45)) from by rw [g44_τ19, g45_τ19]]; exact BP
        have A10 : ∀ j, (-1) ≤ τ19.2.1 10 j ∧ τ19.2.1 10 j ≤ 99 := fun j => hT.2 10 j
        have A13 : ∀ j, 0 ≤ τ19.2.1 13 j ∧ τ19.2.1 13 j ≤ 4 := fun j => hT.2 13 j
        have A14 : ∀ j, 0 ≤ τ19.2.1 14 j ∧ τ19.2.1 14 j ≤ 30000 := fun j => hT.2 14 j
        have A15 : ∀ j, 0 ≤ τ19.2.1 15 j ∧ τ19.2.1 15 j ≤ 999 := fun j => hT.2 15 j
        have A16 : ∀ j, (-1) ≤ τ19.2.1 16 j ∧ τ19.2.1 16 j ≤ 1499 := fun j => hT.2 16 j
        have A27 : ∀ j, 0 ≤ τ19.2.1 27 j ∧ τ19.2.1 27 j ≤ 90000 := fun j => hT.2 27 j
        have A28 : ∀ j, 0 ≤ τ19.2.1 28 j ∧ τ19.2.1 28 j ≤ 60 := fun j => hT.2 28 j
        have A29 : ∀ j, 0 ≤ τ19.2.1 29 j ∧ τ19.2.1 29 j ≤ 1499 := fun j => hT.2 29 j
        have A30 : ∀ j, 0 ≤ τ19.2.1 30 j ∧ τ19.2.1 30 j ≤ 20000 := fun j => hT.2 30 j
        have A31 : ∀ j, 0 ≤ τ19.2.1 31 j ∧ τ19.2.1 31 j ≤ 20000 := fun j => hT.2 31 j
        have A32 : ∀ j, 0 ≤ τ19.2.1 32 j ∧ τ19.2.1 32 j ≤ 999999 := fun j => hT.2 32 j
        have A33 : ∀ j, 0 ≤ τ19.2.1 33 j ∧ τ19.2.1 33 j ≤ 20000 := fun j => hT.2 33 j
        have A34 : ∀ j, 0 ≤ τ19.2.1 34 j ∧ τ19.2.1 34 j ≤ 20000 := fun j => hT.2 34 j
        have A35 : ∀ j, 0 ≤ τ19.2.1 35 j ∧ τ19.2.1 35 j ≤ 1499 := fun j => hT.2 35 j
        have A36 : ∀ j, 0 ≤ τ19.2.1 36 j ∧ τ19.2.1 36 j ≤ 20000 := fun j => hT.2 36 j
        have A37 : ∀ j, 0 ≤ τ19.2.1 37 j ∧ τ19.2.1 37 j ≤ 19999 := fun j => hT.2 37 j
        have A39 : ∀ j, 0 ≤ τ19.2.1 39 j ∧ τ19.2.1 39 j ≤ 1060 := fun j => hT.2 39 j
        have A44 : ∀ j, 0 ≤ τ19.2.1 44 j ∧ τ19.2.1 44 j ≤ 42000 := fun j => hT.2 44 j
        have A45 : ∀ j, 0 ≤ τ19.2.1 45 j ∧ τ19.2.1 45 j ≤ 1000 := fun j => hT.2 45 j
        have v6 : 0 ≤ τ19.1 6 ∧ τ19.1 6 ≤ 30000 := hT.1 6
        have v7 : 0 ≤ τ19.1 7 ∧ τ19.1 7 ≤ 1500 := hT.1 7
        have v13 : 0 ≤ τ19.1 13 ∧ τ19.1 13 ≤ 90000 := hT.1 13
        have v14 : 0 ≤ τ19.1 14 ∧ τ19.1 14 ≤ 20000 := hT.1 14
        have v15 : 0 ≤ τ19.1 15 ∧ τ19.1 15 ≤ 20000 := hT.1 15
        refine ⟨_, K_X6_areApart hT (show 0 ≤ x12 from by (first | omega | (simp only [st_s] <;> omega) | assumption | omega | fail)) (show x12 ≤ 1000 from by (first | omega | (simp only [st_s] <;> omega) | assumption | omega | fail)) (show 0 ≤ x18 from by (first | omega | (simp only [st_s] <;> omega) | assumption | omega | fail)) (show x18 ≤ 1000 from by (first | omega | (simp only [st_s] <;> omega) | assumption | omega | fail)), ?_⟩
        intro x21 r_x21 hq
        have q20_1 := hq
        replace q20_1 : 0 ≤ x21 ∧ x21 ≤ 1 := q20_1
        refine ⟨fun c23 => ?_, fun c23 => ?_⟩
        ·
          refine ⟨(⟨by (first | omega | (simp only [st_s] <;> omega) | assumption | omega | fail), by (first | omega | (simp only [st_s] <;> omega) | assumption | omega | fail)⟩ : rg (u2_10 + 1)), ?_⟩
          exact ih_10 _ _ (show (20001 - (u2_10 + 1) : Int) < ((m_10 : Nat) : Int) from by ((first | omega | (simp only [st_s] <;> omega) | assumption | omega | fail))) hT (show τ19.1 6 = σ.1 6 from by first | exact W6 | omega) (show τ19.1 7 = σ.1 7 from by first | exact W7 | omega) (show τ19.1 13 = σ.1 13 from by first | exact W13 | omega) (show τ19.1 14 = σ.1 14 from by first | exact W14 | omega) (show τ19.1 15 = σ.1 15 from by first | exact W15 | omega) G10 G13 G14 G15 G16 G27 G28 G29 G30 G31 G32 G33 G34 G35 G36 G37 G39 G44 G45 (show σ.2.1 30 n1 ≤ (u2_10 + 1) from by (first | omega | (simp only [st_s] <;> omega) | assumption | omega | fail)) (show (u2_10 + 1) ≤ 20000 from by (first | omega | (simp only [st_s] <;> omega) | assumption | omega | fail))
        ·
          exact ⟨hT, (show 0 ≤ 0 ∧ 0 ≤ 1 from by (first | omega | (simp only [st_s] <;> omega) | assumption | omega | fail))⟩
  refine ⟨(show 0 ≤ n1 ∧ n1 < 1500 from by (first | omega | (simp only [st_s] <;> omega) | assumption | omega | fail)), ?_⟩
  intro x2 r_x2 e_x2
  have b_x2 : 0 ≤ x2 ∧ x2 ≤ 20000 := by rw [e_x2]; exact hT.2 30 _
  exact l_10 ((20001 - x2 : Int).toNat + 1) _ _ (show (20001 - x2 : Int) < (((20001 - x2 : Int).toNat + 1 : Nat) : Int) from by ((first | omega | (simp only [st_s] <;> omega) | assumption | omega | fail))) hT (show σ.1 6 = σ.1 6 from by first | exact W6 | omega) (show σ.1 7 = σ.1 7 from by first | exact W7 | omega) (show σ.1 13 = σ.1 13 from by first | exact W13 | omega) (show σ.1 14 = σ.1 14 from by first | exact W14 | omega) (show σ.1 15 = σ.1 15 from by first | exact W15 | omega) G10 G13 G14 G15 G16 G27 G28 G29 G30 G31 G32 G33 G34 G35 G36 G37 G39 G44 G45 (show σ.2.1 30 n1 ≤ x2 from by (first | omega | (simp only [st_s] <;> omega) | assumption | omega | fail)) (show x2 ≤ 20000 from by (first | omega | (simp only [st_s] <;> omega) | assumption | omega | fail))
set_option maxHeartbeats 1000000 in
theorem K_X6_build {n1 : Int} {σ : S0} (hT : c_T σ) (p1 : 0 ≤ n1) (p2 : n1 < 1500) (p3 : σ.2.1 14 n1 ≤ σ.2.1 14 (n1 + 1)) (p4 : σ.2.1 14 (n1 + 1) ≤ σ.2.1 14 n1 + 300) (p5 : J_bp (σ.2.1 44) (σ.2.1 45)) (p6 : J_tb n1 (σ.2.1 14) (σ.2.1 15) (σ.2.1 16) (σ.2.1 39) (σ.2.1 44) (σ.2.1 45)) : W_X6_build n1 σ (fun (x : Int) (τ : S0) => (c_T τ) ∧ (0 ≤ x ∧ x ≤ 1) ∧ (¬ x = 0 → J_bt (τ.1 19) (τ.2.1 43))) := by
  have A14 : ∀ j, 0 ≤ σ.2.1 14 j ∧ σ.2.1 14 j ≤ 30000 := fun j => hT.2 14 j
  have A15 : ∀ j, 0 ≤ σ.2.1 15 j ∧ σ.2.1 15 j ≤ 999 := fun j => hT.2 15 j
  have A16 : ∀ j, (-1) ≤ σ.2.1 16 j ∧ σ.2.1 16 j ≤ 1499 := fun j => hT.2 16 j
  have A39 : ∀ j, 0 ≤ σ.2.1 39 j ∧ σ.2.1 39 j ≤ 1060 := fun j => hT.2 39 j
  have A43 : ∀ j, 0 ≤ σ.2.1 43 j ∧ σ.2.1 43 j ≤ 1060 := fun j => hT.2 43 j
  have A44 : ∀ j, 0 ≤ σ.2.1 44 j ∧ σ.2.1 44 j ≤ 42000 := fun j => hT.2 44 j
  have A45 : ∀ j, 0 ≤ σ.2.1 45 j ∧ σ.2.1 45 j ≤ 1000 := fun j => hT.2 45 j
  have v19 : 0 ≤ σ.1 19 ∧ σ.1 19 ≤ 1000 := hT.1 19
  have G14 : σ.2.1 14 = σ.2.1 14 := rfl
  have G15 : σ.2.1 15 = σ.2.1 15 := rfl
  have G16 : σ.2.1 16 = σ.2.1 16 := rfl
  have G39 : σ.2.1 39 = σ.2.1 39 := rfl
  have G44 : σ.2.1 44 = σ.2.1 44 := rfl
  have G45 : σ.2.1 45 = σ.2.1 45 := rfl
  intro P12 P91 h12 h91
  have bb := A14 (n1 + 1)
  have ba := A14 n1
  have s45 := A45
  have w0 : ∀ e : Int, 0 ≤ e → e < σ.2.1 14 (n1 + 1) - σ.2.1 14 n1 → 0 ≤ j_bw (σ.2.1 16) (σ.2.1 15) (σ.2.1 45) (σ.2.1 14 n1 + e) := fun e _ _ => by have := j_bw_u (σ.2.1 16) (σ.2.1 15) (σ.2.1 45) (σ.2.1 14 n1 + e); have := s45 (σ.2.1 15 (σ.2.1 14 n1 + e)); omega
  have BP : J_bp (σ.2.1 44) (σ.2.1 45) := p5
  have BP_0 := BP
  have l_91 : ∀ (m_91 : Nat) (u3_91 : Int) (τ_91 : S0), 30001 - u3_91 < (m_91 : Int) → (c_T τ_91) → (τ_91.2.1 14 = σ.2.1 14) → (τ_91.2.1 15 = σ.2.1 15) → (τ_91.2.1 16 = σ.2.1 16) → (τ_91.2.1 39 = σ.2.1 39) → (τ_91.2.1 44 = σ.2.1 44) → (τ_91.2.1 45 = σ.2.1 45) → (σ.2.1 14 n1 ≤ u3_91) → (u3_91 ≤ σ.2.1 14 (n1 + 1)) → ((τ_91.1 19) = sm (fun k => j_bw (σ.2.1 16) (σ.2.1 15) (σ.2.1 45) (σ.2.1 14 n1 + k)) (u3_91 - σ.2.1 14 n1)) → (sm (fun k => j_bw (σ.2.1 16) (σ.2.1 15) (σ.2.1 45) (σ.2.1 14 n1 + k)) (σ.2.1 14 (n1 + 1) - σ.2.1 14 n1) ≤ 1000) → (J_bt (τ_91.1 19) (τ_91.2.1 43)) → P91 n1 u3_91 τ_91 := by
    intro m_91
    induction m_91 with
    | zero =>
      intro u3_91 τ_91 hm hT G14 G15 G16 G39 G44 G45 i91_1 i91_2 i91_3 i91_4 i91_5
      have A14 : ∀ j, 0 ≤ τ_91.2.1 14 j ∧ τ_91.2.1 14 j ≤ 30000 := fun j => hT.2 14 j
      have A15 : ∀ j, 0 ≤ τ_91.2.1 15 j ∧ τ_91.2.1 15 j ≤ 999 := fun j => hT.2 15 j
      have A16 : ∀ j, (-1) ≤ τ_91.2.1 16 j ∧ τ_91.2.1 16 j ≤ 1499 := fun j => hT.2 16 j
      have A39 : ∀ j, 0 ≤ τ_91.2.1 39 j ∧ τ_91.2.1 39 j ≤ 1060 := fun j => hT.2 39 j
      have A43 : ∀ j, 0 ≤ τ_91.2.1 43 j ∧ τ_91.2.1 43 j ≤ 1060 := fun j => hT.2 43 j
      have A44 : ∀ j, 0 ≤ τ_91.2.1 44 j ∧ τ_91.2.1 44 j ≤ 42000 := fun j => hT.2 44 j
      have A45 : ∀ j, 0 ≤ τ_91.2.1 45 j ∧ τ_91.2.1 45 j ≤ 1000 := fun j => hT.2 45 j
      have v19 : 0 ≤ τ_91.1 19 ∧ τ_91.1 19 ≤ 1000 := hT.1 19
      exfalso; (first | omega | (simp only [st_s] <;> omega) | assumption | omega | fail)
    | succ m_91 ih_91 =>
      intro u3_91 τ_91 hm_91 hT G14 G15 G16 G39 G44 G45 i91_1 i91_2 i91_3 i91_4 i91_5
      have A14 : ∀ j, 0 ≤ τ_91.2.1 14 j ∧ τ_91.2.1 14 j ≤ 30000 := fun j => hT.2 14 j
      have A15 : ∀ j, 0 ≤ τ_91.2.1 15 j ∧ τ_91.2.1 15 j ≤ 999 := fun j => hT.2 15 j
      have A16 : ∀ j, (-1) ≤ τ_91.2.1 16 j ∧ τ_91.2.1 16 j ≤ 1499 := fun j => hT.2 16 j
      have A39 : ∀ j, 0 ≤ τ_91.2.1 39 j ∧ τ_91.2.1 39 j ≤ 1060 := fun j => hT.2 39 j
      have A43 : ∀ j, 0 ≤ τ_91.2.1 43 j ∧ τ_91.2.1 43 j ≤ 1060 := fun j => hT.2 43 j
      have A44 : ∀ j, 0 ≤ τ_91.2.1 44 j ∧ τ_91.2.1 44 j ≤ 42000 := fun j => hT.2 44 j
      have A45 : ∀ j, 0 ≤ τ_91.2.1 45 j ∧ τ_91.2.1 45 j ≤ 1000 := fun j => hT.2 45 j
      have v19 : 0 ≤ τ_91.1 19 ∧ τ_91.1 19 ≤ 1000 := hT.1 19
      have BP : J_bp (τ_91.2.1 44) (τ_91.2.1 45) := by rw [show (J_bp (τ_91.2.1 44) (τ_91.2.1 45)) = (J_bp (σ.2.1 44) (σ.2.1 45)) from by rw [G44, G45]]; exact BP_0
      have wu := j_bw_u (σ.2.1 16) (σ.2.1 15) (σ.2.1 45) u3_91
      have ws := sm_s (fun k => j_bw (σ.2.1 16) (σ.2.1 15) (σ.2.1 45) (σ.2.1 14 n1 + k)) (n := u3_91 - σ.2.1 14 n1) (by omega)
      rw [show u3_91 - σ.2.1 14 n1 + 1 = u3_91 + 1 - σ.2.1 14 n1 from by omega, show σ.2.1 14 n1 + (u3_91 - σ.2.1 14 n1) = u3_91 from by omega] at ws
      have wm := fun z : u3_91 < σ.2.1 14 (n1 + 1) => sm_m (g := (fun k => j_bw (σ.2.1 16) (σ.2.1 15) (σ.2.1 45) (σ.2.1 14 n1 + k))) (n := u3_91 + 1 - σ.2.1 14 n1) (m := σ.2.1 14 (n1 + 1) - σ.2.1 14 n1) w0 (by omega) (by omega)
      refine h91 n1 u3_91 τ_91 ?_
      refine ⟨(show 0 ≤ (n1 + 1) ∧ (n1 + 1) < 1501 from by (first | omega | (simp only [st_s] <;> omega) | assumption | omega | fail)), ?_⟩
      intro x20 r_x20 e_x20
      have b_x20 : 0 ≤ x20 ∧ x20 ≤ 30000 := by rw [e_x20]; exact hT.2 14 _
      rw [G14] at e_x20
      refine ⟨fun c21 => ?_, fun c21 => ?_⟩
      ·
        exact ⟨hT, (show 0 ≤ 1 ∧ 1 ≤ 1 from by (first | omega | (simp only [st_s] <;> omega) | assumption | omega | fail)), (show ¬ 1 = 0 → J_bt (τ_91.1 19) (τ_91.2.1 43) from by (first | (intro z; exfalso; omega) | exact fun _ => i91_5 | fail))⟩
      ·
        refine ⟨(show 0 ≤ u3_91 ∧ u3_91 < 30000 from by (first | omega | (simp only [st_s] <;> omega) | assumption | omega | fail)), ?_⟩
        intro x23 r_x23 e_x23
        have b_x23 : 0 ≤ x23 ∧ x23 ≤ 999 := by rw [e_x23]; exact hT.2 15 _
        rw [G15] at e_x23
        intro x24 r_x24 e_x24
        have b_x24 : (-1) ≤ x24 ∧ x24 ≤ 1499 := by rw [e_x24]; exact hT.2 16 _
        rw [G16] at e_x24
        refine ⟨fun c25 => ?_, fun c25 => ?_⟩
        ·
          refine ⟨(show 0 ≤ x23 ∧ x23 < 1000 from by (first | omega | (simp only [st_s] <;> omega) | assumption | omega | fail)), ?_⟩
          intro x27 r_x27 e_x27
          have b_x27 : 0 ≤ x27 ∧ x27 ≤ 42000 := by rw [e_x27]; exact hT.2 44 _
          intro x28 r_x28 e_x28
          have b_x28 : 0 ≤ x28 ∧ x28 ≤ 1000 := by rw [e_x28]; exact hT.2 45 _
          have e28 := e_x28
          rw [G45, e_x23] at e28
          have bpv := BP x23
          rw [← e_x27, ← e_x28] at bpv
          refine ⟨(show (0 : Int) ≤ x27 ∧ (0 : Int) ≤ τ_91.1 19 ∧ (0 : Int) ≤ x28 ∧ x27 + x28 ≤ 42000 ∧ τ_91.1 19 + x28 ≤ 1000 from by (first | omega | (simp only [st_s] <;> omega) | assumption | omega | fail)), ?_⟩
          replace hT := cT_f (k := 43) (f := (c_py (τ_91.2.1 39) (τ_91.2.1 43) x27 (τ_91.1 19) x28)) hT (cpy_r (lo := fun _ => (0 : Int)) (hi := fun _ => (1060 : Int)) A39 A43 (fun _ => rfl) (fun _ => rfl))
          intro x30 r_x30 e_x30
          have b_x30 : 0 ≤ x30 ∧ x30 ≤ 1000 := by rw [e_x30]; exact hT.2 45 _
          have e30 := e_x30
          rw [G45, e_x23] at e30
          refine ⟨(⟨by (first | omega | (simp only [st_s] <;> omega) | assumption | omega | fail), by (first | omega | (simp only [st_s] <;> omega) | assumption | omega | fail)⟩ : rg (τ_91.1 19 + x30)), ?_⟩
          replace hT := cT_v (i := 19) hT (show 0 ≤ (τ_91.1 19 + x30) ∧ (τ_91.1 19 + x30) ≤ 1000 from by (first | omega | (simp only [st_s] <;> omega) | assumption | omega | fail))
          refine ⟨(⟨by (first | omega | (simp only [st_s] <;> omega) | assumption | omega | fail), by (first | omega | (simp only [st_s] <;> omega) | assumption | omega | fail)⟩ : rg (u3_91 + 1)), ?_⟩
          exact ih_91 _ _ (show (30001 - (u3_91 + 1) : Int) < ((m_91 : Nat) : Int) from by ((first | omega | (simp only [st_s] <;> omega) | assumption | omega | fail))) hT G14 G15 G16 G39 G44 G45 (show σ.2.1 14 n1 ≤ (u3_91 + 1) from by (first | omega | (rw [e_x8, G14]; exact Int.le_refl _) | fail)) (show (u3_91 + 1) ≤ σ.2.1 14 (n1 + 1) from by (first | omega | (rw [e_x8, G14]; omega) | fail)) (show ((τ_91.1 19 + x30)) = sm (fun k => j_bw (σ.2.1 16) (σ.2.1 15) (σ.2.1 45) (σ.2.1 14 n1 + k)) ((u3_91 + 1) - σ.2.1 14 n1) from by (first | (rw [ws]; omega) | (rw [e_x8, G14, show σ.2.1 14 n1 - σ.2.1 14 n1 = 0 from by omega]; rfl) | fail)) (show sm (fun k => j_bw (σ.2.1 16) (σ.2.1 15) (σ.2.1 45) (σ.2.1 14 n1 + k)) (σ.2.1 14 (n1 + 1) - σ.2.1 14 n1) ≤ 1000 from by (first | exact i91_4 | (rw [show σ.2.1 14 (n1 + 1) - σ.2.1 14 n1 = u3_12 - σ.2.1 14 n1 from by omega]; omega) | fail)) (show J_bt ((τ_91.1 19 + x30)) ((c_py (τ_91.2.1 39) (τ_91.2.1 43) x27 (τ_91.1 19) x28)) from by (first | (intro j a b; exfalso; omega) | exact J_bt_a i91_5 (by omega) | (rw [show x30 = x28 from by omega]; exact J_bt_c i91_5 (by rw [e_x27, e_x28, G39, G44, G45, e_x23]; exact p6 u3_91 (by omega) (by omega) (by rw [← e_x24]; exact c25))) | fail))
        ·
          refine ⟨(show 0 ≤ τ_91.1 19 ∧ τ_91.1 19 < 1000 from by (first | omega | (simp only [st_s] <;> omega) | assumption | omega | fail)), ?_⟩
          replace hT := cT_a (k := 43) (j := (τ_91.1 19)) hT (show (0 : Int) ≤ x23 ∧ x23 ≤ 1060 from by (first | omega | (simp only [st_s] <;> omega) | assumption | omega | fail))
          refine ⟨(⟨by (first | omega | (simp only [st_s] <;> omega) | assumption | omega | fail), by (first | omega | (simp only [st_s] <;> omega) | assumption | omega | fail)⟩ : rg (τ_91.1 19 + 1)), ?_⟩
          replace hT := cT_v (i := 19) hT (show 0 ≤ (τ_91.1 19 + 1) ∧ (τ_91.1 19 + 1) ≤ 1000 from by (first | omega | (simp only [st_s] <;> omega) | assumption | omega | fail))
          refine ⟨(⟨by (first | omega | (simp only [st_s] <;> omega) | assumption | omega | fail), by (first | omega | (simp only [st_s] <;> omega) | assumption | omega | fail)⟩ : rg (u3_91 + 1)), ?_⟩
          exact ih_91 _ _ (show (30001 - (u3_91 + 1) : Int) < ((m_91 : Nat) : Int) from by ((first | omega | (simp only [st_s] <;> omega) | assumption | omega | fail))) hT G14 G15 G16 G39 G44 G45 (show σ.2.1 14 n1 ≤ (u3_91 + 1) from by (first | omega | (rw [e_x8, G14]; exact Int.le_refl _) | fail)) (show (u3_91 + 1) ≤ σ.2.1 14 (n1 + 1) from by (first | omega | (rw [e_x8, G14]; omega) | fail)) (show ((τ_91.1 19 + 1)) = sm (fun k => j_bw (σ.2.1 16) (σ.2.1 15) (σ.2.1 45) (σ.2.1 14 n1 + k)) ((u3_91 + 1) - σ.2.1 14 n1) from by (first | (rw [ws]; omega) | (rw [e_x8, G14, show σ.2.1 14 n1 - σ.2.1 14 n1 = 0 from by omega]; rfl) | fail)) (show sm (fun k => j_bw (σ.2.1 16) (σ.2.1 15) (σ.2.1 45) (σ.2.1 14 n1 + k)) (σ.2.1 14 (n1 + 1) - σ.2.1 14 n1) ≤ 1000 from by (first | exact i91_4 | (rw [show σ.2.1 14 (n1 + 1) - σ.2.1 14 n1 = u3_12 - σ.2.1 14 n1 from by omega]; omega) | fail)) (show J_bt ((τ_91.1 19 + 1)) ((st (τ_91.2.1 43) (τ_91.1 19) x23)) from by (first | (intro j a b; exfalso; omega) | exact J_bt_a i91_5 (by omega) | (rw [show x30 = x28 from by omega]; exact J_bt_c i91_5 (by rw [e_x27, e_x28, G39, G44, G45, e_x23]; exact p6 u3_91 (by omega) (by omega) (by rw [← e_x24]; exact c25))) | fail))
  have l_12 : ∀ (m_12 : Nat) (u2_12 : Int) (u3_12 : Int) (τ_12 : S0), 30001 - u3_12 < (m_12 : Int) → (c_T τ_12) → (τ_12.2.1 14 = σ.2.1 14) → (τ_12.2.1 15 = σ.2.1 15) → (τ_12.2.1 16 = σ.2.1 16) → (τ_12.2.1 39 = σ.2.1 39) → (τ_12.2.1 44 = σ.2.1 44) → (τ_12.2.1 45 = σ.2.1 45) → (σ.2.1 14 n1 ≤ u3_12) → (u3_12 ≤ σ.2.1 14 (n1 + 1)) → (0 ≤ u2_12) → (u2_12 ≤ 1000 * (u3_12 - σ.2.1 14 n1)) → (u2_12 = sm (fun k => j_bw (σ.2.1 16) (σ.2.1 15) (σ.2.1 45) (σ.2.1 14 n1 + k)) (u3_12 - σ.2.1 14 n1)) → P12 n1 u2_12 u3_12 τ_12 := by
    intro m_12
    induction m_12 with
    | zero =>
      intro u2_12 u3_12 τ_12 hm hT G14 G15 G16 G39 G44 G45 i12_1 i12_2 i12_3 i12_4 i12_5
      have A14 : ∀ j, 0 ≤ τ_12.2.1 14 j ∧ τ_12.2.1 14 j ≤ 30000 := fun j => hT.2 14 j
      have A15 : ∀ j, 0 ≤ τ_12.2.1 15 j ∧ τ_12.2.1 15 j ≤ 999 := fun j => hT.2 15 j
      have A16 : ∀ j, (-1) ≤ τ_12.2.1 16 j ∧ τ_12.2.1 16 j ≤ 1499 := fun j => hT.2 16 j
      have A39 : ∀ j, 0 ≤ τ_12.2.1 39 j ∧ τ_12.2.1 39 j ≤ 1060 := fun j => hT.2 39 j
      have A43 : ∀ j, 0 ≤ τ_12.2.1 43 j ∧ τ_12.2.1 43 j ≤ 1060 := fun j => hT.2 43 j
      have A44 : ∀ j, 0 ≤ τ_12.2.1 44 j ∧ τ_12.2.1 44 j ≤ 42000 := fun j => hT.2 44 j
      have A45 : ∀ j, 0 ≤ τ_12.2.1 45 j ∧ τ_12.2.1 45 j ≤ 1000 := fun j => hT.2 45 j
      have v19 : 0 ≤ τ_12.1 19 ∧ τ_12.1 19 ≤ 1000 := hT.1 19
      exfalso; (first | omega | (simp only [st_s] <;> omega) | assumption | omega | fail)
    | succ m_12 ih_12 =>
      intro u2_12 u3_12 τ_12 hm_12 hT G14 G15 G16 G39 G44 G45 i12_1 i12_2 i12_3 i12_4 i12_5
      have A14 : ∀ j, 0 ≤ τ_12.2.1 14 j ∧ τ_12.2.1 14 j ≤ 30000 := fun j => hT.2 14 j
      have A15 : ∀ j, 0 ≤ τ_12.2.1 15 j ∧ τ_12.2.1 15 j ≤ 999 := fun j => hT.2 15 j
      have A16 : ∀ j, (-1) ≤ τ_12.2.1 16 j ∧ τ_12.2.1 16 j ≤ 1499 := fun j => hT.2 16 j
      have A39 : ∀ j, 0 ≤ τ_12.2.1 39 j ∧ τ_12.2.1 39 j ≤ 1060 := fun j => hT.2 39 j
      have A43 : ∀ j, 0 ≤ τ_12.2.1 43 j ∧ τ_12.2.1 43 j ≤ 1060 := fun j => hT.2 43 j
      have A44 : ∀ j, 0 ≤ τ_12.2.1 44 j ∧ τ_12.2.1 44 j ≤ 42000 := fun j => hT.2 44 j
      have A45 : ∀ j, 0 ≤ τ_12.2.1 45 j ∧ τ_12.2.1 45 j ≤ 1000 := fun j => hT.2 45 j
      have v19 : 0 ≤ τ_12.1 19 ∧ τ_12.1 19 ≤ 1000 := hT.1 19
      have BP : J_bp (τ_12.2.1 44) (τ_12.2.1 45) := by rw [show (J_bp (τ_12.2.1 44) (τ_12.2.1 45)) = (J_bp (σ.2.1 44) (σ.2.1 45)) from by rw [G44, G45]]; exact BP_0
      have wu := j_bw_u (σ.2.1 16) (σ.2.1 15) (σ.2.1 45) u3_12
      have wb := s45 (σ.2.1 15 u3_12)
      have ws := sm_s (fun k => j_bw (σ.2.1 16) (σ.2.1 15) (σ.2.1 45) (σ.2.1 14 n1 + k)) (n := u3_12 - σ.2.1 14 n1) (by omega)
      rw [show u3_12 - σ.2.1 14 n1 + 1 = u3_12 + 1 - σ.2.1 14 n1 from by omega, show σ.2.1 14 n1 + (u3_12 - σ.2.1 14 n1) = u3_12 from by omega] at ws
      refine h12 n1 u2_12 u3_12 τ_12 ?_
      refine ⟨(show 0 ≤ (n1 + 1) ∧ (n1 + 1) < 1501 from by (first | omega | (simp only [st_s] <;> omega) | assumption | omega | fail)), ?_⟩
      intro x4 r_x4 e_x4
      have b_x4 : 0 ≤ x4 ∧ x4 ≤ 30000 := by rw [e_x4]; exact hT.2 14 _
      rw [G14] at e_x4
      refine ⟨fun c5 => ?_, fun c5 => ?_⟩
      ·
        refine ⟨fun c6 => ?_, fun c6 => ?_⟩
        ·
          replace hT := cT_v (i := 19) hT (show (0 : Int) ≤ 0 ∧ 0 ≤ 1000 from by (first | omega | (simp only [st_s] <;> omega) | assumption | omega | fail))
          refine ⟨(show 0 ≤ n1 ∧ n1 < 1501 from by (first | omega | (simp only [st_s] <;> omega) | assumption | omega | fail)), ?_⟩
          intro x8 r_x8 e_x8
          have b_x8 : 0 ≤ x8 ∧ x8 ≤ 30000 := by rw [e_x8]; exact hT.2 14 _
          exact l_91 ((30001 - x8 : Int).toNat + 1) _ _ (show (30001 - x8 : Int) < (((30001 - x8 : Int).toNat + 1 : Nat) : Int) from by ((first | omega | (simp only [st_s] <;> omega) | assumption | omega | fail))) hT G14 G15 G16 G39 G44 G45 (show σ.2.1 14 n1 ≤ x8 from by (first | omega | (rw [e_x8, G14]; exact Int.le_refl _) | fail)) (show x8 ≤ σ.2.1 14 (n1 + 1) from by (first | omega | (rw [e_x8, G14]; omega) | fail)) (show ((0 : Int)) = sm (fun k => j_bw (σ.2.1 16) (σ.2.1 15) (σ.2.1 45) (σ.2.1 14 n1 + k)) (x8 - σ.2.1 14 n1) from by (first | (rw [ws]; omega) | (rw [e_x8, G14, show σ.2.1 14 n1 - σ.2.1 14 n1 = 0 from by omega]; rfl) | fail)) (show sm (fun k => j_bw (σ.2.1 16) (σ.2.1 15) (σ.2.1 45) (σ.2.1 14 n1 + k)) (σ.2.1 14 (n1 + 1) - σ.2.1 14 n1) ≤ 1000 from by (first | exact i91_4 | (rw [show σ.2.1 14 (n1 + 1) - σ.2.1 14 n1 = u3_12 - σ.2.1 14 n1 from by omega]; omega) | fail)) (show J_bt ((0 : Int)) (τ_12.2.1 43) from by (first | (intro j a b; exfalso; omega) | exact J_bt_a i91_5 (by omega) | (rw [show x30 = x28 from by omega]; exact J_bt_c i91_5 (by rw [e_x27, e_x28, G39, G44, G45, e_x23]; exact p6 u3_91 (by omega) (by omega) (by rw [← e_x24]; exact c25))) | fail))
        ·
          exact ⟨hT, (show 0 ≤ 0 ∧ 0 ≤ 1 from by (first | omega | (simp only [st_s] <;> omega) | assumption | omega | fail)), (show ¬ 0 = 0 → J_bt (τ_12.1 19) (τ_12.2.1 43) from by (first | (intro z; exfalso; omega) | exact fun _ => i91_5 | fail))⟩
      ·
        refine ⟨(show 0 ≤ u3_12 ∧ u3_12 < 30000 from by (first | omega | (simp only [st_s] <;> omega) | assumption | omega | fail)), ?_⟩
        intro x10 r_x10 e_x10
        have b_x10 : (-1) ≤ x10 ∧ x10 ≤ 1499 := by rw [e_x10]; exact hT.2 16 _
        rw [G16] at e_x10
        refine ⟨fun c11 => ?_, fun c11 => ?_⟩
        ·
          intro x12 r_x12 e_x12
          have b_x12 : 0 ≤ x12 ∧ x12 ≤ 999 := by rw [e_x12]; exact hT.2 15 _
          rw [G15] at e_x12
          refine ⟨(show 0 ≤ x12 ∧ x12 < 1000 from by (first | omega | (simp only [st_s] <;> omega) | assumption | omega | fail)), ?_⟩
          intro x14 r_x14 e_x14
          have b_x14 : 0 ≤ x14 ∧ x14 ≤ 1000 := by rw [e_x14]; exact hT.2 45 _
          rw [G45, e_x12] at e_x14
          refine ⟨(⟨by (first | omega | (simp only [st_s] <;> omega) | assumption | omega | fail), by (first | omega | (simp only [st_s] <;> omega) | assumption | omega | fail)⟩ : rg (u2_12 + x14)), ?_⟩
          refine ⟨(⟨by (first | omega | (simp only [st_s] <;> omega) | assumption | omega | fail), by (first | omega | (simp only [st_s] <;> omega) | assumption | omega | fail)⟩ : rg (u3_12 + 1)), ?_⟩
          exact ih_12 _ _ _ (show (30001 - (u3_12 + 1) : Int) < ((m_12 : Nat) : Int) from by ((first | omega | (simp only [st_s] <;> omega) | assumption | omega | fail))) hT G14 G15 G16 G39 G44 G45 (show σ.2.1 14 n1 ≤ (u3_12 + 1) from by (first | omega | (simp only [st_s] <;> omega) | assumption | omega | fail)) (show (u3_12 + 1) ≤ σ.2.1 14 (n1 + 1) from by (first | omega | (simp only [st_s] <;> omega) | assumption | omega | fail)) (show 0 ≤ (u2_12 + x14) from by (first | omega | (simp only [st_s] <;> omega) | assumption | omega | fail)) (show (u2_12 + x14) ≤ 1000 * ((u3_12 + 1) - σ.2.1 14 n1) from by (first | omega | (simp only [st_s] <;> omega) | assumption | omega | fail)) (show (u2_12 + x14) = sm (fun k => j_bw (σ.2.1 16) (σ.2.1 15) (σ.2.1 45) (σ.2.1 14 n1 + k)) ((u3_12 + 1) - σ.2.1 14 n1) from by (first | (rw [ws]; omega) | (rw [e_x2, show σ.2.1 14 n1 - σ.2.1 14 n1 = 0 from by omega]; rfl) | fail))
        ·
          refine ⟨(⟨by (first | omega | (simp only [st_s] <;> omega) | assumption | omega | fail), by (first | omega | (simp only [st_s] <;> omega) | assumption | omega | fail)⟩ : rg (u2_12 + 1)), ?_⟩
          refine ⟨(⟨by (first | omega | (simp only [st_s] <;> omega) | assumption | omega | fail), by (first | omega | (simp only [st_s] <;> omega) | assumption | omega | fail)⟩ : rg (u3_12 + 1)), ?_⟩
          exact ih_12 _ _ _ (show (30001 - (u3_12 + 1) : Int) < ((m_12 : Nat) : Int) from by ((first | omega | (simp only [st_s] <;> omega) | assumption | omega | fail))) hT G14 G15 G16 G39 G44 G45 (show σ.2.1 14 n1 ≤ (u3_12 + 1) from by (first | omega | (simp only [st_s] <;> omega) | assumption | omega | fail)) (show (u3_12 + 1) ≤ σ.2.1 14 (n1 + 1) from by (first | omega | (simp only [st_s] <;> omega) | assumption | omega | fail)) (show 0 ≤ (u2_12 + 1) from by (first | omega | (simp only [st_s] <;> omega) | assumption | omega | fail)) (show (u2_12 + 1) ≤ 1000 * ((u3_12 + 1) - σ.2.1 14 n1) from by (first | omega | (simp only [st_s] <;> omega) | assumption | omega | fail)) (show (u2_12 + 1) = sm (fun k => j_bw (σ.2.1 16) (σ.2.1 15) (σ.2.1 45) (σ.2.1 14 n1 + k)) ((u3_12 + 1) - σ.2.1 14 n1) from by (first | (rw [ws]; omega) | (rw [e_x2, show σ.2.1 14 n1 - σ.2.1 14 n1 = 0 from by omega]; rfl) | fail))
  refine ⟨(show 0 ≤ n1 ∧ n1 < 1501 from by (first | omega | (simp only [st_s] <;> omega) | assumption | omega | fail)), ?_⟩
  intro x2 r_x2 e_x2
  have b_x2 : 0 ≤ x2 ∧ x2 ≤ 30000 := by rw [e_x2]; exact hT.2 14 _
  exact l_12 ((30001 - x2 : Int).toNat + 1) _ _ _ (show (30001 - x2 : Int) < (((30001 - x2 : Int).toNat + 1 : Nat) : Int) from by ((first | omega | (simp only [st_s] <;> omega) | assumption | omega | fail))) hT G14 G15 G16 G39 G44 G45 (show σ.2.1 14 n1 ≤ x2 from by (first | omega | (simp only [st_s] <;> omega) | assumption | omega | fail)) (show x2 ≤ σ.2.1 14 (n1 + 1) from by (first | omega | (simp only [st_s] <;> omega) | assumption | omega | fail)) (show 0 ≤ 0 from by (first | omega | (simp only [st_s] <;> omega) | assumption | omega | fail)) (show 0 ≤ 1000 * (x2 - σ.2.1 14 n1) from by (first | omega | (simp only [st_s] <;> omega) | assumption | omega | fail)) (show 0 = sm (fun k => j_bw (σ.2.1 16) (σ.2.1 15) (σ.2.1 45) (σ.2.1 14 n1 + k)) (x2 - σ.2.1 14 n1) from by (first | (rw [ws]; omega) | (rw [e_x2, show σ.2.1 14 n1 - σ.2.1 14 n1 = 0 from by omega]; rfl) | fail))
set_option maxHeartbeats 1000000 in
theorem K_X6_buildHypothesis {n1 : Int} {σ : S0} (hT : c_T σ) (p1 : 0 ≤ n1) (p2 : n1 < 1500) (p3 : σ.2.1 14 n1 ≤ σ.2.1 14 (n1 + 1)) (p4 : σ.2.1 14 (n1 + 1) ≤ σ.2.1 14 n1 + 300) : W_X6_buildHypothesis n1 σ (fun (τ : S0) => (c_T τ) ∧ ((τ.1 19) = σ.2.1 14 (n1 + 1) - σ.2.1 14 n1) ∧ (J_bt (τ.1 19) (τ.2.1 43))) := by
  have A14 : ∀ j, 0 ≤ σ.2.1 14 j ∧ σ.2.1 14 j ≤ 30000 := fun j => hT.2 14 j
  have A15 : ∀ j, 0 ≤ σ.2.1 15 j ∧ σ.2.1 15 j ≤ 999 := fun j => hT.2 15 j
  have A43 : ∀ j, 0 ≤ σ.2.1 43 j ∧ σ.2.1 43 j ≤ 1060 := fun j => hT.2 43 j
  have v19 : 0 ≤ σ.1 19 ∧ σ.1 19 ≤ 1000 := hT.1 19
  have G14 : σ.2.1 14 = σ.2.1 14 := rfl
  have G15 : σ.2.1 15 = σ.2.1 15 := rfl
  have bb := A14 (n1 + 1)
  have ba := A14 n1
  have t0 := hT.2 15
  unfold W_X6_buildHypothesis
  refine ⟨_, K_X3_lengthOf hT (show 0 ≤ n1 from by (first | omega | (simp only [st_s] <;> omega) | assumption | omega | fail)) (show n1 < 1500 from by (first | omega | (simp only [st_s] <;> omega) | assumption | omega | fail)), ?_⟩
  intro x2 r_x2 hq
  have q1_1 := hq
  replace q1_1 : x2 = σ.2.1 14 (n1 + 1) - σ.2.1 14 n1 := q1_1
  replace hT := cT_v (i := 19) hT (show 0 ≤ x2 ∧ x2 ≤ 1000 from by (first | omega | (simp only [st_s] <;> omega) | assumption | omega | fail))
  refine ⟨(show 0 ≤ n1 ∧ n1 < 1501 from by (first | omega | (simp only [st_s] <;> omega) | assumption | omega | fail)), ?_⟩
  intro x5 r_x5 e_x5
  have b_x5 : 0 ≤ x5 ∧ x5 ≤ 30000 := by rw [e_x5]; exact hT.2 14 _
  refine ⟨(show (0 : Int) ≤ x5 ∧ (0 : Int) ≤ 0 ∧ (0 : Int) ≤ x2 ∧ x5 + x2 ≤ 30000 ∧ 0 + x2 ≤ 1000 from by (first | omega | (simp only [st_s] <;> omega) | assumption | omega | fail)), ?_⟩
  replace hT := cT_f (k := 43) (f := (c_py (σ.2.1 15) (σ.2.1 43) x5 0 x2)) hT (cpy_r (lo := fun _ => (0 : Int)) (hi := fun _ => (1060 : Int)) (fun j => ⟨(A15 j).1, by have := (A15 j).2; omega⟩) A43 (fun _ => rfl) (fun _ => rfl))
  exact ⟨hT, (show (x2) = σ.2.1 14 (n1 + 1) - σ.2.1 14 n1 from by (first | omega | (simp only [st_s] <;> omega) | assumption | omega | fail)), (show J_bt (x2) ((c_py (σ.2.1 15) (σ.2.1 43) x5 0 x2)) from by (intro j j0 j1; unfold c_py; rw [if_pos (by omega)]; have := t0 (x5 + (j - 0)); have h9 : σ.2.1 15 (x5 + (j - 0)) ≤ 999 := this.2; omega))⟩
set_option maxHeartbeats 1000000 in
theorem K_X6_drop {n1 : Int} {n2 : Int} {σ : S0} (hT : c_T σ) (p1 : 0 ≤ n1) (p2 : 0 ≤ n2) (p3 : n1 + n2 ≤ 20000) (p4 : ∀ k : Int, 0 ≤ k → k < n2 → 0 ≤ σ.2.1 41 (σ.2.1 37 (n1 + k))) (p5 : sm (fun k => j_w (σ.2.1 42) (σ.2.1 41) (σ.2.1 37 (n1 + k))) n2 ≤ (σ.1 17)) : W_X6_drop n1 n2 σ (fun (τ : S0) => (c_T τ) ∧ ((τ.1 17) = (σ.1 17) - sm (fun k => j_w (σ.2.1 42) (σ.2.1 41) (σ.2.1 37 (n1 + k))) n2)) := by
  have A37 : ∀ j, 0 ≤ σ.2.1 37 j ∧ σ.2.1 37 j ≤ 19999 := fun j => hT.2 37 j
  have A41 : ∀ j, (-2) ≤ σ.2.1 41 j ∧ σ.2.1 41 j ≤ 1000 := fun j => hT.2 41 j
  have A42 : ∀ j, (-2147483648) ≤ σ.2.1 42 j ∧ σ.2.1 42 j ≤ 2147483647 := fun j => hT.2 42 j
  have v17 : 0 ≤ σ.1 17 ∧ σ.1 17 ≤ 42000 := hT.1 17
  have G37 : σ.2.1 37 = σ.2.1 37 := rfl
  have G41 : σ.2.1 41 = σ.2.1 41 := rfl
  have G42 : σ.2.1 42 = σ.2.1 42 := rfl
  intro P2 h2
  have w0 : ∀ e : Int, 0 ≤ e → e < n2 → 0 ≤ j_w (σ.2.1 42) (σ.2.1 41) (σ.2.1 37 (n1 + e)) := fun e a b => by have := j_w_u (σ.2.1 42) (σ.2.1 41) (σ.2.1 37 (n1 + e)); have := p4 e a b; omega
  have l_2 : ∀ (m_2 : Nat) (u3_2 : Int) (τ_2 : S0), 20001 - u3_2 < (m_2 : Int) → (c_T τ_2) → (τ_2.2.1 37 = σ.2.1 37) → (τ_2.2.1 41 = σ.2.1 41) → (τ_2.2.1 42 = σ.2.1 42) → (n1 ≤ u3_2) → (u3_2 ≤ n1 + n2) → ((τ_2.1 17) = (σ.1 17) - sm (fun k => j_w (σ.2.1 42) (σ.2.1 41) (σ.2.1 37 (n1 + k))) (u3_2 - n1)) → P2 n1 n2 u3_2 τ_2 := by
    intro m_2
    induction m_2 with
    | zero =>
      intro u3_2 τ_2 hm hT G37 G41 G42 i2_1 i2_2 i2_3
      have A37 : ∀ j, 0 ≤ τ_2.2.1 37 j ∧ τ_2.2.1 37 j ≤ 19999 := fun j => hT.2 37 j
      have A41 : ∀ j, (-2) ≤ τ_2.2.1 41 j ∧ τ_2.2.1 41 j ≤ 1000 := fun j => hT.2 41 j
      have A42 : ∀ j, (-2147483648) ≤ τ_2.2.1 42 j ∧ τ_2.2.1 42 j ≤ 2147483647 := fun j => hT.2 42 j
      have v17 : 0 ≤ τ_2.1 17 ∧ τ_2.1 17 ≤ 42000 := hT.1 17
      exfalso; (first | omega | (simp only [st_s] <;> omega) | assumption | omega | fail)
    | succ m_2 ih_2 =>
      intro u3_2 τ_2 hm_2 hT G37 G41 G42 i2_1 i2_2 i2_3
      have A37 : ∀ j, 0 ≤ τ_2.2.1 37 j ∧ τ_2.2.1 37 j ≤ 19999 := fun j => hT.2 37 j
      have A41 : ∀ j, (-2) ≤ τ_2.2.1 41 j ∧ τ_2.2.1 41 j ≤ 1000 := fun j => hT.2 41 j
      have A42 : ∀ j, (-2147483648) ≤ τ_2.2.1 42 j ∧ τ_2.2.1 42 j ≤ 2147483647 := fun j => hT.2 42 j
      have v17 : 0 ≤ τ_2.1 17 ∧ τ_2.1 17 ≤ 42000 := hT.1 17
      have wu := j_w_u (σ.2.1 42) (σ.2.1 41) (σ.2.1 37 u3_2)
      have ws := sm_s (fun k => j_w (σ.2.1 42) (σ.2.1 41) (σ.2.1 37 (n1 + k))) (n := u3_2 - n1) (by omega)
      rw [show u3_2 - n1 + 1 = u3_2 + 1 - n1 from by omega, show n1 + (u3_2 - n1) = u3_2 from by omega] at ws
      have wm := fun z : u3_2 < n1 + n2 => sm_m (g := (fun k => j_w (σ.2.1 42) (σ.2.1 41) (σ.2.1 37 (n1 + k)))) (n := u3_2 + 1 - n1) (m := n2) w0 (by omega) (by omega)
      refine h2 n1 n2 u3_2 τ_2 ?_
      refine ⟨(⟨by (first | omega | (simp only [st_s] <;> omega) | assumption | omega | fail), by (first | omega | (simp only [st_s] <;> omega) | assumption | omega | fail)⟩ : rg (n1 + n2)), ?_⟩
      refine ⟨fun c2 => ?_, fun c2 => ?_⟩
      ·
        exact ⟨hT, (show (τ_2.1 17) = (σ.1 17) - sm (fun k => j_w (σ.2.1 42) (σ.2.1 41) (σ.2.1 37 (n1 + k))) n2 from by (rw [i2_3, show u3_2 - n1 = n2 from by omega]))⟩
      ·
        refine ⟨(show 0 ≤ u3_2 ∧ u3_2 < 20000 from by (first | omega | (simp only [st_s] <;> omega) | assumption | omega | fail)), ?_⟩
        intro x4 r_x4 e_x4
        have b_x4 : 0 ≤ x4 ∧ x4 ≤ 19999 := by rw [e_x4]; exact hT.2 37 _
        rw [G37] at e_x4
        refine ⟨(show 0 ≤ x4 ∧ x4 < 20000 from by (first | omega | (simp only [st_s] <;> omega) | assumption | omega | fail)), ?_⟩
        intro x6 r_x6 e_x6
        have b_x6 : (-2147483648) ≤ x6 ∧ x6 ≤ 2147483647 := by rw [e_x6]; exact hT.2 42 _
        rw [G42, e_x4] at e_x6
        refine ⟨fun c7 => ?_, fun c7 => ?_⟩
        ·
          refine ⟨(⟨by (first | omega | (simp only [st_s] <;> omega) | assumption | omega | fail), by (first | omega | (simp only [st_s] <;> omega) | assumption | omega | fail)⟩ : rg (u3_2 + 1)), ?_⟩
          exact ih_2 _ _ (show (20001 - (u3_2 + 1) : Int) < ((m_2 : Nat) : Int) from by ((first | omega | (simp only [st_s] <;> omega) | assumption | omega | fail))) hT G37 G41 G42 (show n1 ≤ (u3_2 + 1) from by (first | omega | (simp only [st_s] <;> omega) | assumption | omega | fail)) (show (u3_2 + 1) ≤ n1 + n2 from by (first | omega | (simp only [st_s] <;> omega) | assumption | omega | fail)) (show (τ_2.1 17) = (σ.1 17) - sm (fun k => j_w (σ.2.1 42) (σ.2.1 41) (σ.2.1 37 (n1 + k))) ((u3_2 + 1) - n1) from by (first | (rw [ws]; omega) | (rw [show n1 - n1 = 0 from by omega, sm_0]; omega) | fail))
        ·
          intro x9 r_x9 e_x9
          have b_x9 : (-2) ≤ x9 ∧ x9 ≤ 1000 := by rw [e_x9]; exact hT.2 41 _
          have p4u := p4 (u3_2 - n1) (by omega) (by omega)
          rw [show n1 + (u3_2 - n1) = u3_2 from by omega] at p4u
          rw [G41, e_x4] at e_x9
          refine ⟨(⟨by (first | omega | (simp only [st_s] <;> omega) | assumption | omega | fail), by (first | omega | (simp only [st_s] <;> omega) | assumption | omega | fail)⟩ : rg (τ_2.1 17 - x9)), ?_⟩
          replace hT := cT_v (i := 17) hT (show 0 ≤ (τ_2.1 17 - x9) ∧ (τ_2.1 17 - x9) ≤ 42000 from by (first | omega | (simp only [st_s] <;> omega) | assumption | omega | fail))
          refine ⟨(⟨by (first | omega | (simp only [st_s] <;> omega) | assumption | omega | fail), by (first | omega | (simp only [st_s] <;> omega) | assumption | omega | fail)⟩ : rg (u3_2 + 1)), ?_⟩
          exact ih_2 _ _ (show (20001 - (u3_2 + 1) : Int) < ((m_2 : Nat) : Int) from by ((first | omega | (simp only [st_s] <;> omega) | assumption | omega | fail))) hT G37 G41 G42 (show n1 ≤ (u3_2 + 1) from by (first | omega | (simp only [st_s] <;> omega) | assumption | omega | fail)) (show (u3_2 + 1) ≤ n1 + n2 from by (first | omega | (simp only [st_s] <;> omega) | assumption | omega | fail)) (show ((τ_2.1 17 - x9)) = (σ.1 17) - sm (fun k => j_w (σ.2.1 42) (σ.2.1 41) (σ.2.1 37 (n1 + k))) ((u3_2 + 1) - n1) from by (first | (rw [ws]; omega) | (rw [show n1 - n1 = 0 from by omega, sm_0]; omega) | fail))
  exact l_2 ((20001 - n1 : Int).toNat + 1) _ _ (show (20001 - n1 : Int) < (((20001 - n1 : Int).toNat + 1 : Nat) : Int) from by ((first | omega | (simp only [st_s] <;> omega) | assumption | omega | fail))) hT G37 G41 G42 (show n1 ≤ n1 from by (first | omega | (simp only [st_s] <;> omega) | assumption | omega | fail)) (show n1 ≤ n1 + n2 from by (first | omega | (simp only [st_s] <;> omega) | assumption | omega | fail)) (show (σ.1 17) = (σ.1 17) - sm (fun k => j_w (σ.2.1 42) (σ.2.1 41) (σ.2.1 37 (n1 + k))) (n1 - n1) from by (first | (rw [ws]; omega) | (rw [show n1 - n1 = 0 from by omega, sm_0]; omega) | fail))
set_option maxHeartbeats 1000000 in
theorem K_X6_isStatement {n1 : Int} {n2 : Int} {σ : S0} (hT : c_T σ) (p1 : 0 ≤ n1) (p2 : n1 < 20000) (p3 : σ.2.1 40 n1 + σ.2.1 41 n1 ≤ 42000) (p4 : 0 ≤ n2) (p5 : n2 < 1500) : W_X6_isStatement n1 n2 σ (fun (x : Int) => (0 ≤ x ∧ x ≤ 1)) := by
  have A14 : ∀ j, 0 ≤ σ.2.1 14 j ∧ σ.2.1 14 j ≤ 30000 := fun j => hT.2 14 j
  have A40 : ∀ j, 0 ≤ σ.2.1 40 j ∧ σ.2.1 40 j ≤ 42000 := fun j => hT.2 40 j
  have A41 : ∀ j, (-2) ≤ σ.2.1 41 j ∧ σ.2.1 41 j ≤ 1000 := fun j => hT.2 41 j
  intro P21 h21
  have bb := A14 (n2 + 1)
  have l_21 : ∀ (m_21 : Nat) (u3_21 : Int), 1001 - u3_21 < (m_21 : Int) → (0 ≤ u3_21) → (u3_21 ≤ 1000) → (σ.2.1 41 n1 = σ.2.1 14 (n2 + 1) - σ.2.1 14 n2) → P21 n1 n2 u3_21 := by
    intro m_21
    induction m_21 with
    | zero =>
      intro u3_21 hm i21_1 i21_2 i21_3
      exfalso; (first | omega | (simp only [st_s] <;> omega) | assumption | omega | fail)
    | succ m_21 ih_21 =>
      intro u3_21 hm_21 i21_1 i21_2 i21_3
      refine h21 n1 n2 u3_21 ?_
      refine ⟨(show 0 ≤ n1 ∧ n1 < 20000 from by (first | omega | (simp only [st_s] <;> omega) | assumption | omega | fail)), ?_⟩
      intro x8 r_x8 e_x8
      have b_x8 : (-2) ≤ x8 ∧ x8 ≤ 1000 := by rw [e_x8]; exact hT.2 41 _
      refine ⟨fun c9 => ?_, fun c9 => ?_⟩
      ·
        exact (show 0 ≤ 1 ∧ 1 ≤ 1 from by (first | omega | (simp only [st_s] <;> omega) | assumption | omega | fail))
      ·
        intro x10 r_x10 e_x10
        have b_x10 : 0 ≤ x10 ∧ x10 ≤ 42000 := by rw [e_x10]; exact hT.2 40 _
        refine ⟨(show 0 ≤ (x10 + u3_21) ∧ (x10 + u3_21) < 42000 from by (first | omega | (simp only [st_s] <;> omega) | assumption | omega | fail)), ?_⟩
        intro x12 r_x12 e_x12
        have b_x12 : 0 ≤ x12 ∧ x12 ≤ 1060 := by rw [e_x12]; exact hT.2 39 _
        refine ⟨(show 0 ≤ n2 ∧ n2 < 1501 from by (first | omega | (simp only [st_s] <;> omega) | assumption | omega | fail)), ?_⟩
        intro x14 r_x14 e_x14
        have b_x14 : 0 ≤ x14 ∧ x14 ≤ 30000 := by rw [e_x14]; exact hT.2 14 _
        refine ⟨(show 0 ≤ (x14 + u3_21) ∧ (x14 + u3_21) < 30000 from by (first | omega | (simp only [st_s] <;> omega) | assumption | omega | fail)), ?_⟩
        intro x16 r_x16 e_x16
        have b_x16 : 0 ≤ x16 ∧ x16 ≤ 999 := by rw [e_x16]; exact hT.2 15 _
        refine ⟨fun c17 => ?_, fun c17 => ?_⟩
        ·
          refine ⟨(⟨by (first | omega | (simp only [st_s] <;> omega) | assumption | omega | fail), by (first | omega | (simp only [st_s] <;> omega) | assumption | omega | fail)⟩ : rg (u3_21 + 1)), ?_⟩
          exact ih_21 _ (show (1001 - (u3_21 + 1) : Int) < ((m_21 : Nat) : Int) from by ((first | omega | (simp only [st_s] <;> omega) | assumption | omega | fail))) (show 0 ≤ (u3_21 + 1) from by (first | omega | (simp only [st_s] <;> omega) | assumption | omega | fail)) (show (u3_21 + 1) ≤ 1000 from by (first | omega | (simp only [st_s] <;> omega) | assumption | omega | fail)) (show σ.2.1 41 n1 = σ.2.1 14 (n2 + 1) - σ.2.1 14 n2 from by (first | omega | (simp only [st_s] <;> omega) | assumption | omega | fail))
        ·
          exact (show 0 ≤ 0 ∧ 0 ≤ 1 from by (first | omega | (simp only [st_s] <;> omega) | assumption | omega | fail))
  refine ⟨(show 0 ≤ n1 ∧ n1 < 20000 from by (first | omega | (simp only [st_s] <;> omega) | assumption | omega | fail)), ?_⟩
  intro x2 r_x2 e_x2
  have b_x2 : (-2) ≤ x2 ∧ x2 ≤ 1000 := by rw [e_x2]; exact hT.2 41 _
  refine ⟨_, K_X3_lengthOf hT (show 0 ≤ n2 from by (first | omega | (simp only [st_s] <;> omega) | assumption | omega | fail)) (show n2 < 1500 from by (first | omega | (simp only [st_s] <;> omega) | assumption | omega | fail)), ?_⟩
  intro x4 r_x4 hq
  have q3_1 := hq
  replace q3_1 : x4 = σ.2.1 14 (n2 + 1) - σ.2.1 14 n2 := q3_1
  refine ⟨fun c6 => ?_, fun c6 => ?_⟩
  ·
    exact l_21 ((1001 - 0 : Int).toNat + 1) _ (show (1001 - 0 : Int) < (((1001 - 0 : Int).toNat + 1 : Nat) : Int) from by ((first | omega | (simp only [st_s] <;> omega) | assumption | omega | fail))) (show 0 ≤ 0 from by (first | omega | (simp only [st_s] <;> omega) | assumption | omega | fail)) (show 0 ≤ 1000 from by (first | omega | (simp only [st_s] <;> omega) | assumption | omega | fail)) (show σ.2.1 41 n1 = σ.2.1 14 (n2 + 1) - σ.2.1 14 n2 from by (first | omega | (simp only [st_s] <;> omega) | assumption | omega | fail))
  ·
    exact (show 0 ≤ 0 ∧ 0 ≤ 1 from by (first | omega | (simp only [st_s] <;> omega) | assumption | omega | fail))
