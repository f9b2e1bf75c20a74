-- pure: a row that is taken, and its trees
theorem g_wz {b : Int → Int64} {len : Int} {row : Int → Int} (h : ∀ s q : Int, 0 ≤ s → s < 1000 → 0 ≤ q → q < 64 → (j_b (b s) q ↔ q < len ∧ row q = s)) : ∀ s : Int, 0 ≤ s → s < 1000 → (∀ i : Int, 0 ≤ i → i < len → row i ≠ s) → b s = 0 := fun s s0 s1 no => j_b_ext (fun k k0 k1 => fun q => by
  have w := (h s k s0 s1 k0 k1).mp q
  exact no k k0 w.1 w.2)
theorem g_uq_m {nd len lim sp : Int} {lq : Prop} {row ky par bn nof so lf : Int → Int} {In : Int → Prop} {b4 b5 c4 c5 : Int → Int64} {mb mc : Int → Int} (h : g_uq nd len lim sp lq row ky par bn nof so lf In b4 b5 mb) (fr : ∀ s i e : Int, sp ≤ i → i < 60 → 0 ≤ e → e < 64 → (g_H c4 s i e ↔ g_H b4 s i e) ∧ (g_H c5 s i e ↔ g_H b5 s i e)) (fm : ∀ s e : Int, sp < e → e ≤ 59 → g_mb mc s sp e = g_mb mb s sp e) (s0 : 0 ≤ sp) (s1 : sp < len) (l59 : len ≤ 59) : g_uq nd len lim sp lq row ky par bn nof so lf In c4 c5 mc := by
  obtain ⟨h1, h2⟩ := h
  refine ⟨fun q => ?_, fun r m e π d hr hl e0 e1 m1 wy lc => ?_⟩
  · have v := h1 q
    have f := fr (so (lf sp)) sp (sp + 1) (Int.le_refl _) (by omega) (by omega) (by omega)
    rw [fm _ _ (by omega) (by omega), f.1, f.2]; exact v
  · have cv : ∀ d : Int → Int, g_wy nd len sp e r m row ky par bn nof π d (g_H c4) → g_wy nd len sp e r m row ky par bn nof π d (g_H b4) := fun d ⟨y1, y2, y3, y4, y5, y6, y7⟩ => ⟨y1, y2, y3, y4, y5, y6, fun j j0 j1 => by
      have g := g_d_i y7 y5 j0 (by omega)
      exact g_mk_w (y7 j j0 j1) (fun x y z w k => (fr _ _ _ (by omega) (by omega) (by omega) (by omega)).1.mp k)⟩
    have v := h2 r m e π d hr hl e0 e1 m1 (cv d wy) lc
    obtain ⟨y1, y2, y3, y4, y5, y6, y7⟩ := wy
    have gge := g_d_i y7 y5 (show 0 ≤ m from by omega) (Int.le_refl _)
    have lst := g_mk_b (y7 (m - 1) (by omega) (by omega))
    rw [show m - 1 + 1 = m from by omega, y6] at lst
    rw [y6] at gge
    have f := fr (so r) sp e (Int.le_refl _) (by omega) e0 e1
    rw [fm _ _ (by omega) (by omega), f.1, f.2]
    refine ⟨v.1, v.2.1, fun ⟨j, j0, j1, j2, j3⟩ => v.2.2.1 ⟨j, j0, j1, j2, ?_⟩, fun d2 w2 => v.2.2.2 d2 (cv d2 w2)⟩
    have g := g_d_i y7 y5 j0 (by omega)
    have mj := y7 j j0 j1
    have mb2 := g_mk_b mj
    exact (fr _ _ _ (by omega) (by have := mj.1; omega) (by omega) (by omega)).2.mp j3
/-- where the first u symbols of the row stand -/
def g_wu (u : Int) (row : Int → Int) (b : Int → Int64) : Prop := ∀ s q : Int, 0 ≤ s → s < 1000 → 0 ≤ q → q < 64 → (j_b (b s) q ↔ q < u ∧ row q = s)
theorem g_wu0 {row : Int → Int} {b : Int → Int64} (h : ∀ s : Int, 0 ≤ s → s < 1000 → b s = 0) : g_wu 0 row b := fun s q a c d e => by
  rw [h s a c]; exact ⟨fun z => absurd z (j_b_0 q), fun z => by omega⟩
theorem g_wu_a {u s0 : Int} {x : Int64} {row : Int → Int} {b : Int → Int64} (h : g_wu u row b) (u0 : 0 ≤ u) (u1 : u < 64) (e : s0 = row u) (x0 : x = b s0 ||| j_shl 1 u) : g_wu (u + 1) row (st b s0 x) := fun s q a c d f => by
  by_cases z : s = s0
  · rw [z, st_s, x0, j_b_or, j_b_one u0 u1 d f, ← z, h s q a c d f]
    refine ⟨fun k => k.elim (fun k => ⟨by omega, k.2⟩) (fun k => ⟨by omega, by rw [k, ← e]; exact z.symm⟩), fun k => ?_⟩
    by_cases y : q = u
    · exact Or.inr y
    · exact Or.inl ⟨by omega, k.2⟩
  · rw [st_n _ _ z, h s q a c d f]
    refine ⟨fun k => ⟨by omega, k.2⟩, fun k => ⟨?_, k.2⟩⟩
    by_cases y : q = u
    · exact absurd (by rw [← k.2, y]; exact e.symm) z
    · omega
/-- one tree: the goal's cell is there, and it is reached once -/
theorem g_one {x y : Int64} {k r : Int} (k0 : 0 ≤ k) (k1 : k < 64) (yx : j_b y k → j_b x k) (e : rg (((j_ushr x k &&& 1) + (j_ushr y k &&& 1)) : Int64).toInt → r = (((j_ushr x k &&& 1) + (j_ushr y k &&& 1)) : Int64).toInt) : (0 ≤ r ∧ r ≤ 2) ∧ (r = 1 → j_b x k ∧ ¬ j_b y k) := by
  rcases j_b_v (x := x) k0 k1 with ⟨a, b⟩ | ⟨a, b⟩ <;> rcases j_b_v (x := y) k0 k1 with ⟨c, d⟩ | ⟨c, d⟩ <;> rw [b, d] at e
  · have w := e (by unfold rg; decide)
    have v : ((1 : Int64) + 1).toInt = 2 := rfl
    rw [v] at w
    exact ⟨by omega, fun z => by omega⟩
  · have w := e (by unfold rg; decide)
    have v : ((1 : Int64) + 0).toInt = 1 := rfl
    rw [v] at w
    exact ⟨by omega, fun _ => ⟨a, c⟩⟩
  · exact absurd (yx c) a
  · have w := e (by unfold rg; decide)
    have v : ((0 : Int64) + 0).toInt = 0 := rfl
    rw [v] at w
    exact ⟨by omega, fun z => by omega⟩
set_option maxHeartbeats 1000000 in
theorem K_X1_forgetRow {σ : S0} (hT : c_T σ) (p1 : ∀ s : Int, 0 ≤ s → s < 1000 → (∀ i : Int, 0 ≤ i → i < (σ.1 50) → σ.2.1 77 i ≠ s) → σ.2.2 3 s = 0) : W_X1_forgetRow σ (fun (τ : S0) => (c_T τ) ∧ (∀ s : Int, 0 ≤ s → s < 1000 → τ.2.2 3 s = 0)) := by
  have A77 : ∀ j, 0 ≤ σ.2.1 77 j ∧ σ.2.1 77 j ≤ 999 := fun j => hT.2 77 j
  have v50 : 0 ≤ σ.1 50 ∧ σ.1 50 ≤ 59 := hT.1 50
  have W50 : σ.1 50 = σ.1 50 := rfl
  have G77 : σ.2.1 77 = σ.2.1 77 := rfl
  intro P2 h2
  have l_2 : ∀ (m_2 : Nat) (u1_2 : Int) (τ_2 : S0), 61 - u1_2 < (m_2 : Int) → (c_T τ_2) → (τ_2.1 50 = σ.1 50) → (τ_2.2.1 77 = σ.2.1 77) → (0 ≤ u1_2 ∧ u1_2 ≤ 60) → (∀ s : Int, 0 ≤ s → s < 1000 → (∀ i : Int, u1_2 ≤ i → i < (σ.1 50) → σ.2.1 77 i ≠ s) → τ_2.2.2 3 s = 0) → P2 u1_2 τ_2 := by
    intro m_2
    induction m_2 with
    | zero =>
      intro u1_2 τ_2 hm hT W50 G77 i2_1 i2_2
      have A77 : ∀ j, 0 ≤ τ_2.2.1 77 j ∧ τ_2.2.1 77 j ≤ 999 := fun j => hT.2 77 j
      have v50 : 0 ≤ τ_2.1 50 ∧ τ_2.1 50 ≤ 59 := hT.1 50
      exfalso; (first | omega | (simp only [st_s] <;> omega) | assumption | omega | fail)
    | succ m_2 ih_2 =>
      intro u1_2 τ_2 hm_2 hT W50 G77 i2_1 i2_2
      have A77 : ∀ j, 0 ≤ τ_2.2.1 77 j ∧ τ_2.2.1 77 j ≤ 999 := fun j => hT.2 77 j
      have v50 : 0 ≤ τ_2.1 50 ∧ τ_2.1 50 ≤ 59 := hT.1 50
      refine h2 u1_2 τ_2 ?_
      refine ⟨fun c1 => ?_, fun c1 => ?_⟩
      ·
        exact ⟨hT, (show ∀ s : Int, 0 ≤ s → s < 1000 → τ_2.2.2 3 s = 0 from by exact fun s a b => i2_2 s a b (fun i i0 i1 => by omega))⟩
      ·
        refine ⟨(show 0 ≤ u1_2 ∧ u1_2 < 60 from by (first | omega | (simp only [st_s] <;> omega) | assumption | omega | fail)), ?_⟩
        intro x3 r_x3 e_x3
        have b_x3 : 0 ≤ x3 ∧ x3 ≤ 999 := by rw [e_x3]; exact hT.2 77 _
        rw [G77] at e_x3
        refine ⟨(show 0 ≤ x3 ∧ x3 < 1000 from by (first | omega | (simp only [st_s] <;> omega) | assumption | omega | fail)), ?_⟩
        replace hT := cT_b (k := 3) (j := x3) (x := 0) hT
        refine ⟨(⟨by (first | omega | (simp only [st_s] <;> omega) | assumption | omega | fail), by (first | omega | (simp only [st_s] <;> omega) | assumption | omega | fail)⟩ : rg (u1_2 + 1)), ?_⟩
        exact ih_2 _ _ (show (61 - (u1_2 + 1) : Int) < ((m_2 : Nat) : Int) from by ((first | omega | (simp only [st_s] <;> omega) | assumption | omega | fail))) hT (show τ_2.1 50 = σ.1 50 from by first | exact W50 | omega) G77 (show 0 ≤ (u1_2 + 1) ∧ (u1_2 + 1) ≤ 60 from by (first | omega | (simp only [st_s] <;> omega) | assumption | omega | fail)) (show ∀ s : Int, 0 ≤ s → s < 1000 → (∀ i : Int, (u1_2 + 1) ≤ i → i < (σ.1 50) → σ.2.1 77 i ≠ s) → (st (τ_2.2.2 3) x3 0) s = 0 from by (first | exact p1 | (intro s a b no; by_cases z : s = x3; (rw [z, st_s]); (rw [st_n _ _ z]; exact i2_2 s a b (fun i i0 i1 e => (by rcases (by omega : i = u1_2 ∨ u1_2 + 1 ≤ i) with y | y; (rw [y, ← e_x3] at e; exact z e.symm); exact no i y i1 e)))) | fail))
  exact l_2 ((61 - 0 : Int).toNat + 1) _ _ (show (61 - 0 : Int) < (((61 - 0 : Int).toNat + 1 : Nat) : Int) from by ((first | omega | (simp only [st_s] <;> omega) | assumption | omega | fail))) hT (show σ.1 50 = σ.1 50 from by first | exact W50 | omega) G77 (show 0 ≤ 0 ∧ 0 ≤ 60 from by (first | omega | (simp only [st_s] <;> omega) | assumption | omega | fail)) (show ∀ s : Int, 0 ≤ s → s < 1000 → (∀ i : Int, 0 ≤ i → i < (σ.1 50) → σ.2.1 77 i ≠ s) → σ.2.2 3 s = 0 from by (first | exact p1 | (intro s a b no; by_cases z : s = x3; (rw [z, st_s]); (rw [st_n _ _ z]; exact i2_2 s a b (fun i i0 i1 e => (by rcases (by omega : i = u1_2 ∨ u1_2 + 1 ≤ i) with y | y; (rw [y, ← e_x3] at e; exact z e.symm); exact no i y i1 e)))) | fail))
set_option maxHeartbeats 1000000 in
theorem K2_X8_goalRank {n1 : Int} {σ : S0} (hT : c_T σ) (p1 : 0 ≤ n1) (p2 : n1 < (σ.1 5)) (p3 : J_rks (σ.1 5) (σ.1 4) (σ.2.1 10) (σ.2.1 11)) (p4 : (σ.1 49) < (σ.1 5)) : W_X8_goalRank n1 σ (fun (x : Int) => (-1 ≤ x ∧ x ≤ 99) ∧ (x < (σ.1 4)) ∧ (n1 = (σ.1 48) → x = -1 ∨ (¬ (σ.1 49) = -1 ∧ x = σ.2.1 10 (σ.1 49)))) := by
  have A10 : ∀ j, (-1) ≤ σ.2.1 10 j ∧ σ.2.1 10 j ≤ 99 := fun j => hT.2 10 j
  have A11 : ∀ j, 0 ≤ σ.2.1 11 j ∧ σ.2.1 11 j ≤ 999 := fun j => hT.2 11 j
  have v4 : 0 ≤ σ.1 4 ∧ σ.1 4 ≤ 100 := hT.1 4
  have v5 : 0 ≤ σ.1 5 ∧ σ.1 5 ≤ 1000 := hT.1 5
  have v48 : (-1) ≤ σ.1 48 ∧ σ.1 48 ≤ 999 := hT.1 48
  have v49 : (-1) ≤ σ.1 49 ∧ σ.1 49 ≤ 999 := hT.1 49
  have a10_49 : (-1) ≤ σ.2.1 10 (σ.1 49) ∧ σ.2.1 10 (σ.1 49) ≤ 99 := hT.2 10 _
  intro P16 h16
  have rk := p3.2
  have RKS : J_rks (σ.1 5) (σ.1 4) (σ.2.1 10) (σ.2.1 11) := p3
  have RKS_0 := RKS
  refine ⟨fun c1 => ?_, fun c1 => ?_⟩
  ·
    refine h16 _ ?_
    refine ⟨fun c2 => ?_, fun c2 => ?_⟩
    ·
      refine ⟨(show 0 ≤ n1 ∧ n1 < 1000 from by (first | omega | (simp only [st_s] <;> omega) | assumption | omega | fail)), ?_⟩
      intro x4 r_x4 e_x4
      have b_x4 : (-1) ≤ x4 ∧ x4 ≤ 99 := by rw [e_x4]; exact hT.2 10 _
      exact ⟨(show -1 ≤ x4 ∧ x4 ≤ 99 from by (first | omega | (simp only [st_s] <;> omega) | assumption | omega | fail)), (show x4 < (σ.1 4) from by (first | (rw [e_x4]; exact (rk _ (by omega) (by omega)).1) | (have v := v4; omega) | omega | fail)), (show n1 = (σ.1 48) → x4 = -1 ∨ (¬ (σ.1 49) = -1 ∧ x4 = σ.2.1 10 (σ.1 49)) from by (intro z; first | exact Or.inl rfl | (exfalso; omega) | exact Or.inr ⟨by omega, e_x4⟩ | (exact Or.inr ⟨by omega, by rw [e_x4]⟩)))⟩
    ·
      exact ⟨(show -1 ≤ (-1) ∧ (-1) ≤ 99 from by (first | omega | (simp only [st_s] <;> omega) | assumption | omega | fail)), (show (-1) < (σ.1 4) from by (first | (rw [e_x4]; exact (rk _ (by omega) (by omega)).1) | (have v := v4; omega) | omega | fail)), (show n1 = (σ.1 48) → (-1) = -1 ∨ (¬ (σ.1 49) = -1 ∧ (-1) = σ.2.1 10 (σ.1 49)) from by (intro z; first | exact Or.inl rfl | (exfalso; omega) | exact Or.inr ⟨by omega, e_x4⟩ | (exact Or.inr ⟨by omega, by rw [e_x4]⟩)))⟩
  ·
    refine h16 _ ?_
    refine ⟨fun c2 => ?_, fun c2 => ?_⟩
    ·
      refine ⟨(show 0 ≤ (σ.1 49) ∧ (σ.1 49) < 1000 from by (first | omega | (simp only [st_s] <;> omega) | assumption | omega | fail)), ?_⟩
      intro x4 r_x4 e_x4
      have b_x4 : (-1) ≤ x4 ∧ x4 ≤ 99 := by rw [e_x4]; exact hT.2 10 _
      exact ⟨(show -1 ≤ x4 ∧ x4 ≤ 99 from by (first | omega | (simp only [st_s] <;> omega) | assumption | omega | fail)), (show x4 < (σ.1 4) from by (first | (rw [e_x4]; exact (rk _ (by omega) (by omega)).1) | (have v := v4; omega) | omega | fail)), (show n1 = (σ.1 48) → x4 = -1 ∨ (¬ (σ.1 49) = -1 ∧ x4 = σ.2.1 10 (σ.1 49)) from by (intro z; first | exact Or.inl rfl | (exfalso; omega) | exact Or.inr ⟨by omega, e_x4⟩ | (exact Or.inr ⟨by omega, by rw [e_x4]⟩)))⟩
    ·
      exact ⟨(show -1 ≤ (-1) ∧ (-1) ≤ 99 from by (first | omega | (simp only [st_s] <;> omega) | assumption | omega | fail)), (show (-1) < (σ.1 4) from by (first | (rw [e_x4]; exact (rk _ (by omega) (by omega)).1) | (have v := v4; omega) | omega | fail)), (show n1 = (σ.1 48) → (-1) = -1 ∨ (¬ (σ.1 49) = -1 ∧ (-1) = σ.2.1 10 (σ.1 49)) from by (intro z; first | exact Or.inl rfl | (exfalso; omega) | exact Or.inr ⟨by omega, e_x4⟩ | (exact Or.inr ⟨by omega, by rw [e_x4]⟩)))⟩
set_option maxHeartbeats 1000000 in
theorem K_X1_takeStatement {n1 : Int} {σ : S0} (hT : c_T σ) (p1 : 0 ≤ n1) (p2 : n1 < (σ.1 7)) (p3 : J_all (σ.1 7) (σ.1 6) (σ.1 13) (σ.1 14) (σ.1 15) (σ.2.1 13) (σ.2.1 14) (σ.2.1 15) (σ.2.1 16) (σ.2.1 10) (σ.2.1 27) (σ.2.1 28) (σ.2.1 29) (σ.2.1 30) (σ.2.1 31) (σ.2.1 32) (σ.2.1 33) (σ.2.1 34) (σ.2.1 35) (σ.2.1 36) (σ.2.1 37)) (p4 : J_rks (σ.1 5) (σ.1 4) (σ.2.1 10) (σ.2.1 11)) (p5 : J_vs (σ.1 6) (σ.1 5) (σ.2.1 15)) (p6 : ∀ s : Int, 0 ≤ s → s < 1000 → (∀ i : Int, 0 ≤ i → i < (σ.1 50) → σ.2.1 77 i ≠ s) → σ.2.2 3 s = 0) (p7 : σ.2.1 14 (n1 + 1) ≤ σ.2.1 14 n1 + 60) (p8 : (σ.1 49) < (σ.1 5)) : W_X1_takeStatement n1 σ (fun (τ : S0) => (c_T τ) ∧ (∀ s : Int, 0 ≤ s → s < 1000 → τ.2.2 3 s = 0) ∧ ((τ.1 52) < (σ.1 4)) ∧ ((τ.1 50) = σ.2.1 14 (n1 + 1) - σ.2.1 14 n1 - 1) ∧ ((τ.1 51) = n1) ∧ (∀ i : Int, 0 ≤ i → i < (τ.1 50) → 0 ≤ τ.2.1 78 i → τ.2.1 78 i < (σ.1 7) ∧ σ.2.1 13 (τ.2.1 78 i) = 0) ∧ (∀ i : Int, 0 ≤ i → i < (τ.1 50) → τ.2.1 77 i = σ.2.1 15 (σ.2.1 14 n1 + 1 + i) ∧ τ.2.1 78 i = σ.2.1 16 (σ.2.1 14 n1 + 1 + i)) ∧ (σ.2.1 15 (σ.2.1 14 n1) = (σ.1 48) → (τ.1 52) = -1 ∨ (¬ (σ.1 49) = -1 ∧ (τ.1 52) = σ.2.1 10 (σ.1 49)))) := by
  have A10 : ∀ j, (-1) ≤ σ.2.1 10 j ∧ σ.2.1 10 j ≤ 99 := fun j => hT.2 10 j
  have A11 : ∀ j, 0 ≤ σ.2.1 11 j ∧ σ.2.1 11 j ≤ 999 := fun j => hT.2 11 j
  have A13 : ∀ j, 0 ≤ σ.2.1 13 j ∧ σ.2.1 13 j ≤ 4 := fun j => hT.2 13 j
  have A14 : ∀ j, 0 ≤ σ.2.1 14 j ∧ σ.2.1 14 j ≤ 30000 := fun j => hT.2 14 j
  have A15 : ∀ j, 0 ≤ σ.2.1 15 j ∧ σ.2.1 15 j ≤ 999 := fun j => hT.2 15 j
  have A16 : ∀ j, (-1) ≤ σ.2.1 16 j ∧ σ.2.1 16 j ≤ 1499 := fun j => hT.2 16 j
  have A27 : ∀ j, 0 ≤ σ.2.1 27 j ∧ σ.2.1 27 j ≤ 90000 := fun j => hT.2 27 j
  have A28 : ∀ j, 0 ≤ σ.2.1 28 j ∧ σ.2.1 28 j ≤ 60 := fun j => hT.2 28 j
  have A29 : ∀ j, 0 ≤ σ.2.1 29 j ∧ σ.2.1 29 j ≤ 1499 := fun j => hT.2 29 j
  have A30 : ∀ j, 0 ≤ σ.2.1 30 j ∧ σ.2.1 30 j ≤ 20000 := fun j => hT.2 30 j
  have A31 : ∀ j, 0 ≤ σ.2.1 31 j ∧ σ.2.1 31 j ≤ 20000 := fun j => hT.2 31 j
  have A32 : ∀ j, 0 ≤ σ.2.1 32 j ∧ σ.2.1 32 j ≤ 999999 := fun j => hT.2 32 j
  have A33 : ∀ j, 0 ≤ σ.2.1 33 j ∧ σ.2.1 33 j ≤ 20000 := fun j => hT.2 33 j
  have A34 : ∀ j, 0 ≤ σ.2.1 34 j ∧ σ.2.1 34 j ≤ 20000 := fun j => hT.2 34 j
  have A35 : ∀ j, 0 ≤ σ.2.1 35 j ∧ σ.2.1 35 j ≤ 1499 := fun j => hT.2 35 j
  have A36 : ∀ j, 0 ≤ σ.2.1 36 j ∧ σ.2.1 36 j ≤ 20000 := fun j => hT.2 36 j
  have A37 : ∀ j, 0 ≤ σ.2.1 37 j ∧ σ.2.1 37 j ≤ 19999 := fun j => hT.2 37 j
  have A77 : ∀ j, 0 ≤ σ.2.1 77 j ∧ σ.2.1 77 j ≤ 999 := fun j => hT.2 77 j
  have A78 : ∀ j, (-1) ≤ σ.2.1 78 j ∧ σ.2.1 78 j ≤ 1499 := fun j => hT.2 78 j
  have v4 : 0 ≤ σ.1 4 ∧ σ.1 4 ≤ 100 := hT.1 4
  have v5 : 0 ≤ σ.1 5 ∧ σ.1 5 ≤ 1000 := hT.1 5
  have v6 : 0 ≤ σ.1 6 ∧ σ.1 6 ≤ 30000 := hT.1 6
  have v7 : 0 ≤ σ.1 7 ∧ σ.1 7 ≤ 1500 := hT.1 7
  have v13 : 0 ≤ σ.1 13 ∧ σ.1 13 ≤ 90000 := hT.1 13
  have v14 : 0 ≤ σ.1 14 ∧ σ.1 14 ≤ 20000 := hT.1 14
  have v15 : 0 ≤ σ.1 15 ∧ σ.1 15 ≤ 20000 := hT.1 15
  have v48 : (-1) ≤ σ.1 48 ∧ σ.1 48 ≤ 999 := hT.1 48
  have v49 : (-1) ≤ σ.1 49 ∧ σ.1 49 ≤ 999 := hT.1 49
  have v50 : 0 ≤ σ.1 50 ∧ σ.1 50 ≤ 59 := hT.1 50
  have v51 : 0 ≤ σ.1 51 ∧ σ.1 51 ≤ 1500 := hT.1 51
  have v52 : (-1) ≤ σ.1 52 ∧ σ.1 52 ≤ 99 := hT.1 52
  have a10_49 : (-1) ≤ σ.2.1 10 (σ.1 49) ∧ σ.2.1 10 (σ.1 49) ≤ 99 := hT.2 10 _
  have W4 : σ.1 4 = σ.1 4 := rfl
  have W5 : σ.1 5 = σ.1 5 := rfl
  have W6 : σ.1 6 = σ.1 6 := rfl
  have W7 : σ.1 7 = σ.1 7 := rfl
  have W13 : σ.1 13 = σ.1 13 := rfl
  have W14 : σ.1 14 = σ.1 14 := rfl
  have W15 : σ.1 15 = σ.1 15 := rfl
  have W48 : σ.1 48 = σ.1 48 := rfl
  have W49 : σ.1 49 = σ.1 49 := rfl
  have G10 : σ.2.1 10 = σ.2.1 10 := rfl
  have G11 : σ.2.1 11 = σ.2.1 11 := rfl
  have G13 : σ.2.1 13 = σ.2.1 13 := rfl
  have G14 : σ.2.1 14 = σ.2.1 14 := rfl
  have G15 : σ.2.1 15 = σ.2.1 15 := rfl
  have G16 : σ.2.1 16 = σ.2.1 16 := rfl
  have G27 : σ.2.1 27 = σ.2.1 27 := rfl
  have G28 : σ.2.1 28 = σ.2.1 28 := rfl
  have G29 : σ.2.1 29 = σ.2.1 29 := rfl
  have G30 : σ.2.1 30 = σ.2.1 30 := rfl
  have G31 : σ.2.1 31 = σ.2.1 31 := rfl
  have G32 : σ.2.1 32 = σ.2.1 32 := rfl
  have G33 : σ.2.1 33 = σ.2.1 33 := rfl
  have G34 : σ.2.1 34 = σ.2.1 34 := rfl
  have G35 : σ.2.1 35 = σ.2.1 35 := rfl
  have G36 : σ.2.1 36 = σ.2.1 36 := rfl
  have G37 : σ.2.1 37 = σ.2.1 37 := rfl
  intro P25 h25
  have jt := (p3.1 n1 p1 p2).1
  have jt1 := jt.1
  have b14 := A14 (n1 + 1)
  have a14 := A14 n1
  have s14 := A14
  have s15 := A15
  have TX : J_vs (σ.1 6) (σ.1 5) (σ.2.1 15) := p5
  have RKS : J_rks (σ.1 5) (σ.1 4) (σ.2.1 10) (σ.2.1 11) := p4
  have CJ : J_all (σ.1 7) (σ.1 6) (σ.1 13) (σ.1 14) (σ.1 15) (σ.2.1 13) (σ.2.1 14) (σ.2.1 15) (σ.2.1 16) (σ.2.1 10) (σ.2.1 27) (σ.2.1 28) (σ.2.1 29) (σ.2.1 30) (σ.2.1 31) (σ.2.1 32) (σ.2.1 33) (σ.2.1 34) (σ.2.1 35) (σ.2.1 36) (σ.2.1 37) := p3
  have CJ_0 := CJ
  have RKS_0 := RKS
  have TX_0 := TX
  have l_25 : ∀ (m_25 : Nat) (u2_25 : Int) (τ_25 : S0), 61 - u2_25 < (m_25 : Int) → (c_T τ_25) → (τ_25.1 4 = σ.1 4) → (τ_25.1 5 = σ.1 5) → (τ_25.1 6 = σ.1 6) → (τ_25.1 7 = σ.1 7) → (τ_25.1 13 = σ.1 13) → (τ_25.1 14 = σ.1 14) → (τ_25.1 15 = σ.1 15) → (τ_25.1 48 = σ.1 48) → (τ_25.1 49 = σ.1 49) → (τ_25.2.1 10 = σ.2.1 10) → (τ_25.2.1 11 = σ.2.1 11) → (τ_25.2.1 13 = σ.2.1 13) → (τ_25.2.1 14 = σ.2.1 14) → (τ_25.2.1 15 = σ.2.1 15) → (τ_25.2.1 16 = σ.2.1 16) → (τ_25.2.1 27 = σ.2.1 27) → (τ_25.2.1 28 = σ.2.1 28) → (τ_25.2.1 29 = σ.2.1 29) → (τ_25.2.1 30 = σ.2.1 30) → (τ_25.2.1 31 = σ.2.1 31) → (τ_25.2.1 32 = σ.2.1 32) → (τ_25.2.1 33 = σ.2.1 33) → (τ_25.2.1 34 = σ.2.1 34) → (τ_25.2.1 35 = σ.2.1 35) → (τ_25.2.1 36 = σ.2.1 36) → (τ_25.2.1 37 = σ.2.1 37) → (0 ≤ u2_25 ∧ u2_25 ≤ 60) → ((τ_25.1 50) = σ.2.1 14 (n1 + 1) - σ.2.1 14 n1 - 1) → (∀ s : Int, 0 ≤ s → s < 1000 → τ_25.2.2 3 s = 0) → (∀ i : Int, 0 ≤ i → i < u2_25 → 0 ≤ τ_25.2.1 78 i → τ_25.2.1 78 i < (σ.1 7) ∧ σ.2.1 13 (τ_25.2.1 78 i) = 0) → (∀ i : Int, 0 ≤ i → i < u2_25 → τ_25.2.1 77 i = σ.2.1 15 (σ.2.1 14 n1 + 1 + i) ∧ τ_25.2.1 78 i = σ.2.1 16 (σ.2.1 14 n1 + 1 + i)) → P25 n1 u2_25 τ_25 := by
    intro m_25
    induction m_25 with
    | zero =>
      intro u2_25 τ_25 hm hT W4 W5 W6 W7 W13 W14 W15 W48 W49 G10 G11 G13 G14 G15 G16 G27 G28 G29 G30 G31 G32 G33 G34 G35 G36 G37 i25_1 i25_2 i25_3 i25_4 i25_5
      have A10 : ∀ j, (-1) ≤ τ_25.2.1 10 j ∧ τ_25.2.1 10 j ≤ 99 := fun j => hT.2 10 j
      have A11 : ∀ j, 0 ≤ τ_25.2.1 11 j ∧ τ_25.2.1 11 j ≤ 999 := fun j => hT.2 11 j
      have A13 : ∀ j, 0 ≤ τ_25.2.1 13 j ∧ τ_25.2.1 13 j ≤ 4 := fun j => hT.2 13 j
      have A14 : ∀ j, 0 ≤ τ_25.2.1 14 j ∧ τ_25.2.1 14 j ≤ 30000 := fun j => hT.2 14 j
      have A15 : ∀ j, 0 ≤ τ_25.2.1 15 j ∧ τ_25.2.1 15 j ≤ 999 := fun j => hT.2 15 j
      have A16 : ∀ j, (-1) ≤ τ_25.2.1 16 j ∧ τ_25.2.1 16 j ≤ 1499 := fun j => hT.2 16 j
      have A27 : ∀ j, 0 ≤ τ_25.2.1 27 j ∧ τ_25.2.1 27 j ≤ 90000 := fun j => hT.2 27 j
      have A28 : ∀ j, 0 ≤ τ_25.2.1 28 j ∧ τ_25.2.1 28 j ≤ 60 := fun j => hT.2 28 j
      have A29 : ∀ j, 0 ≤ τ_25.2.1 29 j ∧ τ_25.2.1 29 j ≤ 1499 := fun j => hT.2 29 j
      have A30 : ∀ j, 0 ≤ τ_25.2.1 30 j ∧ τ_25.2.1 30 j ≤ 20000 := fun j => hT.2 30 j
      have A31 : ∀ j, 0 ≤ τ_25.2.1 31 j ∧ τ_25.2.1 31 j ≤ 20000 := fun j => hT.2 31 j
      have A32 : ∀ j, 0 ≤ τ_25.2.1 32 j ∧ τ_25.2.1 32 j ≤ 999999 := fun j => hT.2 32 j
      have A33 : ∀ j, 0 ≤ τ_25.2.1 33 j ∧ τ_25.2.1 33 j ≤ 20000 := fun j => hT.2 33 j
      have A34 : ∀ j, 0 ≤ τ_25.2.1 34 j ∧ τ_25.2.1 34 j ≤ 20000 := fun j => hT.2 34 j
      have A35 : ∀ j, 0 ≤ τ_25.2.1 35 j ∧ τ_25.2.1 35 j ≤ 1499 := fun j => hT.2 35 j
      have A36 : ∀ j, 0 ≤ τ_25.2.1 36 j ∧ τ_25.2.1 36 j ≤ 20000 := fun j => hT.2 36 j
      have A37 : ∀ j, 0 ≤ τ_25.2.1 37 j ∧ τ_25.2.1 37 j ≤ 19999 := fun j => hT.2 37 j
      have A77 : ∀ j, 0 ≤ τ_25.2.1 77 j ∧ τ_25.2.1 77 j ≤ 999 := fun j => hT.2 77 j
      have A78 : ∀ j, (-1) ≤ τ_25.2.1 78 j ∧ τ_25.2.1 78 j ≤ 1499 := fun j => hT.2 78 j
      have v4 : 0 ≤ τ_25.1 4 ∧ τ_25.1 4 ≤ 100 := hT.1 4
      have v5 : 0 ≤ τ_25.1 5 ∧ τ_25.1 5 ≤ 1000 := hT.1 5
      have v6 : 0 ≤ τ_25.1 6 ∧ τ_25.1 6 ≤ 30000 := hT.1 6
      have v7 : 0 ≤ τ_25.1 7 ∧ τ_25.1 7 ≤ 1500 := hT.1 7
      have v13 : 0 ≤ τ_25.1 13 ∧ τ_25.1 13 ≤ 90000 := hT.1 13
      have v14 : 0 ≤ τ_25.1 14 ∧ τ_25.1 14 ≤ 20000 := hT.1 14
      have v15 : 0 ≤ τ_25.1 15 ∧ τ_25.1 15 ≤ 20000 := hT.1 15
      have v48 : (-1) ≤ τ_25.1 48 ∧ τ_25.1 48 ≤ 999 := hT.1 48
      have v49 : (-1) ≤ τ_25.1 49 ∧ τ_25.1 49 ≤ 999 := hT.1 49
      have v50 : 0 ≤ τ_25.1 50 ∧ τ_25.1 50 ≤ 59 := hT.1 50
      have v51 : 0 ≤ τ_25.1 51 ∧ τ_25.1 51 ≤ 1500 := hT.1 51
      have v52 : (-1) ≤ τ_25.1 52 ∧ τ_25.1 52 ≤ 99 := hT.1 52
      have a10_49 : (-1) ≤ τ_25.2.1 10 (τ_25.1 49) ∧ τ_25.2.1 10 (τ_25.1 49) ≤ 99 := hT.2 10 _
      exfalso; (first | omega | (simp only [st_s] <;> omega) | assumption | omega | fail)
    | succ m_25 ih_25 =>
      intro u2_25 τ_25 hm_25 hT W4 W5 W6 W7 W13 W14 W15 W48 W49 G10 G11 G13 G14 G15 G16 G27 G28 G29 G30 G31 G32 G33 G34 G35 G36 G37 i25_1 i25_2 i25_3 i25_4 i25_5
      have A10 : ∀ j, (-1) ≤ τ_25.2.1 10 j ∧ τ_25.2.1 10 j ≤ 99 := fun j => hT.2 10 j
      have A11 : ∀ j, 0 ≤ τ_25.2.1 11 j ∧ τ_25.2.1 11 j ≤ 999 := fun j => hT.2 11 j
      have A13 : ∀ j, 0 ≤ τ_25.2.1 13 j ∧ τ_25.2.1 13 j ≤ 4 := fun j => hT.2 13 j
      have A14 : ∀ j, 0 ≤ τ_25.2.1 14 j ∧ τ_25.2.1 14 j ≤ 30000 := fun j => hT.2 14 j
      have A15 : ∀ j, 0 ≤ τ_25.2.1 15 j ∧ τ_25.2.1 15 j ≤ 999 := fun j => hT.2 15 j
      have A16 : ∀ j, (-1) ≤ τ_25.2.1 16 j ∧ τ_25.2.1 16 j ≤ 1499 := fun j => hT.2 16 j
      have A27 : ∀ j, 0 ≤ τ_25.2.1 27 j ∧ τ_25.2.1 27 j ≤ 90000 := fun j => hT.2 27 j
      have A28 : ∀ j, 0 ≤ τ_25.2.1 28 j ∧ τ_25.2.1 28 j ≤ 60 := fun j => hT.2 28 j
      have A29 : ∀ j, 0 ≤ τ_25.2.1 29 j ∧ τ_25.2.1 29 j ≤ 1499 := fun j => hT.2 29 j
      have A30 : ∀ j, 0 ≤ τ_25.2.1 30 j ∧ τ_25.2.1 30 j ≤ 20000 := fun j => hT.2 30 j
      have A31 : ∀ j, 0 ≤ τ_25.2.1 31 j ∧ τ_25.2.1 31 j ≤ 20000 := fun j => hT.2 31 j
      have A32 : ∀ j, 0 ≤ τ_25.2.1 32 j ∧ τ_25.2.1 32 j ≤ 999999 := fun j => hT.2 32 j
      have A33 : ∀ j, 0 ≤ τ_25.2.1 33 j ∧ τ_25.2.1 33 j ≤ 20000 := fun j => hT.2 33 j
      have A34 : ∀ j, 0 ≤ τ_25.2.1 34 j ∧ τ_25.2.1 34 j ≤ 20000 := fun j => hT.2 34 j
      have A35 : ∀ j, 0 ≤ τ_25.2.1 35 j ∧ τ_25.2.1 35 j ≤ 1499 := fun j => hT.2 35 j
      have A36 : ∀ j, 0 ≤ τ_25.2.1 36 j ∧ τ_25.2.1 36 j ≤ 20000 := fun j => hT.2 36 j
      have A37 : ∀ j, 0 ≤ τ_25.2.1 37 j ∧ τ_25.2.1 37 j ≤ 19999 := fun j => hT.2 37 j
      have A77 : ∀ j, 0 ≤ τ_25.2.1 77 j ∧ τ_25.2.1 77 j ≤ 999 := fun j => hT.2 77 j
      have A78 : ∀ j, (-1) ≤ τ_25.2.1 78 j ∧ τ_25.2.1 78 j ≤ 1499 := fun j => hT.2 78 j
      have v4 : 0 ≤ τ_25.1 4 ∧ τ_25.1 4 ≤ 100 := hT.1 4
      have v5 : 0 ≤ τ_25.1 5 ∧ τ_25.1 5 ≤ 1000 := hT.1 5
      have v6 : 0 ≤ τ_25.1 6 ∧ τ_25.1 6 ≤ 30000 := hT.1 6
      have v7 : 0 ≤ τ_25.1 7 ∧ τ_25.1 7 ≤ 1500 := hT.1 7
      have v13 : 0 ≤ τ_25.1 13 ∧ τ_25.1 13 ≤ 90000 := hT.1 13
      have v14 : 0 ≤ τ_25.1 14 ∧ τ_25.1 14 ≤ 20000 := hT.1 14
      have v15 : 0 ≤ τ_25.1 15 ∧ τ_25.1 15 ≤ 20000 := hT.1 15
      have v48 : (-1) ≤ τ_25.1 48 ∧ τ_25.1 48 ≤ 999 := hT.1 48
      have v49 : (-1) ≤ τ_25.1 49 ∧ τ_25.1 49 ≤ 999 := hT.1 49
      have v50 : 0 ≤ τ_25.1 50 ∧ τ_25.1 50 ≤ 59 := hT.1 50
      have v51 : 0 ≤ τ_25.1 51 ∧ τ_25.1 51 ≤ 1500 := hT.1 51
      have v52 : (-1) ≤ τ_25.1 52 ∧ τ_25.1 52 ≤ 99 := hT.1 52
      have a10_49 : (-1) ≤ τ_25.2.1 10 (τ_25.1 49) ∧ τ_25.2.1 10 (τ_25.1 49) ≤ 99 := hT.2 10 _
      have y10_49_τ_25 : τ_25.2.1 10 (τ_25.1 49) = σ.2.1 10 (σ.1 49) := by rw [G10, W49]
      have TX : J_vs (τ_25.1 6) (τ_25.1 5) (τ_25.2.1 15) := by rw [show (J_vs (τ_25.1 6) (τ_25.1 5) (τ_25.2.1 15)) = (J_vs (σ.1 6) (σ.1 5) (σ.2.1 15)) from by rw [W5, W6, G15]]; exact TX_0
      have RKS : J_rks (τ_25.1 5) (τ_25.1 4) (τ_25.2.1 10) (τ_25.2.1 11) := by rw [show (J_rks (τ_25.1 5) (τ_25.1 4) (τ_25.2.1 10) (τ_25.2.1 11)) = (J_rks (σ.1 5) (σ.1 4) (σ.2.1 10) (σ.2.1 11)) from by rw [W4, W5, G10, G11]]; exact RKS_0
      have CJ : J_all (τ_25.1 7) (τ_25.1 6) (τ_25.1 13) (τ_25.1 14) (τ_25.1 15) (τ_25.2.1 13) (τ_25.2.1 14) (τ_25.2.1 15) (τ_25.2.1 16) (τ_25.2.1 10) (τ_25.2.1 27) (τ_25.2.1 28) (τ_25.2.1 29) (τ_25.2.1 30) (τ_25.2.1 31) (τ_25.2.1 32) (τ_25.2.1 33) (τ_25.2.1 34) (τ_25.2.1 35) (τ_25.2.1 36) (τ_25.2.1 37) := by rw [show (J_all (τ_25.1 7) (τ_25.1 6) (τ_25.1 13) (τ_25.1 14) (τ_25.1 15) (τ_25.2.1 13) (τ_25.2.1 14) (τ_25.2.1 15) (τ_25.2.1 16) (τ_25.2.1 10) (τ_25.2.1 27) (τ_25.2.1 28) (τ_25.2.1 29) (τ_25.2.1 30) (τ_25.2.1 31) (τ_25.2.1 32) (τ_25.2.1 33) (τ_25.2.1 34) (τ_25.2.1 35) (τ_25.2.1 36) (τ_25.2.1 37)) = (J_all (σ.1 7) (σ.1 6) (σ.1 13) (σ.1 14) (σ.1 15) (σ.2.1 13) (σ.2.1 14) (σ.2.1 15) (σ.2.1 16) (σ.2.1 10) (σ.2.1 27) (σ.2.1 28) (σ.2.1 29) (σ.2.1 30) (σ.2.1 31) (σ.2.1 32) (σ.2.1 33) (σ.2.1 34) (σ.2.1 35) (σ.2.1 36) (σ.2.1 37)) from by rw [W6, W7, W13, W14, W15, G10, G13, G14, G15, G16, G27, G28, G29, G30, G31, G32, G33, G34, G35, G36, G37]]; exact CJ_0
      refine h25 n1 u2_25 τ_25 ?_
      refine ⟨fun c9 => ?_, fun c9 => ?_⟩
      ·
        replace hT := cT_v (i := 51) hT (show 0 ≤ n1 ∧ n1 ≤ 1500 from by (first | omega | (simp only [st_s] <;> omega) | assumption | omega | fail))
        have tx0 := p5 (σ.2.1 14 n1) (by omega) (by omega)
        refine ⟨_, K_X3_typeOf hT (show 0 ≤ n1 from by (first | omega | (simp only [st_s] <;> omega) | assumption | omega | fail)) (show n1 ≤ 1500 from by (first | omega | (simp only [st_s] <;> omega) | assumption | omega | fail)) (show τ_25.2.1 14 n1 < 30000 from by (rw [G14]; omega)), ?_⟩
        intro x11 r_x11 hq
        obtain ⟨q10_1, q10_2⟩ := hq
        replace q10_1 : x11 = τ_25.2.1 15 (τ_25.2.1 14 n1) := q10_1
        replace q10_2 : 0 ≤ x11 ∧ x11 ≤ 999 := q10_2
        rw [G14, G15] at q10_1
        refine ⟨_, K2_X8_goalRank hT (show 0 ≤ x11 from by (first | omega | (simp only [st_s] <;> omega) | assumption | omega | fail)) (show x11 < (τ_25.1 5) from by (first | omega | (simp only [st_s] <;> omega) | assumption | omega | fail)) (show J_rks (τ_25.1 5) (τ_25.1 4) (τ_25.2.1 10) (τ_25.2.1 11) from RKS) (show (τ_25.1 49) < (τ_25.1 5) from by (first | omega | (simp only [st_s] <;> omega) | assumption | omega | fail)), ?_⟩
        intro x14 r_x14 hq
        obtain ⟨q13_1, q13_2, q13_3⟩ := hq
        replace q13_1 : -1 ≤ x14 ∧ x14 ≤ 99 := q13_1
        replace q13_2 : x14 < (τ_25.1 4) := q13_2
        replace q13_3 : x11 = (τ_25.1 48) → x14 = -1 ∨ (¬ (τ_25.1 49) = -1 ∧ x14 = τ_25.2.1 10 (τ_25.1 49)) := q13_3
        replace hT := cT_v (i := 52) hT (show (-1) ≤ x14 ∧ x14 ≤ 99 from by (first | omega | (simp only [st_s] <;> omega) | assumption | omega | fail))
        exact ⟨hT, (show ∀ s : Int, 0 ≤ s → s < 1000 → τ_25.2.2 3 s = 0 from by exact i25_3), (show (x14) < (σ.1 4) from by (have w := q13_2; rw [W4] at w; exact w)), (show (τ_25.1 50) = σ.2.1 14 (n1 + 1) - σ.2.1 14 n1 - 1 from by omega), (show (n1) = n1 from by (first | omega | (simp only [st_s] <;> omega) | assumption | omega | fail)), (show ∀ i : Int, 0 ≤ i → i < (τ_25.1 50) → 0 ≤ τ_25.2.1 78 i → τ_25.2.1 78 i < (σ.1 7) ∧ σ.2.1 13 (τ_25.2.1 78 i) = 0 from by (intro i a b; exact i25_4 i a (by omega))), (show ∀ i : Int, 0 ≤ i → i < (τ_25.1 50) → τ_25.2.1 77 i = σ.2.1 15 (σ.2.1 14 n1 + 1 + i) ∧ τ_25.2.1 78 i = σ.2.1 16 (σ.2.1 14 n1 + 1 + i) from by (intro i a b; exact i25_5 i a (by omega))), (show σ.2.1 15 (σ.2.1 14 n1) = (σ.1 48) → (x14) = -1 ∨ (¬ (σ.1 49) = -1 ∧ (x14) = σ.2.1 10 (σ.1 49)) from by (intro z; have w := q13_3 (by rw [W48, q10_1]; exact z); rw [W49, G10] at w; exact w))⟩
      ·
        refine ⟨(show 0 ≤ n1 ∧ n1 < 1501 from by (first | omega | (simp only [st_s] <;> omega) | assumption | omega | fail)), ?_⟩
        intro x17 r_x17 e_x17
        have b_x17 : 0 ≤ x17 ∧ x17 ≤ 30000 := by rw [e_x17]; exact hT.2 14 _
        rw [G14] at e_x17
        refine ⟨(show 0 ≤ ((x17 + 1) + u2_25) ∧ ((x17 + 1) + u2_25) < 30000 from by (first | omega | (simp only [st_s] <;> omega) | assumption | omega | fail)), ?_⟩
        intro x19 r_x19 e_x19
        have b_x19 : 0 ≤ x19 ∧ x19 ≤ 999 := by rw [e_x19]; exact hT.2 15 _
        rw [G15, e_x17] at e_x19
        refine ⟨(show 0 ≤ u2_25 ∧ u2_25 < 60 from by (first | omega | (simp only [st_s] <;> omega) | assumption | omega | fail)), ?_⟩
        replace hT := cT_a (k := 77) (j := u2_25) hT (show (0 : Int) ≤ x19 ∧ x19 ≤ 999 from by (first | omega | (simp only [st_s] <;> omega) | assumption | omega | fail))
        intro x21 r_x21 e_x21
        have b_x21 : 0 ≤ x21 ∧ x21 ≤ 30000 := by rw [e_x21]; exact hT.2 14 _
        rw [G14] at e_x21
        have ju := jt.2.2 (σ.2.1 14 n1 + 1 + u2_25) (by omega) (by omega)
        refine ⟨(show 0 ≤ ((x21 + 1) + u2_25) ∧ ((x21 + 1) + u2_25) < 30000 from by (first | omega | (simp only [st_s] <;> omega) | assumption | omega | fail)), ?_⟩
        intro x23 r_x23 e_x23
        have b_x23 : (-1) ≤ x23 ∧ x23 ≤ 1499 := by rw [e_x23]; exact hT.2 16 _
        rw [G16, e_x21] at e_x23
        replace hT := cT_a (k := 78) (j := u2_25) hT (show (-1 : Int) ≤ x23 ∧ x23 ≤ 1499 from by (first | omega | (simp only [st_s] <;> omega) | assumption | omega | fail))
        refine ⟨(⟨by (first | omega | (simp only [st_s] <;> omega) | assumption | omega | fail), by (first | omega | (simp only [st_s] <;> omega) | assumption | omega | fail)⟩ : rg (u2_25 + 1)), ?_⟩
        exact ih_25 _ _ (show (61 - (u2_25 + 1) : Int) < ((m_25 : Nat) : Int) from by ((first | omega | (simp only [st_s] <;> omega) | assumption | omega | fail))) hT (show τ_25.1 4 = σ.1 4 from by first | exact W4 | omega) (show τ_25.1 5 = σ.1 5 from by first | exact W5 | omega) (show τ_25.1 6 = σ.1 6 from by first | exact W6 | omega) (show τ_25.1 7 = σ.1 7 from by first | exact W7 | omega) (show τ_25.1 13 = σ.1 13 from by first | exact W13 | omega) (show τ_25.1 14 = σ.1 14 from by first | exact W14 | omega) (show τ_25.1 15 = σ.1 15 from by first | exact W15 | omega) (show τ_25.1 48 = σ.1 48 from by first | exact W48 | omega) (show τ_25.1 49 = σ.1 49 from by first | exact W49 | omega) G10 G11 G13 G14 G15 G16 G27 G28 G29 G30 G31 G32 G33 G34 G35 G36 G37 (show 0 ≤ (u2_25 + 1) ∧ (u2_25 + 1) ≤ 60 from by (first | omega | (simp only [st_s] <;> omega) | assumption | omega | fail)) (show (τ_25.1 50) = σ.2.1 14 (n1 + 1) - σ.2.1 14 n1 - 1 from by (first | omega | (simp only [st_s] <;> omega) | assumption | omega | fail)) (show ∀ s : Int, 0 ≤ s → s < 1000 → τ_25.2.2 3 s = 0 from by (first | exact q1_1 | exact i25_3 | fail)) (show ∀ i : Int, 0 ≤ i → i < (u2_25 + 1) → 0 ≤ (st (τ_25.2.1 78) u2_25 x23) i → (st (τ_25.2.1 78) u2_25 x23) i < (σ.1 7) ∧ σ.2.1 13 ((st (τ_25.2.1 78) u2_25 x23) i) = 0 from by (first | (intro i a b; exfalso; omega) | (intro i a b; by_cases z : i = u2_25; (rw [z, st_s, e_x23]; intro c; omega); (rw [st_n _ _ z]; exact i25_4 i a (by omega))) | fail)) (show ∀ i : Int, 0 ≤ i → i < (u2_25 + 1) → (st (τ_25.2.1 77) u2_25 x19) i = σ.2.1 15 (σ.2.1 14 n1 + 1 + i) ∧ (st (τ_25.2.1 78) u2_25 x23) i = σ.2.1 16 (σ.2.1 14 n1 + 1 + i) from by (first | (intro i a b; exfalso; omega) | (intro i a b; by_cases z : i = u2_25; (rw [z, st_s, st_s]; exact ⟨e_x19, e_x23⟩); (rw [st_n _ _ z, st_n _ _ z]; exact i25_5 i a (by omega))) | fail))
  refine ⟨_, K_X1_forgetRow hT (show ∀ s : Int, 0 ≤ s → s < 1000 → (∀ i : Int, 0 ≤ i → i < (σ.1 50) → σ.2.1 77 i ≠ s) → σ.2.2 3 s = 0 from by (first | omega | (simp only [st_s] <;> omega) | assumption | omega | fail)), ?_⟩
  intro τ3 hn_τ3 hf_τ3 hq
  obtain ⟨hT, q1_1⟩ := hq
  replace q1_1 : ∀ s : Int, 0 ≤ s → s < 1000 → τ3.2.2 3 s = 0 := q1_1
  have w4_τ3 : τ3.1 4 = σ.1 4 := hf_τ3.1 4 (by decide)
  have w5_τ3 : τ3.1 5 = σ.1 5 := hf_τ3.1 5 (by decide)
  have w6_τ3 : τ3.1 6 = σ.1 6 := hf_τ3.1 6 (by decide)
  have w7_τ3 : τ3.1 7 = σ.1 7 := hf_τ3.1 7 (by decide)
  have w13_τ3 : τ3.1 13 = σ.1 13 := hf_τ3.1 13 (by decide)
  have w14_τ3 : τ3.1 14 = σ.1 14 := hf_τ3.1 14 (by decide)
  have w15_τ3 : τ3.1 15 = σ.1 15 := hf_τ3.1 15 (by decide)
  have w48_τ3 : τ3.1 48 = σ.1 48 := hf_τ3.1 48 (by decide)
  have w49_τ3 : τ3.1 49 = σ.1 49 := hf_τ3.1 49 (by decide)
  have w50_τ3 : τ3.1 50 = σ.1 50 := hf_τ3.1 50 (by decide)
  have w51_τ3 : τ3.1 51 = σ.1 51 := hf_τ3.1 51 (by decide)
  have w52_τ3 : τ3.1 52 = σ.1 52 := hf_τ3.1 52 (by decide)
  have g10_τ3 : τ3.2.1 10 = σ.2.1 10 := hf_τ3.2.1 10 (by decide)
  have g11_τ3 : τ3.2.1 11 = σ.2.1 11 := hf_τ3.2.1 11 (by decide)
  have g13_τ3 : τ3.2.1 13 = σ.2.1 13 := hf_τ3.2.1 13 (by decide)
  have g14_τ3 : τ3.2.1 14 = σ.2.1 14 := hf_τ3.2.1 14 (by decide)
  have g15_τ3 : τ3.2.1 15 = σ.2.1 15 := hf_τ3.2.1 15 (by decide)
  have g16_τ3 : τ3.2.1 16 = σ.2.1 16 := hf_τ3.2.1 16 (by decide)
  have g27_τ3 : τ3.2.1 27 = σ.2.1 27 := hf_τ3.2.1 27 (by decide)
  have g28_τ3 : τ3.2.1 28 = σ.2.1 28 := hf_τ3.2.1 28 (by decide)
  have g29_τ3 : τ3.2.1 29 = σ.2.1 29 := hf_τ3.2.1 29 (by decide)
  have g30_τ3 : τ3.2.1 30 = σ.2.1 30 := hf_τ3.2.1 30 (by decide)
  have g31_τ3 : τ3.2.1 31 = σ.2.1 31 := hf_τ3.2.1 31 (by decide)
  have g32_τ3 : τ3.2.1 32 = σ.2.1 32 := hf_τ3.2.1 32 (by decide)
  have g33_τ3 : τ3.2.1 33 = σ.2.1 33 := hf_τ3.2.1 33 (by decide)
  have g34_τ3 : τ3.2.1 34 = σ.2.1 34 := hf_τ3.2.1 34 (by decide)
  have g35_τ3 : τ3.2.1 35 = σ.2.1 35 := hf_τ3.2.1 35 (by decide)
  have g36_τ3 : τ3.2.1 36 = σ.2.1 36 := hf_τ3.2.1 36 (by decide)
  have g37_τ3 : τ3.2.1 37 = σ.2.1 37 := hf_τ3.2.1 37 (by decide)
  have g77_τ3 : τ3.2.1 77 = σ.2.1 77 := hf_τ3.2.1 77 (by decide)
  have g78_τ3 : τ3.2.1 78 = σ.2.1 78 := hf_τ3.2.1 78 (by decide)
  have W4 : τ3.1 4 = σ.1 4 := by first | exact w4_τ3.trans W4 | omega
  have W5 : τ3.1 5 = σ.1 5 := by first | exact w5_τ3.trans W5 | omega
  have W6 : τ3.1 6 = σ.1 6 := by first | exact w6_τ3.trans W6 | omega
  have W7 : τ3.1 7 = σ.1 7 := by first | exact w7_τ3.trans W7 | omega
  have W13 : τ3.1 13 = σ.1 13 := by first | exact w13_τ3.trans W13 | omega
  have W14 : τ3.1 14 = σ.1 14 := by first | exact w14_τ3.trans W14 | omega
  have W15 : τ3.1 15 = σ.1 15 := by first | exact w15_τ3.trans W15 | omega
  have W48 : τ3.1 48 = σ.1 48 := by first | exact w48_τ3.trans W48 | omega
  have W49 : τ3.1 49 = σ.1 49 := by first | exact w49_τ3.trans W49 | omega
  have G10 : τ3.2.1 10 = σ.2.1 10 := (g10_τ3).trans G10
  have G11 : τ3.2.1 11 = σ.2.1 11 := (g11_τ3).trans G11
  have G13 : τ3.2.1 13 = σ.2.1 13 := (g13_τ3).trans G13
  have G14 : τ3.2.1 14 = σ.2.1 14 := (g14_τ3).trans G14
  have G15 : τ3.2.1 15 = σ.2.1 15 := (g15_τ3).trans G15
  have G16 : τ3.2.1 16 = σ.2.1 16 := (g16_τ3).trans G16
  have G27 : τ3.2.1 27 = σ.2.1 27 := (g27_τ3).trans G27
  have G28 : τ3.2.1 28 = σ.2.1 28 := (g28_τ3).trans G28
  have G29 : τ3.2.1 29 = σ.2.1 29 := (g29_τ3).trans G29
  have G30 : τ3.2.1 30 = σ.2.1 30 := (g30_τ3).trans G30
  have G31 : τ3.2.1 31 = σ.2.1 31 := (g31_τ3).trans G31
  have G32 : τ3.2.1 32 = σ.2.1 32 := (g32_τ3).trans G32
  have G33 : τ3.2.1 33 = σ.2.1 33 := (g33_τ3).trans G33
  have G34 : τ3.2.1 34 = σ.2.1 34 := (g34_τ3).trans G34
  have G35 : τ3.2.1 35 = σ.2.1 35 := (g35_τ3).trans G35
  have G36 : τ3.2.1 36 = σ.2.1 36 := (g36_τ3).trans G36
  have G37 : τ3.2.1 37 = σ.2.1 37 := (g37_τ3).trans G37
  have y10_49_τ3 : τ3.2.1 10 (τ3.1 49) = (σ.2.1 10) (σ.1 49) := by rw [g10_τ3, w49_τ3]
  have TX : J_vs (τ3.1 6) (τ3.1 5) (τ3.2.1 15) := by rw [show (J_vs (τ3.1 6) (τ3.1 5) (τ3.2.1 15)) = (J_vs (σ.1 6) (σ.1 5) (σ.2.1 15)) from by rw [w5_τ3, w6_τ3, g15_τ3]]; exact TX
  have RKS : J_rks (τ3.1 5) (τ3.1 4) (τ3.2.1 10) (τ3.2.1 11) := by rw [show (J_rks (τ3.1 5) (τ3.1 4) (τ3.2.1 10) (τ3.2.1 11)) = (J_rks (σ.1 5) (σ.1 4) (σ.2.1 10) (σ.2.1 11)) from by rw [w4_τ3, w5_τ3, g10_τ3, g11_τ3]]; exact RKS
  have CJ : J_all (τ3.1 7) (τ3.1 6) (τ3.1 13) (τ3.1 14) (τ3.1 15) (τ3.2.1 13) (τ3.2.1 14) (τ3.2.1 15) (τ3.2.1 16) (τ3.2.1 10) (τ3.2.1 27) (τ3.2.1 28) (τ3.2.1 29) (τ3.2.1 30) (τ3.2.1 31) (τ3.2.1 32) (τ3.2.1 33) (τ3.2.1 34) (τ3.2.1 35) (τ3.2.1 36) (τ3.2.1 37) := by rw [show (J_all (τ3.1 7) (τ3.1 6) (τ3.1 13) (τ3.1 14) (τ3.1 15) (τ3.2.1 13) (τ3.2.1 14) (τ3.2.1 15) (τ3.2.1 16) (τ3.2.1 10) (τ3.2.1 27) (τ3.2.1 28) (τ3.2.1 29) (τ3.2.1 30) (τ3.2.1 31) (τ3.2.1 32) (τ3.2.1 33) (τ3.2.1 34) (τ3.2.1 35) (τ3.2.1 36) (τ3.2.1 37)) = (J_all (σ.1 7) (σ.1 6) (σ.1 13) (σ.1 14) (σ.1 15) (σ.2.1 13) (σ.2.1 14) (σ.2.1 15) (σ.2.1 16) (σ.2.1 10) (σ.2.1 27) (σ.2.1 28) (σ.2.1 29) (σ.2.1 30) (σ.2.1 31) (σ.2.1 32) (σ.2.1 33) (σ.2.1 34) (σ.2.1 35) (σ.2.1 36) (σ.2.1 37)) from by rw [w6_τ3, w7_τ3, w13_τ3, w14_τ3, w15_τ3, g10_τ3, g13_τ3, g14_τ3, g15_τ3, g16_τ3, g27_τ3, g28_τ3, g29_τ3, g30_τ3, g31_τ3, g32_τ3, g33_τ3, g34_τ3, g35_τ3, g36_τ3, g37_τ3]]; exact CJ
  have A10 : ∀ j, (-1) ≤ τ3.2.1 10 j ∧ τ3.2.1 10 j ≤ 99 := fun j => hT.2 10 j
  have A11 : ∀ j, 0 ≤ τ3.2.1 11 j ∧ τ3.2.1 11 j ≤ 999 := fun j => hT.2 11 j
  have A13 : ∀ j, 0 ≤ τ3.2.1 13 j ∧ τ3.2.1 13 j ≤ 4 := fun j => hT.2 13 j
  have A14 : ∀ j, 0 ≤ τ3.2.1 14 j ∧ τ3.2.1 14 j ≤ 30000 := fun j => hT.2 14 j
  have A15 : ∀ j, 0 ≤ τ3.2.1 15 j ∧ τ3.2.1 15 j ≤ 999 := fun j => hT.2 15 j
  have A16 : ∀ j, (-1) ≤ τ3.2.1 16 j ∧ τ3.2.1 16 j ≤ 1499 := fun j => hT.2 16 j
  have A27 : ∀ j, 0 ≤ τ3.2.1 27 j ∧ τ3.2.1 27 j ≤ 90000 := fun j => hT.2 27 j
  have A28 : ∀ j, 0 ≤ τ3.2.1 28 j ∧ τ3.2.1 28 j ≤ 60 := fun j => hT.2 28 j
  have A29 : ∀ j, 0 ≤ τ3.2.1 29 j ∧ τ3.2.1 29 j ≤ 1499 := fun j => hT.2 29 j
  have A30 : ∀ j, 0 ≤ τ3.2.1 30 j ∧ τ3.2.1 30 j ≤ 20000 := fun j => hT.2 30 j
  have A31 : ∀ j, 0 ≤ τ3.2.1 31 j ∧ τ3.2.1 31 j ≤ 20000 := fun j => hT.2 31 j
  have A32 : ∀ j, 0 ≤ τ3.2.1 32 j ∧ τ3.2.1 32 j ≤ 999999 := fun j => hT.2 32 j
  have A33 : ∀ j, 0 ≤ τ3.2.1 33 j ∧ τ3.2.1 33 j ≤ 20000 := fun j => hT.2 33 j
  have A34 : ∀ j, 0 ≤ τ3.2.1 34 j ∧ τ3.2.1 34 j ≤ 20000 := fun j => hT.2 34 j
  have A35 : ∀ j, 0 ≤ τ3.2.1 35 j ∧ τ3.2.1 35 j ≤ 1499 := fun j => hT.2 35 j
  have A36 : ∀ j, 0 ≤ τ3.2.1 36 j ∧ τ3.2.1 36 j ≤ 20000 := fun j => hT.2 36 j
  have A37 : ∀ j, 0 ≤ τ3.2.1 37 j ∧ τ3.2.1 37 j ≤ 19999 := fun j => hT.2 37 j
  have A77 : ∀ j, 0 ≤ τ3.2.1 77 j ∧ τ3.2.1 77 j ≤ 999 := fun j => hT.2 77 j
  have A78 : ∀ j, (-1) ≤ τ3.2.1 78 j ∧ τ3.2.1 78 j ≤ 1499 := fun j => hT.2 78 j
  have v4 : 0 ≤ τ3.1 4 ∧ τ3.1 4 ≤ 100 := hT.1 4
  have v5 : 0 ≤ τ3.1 5 ∧ τ3.1 5 ≤ 1000 := hT.1 5
  have v6 : 0 ≤ τ3.1 6 ∧ τ3.1 6 ≤ 30000 := hT.1 6
  have v7 : 0 ≤ τ3.1 7 ∧ τ3.1 7 ≤ 1500 := hT.1 7
  have v13 : 0 ≤ τ3.1 13 ∧ τ3.1 13 ≤ 90000 := hT.1 13
  have v14 : 0 ≤ τ3.1 14 ∧ τ3.1 14 ≤ 20000 := hT.1 14
  have v15 : 0 ≤ τ3.1 15 ∧ τ3.1 15 ≤ 20000 := hT.1 15
  have v48 : (-1) ≤ τ3.1 48 ∧ τ3.1 48 ≤ 999 := hT.1 48
  have v49 : (-1) ≤ τ3.1 49 ∧ τ3.1 49 ≤ 999 := hT.1 49
  have v50 : 0 ≤ τ3.1 50 ∧ τ3.1 50 ≤ 59 := hT.1 50
  have v51 : 0 ≤ τ3.1 51 ∧ τ3.1 51 ≤ 1500 := hT.1 51
  have v52 : (-1) ≤ τ3.1 52 ∧ τ3.1 52 ≤ 99 := hT.1 52
  have a10_49 : (-1) ≤ τ3.2.1 10 (τ3.1 49) ∧ τ3.2.1 10 (τ3.1 49) ≤ 99 := hT.2 10 _
  have q3a := q1_1
  refine ⟨_, K_X3_lengthOf hT (show 0 ≤ n1 from by (first | omega | (simp only [st_s] <;> omega) | assumption | omega | fail)) (show n1 < 1500 from by (first | omega | (simp only [st_s] <;> omega) | assumption | omega | fail)), ?_⟩
  intro x5 r_x5 hq
  have q4_1 := hq
  replace q4_1 : x5 = τ3.2.1 14 (n1 + 1) - τ3.2.1 14 n1 := q4_1
  rw [g14_τ3] at q4_1
  intro x7 r_x7 h1_x7 h2_x7 h3_x7
  refine ⟨(⟨by (first | omega | (simp only [st_s] <;> omega) | assumption | omega | fail), by (first | omega | (simp only [st_s] <;> omega) | assumption | omega | fail)⟩ : rg (x7 - 1)), ?_⟩
  replace hT := cT_v (i := 50) hT (show 0 ≤ (x7 - 1) ∧ (x7 - 1) ≤ 59 from by (first | omega | (simp only [st_s] <;> omega) | assumption | omega | fail))
  exact l_25 ((61 - 0 : Int).toNat + 1) _ _ (show (61 - 0 : Int) < (((61 - 0 : Int).toNat + 1 : Nat) : Int) from by ((first | omega | (simp only [st_s] <;> omega) | assumption | omega | fail))) hT (show τ3.1 4 = σ.1 4 from by first | exact W4 | omega) (show τ3.1 5 = σ.1 5 from by first | exact W5 | omega) (show τ3.1 6 = σ.1 6 from by first | exact W6 | omega) (show τ3.1 7 = σ.1 7 from by first | exact W7 | omega) (show τ3.1 13 = σ.1 13 from by first | exact W13 | omega) (show τ3.1 14 = σ.1 14 from by first | exact W14 | omega) (show τ3.1 15 = σ.1 15 from by first | exact W15 | omega) (show τ3.1 48 = σ.1 48 from by first | exact W48 | omega) (show τ3.1 49 = σ.1 49 from by first | exact W49 | omega) G10 G11 G13 G14 G15 G16 G27 G28 G29 G30 G31 G32 G33 G34 G35 G36 G37 (show 0 ≤ 0 ∧ 0 ≤ 60 from by (first | omega | (simp only [st_s] <;> omega) | assumption | omega | fail)) (show ((x7 - 1)) = σ.2.1 14 (n1 + 1) - σ.2.1 14 n1 - 1 from by (first | omega | (simp only [st_s] <;> omega) | assumption | omega | fail)) (show ∀ s : Int, 0 ≤ s → s < 1000 → τ3.2.2 3 s = 0 from by (first | exact q1_1 | exact i25_3 | fail)) (show ∀ i : Int, 0 ≤ i → i < 0 → 0 ≤ τ3.2.1 78 i → τ3.2.1 78 i < (σ.1 7) ∧ σ.2.1 13 (τ3.2.1 78 i) = 0 from by (first | (intro i a b; exfalso; omega) | (intro i a b; by_cases z : i = u2_25; (rw [z, st_s, e_x23]; intro c; omega); (rw [st_n _ _ z]; exact i25_4 i a (by omega))) | fail)) (show ∀ i : Int, 0 ≤ i → i < 0 → τ3.2.1 77 i = σ.2.1 15 (σ.2.1 14 n1 + 1 + i) ∧ τ3.2.1 78 i = σ.2.1 16 (σ.2.1 14 n1 + 1 + i) from by (first | (intro i a b; exfalso; omega) | (intro i a b; by_cases z : i = u2_25; (rw [z, st_s, st_s]; exact ⟨e_x19, e_x23⟩); (rw [st_n _ _ z, st_n _ _ z]; exact i25_5 i a (by omega))) | fail))
set_option maxHeartbeats 4000000 in
theorem K_X1_countTrees {par nof : Int → Int} {In : Int → Prop} {σ : S0} (hT : c_T σ) (p1 : J_all (σ.1 7) (σ.1 6) (σ.1 13) (σ.1 14) (σ.1 15) (σ.2.1 13) (σ.2.1 14) (σ.2.1 15) (σ.2.1 16) (σ.2.1 10) (σ.2.1 27) (σ.2.1 28) (σ.2.1 29) (σ.2.1 30) (σ.2.1 31) (σ.2.1 32) (σ.2.1 33) (σ.2.1 34) (σ.2.1 35) (σ.2.1 36) (σ.2.1 37)) (p2 : c_Rs σ par nof In) (p3 : ∀ s : Int, 0 ≤ s → s < 1000 → σ.2.2 3 s = 0) (p4 : J_rks (σ.1 5) (σ.1 4) (σ.2.1 10) (σ.2.1 11)) (p5 : J_vs (σ.1 6) (σ.1 5) (σ.2.1 15)) (p6 : ∀ i : Int, 0 ≤ i → i < (σ.1 50) → 0 ≤ σ.2.1 78 i → σ.2.1 78 i < (σ.1 7)) (p7 : (σ.1 52) < (σ.1 4)) : W_X1_countTrees σ (fun (x : Int) (τ : S0) => (c_T τ) ∧ (0 ≤ x ∧ x ≤ 2) ∧ (∀ s : Int, 0 ≤ s → s < 1000 → (∀ i : Int, 0 ≤ i → i < (τ.1 50) → τ.2.1 77 i ≠ s) → τ.2.2 3 s = 0) ∧ (c_Rs τ par nof In) ∧ (x = 1 → (∀ i : Int, 0 ≤ i → i < (σ.1 50) → g_ok (σ.1 45) (σ.1 50) (σ.1 4) (σ.1 51) i (σ.2.1 77) (σ.2.1 69) par (σ.2.1 70) nof (g_so (σ.1 48) (σ.2.1 14) (σ.2.1 15) (σ.2.1 10)) (σ.2.1 78) In (τ.2.2 4) (τ.2.2 5) (τ.2.1 79)) ∧ 0 ≤ (σ.1 52) ∧ 0 < (σ.1 50) ∧ g_H (τ.2.2 4) (σ.1 52) 0 (σ.1 50) ∧ ¬ g_H (τ.2.2 5) (σ.1 52) 0 (σ.1 50) ∧ g_wu (σ.1 50) (σ.2.1 77) (τ.2.2 3)) ∧ (x = 1 → ∀ i : Int, 0 ≤ i → i < (σ.1 50) → g_uq (σ.1 45) (σ.1 50) (σ.1 51) i (0 ≤ σ.2.1 78 i ∧ ¬ σ.2.1 15 (σ.2.1 14 (σ.2.1 78 i)) = (σ.1 48)) (σ.2.1 77) (σ.2.1 69) par (σ.2.1 70) nof (g_so (σ.1 48) (σ.2.1 14) (σ.2.1 15) (σ.2.1 10)) (σ.2.1 78) In (τ.2.2 4) (τ.2.2 5) (τ.2.1 79))) := by
  have A10 : ∀ j, (-1) ≤ σ.2.1 10 j ∧ σ.2.1 10 j ≤ 99 := fun j => hT.2 10 j
  have A11 : ∀ j, 0 ≤ σ.2.1 11 j ∧ σ.2.1 11 j ≤ 999 := fun j => hT.2 11 j
  have A13 : ∀ j, 0 ≤ σ.2.1 13 j ∧ σ.2.1 13 j ≤ 4 := fun j => hT.2 13 j
  have A14 : ∀ j, 0 ≤ σ.2.1 14 j ∧ σ.2.1 14 j ≤ 30000 := fun j => hT.2 14 j
  have A15 : ∀ j, 0 ≤ σ.2.1 15 j ∧ σ.2.1 15 j ≤ 999 := fun j => hT.2 15 j
  have A16 : ∀ j, (-1) ≤ σ.2.1 16 j ∧ σ.2.1 16 j ≤ 1499 := fun j => hT.2 16 j
  have A27 : ∀ j, 0 ≤ σ.2.1 27 j ∧ σ.2.1 27 j ≤ 90000 := fun j => hT.2 27 j
  have A28 : ∀ j, 0 ≤ σ.2.1 28 j ∧ σ.2.1 28 j ≤ 60 := fun j => hT.2 28 j
  have A29 : ∀ j, 0 ≤ σ.2.1 29 j ∧ σ.2.1 29 j ≤ 1499 := fun j => hT.2 29 j
  have A30 : ∀ j, 0 ≤ σ.2.1 30 j ∧ σ.2.1 30 j ≤ 20000 := fun j => hT.2 30 j
  have A31 : ∀ j, 0 ≤ σ.2.1 31 j ∧ σ.2.1 31 j ≤ 20000 := fun j => hT.2 31 j
  have A32 : ∀ j, 0 ≤ σ.2.1 32 j ∧ σ.2.1 32 j ≤ 999999 := fun j => hT.2 32 j
  have A33 : ∀ j, 0 ≤ σ.2.1 33 j ∧ σ.2.1 33 j ≤ 20000 := fun j => hT.2 33 j
  have A34 : ∀ j, 0 ≤ σ.2.1 34 j ∧ σ.2.1 34 j ≤ 20000 := fun j => hT.2 34 j
  have A35 : ∀ j, 0 ≤ σ.2.1 35 j ∧ σ.2.1 35 j ≤ 1499 := fun j => hT.2 35 j
  have A36 : ∀ j, 0 ≤ σ.2.1 36 j ∧ σ.2.1 36 j ≤ 20000 := fun j => hT.2 36 j
  have A37 : ∀ j, 0 ≤ σ.2.1 37 j ∧ σ.2.1 37 j ≤ 19999 := fun j => hT.2 37 j
  have A69 : ∀ j, (-100) ≤ σ.2.1 69 j ∧ σ.2.1 69 j ≤ 999 := fun j => hT.2 69 j
  have A70 : ∀ j, 0 ≤ σ.2.1 70 j ∧ σ.2.1 70 j ≤ 1499 := fun j => hT.2 70 j
  have A77 : ∀ j, 0 ≤ σ.2.1 77 j ∧ σ.2.1 77 j ≤ 999 := fun j => hT.2 77 j
  have A78 : ∀ j, (-1) ≤ σ.2.1 78 j ∧ σ.2.1 78 j ≤ 1499 := fun j => hT.2 78 j
  have A79 : ∀ j, 0 ≤ σ.2.1 79 j ∧ σ.2.1 79 j ≤ 1499 := fun j => hT.2 79 j
  have v4 : 0 ≤ σ.1 4 ∧ σ.1 4 ≤ 100 := hT.1 4
  have v5 : 0 ≤ σ.1 5 ∧ σ.1 5 ≤ 1000 := hT.1 5
  have v6 : 0 ≤ σ.1 6 ∧ σ.1 6 ≤ 30000 := hT.1 6
  have v7 : 0 ≤ σ.1 7 ∧ σ.1 7 ≤ 1500 := hT.1 7
  have v13 : 0 ≤ σ.1 13 ∧ σ.1 13 ≤ 90000 := hT.1 13
  have v14 : 0 ≤ σ.1 14 ∧ σ.1 14 ≤ 20000 := hT.1 14
  have v15 : 0 ≤ σ.1 15 ∧ σ.1 15 ≤ 20000 := hT.1 15
  have v45 : 1 ≤ σ.1 45 ∧ σ.1 45 ≤ 30001 := hT.1 45
  have v48 : (-1) ≤ σ.1 48 ∧ σ.1 48 ≤ 999 := hT.1 48
  have v50 : 0 ≤ σ.1 50 ∧ σ.1 50 ≤ 59 := hT.1 50
  have v51 : 0 ≤ σ.1 51 ∧ σ.1 51 ≤ 1500 := hT.1 51
  have v52 : (-1) ≤ σ.1 52 ∧ σ.1 52 ≤ 99 := hT.1 52
  have v53 : 0 ≤ σ.1 53 ∧ σ.1 53 ≤ 58 := hT.1 53
  have a78_53 : (-1) ≤ σ.2.1 78 (σ.1 53) ∧ σ.2.1 78 (σ.1 53) ≤ 1499 := hT.2 78 _
  have W4 : σ.1 4 = σ.1 4 := rfl
  have W5 : σ.1 5 = σ.1 5 := rfl
  have W6 : σ.1 6 = σ.1 6 := rfl
  have W7 : σ.1 7 = σ.1 7 := rfl
  have W13 : σ.1 13 = σ.1 13 := rfl
  have W14 : σ.1 14 = σ.1 14 := rfl
  have W15 : σ.1 15 = σ.1 15 := rfl
  have W45 : σ.1 45 = σ.1 45 := rfl
  have W48 : σ.1 48 = σ.1 48 := rfl
  have W50 : σ.1 50 = σ.1 50 := rfl
  have W51 : σ.1 51 = σ.1 51 := rfl
  have W52 : σ.1 52 = σ.1 52 := rfl
  have G10 : σ.2.1 10 = σ.2.1 10 := rfl
  have G11 : σ.2.1 11 = σ.2.1 11 := rfl
  have G13 : σ.2.1 13 = σ.2.1 13 := rfl
  have G14 : σ.2.1 14 = σ.2.1 14 := rfl
  have G15 : σ.2.1 15 = σ.2.1 15 := rfl
  have G16 : σ.2.1 16 = σ.2.1 16 := rfl
  have G27 : σ.2.1 27 = σ.2.1 27 := rfl
  have G28 : σ.2.1 28 = σ.2.1 28 := rfl
  have G29 : σ.2.1 29 = σ.2.1 29 := rfl
  have G30 : σ.2.1 30 = σ.2.1 30 := rfl
  have G31 : σ.2.1 31 = σ.2.1 31 := rfl
  have G32 : σ.2.1 32 = σ.2.1 32 := rfl
  have G33 : σ.2.1 33 = σ.2.1 33 := rfl
  have G34 : σ.2.1 34 = σ.2.1 34 := rfl
  have G35 : σ.2.1 35 = σ.2.1 35 := rfl
  have G36 : σ.2.1 36 = σ.2.1 36 := rfl
  have G37 : σ.2.1 37 = σ.2.1 37 := rfl
  have G69 : σ.2.1 69 = σ.2.1 69 := rfl
  have G70 : σ.2.1 70 = σ.2.1 70 := rfl
  have G77 : σ.2.1 77 = σ.2.1 77 := rfl
  have G78 : σ.2.1 78 = σ.2.1 78 := rfl
  intro P19 P57 h19 h57
  have w50 : 0 ≤ σ.1 50 ∧ σ.1 50 ≤ 59 := by omega
  have TX : J_vs (σ.1 6) (σ.1 5) (σ.2.1 15) := p5
  have RKS : J_rks (σ.1 5) (σ.1 4) (σ.2.1 10) (σ.2.1 11) := p4
  have CJ : J_all (σ.1 7) (σ.1 6) (σ.1 13) (σ.1 14) (σ.1 15) (σ.2.1 13) (σ.2.1 14) (σ.2.1 15) (σ.2.1 16) (σ.2.1 10) (σ.2.1 27) (σ.2.1 28) (σ.2.1 29) (σ.2.1 30) (σ.2.1 31) (σ.2.1 32) (σ.2.1 33) (σ.2.1 34) (σ.2.1 35) (σ.2.1 36) (σ.2.1 37) := p1
  have CJ_0 := CJ
  have RKS_0 := RKS
  have TX_0 := TX
  have l_57 : ∀ (m_57 : Nat) (u1_57 : Int) (τ_57 : S0), 61 + u1_57 < (m_57 : Int) → (c_T τ_57) → (τ_57.1 4 = σ.1 4) → (τ_57.1 5 = σ.1 5) → (τ_57.1 6 = σ.1 6) → (τ_57.1 7 = σ.1 7) → (τ_57.1 13 = σ.1 13) → (τ_57.1 14 = σ.1 14) → (τ_57.1 15 = σ.1 15) → (τ_57.1 45 = σ.1 45) → (τ_57.1 48 = σ.1 48) → (τ_57.1 50 = σ.1 50) → (τ_57.1 51 = σ.1 51) → (τ_57.1 52 = σ.1 52) → (τ_57.2.1 10 = σ.2.1 10) → (τ_57.2.1 11 = σ.2.1 11) → (τ_57.2.1 13 = σ.2.1 13) → (τ_57.2.1 14 = σ.2.1 14) → (τ_57.2.1 15 = σ.2.1 15) → (τ_57.2.1 16 = σ.2.1 16) → (τ_57.2.1 27 = σ.2.1 27) → (τ_57.2.1 28 = σ.2.1 28) → (τ_57.2.1 29 = σ.2.1 29) → (τ_57.2.1 30 = σ.2.1 30) → (τ_57.2.1 31 = σ.2.1 31) → (τ_57.2.1 32 = σ.2.1 32) → (τ_57.2.1 33 = σ.2.1 33) → (τ_57.2.1 34 = σ.2.1 34) → (τ_57.2.1 35 = σ.2.1 35) → (τ_57.2.1 36 = σ.2.1 36) → (τ_57.2.1 37 = σ.2.1 37) → (τ_57.2.1 69 = σ.2.1 69) → (τ_57.2.1 70 = σ.2.1 70) → (τ_57.2.1 77 = σ.2.1 77) → (τ_57.2.1 78 = σ.2.1 78) → (-1 ≤ u1_57 ∧ u1_57 < (σ.1 50)) → (∀ i : Int, u1_57 < i → i < (σ.1 50) → g_ok (σ.1 45) (σ.1 50) (σ.1 4) (σ.1 51) i (σ.2.1 77) (σ.2.1 69) par (σ.2.1 70) nof (g_so (σ.1 48) (σ.2.1 14) (σ.2.1 15) (σ.2.1 10)) (σ.2.1 78) In (τ_57.2.2 4) (τ_57.2.2 5) (τ_57.2.1 79)) → (c_Rs τ_57 par nof In) → (g_wu (σ.1 50) (σ.2.1 77) (τ_57.2.2 3)) → (0 ≤ (σ.1 52) ∧ 0 < (σ.1 50)) → (∀ i : Int, u1_57 < i → i < (σ.1 50) → g_uq (σ.1 45) (σ.1 50) (σ.1 51) i (0 ≤ σ.2.1 78 i ∧ ¬ σ.2.1 15 (σ.2.1 14 (σ.2.1 78 i)) = (σ.1 48)) (σ.2.1 77) (σ.2.1 69) par (σ.2.1 70) nof (g_so (σ.1 48) (σ.2.1 14) (σ.2.1 15) (σ.2.1 10)) (σ.2.1 78) In (τ_57.2.2 4) (τ_57.2.2 5) (τ_57.2.1 79)) → P57 u1_57 τ_57 := by
    intro m_57
    induction m_57 with
    | zero =>
      intro u1_57 τ_57 hm hT W4 W5 W6 W7 W13 W14 W15 W45 W48 W50 W51 W52 G10 G11 G13 G14 G15 G16 G27 G28 G29 G30 G31 G32 G33 G34 G35 G36 G37 G69 G70 G77 G78 i57_1 i57_2 i57_3 i57_4 i57_5 i57_6
      have A10 : ∀ j, (-1) ≤ τ_57.2.1 10 j ∧ τ_57.2.1 10 j ≤ 99 := fun j => hT.2 10 j
      have A11 : ∀ j, 0 ≤ τ_57.2.1 11 j ∧ τ_57.2.1 11 j ≤ 999 := fun j => hT.2 11 j
      have A13 : ∀ j, 0 ≤ τ_57.2.1 13 j ∧ τ_57.2.1 13 j ≤ 4 := fun j => hT.2 13 j
      have A14 : ∀ j, 0 ≤ τ_57.2.1 14 j ∧ τ_57.2.1 14 j ≤ 30000 := fun j => hT.2 14 j
      have A15 : ∀ j, 0 ≤ τ_57.2.1 15 j ∧ τ_57.2.1 15 j ≤ 999 := fun j => hT.2 15 j
      have A16 : ∀ j, (-1) ≤ τ_57.2.1 16 j ∧ τ_57.2.1 16 j ≤ 1499 := fun j => hT.2 16 j
      have A27 : ∀ j, 0 ≤ τ_57.2.1 27 j ∧ τ_57.2.1 27 j ≤ 90000 := fun j => hT.2 27 j
      have A28 : ∀ j, 0 ≤ τ_57.2.1 28 j ∧ τ_57.2.1 28 j ≤ 60 := fun j => hT.2 28 j
      have A29 : ∀ j, 0 ≤ τ_57.2.1 29 j ∧ τ_57.2.1 29 j ≤ 1499 := fun j => hT.2 29 j
      have A30 : ∀ j, 0 ≤ τ_57.2.1 30 j ∧ τ_57.2.1 30 j ≤ 20000 := fun j => hT.2 30 j
      have A31 : ∀ j, 0 ≤ τ_57.2.1 31 j ∧ τ_57.2.1 31 j ≤ 20000 := fun j => hT.2 31 j
      have A32 : ∀ j, 0 ≤ τ_57.2.1 32 j ∧ τ_57.2.1 32 j ≤ 999999 := fun j => hT.2 32 j
      have A33 : ∀ j, 0 ≤ τ_57.2.1 33 j ∧ τ_57.2.1 33 j ≤ 20000 := fun j => hT.2 33 j
      have A34 : ∀ j, 0 ≤ τ_57.2.1 34 j ∧ τ_57.2.1 34 j ≤ 20000 := fun j => hT.2 34 j
      have A35 : ∀ j, 0 ≤ τ_57.2.1 35 j ∧ τ_57.2.1 35 j ≤ 1499 := fun j => hT.2 35 j
      have A36 : ∀ j, 0 ≤ τ_57.2.1 36 j ∧ τ_57.2.1 36 j ≤ 20000 := fun j => hT.2 36 j
      have A37 : ∀ j, 0 ≤ τ_57.2.1 37 j ∧ τ_57.2.1 37 j ≤ 19999 := fun j => hT.2 37 j
      have A69 : ∀ j, (-100) ≤ τ_57.2.1 69 j ∧ τ_57.2.1 69 j ≤ 999 := fun j => hT.2 69 j
      have A70 : ∀ j, 0 ≤ τ_57.2.1 70 j ∧ τ_57.2.1 70 j ≤ 1499 := fun j => hT.2 70 j
      have A77 : ∀ j, 0 ≤ τ_57.2.1 77 j ∧ τ_57.2.1 77 j ≤ 999 := fun j => hT.2 77 j
      have A78 : ∀ j, (-1) ≤ τ_57.2.1 78 j ∧ τ_57.2.1 78 j ≤ 1499 := fun j => hT.2 78 j
      have A79 : ∀ j, 0 ≤ τ_57.2.1 79 j ∧ τ_57.2.1 79 j ≤ 1499 := fun j => hT.2 79 j
      have v4 : 0 ≤ τ_57.1 4 ∧ τ_57.1 4 ≤ 100 := hT.1 4
      have v5 : 0 ≤ τ_57.1 5 ∧ τ_57.1 5 ≤ 1000 := hT.1 5
      have v6 : 0 ≤ τ_57.1 6 ∧ τ_57.1 6 ≤ 30000 := hT.1 6
      have v7 : 0 ≤ τ_57.1 7 ∧ τ_57.1 7 ≤ 1500 := hT.1 7
      have v13 : 0 ≤ τ_57.1 13 ∧ τ_57.1 13 ≤ 90000 := hT.1 13
      have v14 : 0 ≤ τ_57.1 14 ∧ τ_57.1 14 ≤ 20000 := hT.1 14
      have v15 : 0 ≤ τ_57.1 15 ∧ τ_57.1 15 ≤ 20000 := hT.1 15
      have v45 : 1 ≤ τ_57.1 45 ∧ τ_57.1 45 ≤ 30001 := hT.1 45
      have v48 : (-1) ≤ τ_57.1 48 ∧ τ_57.1 48 ≤ 999 := hT.1 48
      have v50 : 0 ≤ τ_57.1 50 ∧ τ_57.1 50 ≤ 59 := hT.1 50
      have v51 : 0 ≤ τ_57.1 51 ∧ τ_57.1 51 ≤ 1500 := hT.1 51
      have v52 : (-1) ≤ τ_57.1 52 ∧ τ_57.1 52 ≤ 99 := hT.1 52
      have v53 : 0 ≤ τ_57.1 53 ∧ τ_57.1 53 ≤ 58 := hT.1 53
      have a78_53 : (-1) ≤ τ_57.2.1 78 (τ_57.1 53) ∧ τ_57.2.1 78 (τ_57.1 53) ≤ 1499 := hT.2 78 _
      exfalso; (first | omega | (simp only [st_s] <;> omega) | assumption | omega | fail)
    | succ m_57 ih_57 =>
      intro u1_57 τ_57 hm_57 hT W4 W5 W6 W7 W13 W14 W15 W45 W48 W50 W51 W52 G10 G11 G13 G14 G15 G16 G27 G28 G29 G30 G31 G32 G33 G34 G35 G36 G37 G69 G70 G77 G78 i57_1 i57_2 i57_3 i57_4 i57_5 i57_6
      have A10 : ∀ j, (-1) ≤ τ_57.2.1 10 j ∧ τ_57.2.1 10 j ≤ 99 := fun j => hT.2 10 j
      have A11 : ∀ j, 0 ≤ τ_57.2.1 11 j ∧ τ_57.2.1 11 j ≤ 999 := fun j => hT.2 11 j
      have A13 : ∀ j, 0 ≤ τ_57.2.1 13 j ∧ τ_57.2.1 13 j ≤ 4 := fun j => hT.2 13 j
      have A14 : ∀ j, 0 ≤ τ_57.2.1 14 j ∧ τ_57.2.1 14 j ≤ 30000 := fun j => hT.2 14 j
      have A15 : ∀ j, 0 ≤ τ_57.2.1 15 j ∧ τ_57.2.1 15 j ≤ 999 := fun j => hT.2 15 j
      have A16 : ∀ j, (-1) ≤ τ_57.2.1 16 j ∧ τ_57.2.1 16 j ≤ 1499 := fun j => hT.2 16 j
      have A27 : ∀ j, 0 ≤ τ_57.2.1 27 j ∧ τ_57.2.1 27 j ≤ 90000 := fun j => hT.2 27 j
      have A28 : ∀ j, 0 ≤ τ_57.2.1 28 j ∧ τ_57.2.1 28 j ≤ 60 := fun j => hT.2 28 j
      have A29 : ∀ j, 0 ≤ τ_57.2.1 29 j ∧ τ_57.2.1 29 j ≤ 1499 := fun j => hT.2 29 j
      have A30 : ∀ j, 0 ≤ τ_57.2.1 30 j ∧ τ_57.2.1 30 j ≤ 20000 := fun j => hT.2 30 j
      have A31 : ∀ j, 0 ≤ τ_57.2.1 31 j ∧ τ_57.2.1 31 j ≤ 20000 := fun j => hT.2 31 j
      have A32 : ∀ j, 0 ≤ τ_57.2.1 32 j ∧ τ_57.2.1 32 j ≤ 999999 := fun j => hT.2 32 j
      have A33 : ∀ j, 0 ≤ τ_57.2.1 33 j ∧ τ_57.2.1 33 j ≤ 20000 := fun j => hT.2 33 j
      have A34 : ∀ j, 0 ≤ τ_57.2.1 34 j ∧ τ_57.2.1 34 j ≤ 20000 := fun j => hT.2 34 j
      have A35 : ∀ j, 0 ≤ τ_57.2.1 35 j ∧ τ_57.2.1 35 j ≤ 1499 := fun j => hT.2 35 j
      have A36 : ∀ j, 0 ≤ τ_57.2.1 36 j ∧ τ_57.2.1 36 j ≤ 20000 := fun j => hT.2 36 j
      have A37 : ∀ j, 0 ≤ τ_57.2.1 37 j ∧ τ_57.2.1 37 j ≤ 19999 := fun j => hT.2 37 j
      have A69 : ∀ j, (-100) ≤ τ_57.2.1 69 j ∧ τ_57.2.1 69 j ≤ 999 := fun j => hT.2 69 j
      have A70 : ∀ j, 0 ≤ τ_57.2.1 70 j ∧ τ_57.2.1 70 j ≤ 1499 := fun j => hT.2 70 j
      have A77 : ∀ j, 0 ≤ τ_57.2.1 77 j ∧ τ_57.2.1 77 j ≤ 999 := fun j => hT.2 77 j
      have A78 : ∀ j, (-1) ≤ τ_57.2.1 78 j ∧ τ_57.2.1 78 j ≤ 1499 := fun j => hT.2 78 j
      have A79 : ∀ j, 0 ≤ τ_57.2.1 79 j ∧ τ_57.2.1 79 j ≤ 1499 := fun j => hT.2 79 j
      have v4 : 0 ≤ τ_57.1 4 ∧ τ_57.1 4 ≤ 100 := hT.1 4
      have v5 : 0 ≤ τ_57.1 5 ∧ τ_57.1 5 ≤ 1000 := hT.1 5
      have v6 : 0 ≤ τ_57.1 6 ∧ τ_57.1 6 ≤ 30000 := hT.1 6
      have v7 : 0 ≤ τ_57.1 7 ∧ τ_57.1 7 ≤ 1500 := hT.1 7
      have v13 : 0 ≤ τ_57.1 13 ∧ τ_57.1 13 ≤ 90000 := hT.1 13
      have v14 : 0 ≤ τ_57.1 14 ∧ τ_57.1 14 ≤ 20000 := hT.1 14
      have v15 : 0 ≤ τ_57.1 15 ∧ τ_57.1 15 ≤ 20000 := hT.1 15
      have v45 : 1 ≤ τ_57.1 45 ∧ τ_57.1 45 ≤ 30001 := hT.1 45
      have v48 : (-1) ≤ τ_57.1 48 ∧ τ_57.1 48 ≤ 999 := hT.1 48
      have v50 : 0 ≤ τ_57.1 50 ∧ τ_57.1 50 ≤ 59 := hT.1 50
      have v51 : 0 ≤ τ_57.1 51 ∧ τ_57.1 51 ≤ 1500 := hT.1 51
      have v52 : (-1) ≤ τ_57.1 52 ∧ τ_57.1 52 ≤ 99 := hT.1 52
      have v53 : 0 ≤ τ_57.1 53 ∧ τ_57.1 53 ≤ 58 := hT.1 53
      have a78_53 : (-1) ≤ τ_57.2.1 78 (τ_57.1 53) ∧ τ_57.2.1 78 (τ_57.1 53) ≤ 1499 := hT.2 78 _
      have TX : J_vs (τ_57.1 6) (τ_57.1 5) (τ_57.2.1 15) := by rw [show (J_vs (τ_57.1 6) (τ_57.1 5) (τ_57.2.1 15)) = (J_vs (σ.1 6) (σ.1 5) (σ.2.1 15)) from by rw [W5, W6, G15]]; exact TX_0
      have RKS : J_rks (τ_57.1 5) (τ_57.1 4) (τ_57.2.1 10) (τ_57.2.1 11) := by rw [show (J_rks (τ_57.1 5) (τ_57.1 4) (τ_57.2.1 10) (τ_57.2.1 11)) = (J_rks (σ.1 5) (σ.1 4) (σ.2.1 10) (σ.2.1 11)) from by rw [W4, W5, G10, G11]]; exact RKS_0
      have CJ : J_all (τ_57.1 7) (τ_57.1 6) (τ_57.1 13) (τ_57.1 14) (τ_57.1 15) (τ_57.2.1 13) (τ_57.2.1 14) (τ_57.2.1 15) (τ_57.2.1 16) (τ_57.2.1 10) (τ_57.2.1 27) (τ_57.2.1 28) (τ_57.2.1 29) (τ_57.2.1 30) (τ_57.2.1 31) (τ_57.2.1 32) (τ_57.2.1 33) (τ_57.2.1 34) (τ_57.2.1 35) (τ_57.2.1 36) (τ_57.2.1 37) := by rw [show (J_all (τ_57.1 7) (τ_57.1 6) (τ_57.1 13) (τ_57.1 14) (τ_57.1 15) (τ_57.2.1 13) (τ_57.2.1 14) (τ_57.2.1 15) (τ_57.2.1 16) (τ_57.2.1 10) (τ_57.2.1 27) (τ_57.2.1 28) (τ_57.2.1 29) (τ_57.2.1 30) (τ_57.2.1 31) (τ_57.2.1 32) (τ_57.2.1 33) (τ_57.2.1 34) (τ_57.2.1 35) (τ_57.2.1 36) (τ_57.2.1 37)) = (J_all (σ.1 7) (σ.1 6) (σ.1 13) (σ.1 14) (σ.1 15) (σ.2.1 13) (σ.2.1 14) (σ.2.1 15) (σ.2.1 16) (σ.2.1 10) (σ.2.1 27) (σ.2.1 28) (σ.2.1 29) (σ.2.1 30) (σ.2.1 31) (σ.2.1 32) (σ.2.1 33) (σ.2.1 34) (σ.2.1 35) (σ.2.1 36) (σ.2.1 37)) from by rw [W6, W7, W13, W14, W15, G10, G13, G14, G15, G16, G27, G28, G29, G30, G31, G32, G33, G34, G35, G36, G37]]; exact CJ_0
      have sl0 : ∀ i s e : Int, u1_57 < i → i < σ.1 50 → 0 ≤ s → s < σ.1 4 → 0 ≤ e → e < 64 → (g_H (τ_57.2.2 4) s i e → i < e ∧ e ≤ σ.1 50) ∧ (g_H (τ_57.2.2 5) s i e → g_H (τ_57.2.2 4) s i e) := fun i s e a b c d f g => by (obtain ⟨t, ht⟩ := i57_2 i a b e f g; have w := ht s c d; exact ⟨fun q => (w.2 q).1, w.1⟩)
      refine h57 u1_57 τ_57 ?_
      refine ⟨fun c10 => ?_, fun c10 => ?_⟩
      ·
        refine ⟨(show 0 ≤ (τ_57.1 52 * 60) ∧ (τ_57.1 52 * 60) < 6000 from by (first | omega | (simp only [st_s] <;> omega) | assumption | omega | fail)), ?_⟩
        intro x12 e_x12
        intro x13 e_x13
        intro x14 r_x14 h1_x14
        have one : (0 ≤ x14 ∧ x14 ≤ 2) ∧ (x14 = 1 → g_H (τ_57.2.2 4) (σ.1 52) 0 (σ.1 50) ∧ ¬ g_H (τ_57.2.2 5) (σ.1 52) 0 (σ.1 50)) := by (have yx : j_b x13 (τ_57.1 50) → j_b x12 (τ_57.1 50) := (fun q => by (have w := (sl0 0 (σ.1 52) (σ.1 50) (by omega) (by omega) i57_5.1 (by omega) (by omega) (by omega)).2 (by show j_b (τ_57.2.2 5 (σ.1 52 * 60 + 0)) (σ.1 50); rw [Int.add_zero, ← W52, ← e_x13, ← W50]; exact q); have v : j_b (τ_57.2.2 4 (σ.1 52 * 60 + 0)) (σ.1 50) := w; rw [Int.add_zero, ← W52, ← e_x12, ← W50] at v; exact v)); have r := g_one (by omega) (by omega) yx h1_x14; refine ⟨r.1, fun z => ?_⟩; show j_b (τ_57.2.2 4 (σ.1 52 * 60 + 0)) (σ.1 50) ∧ ¬ j_b (τ_57.2.2 5 (σ.1 52 * 60 + 0)) (σ.1 50); rw [Int.add_zero, ← W52, ← e_x12, ← e_x13, ← W50]; exact r.2 z)
        exact ⟨hT, (show 0 ≤ x14 ∧ x14 ≤ 2 from by (first | omega | exact one.1 | fail)), (show ∀ s : Int, 0 ≤ s → s < 1000 → (∀ i : Int, 0 ≤ i → i < (τ_57.1 50) → τ_57.2.1 77 i ≠ s) → τ_57.2.2 3 s = 0 from by (first | (intro s a b _; exact p3 s a b) | (rw [W50, G77]; exact g_wz i57_4) | fail)), (show c_Rs τ_57 par nof In from by (first | exact p2 | exact i57_3 | fail)), (show x14 = 1 → (∀ i : Int, 0 ≤ i → i < (σ.1 50) → g_ok (σ.1 45) (σ.1 50) (σ.1 4) (σ.1 51) i (σ.2.1 77) (σ.2.1 69) par (σ.2.1 70) nof (g_so (σ.1 48) (σ.2.1 14) (σ.2.1 15) (σ.2.1 10)) (σ.2.1 78) In (τ_57.2.2 4) (τ_57.2.2 5) (τ_57.2.1 79)) ∧ 0 ≤ (σ.1 52) ∧ 0 < (σ.1 50) ∧ g_H (τ_57.2.2 4) (σ.1 52) 0 (σ.1 50) ∧ ¬ g_H (τ_57.2.2 5) (σ.1 52) 0 (σ.1 50) ∧ g_wu (σ.1 50) (σ.2.1 77) (τ_57.2.2 3) from by (first | (intro z; exfalso; omega) | (intro z; exact ⟨fun i a b => i57_2 i (by omega) b, i57_5.1, by omega, (one.2 z).1, (one.2 z).2, i57_4⟩) | fail)), (show x14 = 1 → ∀ i : Int, 0 ≤ i → i < (σ.1 50) → g_uq (σ.1 45) (σ.1 50) (σ.1 51) i (0 ≤ σ.2.1 78 i ∧ ¬ σ.2.1 15 (σ.2.1 14 (σ.2.1 78 i)) = (σ.1 48)) (σ.2.1 77) (σ.2.1 69) par (σ.2.1 70) nof (g_so (σ.1 48) (σ.2.1 14) (σ.2.1 15) (σ.2.1 10)) (σ.2.1 78) In (τ_57.2.2 4) (τ_57.2.2 5) (τ_57.2.1 79) from by (first | (intro z; exfalso; omega) | exact fun _ i a b => i57_6 i (by omega) b | fail))⟩
      ·
        replace hT := cT_v (i := 53) hT (show 0 ≤ u1_57 ∧ u1_57 ≤ 58 from by (first | omega | (simp only [st_s] <;> omega) | assumption | omega | fail))
        have y48 := W48
        have uqb := i57_6
        have okb := i57_2
        have wub := i57_4
        have csb := i57_3
        have y50 := W50
        have y4 := W4
        have y51 := W51
        have y45 := W45
        have f77 := G77
        have f78 := G78
        have f14 := G14
        have f15 := G15
        have f10 := G10
        have f69 := G69
        have f70 := G70
        refine ⟨_, K_X1_parseFromStart hT (show J_all (τ_57.1 7) (τ_57.1 6) (τ_57.1 13) (τ_57.1 14) (τ_57.1 15) (τ_57.2.1 13) (τ_57.2.1 14) (τ_57.2.1 15) (τ_57.2.1 16) (τ_57.2.1 10) (τ_57.2.1 27) (τ_57.2.1 28) (τ_57.2.1 29) (τ_57.2.1 30) (τ_57.2.1 31) (τ_57.2.1 32) (τ_57.2.1 33) (τ_57.2.1 34) (τ_57.2.1 35) (τ_57.2.1 36) (τ_57.2.1 37) from CJ) (show c_Rs (s_v τ_57 53 u1_57) par nof In from by exact i57_3) (show (u1_57) < (τ_57.1 50) from by (first | omega | (simp only [st_s] <;> omega) | assumption | omega | fail)) (show ∀ s q : Int, 0 ≤ s → s < 1000 → 0 ≤ q → q < 64 → (j_b (τ_57.2.2 3 s) q ↔ q < (τ_57.1 50) ∧ τ_57.2.1 77 q = s) from by (intro s q a b c d; rw [W50, G77]; exact wub s q a b c d)) (show ∀ s q e : Int, 0 ≤ s → s < (τ_57.1 4) → (u1_57) < q → q < (τ_57.1 50) → 0 ≤ e → e < 64 → (g_H (τ_57.2.2 4) s q e → q < e ∧ e ≤ (τ_57.1 50)) ∧ (g_H (τ_57.2.2 5) s q e → g_H (τ_57.2.2 4) s q e) from by (intro s q e a b c d f g; rw [W50] at d ⊢; rw [W4] at b; exact sl0 q s e c d a b f g)) (show J_rks (τ_57.1 5) (τ_57.1 4) (τ_57.2.1 10) (τ_57.2.1 11) from RKS) (show J_vs (τ_57.1 6) (τ_57.1 5) (τ_57.2.1 15) from TX) (show ∀ i : Int, 0 ≤ i → i < (τ_57.1 50) → 0 ≤ τ_57.2.1 78 i → τ_57.2.1 78 i < (τ_57.1 7) from by (rw [W50, G78, W7]; exact p6)), ?_⟩
        intro τ17 hn_τ17 hf_τ17 hq
        obtain ⟨hT, q15_1, q15_2, q15_3, q15_4, q15_5⟩ := hq
        replace q15_1 : ∀ s i e : Int, 0 ≤ i → i < 60 → 0 ≤ e → e < 64 → i ≠ (u1_57) → (g_H (τ17.2.2 4) s i e ↔ g_H (τ_57.2.2 4) s i e) ∧ (g_H (τ17.2.2 5) s i e ↔ g_H (τ_57.2.2 5) s i e) := q15_1
        replace q15_2 : ∀ s i e : Int, 0 ≤ i → i < e → e ≤ 59 → i ≠ (u1_57) → g_mb (τ17.2.1 79) s i e = g_mb (τ_57.2.1 79) s i e := q15_2
        replace q15_3 : g_ok (τ_57.1 45) (τ_57.1 50) (τ_57.1 4) (τ_57.1 51) (u1_57) (τ_57.2.1 77) (τ_57.2.1 69) par (τ_57.2.1 70) nof (g_so (τ_57.1 48) (τ_57.2.1 14) (τ_57.2.1 15) (τ_57.2.1 10)) (τ_57.2.1 78) In (τ17.2.2 4) (τ17.2.2 5) (τ17.2.1 79) := q15_3
        replace q15_4 : τ17.2.2 3 = τ_57.2.2 3 := q15_4
        replace q15_5 : g_uq (τ_57.1 45) (τ_57.1 50) (τ_57.1 51) (u1_57) (0 ≤ τ_57.2.1 78 (u1_57) ∧ ¬ τ_57.2.1 15 (τ_57.2.1 14 (τ_57.2.1 78 (u1_57))) = (τ_57.1 48)) (τ_57.2.1 77) (τ_57.2.1 69) par (τ_57.2.1 70) nof (g_so (τ_57.1 48) (τ_57.2.1 14) (τ_57.2.1 15) (τ_57.2.1 10)) (τ_57.2.1 78) In (τ17.2.2 4) (τ17.2.2 5) (τ17.2.1 79) := q15_5
        have w4_τ17 : τ17.1 4 = τ_57.1 4 := hf_τ17.1 4 (by decide)
        have w5_τ17 : τ17.1 5 = τ_57.1 5 := hf_τ17.1 5 (by decide)
        have w6_τ17 : τ17.1 6 = τ_57.1 6 := hf_τ17.1 6 (by decide)
        have w7_τ17 : τ17.1 7 = τ_57.1 7 := hf_τ17.1 7 (by decide)
        have w13_τ17 : τ17.1 13 = τ_57.1 13 := hf_τ17.1 13 (by decide)
        have w14_τ17 : τ17.1 14 = τ_57.1 14 := hf_τ17.1 14 (by decide)
        have w15_τ17 : τ17.1 15 = τ_57.1 15 := hf_τ17.1 15 (by decide)
        have w45_τ17 : τ17.1 45 = τ_57.1 45 := hf_τ17.1 45 (by decide)
        have w48_τ17 : τ17.1 48 = τ_57.1 48 := hf_τ17.1 48 (by decide)
        have w50_τ17 : τ17.1 50 = τ_57.1 50 := hf_τ17.1 50 (by decide)
        have w51_τ17 : τ17.1 51 = τ_57.1 51 := hf_τ17.1 51 (by decide)
        have w52_τ17 : τ17.1 52 = τ_57.1 52 := hf_τ17.1 52 (by decide)
        have w53_τ17 : τ17.1 53 = u1_57 := hf_τ17.1 53 (by decide)
        have g10_τ17 : τ17.2.1 10 = τ_57.2.1 10 := hf_τ17.2.1 10 (by decide)
        have g11_τ17 : τ17.2.1 11 = τ_57.2.1 11 := hf_τ17.2.1 11 (by decide)
        have g13_τ17 : τ17.2.1 13 = τ_57.2.1 13 := hf_τ17.2.1 13 (by decide)
        have g14_τ17 : τ17.2.1 14 = τ_57.2.1 14 := hf_τ17.2.1 14 (by decide)
        have g15_τ17 : τ17.2.1 15 = τ_57.2.1 15 := hf_τ17.2.1 15 (by decide)
        have g16_τ17 : τ17.2.1 16 = τ_57.2.1 16 := hf_τ17.2.1 16 (by decide)
        have g27_τ17 : τ17.2.1 27 = τ_57.2.1 27 := hf_τ17.2.1 27 (by decide)
        have g28_τ17 : τ17.2.1 28 = τ_57.2.1 28 := hf_τ17.2.1 28 (by decide)
        have g29_τ17 : τ17.2.1 29 = τ_57.2.1 29 := hf_τ17.2.1 29 (by decide)
        have g30_τ17 : τ17.2.1 30 = τ_57.2.1 30 := hf_τ17.2.1 30 (by decide)
        have g31_τ17 : τ17.2.1 31 = τ_57.2.1 31 := hf_τ17.2.1 31 (by decide)
        have g32_τ17 : τ17.2.1 32 = τ_57.2.1 32 := hf_τ17.2.1 32 (by decide)
        have g33_τ17 : τ17.2.1 33 = τ_57.2.1 33 := hf_τ17.2.1 33 (by decide)
        have g34_τ17 : τ17.2.1 34 = τ_57.2.1 34 := hf_τ17.2.1 34 (by decide)
        have g35_τ17 : τ17.2.1 35 = τ_57.2.1 35 := hf_τ17.2.1 35 (by decide)
        have g36_τ17 : τ17.2.1 36 = τ_57.2.1 36 := hf_τ17.2.1 36 (by decide)
        have g37_τ17 : τ17.2.1 37 = τ_57.2.1 37 := hf_τ17.2.1 37 (by decide)
        have g69_τ17 : τ17.2.1 69 = τ_57.2.1 69 := hf_τ17.2.1 69 (by decide)
        have g70_τ17 : τ17.2.1 70 = τ_57.2.1 70 := hf_τ17.2.1 70 (by decide)
        have g77_τ17 : τ17.2.1 77 = τ_57.2.1 77 := hf_τ17.2.1 77 (by decide)
        have g78_τ17 : τ17.2.1 78 = τ_57.2.1 78 := hf_τ17.2.1 78 (by decide)
        have W4 : τ17.1 4 = σ.1 4 := by first | exact w4_τ17.trans W4 | omega
        have W5 : τ17.1 5 = σ.1 5 := by first | exact w5_τ17.trans W5 | omega
        have W6 : τ17.1 6 = σ.1 6 := by first | exact w6_τ17.trans W6 | omega
        have W7 : τ17.1 7 = σ.1 7 := by first | exact w7_τ17.trans W7 | omega
        have W13 : τ17.1 13 = σ.1 13 := by first | exact w13_τ17.trans W13 | omega
        have W14 : τ17.1 14 = σ.1 14 := by first | exact w14_τ17.trans W14 | omega
        have W15 : τ17.1 15 = σ.1 15 := by first | exact w15_τ17.trans W15 | omega
        have W45 : τ17.1 45 = σ.1 45 := by first | exact w45_τ17.trans W45 | omega
        have W48 : τ17.1 48 = σ.1 48 := by first | exact w48_τ17.trans W48 | omega
        have W50 : τ17.1 50 = σ.1 50 := by first | exact w50_τ17.trans W50 | omega
        have W51 : τ17.1 51 = σ.1 51 := by first | exact w51_τ17.trans W51 | omega
        have W52 : τ17.1 52 = σ.1 52 := by first | exact w52_τ17.trans W52 | omega
        have G10 : τ17.2.1 10 = σ.2.1 10 := (g10_τ17).trans G10
        have G11 : τ17.2.1 11 = σ.2.1 11 := (g11_τ17).trans G11
        have G13 : τ17.2.1 13 = σ.2.1 13 := (g13_τ17).trans G13
        have G14 : τ17.2.1 14 = σ.2.1 14 := (g14_τ17).trans G14
        have G15 : τ17.2.1 15 = σ.2.1 15 := (g15_τ17).trans G15
        have G16 : τ17.2.1 16 = σ.2.1 16 := (g16_τ17).trans G16
        have G27 : τ17.2.1 27 = σ.2.1 27 := (g27_τ17).trans G27
        have G28 : τ17.2.1 28 = σ.2.1 28 := (g28_τ17).trans G28
        have G29 : τ17.2.1 29 = σ.2.1 29 := (g29_τ17).trans G29
        have G30 : τ17.2.1 30 = σ.2.1 30 := (g30_τ17).trans G30
        have G31 : τ17.2.1 31 = σ.2.1 31 := (g31_τ17).trans G31
        have G32 : τ17.2.1 32 = σ.2.1 32 := (g32_τ17).trans G32
        have G33 : τ17.2.1 33 = σ.2.1 33 := (g33_τ17).trans G33
        have G34 : τ17.2.1 34 = σ.2.1 34 := (g34_τ17).trans G34
        have G35 : τ17.2.1 35 = σ.2.1 35 := (g35_τ17).trans G35
        have G36 : τ17.2.1 36 = σ.2.1 36 := (g36_τ17).trans G36
        have G37 : τ17.2.1 37 = σ.2.1 37 := (g37_τ17).trans G37
        have G69 : τ17.2.1 69 = σ.2.1 69 := (g69_τ17).trans G69
        have G70 : τ17.2.1 70 = σ.2.1 70 := (g70_τ17).trans G70
        have G77 : τ17.2.1 77 = σ.2.1 77 := (g77_τ17).trans G77
        have G78 : τ17.2.1 78 = σ.2.1 78 := (g78_τ17).trans G78
        have y78_53_τ17 : τ17.2.1 78 (τ17.1 53) = (τ_57.2.1 78) u1_57 := by rw [g78_τ17, w53_τ17]
        have TX : J_vs (τ17.1 6) (τ17.1 5) (τ17.2.1 15) := by rw [show (J_vs (τ17.1 6) (τ17.1 5) (τ17.2.1 15)) = (J_vs (τ_57.1 6) (τ_57.1 5) (τ_57.2.1 15)) from by rw [w5_τ17, w6_τ17, g15_τ17]]; exact TX
        have RKS : J_rks (τ17.1 5) (τ17.1 4) (τ17.2.1 10) (τ17.2.1 11) := by rw [show (J_rks (τ17.1 5) (τ17.1 4) (τ17.2.1 10) (τ17.2.1 11)) = (J_rks (τ_57.1 5) (τ_57.1 4) (τ_57.2.1 10) (τ_57.2.1 11)) from by rw [w4_τ17, w5_τ17, g10_τ17, g11_τ17]]; exact RKS
        have CJ : J_all (τ17.1 7) (τ17.1 6) (τ17.1 13) (τ17.1 14) (τ17.1 15) (τ17.2.1 13) (τ17.2.1 14) (τ17.2.1 15) (τ17.2.1 16) (τ17.2.1 10) (τ17.2.1 27) (τ17.2.1 28) (τ17.2.1 29) (τ17.2.1 30) (τ17.2.1 31) (τ17.2.1 32) (τ17.2.1 33) (τ17.2.1 34) (τ17.2.1 35) (τ17.2.1 36) (τ17.2.1 37) := by rw [show (J_all (τ17.1 7) (τ17.1 6) (τ17.1 13) (τ17.1 14) (τ17.1 15) (τ17.2.1 13) (τ17.2.1 14) (τ17.2.1 15) (τ17.2.1 16) (τ17.2.1 10) (τ17.2.1 27) (τ17.2.1 28) (τ17.2.1 29) (τ17.2.1 30) (τ17.2.1 31) (τ17.2.1 32) (τ17.2.1 33) (τ17.2.1 34) (τ17.2.1 35) (τ17.2.1 36) (τ17.2.1 37)) = (J_all (τ_57.1 7) (τ_57.1 6) (τ_57.1 13) (τ_57.1 14) (τ_57.1 15) (τ_57.2.1 13) (τ_57.2.1 14) (τ_57.2.1 15) (τ_57.2.1 16) (τ_57.2.1 10) (τ_57.2.1 27) (τ_57.2.1 28) (τ_57.2.1 29) (τ_57.2.1 30) (τ_57.2.1 31) (τ_57.2.1 32) (τ_57.2.1 33) (τ_57.2.1 34) (τ_57.2.1 35) (τ_57.2.1 36) (τ_57.2.1 37)) from by rw [w6_τ17, w7_τ17, w13_τ17, w14_τ17, w15_τ17, g10_τ17, g13_τ17, g14_τ17, g15_τ17, g16_τ17, g27_τ17, g28_τ17, g29_τ17, g30_τ17, g31_τ17, g32_τ17, g33_τ17, g34_τ17, g35_τ17, g36_τ17, g37_τ17]]; exact CJ
        have A10 : ∀ j, (-1) ≤ τ17.2.1 10 j ∧ τ17.2.1 10 j ≤ 99 := fun j => hT.2 10 j
        have A11 : ∀ j, 0 ≤ τ17.2.1 11 j ∧ τ17.2.1 11 j ≤ 999 := fun j => hT.2 11 j
        have A13 : ∀ j, 0 ≤ τ17.2.1 13 j ∧ τ17.2.1 13 j ≤ 4 := fun j => hT.2 13 j
        have A14 : ∀ j, 0 ≤ τ17.2.1 14 j ∧ τ17.2.1 14 j ≤ 30000 := fun j => hT.2 14 j
        have A15 : ∀ j, 0 ≤ τ17.2.1 15 j ∧ τ17.2.1 15 j ≤ 999 := fun j => hT.2 15 j
        have A16 : ∀ j, (-1) ≤ τ17.2.1 16 j ∧ τ17.2.1 16 j ≤ 1499 := fun j => hT.2 16 j
        have A27 : ∀ j, 0 ≤ τ17.2.1 27 j ∧ τ17.2.1 27 j ≤ 90000 := fun j => hT.2 27 j
        have A28 : ∀ j, 0 ≤ τ17.2.1 28 j ∧ τ17.2.1 28 j ≤ 60 := fun j => hT.2 28 j
        have A29 : ∀ j, 0 ≤ τ17.2.1 29 j ∧ τ17.2.1 29 j ≤ 1499 := fun j => hT.2 29 j
        have A30 : ∀ j, 0 ≤ τ17.2.1 30 j ∧ τ17.2.1 30 j ≤ 20000 := fun j => hT.2 30 j
        have A31 : ∀ j, 0 ≤ τ17.2.1 31 j ∧ τ17.2.1 31 j ≤ 20000 := fun j => hT.2 31 j
        have A32 : ∀ j, 0 ≤ τ17.2.1 32 j ∧ τ17.2.1 32 j ≤ 999999 := fun j => hT.2 32 j
        have A33 : ∀ j, 0 ≤ τ17.2.1 33 j ∧ τ17.2.1 33 j ≤ 20000 := fun j => hT.2 33 j
        have A34 : ∀ j, 0 ≤ τ17.2.1 34 j ∧ τ17.2.1 34 j ≤ 20000 := fun j => hT.2 34 j
        have A35 : ∀ j, 0 ≤ τ17.2.1 35 j ∧ τ17.2.1 35 j ≤ 1499 := fun j => hT.2 35 j
        have A36 : ∀ j, 0 ≤ τ17.2.1 36 j ∧ τ17.2.1 36 j ≤ 20000 := fun j => hT.2 36 j
        have A37 : ∀ j, 0 ≤ τ17.2.1 37 j ∧ τ17.2.1 37 j ≤ 19999 := fun j => hT.2 37 j
        have A69 : ∀ j, (-100) ≤ τ17.2.1 69 j ∧ τ17.2.1 69 j ≤ 999 := fun j => hT.2 69 j
        have A70 : ∀ j, 0 ≤ τ17.2.1 70 j ∧ τ17.2.1 70 j ≤ 1499 := fun j => hT.2 70 j
        have A77 : ∀ j, 0 ≤ τ17.2.1 77 j ∧ τ17.2.1 77 j ≤ 999 := fun j => hT.2 77 j
        have A78 : ∀ j, (-1) ≤ τ17.2.1 78 j ∧ τ17.2.1 78 j ≤ 1499 := fun j => hT.2 78 j
        have A79 : ∀ j, 0 ≤ τ17.2.1 79 j ∧ τ17.2.1 79 j ≤ 1499 := fun j => hT.2 79 j
        have v4 : 0 ≤ τ17.1 4 ∧ τ17.1 4 ≤ 100 := hT.1 4
        have v5 : 0 ≤ τ17.1 5 ∧ τ17.1 5 ≤ 1000 := hT.1 5
        have v6 : 0 ≤ τ17.1 6 ∧ τ17.1 6 ≤ 30000 := hT.1 6
        have v7 : 0 ≤ τ17.1 7 ∧ τ17.1 7 ≤ 1500 := hT.1 7
        have v13 : 0 ≤ τ17.1 13 ∧ τ17.1 13 ≤ 90000 := hT.1 13
        have v14 : 0 ≤ τ17.1 14 ∧ τ17.1 14 ≤ 20000 := hT.1 14
        have v15 : 0 ≤ τ17.1 15 ∧ τ17.1 15 ≤ 20000 := hT.1 15
        have v45 : 1 ≤ τ17.1 45 ∧ τ17.1 45 ≤ 30001 := hT.1 45
        have v48 : (-1) ≤ τ17.1 48 ∧ τ17.1 48 ≤ 999 := hT.1 48
        have v50 : 0 ≤ τ17.1 50 ∧ τ17.1 50 ≤ 59 := hT.1 50
        have v51 : 0 ≤ τ17.1 51 ∧ τ17.1 51 ≤ 1500 := hT.1 51
        have v52 : (-1) ≤ τ17.1 52 ∧ τ17.1 52 ≤ 99 := hT.1 52
        have v53 : 0 ≤ τ17.1 53 ∧ τ17.1 53 ≤ 58 := hT.1 53
        have a78_53 : (-1) ≤ τ17.2.1 78 (τ17.1 53) ∧ τ17.2.1 78 (τ17.1 53) ≤ 1499 := hT.2 78 _
        have rs17 := c_Rs_h (show c_Rs (s_v τ_57 53 u1_57) par nof In from i57_3) hf_τ17 rfl
        rw [y45, y50, y4, y51, y48, f77, f69, f70, f14, f15, f10, f78] at q15_3
        rw [y45, y50, y51, y48, f77, f69, f70, f14, f15, f10, f78] at q15_5
        refine ⟨(⟨by (first | omega | (simp only [st_s] <;> omega) | assumption | omega | fail), by (first | omega | (simp only [st_s] <;> omega) | assumption | omega | fail)⟩ : rg (u1_57 + (-1))), ?_⟩
        exact ih_57 _ _ (show (61 + (u1_57 + (-1)) : Int) < ((m_57 : Nat) : Int) from by ((first | omega | (simp only [st_s] <;> omega) | assumption | omega | fail))) hT (show τ17.1 4 = σ.1 4 from by first | exact W4 | omega) (show τ17.1 5 = σ.1 5 from by first | exact W5 | omega) (show τ17.1 6 = σ.1 6 from by first | exact W6 | omega) (show τ17.1 7 = σ.1 7 from by first | exact W7 | omega) (show τ17.1 13 = σ.1 13 from by first | exact W13 | omega) (show τ17.1 14 = σ.1 14 from by first | exact W14 | omega) (show τ17.1 15 = σ.1 15 from by first | exact W15 | omega) (show τ17.1 45 = σ.1 45 from by first | exact W45 | omega) (show τ17.1 48 = σ.1 48 from by first | exact W48 | omega) (show τ17.1 50 = σ.1 50 from by first | exact W50 | omega) (show τ17.1 51 = σ.1 51 from by first | exact W51 | omega) (show τ17.1 52 = σ.1 52 from by first | exact W52 | omega) G10 G11 G13 G14 G15 G16 G27 G28 G29 G30 G31 G32 G33 G34 G35 G36 G37 G69 G70 G77 G78 (show -1 ≤ (u1_57 + (-1)) ∧ (u1_57 + (-1)) < (σ.1 50) from by (first | omega | (simp only [st_s] <;> omega) | assumption | omega | fail)) (show ∀ i : Int, (u1_57 + (-1)) < i → i < (σ.1 50) → g_ok (σ.1 45) (σ.1 50) (σ.1 4) (σ.1 51) i (σ.2.1 77) (σ.2.1 69) par (σ.2.1 70) nof (g_so (σ.1 48) (σ.2.1 14) (σ.2.1 15) (σ.2.1 10)) (σ.2.1 78) In (τ17.2.2 4) (τ17.2.2 5) (τ17.2.1 79) from by (first | (intro i a b; exfalso; omega) | (intro i a b; by_cases z : i = u1_57; (rw [z]; exact q15_3); exact g_ok_m (okb i (by omega) b) (fun s j e c d f g => q15_1 s j e (by omega) d f g (by show j ≠ u1_57; omega)) (fun s e c d => q15_2 s i e (by omega) c d (by show i ≠ u1_57; omega)) (by omega) (by omega) (by omega)) | fail)) (show c_Rs τ17 par nof In from by (first | exact i19_3 | exact rs17 | fail)) (show g_wu (σ.1 50) (σ.2.1 77) (τ17.2.2 3) from by (first | (rw [show σ.1 50 = u1_19 from by omega]; exact i19_2) | (rw [q15_4]; exact i57_4) | fail)) (show 0 ≤ (σ.1 52) ∧ 0 < (σ.1 50) from by (first | omega | (simp only [st_s] <;> omega) | assumption | omega | fail)) (show ∀ i : Int, (u1_57 + (-1)) < i → i < (σ.1 50) → g_uq (σ.1 45) (σ.1 50) (σ.1 51) i (0 ≤ σ.2.1 78 i ∧ ¬ σ.2.1 15 (σ.2.1 14 (σ.2.1 78 i)) = (σ.1 48)) (σ.2.1 77) (σ.2.1 69) par (σ.2.1 70) nof (g_so (σ.1 48) (σ.2.1 14) (σ.2.1 15) (σ.2.1 10)) (σ.2.1 78) In (τ17.2.2 4) (τ17.2.2 5) (τ17.2.1 79) from by (first | (intro i a b; exfalso; omega) | (intro i a b; by_cases z : i = u1_57; (rw [z]; exact q15_5); exact g_uq_m (uqb i (by omega) b) (fun s j e c d f g => q15_1 s j e (by omega) d f g (by show j ≠ u1_57; omega)) (fun s e c d => q15_2 s i e (by omega) c d (by show i ≠ u1_57; omega)) (by omega) (by omega) (by omega)) | fail))
  have l_19 : ∀ (m_19 : Nat) (u1_19 : Int) (τ_19 : S0), 61 - u1_19 < (m_19 : Int) → (c_T τ_19) → (τ_19.1 4 = σ.1 4) → (τ_19.1 5 = σ.1 5) → (τ_19.1 6 = σ.1 6) → (τ_19.1 7 = σ.1 7) → (τ_19.1 13 = σ.1 13) → (τ_19.1 14 = σ.1 14) → (τ_19.1 15 = σ.1 15) → (τ_19.1 45 = σ.1 45) → (τ_19.1 48 = σ.1 48) → (τ_19.1 50 = σ.1 50) → (τ_19.1 51 = σ.1 51) → (τ_19.1 52 = σ.1 52) → (τ_19.2.1 10 = σ.2.1 10) → (τ_19.2.1 11 = σ.2.1 11) → (τ_19.2.1 13 = σ.2.1 13) → (τ_19.2.1 14 = σ.2.1 14) → (τ_19.2.1 15 = σ.2.1 15) → (τ_19.2.1 16 = σ.2.1 16) → (τ_19.2.1 27 = σ.2.1 27) → (τ_19.2.1 28 = σ.2.1 28) → (τ_19.2.1 29 = σ.2.1 29) → (τ_19.2.1 30 = σ.2.1 30) → (τ_19.2.1 31 = σ.2.1 31) → (τ_19.2.1 32 = σ.2.1 32) → (τ_19.2.1 33 = σ.2.1 33) → (τ_19.2.1 34 = σ.2.1 34) → (τ_19.2.1 35 = σ.2.1 35) → (τ_19.2.1 36 = σ.2.1 36) → (τ_19.2.1 37 = σ.2.1 37) → (τ_19.2.1 69 = σ.2.1 69) → (τ_19.2.1 70 = σ.2.1 70) → (τ_19.2.1 77 = σ.2.1 77) → (τ_19.2.1 78 = σ.2.1 78) → (0 ≤ u1_19 ∧ u1_19 ≤ (σ.1 50)) → (g_wu u1_19 (σ.2.1 77) (τ_19.2.2 3)) → (c_Rs τ_19 par nof In) → (0 ≤ (σ.1 52) ∧ 0 < (σ.1 50)) → P19 u1_19 τ_19 := by
    intro m_19
    induction m_19 with
    | zero =>
      intro u1_19 τ_19 hm hT W4 W5 W6 W7 W13 W14 W15 W45 W48 W50 W51 W52 G10 G11 G13 G14 G15 G16 G27 G28 G29 G30 G31 G32 G33 G34 G35 G36 G37 G69 G70 G77 G78 i19_1 i19_2 i19_3 i19_4
      have A10 : ∀ j, (-1) ≤ τ_19.2.1 10 j ∧ τ_19.2.1 10 j ≤ 99 := fun j => hT.2 10 j
      have A11 : ∀ j, 0 ≤ τ_19.2.1 11 j ∧ τ_19.2.1 11 j ≤ 999 := fun j => hT.2 11 j
      have A13 : ∀ j, 0 ≤ τ_19.2.1 13 j ∧ τ_19.2.1 13 j ≤ 4 := fun j => hT.2 13 j
      have A14 : ∀ j, 0 ≤ τ_19.2.1 14 j ∧ τ_19.2.1 14 j ≤ 30000 := fun j => hT.2 14 j
      have A15 : ∀ j, 0 ≤ τ_19.2.1 15 j ∧ τ_19.2.1 15 j ≤ 999 := fun j => hT.2 15 j
      have A16 : ∀ j, (-1) ≤ τ_19.2.1 16 j ∧ τ_19.2.1 16 j ≤ 1499 := fun j => hT.2 16 j
      have A27 : ∀ j, 0 ≤ τ_19.2.1 27 j ∧ τ_19.2.1 27 j ≤ 90000 := fun j => hT.2 27 j
      have A28 : ∀ j, 0 ≤ τ_19.2.1 28 j ∧ τ_19.2.1 28 j ≤ 60 := fun j => hT.2 28 j
      have A29 : ∀ j, 0 ≤ τ_19.2.1 29 j ∧ τ_19.2.1 29 j ≤ 1499 := fun j => hT.2 29 j
      have A30 : ∀ j, 0 ≤ τ_19.2.1 30 j ∧ τ_19.2.1 30 j ≤ 20000 := fun j => hT.2 30 j
      have A31 : ∀ j, 0 ≤ τ_19.2.1 31 j ∧ τ_19.2.1 31 j ≤ 20000 := fun j => hT.2 31 j
      have A32 : ∀ j, 0 ≤ τ_19.2.1 32 j ∧ τ_19.2.1 32 j ≤ 999999 := fun j => hT.2 32 j
      have A33 : ∀ j, 0 ≤ τ_19.2.1 33 j ∧ τ_19.2.1 33 j ≤ 20000 := fun j => hT.2 33 j
      have A34 : ∀ j, 0 ≤ τ_19.2.1 34 j ∧ τ_19.2.1 34 j ≤ 20000 := fun j => hT.2 34 j
      have A35 : ∀ j, 0 ≤ τ_19.2.1 35 j ∧ τ_19.2.1 35 j ≤ 1499 := fun j => hT.2 35 j
      have A36 : ∀ j, 0 ≤ τ_19.2.1 36 j ∧ τ_19.2.1 36 j ≤ 20000 := fun j => hT.2 36 j
      have A37 : ∀ j, 0 ≤ τ_19.2.1 37 j ∧ τ_19.2.1 37 j ≤ 19999 := fun j => hT.2 37 j
      have A69 : ∀ j, (-100) ≤ τ_19.2.1 69 j ∧ τ_19.2.1 69 j ≤ 999 := fun j => hT.2 69 j
      have A70 : ∀ j, 0 ≤ τ_19.2.1 70 j ∧ τ_19.2.1 70 j ≤ 1499 := fun j => hT.2 70 j
      have A77 : ∀ j, 0 ≤ τ_19.2.1 77 j ∧ τ_19.2.1 77 j ≤ 999 := fun j => hT.2 77 j
      have A78 : ∀ j, (-1) ≤ τ_19.2.1 78 j ∧ τ_19.2.1 78 j ≤ 1499 := fun j => hT.2 78 j
      have A79 : ∀ j, 0 ≤ τ_19.2.1 79 j ∧ τ_19.2.1 79 j ≤ 1499 := fun j => hT.2 79 j
      have v4 : 0 ≤ τ_19.1 4 ∧ τ_19.1 4 ≤ 100 := hT.1 4
      have v5 : 0 ≤ τ_19.1 5 ∧ τ_19.1 5 ≤ 1000 := hT.1 5
      have v6 : 0 ≤ τ_19.1 6 ∧ τ_19.1 6 ≤ 30000 := hT.1 6
      have v7 : 0 ≤ τ_19.1 7 ∧ τ_19.1 7 ≤ 1500 := hT.1 7
      have v13 : 0 ≤ τ_19.1 13 ∧ τ_19.1 13 ≤ 90000 := hT.1 13
      have v14 : 0 ≤ τ_19.1 14 ∧ τ_19.1 14 ≤ 20000 := hT.1 14
      have v15 : 0 ≤ τ_19.1 15 ∧ τ_19.1 15 ≤ 20000 := hT.1 15
      have v45 : 1 ≤ τ_19.1 45 ∧ τ_19.1 45 ≤ 30001 := hT.1 45
      have v48 : (-1) ≤ τ_19.1 48 ∧ τ_19.1 48 ≤ 999 := hT.1 48
      have v50 : 0 ≤ τ_19.1 50 ∧ τ_19.1 50 ≤ 59 := hT.1 50
      have v51 : 0 ≤ τ_19.1 51 ∧ τ_19.1 51 ≤ 1500 := hT.1 51
      have v52 : (-1) ≤ τ_19.1 52 ∧ τ_19.1 52 ≤ 99 := hT.1 52
      have v53 : 0 ≤ τ_19.1 53 ∧ τ_19.1 53 ≤ 58 := hT.1 53
      have a78_53 : (-1) ≤ τ_19.2.1 78 (τ_19.1 53) ∧ τ_19.2.1 78 (τ_19.1 53) ≤ 1499 := hT.2 78 _
      exfalso; (first | omega | (simp only [st_s] <;> omega) | assumption | omega | fail)
    | succ m_19 ih_19 =>
      intro u1_19 τ_19 hm_19 hT W4 W5 W6 W7 W13 W14 W15 W45 W48 W50 W51 W52 G10 G11 G13 G14 G15 G16 G27 G28 G29 G30 G31 G32 G33 G34 G35 G36 G37 G69 G70 G77 G78 i19_1 i19_2 i19_3 i19_4
      have A10 : ∀ j, (-1) ≤ τ_19.2.1 10 j ∧ τ_19.2.1 10 j ≤ 99 := fun j => hT.2 10 j
      have A11 : ∀ j, 0 ≤ τ_19.2.1 11 j ∧ τ_19.2.1 11 j ≤ 999 := fun j => hT.2 11 j
      have A13 : ∀ j, 0 ≤ τ_19.2.1 13 j ∧ τ_19.2.1 13 j ≤ 4 := fun j => hT.2 13 j
      have A14 : ∀ j, 0 ≤ τ_19.2.1 14 j ∧ τ_19.2.1 14 j ≤ 30000 := fun j => hT.2 14 j
      have A15 : ∀ j, 0 ≤ τ_19.2.1 15 j ∧ τ_19.2.1 15 j ≤ 999 := fun j => hT.2 15 j
      have A16 : ∀ j, (-1) ≤ τ_19.2.1 16 j ∧ τ_19.2.1 16 j ≤ 1499 := fun j => hT.2 16 j
      have A27 : ∀ j, 0 ≤ τ_19.2.1 27 j ∧ τ_19.2.1 27 j ≤ 90000 := fun j => hT.2 27 j
      have A28 : ∀ j, 0 ≤ τ_19.2.1 28 j ∧ τ_19.2.1 28 j ≤ 60 := fun j => hT.2 28 j
      have A29 : ∀ j, 0 ≤ τ_19.2.1 29 j ∧ τ_19.2.1 29 j ≤ 1499 := fun j => hT.2 29 j
      have A30 : ∀ j, 0 ≤ τ_19.2.1 30 j ∧ τ_19.2.1 30 j ≤ 20000 := fun j => hT.2 30 j
      have A31 : ∀ j, 0 ≤ τ_19.2.1 31 j ∧ τ_19.2.1 31 j ≤ 20000 := fun j => hT.2 31 j
      have A32 : ∀ j, 0 ≤ τ_19.2.1 32 j ∧ τ_19.2.1 32 j ≤ 999999 := fun j => hT.2 32 j
      have A33 : ∀ j, 0 ≤ τ_19.2.1 33 j ∧ τ_19.2.1 33 j ≤ 20000 := fun j => hT.2 33 j
      have A34 : ∀ j, 0 ≤ τ_19.2.1 34 j ∧ τ_19.2.1 34 j ≤ 20000 := fun j => hT.2 34 j
      have A35 : ∀ j, 0 ≤ τ_19.2.1 35 j ∧ τ_19.2.1 35 j ≤ 1499 := fun j => hT.2 35 j
      have A36 : ∀ j, 0 ≤ τ_19.2.1 36 j ∧ τ_19.2.1 36 j ≤ 20000 := fun j => hT.2 36 j
      have A37 : ∀ j, 0 ≤ τ_19.2.1 37 j ∧ τ_19.2.1 37 j ≤ 19999 := fun j => hT.2 37 j
      have A69 : ∀ j, (-100) ≤ τ_19.2.1 69 j ∧ τ_19.2.1 69 j ≤ 999 := fun j => hT.2 69 j
      have A70 : ∀ j, 0 ≤ τ_19.2.1 70 j ∧ τ_19.2.1 70 j ≤ 1499 := fun j => hT.2 70 j
      have A77 : ∀ j, 0 ≤ τ_19.2.1 77 j ∧ τ_19.2.1 77 j ≤ 999 := fun j => hT.2 77 j
      have A78 : ∀ j, (-1) ≤ τ_19.2.1 78 j ∧ τ_19.2.1 78 j ≤ 1499 := fun j => hT.2 78 j
      have A79 : ∀ j, 0 ≤ τ_19.2.1 79 j ∧ τ_19.2.1 79 j ≤ 1499 := fun j => hT.2 79 j
      have v4 : 0 ≤ τ_19.1 4 ∧ τ_19.1 4 ≤ 100 := hT.1 4
      have v5 : 0 ≤ τ_19.1 5 ∧ τ_19.1 5 ≤ 1000 := hT.1 5
      have v6 : 0 ≤ τ_19.1 6 ∧ τ_19.1 6 ≤ 30000 := hT.1 6
      have v7 : 0 ≤ τ_19.1 7 ∧ τ_19.1 7 ≤ 1500 := hT.1 7
      have v13 : 0 ≤ τ_19.1 13 ∧ τ_19.1 13 ≤ 90000 := hT.1 13
      have v14 : 0 ≤ τ_19.1 14 ∧ τ_19.1 14 ≤ 20000 := hT.1 14
      have v15 : 0 ≤ τ_19.1 15 ∧ τ_19.1 15 ≤ 20000 := hT.1 15
      have v45 : 1 ≤ τ_19.1 45 ∧ τ_19.1 45 ≤ 30001 := hT.1 45
      have v48 : (-1) ≤ τ_19.1 48 ∧ τ_19.1 48 ≤ 999 := hT.1 48
      have v50 : 0 ≤ τ_19.1 50 ∧ τ_19.1 50 ≤ 59 := hT.1 50
      have v51 : 0 ≤ τ_19.1 51 ∧ τ_19.1 51 ≤ 1500 := hT.1 51
      have v52 : (-1) ≤ τ_19.1 52 ∧ τ_19.1 52 ≤ 99 := hT.1 52
      have v53 : 0 ≤ τ_19.1 53 ∧ τ_19.1 53 ≤ 58 := hT.1 53
      have a78_53 : (-1) ≤ τ_19.2.1 78 (τ_19.1 53) ∧ τ_19.2.1 78 (τ_19.1 53) ≤ 1499 := hT.2 78 _
      have TX : J_vs (τ_19.1 6) (τ_19.1 5) (τ_19.2.1 15) := by rw [show (J_vs (τ_19.1 6) (τ_19.1 5) (τ_19.2.1 15)) = (J_vs (σ.1 6) (σ.1 5) (σ.2.1 15)) from by rw [W5, W6, G15]]; exact TX_0
      have RKS : J_rks (τ_19.1 5) (τ_19.1 4) (τ_19.2.1 10) (τ_19.2.1 11) := by rw [show (J_rks (τ_19.1 5) (τ_19.1 4) (τ_19.2.1 10) (τ_19.2.1 11)) = (J_rks (σ.1 5) (σ.1 4) (σ.2.1 10) (σ.2.1 11)) from by rw [W4, W5, G10, G11]]; exact RKS_0
      have CJ : J_all (τ_19.1 7) (τ_19.1 6) (τ_19.1 13) (τ_19.1 14) (τ_19.1 15) (τ_19.2.1 13) (τ_19.2.1 14) (τ_19.2.1 15) (τ_19.2.1 16) (τ_19.2.1 10) (τ_19.2.1 27) (τ_19.2.1 28) (τ_19.2.1 29) (τ_19.2.1 30) (τ_19.2.1 31) (τ_19.2.1 32) (τ_19.2.1 33) (τ_19.2.1 34) (τ_19.2.1 35) (τ_19.2.1 36) (τ_19.2.1 37) := by rw [show (J_all (τ_19.1 7) (τ_19.1 6) (τ_19.1 13) (τ_19.1 14) (τ_19.1 15) (τ_19.2.1 13) (τ_19.2.1 14) (τ_19.2.1 15) (τ_19.2.1 16) (τ_19.2.1 10) (τ_19.2.1 27) (τ_19.2.1 28) (τ_19.2.1 29) (τ_19.2.1 30) (τ_19.2.1 31) (τ_19.2.1 32) (τ_19.2.1 33) (τ_19.2.1 34) (τ_19.2.1 35) (τ_19.2.1 36) (τ_19.2.1 37)) = (J_all (σ.1 7) (σ.1 6) (σ.1 13) (σ.1 14) (σ.1 15) (σ.2.1 13) (σ.2.1 14) (σ.2.1 15) (σ.2.1 16) (σ.2.1 10) (σ.2.1 27) (σ.2.1 28) (σ.2.1 29) (σ.2.1 30) (σ.2.1 31) (σ.2.1 32) (σ.2.1 33) (σ.2.1 34) (σ.2.1 35) (σ.2.1 36) (σ.2.1 37)) from by rw [W6, W7, W13, W14, W15, G10, G13, G14, G15, G16, G27, G28, G29, G30, G31, G32, G33, G34, G35, G36, G37]]; exact CJ_0
      refine h19 u1_19 τ_19 ?_
      refine ⟨fun c3 => ?_, fun c3 => ?_⟩
      ·
        refine ⟨(⟨by (first | omega | (simp only [st_s] <;> omega) | assumption | omega | fail), by (first | omega | (simp only [st_s] <;> omega) | assumption | omega | fail)⟩ : rg (τ_19.1 50 - 1)), ?_⟩
        exact l_57 ((61 + (τ_19.1 50 - 1) : Int).toNat + 1) _ _ (show (61 + (τ_19.1 50 - 1) : Int) < (((61 + (τ_19.1 50 - 1) : Int).toNat + 1 : Nat) : Int) from by ((first | omega | (simp only [st_s] <;> omega) | assumption | omega | fail))) hT (show τ_19.1 4 = σ.1 4 from by first | exact W4 | omega) (show τ_19.1 5 = σ.1 5 from by first | exact W5 | omega) (show τ_19.1 6 = σ.1 6 from by first | exact W6 | omega) (show τ_19.1 7 = σ.1 7 from by first | exact W7 | omega) (show τ_19.1 13 = σ.1 13 from by first | exact W13 | omega) (show τ_19.1 14 = σ.1 14 from by first | exact W14 | omega) (show τ_19.1 15 = σ.1 15 from by first | exact W15 | omega) (show τ_19.1 45 = σ.1 45 from by first | exact W45 | omega) (show τ_19.1 48 = σ.1 48 from by first | exact W48 | omega) (show τ_19.1 50 = σ.1 50 from by first | exact W50 | omega) (show τ_19.1 51 = σ.1 51 from by first | exact W51 | omega) (show τ_19.1 52 = σ.1 52 from by first | exact W52 | omega) G10 G11 G13 G14 G15 G16 G27 G28 G29 G30 G31 G32 G33 G34 G35 G36 G37 G69 G70 G77 G78 (show -1 ≤ (τ_19.1 50 - 1) ∧ (τ_19.1 50 - 1) < (σ.1 50) from by (first | omega | (simp only [st_s] <;> omega) | assumption | omega | fail)) (show ∀ i : Int, (τ_19.1 50 - 1) < i → i < (σ.1 50) → g_ok (σ.1 45) (σ.1 50) (σ.1 4) (σ.1 51) i (σ.2.1 77) (σ.2.1 69) par (σ.2.1 70) nof (g_so (σ.1 48) (σ.2.1 14) (σ.2.1 15) (σ.2.1 10)) (σ.2.1 78) In (τ_19.2.2 4) (τ_19.2.2 5) (τ_19.2.1 79) from by (first | (intro i a b; exfalso; omega) | (intro i a b; by_cases z : i = u1_57; (rw [z]; exact q15_3); exact g_ok_m (okb i (by omega) b) (fun s j e c d f g => q15_1 s j e (by omega) d f g (by show j ≠ u1_57; omega)) (fun s e c d => q15_2 s i e (by omega) c d (by show i ≠ u1_57; omega)) (by omega) (by omega) (by omega)) | fail)) (show c_Rs τ_19 par nof In from by (first | exact i19_3 | exact rs17 | fail)) (show g_wu (σ.1 50) (σ.2.1 77) (τ_19.2.2 3) from by (first | (rw [show σ.1 50 = u1_19 from by omega]; exact i19_2) | (rw [q15_4]; exact i57_4) | fail)) (show 0 ≤ (σ.1 52) ∧ 0 < (σ.1 50) from by (first | omega | (simp only [st_s] <;> omega) | assumption | omega | fail)) (show ∀ i : Int, (τ_19.1 50 - 1) < i → i < (σ.1 50) → g_uq (σ.1 45) (σ.1 50) (σ.1 51) i (0 ≤ σ.2.1 78 i ∧ ¬ σ.2.1 15 (σ.2.1 14 (σ.2.1 78 i)) = (σ.1 48)) (σ.2.1 77) (σ.2.1 69) par (σ.2.1 70) nof (g_so (σ.1 48) (σ.2.1 14) (σ.2.1 15) (σ.2.1 10)) (σ.2.1 78) In (τ_19.2.2 4) (τ_19.2.2 5) (τ_19.2.1 79) from by (first | (intro i a b; exfalso; omega) | (intro i a b; by_cases z : i = u1_57; (rw [z]; exact q15_5); exact g_uq_m (uqb i (by omega) b) (fun s j e c d f g => q15_1 s j e (by omega) d f g (by show j ≠ u1_57; omega)) (fun s e c d => q15_2 s i e (by omega) c d (by show i ≠ u1_57; omega)) (by omega) (by omega) (by omega)) | fail))
      ·
        refine ⟨(show 0 ≤ u1_19 ∧ u1_19 < 60 from by (first | omega | (simp only [st_s] <;> omega) | assumption | omega | fail)), ?_⟩
        intro x6 r_x6 e_x6
        have b_x6 : 0 ≤ x6 ∧ x6 ≤ 999 := by rw [e_x6]; exact hT.2 77 _
        rw [G77] at e_x6
        refine ⟨(show 0 ≤ x6 ∧ x6 < 1000 from by (first | omega | (simp only [st_s] <;> omega) | assumption | omega | fail)), ?_⟩
        intro x8 e_x8
        replace hT := cT_b (k := 3) (j := x6) (x := (x8 ||| (j_shl 1 u1_19))) hT
        refine ⟨(⟨by (first | omega | (simp only [st_s] <;> omega) | assumption | omega | fail), by (first | omega | (simp only [st_s] <;> omega) | assumption | omega | fail)⟩ : rg (u1_19 + 1)), ?_⟩
        exact ih_19 _ _ (show (61 - (u1_19 + 1) : Int) < ((m_19 : Nat) : Int) from by ((first | omega | (simp only [st_s] <;> omega) | assumption | omega | fail))) hT (show τ_19.1 4 = σ.1 4 from by first | exact W4 | omega) (show τ_19.1 5 = σ.1 5 from by first | exact W5 | omega) (show τ_19.1 6 = σ.1 6 from by first | exact W6 | omega) (show τ_19.1 7 = σ.1 7 from by first | exact W7 | omega) (show τ_19.1 13 = σ.1 13 from by first | exact W13 | omega) (show τ_19.1 14 = σ.1 14 from by first | exact W14 | omega) (show τ_19.1 15 = σ.1 15 from by first | exact W15 | omega) (show τ_19.1 45 = σ.1 45 from by first | exact W45 | omega) (show τ_19.1 48 = σ.1 48 from by first | exact W48 | omega) (show τ_19.1 50 = σ.1 50 from by first | exact W50 | omega) (show τ_19.1 51 = σ.1 51 from by first | exact W51 | omega) (show τ_19.1 52 = σ.1 52 from by first | exact W52 | omega) G10 G11 G13 G14 G15 G16 G27 G28 G29 G30 G31 G32 G33 G34 G35 G36 G37 G69 G70 G77 G78 (show 0 ≤ (u1_19 + 1) ∧ (u1_19 + 1) ≤ (σ.1 50) from by (first | omega | (simp only [st_s] <;> omega) | assumption | omega | fail)) (show g_wu (u1_19 + 1) (σ.2.1 77) ((st (τ_19.2.2 3) x6 (x8 ||| (j_shl 1 u1_19)))) from by (first | exact g_wu0 p3 | exact g_wu_a i19_2 (by omega) (by omega) e_x6 (by rw [e_x8]) | fail)) (show c_Rs (s_b τ_19 3 x6 (x8 ||| (j_shl 1 u1_19))) par nof In from by (first | exact p2 | exact i19_3 | fail)) (show 0 ≤ (σ.1 52) ∧ 0 < (σ.1 50) from by (first | omega | (simp only [st_s] <;> omega) | assumption | omega | fail))
  refine ⟨fun c1 => ?_, fun c1 => ?_⟩
  ·
    exact ⟨hT, (show 0 ≤ 0 ∧ 0 ≤ 2 from by (first | omega | exact one.1 | fail)), (show ∀ s : Int, 0 ≤ s → s < 1000 → (∀ i : Int, 0 ≤ i → i < (σ.1 50) → σ.2.1 77 i ≠ s) → σ.2.2 3 s = 0 from by (first | (intro s a b _; exact p3 s a b) | (rw [W50, G77]; exact g_wz i57_4) | fail)), (show c_Rs σ par nof In from by (first | exact p2 | exact i57_3 | fail)), (show 0 = 1 → (∀ i : Int, 0 ≤ i → i < (σ.1 50) → g_ok (σ.1 45) (σ.1 50) (σ.1 4) (σ.1 51) i (σ.2.1 77) (σ.2.1 69) par (σ.2.1 70) nof (g_so (σ.1 48) (σ.2.1 14) (σ.2.1 15) (σ.2.1 10)) (σ.2.1 78) In (σ.2.2 4) (σ.2.2 5) (σ.2.1 79)) ∧ 0 ≤ (σ.1 52) ∧ 0 < (σ.1 50) ∧ g_H (σ.2.2 4) (σ.1 52) 0 (σ.1 50) ∧ ¬ g_H (σ.2.2 5) (σ.1 52) 0 (σ.1 50) ∧ g_wu (σ.1 50) (σ.2.1 77) (σ.2.2 3) from by (first | (intro z; exfalso; omega) | (intro z; exact ⟨fun i a b => i57_2 i (by omega) b, i57_5.1, by omega, (one.2 z).1, (one.2 z).2, i57_4⟩) | fail)), (show 0 = 1 → ∀ i : Int, 0 ≤ i → i < (σ.1 50) → g_uq (σ.1 45) (σ.1 50) (σ.1 51) i (0 ≤ σ.2.1 78 i ∧ ¬ σ.2.1 15 (σ.2.1 14 (σ.2.1 78 i)) = (σ.1 48)) (σ.2.1 77) (σ.2.1 69) par (σ.2.1 70) nof (g_so (σ.1 48) (σ.2.1 14) (σ.2.1 15) (σ.2.1 10)) (σ.2.1 78) In (σ.2.2 4) (σ.2.2 5) (σ.2.1 79) from by (first | (intro z; exfalso; omega) | exact fun _ i a b => i57_6 i (by omega) b | fail))⟩
  ·
    refine ⟨fun c2 => ?_, fun c2 => ?_⟩
    ·
      exact l_19 ((61 - 0 : Int).toNat + 1) _ _ (show (61 - 0 : Int) < (((61 - 0 : Int).toNat + 1 : Nat) : Int) from by ((first | omega | (simp only [st_s] <;> omega) | assumption | omega | fail))) hT (show σ.1 4 = σ.1 4 from by first | exact W4 | omega) (show σ.1 5 = σ.1 5 from by first | exact W5 | omega) (show σ.1 6 = σ.1 6 from by first | exact W6 | omega) (show σ.1 7 = σ.1 7 from by first | exact W7 | omega) (show σ.1 13 = σ.1 13 from by first | exact W13 | omega) (show σ.1 14 = σ.1 14 from by first | exact W14 | omega) (show σ.1 15 = σ.1 15 from by first | exact W15 | omega) (show σ.1 45 = σ.1 45 from by first | exact W45 | omega) (show σ.1 48 = σ.1 48 from by first | exact W48 | omega) (show σ.1 50 = σ.1 50 from by first | exact W50 | omega) (show σ.1 51 = σ.1 51 from by first | exact W51 | omega) (show σ.1 52 = σ.1 52 from by first | exact W52 | omega) G10 G11 G13 G14 G15 G16 G27 G28 G29 G30 G31 G32 G33 G34 G35 G36 G37 G69 G70 G77 G78 (show 0 ≤ 0 ∧ 0 ≤ (σ.1 50) from by (first | omega | (simp only [st_s] <;> omega) | assumption | omega | fail)) (show g_wu 0 (σ.2.1 77) (σ.2.2 3) from by (first | exact g_wu0 p3 | exact g_wu_a i19_2 (by omega) (by omega) e_x6 (by rw [e_x8]) | fail)) (show c_Rs σ par nof In from by (first | exact p2 | exact i19_3 | fail)) (show 0 ≤ (σ.1 52) ∧ 0 < (σ.1 50) from by (first | omega | (simp only [st_s] <;> omega) | assumption | omega | fail))
    ·
      exact ⟨hT, (show 0 ≤ 0 ∧ 0 ≤ 2 from by (first | omega | exact one.1 | fail)), (show ∀ s : Int, 0 ≤ s → s < 1000 → (∀ i : Int, 0 ≤ i → i < (σ.1 50) → σ.2.1 77 i ≠ s) → σ.2.2 3 s = 0 from by (first | (intro s a b _; exact p3 s a b) | (rw [W50, G77]; exact g_wz i57_4) | fail)), (show c_Rs σ par nof In from by (first | exact p2 | exact i57_3 | fail)), (show 0 = 1 → (∀ i : Int, 0 ≤ i → i < (σ.1 50) → g_ok (σ.1 45) (σ.1 50) (σ.1 4) (σ.1 51) i (σ.2.1 77) (σ.2.1 69) par (σ.2.1 70) nof (g_so (σ.1 48) (σ.2.1 14) (σ.2.1 15) (σ.2.1 10)) (σ.2.1 78) In (σ.2.2 4) (σ.2.2 5) (σ.2.1 79)) ∧ 0 ≤ (σ.1 52) ∧ 0 < (σ.1 50) ∧ g_H (σ.2.2 4) (σ.1 52) 0 (σ.1 50) ∧ ¬ g_H (σ.2.2 5) (σ.1 52) 0 (σ.1 50) ∧ g_wu (σ.1 50) (σ.2.1 77) (σ.2.2 3) from by (first | (intro z; exfalso; omega) | (intro z; exact ⟨fun i a b => i57_2 i (by omega) b, i57_5.1, by omega, (one.2 z).1, (one.2 z).2, i57_4⟩) | fail)), (show 0 = 1 → ∀ i : Int, 0 ≤ i → i < (σ.1 50) → g_uq (σ.1 45) (σ.1 50) (σ.1 51) i (0 ≤ σ.2.1 78 i ∧ ¬ σ.2.1 15 (σ.2.1 14 (σ.2.1 78 i)) = (σ.1 48)) (σ.2.1 77) (σ.2.1 69) par (σ.2.1 70) nof (g_so (σ.1 48) (σ.2.1 14) (σ.2.1 15) (σ.2.1 10)) (σ.2.1 78) In (σ.2.2 4) (σ.2.2 5) (σ.2.1 79) from by (first | (intro z; exfalso; omega) | exact fun _ i a b => i57_6 i (by omega) b | fail))⟩
