-- pure: what is done with a tree
theorem g_tre_k {n sz m : Int} {kd a fa fs hy ru : Int → Int} (h : g_tre n sz kd a fa fs hy ru) (f0 : ∀ j, 0 ≤ fs j) (m0 : 0 ≤ m) (m1 : m < sz) : m + (if kd (ru m) = 0 then 0 else fs (ru m)) < sz := by
  have w := g_nar_e (A := g_nar kd fs ru) (fun j => by
    unfold g_nar
    by_cases z : kd (ru j) = 0
    · rw [if_pos z]; decide
    · rw [if_neg z]; have := f0 (ru j); omega) h.2.2.1 h.2.2.2 m0 m1
  unfold g_nar at w
  omega
/-- a tree's row is in the chart, and it has one tree alone -/
def c_GR (σ : S0) (par nof : Int → Int) (In : Int → Prop) : Prop := (∀ i : Int, 0 ≤ i → i < (σ.1 50) → 0 ≤ σ.2.1 78 i → σ.2.1 78 i < (σ.1 7) ∧ σ.2.1 13 (σ.2.1 78 i) = 0) ∧ (∀ i : Int, 0 ≤ i → i < σ.1 50 → g_ok (σ.1 45) (σ.1 50) (σ.1 4) (σ.1 51) i (σ.2.1 77) (σ.2.1 69) par (σ.2.1 70) nof (g_so (σ.1 48) (σ.2.1 14) (σ.2.1 15) (σ.2.1 10)) (σ.2.1 78) In (σ.2.2 4) (σ.2.2 5) (σ.2.1 79)) ∧ (0 ≤ σ.1 52 ∧ σ.1 52 < σ.1 4) ∧ 0 < σ.1 50 ∧ (g_H (σ.2.2 4) (σ.1 52) 0 (σ.1 50) ∧ ¬ g_H (σ.2.2 5) (σ.1 52) 0 (σ.1 50)) ∧ g_wu (σ.1 50) (σ.2.1 77) (σ.2.2 3) ∧ ∀ i : Int, 0 ≤ i → i < σ.1 50 → g_uq (σ.1 45) (σ.1 50) (σ.1 51) i (0 ≤ σ.2.1 78 i ∧ ¬ σ.2.1 15 (σ.2.1 14 (σ.2.1 78 i)) = (σ.1 48)) (σ.2.1 77) (σ.2.1 69) par (σ.2.1 70) nof (g_so (σ.1 48) (σ.2.1 14) (σ.2.1 15) (σ.2.1 10)) (σ.2.1 78) In (σ.2.2 4) (σ.2.2 5) (σ.2.1 79)
theorem c_fl {wv : List Nat} {L : List Nat} (d : L.all (fun i => !wv.contains i) = true) : ∀ i, i ∈ L → i ∉ wv := fun i hi => by
  have := List.all_eq_true.mp d i hi
  simpa using this
theorem c_GR_c {σ τ : S0} {par nof : Int → Int} {In : Int → Prop} {wv wa wb : List Nat} (hf : f_r wv wa wb σ τ) (d1 : [4, 7, 45, 48, 50, 51, 52].all (fun i => !wv.contains i) = true) (d2 : [10, 13, 14, 15, 69, 70, 77, 78].all (fun i => !wa.contains i) = true) (lk : ∀ i : Int, 0 ≤ i → i < (σ.1 50) → 0 ≤ σ.2.1 78 i → σ.2.1 78 i < (σ.1 7) ∧ σ.2.1 13 (σ.2.1 78 i) = 0) (gr : σ.1 52 < σ.1 4)
    (q : (∀ i : Int, 0 ≤ i → i < σ.1 50 → g_ok (σ.1 45) (σ.1 50) (σ.1 4) (σ.1 51) i (σ.2.1 77) (σ.2.1 69) par (σ.2.1 70) nof (g_so (σ.1 48) (σ.2.1 14) (σ.2.1 15) (σ.2.1 10)) (σ.2.1 78) In (τ.2.2 4) (τ.2.2 5) (τ.2.1 79)) ∧ 0 ≤ σ.1 52 ∧ 0 < σ.1 50 ∧ g_H (τ.2.2 4) (σ.1 52) 0 (σ.1 50) ∧ ¬ g_H (τ.2.2 5) (σ.1 52) 0 (σ.1 50) ∧ g_wu (σ.1 50) (σ.2.1 77) (τ.2.2 3)) (uq : ∀ i : Int, 0 ≤ i → i < σ.1 50 → g_uq (σ.1 45) (σ.1 50) (σ.1 51) i (0 ≤ σ.2.1 78 i ∧ ¬ σ.2.1 15 (σ.2.1 14 (σ.2.1 78 i)) = (σ.1 48)) (σ.2.1 77) (σ.2.1 69) par (σ.2.1 70) nof (g_so (σ.1 48) (σ.2.1 14) (σ.2.1 15) (σ.2.1 10)) (σ.2.1 78) In (τ.2.2 4) (τ.2.2 5) (τ.2.1 79)) : c_GR τ par nof In := by
  have w := fun i hi => hf.1 i (c_fl d1 i hi)
  have g := fun i hi => hf.2.1 i (c_fl d2 i hi)
  obtain ⟨q1, q2, q3, q4, q5, q6⟩ := q
  unfold c_GR
  rw [w 4 (by decide), w 7 (by decide), w 45 (by decide), w 48 (by decide), w 50 (by decide), w 51 (by decide), w 52 (by decide), g 10 (by decide), g 13 (by decide), g 14 (by decide), g 15 (by decide), g 69 (by decide), g 70 (by decide), g 77 (by decide), g 78 (by decide)]
  exact ⟨lk, q1, ⟨q2, gr⟩, q3, ⟨q4, q5⟩, q6, uq⟩
/-- slots that are given stand for floating hypotheses behind the first tree -/
def g_sl (ft m u : Int) (kd a tx ru sl : Int → Int) : Prop := ∀ v : Int, ¬ sl v = 0 → (∃ k : Int, u ≤ k ∧ k ≤ m ∧ kd (ru (ft + k)) = 0 ∧ tx (a (ru (ft + k)) + 1) = v) ∧ sl v < 1000 + m
theorem g_sl_0 {ft m u : Int} {kd a tx ru sl : Int → Int} (h : ∀ v, sl v = 0) : g_sl ft m u kd a tx ru sl := fun v z => absurd (h v) z
theorem g_sl_a {ft m k v x : Int} {kd a tx ru sl : Int → Int} (h : g_sl ft m 1 kd a tx ru sl) (k0 : 1 ≤ k) (k1 : k ≤ m) (kz : kd (ru (ft + k)) = 0) (hv : v = tx (a (ru (ft + k)) + 1)) (hx : x < 1000 + m) : g_sl ft m 1 kd a tx ru (st sl v x) := fun w z => by
  by_cases y : w = v
  · rw [y, st_s]; exact ⟨⟨k, k0, k1, kz, hv.symm⟩, hx⟩
  · rw [st_n _ _ y] at z ⊢; exact h w z
theorem g_sl_n {ft m u : Int} {kd a tx ru sl : Int → Int} (h : g_sl ft m u kd a tx ru sl) (z : ¬ kd (ru (ft + u)) = 0) : g_sl ft m (u + 1) kd a tx ru sl := fun v q => by
  obtain ⟨⟨k, a1, a2, a3, a4⟩, b⟩ := h v q
  refine ⟨⟨k, ?_, a2, a3, a4⟩, b⟩
  rcases (by omega : u + 1 ≤ k ∨ k = u) with y | y
  · exact y
  · rw [y] at a3; exact absurd a3 z
theorem g_sl_c {ft m u v : Int} {kd a tx ru sl : Int → Int} (h : g_sl ft m u kd a tx ru sl) (hv : v = tx (a (ru (ft + u)) + 1)) : g_sl ft m (u + 1) kd a tx ru (st sl v 0) := fun w z => by
  by_cases y : w = v
  · rw [y, st_s] at z; exact absurd rfl z
  · rw [st_n _ _ y] at z ⊢
    obtain ⟨⟨k, a1, a2, a3, a4⟩, b⟩ := h w z
    refine ⟨⟨k, ?_, a2, a3, a4⟩, b⟩
    rcases (by omega : u + 1 ≤ k ∨ k = u) with x | x
    · exact x
    · rw [x] at a4; exact absurd (a4.symm.trans hv.symm) y
theorem g_sl_e {ft m u : Int} {kd a tx ru sl : Int → Int} (h : g_sl ft m u kd a tx ru sl) (z : m < u) : ∀ v, sl v = 0 := fun v => by
  by_cases y : sl v = 0
  · exact y
  · obtain ⟨⟨k, a1, a2, _⟩, _⟩ := h v y
    omega
/-- behind a node and all that stands for its hypotheses -/
def g_bh (sz n x : Int) (kd fs ru : Int → Int) : Prop := (n ≤ x ∧ x ≤ sz) ∧ (x = sz ∨ 1 + (sm (g_nar kd fs ru) x - sm (g_nar kd fs ru) n) ≤ 0) ∧ ∀ m : Int, n ≤ m → m < x → 1 ≤ 1 + (sm (g_nar kd fs ru) m - sm (g_nar kd fs ru) n)
theorem g_bh_u {sz n x y : Int} {kd fs ru : Int → Int} (h : g_bh sz n x kd fs ru) (g : g_bh sz n y kd fs ru) : x = y := by
  obtain ⟨⟨a1, a2⟩, a3, a4⟩ := h
  obtain ⟨⟨b1, b2⟩, b3, b4⟩ := g
  rcases Int.lt_trichotomy x y with q | q | q
  · have := b4 x a1 q; omega
  · exact q
  · have := a4 y b1 q; omega
theorem g_nar_n {kd fs ru : Int → Int} {u : Int} (u0 : 0 ≤ u) : sm (g_nar kd fs ru) (u + 1) = sm (g_nar kd fs ru) u + ((if kd (ru u) = 0 then 0 else fs (ru u)) - 1) := sm_s _ u0
/-- where the first variable of a rule stands -/
def g_fv (q p : Int) (a fl : Int → Int) : Prop := (a q + 1 ≤ p ∧ p ≤ a (q + 1) - 1) ∧ (∀ j : Int, a q + 1 ≤ j → j < p → fl j = -1) ∧ (p < a (q + 1) - 1 → ¬ fl p = -1)
theorem g_fv_u {q p p2 : Int} {a fl : Int → Int} (h : g_fv q p a fl) (g : g_fv q p2 a fl) : p = p2 := by
  obtain ⟨⟨a1, a2⟩, a3, a4⟩ := h
  obtain ⟨⟨b1, b2⟩, b3, b4⟩ := g
  rcases Int.lt_trichotomy p p2 with z | z | z
  · exact absurd (b3 p a1 z) (a4 (by omega))
  · exact z
  · exact absurd (a3 p2 b1 z) (b4 (by omega))
/-- the first tree of an equality's two sides -/
def g_pp (sz x : Int) (kd a fl fa fs hy ru : Int → Int) : Prop := kd (ru 0) = 2 ∧ fs (ru 0) = 2 ∧ ∃ p l : Int, g_fv (ru 0) p a fl ∧ g_bh sz 1 l kd fs ru ∧ l < sz ∧ ((hy (fa (ru 0)) = fl p ∧ x = l) ∨ (¬ hy (fa (ru 0)) = fl p ∧ x = 1))
theorem g_pp_u {sz x y : Int} {kd a fl fa fs hy ru : Int → Int} (h : g_pp sz x kd a fl fa fs hy ru) (g : g_pp sz y kd a fl fa fs hy ru) : x = y := by
  obtain ⟨_, _, p, l, a1, a2, _, a3⟩ := h
  obtain ⟨_, _, p2, l2, b1, b2, _, b3⟩ := g
  have e1 := g_fv_u a1 b1
  have e2 := g_bh_u a2 b2
  subst e1; subst e2
  rcases a3 with ⟨x1, x2⟩ | ⟨x1, x2⟩ <;> rcases b3 with ⟨y1, y2⟩ | ⟨y1, y2⟩
  · omega
  · exact absurd x1 y1
  · exact absurd y1 x1
  · omega
theorem g_pp_k {sz u k : Int} {kd a fl fa fs hy ru : Int → Int} (k2 : kd (ru 0) = 2) (f2 : fs (ru 0) = 2) (g : ∃ p : Int, g_fv (ru 0) p a fl ∧ ((¬ k = 0 ∧ hy (fa (ru 0)) = fl p) ∨ (k = 0 ∧ ¬ hy (fa (ru 0)) = fl p))) (b : g_bh sz 1 u kd fs ru) (l : u < sz) {x : Int} (h : (¬ k = 0 → x = u) ∧ (k = 0 → x = 1)) : g_pp sz x kd a fl fa fs hy ru := by
  obtain ⟨p, g1, g2⟩ := g
  refine ⟨k2, f2, p, u, g1, b, l, ?_⟩
  rcases g2 with ⟨z1, z2⟩ | ⟨z1, z2⟩
  · exact Or.inl ⟨z2, h.1 z1⟩
  · exact Or.inr ⟨z2, h.2 z1⟩
/-- the first tree's hypotheses are variables, none twice -/
def g_fx (ft u : Int) (kd a tx ru : Int → Int) : Prop := ∀ k : Int, 1 ≤ k → k < u → kd (ru (ft + k)) = 0 ∧ ∀ h : Int, 1 ≤ h → h < k → ¬ tx (a (ru (ft + h)) + 1) = tx (a (ru (ft + k)) + 1)
/-- the slots that are given, one for each of them -/
def g_s2v (ft u : Int) (a tx ru sl : Int → Int) : Prop := (∀ k : Int, 1 ≤ k → k < u → ¬ sl (tx (a (ru (ft + k)) + 1)) = 0) ∧ ∀ v : Int, ¬ sl v = 0 → ∃ k : Int, (1 ≤ k ∧ k < u) ∧ tx (a (ru (ft + k)) + 1) = v
theorem g_s2v_a {ft u v x : Int} {a tx ru sl : Int → Int} (h : g_s2v ft u a tx ru sl) (u1 : 1 ≤ u) (hv : v = tx (a (ru (ft + u)) + 1)) (x0 : ¬ x = 0) : g_s2v ft (u + 1) a tx ru (st sl v x) := by
  obtain ⟨h1, h2⟩ := h
  refine ⟨fun k a0 b0 => ?_, fun w z => ?_⟩
  · by_cases y : tx (a (ru (ft + k)) + 1) = v
    · rw [y, st_s]; exact x0
    · rw [st_n _ _ y]
      exact h1 k a0 (by rcases (by omega : k < u ∨ k = u) with q | q; exact q; (rw [q] at y; exact absurd hv.symm y))
  · by_cases y : w = v
    · exact ⟨u, ⟨u1, by omega⟩, by rw [y, hv]⟩
    · rw [st_n _ _ y] at z
      obtain ⟨k, k0, k1⟩ := h2 w z
      exact ⟨k, ⟨k0.1, by omega⟩, k1⟩
theorem g_fx_a {ft u v : Int} {kd a tx ru sl : Int → Int} (h : g_fx ft u kd a tx ru) (s : g_s2v ft u a tx ru sl) (kz : kd (ru (ft + u)) = 0) (hv : v = tx (a (ru (ft + u)) + 1)) (sz : sl v = 0) : g_fx ft (u + 1) kd a tx ru := fun k a0 b0 => by
  rcases (by omega : k < u ∨ k = u) with q | q
  · exact h k a0 q
  · rw [q]
    exact ⟨kz, fun h2 c d e => s.1 h2 c d (by rw [e, ← hv]; exact sz)⟩
theorem g_fx_n {ft u m : Int} {kd a tx ru : Int → Int} (u1 : 1 ≤ u) (um : u ≤ m) (z : ¬ kd (ru (ft + u)) = 0) : ¬ g_fx ft (m + 1) kd a tx ru := fun h => z (h u u1 (by omega)).1
theorem g_fx_d {ft u m v : Int} {kd a tx ru sl : Int → Int} (s : g_s2v ft u a tx ru sl) (u1 : 1 ≤ u) (um : u ≤ m) (hv : v = tx (a (ru (ft + u)) + 1)) (sz : ¬ sl v = 0) : ¬ g_fx ft (m + 1) kd a tx ru := fun h => by
  obtain ⟨k, k0, k1⟩ := s.2 v sz
  exact (h u u1 (by omega)).2 k k0.1 k0.2 (by rw [k1, hv])
set_option maxHeartbeats 1000000 in
theorem K_X2_noteUses {n1 : Int} {σ : S0} (hT : c_T σ) (p1 : 0 ≤ n1) (p2 : n1 < 1500) : W_X2_noteUses n1 σ (fun (τ : S0) => (c_T τ)) := by
  have v54 : 0 ≤ σ.1 54 ∧ σ.1 54 ≤ 12000 := hT.1 54
  have W54 : σ.1 54 = σ.1 54 := rfl
  intro P2 h2
  have l_2 : ∀ (m_2 : Nat) (u2_2 : Int) (τ_2 : S0), 12001 - u2_2 < (m_2 : Int) → (c_T τ_2) → (τ_2.1 54 = σ.1 54) → (0 ≤ u2_2 ∧ u2_2 ≤ (σ.1 54)) → P2 n1 u2_2 τ_2 := by
    intro m_2
    induction m_2 with
    | zero =>
      intro u2_2 τ_2 hm hT W54 i2_1
      have v54 : 0 ≤ τ_2.1 54 ∧ τ_2.1 54 ≤ 12000 := hT.1 54
      exfalso; (first | omega | (simp only [st_s] <;> omega) | assumption | omega | fail)
    | succ m_2 ih_2 =>
      intro u2_2 τ_2 hm_2 hT W54 i2_1
      have v54 : 0 ≤ τ_2.1 54 ∧ τ_2.1 54 ≤ 12000 := hT.1 54
      refine h2 n1 u2_2 τ_2 ?_
      refine ⟨fun c1 => ?_, fun c1 => ?_⟩
      ·
        exact hT
      ·
        refine ⟨(show 0 ≤ u2_2 ∧ u2_2 < 12000 from by (first | omega | (simp only [st_s] <;> omega) | assumption | omega | fail)), ?_⟩
        intro x3 r_x3 e_x3
        have b_x3 : 0 ≤ x3 ∧ x3 ≤ 1499 := by rw [e_x3]; exact hT.2 84 _
        refine ⟨(show 0 ≤ x3 ∧ x3 < 1500 from by (first | omega | (simp only [st_s] <;> omega) | assumption | omega | fail)), ?_⟩
        intro x5 r_x5 e_x5
        have b_x5 : 0 ≤ x5 ∧ x5 ≤ 1500 := by rw [e_x5]; exact hT.2 92 _
        refine ⟨fun c6 => ?_, fun c6 => ?_⟩
        ·
          refine ⟨(⟨by (first | omega | (simp only [st_s] <;> omega) | assumption | omega | fail), by (first | omega | (simp only [st_s] <;> omega) | assumption | omega | fail)⟩ : rg (u2_2 + 1)), ?_⟩
          exact ih_2 _ _ (show (12001 - (u2_2 + 1) : Int) < ((m_2 : Nat) : Int) from by ((first | omega | (simp only [st_s] <;> omega) | assumption | omega | fail))) hT (show τ_2.1 54 = σ.1 54 from by first | exact W54 | omega) (show 0 ≤ (u2_2 + 1) ∧ (u2_2 + 1) ≤ (σ.1 54) from by (first | omega | (simp only [st_s] <;> omega) | assumption | omega | fail))
        ·
          intro x8 r_x8 e_x8
          have b_x8 : 0 ≤ x8 ∧ x8 ≤ 1499 := by rw [e_x8]; exact hT.2 84 _
          refine ⟨(show 0 ≤ x8 ∧ x8 < 1500 from by (first | omega | (simp only [st_s] <;> omega) | assumption | omega | fail)), ?_⟩
          refine ⟨(⟨by (first | omega | (simp only [st_s] <;> omega) | assumption | omega | fail), by (first | omega | (simp only [st_s] <;> omega) | assumption | omega | fail)⟩ : rg (n1 + 1)), ?_⟩
          replace hT := cT_a (k := 92) (j := x8) hT (show (0 : Int) ≤ (n1 + 1) ∧ (n1 + 1) ≤ 1500 from by (first | omega | (simp only [st_s] <;> omega) | assumption | omega | fail))
          refine ⟨(⟨by (first | omega | (simp only [st_s] <;> omega) | assumption | omega | fail), by (first | omega | (simp only [st_s] <;> omega) | assumption | omega | fail)⟩ : rg (u2_2 + 1)), ?_⟩
          exact ih_2 _ _ (show (12001 - (u2_2 + 1) : Int) < ((m_2 : Nat) : Int) from by ((first | omega | (simp only [st_s] <;> omega) | assumption | omega | fail))) hT (show τ_2.1 54 = σ.1 54 from by first | exact W54 | omega) (show 0 ≤ (u2_2 + 1) ∧ (u2_2 + 1) ≤ (σ.1 54) from by (first | omega | (simp only [st_s] <;> omega) | assumption | omega | fail))
  exact l_2 ((12001 - 0 : Int).toNat + 1) _ _ (show (12001 - 0 : Int) < (((12001 - 0 : Int).toNat + 1 : Nat) : Int) from by ((first | omega | (simp only [st_s] <;> omega) | assumption | omega | fail))) hT (show σ.1 54 = σ.1 54 from by first | exact W54 | omega) (show 0 ≤ 0 ∧ 0 ≤ (σ.1 54) from by (first | omega | (simp only [st_s] <;> omega) | assumption | omega | fail))
set_option maxHeartbeats 1000000 in
theorem K_X11_behind {n1 : Int} {σ : S0} (hT : c_T σ) (p1 : 0 ≤ n1) (p2 : n1 ≤ (σ.1 54)) : W_X11_behind n1 σ (fun (x : Int) => (n1 ≤ x ∧ x ≤ (σ.1 54)) ∧ (n1 < (σ.1 54) → n1 < x) ∧ (g_bh (σ.1 54) n1 x (σ.2.1 13) (σ.2.1 28) (σ.2.1 84))) := by
  have A13 : ∀ j, 0 ≤ σ.2.1 13 j ∧ σ.2.1 13 j ≤ 4 := fun j => hT.2 13 j
  have A28 : ∀ j, 0 ≤ σ.2.1 28 j ∧ σ.2.1 28 j ≤ 60 := fun j => hT.2 28 j
  have A84 : ∀ j, 0 ≤ σ.2.1 84 j ∧ σ.2.1 84 j ≤ 1499 := fun j => hT.2 84 j
  have v54 : 0 ≤ σ.1 54 ∧ σ.1 54 ≤ 12000 := hT.1 54
  intro P4 h4
  have l_4 : ∀ (m_4 : Nat) (u2_4 : Int) (u3_4 : Int), 12001 - u3_4 < (m_4 : Int) → (n1 ≤ u3_4 ∧ u3_4 ≤ (σ.1 54)) → (0 ≤ u2_4 ∧ u2_4 ≤ 1 + 60 * u3_4) → (u2_4 = 1 ∨ n1 < u3_4) → (u2_4 = 1 + (sm (g_nar (σ.2.1 13) (σ.2.1 28) (σ.2.1 84)) u3_4 - sm (g_nar (σ.2.1 13) (σ.2.1 28) (σ.2.1 84)) n1)) → (∀ m : Int, n1 ≤ m → m < u3_4 → 1 ≤ 1 + (sm (g_nar (σ.2.1 13) (σ.2.1 28) (σ.2.1 84)) m - sm (g_nar (σ.2.1 13) (σ.2.1 28) (σ.2.1 84)) n1)) → P4 u2_4 u3_4 := by
    intro m_4
    induction m_4 with
    | zero =>
      intro u2_4 u3_4 hm i4_1 i4_2 i4_3 i4_4 i4_5
      exfalso; (first | omega | (simp only [st_s] <;> omega) | assumption | omega | fail)
    | succ m_4 ih_4 =>
      intro u2_4 u3_4 hm_4 i4_1 i4_2 i4_3 i4_4 i4_5
      refine h4 u2_4 u3_4 ?_
      refine ⟨fun c1 => ?_, fun c1 => ?_⟩
      ·
        exact ⟨(show n1 ≤ u3_4 ∧ u3_4 ≤ (σ.1 54) from by (first | omega | (simp only [st_s] <;> omega) | assumption | omega | fail)), (show n1 < (σ.1 54) → n1 < u3_4 from by (first | omega | (simp only [st_s] <;> omega) | assumption | omega | fail)), (show g_bh (σ.1 54) n1 u3_4 (σ.2.1 13) (σ.2.1 28) (σ.2.1 84) from by exact ⟨by omega, by omega, i4_5⟩)⟩
      ·
        refine ⟨fun c2 => ?_, fun c2 => ?_⟩
        ·
          exact ⟨(show n1 ≤ u3_4 ∧ u3_4 ≤ (σ.1 54) from by (first | omega | (simp only [st_s] <;> omega) | assumption | omega | fail)), (show n1 < (σ.1 54) → n1 < u3_4 from by (first | omega | (simp only [st_s] <;> omega) | assumption | omega | fail)), (show g_bh (σ.1 54) n1 u3_4 (σ.2.1 13) (σ.2.1 28) (σ.2.1 84) from by exact ⟨by omega, by omega, i4_5⟩)⟩
        ·
          refine ⟨(show 0 ≤ u3_4 ∧ u3_4 < 12000 from by (first | omega | (simp only [st_s] <;> omega) | assumption | omega | fail)), ?_⟩
          intro x4 r_x4 e_x4
          have b_x4 : 0 ≤ x4 ∧ x4 ≤ 1499 := by rw [e_x4]; exact hT.2 84 _
          refine ⟨(show 0 ≤ x4 ∧ x4 < 1500 from by (first | omega | (simp only [st_s] <;> omega) | assumption | omega | fail)), ?_⟩
          intro x6 r_x6 e_x6
          have b_x6 : 0 ≤ x6 ∧ x6 ≤ 4 := by rw [e_x6]; exact hT.2 13 _
          refine ⟨fun c7 => ?_, fun c7 => ?_⟩
          ·
            intro x8 r_x8 e_x8
            have b_x8 : 0 ≤ x8 ∧ x8 ≤ 60 := by rw [e_x8]; exact hT.2 28 _
            refine ⟨(⟨by (first | omega | (simp only [st_s] <;> omega) | assumption | omega | fail), by (first | omega | (simp only [st_s] <;> omega) | assumption | omega | fail)⟩ : rg (u2_4 + (x8 - 1))), ?_⟩
            refine ⟨(⟨by (first | omega | (simp only [st_s] <;> omega) | assumption | omega | fail), by (first | omega | (simp only [st_s] <;> omega) | assumption | omega | fail)⟩ : rg (u3_4 + 1)), ?_⟩
            exact ih_4 _ _ (show (12001 - (u3_4 + 1) : Int) < ((m_4 : Nat) : Int) from by ((first | omega | (simp only [st_s] <;> omega) | assumption | omega | fail))) (show n1 ≤ (u3_4 + 1) ∧ (u3_4 + 1) ≤ (σ.1 54) from by (first | omega | (simp only [st_s] <;> omega) | assumption | omega | fail)) (show 0 ≤ (u2_4 + (x8 - 1)) ∧ (u2_4 + (x8 - 1)) ≤ 1 + 60 * (u3_4 + 1) from by (first | omega | (simp only [st_s] <;> omega) | assumption | omega | fail)) (show (u2_4 + (x8 - 1)) = 1 ∨ n1 < (u3_4 + 1) from by (first | omega | (simp only [st_s] <;> omega) | assumption | omega | fail)) (show (u2_4 + (x8 - 1)) = 1 + (sm (g_nar (σ.2.1 13) (σ.2.1 28) (σ.2.1 84)) (u3_4 + 1) - sm (g_nar (σ.2.1 13) (σ.2.1 28) (σ.2.1 84)) n1) from by (first | omega | (rw [g_nar_n (by omega), ← e_x4, ← e_x6, if_neg (by assumption), ← e_x8]; omega) | (rw [g_nar_n (by omega), ← e_x4, ← e_x6, if_pos (by assumption)]; omega) | fail)) (show ∀ m : Int, n1 ≤ m → m < (u3_4 + 1) → 1 ≤ 1 + (sm (g_nar (σ.2.1 13) (σ.2.1 28) (σ.2.1 84)) m - sm (g_nar (σ.2.1 13) (σ.2.1 28) (σ.2.1 84)) n1) from by (first | (intro m a b; exfalso; omega) | (intro m a b; rcases (by omega : m < u3_4 ∨ m = u3_4) with q | q; exact i4_5 m a q; (rw [q]; omega)) | fail))
          ·
            refine ⟨(⟨by (first | omega | (simp only [st_s] <;> omega) | assumption | omega | fail), by (first | omega | (simp only [st_s] <;> omega) | assumption | omega | fail)⟩ : rg (u2_4 + (-1))), ?_⟩
            refine ⟨(⟨by (first | omega | (simp only [st_s] <;> omega) | assumption | omega | fail), by (first | omega | (simp only [st_s] <;> omega) | assumption | omega | fail)⟩ : rg (u3_4 + 1)), ?_⟩
            exact ih_4 _ _ (show (12001 - (u3_4 + 1) : Int) < ((m_4 : Nat) : Int) from by ((first | omega | (simp only [st_s] <;> omega) | assumption | omega | fail))) (show n1 ≤ (u3_4 + 1) ∧ (u3_4 + 1) ≤ (σ.1 54) from by (first | omega | (simp only [st_s] <;> omega) | assumption | omega | fail)) (show 0 ≤ (u2_4 + (-1)) ∧ (u2_4 + (-1)) ≤ 1 + 60 * (u3_4 + 1) from by (first | omega | (simp only [st_s] <;> omega) | assumption | omega | fail)) (show (u2_4 + (-1)) = 1 ∨ n1 < (u3_4 + 1) from by (first | omega | (simp only [st_s] <;> omega) | assumption | omega | fail)) (show (u2_4 + (-1)) = 1 + (sm (g_nar (σ.2.1 13) (σ.2.1 28) (σ.2.1 84)) (u3_4 + 1) - sm (g_nar (σ.2.1 13) (σ.2.1 28) (σ.2.1 84)) n1) from by (first | omega | (rw [g_nar_n (by omega), ← e_x4, ← e_x6, if_neg (by assumption), ← e_x8]; omega) | (rw [g_nar_n (by omega), ← e_x4, ← e_x6, if_pos (by assumption)]; omega) | fail)) (show ∀ m : Int, n1 ≤ m → m < (u3_4 + 1) → 1 ≤ 1 + (sm (g_nar (σ.2.1 13) (σ.2.1 28) (σ.2.1 84)) m - sm (g_nar (σ.2.1 13) (σ.2.1 28) (σ.2.1 84)) n1) from by (first | (intro m a b; exfalso; omega) | (intro m a b; rcases (by omega : m < u3_4 ∨ m = u3_4) with q | q; exact i4_5 m a q; (rw [q]; omega)) | fail))
  exact l_4 ((12001 - n1 : Int).toNat + 1) _ _ (show (12001 - n1 : Int) < (((12001 - n1 : Int).toNat + 1 : Nat) : Int) from by ((first | omega | (simp only [st_s] <;> omega) | assumption | omega | fail))) (show n1 ≤ n1 ∧ n1 ≤ (σ.1 54) from by (first | omega | (simp only [st_s] <;> omega) | assumption | omega | fail)) (show 0 ≤ 1 ∧ 1 ≤ 1 + 60 * n1 from by (first | omega | (simp only [st_s] <;> omega) | assumption | omega | fail)) (show 1 = 1 ∨ n1 < n1 from by (first | omega | (simp only [st_s] <;> omega) | assumption | omega | fail)) (show 1 = 1 + (sm (g_nar (σ.2.1 13) (σ.2.1 28) (σ.2.1 84)) n1 - sm (g_nar (σ.2.1 13) (σ.2.1 28) (σ.2.1 84)) n1) from by (first | omega | (rw [g_nar_n (by omega), ← e_x4, ← e_x6, if_neg (by assumption), ← e_x8]; omega) | (rw [g_nar_n (by omega), ← e_x4, ← e_x6, if_pos (by assumption)]; omega) | fail)) (show ∀ m : Int, n1 ≤ m → m < n1 → 1 ≤ 1 + (sm (g_nar (σ.2.1 13) (σ.2.1 28) (σ.2.1 84)) m - sm (g_nar (σ.2.1 13) (σ.2.1 28) (σ.2.1 84)) n1) from by (first | (intro m a b; exfalso; omega) | (intro m a b; rcases (by omega : m < u3_4 ∨ m = u3_4) with q | q; exact i4_5 m a q; (rw [q]; omega)) | fail))
set_option maxHeartbeats 4000000 in
theorem K_X2_partSides {σ : S0} (hT : c_T σ) (p1 : J_all (σ.1 7) (σ.1 6) (σ.1 13) (σ.1 14) (σ.1 15) (σ.2.1 13) (σ.2.1 14) (σ.2.1 15) (σ.2.1 16) (σ.2.1 10) (σ.2.1 27) (σ.2.1 28) (σ.2.1 29) (σ.2.1 30) (σ.2.1 31) (σ.2.1 32) (σ.2.1 33) (σ.2.1 34) (σ.2.1 35) (σ.2.1 36) (σ.2.1 37)) (p2 : g_tre (σ.1 7) (σ.1 54) (σ.2.1 13) (σ.2.1 14) (σ.2.1 27) (σ.2.1 28) (σ.2.1 29) (σ.2.1 84)) : W_X2_partSides σ (fun (x : Int) (τ : S0) => (c_T τ) ∧ (0 ≤ x ∧ x ≤ 1) ∧ (¬ x = 0 → (1 ≤ (τ.1 61) ∧ (τ.1 61) < (σ.1 54)) ∧ 1 ≤ (τ.1 62) ∧ (τ.1 62) < (σ.1 54)) ∧ (¬ x = 0 → g_pp (σ.1 54) (τ.1 61) (σ.2.1 13) (σ.2.1 14) (σ.2.1 16) (σ.2.1 27) (σ.2.1 28) (σ.2.1 29) (σ.2.1 84)) ∧ (x = 0 → ∀ y : Int, ¬ g_pp (σ.1 54) y (σ.2.1 13) (σ.2.1 14) (σ.2.1 16) (σ.2.1 27) (σ.2.1 28) (σ.2.1 29) (σ.2.1 84))) := by
  have A10 : ∀ j, (-1) ≤ σ.2.1 10 j ∧ σ.2.1 10 j ≤ 99 := fun j => hT.2 10 j
  have A13 : ∀ j, 0 ≤ σ.2.1 13 j ∧ σ.2.1 13 j ≤ 4 := fun j => hT.2 13 j
  have A14 : ∀ j, 0 ≤ σ.2.1 14 j ∧ σ.2.1 14 j ≤ 30000 := fun j => hT.2 14 j
  have A15 : ∀ j, 0 ≤ σ.2.1 15 j ∧ σ.2.1 15 j ≤ 999 := fun j => hT.2 15 j
  have A16 : ∀ j, (-1) ≤ σ.2.1 16 j ∧ σ.2.1 16 j ≤ 1499 := fun j => hT.2 16 j
  have A27 : ∀ j, 0 ≤ σ.2.1 27 j ∧ σ.2.1 27 j ≤ 90000 := fun j => hT.2 27 j
  have A28 : ∀ j, 0 ≤ σ.2.1 28 j ∧ σ.2.1 28 j ≤ 60 := fun j => hT.2 28 j
  have A29 : ∀ j, 0 ≤ σ.2.1 29 j ∧ σ.2.1 29 j ≤ 1499 := fun j => hT.2 29 j
  have A30 : ∀ j, 0 ≤ σ.2.1 30 j ∧ σ.2.1 30 j ≤ 20000 := fun j => hT.2 30 j
  have A31 : ∀ j, 0 ≤ σ.2.1 31 j ∧ σ.2.1 31 j ≤ 20000 := fun j => hT.2 31 j
  have A32 : ∀ j, 0 ≤ σ.2.1 32 j ∧ σ.2.1 32 j ≤ 999999 := fun j => hT.2 32 j
  have A33 : ∀ j, 0 ≤ σ.2.1 33 j ∧ σ.2.1 33 j ≤ 20000 := fun j => hT.2 33 j
  have A34 : ∀ j, 0 ≤ σ.2.1 34 j ∧ σ.2.1 34 j ≤ 20000 := fun j => hT.2 34 j
  have A35 : ∀ j, 0 ≤ σ.2.1 35 j ∧ σ.2.1 35 j ≤ 1499 := fun j => hT.2 35 j
  have A36 : ∀ j, 0 ≤ σ.2.1 36 j ∧ σ.2.1 36 j ≤ 20000 := fun j => hT.2 36 j
  have A37 : ∀ j, 0 ≤ σ.2.1 37 j ∧ σ.2.1 37 j ≤ 19999 := fun j => hT.2 37 j
  have A84 : ∀ j, 0 ≤ σ.2.1 84 j ∧ σ.2.1 84 j ≤ 1499 := fun j => hT.2 84 j
  have v6 : 0 ≤ σ.1 6 ∧ σ.1 6 ≤ 30000 := hT.1 6
  have v7 : 0 ≤ σ.1 7 ∧ σ.1 7 ≤ 1500 := hT.1 7
  have v13 : 0 ≤ σ.1 13 ∧ σ.1 13 ≤ 90000 := hT.1 13
  have v14 : 0 ≤ σ.1 14 ∧ σ.1 14 ≤ 20000 := hT.1 14
  have v15 : 0 ≤ σ.1 15 ∧ σ.1 15 ≤ 20000 := hT.1 15
  have v54 : 0 ≤ σ.1 54 ∧ σ.1 54 ≤ 12000 := hT.1 54
  have v61 : 0 ≤ σ.1 61 ∧ σ.1 61 ≤ 12000 := hT.1 61
  have v62 : 0 ≤ σ.1 62 ∧ σ.1 62 ≤ 12000 := hT.1 62
  have W6 : σ.1 6 = σ.1 6 := rfl
  have W7 : σ.1 7 = σ.1 7 := rfl
  have W13 : σ.1 13 = σ.1 13 := rfl
  have W14 : σ.1 14 = σ.1 14 := rfl
  have W15 : σ.1 15 = σ.1 15 := rfl
  have W54 : σ.1 54 = σ.1 54 := rfl
  have G10 : σ.2.1 10 = σ.2.1 10 := rfl
  have G13 : σ.2.1 13 = σ.2.1 13 := rfl
  have G14 : σ.2.1 14 = σ.2.1 14 := rfl
  have G15 : σ.2.1 15 = σ.2.1 15 := rfl
  have G16 : σ.2.1 16 = σ.2.1 16 := rfl
  have G27 : σ.2.1 27 = σ.2.1 27 := rfl
  have G28 : σ.2.1 28 = σ.2.1 28 := rfl
  have G29 : σ.2.1 29 = σ.2.1 29 := rfl
  have G30 : σ.2.1 30 = σ.2.1 30 := rfl
  have G31 : σ.2.1 31 = σ.2.1 31 := rfl
  have G32 : σ.2.1 32 = σ.2.1 32 := rfl
  have G33 : σ.2.1 33 = σ.2.1 33 := rfl
  have G34 : σ.2.1 34 = σ.2.1 34 := rfl
  have G35 : σ.2.1 35 = σ.2.1 35 := rfl
  have G36 : σ.2.1 36 = σ.2.1 36 := rfl
  have G37 : σ.2.1 37 = σ.2.1 37 := rfl
  have G84 : σ.2.1 84 = σ.2.1 84 := rfl
  intro P50 P86 P120 P142 P156 h50 h86 h120 h142 h156
  have tr1 := p2.1
  have nd0 := p2.2.1 0 (Int.le_refl _) (by omega)
  have s14 := A14
  have s27 := A27
  have s14a := A14 (σ.2.1 84 0)
  have CJ : J_all (σ.1 7) (σ.1 6) (σ.1 13) (σ.1 14) (σ.1 15) (σ.2.1 13) (σ.2.1 14) (σ.2.1 15) (σ.2.1 16) (σ.2.1 10) (σ.2.1 27) (σ.2.1 28) (σ.2.1 29) (σ.2.1 30) (σ.2.1 31) (σ.2.1 32) (σ.2.1 33) (σ.2.1 34) (σ.2.1 35) (σ.2.1 36) (σ.2.1 37) := p1
  have TRE : g_tre (σ.1 7) (σ.1 54) (σ.2.1 13) (σ.2.1 14) (σ.2.1 27) (σ.2.1 28) (σ.2.1 29) (σ.2.1 84) := p2
  have CJ_0 := CJ
  have TRE_0 := TRE
  have l_156 : ∀ (u4_156 : Int) (k1_156 : Int) (τ_156 : S0), (c_T τ_156) → (τ_156.1 6 = σ.1 6) → (τ_156.1 7 = σ.1 7) → (τ_156.1 13 = σ.1 13) → (τ_156.1 14 = σ.1 14) → (τ_156.1 15 = σ.1 15) → (τ_156.1 54 = σ.1 54) → (τ_156.2.1 10 = σ.2.1 10) → (τ_156.2.1 13 = σ.2.1 13) → (τ_156.2.1 14 = σ.2.1 14) → (τ_156.2.1 15 = σ.2.1 15) → (τ_156.2.1 16 = σ.2.1 16) → (τ_156.2.1 27 = σ.2.1 27) → (τ_156.2.1 28 = σ.2.1 28) → (τ_156.2.1 29 = σ.2.1 29) → (τ_156.2.1 30 = σ.2.1 30) → (τ_156.2.1 31 = σ.2.1 31) → (τ_156.2.1 32 = σ.2.1 32) → (τ_156.2.1 33 = σ.2.1 33) → (τ_156.2.1 34 = σ.2.1 34) → (τ_156.2.1 35 = σ.2.1 35) → (τ_156.2.1 36 = σ.2.1 36) → (τ_156.2.1 37 = σ.2.1 37) → (τ_156.2.1 84 = σ.2.1 84) → (1 ≤ u4_156 ∧ u4_156 ≤ (σ.1 54)) → (1 ≤ k1_156 ∧ k1_156 ≤ u4_156) → (1 ≤ (τ_156.1 61) ∧ (τ_156.1 61) ≤ u4_156) → (∃ k : Int, (∃ p : Int, g_fv (σ.2.1 84 0) p (σ.2.1 14) (σ.2.1 16) ∧ ((¬ k = 0 ∧ σ.2.1 29 (σ.2.1 27 (σ.2.1 84 0)) = σ.2.1 16 p) ∨ (k = 0 ∧ ¬ σ.2.1 29 (σ.2.1 27 (σ.2.1 84 0)) = σ.2.1 16 p))) ∧ ((¬ k = 0 → (τ_156.1 61) = u4_156) ∧ (k = 0 → (τ_156.1 61) = 1))) → (σ.2.1 13 (σ.2.1 84 0) = 2 ∧ σ.2.1 28 (σ.2.1 84 0) = 2) → (g_bh (σ.1 54) 1 u4_156 (σ.2.1 13) (σ.2.1 28) (σ.2.1 84)) → P156 u4_156 k1_156 τ_156 := by
    intro u4_156 k1_156 τ_156 hT W6 W7 W13 W14 W15 W54 G10 G13 G14 G15 G16 G27 G28 G29 G30 G31 G32 G33 G34 G35 G36 G37 G84 i156_1 i156_2 i156_3 i156_4 i156_5 i156_6
    have A10 : ∀ j, (-1) ≤ τ_156.2.1 10 j ∧ τ_156.2.1 10 j ≤ 99 := fun j => hT.2 10 j
    have A13 : ∀ j, 0 ≤ τ_156.2.1 13 j ∧ τ_156.2.1 13 j ≤ 4 := fun j => hT.2 13 j
    have A14 : ∀ j, 0 ≤ τ_156.2.1 14 j ∧ τ_156.2.1 14 j ≤ 30000 := fun j => hT.2 14 j
    have A15 : ∀ j, 0 ≤ τ_156.2.1 15 j ∧ τ_156.2.1 15 j ≤ 999 := fun j => hT.2 15 j
    have A16 : ∀ j, (-1) ≤ τ_156.2.1 16 j ∧ τ_156.2.1 16 j ≤ 1499 := fun j => hT.2 16 j
    have A27 : ∀ j, 0 ≤ τ_156.2.1 27 j ∧ τ_156.2.1 27 j ≤ 90000 := fun j => hT.2 27 j
    have A28 : ∀ j, 0 ≤ τ_156.2.1 28 j ∧ τ_156.2.1 28 j ≤ 60 := fun j => hT.2 28 j
    have A29 : ∀ j, 0 ≤ τ_156.2.1 29 j ∧ τ_156.2.1 29 j ≤ 1499 := fun j => hT.2 29 j
    have A30 : ∀ j, 0 ≤ τ_156.2.1 30 j ∧ τ_156.2.1 30 j ≤ 20000 := fun j => hT.2 30 j
    have A31 : ∀ j, 0 ≤ τ_156.2.1 31 j ∧ τ_156.2.1 31 j ≤ 20000 := fun j => hT.2 31 j
    have A32 : ∀ j, 0 ≤ τ_156.2.1 32 j ∧ τ_156.2.1 32 j ≤ 999999 := fun j => hT.2 32 j
    have A33 : ∀ j, 0 ≤ τ_156.2.1 33 j ∧ τ_156.2.1 33 j ≤ 20000 := fun j => hT.2 33 j
    have A34 : ∀ j, 0 ≤ τ_156.2.1 34 j ∧ τ_156.2.1 34 j ≤ 20000 := fun j => hT.2 34 j
    have A35 : ∀ j, 0 ≤ τ_156.2.1 35 j ∧ τ_156.2.1 35 j ≤ 1499 := fun j => hT.2 35 j
    have A36 : ∀ j, 0 ≤ τ_156.2.1 36 j ∧ τ_156.2.1 36 j ≤ 20000 := fun j => hT.2 36 j
    have A37 : ∀ j, 0 ≤ τ_156.2.1 37 j ∧ τ_156.2.1 37 j ≤ 19999 := fun j => hT.2 37 j
    have A84 : ∀ j, 0 ≤ τ_156.2.1 84 j ∧ τ_156.2.1 84 j ≤ 1499 := fun j => hT.2 84 j
    have v6 : 0 ≤ τ_156.1 6 ∧ τ_156.1 6 ≤ 30000 := hT.1 6
    have v7 : 0 ≤ τ_156.1 7 ∧ τ_156.1 7 ≤ 1500 := hT.1 7
    have v13 : 0 ≤ τ_156.1 13 ∧ τ_156.1 13 ≤ 90000 := hT.1 13
    have v14 : 0 ≤ τ_156.1 14 ∧ τ_156.1 14 ≤ 20000 := hT.1 14
    have v15 : 0 ≤ τ_156.1 15 ∧ τ_156.1 15 ≤ 20000 := hT.1 15
    have v54 : 0 ≤ τ_156.1 54 ∧ τ_156.1 54 ≤ 12000 := hT.1 54
    have v61 : 0 ≤ τ_156.1 61 ∧ τ_156.1 61 ≤ 12000 := hT.1 61
    have v62 : 0 ≤ τ_156.1 62 ∧ τ_156.1 62 ≤ 12000 := hT.1 62
    have CJ : J_all (τ_156.1 7) (τ_156.1 6) (τ_156.1 13) (τ_156.1 14) (τ_156.1 15) (τ_156.2.1 13) (τ_156.2.1 14) (τ_156.2.1 15) (τ_156.2.1 16) (τ_156.2.1 10) (τ_156.2.1 27) (τ_156.2.1 28) (τ_156.2.1 29) (τ_156.2.1 30) (τ_156.2.1 31) (τ_156.2.1 32) (τ_156.2.1 33) (τ_156.2.1 34) (τ_156.2.1 35) (τ_156.2.1 36) (τ_156.2.1 37) := by rw [show (J_all (τ_156.1 7) (τ_156.1 6) (τ_156.1 13) (τ_156.1 14) (τ_156.1 15) (τ_156.2.1 13) (τ_156.2.1 14) (τ_156.2.1 15) (τ_156.2.1 16) (τ_156.2.1 10) (τ_156.2.1 27) (τ_156.2.1 28) (τ_156.2.1 29) (τ_156.2.1 30) (τ_156.2.1 31) (τ_156.2.1 32) (τ_156.2.1 33) (τ_156.2.1 34) (τ_156.2.1 35) (τ_156.2.1 36) (τ_156.2.1 37)) = (J_all (σ.1 7) (σ.1 6) (σ.1 13) (σ.1 14) (σ.1 15) (σ.2.1 13) (σ.2.1 14) (σ.2.1 15) (σ.2.1 16) (σ.2.1 10) (σ.2.1 27) (σ.2.1 28) (σ.2.1 29) (σ.2.1 30) (σ.2.1 31) (σ.2.1 32) (σ.2.1 33) (σ.2.1 34) (σ.2.1 35) (σ.2.1 36) (σ.2.1 37)) from by rw [W6, W7, W13, W14, W15, G10, G13, G14, G15, G16, G27, G28, G29, G30, G31, G32, G33, G34, G35, G36, G37]]; exact CJ_0
    have TRE : g_tre (τ_156.1 7) (τ_156.1 54) (τ_156.2.1 13) (τ_156.2.1 14) (τ_156.2.1 27) (τ_156.2.1 28) (τ_156.2.1 29) (τ_156.2.1 84) := by rw [show (g_tre (τ_156.1 7) (τ_156.1 54) (τ_156.2.1 13) (τ_156.2.1 14) (τ_156.2.1 27) (τ_156.2.1 28) (τ_156.2.1 29) (τ_156.2.1 84)) = (g_tre (σ.1 7) (σ.1 54) (σ.2.1 13) (σ.2.1 14) (σ.2.1 27) (σ.2.1 28) (σ.2.1 29) (σ.2.1 84)) from by rw [W7, W54, G13, G14, G27, G28, G29, G84]]; exact TRE_0
    refine h156 u4_156 k1_156 τ_156 ?_
    replace hT := cT_v (i := 62) hT (show 0 ≤ k1_156 ∧ k1_156 ≤ 12000 from by (first | omega | (simp only [st_s] <;> omega) | assumption | omega | fail))
    refine ⟨fun c30 => ?_, fun c30 => ?_⟩
    ·
      exact ⟨hT, (show 0 ≤ 0 ∧ 0 ≤ 1 from by (first | omega | (simp only [st_s] <;> omega) | assumption | omega | fail)), (show ¬ 0 = 0 → (1 ≤ (τ_156.1 61) ∧ (τ_156.1 61) < (σ.1 54)) ∧ 1 ≤ (k1_156) ∧ (k1_156) < (σ.1 54) from by (first | omega | (simp only [st_s] <;> omega) | assumption | omega | fail)), (show ¬ 0 = 0 → g_pp (σ.1 54) (τ_156.1 61) (σ.2.1 13) (σ.2.1 14) (σ.2.1 16) (σ.2.1 27) (σ.2.1 28) (σ.2.1 29) (σ.2.1 84) from by (first | (intro z; exact absurd rfl z) | (intro _; have q9 := i156_4; obtain ⟨k, kg, kh⟩ := q9; exact g_pp_k i156_5.1 i156_5.2 kg i156_6 (by omega) kh) | fail)), (show 0 = 0 → ∀ y : Int, ¬ g_pp (σ.1 54) y (σ.2.1 13) (σ.2.1 14) (σ.2.1 16) (σ.2.1 27) (σ.2.1 28) (σ.2.1 29) (σ.2.1 84) from by (first | (intro z; exfalso; omega) | (intro _ y h; exact absurd h.1 (by rw [← e_x1, ← e_x3]; assumption)) | (intro _ y h; exact absurd h.2.1 (by rw [← e_x1, ← e_x5]; assumption)) | (intro _ y h; have q9 := h; obtain ⟨_, _, p, l, _, hb, hl, _⟩ := q9; have := g_bh_u hb i156_6; omega) | fail))⟩
    ·
      exact ⟨hT, (show 0 ≤ 1 ∧ 1 ≤ 1 from by (first | omega | (simp only [st_s] <;> omega) | assumption | omega | fail)), (show ¬ 1 = 0 → (1 ≤ (τ_156.1 61) ∧ (τ_156.1 61) < (σ.1 54)) ∧ 1 ≤ (k1_156) ∧ (k1_156) < (σ.1 54) from by (first | omega | (simp only [st_s] <;> omega) | assumption | omega | fail)), (show ¬ 1 = 0 → g_pp (σ.1 54) (τ_156.1 61) (σ.2.1 13) (σ.2.1 14) (σ.2.1 16) (σ.2.1 27) (σ.2.1 28) (σ.2.1 29) (σ.2.1 84) from by (first | (intro z; exact absurd rfl z) | (intro _; have q9 := i156_4; obtain ⟨k, kg, kh⟩ := q9; exact g_pp_k i156_5.1 i156_5.2 kg i156_6 (by omega) kh) | fail)), (show 1 = 0 → ∀ y : Int, ¬ g_pp (σ.1 54) y (σ.2.1 13) (σ.2.1 14) (σ.2.1 16) (σ.2.1 27) (σ.2.1 28) (σ.2.1 29) (σ.2.1 84) from by (first | (intro z; exfalso; omega) | (intro _ y h; exact absurd h.1 (by rw [← e_x1, ← e_x3]; assumption)) | (intro _ y h; exact absurd h.2.1 (by rw [← e_x1, ← e_x5]; assumption)) | (intro _ y h; have q9 := h; obtain ⟨_, _, p, l, _, hb, hl, _⟩ := q9; have := g_bh_u hb i156_6; omega) | fail))⟩
  have l_142 : ∀ (u3_142 : Int) (u4_142 : Int) (k1_142 : Int) (τ_142 : S0), (c_T τ_142) → (τ_142.1 6 = σ.1 6) → (τ_142.1 7 = σ.1 7) → (τ_142.1 13 = σ.1 13) → (τ_142.1 14 = σ.1 14) → (τ_142.1 15 = σ.1 15) → (τ_142.1 54 = σ.1 54) → (τ_142.2.1 10 = σ.2.1 10) → (τ_142.2.1 13 = σ.2.1 13) → (τ_142.2.1 14 = σ.2.1 14) → (τ_142.2.1 15 = σ.2.1 15) → (τ_142.2.1 16 = σ.2.1 16) → (τ_142.2.1 27 = σ.2.1 27) → (τ_142.2.1 28 = σ.2.1 28) → (τ_142.2.1 29 = σ.2.1 29) → (τ_142.2.1 30 = σ.2.1 30) → (τ_142.2.1 31 = σ.2.1 31) → (τ_142.2.1 32 = σ.2.1 32) → (τ_142.2.1 33 = σ.2.1 33) → (τ_142.2.1 34 = σ.2.1 34) → (τ_142.2.1 35 = σ.2.1 35) → (τ_142.2.1 36 = σ.2.1 36) → (τ_142.2.1 37 = σ.2.1 37) → (τ_142.2.1 84 = σ.2.1 84) → (1 ≤ u4_142 ∧ u4_142 ≤ (σ.1 54)) → (1 ≤ k1_142 ∧ k1_142 ≤ u4_142) → (∃ p : Int, g_fv (σ.2.1 84 0) p (σ.2.1 14) (σ.2.1 16) ∧ ((¬ u3_142 = 0 ∧ σ.2.1 29 (σ.2.1 27 (σ.2.1 84 0)) = σ.2.1 16 p) ∨ (u3_142 = 0 ∧ ¬ σ.2.1 29 (σ.2.1 27 (σ.2.1 84 0)) = σ.2.1 16 p))) → (σ.2.1 13 (σ.2.1 84 0) = 2 ∧ σ.2.1 28 (σ.2.1 84 0) = 2) → (g_bh (σ.1 54) 1 u4_142 (σ.2.1 13) (σ.2.1 28) (σ.2.1 84)) → ((¬ u3_142 = 0 → k1_142 = u4_142) ∧ (u3_142 = 0 → k1_142 = 1)) → P142 u3_142 u4_142 k1_142 τ_142 := by
    intro u3_142 u4_142 k1_142 τ_142 hT W6 W7 W13 W14 W15 W54 G10 G13 G14 G15 G16 G27 G28 G29 G30 G31 G32 G33 G34 G35 G36 G37 G84 i142_1 i142_2 i142_3 i142_4 i142_5 i142_6
    have A10 : ∀ j, (-1) ≤ τ_142.2.1 10 j ∧ τ_142.2.1 10 j ≤ 99 := fun j => hT.2 10 j
    have A13 : ∀ j, 0 ≤ τ_142.2.1 13 j ∧ τ_142.2.1 13 j ≤ 4 := fun j => hT.2 13 j
    have A14 : ∀ j, 0 ≤ τ_142.2.1 14 j ∧ τ_142.2.1 14 j ≤ 30000 := fun j => hT.2 14 j
    have A15 : ∀ j, 0 ≤ τ_142.2.1 15 j ∧ τ_142.2.1 15 j ≤ 999 := fun j => hT.2 15 j
    have A16 : ∀ j, (-1) ≤ τ_142.2.1 16 j ∧ τ_142.2.1 16 j ≤ 1499 := fun j => hT.2 16 j
    have A27 : ∀ j, 0 ≤ τ_142.2.1 27 j ∧ τ_142.2.1 27 j ≤ 90000 := fun j => hT.2 27 j
    have A28 : ∀ j, 0 ≤ τ_142.2.1 28 j ∧ τ_142.2.1 28 j ≤ 60 := fun j => hT.2 28 j
    have A29 : ∀ j, 0 ≤ τ_142.2.1 29 j ∧ τ_142.2.1 29 j ≤ 1499 := fun j => hT.2 29 j
    have A30 : ∀ j, 0 ≤ τ_142.2.1 30 j ∧ τ_142.2.1 30 j ≤ 20000 := fun j => hT.2 30 j
    have A31 : ∀ j, 0 ≤ τ_142.2.1 31 j ∧ τ_142.2.1 31 j ≤ 20000 := fun j => hT.2 31 j
    have A32 : ∀ j, 0 ≤ τ_142.2.1 32 j ∧ τ_142.2.1 32 j ≤ 999999 := fun j => hT.2 32 j
    have A33 : ∀ j, 0 ≤ τ_142.2.1 33 j ∧ τ_142.2.1 33 j ≤ 20000 := fun j => hT.2 33 j
    have A34 : ∀ j, 0 ≤ τ_142.2.1 34 j ∧ τ_142.2.1 34 j ≤ 20000 := fun j => hT.2 34 j
    have A35 : ∀ j, 0 ≤ τ_142.2.1 35 j ∧ τ_142.2.1 35 j ≤ 1499 := fun j => hT.2 35 j
    have A36 : ∀ j, 0 ≤ τ_142.2.1 36 j ∧ τ_142.2.1 36 j ≤ 20000 := fun j => hT.2 36 j
    have A37 : ∀ j, 0 ≤ τ_142.2.1 37 j ∧ τ_142.2.1 37 j ≤ 19999 := fun j => hT.2 37 j
    have A84 : ∀ j, 0 ≤ τ_142.2.1 84 j ∧ τ_142.2.1 84 j ≤ 1499 := fun j => hT.2 84 j
    have v6 : 0 ≤ τ_142.1 6 ∧ τ_142.1 6 ≤ 30000 := hT.1 6
    have v7 : 0 ≤ τ_142.1 7 ∧ τ_142.1 7 ≤ 1500 := hT.1 7
    have v13 : 0 ≤ τ_142.1 13 ∧ τ_142.1 13 ≤ 90000 := hT.1 13
    have v14 : 0 ≤ τ_142.1 14 ∧ τ_142.1 14 ≤ 20000 := hT.1 14
    have v15 : 0 ≤ τ_142.1 15 ∧ τ_142.1 15 ≤ 20000 := hT.1 15
    have v54 : 0 ≤ τ_142.1 54 ∧ τ_142.1 54 ≤ 12000 := hT.1 54
    have v61 : 0 ≤ τ_142.1 61 ∧ τ_142.1 61 ≤ 12000 := hT.1 61
    have v62 : 0 ≤ τ_142.1 62 ∧ τ_142.1 62 ≤ 12000 := hT.1 62
    have CJ : J_all (τ_142.1 7) (τ_142.1 6) (τ_142.1 13) (τ_142.1 14) (τ_142.1 15) (τ_142.2.1 13) (τ_142.2.1 14) (τ_142.2.1 15) (τ_142.2.1 16) (τ_142.2.1 10) (τ_142.2.1 27) (τ_142.2.1 28) (τ_142.2.1 29) (τ_142.2.1 30) (τ_142.2.1 31) (τ_142.2.1 32) (τ_142.2.1 33) (τ_142.2.1 34) (τ_142.2.1 35) (τ_142.2.1 36) (τ_142.2.1 37) := by rw [show (J_all (τ_142.1 7) (τ_142.1 6) (τ_142.1 13) (τ_142.1 14) (τ_142.1 15) (τ_142.2.1 13) (τ_142.2.1 14) (τ_142.2.1 15) (τ_142.2.1 16) (τ_142.2.1 10) (τ_142.2.1 27) (τ_142.2.1 28) (τ_142.2.1 29) (τ_142.2.1 30) (τ_142.2.1 31) (τ_142.2.1 32) (τ_142.2.1 33) (τ_142.2.1 34) (τ_142.2.1 35) (τ_142.2.1 36) (τ_142.2.1 37)) = (J_all (σ.1 7) (σ.1 6) (σ.1 13) (σ.1 14) (σ.1 15) (σ.2.1 13) (σ.2.1 14) (σ.2.1 15) (σ.2.1 16) (σ.2.1 10) (σ.2.1 27) (σ.2.1 28) (σ.2.1 29) (σ.2.1 30) (σ.2.1 31) (σ.2.1 32) (σ.2.1 33) (σ.2.1 34) (σ.2.1 35) (σ.2.1 36) (σ.2.1 37)) from by rw [W6, W7, W13, W14, W15, G10, G13, G14, G15, G16, G27, G28, G29, G30, G31, G32, G33, G34, G35, G36, G37]]; exact CJ_0
    have TRE : g_tre (τ_142.1 7) (τ_142.1 54) (τ_142.2.1 13) (τ_142.2.1 14) (τ_142.2.1 27) (τ_142.2.1 28) (τ_142.2.1 29) (τ_142.2.1 84) := by rw [show (g_tre (τ_142.1 7) (τ_142.1 54) (τ_142.2.1 13) (τ_142.2.1 14) (τ_142.2.1 27) (τ_142.2.1 28) (τ_142.2.1 29) (τ_142.2.1 84)) = (g_tre (σ.1 7) (σ.1 54) (σ.2.1 13) (σ.2.1 14) (σ.2.1 27) (σ.2.1 28) (σ.2.1 29) (σ.2.1 84)) from by rw [W7, W54, G13, G14, G27, G28, G29, G84]]; exact TRE_0
    refine h142 u3_142 u4_142 k1_142 τ_142 ?_
    replace hT := cT_v (i := 61) hT (show 0 ≤ k1_142 ∧ k1_142 ≤ 12000 from by (first | omega | (simp only [st_s] <;> omega) | assumption | omega | fail))
    refine ⟨fun c29 => ?_, fun c29 => ?_⟩
    ·
      exact l_156 _ _ _ hT (show τ_142.1 6 = σ.1 6 from by first | exact W6 | omega) (show τ_142.1 7 = σ.1 7 from by first | exact W7 | omega) (show τ_142.1 13 = σ.1 13 from by first | exact W13 | omega) (show τ_142.1 14 = σ.1 14 from by first | exact W14 | omega) (show τ_142.1 15 = σ.1 15 from by first | exact W15 | omega) (show τ_142.1 54 = σ.1 54 from by first | exact W54 | omega) G10 G13 G14 G15 G16 G27 G28 G29 G30 G31 G32 G33 G34 G35 G36 G37 G84 (show 1 ≤ u4_142 ∧ u4_142 ≤ (σ.1 54) from by (first | omega | (simp only [st_s] <;> omega) | assumption | omega | fail)) (show 1 ≤ u4_142 ∧ u4_142 ≤ u4_142 from by (first | omega | (simp only [st_s] <;> omega) | assumption | omega | fail)) (show 1 ≤ (k1_142) ∧ (k1_142) ≤ u4_142 from by (first | omega | (simp only [st_s] <;> omega) | assumption | omega | fail)) (show ∃ k : Int, (∃ p : Int, g_fv (σ.2.1 84 0) p (σ.2.1 14) (σ.2.1 16) ∧ ((¬ k = 0 ∧ σ.2.1 29 (σ.2.1 27 (σ.2.1 84 0)) = σ.2.1 16 p) ∨ (k = 0 ∧ ¬ σ.2.1 29 (σ.2.1 27 (σ.2.1 84 0)) = σ.2.1 16 p))) ∧ ((¬ k = 0 → (k1_142) = u4_142) ∧ (k = 0 → (k1_142) = 1)) from by exact ⟨_, i142_3, i142_6⟩) (show σ.2.1 13 (σ.2.1 84 0) = 2 ∧ σ.2.1 28 (σ.2.1 84 0) = 2 from by exact i142_4) (show g_bh (σ.1 54) 1 u4_142 (σ.2.1 13) (σ.2.1 28) (σ.2.1 84) from by exact i142_5)
    ·
      exact l_156 _ _ _ hT (show τ_142.1 6 = σ.1 6 from by first | exact W6 | omega) (show τ_142.1 7 = σ.1 7 from by first | exact W7 | omega) (show τ_142.1 13 = σ.1 13 from by first | exact W13 | omega) (show τ_142.1 14 = σ.1 14 from by first | exact W14 | omega) (show τ_142.1 15 = σ.1 15 from by first | exact W15 | omega) (show τ_142.1 54 = σ.1 54 from by first | exact W54 | omega) G10 G13 G14 G15 G16 G27 G28 G29 G30 G31 G32 G33 G34 G35 G36 G37 G84 (show 1 ≤ u4_142 ∧ u4_142 ≤ (σ.1 54) from by (first | omega | (simp only [st_s] <;> omega) | assumption | omega | fail)) (show 1 ≤ 1 ∧ 1 ≤ u4_142 from by (first | omega | (simp only [st_s] <;> omega) | assumption | omega | fail)) (show 1 ≤ (k1_142) ∧ (k1_142) ≤ u4_142 from by (first | omega | (simp only [st_s] <;> omega) | assumption | omega | fail)) (show ∃ k : Int, (∃ p : Int, g_fv (σ.2.1 84 0) p (σ.2.1 14) (σ.2.1 16) ∧ ((¬ k = 0 ∧ σ.2.1 29 (σ.2.1 27 (σ.2.1 84 0)) = σ.2.1 16 p) ∨ (k = 0 ∧ ¬ σ.2.1 29 (σ.2.1 27 (σ.2.1 84 0)) = σ.2.1 16 p))) ∧ ((¬ k = 0 → (k1_142) = u4_142) ∧ (k = 0 → (k1_142) = 1)) from by exact ⟨_, i142_3, i142_6⟩) (show σ.2.1 13 (σ.2.1 84 0) = 2 ∧ σ.2.1 28 (σ.2.1 84 0) = 2 from by exact i142_4) (show g_bh (σ.1 54) 1 u4_142 (σ.2.1 13) (σ.2.1 28) (σ.2.1 84) from by exact i142_5)
  have l_120 : ∀ (k0_120 : Int) (τ_120 : S0), (c_T τ_120) → (τ_120.1 6 = σ.1 6) → (τ_120.1 7 = σ.1 7) → (τ_120.1 13 = σ.1 13) → (τ_120.1 14 = σ.1 14) → (τ_120.1 15 = σ.1 15) → (τ_120.1 54 = σ.1 54) → (τ_120.2.1 10 = σ.2.1 10) → (τ_120.2.1 13 = σ.2.1 13) → (τ_120.2.1 14 = σ.2.1 14) → (τ_120.2.1 15 = σ.2.1 15) → (τ_120.2.1 16 = σ.2.1 16) → (τ_120.2.1 27 = σ.2.1 27) → (τ_120.2.1 28 = σ.2.1 28) → (τ_120.2.1 29 = σ.2.1 29) → (τ_120.2.1 30 = σ.2.1 30) → (τ_120.2.1 31 = σ.2.1 31) → (τ_120.2.1 32 = σ.2.1 32) → (τ_120.2.1 33 = σ.2.1 33) → (τ_120.2.1 34 = σ.2.1 34) → (τ_120.2.1 35 = σ.2.1 35) → (τ_120.2.1 36 = σ.2.1 36) → (τ_120.2.1 37 = σ.2.1 37) → (τ_120.2.1 84 = σ.2.1 84) → (0 ≤ k0_120 ∧ k0_120 ≤ 1) → (∃ p : Int, g_fv (σ.2.1 84 0) p (σ.2.1 14) (σ.2.1 16) ∧ ((¬ k0_120 = 0 ∧ σ.2.1 29 (σ.2.1 27 (σ.2.1 84 0)) = σ.2.1 16 p) ∨ (k0_120 = 0 ∧ ¬ σ.2.1 29 (σ.2.1 27 (σ.2.1 84 0)) = σ.2.1 16 p))) → (σ.2.1 13 (σ.2.1 84 0) = 2 ∧ σ.2.1 28 (σ.2.1 84 0) = 2) → P120 k0_120 τ_120 := by
    intro k0_120 τ_120 hT W6 W7 W13 W14 W15 W54 G10 G13 G14 G15 G16 G27 G28 G29 G30 G31 G32 G33 G34 G35 G36 G37 G84 i120_1 i120_2 i120_3
    have A10 : ∀ j, (-1) ≤ τ_120.2.1 10 j ∧ τ_120.2.1 10 j ≤ 99 := fun j => hT.2 10 j
    have A13 : ∀ j, 0 ≤ τ_120.2.1 13 j ∧ τ_120.2.1 13 j ≤ 4 := fun j => hT.2 13 j
    have A14 : ∀ j, 0 ≤ τ_120.2.1 14 j ∧ τ_120.2.1 14 j ≤ 30000 := fun j => hT.2 14 j
    have A15 : ∀ j, 0 ≤ τ_120.2.1 15 j ∧ τ_120.2.1 15 j ≤ 999 := fun j => hT.2 15 j
    have A16 : ∀ j, (-1) ≤ τ_120.2.1 16 j ∧ τ_120.2.1 16 j ≤ 1499 := fun j => hT.2 16 j
    have A27 : ∀ j, 0 ≤ τ_120.2.1 27 j ∧ τ_120.2.1 27 j ≤ 90000 := fun j => hT.2 27 j
    have A28 : ∀ j, 0 ≤ τ_120.2.1 28 j ∧ τ_120.2.1 28 j ≤ 60 := fun j => hT.2 28 j
    have A29 : ∀ j, 0 ≤ τ_120.2.1 29 j ∧ τ_120.2.1 29 j ≤ 1499 := fun j => hT.2 29 j
    have A30 : ∀ j, 0 ≤ τ_120.2.1 30 j ∧ τ_120.2.1 30 j ≤ 20000 := fun j => hT.2 30 j
    have A31 : ∀ j, 0 ≤ τ_120.2.1 31 j ∧ τ_120.2.1 31 j ≤ 20000 := fun j => hT.2 31 j
    have A32 : ∀ j, 0 ≤ τ_120.2.1 32 j ∧ τ_120.2.1 32 j ≤ 999999 := fun j => hT.2 32 j
    have A33 : ∀ j, 0 ≤ τ_120.2.1 33 j ∧ τ_120.2.1 33 j ≤ 20000 := fun j => hT.2 33 j
    have A34 : ∀ j, 0 ≤ τ_120.2.1 34 j ∧ τ_120.2.1 34 j ≤ 20000 := fun j => hT.2 34 j
    have A35 : ∀ j, 0 ≤ τ_120.2.1 35 j ∧ τ_120.2.1 35 j ≤ 1499 := fun j => hT.2 35 j
    have A36 : ∀ j, 0 ≤ τ_120.2.1 36 j ∧ τ_120.2.1 36 j ≤ 20000 := fun j => hT.2 36 j
    have A37 : ∀ j, 0 ≤ τ_120.2.1 37 j ∧ τ_120.2.1 37 j ≤ 19999 := fun j => hT.2 37 j
    have A84 : ∀ j, 0 ≤ τ_120.2.1 84 j ∧ τ_120.2.1 84 j ≤ 1499 := fun j => hT.2 84 j
    have v6 : 0 ≤ τ_120.1 6 ∧ τ_120.1 6 ≤ 30000 := hT.1 6
    have v7 : 0 ≤ τ_120.1 7 ∧ τ_120.1 7 ≤ 1500 := hT.1 7
    have v13 : 0 ≤ τ_120.1 13 ∧ τ_120.1 13 ≤ 90000 := hT.1 13
    have v14 : 0 ≤ τ_120.1 14 ∧ τ_120.1 14 ≤ 20000 := hT.1 14
    have v15 : 0 ≤ τ_120.1 15 ∧ τ_120.1 15 ≤ 20000 := hT.1 15
    have v54 : 0 ≤ τ_120.1 54 ∧ τ_120.1 54 ≤ 12000 := hT.1 54
    have v61 : 0 ≤ τ_120.1 61 ∧ τ_120.1 61 ≤ 12000 := hT.1 61
    have v62 : 0 ≤ τ_120.1 62 ∧ τ_120.1 62 ≤ 12000 := hT.1 62
    have CJ : J_all (τ_120.1 7) (τ_120.1 6) (τ_120.1 13) (τ_120.1 14) (τ_120.1 15) (τ_120.2.1 13) (τ_120.2.1 14) (τ_120.2.1 15) (τ_120.2.1 16) (τ_120.2.1 10) (τ_120.2.1 27) (τ_120.2.1 28) (τ_120.2.1 29) (τ_120.2.1 30) (τ_120.2.1 31) (τ_120.2.1 32) (τ_120.2.1 33) (τ_120.2.1 34) (τ_120.2.1 35) (τ_120.2.1 36) (τ_120.2.1 37) := by rw [show (J_all (τ_120.1 7) (τ_120.1 6) (τ_120.1 13) (τ_120.1 14) (τ_120.1 15) (τ_120.2.1 13) (τ_120.2.1 14) (τ_120.2.1 15) (τ_120.2.1 16) (τ_120.2.1 10) (τ_120.2.1 27) (τ_120.2.1 28) (τ_120.2.1 29) (τ_120.2.1 30) (τ_120.2.1 31) (τ_120.2.1 32) (τ_120.2.1 33) (τ_120.2.1 34) (τ_120.2.1 35) (τ_120.2.1 36) (τ_120.2.1 37)) = (J_all (σ.1 7) (σ.1 6) (σ.1 13) (σ.1 14) (σ.1 15) (σ.2.1 13) (σ.2.1 14) (σ.2.1 15) (σ.2.1 16) (σ.2.1 10) (σ.2.1 27) (σ.2.1 28) (σ.2.1 29) (σ.2.1 30) (σ.2.1 31) (σ.2.1 32) (σ.2.1 33) (σ.2.1 34) (σ.2.1 35) (σ.2.1 36) (σ.2.1 37)) from by rw [W6, W7, W13, W14, W15, G10, G13, G14, G15, G16, G27, G28, G29, G30, G31, G32, G33, G34, G35, G36, G37]]; exact CJ_0
    have TRE : g_tre (τ_120.1 7) (τ_120.1 54) (τ_120.2.1 13) (τ_120.2.1 14) (τ_120.2.1 27) (τ_120.2.1 28) (τ_120.2.1 29) (τ_120.2.1 84) := by rw [show (g_tre (τ_120.1 7) (τ_120.1 54) (τ_120.2.1 13) (τ_120.2.1 14) (τ_120.2.1 27) (τ_120.2.1 28) (τ_120.2.1 29) (τ_120.2.1 84)) = (g_tre (σ.1 7) (σ.1 54) (σ.2.1 13) (σ.2.1 14) (σ.2.1 27) (σ.2.1 28) (σ.2.1 29) (σ.2.1 84)) from by rw [W7, W54, G13, G14, G27, G28, G29, G84]]; exact TRE_0
    refine h120 k0_120 τ_120 ?_
    refine ⟨_, K_X11_behind hT (show 0 ≤ (1 : Int) from by (first | omega | (simp only [st_s] <;> omega) | assumption | omega | fail)) (show (1 : Int) ≤ (τ_120.1 54) from by (first | omega | (simp only [st_s] <;> omega) | assumption | omega | fail)), ?_⟩
    intro x26 r_x26 hq
    obtain ⟨q25_1, q25_2, q25_3⟩ := hq
    replace q25_1 : (1 : Int) ≤ x26 ∧ x26 ≤ (τ_120.1 54) := q25_1
    replace q25_2 : (1 : Int) < (τ_120.1 54) → (1 : Int) < x26 := q25_2
    replace q25_3 : g_bh (τ_120.1 54) (1 : Int) x26 (τ_120.2.1 13) (τ_120.2.1 28) (τ_120.2.1 84) := q25_3
    refine ⟨fun c28 => ?_, fun c28 => ?_⟩
    ·
      exact l_142 _ _ _ _ hT (show τ_120.1 6 = σ.1 6 from by first | exact W6 | omega) (show τ_120.1 7 = σ.1 7 from by first | exact W7 | omega) (show τ_120.1 13 = σ.1 13 from by first | exact W13 | omega) (show τ_120.1 14 = σ.1 14 from by first | exact W14 | omega) (show τ_120.1 15 = σ.1 15 from by first | exact W15 | omega) (show τ_120.1 54 = σ.1 54 from by first | exact W54 | omega) G10 G13 G14 G15 G16 G27 G28 G29 G30 G31 G32 G33 G34 G35 G36 G37 G84 (show 1 ≤ x26 ∧ x26 ≤ (σ.1 54) from by (first | omega | (simp only [st_s] <;> omega) | assumption | omega | fail)) (show 1 ≤ 1 ∧ 1 ≤ x26 from by (first | omega | (simp only [st_s] <;> omega) | assumption | omega | fail)) (show ∃ p : Int, g_fv (σ.2.1 84 0) p (σ.2.1 14) (σ.2.1 16) ∧ ((¬ k0_120 = 0 ∧ σ.2.1 29 (σ.2.1 27 (σ.2.1 84 0)) = σ.2.1 16 p) ∨ (k0_120 = 0 ∧ ¬ σ.2.1 29 (σ.2.1 27 (σ.2.1 84 0)) = σ.2.1 16 p)) from by exact i120_2) (show σ.2.1 13 (σ.2.1 84 0) = 2 ∧ σ.2.1 28 (σ.2.1 84 0) = 2 from by exact i120_3) (show g_bh (σ.1 54) 1 x26 (σ.2.1 13) (σ.2.1 28) (σ.2.1 84) from by (have w := q25_3; rw [W54, G13, G28, G84] at w; exact w)) (show (¬ k0_120 = 0 → 1 = x26) ∧ (k0_120 = 0 → 1 = 1) from by (first | exact ⟨fun z => absurd (by assumption) z, fun _ => rfl⟩ | exact ⟨fun _ => rfl, fun z => absurd z (by assumption)⟩ | fail))
    ·
      exact l_142 _ _ _ _ hT (show τ_120.1 6 = σ.1 6 from by first | exact W6 | omega) (show τ_120.1 7 = σ.1 7 from by first | exact W7 | omega) (show τ_120.1 13 = σ.1 13 from by first | exact W13 | omega) (show τ_120.1 14 = σ.1 14 from by first | exact W14 | omega) (show τ_120.1 15 = σ.1 15 from by first | exact W15 | omega) (show τ_120.1 54 = σ.1 54 from by first | exact W54 | omega) G10 G13 G14 G15 G16 G27 G28 G29 G30 G31 G32 G33 G34 G35 G36 G37 G84 (show 1 ≤ x26 ∧ x26 ≤ (σ.1 54) from by (first | omega | (simp only [st_s] <;> omega) | assumption | omega | fail)) (show 1 ≤ x26 ∧ x26 ≤ x26 from by (first | omega | (simp only [st_s] <;> omega) | assumption | omega | fail)) (show ∃ p : Int, g_fv (σ.2.1 84 0) p (σ.2.1 14) (σ.2.1 16) ∧ ((¬ k0_120 = 0 ∧ σ.2.1 29 (σ.2.1 27 (σ.2.1 84 0)) = σ.2.1 16 p) ∨ (k0_120 = 0 ∧ ¬ σ.2.1 29 (σ.2.1 27 (σ.2.1 84 0)) = σ.2.1 16 p)) from by exact i120_2) (show σ.2.1 13 (σ.2.1 84 0) = 2 ∧ σ.2.1 28 (σ.2.1 84 0) = 2 from by exact i120_3) (show g_bh (σ.1 54) 1 x26 (σ.2.1 13) (σ.2.1 28) (σ.2.1 84) from by (have w := q25_3; rw [W54, G13, G28, G84] at w; exact w)) (show (¬ k0_120 = 0 → x26 = x26) ∧ (k0_120 = 0 → x26 = 1) from by (first | exact ⟨fun z => absurd (by assumption) z, fun _ => rfl⟩ | exact ⟨fun _ => rfl, fun z => absurd z (by assumption)⟩ | fail))
  have l_86 : ∀ (u1_86 : Int) (u2_86 : Int) (τ_86 : S0), (c_T τ_86) → (τ_86.1 6 = σ.1 6) → (τ_86.1 7 = σ.1 7) → (τ_86.1 13 = σ.1 13) → (τ_86.1 14 = σ.1 14) → (τ_86.1 15 = σ.1 15) → (τ_86.1 54 = σ.1 54) → (τ_86.2.1 10 = σ.2.1 10) → (τ_86.2.1 13 = σ.2.1 13) → (τ_86.2.1 14 = σ.2.1 14) → (τ_86.2.1 15 = σ.2.1 15) → (τ_86.2.1 16 = σ.2.1 16) → (τ_86.2.1 27 = σ.2.1 27) → (τ_86.2.1 28 = σ.2.1 28) → (τ_86.2.1 29 = σ.2.1 29) → (τ_86.2.1 30 = σ.2.1 30) → (τ_86.2.1 31 = σ.2.1 31) → (τ_86.2.1 32 = σ.2.1 32) → (τ_86.2.1 33 = σ.2.1 33) → (τ_86.2.1 34 = σ.2.1 34) → (τ_86.2.1 35 = σ.2.1 35) → (τ_86.2.1 36 = σ.2.1 36) → (τ_86.2.1 37 = σ.2.1 37) → (τ_86.2.1 84 = σ.2.1 84) → (0 ≤ u1_86 ∧ u1_86 < (σ.1 7)) → (σ.2.1 27 u1_86 + 2 ≤ 90000) → (0 ≤ u2_86 ∧ u2_86 < 30000) → (u1_86 = σ.2.1 84 0) → (g_fv (σ.2.1 84 0) u2_86 (σ.2.1 14) (σ.2.1 16)) → (σ.2.1 13 (σ.2.1 84 0) = 2 ∧ σ.2.1 28 (σ.2.1 84 0) = 2) → P86 u1_86 u2_86 τ_86 := by
    intro u1_86 u2_86 τ_86 hT W6 W7 W13 W14 W15 W54 G10 G13 G14 G15 G16 G27 G28 G29 G30 G31 G32 G33 G34 G35 G36 G37 G84 i86_1 i86_2 i86_3 i86_4 i86_5 i86_6
    have A10 : ∀ j, (-1) ≤ τ_86.2.1 10 j ∧ τ_86.2.1 10 j ≤ 99 := fun j => hT.2 10 j
    have A13 : ∀ j, 0 ≤ τ_86.2.1 13 j ∧ τ_86.2.1 13 j ≤ 4 := fun j => hT.2 13 j
    have A14 : ∀ j, 0 ≤ τ_86.2.1 14 j ∧ τ_86.2.1 14 j ≤ 30000 := fun j => hT.2 14 j
    have A15 : ∀ j, 0 ≤ τ_86.2.1 15 j ∧ τ_86.2.1 15 j ≤ 999 := fun j => hT.2 15 j
    have A16 : ∀ j, (-1) ≤ τ_86.2.1 16 j ∧ τ_86.2.1 16 j ≤ 1499 := fun j => hT.2 16 j
    have A27 : ∀ j, 0 ≤ τ_86.2.1 27 j ∧ τ_86.2.1 27 j ≤ 90000 := fun j => hT.2 27 j
    have A28 : ∀ j, 0 ≤ τ_86.2.1 28 j ∧ τ_86.2.1 28 j ≤ 60 := fun j => hT.2 28 j
    have A29 : ∀ j, 0 ≤ τ_86.2.1 29 j ∧ τ_86.2.1 29 j ≤ 1499 := fun j => hT.2 29 j
    have A30 : ∀ j, 0 ≤ τ_86.2.1 30 j ∧ τ_86.2.1 30 j ≤ 20000 := fun j => hT.2 30 j
    have A31 : ∀ j, 0 ≤ τ_86.2.1 31 j ∧ τ_86.2.1 31 j ≤ 20000 := fun j => hT.2 31 j
    have A32 : ∀ j, 0 ≤ τ_86.2.1 32 j ∧ τ_86.2.1 32 j ≤ 999999 := fun j => hT.2 32 j
    have A33 : ∀ j, 0 ≤ τ_86.2.1 33 j ∧ τ_86.2.1 33 j ≤ 20000 := fun j => hT.2 33 j
    have A34 : ∀ j, 0 ≤ τ_86.2.1 34 j ∧ τ_86.2.1 34 j ≤ 20000 := fun j => hT.2 34 j
    have A35 : ∀ j, 0 ≤ τ_86.2.1 35 j ∧ τ_86.2.1 35 j ≤ 1499 := fun j => hT.2 35 j
    have A36 : ∀ j, 0 ≤ τ_86.2.1 36 j ∧ τ_86.2.1 36 j ≤ 20000 := fun j => hT.2 36 j
    have A37 : ∀ j, 0 ≤ τ_86.2.1 37 j ∧ τ_86.2.1 37 j ≤ 19999 := fun j => hT.2 37 j
    have A84 : ∀ j, 0 ≤ τ_86.2.1 84 j ∧ τ_86.2.1 84 j ≤ 1499 := fun j => hT.2 84 j
    have v6 : 0 ≤ τ_86.1 6 ∧ τ_86.1 6 ≤ 30000 := hT.1 6
    have v7 : 0 ≤ τ_86.1 7 ∧ τ_86.1 7 ≤ 1500 := hT.1 7
    have v13 : 0 ≤ τ_86.1 13 ∧ τ_86.1 13 ≤ 90000 := hT.1 13
    have v14 : 0 ≤ τ_86.1 14 ∧ τ_86.1 14 ≤ 20000 := hT.1 14
    have v15 : 0 ≤ τ_86.1 15 ∧ τ_86.1 15 ≤ 20000 := hT.1 15
    have v54 : 0 ≤ τ_86.1 54 ∧ τ_86.1 54 ≤ 12000 := hT.1 54
    have v61 : 0 ≤ τ_86.1 61 ∧ τ_86.1 61 ≤ 12000 := hT.1 61
    have v62 : 0 ≤ τ_86.1 62 ∧ τ_86.1 62 ≤ 12000 := hT.1 62
    have CJ : J_all (τ_86.1 7) (τ_86.1 6) (τ_86.1 13) (τ_86.1 14) (τ_86.1 15) (τ_86.2.1 13) (τ_86.2.1 14) (τ_86.2.1 15) (τ_86.2.1 16) (τ_86.2.1 10) (τ_86.2.1 27) (τ_86.2.1 28) (τ_86.2.1 29) (τ_86.2.1 30) (τ_86.2.1 31) (τ_86.2.1 32) (τ_86.2.1 33) (τ_86.2.1 34) (τ_86.2.1 35) (τ_86.2.1 36) (τ_86.2.1 37) := by rw [show (J_all (τ_86.1 7) (τ_86.1 6) (τ_86.1 13) (τ_86.1 14) (τ_86.1 15) (τ_86.2.1 13) (τ_86.2.1 14) (τ_86.2.1 15) (τ_86.2.1 16) (τ_86.2.1 10) (τ_86.2.1 27) (τ_86.2.1 28) (τ_86.2.1 29) (τ_86.2.1 30) (τ_86.2.1 31) (τ_86.2.1 32) (τ_86.2.1 33) (τ_86.2.1 34) (τ_86.2.1 35) (τ_86.2.1 36) (τ_86.2.1 37)) = (J_all (σ.1 7) (σ.1 6) (σ.1 13) (σ.1 14) (σ.1 15) (σ.2.1 13) (σ.2.1 14) (σ.2.1 15) (σ.2.1 16) (σ.2.1 10) (σ.2.1 27) (σ.2.1 28) (σ.2.1 29) (σ.2.1 30) (σ.2.1 31) (σ.2.1 32) (σ.2.1 33) (σ.2.1 34) (σ.2.1 35) (σ.2.1 36) (σ.2.1 37)) from by rw [W6, W7, W13, W14, W15, G10, G13, G14, G15, G16, G27, G28, G29, G30, G31, G32, G33, G34, G35, G36, G37]]; exact CJ_0
    have TRE : g_tre (τ_86.1 7) (τ_86.1 54) (τ_86.2.1 13) (τ_86.2.1 14) (τ_86.2.1 27) (τ_86.2.1 28) (τ_86.2.1 29) (τ_86.2.1 84) := by rw [show (g_tre (τ_86.1 7) (τ_86.1 54) (τ_86.2.1 13) (τ_86.2.1 14) (τ_86.2.1 27) (τ_86.2.1 28) (τ_86.2.1 29) (τ_86.2.1 84)) = (g_tre (σ.1 7) (σ.1 54) (σ.2.1 13) (σ.2.1 14) (σ.2.1 27) (σ.2.1 28) (σ.2.1 29) (σ.2.1 84)) from by rw [W7, W54, G13, G14, G27, G28, G29, G84]]; exact TRE_0
    refine h86 u1_86 u2_86 τ_86 ?_
    refine ⟨(show 0 ≤ u1_86 ∧ u1_86 < 1500 from by (first | omega | (simp only [st_s] <;> omega) | assumption | omega | fail)), ?_⟩
    intro x19 r_x19 e_x19
    have b_x19 : 0 ≤ x19 ∧ x19 ≤ 90000 := by rw [e_x19]; exact hT.2 27 _
    rw [G27] at e_x19
    refine ⟨(show 0 ≤ x19 ∧ x19 < 90000 from by (first | omega | (simp only [st_s] <;> omega) | assumption | omega | fail)), ?_⟩
    intro x21 r_x21 e_x21
    have b_x21 : 0 ≤ x21 ∧ x21 ≤ 1499 := by rw [e_x21]; exact hT.2 29 _
    rw [G29] at e_x21
    refine ⟨(show 0 ≤ u2_86 ∧ u2_86 < 30000 from by (first | omega | (simp only [st_s] <;> omega) | assumption | omega | fail)), ?_⟩
    intro x23 r_x23 e_x23
    have b_x23 : (-1) ≤ x23 ∧ x23 ≤ 1499 := by rw [e_x23]; exact hT.2 16 _
    rw [G16] at e_x23
    refine ⟨fun c24 => ?_, fun c24 => ?_⟩
    ·
      exact l_120 _ _ hT (show τ_86.1 6 = σ.1 6 from by first | exact W6 | omega) (show τ_86.1 7 = σ.1 7 from by first | exact W7 | omega) (show τ_86.1 13 = σ.1 13 from by first | exact W13 | omega) (show τ_86.1 14 = σ.1 14 from by first | exact W14 | omega) (show τ_86.1 15 = σ.1 15 from by first | exact W15 | omega) (show τ_86.1 54 = σ.1 54 from by first | exact W54 | omega) G10 G13 G14 G15 G16 G27 G28 G29 G30 G31 G32 G33 G34 G35 G36 G37 G84 (show 0 ≤ 0 ∧ 0 ≤ 1 from by (first | omega | (simp only [st_s] <;> omega) | assumption | omega | fail)) (show ∃ p : Int, g_fv (σ.2.1 84 0) p (σ.2.1 14) (σ.2.1 16) ∧ ((¬ 0 = 0 ∧ σ.2.1 29 (σ.2.1 27 (σ.2.1 84 0)) = σ.2.1 16 p) ∨ (0 = 0 ∧ ¬ σ.2.1 29 (σ.2.1 27 (σ.2.1 84 0)) = σ.2.1 16 p)) from by (first | exact ⟨u2_86, i86_5, Or.inr ⟨rfl, by rw [← i86_4, ← e_x19, ← e_x21, ← e_x23]; assumption⟩⟩ | exact ⟨u2_86, i86_5, Or.inl ⟨by decide, by rw [← i86_4, ← e_x19, ← e_x21, ← e_x23]; assumption⟩⟩ | fail)) (show σ.2.1 13 (σ.2.1 84 0) = 2 ∧ σ.2.1 28 (σ.2.1 84 0) = 2 from by exact i86_6)
    ·
      exact l_120 _ _ hT (show τ_86.1 6 = σ.1 6 from by first | exact W6 | omega) (show τ_86.1 7 = σ.1 7 from by first | exact W7 | omega) (show τ_86.1 13 = σ.1 13 from by first | exact W13 | omega) (show τ_86.1 14 = σ.1 14 from by first | exact W14 | omega) (show τ_86.1 15 = σ.1 15 from by first | exact W15 | omega) (show τ_86.1 54 = σ.1 54 from by first | exact W54 | omega) G10 G13 G14 G15 G16 G27 G28 G29 G30 G31 G32 G33 G34 G35 G36 G37 G84 (show 0 ≤ 1 ∧ 1 ≤ 1 from by (first | omega | (simp only [st_s] <;> omega) | assumption | omega | fail)) (show ∃ p : Int, g_fv (σ.2.1 84 0) p (σ.2.1 14) (σ.2.1 16) ∧ ((¬ 1 = 0 ∧ σ.2.1 29 (σ.2.1 27 (σ.2.1 84 0)) = σ.2.1 16 p) ∨ (1 = 0 ∧ ¬ σ.2.1 29 (σ.2.1 27 (σ.2.1 84 0)) = σ.2.1 16 p)) from by (first | exact ⟨u2_86, i86_5, Or.inr ⟨rfl, by rw [← i86_4, ← e_x19, ← e_x21, ← e_x23]; assumption⟩⟩ | exact ⟨u2_86, i86_5, Or.inl ⟨by decide, by rw [← i86_4, ← e_x19, ← e_x21, ← e_x23]; assumption⟩⟩ | fail)) (show σ.2.1 13 (σ.2.1 84 0) = 2 ∧ σ.2.1 28 (σ.2.1 84 0) = 2 from by exact i86_6)
  have l_50 : ∀ (m_50 : Nat) (u1_50 : Int) (u2_50 : Int) (τ_50 : S0), 30001 - u2_50 < (m_50 : Int) → (c_T τ_50) → (τ_50.1 6 = σ.1 6) → (τ_50.1 7 = σ.1 7) → (τ_50.1 13 = σ.1 13) → (τ_50.1 14 = σ.1 14) → (τ_50.1 15 = σ.1 15) → (τ_50.1 54 = σ.1 54) → (τ_50.2.1 10 = σ.2.1 10) → (τ_50.2.1 13 = σ.2.1 13) → (τ_50.2.1 14 = σ.2.1 14) → (τ_50.2.1 15 = σ.2.1 15) → (τ_50.2.1 16 = σ.2.1 16) → (τ_50.2.1 27 = σ.2.1 27) → (τ_50.2.1 28 = σ.2.1 28) → (τ_50.2.1 29 = σ.2.1 29) → (τ_50.2.1 30 = σ.2.1 30) → (τ_50.2.1 31 = σ.2.1 31) → (τ_50.2.1 32 = σ.2.1 32) → (τ_50.2.1 33 = σ.2.1 33) → (τ_50.2.1 34 = σ.2.1 34) → (τ_50.2.1 35 = σ.2.1 35) → (τ_50.2.1 36 = σ.2.1 36) → (τ_50.2.1 37 = σ.2.1 37) → (τ_50.2.1 84 = σ.2.1 84) → (0 ≤ u1_50 ∧ u1_50 < (σ.1 7)) → (σ.2.1 13 u1_50 = 2 ∧ σ.2.1 28 u1_50 = 2) → (σ.2.1 14 u1_50 + 2 ≤ σ.2.1 14 (u1_50 + 1) ∧ σ.2.1 14 (u1_50 + 1) ≤ 30000) → (σ.2.1 27 u1_50 + 2 ≤ 90000 ∧ 0 ≤ σ.2.1 14 u1_50) → (σ.2.1 14 u1_50 + 1 ≤ u2_50 ∧ u2_50 ≤ σ.2.1 14 (u1_50 + 1) - 1) → (u1_50 = σ.2.1 84 0) → (∀ j : Int, σ.2.1 14 u1_50 + 1 ≤ j → j < u2_50 → σ.2.1 16 j = -1) → P50 u1_50 u2_50 τ_50 := by
    intro m_50
    induction m_50 with
    | zero =>
      intro u1_50 u2_50 τ_50 hm hT W6 W7 W13 W14 W15 W54 G10 G13 G14 G15 G16 G27 G28 G29 G30 G31 G32 G33 G34 G35 G36 G37 G84 i50_1 i50_2 i50_3 i50_4 i50_5 i50_6 i50_7
      have A10 : ∀ j, (-1) ≤ τ_50.2.1 10 j ∧ τ_50.2.1 10 j ≤ 99 := fun j => hT.2 10 j
      have A13 : ∀ j, 0 ≤ τ_50.2.1 13 j ∧ τ_50.2.1 13 j ≤ 4 := fun j => hT.2 13 j
      have A14 : ∀ j, 0 ≤ τ_50.2.1 14 j ∧ τ_50.2.1 14 j ≤ 30000 := fun j => hT.2 14 j
      have A15 : ∀ j, 0 ≤ τ_50.2.1 15 j ∧ τ_50.2.1 15 j ≤ 999 := fun j => hT.2 15 j
      have A16 : ∀ j, (-1) ≤ τ_50.2.1 16 j ∧ τ_50.2.1 16 j ≤ 1499 := fun j => hT.2 16 j
      have A27 : ∀ j, 0 ≤ τ_50.2.1 27 j ∧ τ_50.2.1 27 j ≤ 90000 := fun j => hT.2 27 j
      have A28 : ∀ j, 0 ≤ τ_50.2.1 28 j ∧ τ_50.2.1 28 j ≤ 60 := fun j => hT.2 28 j
      have A29 : ∀ j, 0 ≤ τ_50.2.1 29 j ∧ τ_50.2.1 29 j ≤ 1499 := fun j => hT.2 29 j
      have A30 : ∀ j, 0 ≤ τ_50.2.1 30 j ∧ τ_50.2.1 30 j ≤ 20000 := fun j => hT.2 30 j
      have A31 : ∀ j, 0 ≤ τ_50.2.1 31 j ∧ τ_50.2.1 31 j ≤ 20000 := fun j => hT.2 31 j
      have A32 : ∀ j, 0 ≤ τ_50.2.1 32 j ∧ τ_50.2.1 32 j ≤ 999999 := fun j => hT.2 32 j
      have A33 : ∀ j, 0 ≤ τ_50.2.1 33 j ∧ τ_50.2.1 33 j ≤ 20000 := fun j => hT.2 33 j
      have A34 : ∀ j, 0 ≤ τ_50.2.1 34 j ∧ τ_50.2.1 34 j ≤ 20000 := fun j => hT.2 34 j
      have A35 : ∀ j, 0 ≤ τ_50.2.1 35 j ∧ τ_50.2.1 35 j ≤ 1499 := fun j => hT.2 35 j
      have A36 : ∀ j, 0 ≤ τ_50.2.1 36 j ∧ τ_50.2.1 36 j ≤ 20000 := fun j => hT.2 36 j
      have A37 : ∀ j, 0 ≤ τ_50.2.1 37 j ∧ τ_50.2.1 37 j ≤ 19999 := fun j => hT.2 37 j
      have A84 : ∀ j, 0 ≤ τ_50.2.1 84 j ∧ τ_50.2.1 84 j ≤ 1499 := fun j => hT.2 84 j
      have v6 : 0 ≤ τ_50.1 6 ∧ τ_50.1 6 ≤ 30000 := hT.1 6
      have v7 : 0 ≤ τ_50.1 7 ∧ τ_50.1 7 ≤ 1500 := hT.1 7
      have v13 : 0 ≤ τ_50.1 13 ∧ τ_50.1 13 ≤ 90000 := hT.1 13
      have v14 : 0 ≤ τ_50.1 14 ∧ τ_50.1 14 ≤ 20000 := hT.1 14
      have v15 : 0 ≤ τ_50.1 15 ∧ τ_50.1 15 ≤ 20000 := hT.1 15
      have v54 : 0 ≤ τ_50.1 54 ∧ τ_50.1 54 ≤ 12000 := hT.1 54
      have v61 : 0 ≤ τ_50.1 61 ∧ τ_50.1 61 ≤ 12000 := hT.1 61
      have v62 : 0 ≤ τ_50.1 62 ∧ τ_50.1 62 ≤ 12000 := hT.1 62
      exfalso; (first | omega | (simp only [st_s] <;> omega) | assumption | omega | fail)
    | succ m_50 ih_50 =>
      intro u1_50 u2_50 τ_50 hm_50 hT W6 W7 W13 W14 W15 W54 G10 G13 G14 G15 G16 G27 G28 G29 G30 G31 G32 G33 G34 G35 G36 G37 G84 i50_1 i50_2 i50_3 i50_4 i50_5 i50_6 i50_7
      have A10 : ∀ j, (-1) ≤ τ_50.2.1 10 j ∧ τ_50.2.1 10 j ≤ 99 := fun j => hT.2 10 j
      have A13 : ∀ j, 0 ≤ τ_50.2.1 13 j ∧ τ_50.2.1 13 j ≤ 4 := fun j => hT.2 13 j
      have A14 : ∀ j, 0 ≤ τ_50.2.1 14 j ∧ τ_50.2.1 14 j ≤ 30000 := fun j => hT.2 14 j
      have A15 : ∀ j, 0 ≤ τ_50.2.1 15 j ∧ τ_50.2.1 15 j ≤ 999 := fun j => hT.2 15 j
      have A16 : ∀ j, (-1) ≤ τ_50.2.1 16 j ∧ τ_50.2.1 16 j ≤ 1499 := fun j => hT.2 16 j
      have A27 : ∀ j, 0 ≤ τ_50.2.1 27 j ∧ τ_50.2.1 27 j ≤ 90000 := fun j => hT.2 27 j
      have A28 : ∀ j, 0 ≤ τ_50.2.1 28 j ∧ τ_50.2.1 28 j ≤ 60 := fun j => hT.2 28 j
      have A29 : ∀ j, 0 ≤ τ_50.2.1 29 j ∧ τ_50.2.1 29 j ≤ 1499 := fun j => hT.2 29 j
      have A30 : ∀ j, 0 ≤ τ_50.2.1 30 j ∧ τ_50.2.1 30 j ≤ 20000 := fun j => hT.2 30 j
      have A31 : ∀ j, 0 ≤ τ_50.2.1 31 j ∧ τ_50.2.1 31 j ≤ 20000 := fun j => hT.2 31 j
      have A32 : ∀ j, 0 ≤ τ_50.2.1 32 j ∧ τ_50.2.1 32 j ≤ 999999 := fun j => hT.2 32 j
      have A33 : ∀ j, 0 ≤ τ_50.2.1 33 j ∧ τ_50.2.1 33 j ≤ 20000 := fun j => hT.2 33 j
      have A34 : ∀ j, 0 ≤ τ_50.2.1 34 j ∧ τ_50.2.1 34 j ≤ 20000 := fun j => hT.2 34 j
      have A35 : ∀ j, 0 ≤ τ_50.2.1 35 j ∧ τ_50.2.1 35 j ≤ 1499 := fun j => hT.2 35 j
      have A36 : ∀ j, 0 ≤ τ_50.2.1 36 j ∧ τ_50.2.1 36 j ≤ 20000 := fun j => hT.2 36 j
      have A37 : ∀ j, 0 ≤ τ_50.2.1 37 j ∧ τ_50.2.1 37 j ≤ 19999 := fun j => hT.2 37 j
      have A84 : ∀ j, 0 ≤ τ_50.2.1 84 j ∧ τ_50.2.1 84 j ≤ 1499 := fun j => hT.2 84 j
      have v6 : 0 ≤ τ_50.1 6 ∧ τ_50.1 6 ≤ 30000 := hT.1 6
      have v7 : 0 ≤ τ_50.1 7 ∧ τ_50.1 7 ≤ 1500 := hT.1 7
      have v13 : 0 ≤ τ_50.1 13 ∧ τ_50.1 13 ≤ 90000 := hT.1 13
      have v14 : 0 ≤ τ_50.1 14 ∧ τ_50.1 14 ≤ 20000 := hT.1 14
      have v15 : 0 ≤ τ_50.1 15 ∧ τ_50.1 15 ≤ 20000 := hT.1 15
      have v54 : 0 ≤ τ_50.1 54 ∧ τ_50.1 54 ≤ 12000 := hT.1 54
      have v61 : 0 ≤ τ_50.1 61 ∧ τ_50.1 61 ≤ 12000 := hT.1 61
      have v62 : 0 ≤ τ_50.1 62 ∧ τ_50.1 62 ≤ 12000 := hT.1 62
      have CJ : J_all (τ_50.1 7) (τ_50.1 6) (τ_50.1 13) (τ_50.1 14) (τ_50.1 15) (τ_50.2.1 13) (τ_50.2.1 14) (τ_50.2.1 15) (τ_50.2.1 16) (τ_50.2.1 10) (τ_50.2.1 27) (τ_50.2.1 28) (τ_50.2.1 29) (τ_50.2.1 30) (τ_50.2.1 31) (τ_50.2.1 32) (τ_50.2.1 33) (τ_50.2.1 34) (τ_50.2.1 35) (τ_50.2.1 36) (τ_50.2.1 37) := by rw [show (J_all (τ_50.1 7) (τ_50.1 6) (τ_50.1 13) (τ_50.1 14) (τ_50.1 15) (τ_50.2.1 13) (τ_50.2.1 14) (τ_50.2.1 15) (τ_50.2.1 16) (τ_50.2.1 10) (τ_50.2.1 27) (τ_50.2.1 28) (τ_50.2.1 29) (τ_50.2.1 30) (τ_50.2.1 31) (τ_50.2.1 32) (τ_50.2.1 33) (τ_50.2.1 34) (τ_50.2.1 35) (τ_50.2.1 36) (τ_50.2.1 37)) = (J_all (σ.1 7) (σ.1 6) (σ.1 13) (σ.1 14) (σ.1 15) (σ.2.1 13) (σ.2.1 14) (σ.2.1 15) (σ.2.1 16) (σ.2.1 10) (σ.2.1 27) (σ.2.1 28) (σ.2.1 29) (σ.2.1 30) (σ.2.1 31) (σ.2.1 32) (σ.2.1 33) (σ.2.1 34) (σ.2.1 35) (σ.2.1 36) (σ.2.1 37)) from by rw [W6, W7, W13, W14, W15, G10, G13, G14, G15, G16, G27, G28, G29, G30, G31, G32, G33, G34, G35, G36, G37]]; exact CJ_0
      have TRE : g_tre (τ_50.1 7) (τ_50.1 54) (τ_50.2.1 13) (τ_50.2.1 14) (τ_50.2.1 27) (τ_50.2.1 28) (τ_50.2.1 29) (τ_50.2.1 84) := by rw [show (g_tre (τ_50.1 7) (τ_50.1 54) (τ_50.2.1 13) (τ_50.2.1 14) (τ_50.2.1 27) (τ_50.2.1 28) (τ_50.2.1 29) (τ_50.2.1 84)) = (g_tre (σ.1 7) (σ.1 54) (σ.2.1 13) (σ.2.1 14) (σ.2.1 27) (σ.2.1 28) (σ.2.1 29) (σ.2.1 84)) from by rw [W7, W54, G13, G14, G27, G28, G29, G84]]; exact TRE_0
      refine h50 u1_50 u2_50 τ_50 ?_
      refine ⟨(show 0 ≤ (u1_50 + 1) ∧ (u1_50 + 1) < 1501 from by (first | omega | (simp only [st_s] <;> omega) | assumption | omega | fail)), ?_⟩
      intro x11 r_x11 e_x11
      have b_x11 : 0 ≤ x11 ∧ x11 ≤ 30000 := by rw [e_x11]; exact hT.2 14 _
      rw [G14] at e_x11
      refine ⟨(⟨by (first | omega | (simp only [st_s] <;> omega) | assumption | omega | fail), by (first | omega | (simp only [st_s] <;> omega) | assumption | omega | fail)⟩ : rg (x11 - 1)), ?_⟩
      refine ⟨fun c13 => ?_, fun c13 => ?_⟩
      ·
        exact l_86 _ _ _ hT (show τ_50.1 6 = σ.1 6 from by first | exact W6 | omega) (show τ_50.1 7 = σ.1 7 from by first | exact W7 | omega) (show τ_50.1 13 = σ.1 13 from by first | exact W13 | omega) (show τ_50.1 14 = σ.1 14 from by first | exact W14 | omega) (show τ_50.1 15 = σ.1 15 from by first | exact W15 | omega) (show τ_50.1 54 = σ.1 54 from by first | exact W54 | omega) G10 G13 G14 G15 G16 G27 G28 G29 G30 G31 G32 G33 G34 G35 G36 G37 G84 (show 0 ≤ u1_50 ∧ u1_50 < (σ.1 7) from by (first | omega | (simp only [st_s] <;> omega) | assumption | omega | fail)) (show σ.2.1 27 u1_50 + 2 ≤ 90000 from by (first | omega | (simp only [st_s] <;> omega) | assumption | omega | fail)) (show 0 ≤ u2_50 ∧ u2_50 < 30000 from by (first | omega | (simp only [st_s] <;> omega) | assumption | omega | fail)) (show u1_50 = σ.2.1 84 0 from by exact i50_6) (show g_fv (σ.2.1 84 0) u2_50 (σ.2.1 14) (σ.2.1 16) from by (rw [← i50_6]; exact ⟨by omega, i50_7, fun z => by first | (exfalso; omega) | (rw [← e_x15]; assumption)⟩)) (show σ.2.1 13 (σ.2.1 84 0) = 2 ∧ σ.2.1 28 (σ.2.1 84 0) = 2 from by (rw [← i50_6]; exact i50_2))
      ·
        refine ⟨(show 0 ≤ u2_50 ∧ u2_50 < 30000 from by (first | omega | (simp only [st_s] <;> omega) | assumption | omega | fail)), ?_⟩
        intro x15 r_x15 e_x15
        have b_x15 : (-1) ≤ x15 ∧ x15 ≤ 1499 := by rw [e_x15]; exact hT.2 16 _
        rw [G16] at e_x15
        refine ⟨fun c16 => ?_, fun c16 => ?_⟩
        ·
          exact l_86 _ _ _ hT (show τ_50.1 6 = σ.1 6 from by first | exact W6 | omega) (show τ_50.1 7 = σ.1 7 from by first | exact W7 | omega) (show τ_50.1 13 = σ.1 13 from by first | exact W13 | omega) (show τ_50.1 14 = σ.1 14 from by first | exact W14 | omega) (show τ_50.1 15 = σ.1 15 from by first | exact W15 | omega) (show τ_50.1 54 = σ.1 54 from by first | exact W54 | omega) G10 G13 G14 G15 G16 G27 G28 G29 G30 G31 G32 G33 G34 G35 G36 G37 G84 (show 0 ≤ u1_50 ∧ u1_50 < (σ.1 7) from by (first | omega | (simp only [st_s] <;> omega) | assumption | omega | fail)) (show σ.2.1 27 u1_50 + 2 ≤ 90000 from by (first | omega | (simp only [st_s] <;> omega) | assumption | omega | fail)) (show 0 ≤ u2_50 ∧ u2_50 < 30000 from by (first | omega | (simp only [st_s] <;> omega) | assumption | omega | fail)) (show u1_50 = σ.2.1 84 0 from by exact i50_6) (show g_fv (σ.2.1 84 0) u2_50 (σ.2.1 14) (σ.2.1 16) from by (rw [← i50_6]; exact ⟨by omega, i50_7, fun z => by first | (exfalso; omega) | (rw [← e_x15]; assumption)⟩)) (show σ.2.1 13 (σ.2.1 84 0) = 2 ∧ σ.2.1 28 (σ.2.1 84 0) = 2 from by (rw [← i50_6]; exact i50_2))
        ·
          refine ⟨(⟨by (first | omega | (simp only [st_s] <;> omega) | assumption | omega | fail), by (first | omega | (simp only [st_s] <;> omega) | assumption | omega | fail)⟩ : rg (u2_50 + 1)), ?_⟩
          exact ih_50 _ _ _ (show (30001 - (u2_50 + 1) : Int) < ((m_50 : Nat) : Int) from by ((first | omega | (simp only [st_s] <;> omega) | assumption | omega | fail))) hT (show τ_50.1 6 = σ.1 6 from by first | exact W6 | omega) (show τ_50.1 7 = σ.1 7 from by first | exact W7 | omega) (show τ_50.1 13 = σ.1 13 from by first | exact W13 | omega) (show τ_50.1 14 = σ.1 14 from by first | exact W14 | omega) (show τ_50.1 15 = σ.1 15 from by first | exact W15 | omega) (show τ_50.1 54 = σ.1 54 from by first | exact W54 | omega) G10 G13 G14 G15 G16 G27 G28 G29 G30 G31 G32 G33 G34 G35 G36 G37 G84 (show 0 ≤ u1_50 ∧ u1_50 < (σ.1 7) from by (first | omega | (simp only [st_s] <;> omega) | assumption | omega | fail)) (show σ.2.1 13 u1_50 = 2 ∧ σ.2.1 28 u1_50 = 2 from by (first | omega | (simp only [st_s] <;> omega) | assumption | omega | fail)) (show σ.2.1 14 u1_50 + 2 ≤ σ.2.1 14 (u1_50 + 1) ∧ σ.2.1 14 (u1_50 + 1) ≤ 30000 from by (first | omega | (simp only [st_s] <;> omega) | assumption | omega | fail)) (show σ.2.1 27 u1_50 + 2 ≤ 90000 ∧ 0 ≤ σ.2.1 14 u1_50 from by (first | omega | (simp only [st_s] <;> omega) | assumption | omega | fail)) (show σ.2.1 14 u1_50 + 1 ≤ (u2_50 + 1) ∧ (u2_50 + 1) ≤ σ.2.1 14 (u1_50 + 1) - 1 from by (first | omega | (simp only [st_s] <;> omega) | assumption | omega | fail)) (show u1_50 = σ.2.1 84 0 from by (first | exact e_x1 | exact i50_6 | fail)) (show ∀ j : Int, σ.2.1 14 u1_50 + 1 ≤ j → j < (u2_50 + 1) → σ.2.1 16 j = -1 from by (first | (intro j a b; exfalso; omega) | (intro j a b; rcases (by omega : j < u2_50 ∨ j = u2_50) with q | q; exact i50_7 j a q; (rw [q, ← e_x15]; assumption)) | fail))
  intro x1 r_x1 e_x1
  have b_x1 : 0 ≤ x1 ∧ x1 ≤ 1499 := by rw [e_x1]; exact hT.2 84 _
  have nd1 := nd0.1
  rw [← e_x1] at nd1
  refine ⟨(show 0 ≤ x1 ∧ x1 < 1500 from by (first | omega | (simp only [st_s] <;> omega) | assumption | omega | fail)), ?_⟩
  intro x3 r_x3 e_x3
  have b_x3 : 0 ≤ x3 ∧ x3 ≤ 4 := by rw [e_x3]; exact hT.2 13 _
  refine ⟨fun c4 => ?_, fun c4 => ?_⟩
  ·
    exact ⟨hT, (show 0 ≤ 0 ∧ 0 ≤ 1 from by (first | omega | (simp only [st_s] <;> omega) | assumption | omega | fail)), (show ¬ 0 = 0 → (1 ≤ (σ.1 61) ∧ (σ.1 61) < (σ.1 54)) ∧ 1 ≤ (σ.1 62) ∧ (σ.1 62) < (σ.1 54) from by (first | omega | (simp only [st_s] <;> omega) | assumption | omega | fail)), (show ¬ 0 = 0 → g_pp (σ.1 54) (σ.1 61) (σ.2.1 13) (σ.2.1 14) (σ.2.1 16) (σ.2.1 27) (σ.2.1 28) (σ.2.1 29) (σ.2.1 84) from by (first | (intro z; exact absurd rfl z) | (intro _; have q9 := i156_4; obtain ⟨k, kg, kh⟩ := q9; exact g_pp_k i156_5.1 i156_5.2 kg i156_6 (by omega) kh) | fail)), (show 0 = 0 → ∀ y : Int, ¬ g_pp (σ.1 54) y (σ.2.1 13) (σ.2.1 14) (σ.2.1 16) (σ.2.1 27) (σ.2.1 28) (σ.2.1 29) (σ.2.1 84) from by (first | (intro z; exfalso; omega) | (intro _ y h; exact absurd h.1 (by rw [← e_x1, ← e_x3]; assumption)) | (intro _ y h; exact absurd h.2.1 (by rw [← e_x1, ← e_x5]; assumption)) | (intro _ y h; have q9 := h; obtain ⟨_, _, p, l, _, hb, hl, _⟩ := q9; have := g_bh_u hb i156_6; omega) | fail))⟩
  ·
    intro x5 r_x5 e_x5
    have b_x5 : 0 ≤ x5 ∧ x5 ≤ 60 := by rw [e_x5]; exact hT.2 28 _
    refine ⟨fun c6 => ?_, fun c6 => ?_⟩
    ·
      have rf0 : g_rf x1 (σ.2.1 13) (σ.2.1 14) (σ.2.1 27) (σ.2.1 28) (σ.2.1 29) := by (rw [e_x1]; exact nd0.2.resolve_left (by rw [← e_x1]; omega))
      have jq := p1.1 x1 (by omega) (by omega)
      have jt := jq.1.1
      have jf := (jq.2.1 (by omega)).1
      have rl := rf0.2.1
      refine ⟨(show 0 ≤ x1 ∧ x1 < 1501 from by (first | omega | (simp only [st_s] <;> omega) | assumption | omega | fail)), ?_⟩
      intro x8 r_x8 e_x8
      have b_x8 : 0 ≤ x8 ∧ x8 ≤ 30000 := by rw [e_x8]; exact hT.2 14 _
      refine ⟨(⟨by (first | omega | (simp only [st_s] <;> omega) | assumption | omega | fail), by (first | omega | (simp only [st_s] <;> omega) | assumption | omega | fail)⟩ : rg (x8 + 1)), ?_⟩
      exact l_50 ((30001 - (x8 + 1) : Int).toNat + 1) _ _ _ (show (30001 - (x8 + 1) : Int) < (((30001 - (x8 + 1) : Int).toNat + 1 : Nat) : Int) from by ((first | omega | (simp only [st_s] <;> omega) | assumption | omega | fail))) hT (show σ.1 6 = σ.1 6 from by first | exact W6 | omega) (show σ.1 7 = σ.1 7 from by first | exact W7 | omega) (show σ.1 13 = σ.1 13 from by first | exact W13 | omega) (show σ.1 14 = σ.1 14 from by first | exact W14 | omega) (show σ.1 15 = σ.1 15 from by first | exact W15 | omega) (show σ.1 54 = σ.1 54 from by first | exact W54 | omega) G10 G13 G14 G15 G16 G27 G28 G29 G30 G31 G32 G33 G34 G35 G36 G37 G84 (show 0 ≤ x1 ∧ x1 < (σ.1 7) from by (first | omega | (simp only [st_s] <;> omega) | assumption | omega | fail)) (show σ.2.1 13 x1 = 2 ∧ σ.2.1 28 x1 = 2 from by (first | omega | (simp only [st_s] <;> omega) | assumption | omega | fail)) (show σ.2.1 14 x1 + 2 ≤ σ.2.1 14 (x1 + 1) ∧ σ.2.1 14 (x1 + 1) ≤ 30000 from by (first | omega | (simp only [st_s] <;> omega) | assumption | omega | fail)) (show σ.2.1 27 x1 + 2 ≤ 90000 ∧ 0 ≤ σ.2.1 14 x1 from by (first | omega | (simp only [st_s] <;> omega) | assumption | omega | fail)) (show σ.2.1 14 x1 + 1 ≤ (x8 + 1) ∧ (x8 + 1) ≤ σ.2.1 14 (x1 + 1) - 1 from by (first | omega | (simp only [st_s] <;> omega) | assumption | omega | fail)) (show x1 = σ.2.1 84 0 from by (first | exact e_x1 | exact i50_6 | fail)) (show ∀ j : Int, σ.2.1 14 x1 + 1 ≤ j → j < (x8 + 1) → σ.2.1 16 j = -1 from by (first | (intro j a b; exfalso; omega) | (intro j a b; rcases (by omega : j < u2_50 ∨ j = u2_50) with q | q; exact i50_7 j a q; (rw [q, ← e_x15]; assumption)) | fail))
    ·
      exact ⟨hT, (show 0 ≤ 0 ∧ 0 ≤ 1 from by (first | omega | (simp only [st_s] <;> omega) | assumption | omega | fail)), (show ¬ 0 = 0 → (1 ≤ (σ.1 61) ∧ (σ.1 61) < (σ.1 54)) ∧ 1 ≤ (σ.1 62) ∧ (σ.1 62) < (σ.1 54) from by (first | omega | (simp only [st_s] <;> omega) | assumption | omega | fail)), (show ¬ 0 = 0 → g_pp (σ.1 54) (σ.1 61) (σ.2.1 13) (σ.2.1 14) (σ.2.1 16) (σ.2.1 27) (σ.2.1 28) (σ.2.1 29) (σ.2.1 84) from by (first | (intro z; exact absurd rfl z) | (intro _; have q9 := i156_4; obtain ⟨k, kg, kh⟩ := q9; exact g_pp_k i156_5.1 i156_5.2 kg i156_6 (by omega) kh) | fail)), (show 0 = 0 → ∀ y : Int, ¬ g_pp (σ.1 54) y (σ.2.1 13) (σ.2.1 14) (σ.2.1 16) (σ.2.1 27) (σ.2.1 28) (σ.2.1 29) (σ.2.1 84) from by (first | (intro z; exfalso; omega) | (intro _ y h; exact absurd h.1 (by rw [← e_x1, ← e_x3]; assumption)) | (intro _ y h; exact absurd h.2.1 (by rw [← e_x1, ← e_x5]; assumption)) | (intro _ y h; have q9 := h; obtain ⟨_, _, p, l, _, hb, hl, _⟩ := q9; have := g_bh_u hb i156_6; omega) | fail))⟩
set_option maxHeartbeats 2000000 in
theorem K_X2_fillSlots {n1 : Int} {σ : S0} (hT : c_T σ) (p1 : 0 ≤ n1) (p2 : n1 < 1500) (p3 : J_all (σ.1 7) (σ.1 6) (σ.1 13) (σ.1 14) (σ.1 15) (σ.2.1 13) (σ.2.1 14) (σ.2.1 15) (σ.2.1 16) (σ.2.1 10) (σ.2.1 27) (σ.2.1 28) (σ.2.1 29) (σ.2.1 30) (σ.2.1 31) (σ.2.1 32) (σ.2.1 33) (σ.2.1 34) (σ.2.1 35) (σ.2.1 36) (σ.2.1 37)) (p4 : g_tre (σ.1 7) (σ.1 54) (σ.2.1 13) (σ.2.1 14) (σ.2.1 27) (σ.2.1 28) (σ.2.1 29) (σ.2.1 84)) (p5 : ∀ v, σ.2.1 100 v = 0) (p6 : 0 ≤ (σ.1 61)) (p7 : (σ.1 61) + σ.2.1 28 n1 < (σ.1 54)) : W_X2_fillSlots n1 σ (fun (x : Int) (τ : S0) => (c_T τ) ∧ (0 ≤ x ∧ x ≤ 1) ∧ (g_sl (σ.1 61) (σ.2.1 28 n1) 1 (σ.2.1 13) (σ.2.1 14) (σ.2.1 15) (σ.2.1 84) (τ.2.1 100)) ∧ (¬ x = 0 → g_fx (σ.1 61) (σ.2.1 28 n1 + 1) (σ.2.1 13) (σ.2.1 14) (σ.2.1 15) (σ.2.1 84)) ∧ (x = 0 → ¬ g_fx (σ.1 61) (σ.2.1 28 n1 + 1) (σ.2.1 13) (σ.2.1 14) (σ.2.1 15) (σ.2.1 84))) := by
  have A10 : ∀ j, (-1) ≤ σ.2.1 10 j ∧ σ.2.1 10 j ≤ 99 := fun j => hT.2 10 j
  have A13 : ∀ j, 0 ≤ σ.2.1 13 j ∧ σ.2.1 13 j ≤ 4 := fun j => hT.2 13 j
  have A14 : ∀ j, 0 ≤ σ.2.1 14 j ∧ σ.2.1 14 j ≤ 30000 := fun j => hT.2 14 j
  have A15 : ∀ j, 0 ≤ σ.2.1 15 j ∧ σ.2.1 15 j ≤ 999 := fun j => hT.2 15 j
  have A16 : ∀ j, (-1) ≤ σ.2.1 16 j ∧ σ.2.1 16 j ≤ 1499 := fun j => hT.2 16 j
  have A27 : ∀ j, 0 ≤ σ.2.1 27 j ∧ σ.2.1 27 j ≤ 90000 := fun j => hT.2 27 j
  have A28 : ∀ j, 0 ≤ σ.2.1 28 j ∧ σ.2.1 28 j ≤ 60 := fun j => hT.2 28 j
  have A29 : ∀ j, 0 ≤ σ.2.1 29 j ∧ σ.2.1 29 j ≤ 1499 := fun j => hT.2 29 j
  have A30 : ∀ j, 0 ≤ σ.2.1 30 j ∧ σ.2.1 30 j ≤ 20000 := fun j => hT.2 30 j
  have A31 : ∀ j, 0 ≤ σ.2.1 31 j ∧ σ.2.1 31 j ≤ 20000 := fun j => hT.2 31 j
  have A32 : ∀ j, 0 ≤ σ.2.1 32 j ∧ σ.2.1 32 j ≤ 999999 := fun j => hT.2 32 j
  have A33 : ∀ j, 0 ≤ σ.2.1 33 j ∧ σ.2.1 33 j ≤ 20000 := fun j => hT.2 33 j
  have A34 : ∀ j, 0 ≤ σ.2.1 34 j ∧ σ.2.1 34 j ≤ 20000 := fun j => hT.2 34 j
  have A35 : ∀ j, 0 ≤ σ.2.1 35 j ∧ σ.2.1 35 j ≤ 1499 := fun j => hT.2 35 j
  have A36 : ∀ j, 0 ≤ σ.2.1 36 j ∧ σ.2.1 36 j ≤ 20000 := fun j => hT.2 36 j
  have A37 : ∀ j, 0 ≤ σ.2.1 37 j ∧ σ.2.1 37 j ≤ 19999 := fun j => hT.2 37 j
  have A84 : ∀ j, 0 ≤ σ.2.1 84 j ∧ σ.2.1 84 j ≤ 1499 := fun j => hT.2 84 j
  have A100 : ∀ j, 0 ≤ σ.2.1 100 j ∧ σ.2.1 100 j ≤ 1060 := fun j => hT.2 100 j
  have v6 : 0 ≤ σ.1 6 ∧ σ.1 6 ≤ 30000 := hT.1 6
  have v7 : 0 ≤ σ.1 7 ∧ σ.1 7 ≤ 1500 := hT.1 7
  have v13 : 0 ≤ σ.1 13 ∧ σ.1 13 ≤ 90000 := hT.1 13
  have v14 : 0 ≤ σ.1 14 ∧ σ.1 14 ≤ 20000 := hT.1 14
  have v15 : 0 ≤ σ.1 15 ∧ σ.1 15 ≤ 20000 := hT.1 15
  have v54 : 0 ≤ σ.1 54 ∧ σ.1 54 ≤ 12000 := hT.1 54
  have v61 : 0 ≤ σ.1 61 ∧ σ.1 61 ≤ 12000 := hT.1 61
  have W6 : σ.1 6 = σ.1 6 := rfl
  have W7 : σ.1 7 = σ.1 7 := rfl
  have W13 : σ.1 13 = σ.1 13 := rfl
  have W14 : σ.1 14 = σ.1 14 := rfl
  have W15 : σ.1 15 = σ.1 15 := rfl
  have W54 : σ.1 54 = σ.1 54 := rfl
  have W61 : σ.1 61 = σ.1 61 := rfl
  have G10 : σ.2.1 10 = σ.2.1 10 := rfl
  have G13 : σ.2.1 13 = σ.2.1 13 := rfl
  have G14 : σ.2.1 14 = σ.2.1 14 := rfl
  have G15 : σ.2.1 15 = σ.2.1 15 := rfl
  have G16 : σ.2.1 16 = σ.2.1 16 := rfl
  have G27 : σ.2.1 27 = σ.2.1 27 := rfl
  have G28 : σ.2.1 28 = σ.2.1 28 := rfl
  have G29 : σ.2.1 29 = σ.2.1 29 := rfl
  have G30 : σ.2.1 30 = σ.2.1 30 := rfl
  have G31 : σ.2.1 31 = σ.2.1 31 := rfl
  have G32 : σ.2.1 32 = σ.2.1 32 := rfl
  have G33 : σ.2.1 33 = σ.2.1 33 := rfl
  have G34 : σ.2.1 34 = σ.2.1 34 := rfl
  have G35 : σ.2.1 35 = σ.2.1 35 := rfl
  have G36 : σ.2.1 36 = σ.2.1 36 := rfl
  have G37 : σ.2.1 37 = σ.2.1 37 := rfl
  have G84 : σ.2.1 84 = σ.2.1 84 := rfl
  intro P12 h12
  have s28 := A28 n1
  have tr1 := p4.1
  have nds := p4.2.1
  have CJ : J_all (σ.1 7) (σ.1 6) (σ.1 13) (σ.1 14) (σ.1 15) (σ.2.1 13) (σ.2.1 14) (σ.2.1 15) (σ.2.1 16) (σ.2.1 10) (σ.2.1 27) (σ.2.1 28) (σ.2.1 29) (σ.2.1 30) (σ.2.1 31) (σ.2.1 32) (σ.2.1 33) (σ.2.1 34) (σ.2.1 35) (σ.2.1 36) (σ.2.1 37) := p3
  have TRE : g_tre (σ.1 7) (σ.1 54) (σ.2.1 13) (σ.2.1 14) (σ.2.1 27) (σ.2.1 28) (σ.2.1 29) (σ.2.1 84) := p4
  have SZ : ∀ v, σ.2.1 100 v = 0 := p5
  have CJ_0 := CJ
  have SZ_0 := SZ
  have TRE_0 := TRE
  have l_12 : ∀ (m_12 : Nat) (u2_12 : Int) (u3_12 : Int) (τ_12 : S0), 62 - u3_12 < (m_12 : Int) → (c_T τ_12) → (τ_12.1 6 = σ.1 6) → (τ_12.1 7 = σ.1 7) → (τ_12.1 13 = σ.1 13) → (τ_12.1 14 = σ.1 14) → (τ_12.1 15 = σ.1 15) → (τ_12.1 54 = σ.1 54) → (τ_12.1 61 = σ.1 61) → (τ_12.2.1 10 = σ.2.1 10) → (τ_12.2.1 13 = σ.2.1 13) → (τ_12.2.1 14 = σ.2.1 14) → (τ_12.2.1 15 = σ.2.1 15) → (τ_12.2.1 16 = σ.2.1 16) → (τ_12.2.1 27 = σ.2.1 27) → (τ_12.2.1 28 = σ.2.1 28) → (τ_12.2.1 29 = σ.2.1 29) → (τ_12.2.1 30 = σ.2.1 30) → (τ_12.2.1 31 = σ.2.1 31) → (τ_12.2.1 32 = σ.2.1 32) → (τ_12.2.1 33 = σ.2.1 33) → (τ_12.2.1 34 = σ.2.1 34) → (τ_12.2.1 35 = σ.2.1 35) → (τ_12.2.1 36 = σ.2.1 36) → (τ_12.2.1 37 = σ.2.1 37) → (τ_12.2.1 84 = σ.2.1 84) → (u2_12 = σ.2.1 28 n1) → (1 ≤ u3_12 ∧ u3_12 ≤ 61) → (g_sl (σ.1 61) (σ.2.1 28 n1) 1 (σ.2.1 13) (σ.2.1 14) (σ.2.1 15) (σ.2.1 84) (τ_12.2.1 100)) → (g_fx (σ.1 61) (u3_12) (σ.2.1 13) (σ.2.1 14) (σ.2.1 15) (σ.2.1 84)) → (g_s2v (σ.1 61) u3_12 (σ.2.1 14) (σ.2.1 15) (σ.2.1 84) (τ_12.2.1 100)) → P12 u2_12 u3_12 τ_12 := by
    intro m_12
    induction m_12 with
    | zero =>
      intro u2_12 u3_12 τ_12 hm hT W6 W7 W13 W14 W15 W54 W61 G10 G13 G14 G15 G16 G27 G28 G29 G30 G31 G32 G33 G34 G35 G36 G37 G84 i12_1 i12_2 i12_3 i12_4 i12_5
      have A10 : ∀ j, (-1) ≤ τ_12.2.1 10 j ∧ τ_12.2.1 10 j ≤ 99 := fun j => hT.2 10 j
      have A13 : ∀ j, 0 ≤ τ_12.2.1 13 j ∧ τ_12.2.1 13 j ≤ 4 := fun j => hT.2 13 j
      have A14 : ∀ j, 0 ≤ τ_12.2.1 14 j ∧ τ_12.2.1 14 j ≤ 30000 := fun j => hT.2 14 j
      have A15 : ∀ j, 0 ≤ τ_12.2.1 15 j ∧ τ_12.2.1 15 j ≤ 999 := fun j => hT.2 15 j
      have A16 : ∀ j, (-1) ≤ τ_12.2.1 16 j ∧ τ_12.2.1 16 j ≤ 1499 := fun j => hT.2 16 j
      have A27 : ∀ j, 0 ≤ τ_12.2.1 27 j ∧ τ_12.2.1 27 j ≤ 90000 := fun j => hT.2 27 j
      have A28 : ∀ j, 0 ≤ τ_12.2.1 28 j ∧ τ_12.2.1 28 j ≤ 60 := fun j => hT.2 28 j
      have A29 : ∀ j, 0 ≤ τ_12.2.1 29 j ∧ τ_12.2.1 29 j ≤ 1499 := fun j => hT.2 29 j
      have A30 : ∀ j, 0 ≤ τ_12.2.1 30 j ∧ τ_12.2.1 30 j ≤ 20000 := fun j => hT.2 30 j
      have A31 : ∀ j, 0 ≤ τ_12.2.1 31 j ∧ τ_12.2.1 31 j ≤ 20000 := fun j => hT.2 31 j
      have A32 : ∀ j, 0 ≤ τ_12.2.1 32 j ∧ τ_12.2.1 32 j ≤ 999999 := fun j => hT.2 32 j
      have A33 : ∀ j, 0 ≤ τ_12.2.1 33 j ∧ τ_12.2.1 33 j ≤ 20000 := fun j => hT.2 33 j
      have A34 : ∀ j, 0 ≤ τ_12.2.1 34 j ∧ τ_12.2.1 34 j ≤ 20000 := fun j => hT.2 34 j
      have A35 : ∀ j, 0 ≤ τ_12.2.1 35 j ∧ τ_12.2.1 35 j ≤ 1499 := fun j => hT.2 35 j
      have A36 : ∀ j, 0 ≤ τ_12.2.1 36 j ∧ τ_12.2.1 36 j ≤ 20000 := fun j => hT.2 36 j
      have A37 : ∀ j, 0 ≤ τ_12.2.1 37 j ∧ τ_12.2.1 37 j ≤ 19999 := fun j => hT.2 37 j
      have A84 : ∀ j, 0 ≤ τ_12.2.1 84 j ∧ τ_12.2.1 84 j ≤ 1499 := fun j => hT.2 84 j
      have A100 : ∀ j, 0 ≤ τ_12.2.1 100 j ∧ τ_12.2.1 100 j ≤ 1060 := fun j => hT.2 100 j
      have v6 : 0 ≤ τ_12.1 6 ∧ τ_12.1 6 ≤ 30000 := hT.1 6
      have v7 : 0 ≤ τ_12.1 7 ∧ τ_12.1 7 ≤ 1500 := hT.1 7
      have v13 : 0 ≤ τ_12.1 13 ∧ τ_12.1 13 ≤ 90000 := hT.1 13
      have v14 : 0 ≤ τ_12.1 14 ∧ τ_12.1 14 ≤ 20000 := hT.1 14
      have v15 : 0 ≤ τ_12.1 15 ∧ τ_12.1 15 ≤ 20000 := hT.1 15
      have v54 : 0 ≤ τ_12.1 54 ∧ τ_12.1 54 ≤ 12000 := hT.1 54
      have v61 : 0 ≤ τ_12.1 61 ∧ τ_12.1 61 ≤ 12000 := hT.1 61
      exfalso; (first | omega | (simp only [st_s] <;> omega) | assumption | omega | fail)
    | succ m_12 ih_12 =>
      intro u2_12 u3_12 τ_12 hm_12 hT W6 W7 W13 W14 W15 W54 W61 G10 G13 G14 G15 G16 G27 G28 G29 G30 G31 G32 G33 G34 G35 G36 G37 G84 i12_1 i12_2 i12_3 i12_4 i12_5
      have A10 : ∀ j, (-1) ≤ τ_12.2.1 10 j ∧ τ_12.2.1 10 j ≤ 99 := fun j => hT.2 10 j
      have A13 : ∀ j, 0 ≤ τ_12.2.1 13 j ∧ τ_12.2.1 13 j ≤ 4 := fun j => hT.2 13 j
      have A14 : ∀ j, 0 ≤ τ_12.2.1 14 j ∧ τ_12.2.1 14 j ≤ 30000 := fun j => hT.2 14 j
      have A15 : ∀ j, 0 ≤ τ_12.2.1 15 j ∧ τ_12.2.1 15 j ≤ 999 := fun j => hT.2 15 j
      have A16 : ∀ j, (-1) ≤ τ_12.2.1 16 j ∧ τ_12.2.1 16 j ≤ 1499 := fun j => hT.2 16 j
      have A27 : ∀ j, 0 ≤ τ_12.2.1 27 j ∧ τ_12.2.1 27 j ≤ 90000 := fun j => hT.2 27 j
      have A28 : ∀ j, 0 ≤ τ_12.2.1 28 j ∧ τ_12.2.1 28 j ≤ 60 := fun j => hT.2 28 j
      have A29 : ∀ j, 0 ≤ τ_12.2.1 29 j ∧ τ_12.2.1 29 j ≤ 1499 := fun j => hT.2 29 j
      have A30 : ∀ j, 0 ≤ τ_12.2.1 30 j ∧ τ_12.2.1 30 j ≤ 20000 := fun j => hT.2 30 j
      have A31 : ∀ j, 0 ≤ τ_12.2.1 31 j ∧ τ_12.2.1 31 j ≤ 20000 := fun j => hT.2 31 j
      have A32 : ∀ j, 0 ≤ τ_12.2.1 32 j ∧ τ_12.2.1 32 j ≤ 999999 := fun j => hT.2 32 j
      have A33 : ∀ j, 0 ≤ τ_12.2.1 33 j ∧ τ_12.2.1 33 j ≤ 20000 := fun j => hT.2 33 j
      have A34 : ∀ j, 0 ≤ τ_12.2.1 34 j ∧ τ_12.2.1 34 j ≤ 20000 := fun j => hT.2 34 j
      have A35 : ∀ j, 0 ≤ τ_12.2.1 35 j ∧ τ_12.2.1 35 j ≤ 1499 := fun j => hT.2 35 j
      have A36 : ∀ j, 0 ≤ τ_12.2.1 36 j ∧ τ_12.2.1 36 j ≤ 20000 := fun j => hT.2 36 j
      have A37 : ∀ j, 0 ≤ τ_12.2.1 37 j ∧ τ_12.2.1 37 j ≤ 19999 := fun j => hT.2 37 j
      have A84 : ∀ j, 0 ≤ τ_12.2.1 84 j ∧ τ_12.2.1 84 j ≤ 1499 := fun j => hT.2 84 j
      have A100 : ∀ j, 0 ≤ τ_12.2.1 100 j ∧ τ_12.2.1 100 j ≤ 1060 := fun j => hT.2 100 j
      have v6 : 0 ≤ τ_12.1 6 ∧ τ_12.1 6 ≤ 30000 := hT.1 6
      have v7 : 0 ≤ τ_12.1 7 ∧ τ_12.1 7 ≤ 1500 := hT.1 7
      have v13 : 0 ≤ τ_12.1 13 ∧ τ_12.1 13 ≤ 90000 := hT.1 13
      have v14 : 0 ≤ τ_12.1 14 ∧ τ_12.1 14 ≤ 20000 := hT.1 14
      have v15 : 0 ≤ τ_12.1 15 ∧ τ_12.1 15 ≤ 20000 := hT.1 15
      have v54 : 0 ≤ τ_12.1 54 ∧ τ_12.1 54 ≤ 12000 := hT.1 54
      have v61 : 0 ≤ τ_12.1 61 ∧ τ_12.1 61 ≤ 12000 := hT.1 61
      have CJ : J_all (τ_12.1 7) (τ_12.1 6) (τ_12.1 13) (τ_12.1 14) (τ_12.1 15) (τ_12.2.1 13) (τ_12.2.1 14) (τ_12.2.1 15) (τ_12.2.1 16) (τ_12.2.1 10) (τ_12.2.1 27) (τ_12.2.1 28) (τ_12.2.1 29) (τ_12.2.1 30) (τ_12.2.1 31) (τ_12.2.1 32) (τ_12.2.1 33) (τ_12.2.1 34) (τ_12.2.1 35) (τ_12.2.1 36) (τ_12.2.1 37) := by rw [show (J_all (τ_12.1 7) (τ_12.1 6) (τ_12.1 13) (τ_12.1 14) (τ_12.1 15) (τ_12.2.1 13) (τ_12.2.1 14) (τ_12.2.1 15) (τ_12.2.1 16) (τ_12.2.1 10) (τ_12.2.1 27) (τ_12.2.1 28) (τ_12.2.1 29) (τ_12.2.1 30) (τ_12.2.1 31) (τ_12.2.1 32) (τ_12.2.1 33) (τ_12.2.1 34) (τ_12.2.1 35) (τ_12.2.1 36) (τ_12.2.1 37)) = (J_all (σ.1 7) (σ.1 6) (σ.1 13) (σ.1 14) (σ.1 15) (σ.2.1 13) (σ.2.1 14) (σ.2.1 15) (σ.2.1 16) (σ.2.1 10) (σ.2.1 27) (σ.2.1 28) (σ.2.1 29) (σ.2.1 30) (σ.2.1 31) (σ.2.1 32) (σ.2.1 33) (σ.2.1 34) (σ.2.1 35) (σ.2.1 36) (σ.2.1 37)) from by rw [W6, W7, W13, W14, W15, G10, G13, G14, G15, G16, G27, G28, G29, G30, G31, G32, G33, G34, G35, G36, G37]]; exact CJ_0
      have TRE : g_tre (τ_12.1 7) (τ_12.1 54) (τ_12.2.1 13) (τ_12.2.1 14) (τ_12.2.1 27) (τ_12.2.1 28) (τ_12.2.1 29) (τ_12.2.1 84) := by rw [show (g_tre (τ_12.1 7) (τ_12.1 54) (τ_12.2.1 13) (τ_12.2.1 14) (τ_12.2.1 27) (τ_12.2.1 28) (τ_12.2.1 29) (τ_12.2.1 84)) = (g_tre (σ.1 7) (σ.1 54) (σ.2.1 13) (σ.2.1 14) (σ.2.1 27) (σ.2.1 28) (σ.2.1 29) (σ.2.1 84)) from by rw [W7, W54, G13, G14, G27, G28, G29, G84]]; exact TRE_0
      refine h12 u2_12 u3_12 τ_12 ?_
      refine ⟨fun c3 => ?_, fun c3 => ?_⟩
      ·
        exact ⟨hT, (show 0 ≤ 1 ∧ 1 ≤ 1 from by (first | omega | (simp only [st_s] <;> omega) | assumption | omega | fail)), (show g_sl (σ.1 61) (σ.2.1 28 n1) 1 (σ.2.1 13) (σ.2.1 14) (σ.2.1 15) (σ.2.1 84) (τ_12.2.1 100) from by exact i12_3), (show ¬ 1 = 0 → g_fx (σ.1 61) (σ.2.1 28 n1 + 1) (σ.2.1 13) (σ.2.1 14) (σ.2.1 15) (σ.2.1 84) from by (first | (intro z; exact absurd rfl z) | exact fun _ k a b => i12_4 k a (by omega) | fail)), (show 1 = 0 → ¬ g_fx (σ.1 61) (σ.2.1 28 n1 + 1) (σ.2.1 13) (σ.2.1 14) (σ.2.1 15) (σ.2.1 84) from by (first | (intro z; exfalso; omega) | (intro _; exact g_fx_n (u := u3_12) (by omega) (by omega) (by rw [← e5, ← G13, ← e_x7]; assumption)) | (intro _; exact g_fx_d i12_5 (by omega) (by omega) (v := x10) (by rw [q9_1, G15, G14, ← e5]) (by rw [← e_x13]; assumption)) | fail))⟩
      ·
        refine ⟨(show 0 ≤ (τ_12.1 61 + u3_12) ∧ (τ_12.1 61 + u3_12) < 12000 from by (first | omega | (simp only [st_s] <;> omega) | assumption | omega | fail)), ?_⟩
        intro x5 r_x5 e_x5
        have b_x5 : 0 ≤ x5 ∧ x5 ≤ 1499 := by rw [e_x5]; exact hT.2 84 _
        have e5 : x5 = σ.2.1 84 (σ.1 61 + u3_12) := by rw [e_x5, G84, W61]
        refine ⟨(show 0 ≤ x5 ∧ x5 < 1500 from by (first | omega | (simp only [st_s] <;> omega) | assumption | omega | fail)), ?_⟩
        intro x7 r_x7 e_x7
        have b_x7 : 0 ≤ x7 ∧ x7 ≤ 4 := by rw [e_x7]; exact hT.2 13 _
        refine ⟨fun c8 => ?_, fun c8 => ?_⟩
        ·
          exact ⟨hT, (show 0 ≤ 0 ∧ 0 ≤ 1 from by (first | omega | (simp only [st_s] <;> omega) | assumption | omega | fail)), (show g_sl (σ.1 61) (σ.2.1 28 n1) 1 (σ.2.1 13) (σ.2.1 14) (σ.2.1 15) (σ.2.1 84) (τ_12.2.1 100) from by exact i12_3), (show ¬ 0 = 0 → g_fx (σ.1 61) (σ.2.1 28 n1 + 1) (σ.2.1 13) (σ.2.1 14) (σ.2.1 15) (σ.2.1 84) from by (first | (intro z; exact absurd rfl z) | exact fun _ k a b => i12_4 k a (by omega) | fail)), (show 0 = 0 → ¬ g_fx (σ.1 61) (σ.2.1 28 n1 + 1) (σ.2.1 13) (σ.2.1 14) (σ.2.1 15) (σ.2.1 84) from by (first | (intro z; exfalso; omega) | (intro _; exact g_fx_n (u := u3_12) (by omega) (by omega) (by rw [← e5, ← G13, ← e_x7]; assumption)) | (intro _; exact g_fx_d i12_5 (by omega) (by omega) (v := x10) (by rw [q9_1, G15, G14, ← e5]) (by rw [← e_x13]; assumption)) | fail))⟩
        ·
          have nd := nds (σ.1 61 + u3_12) (by omega) (by omega)
          rw [← e5] at nd
          have k0 : σ.2.1 13 x5 = 0 := by rw [← G13, ← e_x7]; assumption
          have jt := (p3.1 x5 (by omega) (by omega)).1.1
          have jt2 := jt.2.2.2.1 k0
          refine ⟨_, K_X3_variableOf hT (show 0 ≤ x5 from by (first | omega | (simp only [st_s] <;> omega) | assumption | omega | fail)) (show x5 ≤ 1500 from by (first | omega | (simp only [st_s] <;> omega) | assumption | omega | fail)) (show τ_12.2.1 14 x5 < 29999 from by (rw [G14]; omega)), ?_⟩
          intro x10 r_x10 hq
          obtain ⟨q9_1, q9_2⟩ := hq
          replace q9_1 : x10 = τ_12.2.1 15 (τ_12.2.1 14 x5 + 1) := q9_1
          replace q9_2 : 0 ≤ x10 ∧ x10 ≤ 999 := q9_2
          refine ⟨(show 0 ≤ x10 ∧ x10 < 1000 from by (first | omega | (simp only [st_s] <;> omega) | assumption | omega | fail)), ?_⟩
          intro x13 r_x13 e_x13
          have b_x13 : 0 ≤ x13 ∧ x13 ≤ 1060 := by rw [e_x13]; exact hT.2 100 _
          refine ⟨fun c14 => ?_, fun c14 => ?_⟩
          ·
            refine ⟨_, K_X3_variableOf hT (show 0 ≤ x5 from by (first | omega | (simp only [st_s] <;> omega) | assumption | omega | fail)) (show x5 ≤ 1500 from by (first | omega | (simp only [st_s] <;> omega) | assumption | omega | fail)) (show τ_12.2.1 14 x5 < 29999 from by (rw [G14]; omega)), ?_⟩
            intro x16 r_x16 hq
            obtain ⟨q15_1, q15_2⟩ := hq
            replace q15_1 : x16 = τ_12.2.1 15 (τ_12.2.1 14 x5 + 1) := q15_1
            replace q15_2 : 0 ≤ x16 ∧ x16 ≤ 999 := q15_2
            refine ⟨(show 0 ≤ x16 ∧ x16 < 1000 from by (first | omega | (simp only [st_s] <;> omega) | assumption | omega | fail)), ?_⟩
            refine ⟨(⟨by (first | omega | (simp only [st_s] <;> omega) | assumption | omega | fail), by (first | omega | (simp only [st_s] <;> omega) | assumption | omega | fail)⟩ : rg ((1000 + u2_12) - u3_12)), ?_⟩
            replace hT := cT_a (k := 100) (j := x16) hT (show (0 : Int) ≤ ((1000 + u2_12) - u3_12) ∧ ((1000 + u2_12) - u3_12) ≤ 1060 from by (first | omega | (simp only [st_s] <;> omega) | assumption | omega | fail))
            refine ⟨(⟨by (first | omega | (simp only [st_s] <;> omega) | assumption | omega | fail), by (first | omega | (simp only [st_s] <;> omega) | assumption | omega | fail)⟩ : rg (u3_12 + 1)), ?_⟩
            exact ih_12 _ _ _ (show (62 - (u3_12 + 1) : Int) < ((m_12 : Nat) : Int) from by ((first | omega | (simp only [st_s] <;> omega) | assumption | omega | fail))) hT (show τ_12.1 6 = σ.1 6 from by first | exact W6 | omega) (show τ_12.1 7 = σ.1 7 from by first | exact W7 | omega) (show τ_12.1 13 = σ.1 13 from by first | exact W13 | omega) (show τ_12.1 14 = σ.1 14 from by first | exact W14 | omega) (show τ_12.1 15 = σ.1 15 from by first | exact W15 | omega) (show τ_12.1 54 = σ.1 54 from by first | exact W54 | omega) (show τ_12.1 61 = σ.1 61 from by first | exact W61 | omega) G10 G13 G14 G15 G16 G27 G28 G29 G30 G31 G32 G33 G34 G35 G36 G37 G84 (show u2_12 = σ.2.1 28 n1 from by (first | omega | (simp only [st_s] <;> omega) | assumption | omega | fail)) (show 1 ≤ (u3_12 + 1) ∧ (u3_12 + 1) ≤ 61 from by (first | omega | (simp only [st_s] <;> omega) | assumption | omega | fail)) (show g_sl (σ.1 61) (σ.2.1 28 n1) 1 (σ.2.1 13) (σ.2.1 14) (σ.2.1 15) (σ.2.1 84) ((st (τ_12.2.1 100) x16 ((1000 + u2_12) - u3_12))) from by (first | exact g_sl_0 p5 | exact g_sl_a (k := u3_12) i12_3 (by omega) (by omega) (by rw [← e5]; exact k0) (by rw [q15_1, G15, G14, ← e5]) (by omega) | fail)) (show g_fx (σ.1 61) ((u3_12 + 1)) (σ.2.1 13) (σ.2.1 14) (σ.2.1 15) (σ.2.1 84) from by (first | exact fun k a b => by omega | exact g_fx_a i12_4 i12_5 (by rw [← e5]; exact k0) (v := x10) (by rw [q9_1, G15, G14, ← e5]) (by rw [← e_x13]; assumption) | fail)) (show g_s2v (σ.1 61) (u3_12 + 1) (σ.2.1 14) (σ.2.1 15) (σ.2.1 84) ((st (τ_12.2.1 100) x16 ((1000 + u2_12) - u3_12))) from by (first | exact ⟨fun k a b => by omega, fun v z => absurd (p5 v) z⟩ | exact g_s2v_a i12_5 (by omega) (by rw [q15_1, G15, G14, ← e5]) (by omega) | fail))
          ·
            exact ⟨hT, (show 0 ≤ 0 ∧ 0 ≤ 1 from by (first | omega | (simp only [st_s] <;> omega) | assumption | omega | fail)), (show g_sl (σ.1 61) (σ.2.1 28 n1) 1 (σ.2.1 13) (σ.2.1 14) (σ.2.1 15) (σ.2.1 84) (τ_12.2.1 100) from by exact i12_3), (show ¬ 0 = 0 → g_fx (σ.1 61) (σ.2.1 28 n1 + 1) (σ.2.1 13) (σ.2.1 14) (σ.2.1 15) (σ.2.1 84) from by (first | (intro z; exact absurd rfl z) | exact fun _ k a b => i12_4 k a (by omega) | fail)), (show 0 = 0 → ¬ g_fx (σ.1 61) (σ.2.1 28 n1 + 1) (σ.2.1 13) (σ.2.1 14) (σ.2.1 15) (σ.2.1 84) from by (first | (intro z; exfalso; omega) | (intro _; exact g_fx_n (u := u3_12) (by omega) (by omega) (by rw [← e5, ← G13, ← e_x7]; assumption)) | (intro _; exact g_fx_d i12_5 (by omega) (by omega) (v := x10) (by rw [q9_1, G15, G14, ← e5]) (by rw [← e_x13]; assumption)) | fail))⟩
  refine ⟨(show 0 ≤ n1 ∧ n1 < 1500 from by (first | omega | (simp only [st_s] <;> omega) | assumption | omega | fail)), ?_⟩
  intro x2 r_x2 e_x2
  have b_x2 : 0 ≤ x2 ∧ x2 ≤ 60 := by rw [e_x2]; exact hT.2 28 _
  exact l_12 ((62 - 1 : Int).toNat + 1) _ _ _ (show (62 - 1 : Int) < (((62 - 1 : Int).toNat + 1 : Nat) : Int) from by ((first | omega | (simp only [st_s] <;> omega) | assumption | omega | fail))) hT (show σ.1 6 = σ.1 6 from by first | exact W6 | omega) (show σ.1 7 = σ.1 7 from by first | exact W7 | omega) (show σ.1 13 = σ.1 13 from by first | exact W13 | omega) (show σ.1 14 = σ.1 14 from by first | exact W14 | omega) (show σ.1 15 = σ.1 15 from by first | exact W15 | omega) (show σ.1 54 = σ.1 54 from by first | exact W54 | omega) (show σ.1 61 = σ.1 61 from by first | exact W61 | omega) G10 G13 G14 G15 G16 G27 G28 G29 G30 G31 G32 G33 G34 G35 G36 G37 G84 (show x2 = σ.2.1 28 n1 from by (first | omega | (simp only [st_s] <;> omega) | assumption | omega | fail)) (show 1 ≤ 1 ∧ 1 ≤ 61 from by (first | omega | (simp only [st_s] <;> omega) | assumption | omega | fail)) (show g_sl (σ.1 61) (σ.2.1 28 n1) 1 (σ.2.1 13) (σ.2.1 14) (σ.2.1 15) (σ.2.1 84) (σ.2.1 100) from by (first | exact g_sl_0 p5 | exact g_sl_a (k := u3_12) i12_3 (by omega) (by omega) (by rw [← e5]; exact k0) (by rw [q15_1, G15, G14, ← e5]) (by omega) | fail)) (show g_fx (σ.1 61) (1) (σ.2.1 13) (σ.2.1 14) (σ.2.1 15) (σ.2.1 84) from by (first | exact fun k a b => by omega | exact g_fx_a i12_4 i12_5 (by rw [← e5]; exact k0) (v := x10) (by rw [q9_1, G15, G14, ← e5]) (by rw [← e_x13]; assumption) | fail)) (show g_s2v (σ.1 61) 1 (σ.2.1 14) (σ.2.1 15) (σ.2.1 84) (σ.2.1 100) from by (first | exact ⟨fun k a b => by omega, fun v z => absurd (p5 v) z⟩ | exact g_s2v_a i12_5 (by omega) (by rw [q15_1, G15, G14, ← e5]) (by omega) | fail))
set_option maxHeartbeats 1000000 in
theorem K_X2_secondHasNoOther {n1 : Int} {σ : S0} (hT : c_T σ) (p1 : J_all (σ.1 7) (σ.1 6) (σ.1 13) (σ.1 14) (σ.1 15) (σ.2.1 13) (σ.2.1 14) (σ.2.1 15) (σ.2.1 16) (σ.2.1 10) (σ.2.1 27) (σ.2.1 28) (σ.2.1 29) (σ.2.1 30) (σ.2.1 31) (σ.2.1 32) (σ.2.1 33) (σ.2.1 34) (σ.2.1 35) (σ.2.1 36) (σ.2.1 37)) (p2 : g_tre (σ.1 7) (σ.1 54) (σ.2.1 13) (σ.2.1 14) (σ.2.1 27) (σ.2.1 28) (σ.2.1 29) (σ.2.1 84)) (p3 : 0 ≤ (σ.1 62) ∧ (σ.1 62) ≤ (σ.1 54)) : W_X2_secondHasNoOther n1 σ (fun (x : Int) => (0 ≤ x ∧ x ≤ 1)) := by
  have A10 : ∀ j, (-1) ≤ σ.2.1 10 j ∧ σ.2.1 10 j ≤ 99 := fun j => hT.2 10 j
  have A13 : ∀ j, 0 ≤ σ.2.1 13 j ∧ σ.2.1 13 j ≤ 4 := fun j => hT.2 13 j
  have A14 : ∀ j, 0 ≤ σ.2.1 14 j ∧ σ.2.1 14 j ≤ 30000 := fun j => hT.2 14 j
  have A15 : ∀ j, 0 ≤ σ.2.1 15 j ∧ σ.2.1 15 j ≤ 999 := fun j => hT.2 15 j
  have A16 : ∀ j, (-1) ≤ σ.2.1 16 j ∧ σ.2.1 16 j ≤ 1499 := fun j => hT.2 16 j
  have A27 : ∀ j, 0 ≤ σ.2.1 27 j ∧ σ.2.1 27 j ≤ 90000 := fun j => hT.2 27 j
  have A28 : ∀ j, 0 ≤ σ.2.1 28 j ∧ σ.2.1 28 j ≤ 60 := fun j => hT.2 28 j
  have A29 : ∀ j, 0 ≤ σ.2.1 29 j ∧ σ.2.1 29 j ≤ 1499 := fun j => hT.2 29 j
  have A30 : ∀ j, 0 ≤ σ.2.1 30 j ∧ σ.2.1 30 j ≤ 20000 := fun j => hT.2 30 j
  have A31 : ∀ j, 0 ≤ σ.2.1 31 j ∧ σ.2.1 31 j ≤ 20000 := fun j => hT.2 31 j
  have A32 : ∀ j, 0 ≤ σ.2.1 32 j ∧ σ.2.1 32 j ≤ 999999 := fun j => hT.2 32 j
  have A33 : ∀ j, 0 ≤ σ.2.1 33 j ∧ σ.2.1 33 j ≤ 20000 := fun j => hT.2 33 j
  have A34 : ∀ j, 0 ≤ σ.2.1 34 j ∧ σ.2.1 34 j ≤ 20000 := fun j => hT.2 34 j
  have A35 : ∀ j, 0 ≤ σ.2.1 35 j ∧ σ.2.1 35 j ≤ 1499 := fun j => hT.2 35 j
  have A36 : ∀ j, 0 ≤ σ.2.1 36 j ∧ σ.2.1 36 j ≤ 20000 := fun j => hT.2 36 j
  have A37 : ∀ j, 0 ≤ σ.2.1 37 j ∧ σ.2.1 37 j ≤ 19999 := fun j => hT.2 37 j
  have A84 : ∀ j, 0 ≤ σ.2.1 84 j ∧ σ.2.1 84 j ≤ 1499 := fun j => hT.2 84 j
  have v6 : 0 ≤ σ.1 6 ∧ σ.1 6 ≤ 30000 := hT.1 6
  have v7 : 0 ≤ σ.1 7 ∧ σ.1 7 ≤ 1500 := hT.1 7
  have v13 : 0 ≤ σ.1 13 ∧ σ.1 13 ≤ 90000 := hT.1 13
  have v14 : 0 ≤ σ.1 14 ∧ σ.1 14 ≤ 20000 := hT.1 14
  have v15 : 0 ≤ σ.1 15 ∧ σ.1 15 ≤ 20000 := hT.1 15
  have v54 : 0 ≤ σ.1 54 ∧ σ.1 54 ≤ 12000 := hT.1 54
  have v62 : 0 ≤ σ.1 62 ∧ σ.1 62 ≤ 12000 := hT.1 62
  intro P17 h17
  have tr1 := p2.1
  have nds := p2.2.1
  have CJ : J_all (σ.1 7) (σ.1 6) (σ.1 13) (σ.1 14) (σ.1 15) (σ.2.1 13) (σ.2.1 14) (σ.2.1 15) (σ.2.1 16) (σ.2.1 10) (σ.2.1 27) (σ.2.1 28) (σ.2.1 29) (σ.2.1 30) (σ.2.1 31) (σ.2.1 32) (σ.2.1 33) (σ.2.1 34) (σ.2.1 35) (σ.2.1 36) (σ.2.1 37) := p1
  have TRE : g_tre (σ.1 7) (σ.1 54) (σ.2.1 13) (σ.2.1 14) (σ.2.1 27) (σ.2.1 28) (σ.2.1 29) (σ.2.1 84) := p2
  have CJ_0 := CJ
  have TRE_0 := TRE
  have l_17 : ∀ (m_17 : Nat) (u2_17 : Int) (u3_17 : Int), 12001 - u3_17 < (m_17 : Int) → (0 ≤ u3_17 ∧ u3_17 ≤ (σ.1 54)) → (u2_17 ≤ (σ.1 54)) → P17 n1 u2_17 u3_17 := by
    intro m_17
    induction m_17 with
    | zero =>
      intro u2_17 u3_17 hm i17_1 i17_2
      exfalso; (first | omega | (simp only [st_s] <;> omega) | assumption | omega | fail)
    | succ m_17 ih_17 =>
      intro u2_17 u3_17 hm_17 i17_1 i17_2
      refine h17 n1 u2_17 u3_17 ?_
      refine ⟨fun c4 => ?_, fun c4 => ?_⟩
      ·
        exact (show 0 ≤ 1 ∧ 1 ≤ 1 from by (first | omega | (simp only [st_s] <;> omega) | assumption | omega | fail))
      ·
        refine ⟨(show 0 ≤ u3_17 ∧ u3_17 < 12000 from by (first | omega | (simp only [st_s] <;> omega) | assumption | omega | fail)), ?_⟩
        intro x6 r_x6 e_x6
        have b_x6 : 0 ≤ x6 ∧ x6 ≤ 1499 := by rw [e_x6]; exact hT.2 84 _
        refine ⟨fun c7 => ?_, fun c7 => ?_⟩
        ·
          exact (show 0 ≤ 0 ∧ 0 ≤ 1 from by (first | omega | (simp only [st_s] <;> omega) | assumption | omega | fail))
        ·
          refine ⟨(show 0 ≤ x6 ∧ x6 < 1500 from by (first | omega | (simp only [st_s] <;> omega) | assumption | omega | fail)), ?_⟩
          intro x9 r_x9 e_x9
          have b_x9 : 0 ≤ x9 ∧ x9 ≤ 4 := by rw [e_x9]; exact hT.2 13 _
          refine ⟨fun c10 => ?_, fun c10 => ?_⟩
          ·
            refine ⟨(⟨by (first | omega | (simp only [st_s] <;> omega) | assumption | omega | fail), by (first | omega | (simp only [st_s] <;> omega) | assumption | omega | fail)⟩ : rg (u3_17 + 1)), ?_⟩
            exact ih_17 _ _ (show (12001 - (u3_17 + 1) : Int) < ((m_17 : Nat) : Int) from by ((first | omega | (simp only [st_s] <;> omega) | assumption | omega | fail))) (show 0 ≤ (u3_17 + 1) ∧ (u3_17 + 1) ≤ (σ.1 54) from by (first | omega | (simp only [st_s] <;> omega) | assumption | omega | fail)) (show u2_17 ≤ (σ.1 54) from by (first | omega | (simp only [st_s] <;> omega) | assumption | omega | fail))
          ·
            have nd := nds u3_17 (by omega) (by omega)
            rw [← e_x6] at nd
            have k0 : σ.2.1 13 x6 = 0 := by rw [← e_x9]; assumption
            have jt := (p1.1 x6 (by omega) (by omega)).1.1
            have jt2 := jt.2.2.2.1 k0
            refine ⟨_, K_X3_variableOf hT (show 0 ≤ x6 from by (first | omega | (simp only [st_s] <;> omega) | assumption | omega | fail)) (show x6 ≤ 1500 from by (first | omega | (simp only [st_s] <;> omega) | assumption | omega | fail)) (show σ.2.1 14 x6 < 29999 from by (first | omega | (simp only [st_s] <;> omega) | assumption | omega | fail)), ?_⟩
            intro x13 r_x13 hq
            obtain ⟨q12_1, q12_2⟩ := hq
            replace q12_1 : x13 = σ.2.1 15 (σ.2.1 14 x6 + 1) := q12_1
            replace q12_2 : 0 ≤ x13 ∧ x13 ≤ 999 := q12_2
            refine ⟨(show 0 ≤ x13 ∧ x13 < 1000 from by (first | omega | (simp only [st_s] <;> omega) | assumption | omega | fail)), ?_⟩
            intro x16 r_x16 e_x16
            have b_x16 : 0 ≤ x16 ∧ x16 ≤ 1060 := by rw [e_x16]; exact hT.2 100 _
            refine ⟨fun c17 => ?_, fun c17 => ?_⟩
            ·
              refine ⟨(⟨by (first | omega | (simp only [st_s] <;> omega) | assumption | omega | fail), by (first | omega | (simp only [st_s] <;> omega) | assumption | omega | fail)⟩ : rg (u3_17 + 1)), ?_⟩
              exact ih_17 _ _ (show (12001 - (u3_17 + 1) : Int) < ((m_17 : Nat) : Int) from by ((first | omega | (simp only [st_s] <;> omega) | assumption | omega | fail))) (show 0 ≤ (u3_17 + 1) ∧ (u3_17 + 1) ≤ (σ.1 54) from by (first | omega | (simp only [st_s] <;> omega) | assumption | omega | fail)) (show u2_17 ≤ (σ.1 54) from by (first | omega | (simp only [st_s] <;> omega) | assumption | omega | fail))
            ·
              exact (show 0 ≤ 0 ∧ 0 ≤ 1 from by (first | omega | (simp only [st_s] <;> omega) | assumption | omega | fail))
  refine ⟨_, K_X11_behind hT (show 0 ≤ (σ.1 62) from by (first | omega | (simp only [st_s] <;> omega) | assumption | omega | fail)) (show (σ.1 62) ≤ (σ.1 54) from by (first | omega | (simp only [st_s] <;> omega) | assumption | omega | fail)), ?_⟩
  intro x2 r_x2 hq
  obtain ⟨q1_1, q1_2, q1_3⟩ := hq
  replace q1_1 : (σ.1 62) ≤ x2 ∧ x2 ≤ (σ.1 54) := q1_1
  replace q1_2 : (σ.1 62) < (σ.1 54) → (σ.1 62) < x2 := q1_2
  replace q1_3 : g_bh (σ.1 54) (σ.1 62) x2 (σ.2.1 13) (σ.2.1 28) (σ.2.1 84) := q1_3
  exact l_17 ((12001 - (σ.1 62) : Int).toNat + 1) _ _ (show (12001 - (σ.1 62) : Int) < (((12001 - (σ.1 62) : Int).toNat + 1 : Nat) : Int) from by ((first | omega | (simp only [st_s] <;> omega) | assumption | omega | fail))) (show 0 ≤ (σ.1 62) ∧ (σ.1 62) ≤ (σ.1 54) from by (first | omega | (simp only [st_s] <;> omega) | assumption | omega | fail)) (show x2 ≤ (σ.1 54) from by (first | omega | (simp only [st_s] <;> omega) | assumption | omega | fail))
set_option maxHeartbeats 2000000 in
theorem K_X2_clearSlots {n1 : Int} {σ : S0} (hT : c_T σ) (p1 : 0 ≤ n1) (p2 : n1 < 1500) (p3 : J_all (σ.1 7) (σ.1 6) (σ.1 13) (σ.1 14) (σ.1 15) (σ.2.1 13) (σ.2.1 14) (σ.2.1 15) (σ.2.1 16) (σ.2.1 10) (σ.2.1 27) (σ.2.1 28) (σ.2.1 29) (σ.2.1 30) (σ.2.1 31) (σ.2.1 32) (σ.2.1 33) (σ.2.1 34) (σ.2.1 35) (σ.2.1 36) (σ.2.1 37)) (p4 : g_tre (σ.1 7) (σ.1 54) (σ.2.1 13) (σ.2.1 14) (σ.2.1 27) (σ.2.1 28) (σ.2.1 29) (σ.2.1 84)) (p5 : 0 ≤ (σ.1 61)) (p6 : (σ.1 61) + σ.2.1 28 n1 < (σ.1 54)) (p7 : g_sl (σ.1 61) (σ.2.1 28 n1) 1 (σ.2.1 13) (σ.2.1 14) (σ.2.1 15) (σ.2.1 84) (σ.2.1 100)) : W_X2_clearSlots n1 σ (fun (τ : S0) => (c_T τ) ∧ (∀ v, τ.2.1 100 v = 0)) := by
  have A10 : ∀ j, (-1) ≤ σ.2.1 10 j ∧ σ.2.1 10 j ≤ 99 := fun j => hT.2 10 j
  have A13 : ∀ j, 0 ≤ σ.2.1 13 j ∧ σ.2.1 13 j ≤ 4 := fun j => hT.2 13 j
  have A14 : ∀ j, 0 ≤ σ.2.1 14 j ∧ σ.2.1 14 j ≤ 30000 := fun j => hT.2 14 j
  have A15 : ∀ j, 0 ≤ σ.2.1 15 j ∧ σ.2.1 15 j ≤ 999 := fun j => hT.2 15 j
  have A16 : ∀ j, (-1) ≤ σ.2.1 16 j ∧ σ.2.1 16 j ≤ 1499 := fun j => hT.2 16 j
  have A27 : ∀ j, 0 ≤ σ.2.1 27 j ∧ σ.2.1 27 j ≤ 90000 := fun j => hT.2 27 j
  have A28 : ∀ j, 0 ≤ σ.2.1 28 j ∧ σ.2.1 28 j ≤ 60 := fun j => hT.2 28 j
  have A29 : ∀ j, 0 ≤ σ.2.1 29 j ∧ σ.2.1 29 j ≤ 1499 := fun j => hT.2 29 j
  have A30 : ∀ j, 0 ≤ σ.2.1 30 j ∧ σ.2.1 30 j ≤ 20000 := fun j => hT.2 30 j
  have A31 : ∀ j, 0 ≤ σ.2.1 31 j ∧ σ.2.1 31 j ≤ 20000 := fun j => hT.2 31 j
  have A32 : ∀ j, 0 ≤ σ.2.1 32 j ∧ σ.2.1 32 j ≤ 999999 := fun j => hT.2 32 j
  have A33 : ∀ j, 0 ≤ σ.2.1 33 j ∧ σ.2.1 33 j ≤ 20000 := fun j => hT.2 33 j
  have A34 : ∀ j, 0 ≤ σ.2.1 34 j ∧ σ.2.1 34 j ≤ 20000 := fun j => hT.2 34 j
  have A35 : ∀ j, 0 ≤ σ.2.1 35 j ∧ σ.2.1 35 j ≤ 1499 := fun j => hT.2 35 j
  have A36 : ∀ j, 0 ≤ σ.2.1 36 j ∧ σ.2.1 36 j ≤ 20000 := fun j => hT.2 36 j
  have A37 : ∀ j, 0 ≤ σ.2.1 37 j ∧ σ.2.1 37 j ≤ 19999 := fun j => hT.2 37 j
  have A84 : ∀ j, 0 ≤ σ.2.1 84 j ∧ σ.2.1 84 j ≤ 1499 := fun j => hT.2 84 j
  have A100 : ∀ j, 0 ≤ σ.2.1 100 j ∧ σ.2.1 100 j ≤ 1060 := fun j => hT.2 100 j
  have v6 : 0 ≤ σ.1 6 ∧ σ.1 6 ≤ 30000 := hT.1 6
  have v7 : 0 ≤ σ.1 7 ∧ σ.1 7 ≤ 1500 := hT.1 7
  have v13 : 0 ≤ σ.1 13 ∧ σ.1 13 ≤ 90000 := hT.1 13
  have v14 : 0 ≤ σ.1 14 ∧ σ.1 14 ≤ 20000 := hT.1 14
  have v15 : 0 ≤ σ.1 15 ∧ σ.1 15 ≤ 20000 := hT.1 15
  have v54 : 0 ≤ σ.1 54 ∧ σ.1 54 ≤ 12000 := hT.1 54
  have v61 : 0 ≤ σ.1 61 ∧ σ.1 61 ≤ 12000 := hT.1 61
  have W6 : σ.1 6 = σ.1 6 := rfl
  have W7 : σ.1 7 = σ.1 7 := rfl
  have W13 : σ.1 13 = σ.1 13 := rfl
  have W14 : σ.1 14 = σ.1 14 := rfl
  have W15 : σ.1 15 = σ.1 15 := rfl
  have W54 : σ.1 54 = σ.1 54 := rfl
  have W61 : σ.1 61 = σ.1 61 := rfl
  have G10 : σ.2.1 10 = σ.2.1 10 := rfl
  have G13 : σ.2.1 13 = σ.2.1 13 := rfl
  have G14 : σ.2.1 14 = σ.2.1 14 := rfl
  have G15 : σ.2.1 15 = σ.2.1 15 := rfl
  have G16 : σ.2.1 16 = σ.2.1 16 := rfl
  have G27 : σ.2.1 27 = σ.2.1 27 := rfl
  have G28 : σ.2.1 28 = σ.2.1 28 := rfl
  have G29 : σ.2.1 29 = σ.2.1 29 := rfl
  have G30 : σ.2.1 30 = σ.2.1 30 := rfl
  have G31 : σ.2.1 31 = σ.2.1 31 := rfl
  have G32 : σ.2.1 32 = σ.2.1 32 := rfl
  have G33 : σ.2.1 33 = σ.2.1 33 := rfl
  have G34 : σ.2.1 34 = σ.2.1 34 := rfl
  have G35 : σ.2.1 35 = σ.2.1 35 := rfl
  have G36 : σ.2.1 36 = σ.2.1 36 := rfl
  have G37 : σ.2.1 37 = σ.2.1 37 := rfl
  have G84 : σ.2.1 84 = σ.2.1 84 := rfl
  intro P2 h2
  have s28 := A28 n1
  have tr1 := p4.1
  have nds := p4.2.1
  have CJ : J_all (σ.1 7) (σ.1 6) (σ.1 13) (σ.1 14) (σ.1 15) (σ.2.1 13) (σ.2.1 14) (σ.2.1 15) (σ.2.1 16) (σ.2.1 10) (σ.2.1 27) (σ.2.1 28) (σ.2.1 29) (σ.2.1 30) (σ.2.1 31) (σ.2.1 32) (σ.2.1 33) (σ.2.1 34) (σ.2.1 35) (σ.2.1 36) (σ.2.1 37) := p3
  have TRE : g_tre (σ.1 7) (σ.1 54) (σ.2.1 13) (σ.2.1 14) (σ.2.1 27) (σ.2.1 28) (σ.2.1 29) (σ.2.1 84) := p4
  have CJ_0 := CJ
  have TRE_0 := TRE
  have l_2 : ∀ (m_2 : Nat) (u2_2 : Int) (τ_2 : S0), 62 - u2_2 < (m_2 : Int) → (c_T τ_2) → (τ_2.1 6 = σ.1 6) → (τ_2.1 7 = σ.1 7) → (τ_2.1 13 = σ.1 13) → (τ_2.1 14 = σ.1 14) → (τ_2.1 15 = σ.1 15) → (τ_2.1 54 = σ.1 54) → (τ_2.1 61 = σ.1 61) → (τ_2.2.1 10 = σ.2.1 10) → (τ_2.2.1 13 = σ.2.1 13) → (τ_2.2.1 14 = σ.2.1 14) → (τ_2.2.1 15 = σ.2.1 15) → (τ_2.2.1 16 = σ.2.1 16) → (τ_2.2.1 27 = σ.2.1 27) → (τ_2.2.1 28 = σ.2.1 28) → (τ_2.2.1 29 = σ.2.1 29) → (τ_2.2.1 30 = σ.2.1 30) → (τ_2.2.1 31 = σ.2.1 31) → (τ_2.2.1 32 = σ.2.1 32) → (τ_2.2.1 33 = σ.2.1 33) → (τ_2.2.1 34 = σ.2.1 34) → (τ_2.2.1 35 = σ.2.1 35) → (τ_2.2.1 36 = σ.2.1 36) → (τ_2.2.1 37 = σ.2.1 37) → (τ_2.2.1 84 = σ.2.1 84) → (1 ≤ u2_2 ∧ u2_2 ≤ 61) → (g_sl (σ.1 61) (σ.2.1 28 n1) u2_2 (σ.2.1 13) (σ.2.1 14) (σ.2.1 15) (σ.2.1 84) (τ_2.2.1 100)) → P2 n1 u2_2 τ_2 := by
    intro m_2
    induction m_2 with
    | zero =>
      intro u2_2 τ_2 hm hT W6 W7 W13 W14 W15 W54 W61 G10 G13 G14 G15 G16 G27 G28 G29 G30 G31 G32 G33 G34 G35 G36 G37 G84 i2_1 i2_2
      have A10 : ∀ j, (-1) ≤ τ_2.2.1 10 j ∧ τ_2.2.1 10 j ≤ 99 := fun j => hT.2 10 j
      have A13 : ∀ j, 0 ≤ τ_2.2.1 13 j ∧ τ_2.2.1 13 j ≤ 4 := fun j => hT.2 13 j
      have A14 : ∀ j, 0 ≤ τ_2.2.1 14 j ∧ τ_2.2.1 14 j ≤ 30000 := fun j => hT.2 14 j
      have A15 : ∀ j, 0 ≤ τ_2.2.1 15 j ∧ τ_2.2.1 15 j ≤ 999 := fun j => hT.2 15 j
      have A16 : ∀ j, (-1) ≤ τ_2.2.1 16 j ∧ τ_2.2.1 16 j ≤ 1499 := fun j => hT.2 16 j
      have A27 : ∀ j, 0 ≤ τ_2.2.1 27 j ∧ τ_2.2.1 27 j ≤ 90000 := fun j => hT.2 27 j
      have A28 : ∀ j, 0 ≤ τ_2.2.1 28 j ∧ τ_2.2.1 28 j ≤ 60 := fun j => hT.2 28 j
      have A29 : ∀ j, 0 ≤ τ_2.2.1 29 j ∧ τ_2.2.1 29 j ≤ 1499 := fun j => hT.2 29 j
      have A30 : ∀ j, 0 ≤ τ_2.2.1 30 j ∧ τ_2.2.1 30 j ≤ 20000 := fun j => hT.2 30 j
      have A31 : ∀ j, 0 ≤ τ_2.2.1 31 j ∧ τ_2.2.1 31 j ≤ 20000 := fun j => hT.2 31 j
      have A32 : ∀ j, 0 ≤ τ_2.2.1 32 j ∧ τ_2.2.1 32 j ≤ 999999 := fun j => hT.2 32 j
      have A33 : ∀ j, 0 ≤ τ_2.2.1 33 j ∧ τ_2.2.1 33 j ≤ 20000 := fun j => hT.2 33 j
      have A34 : ∀ j, 0 ≤ τ_2.2.1 34 j ∧ τ_2.2.1 34 j ≤ 20000 := fun j => hT.2 34 j
      have A35 : ∀ j, 0 ≤ τ_2.2.1 35 j ∧ τ_2.2.1 35 j ≤ 1499 := fun j => hT.2 35 j
      have A36 : ∀ j, 0 ≤ τ_2.2.1 36 j ∧ τ_2.2.1 36 j ≤ 20000 := fun j => hT.2 36 j
      have A37 : ∀ j, 0 ≤ τ_2.2.1 37 j ∧ τ_2.2.1 37 j ≤ 19999 := fun j => hT.2 37 j
      have A84 : ∀ j, 0 ≤ τ_2.2.1 84 j ∧ τ_2.2.1 84 j ≤ 1499 := fun j => hT.2 84 j
      have A100 : ∀ j, 0 ≤ τ_2.2.1 100 j ∧ τ_2.2.1 100 j ≤ 1060 := fun j => hT.2 100 j
      have v6 : 0 ≤ τ_2.1 6 ∧ τ_2.1 6 ≤ 30000 := hT.1 6
      have v7 : 0 ≤ τ_2.1 7 ∧ τ_2.1 7 ≤ 1500 := hT.1 7
      have v13 : 0 ≤ τ_2.1 13 ∧ τ_2.1 13 ≤ 90000 := hT.1 13
      have v14 : 0 ≤ τ_2.1 14 ∧ τ_2.1 14 ≤ 20000 := hT.1 14
      have v15 : 0 ≤ τ_2.1 15 ∧ τ_2.1 15 ≤ 20000 := hT.1 15
      have v54 : 0 ≤ τ_2.1 54 ∧ τ_2.1 54 ≤ 12000 := hT.1 54
      have v61 : 0 ≤ τ_2.1 61 ∧ τ_2.1 61 ≤ 12000 := hT.1 61
      exfalso; (first | omega | (simp only [st_s] <;> omega) | assumption | omega | fail)
    | succ m_2 ih_2 =>
      intro u2_2 τ_2 hm_2 hT W6 W7 W13 W14 W15 W54 W61 G10 G13 G14 G15 G16 G27 G28 G29 G30 G31 G32 G33 G34 G35 G36 G37 G84 i2_1 i2_2
      have A10 : ∀ j, (-1) ≤ τ_2.2.1 10 j ∧ τ_2.2.1 10 j ≤ 99 := fun j => hT.2 10 j
      have A13 : ∀ j, 0 ≤ τ_2.2.1 13 j ∧ τ_2.2.1 13 j ≤ 4 := fun j => hT.2 13 j
      have A14 : ∀ j, 0 ≤ τ_2.2.1 14 j ∧ τ_2.2.1 14 j ≤ 30000 := fun j => hT.2 14 j
      have A15 : ∀ j, 0 ≤ τ_2.2.1 15 j ∧ τ_2.2.1 15 j ≤ 999 := fun j => hT.2 15 j
      have A16 : ∀ j, (-1) ≤ τ_2.2.1 16 j ∧ τ_2.2.1 16 j ≤ 1499 := fun j => hT.2 16 j
      have A27 : ∀ j, 0 ≤ τ_2.2.1 27 j ∧ τ_2.2.1 27 j ≤ 90000 := fun j => hT.2 27 j
      have A28 : ∀ j, 0 ≤ τ_2.2.1 28 j ∧ τ_2.2.1 28 j ≤ 60 := fun j => hT.2 28 j
      have A29 : ∀ j, 0 ≤ τ_2.2.1 29 j ∧ τ_2.2.1 29 j ≤ 1499 := fun j => hT.2 29 j
      have A30 : ∀ j, 0 ≤ τ_2.2.1 30 j ∧ τ_2.2.1 30 j ≤ 20000 := fun j => hT.2 30 j
      have A31 : ∀ j, 0 ≤ τ_2.2.1 31 j ∧ τ_2.2.1 31 j ≤ 20000 := fun j => hT.2 31 j
      have A32 : ∀ j, 0 ≤ τ_2.2.1 32 j ∧ τ_2.2.1 32 j ≤ 999999 := fun j => hT.2 32 j
      have A33 : ∀ j, 0 ≤ τ_2.2.1 33 j ∧ τ_2.2.1 33 j ≤ 20000 := fun j => hT.2 33 j
      have A34 : ∀ j, 0 ≤ τ_2.2.1 34 j ∧ τ_2.2.1 34 j ≤ 20000 := fun j => hT.2 34 j
      have A35 : ∀ j, 0 ≤ τ_2.2.1 35 j ∧ τ_2.2.1 35 j ≤ 1499 := fun j => hT.2 35 j
      have A36 : ∀ j, 0 ≤ τ_2.2.1 36 j ∧ τ_2.2.1 36 j ≤ 20000 := fun j => hT.2 36 j
      have A37 : ∀ j, 0 ≤ τ_2.2.1 37 j ∧ τ_2.2.1 37 j ≤ 19999 := fun j => hT.2 37 j
      have A84 : ∀ j, 0 ≤ τ_2.2.1 84 j ∧ τ_2.2.1 84 j ≤ 1499 := fun j => hT.2 84 j
      have A100 : ∀ j, 0 ≤ τ_2.2.1 100 j ∧ τ_2.2.1 100 j ≤ 1060 := fun j => hT.2 100 j
      have v6 : 0 ≤ τ_2.1 6 ∧ τ_2.1 6 ≤ 30000 := hT.1 6
      have v7 : 0 ≤ τ_2.1 7 ∧ τ_2.1 7 ≤ 1500 := hT.1 7
      have v13 : 0 ≤ τ_2.1 13 ∧ τ_2.1 13 ≤ 90000 := hT.1 13
      have v14 : 0 ≤ τ_2.1 14 ∧ τ_2.1 14 ≤ 20000 := hT.1 14
      have v15 : 0 ≤ τ_2.1 15 ∧ τ_2.1 15 ≤ 20000 := hT.1 15
      have v54 : 0 ≤ τ_2.1 54 ∧ τ_2.1 54 ≤ 12000 := hT.1 54
      have v61 : 0 ≤ τ_2.1 61 ∧ τ_2.1 61 ≤ 12000 := hT.1 61
      have CJ : J_all (τ_2.1 7) (τ_2.1 6) (τ_2.1 13) (τ_2.1 14) (τ_2.1 15) (τ_2.2.1 13) (τ_2.2.1 14) (τ_2.2.1 15) (τ_2.2.1 16) (τ_2.2.1 10) (τ_2.2.1 27) (τ_2.2.1 28) (τ_2.2.1 29) (τ_2.2.1 30) (τ_2.2.1 31) (τ_2.2.1 32) (τ_2.2.1 33) (τ_2.2.1 34) (τ_2.2.1 35) (τ_2.2.1 36) (τ_2.2.1 37) := by rw [show (J_all (τ_2.1 7) (τ_2.1 6) (τ_2.1 13) (τ_2.1 14) (τ_2.1 15) (τ_2.2.1 13) (τ_2.2.1 14) (τ_2.2.1 15) (τ_2.2.1 16) (τ_2.2.1 10) (τ_2.2.1 27) (τ_2.2.1 28) (τ_2.2.1 29) (τ_2.2.1 30) (τ_2.2.1 31) (τ_2.2.1 32) (τ_2.2.1 33) (τ_2.2.1 34) (τ_2.2.1 35) (τ_2.2.1 36) (τ_2.2.1 37)) = (J_all (σ.1 7) (σ.1 6) (σ.1 13) (σ.1 14) (σ.1 15) (σ.2.1 13) (σ.2.1 14) (σ.2.1 15) (σ.2.1 16) (σ.2.1 10) (σ.2.1 27) (σ.2.1 28) (σ.2.1 29) (σ.2.1 30) (σ.2.1 31) (σ.2.1 32) (σ.2.1 33) (σ.2.1 34) (σ.2.1 35) (σ.2.1 36) (σ.2.1 37)) from by rw [W6, W7, W13, W14, W15, G10, G13, G14, G15, G16, G27, G28, G29, G30, G31, G32, G33, G34, G35, G36, G37]]; exact CJ_0
      have TRE : g_tre (τ_2.1 7) (τ_2.1 54) (τ_2.2.1 13) (τ_2.2.1 14) (τ_2.2.1 27) (τ_2.2.1 28) (τ_2.2.1 29) (τ_2.2.1 84) := by rw [show (g_tre (τ_2.1 7) (τ_2.1 54) (τ_2.2.1 13) (τ_2.2.1 14) (τ_2.2.1 27) (τ_2.2.1 28) (τ_2.2.1 29) (τ_2.2.1 84)) = (g_tre (σ.1 7) (σ.1 54) (σ.2.1 13) (σ.2.1 14) (σ.2.1 27) (σ.2.1 28) (σ.2.1 29) (σ.2.1 84)) from by rw [W7, W54, G13, G14, G27, G28, G29, G84]]; exact TRE_0
      refine h2 n1 u2_2 τ_2 ?_
      refine ⟨(show 0 ≤ n1 ∧ n1 < 1500 from by (first | omega | (simp only [st_s] <;> omega) | assumption | omega | fail)), ?_⟩
      intro x2 r_x2 e_x2
      have b_x2 : 0 ≤ x2 ∧ x2 ≤ 60 := by rw [e_x2]; exact hT.2 28 _
      rw [G28] at e_x2
      refine ⟨fun c3 => ?_, fun c3 => ?_⟩
      ·
        exact ⟨hT, (show ∀ v, τ_2.2.1 100 v = 0 from by exact g_sl_e i2_2 (by omega))⟩
      ·
        refine ⟨(show 0 ≤ (τ_2.1 61 + u2_2) ∧ (τ_2.1 61 + u2_2) < 12000 from by (first | omega | (simp only [st_s] <;> omega) | assumption | omega | fail)), ?_⟩
        intro x5 r_x5 e_x5
        have b_x5 : 0 ≤ x5 ∧ x5 ≤ 1499 := by rw [e_x5]; exact hT.2 84 _
        have e5 : x5 = σ.2.1 84 (σ.1 61 + u2_2) := by rw [e_x5, G84, W61]
        refine ⟨(show 0 ≤ x5 ∧ x5 < 1500 from by (first | omega | (simp only [st_s] <;> omega) | assumption | omega | fail)), ?_⟩
        intro x7 r_x7 e_x7
        have b_x7 : 0 ≤ x7 ∧ x7 ≤ 4 := by rw [e_x7]; exact hT.2 13 _
        refine ⟨fun c8 => ?_, fun c8 => ?_⟩
        ·
          refine ⟨(⟨by (first | omega | (simp only [st_s] <;> omega) | assumption | omega | fail), by (first | omega | (simp only [st_s] <;> omega) | assumption | omega | fail)⟩ : rg (u2_2 + 1)), ?_⟩
          exact ih_2 _ _ (show (62 - (u2_2 + 1) : Int) < ((m_2 : Nat) : Int) from by ((first | omega | (simp only [st_s] <;> omega) | assumption | omega | fail))) hT (show τ_2.1 6 = σ.1 6 from by first | exact W6 | omega) (show τ_2.1 7 = σ.1 7 from by first | exact W7 | omega) (show τ_2.1 13 = σ.1 13 from by first | exact W13 | omega) (show τ_2.1 14 = σ.1 14 from by first | exact W14 | omega) (show τ_2.1 15 = σ.1 15 from by first | exact W15 | omega) (show τ_2.1 54 = σ.1 54 from by first | exact W54 | omega) (show τ_2.1 61 = σ.1 61 from by first | exact W61 | omega) G10 G13 G14 G15 G16 G27 G28 G29 G30 G31 G32 G33 G34 G35 G36 G37 G84 (show 1 ≤ (u2_2 + 1) ∧ (u2_2 + 1) ≤ 61 from by (first | omega | (simp only [st_s] <;> omega) | assumption | omega | fail)) (show g_sl (σ.1 61) (σ.2.1 28 n1) (u2_2 + 1) (σ.2.1 13) (σ.2.1 14) (σ.2.1 15) (σ.2.1 84) (τ_2.2.1 100) from by (first | exact p7 | exact g_sl_n i2_2 (by rw [← e5, ← G13, ← e_x7]; assumption) | exact g_sl_c i2_2 (by rw [q10_1, G15, G14, ← e5]) | fail))
        ·
          have nd := nds (σ.1 61 + u2_2) (by omega) (by omega)
          rw [← e5] at nd
          have k0 : σ.2.1 13 x5 = 0 := by rw [← G13, ← e_x7]; assumption
          have jt := (p3.1 x5 (by omega) (by omega)).1.1
          have jt2 := jt.2.2.2.1 k0
          refine ⟨_, K_X3_variableOf hT (show 0 ≤ x5 from by (first | omega | (simp only [st_s] <;> omega) | assumption | omega | fail)) (show x5 ≤ 1500 from by (first | omega | (simp only [st_s] <;> omega) | assumption | omega | fail)) (show τ_2.2.1 14 x5 < 29999 from by (rw [G14]; omega)), ?_⟩
          intro x11 r_x11 hq
          obtain ⟨q10_1, q10_2⟩ := hq
          replace q10_1 : x11 = τ_2.2.1 15 (τ_2.2.1 14 x5 + 1) := q10_1
          replace q10_2 : 0 ≤ x11 ∧ x11 ≤ 999 := q10_2
          refine ⟨(show 0 ≤ x11 ∧ x11 < 1000 from by (first | omega | (simp only [st_s] <;> omega) | assumption | omega | fail)), ?_⟩
          replace hT := cT_a (k := 100) (j := x11) hT (show (0 : Int) ≤ 0 ∧ 0 ≤ 1060 from by (first | omega | (simp only [st_s] <;> omega) | assumption | omega | fail))
          refine ⟨(⟨by (first | omega | (simp only [st_s] <;> omega) | assumption | omega | fail), by (first | omega | (simp only [st_s] <;> omega) | assumption | omega | fail)⟩ : rg (u2_2 + 1)), ?_⟩
          exact ih_2 _ _ (show (62 - (u2_2 + 1) : Int) < ((m_2 : Nat) : Int) from by ((first | omega | (simp only [st_s] <;> omega) | assumption | omega | fail))) hT (show τ_2.1 6 = σ.1 6 from by first | exact W6 | omega) (show τ_2.1 7 = σ.1 7 from by first | exact W7 | omega) (show τ_2.1 13 = σ.1 13 from by first | exact W13 | omega) (show τ_2.1 14 = σ.1 14 from by first | exact W14 | omega) (show τ_2.1 15 = σ.1 15 from by first | exact W15 | omega) (show τ_2.1 54 = σ.1 54 from by first | exact W54 | omega) (show τ_2.1 61 = σ.1 61 from by first | exact W61 | omega) G10 G13 G14 G15 G16 G27 G28 G29 G30 G31 G32 G33 G34 G35 G36 G37 G84 (show 1 ≤ (u2_2 + 1) ∧ (u2_2 + 1) ≤ 61 from by (first | omega | (simp only [st_s] <;> omega) | assumption | omega | fail)) (show g_sl (σ.1 61) (σ.2.1 28 n1) (u2_2 + 1) (σ.2.1 13) (σ.2.1 14) (σ.2.1 15) (σ.2.1 84) ((st (τ_2.2.1 100) x11 0)) from by (first | exact p7 | exact g_sl_n i2_2 (by rw [← e5, ← G13, ← e_x7]; assumption) | exact g_sl_c i2_2 (by rw [q10_1, G15, G14, ← e5]) | fail))
  exact l_2 ((62 - 1 : Int).toNat + 1) _ _ (show (62 - 1 : Int) < (((62 - 1 : Int).toNat + 1 : Nat) : Int) from by ((first | omega | (simp only [st_s] <;> omega) | assumption | omega | fail))) hT (show σ.1 6 = σ.1 6 from by first | exact W6 | omega) (show σ.1 7 = σ.1 7 from by first | exact W7 | omega) (show σ.1 13 = σ.1 13 from by first | exact W13 | omega) (show σ.1 14 = σ.1 14 from by first | exact W14 | omega) (show σ.1 15 = σ.1 15 from by first | exact W15 | omega) (show σ.1 54 = σ.1 54 from by first | exact W54 | omega) (show σ.1 61 = σ.1 61 from by first | exact W61 | omega) G10 G13 G14 G15 G16 G27 G28 G29 G30 G31 G32 G33 G34 G35 G36 G37 G84 (show 1 ≤ 1 ∧ 1 ≤ 61 from by (first | omega | (simp only [st_s] <;> omega) | assumption | omega | fail)) (show g_sl (σ.1 61) (σ.2.1 28 n1) 1 (σ.2.1 13) (σ.2.1 14) (σ.2.1 15) (σ.2.1 84) (σ.2.1 100) from by (first | exact p7 | exact g_sl_n i2_2 (by rw [← e5, ← G13, ← e_x7]; assumption) | exact g_sl_c i2_2 (by rw [q10_1, G15, G14, ← e5]) | fail))
set_option maxHeartbeats 4000000 in
theorem K_X2_canDefine {n1 : Int} {σ : S0} (hT : c_T σ) (p1 : 0 ≤ n1) (p2 : n1 < 1500) (p3 : J_all (σ.1 7) (σ.1 6) (σ.1 13) (σ.1 14) (σ.1 15) (σ.2.1 13) (σ.2.1 14) (σ.2.1 15) (σ.2.1 16) (σ.2.1 10) (σ.2.1 27) (σ.2.1 28) (σ.2.1 29) (σ.2.1 30) (σ.2.1 31) (σ.2.1 32) (σ.2.1 33) (σ.2.1 34) (σ.2.1 35) (σ.2.1 36) (σ.2.1 37)) (p4 : g_tre (σ.1 7) (σ.1 54) (σ.2.1 13) (σ.2.1 14) (σ.2.1 27) (σ.2.1 28) (σ.2.1 29) (σ.2.1 84)) (p5 : ∀ v, σ.2.1 100 v = 0) : W_X2_canDefine n1 σ (fun (x : Int) (τ : S0) => (c_T τ) ∧ (0 ≤ x ∧ x ≤ 1) ∧ (∀ v, τ.2.1 100 v = 0) ∧ (¬ x = 0 → 0 ≤ (τ.1 61) ∧ (τ.1 61) < (σ.1 54)) ∧ (¬ x = 0 → g_pp (σ.1 54) (τ.1 61) (σ.2.1 13) (σ.2.1 14) (σ.2.1 16) (σ.2.1 27) (σ.2.1 28) (σ.2.1 29) (σ.2.1 84) ∧ σ.2.1 13 (σ.2.1 84 (τ.1 61)) = 2 ∧ g_fx (τ.1 61) (σ.2.1 28 (σ.2.1 84 (τ.1 61)) + 1) (σ.2.1 13) (σ.2.1 14) (σ.2.1 15) (σ.2.1 84) ∧ (τ.1 61) + σ.2.1 28 (σ.2.1 84 (τ.1 61)) < (σ.1 54))) := by
  have A10 : ∀ j, (-1) ≤ σ.2.1 10 j ∧ σ.2.1 10 j ≤ 99 := fun j => hT.2 10 j
  have A13 : ∀ j, 0 ≤ σ.2.1 13 j ∧ σ.2.1 13 j ≤ 4 := fun j => hT.2 13 j
  have A14 : ∀ j, 0 ≤ σ.2.1 14 j ∧ σ.2.1 14 j ≤ 30000 := fun j => hT.2 14 j
  have A15 : ∀ j, 0 ≤ σ.2.1 15 j ∧ σ.2.1 15 j ≤ 999 := fun j => hT.2 15 j
  have A16 : ∀ j, (-1) ≤ σ.2.1 16 j ∧ σ.2.1 16 j ≤ 1499 := fun j => hT.2 16 j
  have A27 : ∀ j, 0 ≤ σ.2.1 27 j ∧ σ.2.1 27 j ≤ 90000 := fun j => hT.2 27 j
  have A28 : ∀ j, 0 ≤ σ.2.1 28 j ∧ σ.2.1 28 j ≤ 60 := fun j => hT.2 28 j
  have A29 : ∀ j, 0 ≤ σ.2.1 29 j ∧ σ.2.1 29 j ≤ 1499 := fun j => hT.2 29 j
  have A30 : ∀ j, 0 ≤ σ.2.1 30 j ∧ σ.2.1 30 j ≤ 20000 := fun j => hT.2 30 j
  have A31 : ∀ j, 0 ≤ σ.2.1 31 j ∧ σ.2.1 31 j ≤ 20000 := fun j => hT.2 31 j
  have A32 : ∀ j, 0 ≤ σ.2.1 32 j ∧ σ.2.1 32 j ≤ 999999 := fun j => hT.2 32 j
  have A33 : ∀ j, 0 ≤ σ.2.1 33 j ∧ σ.2.1 33 j ≤ 20000 := fun j => hT.2 33 j
  have A34 : ∀ j, 0 ≤ σ.2.1 34 j ∧ σ.2.1 34 j ≤ 20000 := fun j => hT.2 34 j
  have A35 : ∀ j, 0 ≤ σ.2.1 35 j ∧ σ.2.1 35 j ≤ 1499 := fun j => hT.2 35 j
  have A36 : ∀ j, 0 ≤ σ.2.1 36 j ∧ σ.2.1 36 j ≤ 20000 := fun j => hT.2 36 j
  have A37 : ∀ j, 0 ≤ σ.2.1 37 j ∧ σ.2.1 37 j ≤ 19999 := fun j => hT.2 37 j
  have A84 : ∀ j, 0 ≤ σ.2.1 84 j ∧ σ.2.1 84 j ≤ 1499 := fun j => hT.2 84 j
  have A100 : ∀ j, 0 ≤ σ.2.1 100 j ∧ σ.2.1 100 j ≤ 1060 := fun j => hT.2 100 j
  have v6 : 0 ≤ σ.1 6 ∧ σ.1 6 ≤ 30000 := hT.1 6
  have v7 : 0 ≤ σ.1 7 ∧ σ.1 7 ≤ 1500 := hT.1 7
  have v13 : 0 ≤ σ.1 13 ∧ σ.1 13 ≤ 90000 := hT.1 13
  have v14 : 0 ≤ σ.1 14 ∧ σ.1 14 ≤ 20000 := hT.1 14
  have v15 : 0 ≤ σ.1 15 ∧ σ.1 15 ≤ 20000 := hT.1 15
  have v54 : 0 ≤ σ.1 54 ∧ σ.1 54 ≤ 12000 := hT.1 54
  have v61 : 0 ≤ σ.1 61 ∧ σ.1 61 ≤ 12000 := hT.1 61
  have v62 : 0 ≤ σ.1 62 ∧ σ.1 62 ≤ 12000 := hT.1 62
  have a84_61 : 0 ≤ σ.2.1 84 (σ.1 61) ∧ σ.2.1 84 (σ.1 61) ≤ 1499 := hT.2 84 _
  have W6 : σ.1 6 = σ.1 6 := rfl
  have W7 : σ.1 7 = σ.1 7 := rfl
  have W13 : σ.1 13 = σ.1 13 := rfl
  have W14 : σ.1 14 = σ.1 14 := rfl
  have W15 : σ.1 15 = σ.1 15 := rfl
  have W54 : σ.1 54 = σ.1 54 := rfl
  have G10 : σ.2.1 10 = σ.2.1 10 := rfl
  have G13 : σ.2.1 13 = σ.2.1 13 := rfl
  have G14 : σ.2.1 14 = σ.2.1 14 := rfl
  have G15 : σ.2.1 15 = σ.2.1 15 := rfl
  have G16 : σ.2.1 16 = σ.2.1 16 := rfl
  have G27 : σ.2.1 27 = σ.2.1 27 := rfl
  have G28 : σ.2.1 28 = σ.2.1 28 := rfl
  have G29 : σ.2.1 29 = σ.2.1 29 := rfl
  have G30 : σ.2.1 30 = σ.2.1 30 := rfl
  have G31 : σ.2.1 31 = σ.2.1 31 := rfl
  have G32 : σ.2.1 32 = σ.2.1 32 := rfl
  have G33 : σ.2.1 33 = σ.2.1 33 := rfl
  have G34 : σ.2.1 34 = σ.2.1 34 := rfl
  have G35 : σ.2.1 35 = σ.2.1 35 := rfl
  have G36 : σ.2.1 36 = σ.2.1 36 := rfl
  have G37 : σ.2.1 37 = σ.2.1 37 := rfl
  have G84 : σ.2.1 84 = σ.2.1 84 := rfl
  intro P70 h70
  have s28 := fun j => (A28 j).1
  have CJ : J_all (σ.1 7) (σ.1 6) (σ.1 13) (σ.1 14) (σ.1 15) (σ.2.1 13) (σ.2.1 14) (σ.2.1 15) (σ.2.1 16) (σ.2.1 10) (σ.2.1 27) (σ.2.1 28) (σ.2.1 29) (σ.2.1 30) (σ.2.1 31) (σ.2.1 32) (σ.2.1 33) (σ.2.1 34) (σ.2.1 35) (σ.2.1 36) (σ.2.1 37) := p3
  have TRE : g_tre (σ.1 7) (σ.1 54) (σ.2.1 13) (σ.2.1 14) (σ.2.1 27) (σ.2.1 28) (σ.2.1 29) (σ.2.1 84) := p4
  have SZ : ∀ v, σ.2.1 100 v = 0 := p5
  have CJ_0 := CJ
  have SZ_0 := SZ
  have TRE_0 := TRE
  have l_70 : ∀ (u2_70 : Int) (k0_70 : Int) (τ_70 : S0), (c_T τ_70) → (τ_70.1 6 = σ.1 6) → (τ_70.1 7 = σ.1 7) → (τ_70.1 13 = σ.1 13) → (τ_70.1 14 = σ.1 14) → (τ_70.1 15 = σ.1 15) → (τ_70.1 54 = σ.1 54) → (τ_70.2.1 10 = σ.2.1 10) → (τ_70.2.1 13 = σ.2.1 13) → (τ_70.2.1 14 = σ.2.1 14) → (τ_70.2.1 15 = σ.2.1 15) → (τ_70.2.1 16 = σ.2.1 16) → (τ_70.2.1 27 = σ.2.1 27) → (τ_70.2.1 28 = σ.2.1 28) → (τ_70.2.1 29 = σ.2.1 29) → (τ_70.2.1 30 = σ.2.1 30) → (τ_70.2.1 31 = σ.2.1 31) → (τ_70.2.1 32 = σ.2.1 32) → (τ_70.2.1 33 = σ.2.1 33) → (τ_70.2.1 34 = σ.2.1 34) → (τ_70.2.1 35 = σ.2.1 35) → (τ_70.2.1 36 = σ.2.1 36) → (τ_70.2.1 37 = σ.2.1 37) → (τ_70.2.1 84 = σ.2.1 84) → (0 ≤ u2_70 ∧ u2_70 < 1500) → (0 ≤ k0_70 ∧ k0_70 ≤ 1) → (0 ≤ (τ_70.1 61) ∧ (τ_70.1 61) < (σ.1 54)) → ((τ_70.1 61) + σ.2.1 28 u2_70 < (σ.1 54)) → (g_sl (τ_70.1 61) (σ.2.1 28 u2_70) 1 (σ.2.1 13) (σ.2.1 14) (σ.2.1 15) (σ.2.1 84) (τ_70.2.1 100)) → (g_pp (σ.1 54) (τ_70.1 61) (σ.2.1 13) (σ.2.1 14) (σ.2.1 16) (σ.2.1 27) (σ.2.1 28) (σ.2.1 29) (σ.2.1 84)) → (u2_70 = σ.2.1 84 (τ_70.1 61) ∧ σ.2.1 13 u2_70 = 2) → (¬ k0_70 = 0 → g_fx (τ_70.1 61) (σ.2.1 28 u2_70 + 1) (σ.2.1 13) (σ.2.1 14) (σ.2.1 15) (σ.2.1 84)) → P70 u2_70 k0_70 τ_70 := by
    intro u2_70 k0_70 τ_70 hT W6 W7 W13 W14 W15 W54 G10 G13 G14 G15 G16 G27 G28 G29 G30 G31 G32 G33 G34 G35 G36 G37 G84 i70_1 i70_2 i70_3 i70_4 i70_5 i70_6 i70_7 i70_8
    have A10 : ∀ j, (-1) ≤ τ_70.2.1 10 j ∧ τ_70.2.1 10 j ≤ 99 := fun j => hT.2 10 j
    have A13 : ∀ j, 0 ≤ τ_70.2.1 13 j ∧ τ_70.2.1 13 j ≤ 4 := fun j => hT.2 13 j
    have A14 : ∀ j, 0 ≤ τ_70.2.1 14 j ∧ τ_70.2.1 14 j ≤ 30000 := fun j => hT.2 14 j
    have A15 : ∀ j, 0 ≤ τ_70.2.1 15 j ∧ τ_70.2.1 15 j ≤ 999 := fun j => hT.2 15 j
    have A16 : ∀ j, (-1) ≤ τ_70.2.1 16 j ∧ τ_70.2.1 16 j ≤ 1499 := fun j => hT.2 16 j
    have A27 : ∀ j, 0 ≤ τ_70.2.1 27 j ∧ τ_70.2.1 27 j ≤ 90000 := fun j => hT.2 27 j
    have A28 : ∀ j, 0 ≤ τ_70.2.1 28 j ∧ τ_70.2.1 28 j ≤ 60 := fun j => hT.2 28 j
    have A29 : ∀ j, 0 ≤ τ_70.2.1 29 j ∧ τ_70.2.1 29 j ≤ 1499 := fun j => hT.2 29 j
    have A30 : ∀ j, 0 ≤ τ_70.2.1 30 j ∧ τ_70.2.1 30 j ≤ 20000 := fun j => hT.2 30 j
    have A31 : ∀ j, 0 ≤ τ_70.2.1 31 j ∧ τ_70.2.1 31 j ≤ 20000 := fun j => hT.2 31 j
    have A32 : ∀ j, 0 ≤ τ_70.2.1 32 j ∧ τ_70.2.1 32 j ≤ 999999 := fun j => hT.2 32 j
    have A33 : ∀ j, 0 ≤ τ_70.2.1 33 j ∧ τ_70.2.1 33 j ≤ 20000 := fun j => hT.2 33 j
    have A34 : ∀ j, 0 ≤ τ_70.2.1 34 j ∧ τ_70.2.1 34 j ≤ 20000 := fun j => hT.2 34 j
    have A35 : ∀ j, 0 ≤ τ_70.2.1 35 j ∧ τ_70.2.1 35 j ≤ 1499 := fun j => hT.2 35 j
    have A36 : ∀ j, 0 ≤ τ_70.2.1 36 j ∧ τ_70.2.1 36 j ≤ 20000 := fun j => hT.2 36 j
    have A37 : ∀ j, 0 ≤ τ_70.2.1 37 j ∧ τ_70.2.1 37 j ≤ 19999 := fun j => hT.2 37 j
    have A84 : ∀ j, 0 ≤ τ_70.2.1 84 j ∧ τ_70.2.1 84 j ≤ 1499 := fun j => hT.2 84 j
    have A100 : ∀ j, 0 ≤ τ_70.2.1 100 j ∧ τ_70.2.1 100 j ≤ 1060 := fun j => hT.2 100 j
    have v6 : 0 ≤ τ_70.1 6 ∧ τ_70.1 6 ≤ 30000 := hT.1 6
    have v7 : 0 ≤ τ_70.1 7 ∧ τ_70.1 7 ≤ 1500 := hT.1 7
    have v13 : 0 ≤ τ_70.1 13 ∧ τ_70.1 13 ≤ 90000 := hT.1 13
    have v14 : 0 ≤ τ_70.1 14 ∧ τ_70.1 14 ≤ 20000 := hT.1 14
    have v15 : 0 ≤ τ_70.1 15 ∧ τ_70.1 15 ≤ 20000 := hT.1 15
    have v54 : 0 ≤ τ_70.1 54 ∧ τ_70.1 54 ≤ 12000 := hT.1 54
    have v61 : 0 ≤ τ_70.1 61 ∧ τ_70.1 61 ≤ 12000 := hT.1 61
    have v62 : 0 ≤ τ_70.1 62 ∧ τ_70.1 62 ≤ 12000 := hT.1 62
    have a84_61 : 0 ≤ τ_70.2.1 84 (τ_70.1 61) ∧ τ_70.2.1 84 (τ_70.1 61) ≤ 1499 := hT.2 84 _
    have CJ : J_all (τ_70.1 7) (τ_70.1 6) (τ_70.1 13) (τ_70.1 14) (τ_70.1 15) (τ_70.2.1 13) (τ_70.2.1 14) (τ_70.2.1 15) (τ_70.2.1 16) (τ_70.2.1 10) (τ_70.2.1 27) (τ_70.2.1 28) (τ_70.2.1 29) (τ_70.2.1 30) (τ_70.2.1 31) (τ_70.2.1 32) (τ_70.2.1 33) (τ_70.2.1 34) (τ_70.2.1 35) (τ_70.2.1 36) (τ_70.2.1 37) := by rw [show (J_all (τ_70.1 7) (τ_70.1 6) (τ_70.1 13) (τ_70.1 14) (τ_70.1 15) (τ_70.2.1 13) (τ_70.2.1 14) (τ_70.2.1 15) (τ_70.2.1 16) (τ_70.2.1 10) (τ_70.2.1 27) (τ_70.2.1 28) (τ_70.2.1 29) (τ_70.2.1 30) (τ_70.2.1 31) (τ_70.2.1 32) (τ_70.2.1 33) (τ_70.2.1 34) (τ_70.2.1 35) (τ_70.2.1 36) (τ_70.2.1 37)) = (J_all (σ.1 7) (σ.1 6) (σ.1 13) (σ.1 14) (σ.1 15) (σ.2.1 13) (σ.2.1 14) (σ.2.1 15) (σ.2.1 16) (σ.2.1 10) (σ.2.1 27) (σ.2.1 28) (σ.2.1 29) (σ.2.1 30) (σ.2.1 31) (σ.2.1 32) (σ.2.1 33) (σ.2.1 34) (σ.2.1 35) (σ.2.1 36) (σ.2.1 37)) from by rw [W6, W7, W13, W14, W15, G10, G13, G14, G15, G16, G27, G28, G29, G30, G31, G32, G33, G34, G35, G36, G37]]; exact CJ_0
    have TRE : g_tre (τ_70.1 7) (τ_70.1 54) (τ_70.2.1 13) (τ_70.2.1 14) (τ_70.2.1 27) (τ_70.2.1 28) (τ_70.2.1 29) (τ_70.2.1 84) := by rw [show (g_tre (τ_70.1 7) (τ_70.1 54) (τ_70.2.1 13) (τ_70.2.1 14) (τ_70.2.1 27) (τ_70.2.1 28) (τ_70.2.1 29) (τ_70.2.1 84)) = (g_tre (σ.1 7) (σ.1 54) (σ.2.1 13) (σ.2.1 14) (σ.2.1 27) (σ.2.1 28) (σ.2.1 29) (σ.2.1 84)) from by rw [W7, W54, G13, G14, G27, G28, G29, G84]]; exact TRE_0
    refine h70 u2_70 k0_70 τ_70 ?_
    refine ⟨_, K_X2_clearSlots hT (show 0 ≤ u2_70 from by (first | omega | (simp only [st_s] <;> omega) | assumption | omega | fail)) (show u2_70 < 1500 from by (first | omega | (simp only [st_s] <;> omega) | assumption | omega | fail)) (show J_all (τ_70.1 7) (τ_70.1 6) (τ_70.1 13) (τ_70.1 14) (τ_70.1 15) (τ_70.2.1 13) (τ_70.2.1 14) (τ_70.2.1 15) (τ_70.2.1 16) (τ_70.2.1 10) (τ_70.2.1 27) (τ_70.2.1 28) (τ_70.2.1 29) (τ_70.2.1 30) (τ_70.2.1 31) (τ_70.2.1 32) (τ_70.2.1 33) (τ_70.2.1 34) (τ_70.2.1 35) (τ_70.2.1 36) (τ_70.2.1 37) from CJ) (show g_tre (τ_70.1 7) (τ_70.1 54) (τ_70.2.1 13) (τ_70.2.1 14) (τ_70.2.1 27) (τ_70.2.1 28) (τ_70.2.1 29) (τ_70.2.1 84) from TRE) (show 0 ≤ (τ_70.1 61) from by (first | omega | (simp only [st_s] <;> omega) | assumption | omega | fail)) (show (τ_70.1 61) + τ_70.2.1 28 u2_70 < (τ_70.1 54) from by (rw [G28, W54]; exact i70_4)) (show g_sl (τ_70.1 61) (τ_70.2.1 28 u2_70) 1 (τ_70.2.1 13) (τ_70.2.1 14) (τ_70.2.1 15) (τ_70.2.1 84) (τ_70.2.1 100) from by (rw [G28, G13, G14, G15, G84]; exact i70_5)), ?_⟩
    intro τ23 hn_τ23 hf_τ23 hq
    obtain ⟨hT, q21_1⟩ := hq
    replace q21_1 : ∀ v, τ23.2.1 100 v = 0 := q21_1
    have w6_τ23 : τ23.1 6 = τ_70.1 6 := hf_τ23.1 6 (by decide)
    have w7_τ23 : τ23.1 7 = τ_70.1 7 := hf_τ23.1 7 (by decide)
    have w13_τ23 : τ23.1 13 = τ_70.1 13 := hf_τ23.1 13 (by decide)
    have w14_τ23 : τ23.1 14 = τ_70.1 14 := hf_τ23.1 14 (by decide)
    have w15_τ23 : τ23.1 15 = τ_70.1 15 := hf_τ23.1 15 (by decide)
    have w54_τ23 : τ23.1 54 = τ_70.1 54 := hf_τ23.1 54 (by decide)
    have w61_τ23 : τ23.1 61 = τ_70.1 61 := hf_τ23.1 61 (by decide)
    have w62_τ23 : τ23.1 62 = τ_70.1 62 := hf_τ23.1 62 (by decide)
    have g10_τ23 : τ23.2.1 10 = τ_70.2.1 10 := hf_τ23.2.1 10 (by decide)
    have g13_τ23 : τ23.2.1 13 = τ_70.2.1 13 := hf_τ23.2.1 13 (by decide)
    have g14_τ23 : τ23.2.1 14 = τ_70.2.1 14 := hf_τ23.2.1 14 (by decide)
    have g15_τ23 : τ23.2.1 15 = τ_70.2.1 15 := hf_τ23.2.1 15 (by decide)
    have g16_τ23 : τ23.2.1 16 = τ_70.2.1 16 := hf_τ23.2.1 16 (by decide)
    have g27_τ23 : τ23.2.1 27 = τ_70.2.1 27 := hf_τ23.2.1 27 (by decide)
    have g28_τ23 : τ23.2.1 28 = τ_70.2.1 28 := hf_τ23.2.1 28 (by decide)
    have g29_τ23 : τ23.2.1 29 = τ_70.2.1 29 := hf_τ23.2.1 29 (by decide)
    have g30_τ23 : τ23.2.1 30 = τ_70.2.1 30 := hf_τ23.2.1 30 (by decide)
    have g31_τ23 : τ23.2.1 31 = τ_70.2.1 31 := hf_τ23.2.1 31 (by decide)
    have g32_τ23 : τ23.2.1 32 = τ_70.2.1 32 := hf_τ23.2.1 32 (by decide)
    have g33_τ23 : τ23.2.1 33 = τ_70.2.1 33 := hf_τ23.2.1 33 (by decide)
    have g34_τ23 : τ23.2.1 34 = τ_70.2.1 34 := hf_τ23.2.1 34 (by decide)
    have g35_τ23 : τ23.2.1 35 = τ_70.2.1 35 := hf_τ23.2.1 35 (by decide)
    have g36_τ23 : τ23.2.1 36 = τ_70.2.1 36 := hf_τ23.2.1 36 (by decide)
    have g37_τ23 : τ23.2.1 37 = τ_70.2.1 37 := hf_τ23.2.1 37 (by decide)
    have g84_τ23 : τ23.2.1 84 = τ_70.2.1 84 := hf_τ23.2.1 84 (by decide)
    have W6 : τ23.1 6 = σ.1 6 := by first | exact w6_τ23.trans W6 | omega
    have W7 : τ23.1 7 = σ.1 7 := by first | exact w7_τ23.trans W7 | omega
    have W13 : τ23.1 13 = σ.1 13 := by first | exact w13_τ23.trans W13 | omega
    have W14 : τ23.1 14 = σ.1 14 := by first | exact w14_τ23.trans W14 | omega
    have W15 : τ23.1 15 = σ.1 15 := by first | exact w15_τ23.trans W15 | omega
    have W54 : τ23.1 54 = σ.1 54 := by first | exact w54_τ23.trans W54 | omega
    have G10 : τ23.2.1 10 = σ.2.1 10 := (g10_τ23).trans G10
    have G13 : τ23.2.1 13 = σ.2.1 13 := (g13_τ23).trans G13
    have G14 : τ23.2.1 14 = σ.2.1 14 := (g14_τ23).trans G14
    have G15 : τ23.2.1 15 = σ.2.1 15 := (g15_τ23).trans G15
    have G16 : τ23.2.1 16 = σ.2.1 16 := (g16_τ23).trans G16
    have G27 : τ23.2.1 27 = σ.2.1 27 := (g27_τ23).trans G27
    have G28 : τ23.2.1 28 = σ.2.1 28 := (g28_τ23).trans G28
    have G29 : τ23.2.1 29 = σ.2.1 29 := (g29_τ23).trans G29
    have G30 : τ23.2.1 30 = σ.2.1 30 := (g30_τ23).trans G30
    have G31 : τ23.2.1 31 = σ.2.1 31 := (g31_τ23).trans G31
    have G32 : τ23.2.1 32 = σ.2.1 32 := (g32_τ23).trans G32
    have G33 : τ23.2.1 33 = σ.2.1 33 := (g33_τ23).trans G33
    have G34 : τ23.2.1 34 = σ.2.1 34 := (g34_τ23).trans G34
    have G35 : τ23.2.1 35 = σ.2.1 35 := (g35_τ23).trans G35
    have G36 : τ23.2.1 36 = σ.2.1 36 := (g36_τ23).trans G36
    have G37 : τ23.2.1 37 = σ.2.1 37 := (g37_τ23).trans G37
    have G84 : τ23.2.1 84 = σ.2.1 84 := (g84_τ23).trans G84
    have y84_61_τ23 : τ23.2.1 84 (τ23.1 61) = (τ_70.2.1 84) (τ_70.1 61) := by rw [g84_τ23, w61_τ23]
    have CJ : J_all (τ23.1 7) (τ23.1 6) (τ23.1 13) (τ23.1 14) (τ23.1 15) (τ23.2.1 13) (τ23.2.1 14) (τ23.2.1 15) (τ23.2.1 16) (τ23.2.1 10) (τ23.2.1 27) (τ23.2.1 28) (τ23.2.1 29) (τ23.2.1 30) (τ23.2.1 31) (τ23.2.1 32) (τ23.2.1 33) (τ23.2.1 34) (τ23.2.1 35) (τ23.2.1 36) (τ23.2.1 37) := by rw [show (J_all (τ23.1 7) (τ23.1 6) (τ23.1 13) (τ23.1 14) (τ23.1 15) (τ23.2.1 13) (τ23.2.1 14) (τ23.2.1 15) (τ23.2.1 16) (τ23.2.1 10) (τ23.2.1 27) (τ23.2.1 28) (τ23.2.1 29) (τ23.2.1 30) (τ23.2.1 31) (τ23.2.1 32) (τ23.2.1 33) (τ23.2.1 34) (τ23.2.1 35) (τ23.2.1 36) (τ23.2.1 37)) = (J_all (τ_70.1 7) (τ_70.1 6) (τ_70.1 13) (τ_70.1 14) (τ_70.1 15) (τ_70.2.1 13) (τ_70.2.1 14) (τ_70.2.1 15) (τ_70.2.1 16) (τ_70.2.1 10) (τ_70.2.1 27) (τ_70.2.1 28) (τ_70.2.1 29) (τ_70.2.1 30) (τ_70.2.1 31) (τ_70.2.1 32) (τ_70.2.1 33) (τ_70.2.1 34) (τ_70.2.1 35) (τ_70.2.1 36) (τ_70.2.1 37)) from by rw [w6_τ23, w7_τ23, w13_τ23, w14_τ23, w15_τ23, g10_τ23, g13_τ23, g14_τ23, g15_τ23, g16_τ23, g27_τ23, g28_τ23, g29_τ23, g30_τ23, g31_τ23, g32_τ23, g33_τ23, g34_τ23, g35_τ23, g36_τ23, g37_τ23]]; exact CJ
    have TRE : g_tre (τ23.1 7) (τ23.1 54) (τ23.2.1 13) (τ23.2.1 14) (τ23.2.1 27) (τ23.2.1 28) (τ23.2.1 29) (τ23.2.1 84) := by rw [show (g_tre (τ23.1 7) (τ23.1 54) (τ23.2.1 13) (τ23.2.1 14) (τ23.2.1 27) (τ23.2.1 28) (τ23.2.1 29) (τ23.2.1 84)) = (g_tre (τ_70.1 7) (τ_70.1 54) (τ_70.2.1 13) (τ_70.2.1 14) (τ_70.2.1 27) (τ_70.2.1 28) (τ_70.2.1 29) (τ_70.2.1 84)) from by rw [w7_τ23, w54_τ23, g13_τ23, g14_τ23, g27_τ23, g28_τ23, g29_τ23, g84_τ23]]; exact TRE
    have SZ : ∀ v, τ23.2.1 100 v = 0 := q21_1
    have A10 : ∀ j, (-1) ≤ τ23.2.1 10 j ∧ τ23.2.1 10 j ≤ 99 := fun j => hT.2 10 j
    have A13 : ∀ j, 0 ≤ τ23.2.1 13 j ∧ τ23.2.1 13 j ≤ 4 := fun j => hT.2 13 j
    have A14 : ∀ j, 0 ≤ τ23.2.1 14 j ∧ τ23.2.1 14 j ≤ 30000 := fun j => hT.2 14 j
    have A15 : ∀ j, 0 ≤ τ23.2.1 15 j ∧ τ23.2.1 15 j ≤ 999 := fun j => hT.2 15 j
    have A16 : ∀ j, (-1) ≤ τ23.2.1 16 j ∧ τ23.2.1 16 j ≤ 1499 := fun j => hT.2 16 j
    have A27 : ∀ j, 0 ≤ τ23.2.1 27 j ∧ τ23.2.1 27 j ≤ 90000 := fun j => hT.2 27 j
    have A28 : ∀ j, 0 ≤ τ23.2.1 28 j ∧ τ23.2.1 28 j ≤ 60 := fun j => hT.2 28 j
    have A29 : ∀ j, 0 ≤ τ23.2.1 29 j ∧ τ23.2.1 29 j ≤ 1499 := fun j => hT.2 29 j
    have A30 : ∀ j, 0 ≤ τ23.2.1 30 j ∧ τ23.2.1 30 j ≤ 20000 := fun j => hT.2 30 j
    have A31 : ∀ j, 0 ≤ τ23.2.1 31 j ∧ τ23.2.1 31 j ≤ 20000 := fun j => hT.2 31 j
    have A32 : ∀ j, 0 ≤ τ23.2.1 32 j ∧ τ23.2.1 32 j ≤ 999999 := fun j => hT.2 32 j
    have A33 : ∀ j, 0 ≤ τ23.2.1 33 j ∧ τ23.2.1 33 j ≤ 20000 := fun j => hT.2 33 j
    have A34 : ∀ j, 0 ≤ τ23.2.1 34 j ∧ τ23.2.1 34 j ≤ 20000 := fun j => hT.2 34 j
    have A35 : ∀ j, 0 ≤ τ23.2.1 35 j ∧ τ23.2.1 35 j ≤ 1499 := fun j => hT.2 35 j
    have A36 : ∀ j, 0 ≤ τ23.2.1 36 j ∧ τ23.2.1 36 j ≤ 20000 := fun j => hT.2 36 j
    have A37 : ∀ j, 0 ≤ τ23.2.1 37 j ∧ τ23.2.1 37 j ≤ 19999 := fun j => hT.2 37 j
    have A84 : ∀ j, 0 ≤ τ23.2.1 84 j ∧ τ23.2.1 84 j ≤ 1499 := fun j => hT.2 84 j
    have A100 : ∀ j, 0 ≤ τ23.2.1 100 j ∧ τ23.2.1 100 j ≤ 1060 := fun j => hT.2 100 j
    have v6 : 0 ≤ τ23.1 6 ∧ τ23.1 6 ≤ 30000 := hT.1 6
    have v7 : 0 ≤ τ23.1 7 ∧ τ23.1 7 ≤ 1500 := hT.1 7
    have v13 : 0 ≤ τ23.1 13 ∧ τ23.1 13 ≤ 90000 := hT.1 13
    have v14 : 0 ≤ τ23.1 14 ∧ τ23.1 14 ≤ 20000 := hT.1 14
    have v15 : 0 ≤ τ23.1 15 ∧ τ23.1 15 ≤ 20000 := hT.1 15
    have v54 : 0 ≤ τ23.1 54 ∧ τ23.1 54 ≤ 12000 := hT.1 54
    have v61 : 0 ≤ τ23.1 61 ∧ τ23.1 61 ≤ 12000 := hT.1 61
    have v62 : 0 ≤ τ23.1 62 ∧ τ23.1 62 ≤ 12000 := hT.1 62
    have a84_61 : 0 ≤ τ23.2.1 84 (τ23.1 61) ∧ τ23.2.1 84 (τ23.1 61) ≤ 1499 := hT.2 84 _
    refine ⟨(show 0 ≤ k0_70 ∧ k0_70 ≤ 1 from by (first | omega | (simp only [st_s] <;> omega) | assumption | omega | fail)), ?_⟩
    exact ⟨hT, (show 0 ≤ k0_70 ∧ k0_70 ≤ 1 from by (first | omega | (simp only [st_s] <;> omega) | assumption | omega | fail)), (show ∀ v, τ23.2.1 100 v = 0 from SZ), (show ¬ k0_70 = 0 → 0 ≤ (τ23.1 61) ∧ (τ23.1 61) < (σ.1 54) from by (first | omega | (simp only [st_s] <;> omega) | assumption | omega | fail)), (show ¬ k0_70 = 0 → g_pp (σ.1 54) (τ23.1 61) (σ.2.1 13) (σ.2.1 14) (σ.2.1 16) (σ.2.1 27) (σ.2.1 28) (σ.2.1 29) (σ.2.1 84) ∧ σ.2.1 13 (σ.2.1 84 (τ23.1 61)) = 2 ∧ g_fx (τ23.1 61) (σ.2.1 28 (σ.2.1 84 (τ23.1 61)) + 1) (σ.2.1 13) (σ.2.1 14) (σ.2.1 15) (σ.2.1 84) ∧ (τ23.1 61) + σ.2.1 28 (σ.2.1 84 (τ23.1 61)) < (σ.1 54) from by (first | (intro z; exact absurd rfl z) | (intro z; rw [w61_τ23]; exact ⟨i70_6, by rw [← i70_7.1]; exact i70_7.2, by rw [← i70_7.1]; exact i70_8 z, by rw [← i70_7.1]; exact i70_4⟩) | fail))⟩
  refine ⟨_, K_X2_partSides hT (show J_all (σ.1 7) (σ.1 6) (σ.1 13) (σ.1 14) (σ.1 15) (σ.2.1 13) (σ.2.1 14) (σ.2.1 15) (σ.2.1 16) (σ.2.1 10) (σ.2.1 27) (σ.2.1 28) (σ.2.1 29) (σ.2.1 30) (σ.2.1 31) (σ.2.1 32) (σ.2.1 33) (σ.2.1 34) (σ.2.1 35) (σ.2.1 36) (σ.2.1 37) from CJ) (show g_tre (σ.1 7) (σ.1 54) (σ.2.1 13) (σ.2.1 14) (σ.2.1 27) (σ.2.1 28) (σ.2.1 29) (σ.2.1 84) from TRE), ?_⟩
  intro x2 τ3 r_x2 hn_τ3 hf_τ3 hq
  obtain ⟨hT, q1_1, q1_2, q1_3, q1_4⟩ := hq
  replace q1_1 : 0 ≤ x2 ∧ x2 ≤ 1 := q1_1
  replace q1_2 : ¬ x2 = 0 → (1 ≤ (τ3.1 61) ∧ (τ3.1 61) < (σ.1 54)) ∧ 1 ≤ (τ3.1 62) ∧ (τ3.1 62) < (σ.1 54) := q1_2
  replace q1_3 : ¬ x2 = 0 → g_pp (σ.1 54) (τ3.1 61) (σ.2.1 13) (σ.2.1 14) (σ.2.1 16) (σ.2.1 27) (σ.2.1 28) (σ.2.1 29) (σ.2.1 84) := q1_3
  replace q1_4 : x2 = 0 → ∀ y : Int, ¬ g_pp (σ.1 54) y (σ.2.1 13) (σ.2.1 14) (σ.2.1 16) (σ.2.1 27) (σ.2.1 28) (σ.2.1 29) (σ.2.1 84) := q1_4
  have w6_τ3 : τ3.1 6 = σ.1 6 := hf_τ3.1 6 (by decide)
  have w7_τ3 : τ3.1 7 = σ.1 7 := hf_τ3.1 7 (by decide)
  have w13_τ3 : τ3.1 13 = σ.1 13 := hf_τ3.1 13 (by decide)
  have w14_τ3 : τ3.1 14 = σ.1 14 := hf_τ3.1 14 (by decide)
  have w15_τ3 : τ3.1 15 = σ.1 15 := hf_τ3.1 15 (by decide)
  have w54_τ3 : τ3.1 54 = σ.1 54 := hf_τ3.1 54 (by decide)
  have g10_τ3 : τ3.2.1 10 = σ.2.1 10 := hf_τ3.2.1 10 (by decide)
  have g13_τ3 : τ3.2.1 13 = σ.2.1 13 := hf_τ3.2.1 13 (by decide)
  have g14_τ3 : τ3.2.1 14 = σ.2.1 14 := hf_τ3.2.1 14 (by decide)
  have g15_τ3 : τ3.2.1 15 = σ.2.1 15 := hf_τ3.2.1 15 (by decide)
  have g16_τ3 : τ3.2.1 16 = σ.2.1 16 := hf_τ3.2.1 16 (by decide)
  have g27_τ3 : τ3.2.1 27 = σ.2.1 27 := hf_τ3.2.1 27 (by decide)
  have g28_τ3 : τ3.2.1 28 = σ.2.1 28 := hf_τ3.2.1 28 (by decide)
  have g29_τ3 : τ3.2.1 29 = σ.2.1 29 := hf_τ3.2.1 29 (by decide)
  have g30_τ3 : τ3.2.1 30 = σ.2.1 30 := hf_τ3.2.1 30 (by decide)
  have g31_τ3 : τ3.2.1 31 = σ.2.1 31 := hf_τ3.2.1 31 (by decide)
  have g32_τ3 : τ3.2.1 32 = σ.2.1 32 := hf_τ3.2.1 32 (by decide)
  have g33_τ3 : τ3.2.1 33 = σ.2.1 33 := hf_τ3.2.1 33 (by decide)
  have g34_τ3 : τ3.2.1 34 = σ.2.1 34 := hf_τ3.2.1 34 (by decide)
  have g35_τ3 : τ3.2.1 35 = σ.2.1 35 := hf_τ3.2.1 35 (by decide)
  have g36_τ3 : τ3.2.1 36 = σ.2.1 36 := hf_τ3.2.1 36 (by decide)
  have g37_τ3 : τ3.2.1 37 = σ.2.1 37 := hf_τ3.2.1 37 (by decide)
  have g84_τ3 : τ3.2.1 84 = σ.2.1 84 := hf_τ3.2.1 84 (by decide)
  have g100_τ3 : τ3.2.1 100 = σ.2.1 100 := hf_τ3.2.1 100 (by decide)
  have W6 : τ3.1 6 = σ.1 6 := by first | exact w6_τ3.trans W6 | omega
  have W7 : τ3.1 7 = σ.1 7 := by first | exact w7_τ3.trans W7 | omega
  have W13 : τ3.1 13 = σ.1 13 := by first | exact w13_τ3.trans W13 | omega
  have W14 : τ3.1 14 = σ.1 14 := by first | exact w14_τ3.trans W14 | omega
  have W15 : τ3.1 15 = σ.1 15 := by first | exact w15_τ3.trans W15 | omega
  have W54 : τ3.1 54 = σ.1 54 := by first | exact w54_τ3.trans W54 | omega
  have G10 : τ3.2.1 10 = σ.2.1 10 := (g10_τ3).trans G10
  have G13 : τ3.2.1 13 = σ.2.1 13 := (g13_τ3).trans G13
  have G14 : τ3.2.1 14 = σ.2.1 14 := (g14_τ3).trans G14
  have G15 : τ3.2.1 15 = σ.2.1 15 := (g15_τ3).trans G15
  have G16 : τ3.2.1 16 = σ.2.1 16 := (g16_τ3).trans G16
  have G27 : τ3.2.1 27 = σ.2.1 27 := (g27_τ3).trans G27
  have G28 : τ3.2.1 28 = σ.2.1 28 := (g28_τ3).trans G28
  have G29 : τ3.2.1 29 = σ.2.1 29 := (g29_τ3).trans G29
  have G30 : τ3.2.1 30 = σ.2.1 30 := (g30_τ3).trans G30
  have G31 : τ3.2.1 31 = σ.2.1 31 := (g31_τ3).trans G31
  have G32 : τ3.2.1 32 = σ.2.1 32 := (g32_τ3).trans G32
  have G33 : τ3.2.1 33 = σ.2.1 33 := (g33_τ3).trans G33
  have G34 : τ3.2.1 34 = σ.2.1 34 := (g34_τ3).trans G34
  have G35 : τ3.2.1 35 = σ.2.1 35 := (g35_τ3).trans G35
  have G36 : τ3.2.1 36 = σ.2.1 36 := (g36_τ3).trans G36
  have G37 : τ3.2.1 37 = σ.2.1 37 := (g37_τ3).trans G37
  have G84 : τ3.2.1 84 = σ.2.1 84 := (g84_τ3).trans G84
  have CJ : J_all (τ3.1 7) (τ3.1 6) (τ3.1 13) (τ3.1 14) (τ3.1 15) (τ3.2.1 13) (τ3.2.1 14) (τ3.2.1 15) (τ3.2.1 16) (τ3.2.1 10) (τ3.2.1 27) (τ3.2.1 28) (τ3.2.1 29) (τ3.2.1 30) (τ3.2.1 31) (τ3.2.1 32) (τ3.2.1 33) (τ3.2.1 34) (τ3.2.1 35) (τ3.2.1 36) (τ3.2.1 37) := by rw [show (J_all (τ3.1 7) (τ3.1 6) (τ3.1 13) (τ3.1 14) (τ3.1 15) (τ3.2.1 13) (τ3.2.1 14) (τ3.2.1 15) (τ3.2.1 16) (τ3.2.1 10) (τ3.2.1 27) (τ3.2.1 28) (τ3.2.1 29) (τ3.2.1 30) (τ3.2.1 31) (τ3.2.1 32) (τ3.2.1 33) (τ3.2.1 34) (τ3.2.1 35) (τ3.2.1 36) (τ3.2.1 37)) = (J_all (σ.1 7) (σ.1 6) (σ.1 13) (σ.1 14) (σ.1 15) (σ.2.1 13) (σ.2.1 14) (σ.2.1 15) (σ.2.1 16) (σ.2.1 10) (σ.2.1 27) (σ.2.1 28) (σ.2.1 29) (σ.2.1 30) (σ.2.1 31) (σ.2.1 32) (σ.2.1 33) (σ.2.1 34) (σ.2.1 35) (σ.2.1 36) (σ.2.1 37)) from by rw [w6_τ3, w7_τ3, w13_τ3, w14_τ3, w15_τ3, g10_τ3, g13_τ3, g14_τ3, g15_τ3, g16_τ3, g27_τ3, g28_τ3, g29_τ3, g30_τ3, g31_τ3, g32_τ3, g33_τ3, g34_τ3, g35_τ3, g36_τ3, g37_τ3]]; exact CJ
  have TRE : g_tre (τ3.1 7) (τ3.1 54) (τ3.2.1 13) (τ3.2.1 14) (τ3.2.1 27) (τ3.2.1 28) (τ3.2.1 29) (τ3.2.1 84) := by rw [show (g_tre (τ3.1 7) (τ3.1 54) (τ3.2.1 13) (τ3.2.1 14) (τ3.2.1 27) (τ3.2.1 28) (τ3.2.1 29) (τ3.2.1 84)) = (g_tre (σ.1 7) (σ.1 54) (σ.2.1 13) (σ.2.1 14) (σ.2.1 27) (σ.2.1 28) (σ.2.1 29) (σ.2.1 84)) from by rw [w7_τ3, w54_τ3, g13_τ3, g14_τ3, g27_τ3, g28_τ3, g29_τ3, g84_τ3]]; exact TRE
  have SZ : ∀ v, τ3.2.1 100 v = 0 := by rw [show (∀ v, τ3.2.1 100 v = 0) = (∀ v, σ.2.1 100 v = 0) from by rw [g100_τ3]]; exact SZ
  have A10 : ∀ j, (-1) ≤ τ3.2.1 10 j ∧ τ3.2.1 10 j ≤ 99 := fun j => hT.2 10 j
  have A13 : ∀ j, 0 ≤ τ3.2.1 13 j ∧ τ3.2.1 13 j ≤ 4 := fun j => hT.2 13 j
  have A14 : ∀ j, 0 ≤ τ3.2.1 14 j ∧ τ3.2.1 14 j ≤ 30000 := fun j => hT.2 14 j
  have A15 : ∀ j, 0 ≤ τ3.2.1 15 j ∧ τ3.2.1 15 j ≤ 999 := fun j => hT.2 15 j
  have A16 : ∀ j, (-1) ≤ τ3.2.1 16 j ∧ τ3.2.1 16 j ≤ 1499 := fun j => hT.2 16 j
  have A27 : ∀ j, 0 ≤ τ3.2.1 27 j ∧ τ3.2.1 27 j ≤ 90000 := fun j => hT.2 27 j
  have A28 : ∀ j, 0 ≤ τ3.2.1 28 j ∧ τ3.2.1 28 j ≤ 60 := fun j => hT.2 28 j
  have A29 : ∀ j, 0 ≤ τ3.2.1 29 j ∧ τ3.2.1 29 j ≤ 1499 := fun j => hT.2 29 j
  have A30 : ∀ j, 0 ≤ τ3.2.1 30 j ∧ τ3.2.1 30 j ≤ 20000 := fun j => hT.2 30 j
  have A31 : ∀ j, 0 ≤ τ3.2.1 31 j ∧ τ3.2.1 31 j ≤ 20000 := fun j => hT.2 31 j
  have A32 : ∀ j, 0 ≤ τ3.2.1 32 j ∧ τ3.2.1 32 j ≤ 999999 := fun j => hT.2 32 j
  have A33 : ∀ j, 0 ≤ τ3.2.1 33 j ∧ τ3.2.1 33 j ≤ 20000 := fun j => hT.2 33 j
  have A34 : ∀ j, 0 ≤ τ3.2.1 34 j ∧ τ3.2.1 34 j ≤ 20000 := fun j => hT.2 34 j
  have A35 : ∀ j, 0 ≤ τ3.2.1 35 j ∧ τ3.2.1 35 j ≤ 1499 := fun j => hT.2 35 j
  have A36 : ∀ j, 0 ≤ τ3.2.1 36 j ∧ τ3.2.1 36 j ≤ 20000 := fun j => hT.2 36 j
  have A37 : ∀ j, 0 ≤ τ3.2.1 37 j ∧ τ3.2.1 37 j ≤ 19999 := fun j => hT.2 37 j
  have A84 : ∀ j, 0 ≤ τ3.2.1 84 j ∧ τ3.2.1 84 j ≤ 1499 := fun j => hT.2 84 j
  have A100 : ∀ j, 0 ≤ τ3.2.1 100 j ∧ τ3.2.1 100 j ≤ 1060 := fun j => hT.2 100 j
  have v6 : 0 ≤ τ3.1 6 ∧ τ3.1 6 ≤ 30000 := hT.1 6
  have v7 : 0 ≤ τ3.1 7 ∧ τ3.1 7 ≤ 1500 := hT.1 7
  have v13 : 0 ≤ τ3.1 13 ∧ τ3.1 13 ≤ 90000 := hT.1 13
  have v14 : 0 ≤ τ3.1 14 ∧ τ3.1 14 ≤ 20000 := hT.1 14
  have v15 : 0 ≤ τ3.1 15 ∧ τ3.1 15 ≤ 20000 := hT.1 15
  have v54 : 0 ≤ τ3.1 54 ∧ τ3.1 54 ≤ 12000 := hT.1 54
  have v61 : 0 ≤ τ3.1 61 ∧ τ3.1 61 ≤ 12000 := hT.1 61
  have v62 : 0 ≤ τ3.1 62 ∧ τ3.1 62 ≤ 12000 := hT.1 62
  have a84_61 : 0 ≤ τ3.2.1 84 (τ3.1 61) ∧ τ3.2.1 84 (τ3.1 61) ≤ 1499 := hT.2 84 _
  refine ⟨fun c4 => ?_, fun c4 => ?_⟩
  ·
    refine ⟨(show 0 ≤ τ3.1 61 ∧ τ3.1 61 < 12000 from by (first | omega | (simp only [st_s] <;> omega) | assumption | omega | fail)), ?_⟩
    intro x6 r_x6 e_x6
    have b_x6 : 0 ≤ x6 ∧ x6 ≤ 1499 := by rw [e_x6]; exact hT.2 84 _
    refine ⟨(show 0 ≤ x6 ∧ x6 < 1500 from by (first | omega | (simp only [st_s] <;> omega) | assumption | omega | fail)), ?_⟩
    intro x8 r_x8 e_x8
    have b_x8 : 0 ≤ x8 ∧ x8 ≤ 4 := by rw [e_x8]; exact hT.2 13 _
    refine ⟨fun c9 => ?_, fun c9 => ?_⟩
    ·
      exact ⟨hT, (show 0 ≤ 0 ∧ 0 ≤ 1 from by (first | omega | (simp only [st_s] <;> omega) | assumption | omega | fail)), (show ∀ v, τ3.2.1 100 v = 0 from SZ), (show ¬ 0 = 0 → 0 ≤ (τ3.1 61) ∧ (τ3.1 61) < (σ.1 54) from by (first | omega | (simp only [st_s] <;> omega) | assumption | omega | fail)), (show ¬ 0 = 0 → g_pp (σ.1 54) (τ3.1 61) (σ.2.1 13) (σ.2.1 14) (σ.2.1 16) (σ.2.1 27) (σ.2.1 28) (σ.2.1 29) (σ.2.1 84) ∧ σ.2.1 13 (σ.2.1 84 (τ3.1 61)) = 2 ∧ g_fx (τ3.1 61) (σ.2.1 28 (σ.2.1 84 (τ3.1 61)) + 1) (σ.2.1 13) (σ.2.1 14) (σ.2.1 15) (σ.2.1 84) ∧ (τ3.1 61) + σ.2.1 28 (σ.2.1 84 (τ3.1 61)) < (σ.1 54) from by (first | (intro z; exact absurd rfl z) | (intro z; rw [w61_τ23]; exact ⟨i70_6, by rw [← i70_7.1]; exact i70_7.2, by rw [← i70_7.1]; exact i70_8 z, by rw [← i70_7.1]; exact i70_4⟩) | fail))⟩
    ·
      intro x10 r_x10 e_x10
      have b_x10 : 0 ≤ x10 ∧ x10 ≤ 1500 := by rw [e_x10]; exact hT.2 92 _
      refine ⟨(⟨by (first | omega | (simp only [st_s] <;> omega) | assumption | omega | fail), by (first | omega | (simp only [st_s] <;> omega) | assumption | omega | fail)⟩ : rg (n1 + 1)), ?_⟩
      refine ⟨fun c12 => ?_, fun c12 => ?_⟩
      ·
        have gk := g_tre_k p4 s28 (m := τ3.1 61) (by omega) (by omega)
        have e6 : x6 = σ.2.1 84 (τ3.1 61) := by rw [e_x6, G84]
        have o13 := G13
        have o14 := G14
        have o15 := G15
        have o28 := G28
        have o84 := G84
        have e8 : x8 = σ.2.1 13 x6 := by rw [e_x8, G13]
        rw [← e6, ← e8, if_neg (by omega)] at gk
        refine ⟨_, K_X2_fillSlots hT (show 0 ≤ x6 from by (first | omega | (simp only [st_s] <;> omega) | assumption | omega | fail)) (show x6 < 1500 from by (first | omega | (simp only [st_s] <;> omega) | assumption | omega | fail)) (show J_all (τ3.1 7) (τ3.1 6) (τ3.1 13) (τ3.1 14) (τ3.1 15) (τ3.2.1 13) (τ3.2.1 14) (τ3.2.1 15) (τ3.2.1 16) (τ3.2.1 10) (τ3.2.1 27) (τ3.2.1 28) (τ3.2.1 29) (τ3.2.1 30) (τ3.2.1 31) (τ3.2.1 32) (τ3.2.1 33) (τ3.2.1 34) (τ3.2.1 35) (τ3.2.1 36) (τ3.2.1 37) from CJ) (show g_tre (τ3.1 7) (τ3.1 54) (τ3.2.1 13) (τ3.2.1 14) (τ3.2.1 27) (τ3.2.1 28) (τ3.2.1 29) (τ3.2.1 84) from TRE) (show ∀ v, τ3.2.1 100 v = 0 from SZ) (show 0 ≤ (τ3.1 61) from by (first | omega | (simp only [st_s] <;> omega) | assumption | omega | fail)) (show (τ3.1 61) + τ3.2.1 28 x6 < (τ3.1 54) from by (rw [G28]; omega)), ?_⟩
        intro x14 τ15 r_x14 hn_τ15 hf_τ15 hq
        obtain ⟨hT, q13_1, q13_2, q13_3, q13_4⟩ := hq
        replace q13_1 : 0 ≤ x14 ∧ x14 ≤ 1 := q13_1
        replace q13_2 : g_sl (τ3.1 61) (τ3.2.1 28 x6) 1 (τ3.2.1 13) (τ3.2.1 14) (τ3.2.1 15) (τ3.2.1 84) (τ15.2.1 100) := q13_2
        replace q13_3 : ¬ x14 = 0 → g_fx (τ3.1 61) (τ3.2.1 28 x6 + 1) (τ3.2.1 13) (τ3.2.1 14) (τ3.2.1 15) (τ3.2.1 84) := q13_3
        replace q13_4 : x14 = 0 → ¬ g_fx (τ3.1 61) (τ3.2.1 28 x6 + 1) (τ3.2.1 13) (τ3.2.1 14) (τ3.2.1 15) (τ3.2.1 84) := q13_4
        have w6_τ15 : τ15.1 6 = τ3.1 6 := hf_τ15.1 6 (by decide)
        have w7_τ15 : τ15.1 7 = τ3.1 7 := hf_τ15.1 7 (by decide)
        have w13_τ15 : τ15.1 13 = τ3.1 13 := hf_τ15.1 13 (by decide)
        have w14_τ15 : τ15.1 14 = τ3.1 14 := hf_τ15.1 14 (by decide)
        have w15_τ15 : τ15.1 15 = τ3.1 15 := hf_τ15.1 15 (by decide)
        have w54_τ15 : τ15.1 54 = τ3.1 54 := hf_τ15.1 54 (by decide)
        have w61_τ15 : τ15.1 61 = τ3.1 61 := hf_τ15.1 61 (by decide)
        have w62_τ15 : τ15.1 62 = τ3.1 62 := hf_τ15.1 62 (by decide)
        have g10_τ15 : τ15.2.1 10 = τ3.2.1 10 := hf_τ15.2.1 10 (by decide)
        have g13_τ15 : τ15.2.1 13 = τ3.2.1 13 := hf_τ15.2.1 13 (by decide)
        have g14_τ15 : τ15.2.1 14 = τ3.2.1 14 := hf_τ15.2.1 14 (by decide)
        have g15_τ15 : τ15.2.1 15 = τ3.2.1 15 := hf_τ15.2.1 15 (by decide)
        have g16_τ15 : τ15.2.1 16 = τ3.2.1 16 := hf_τ15.2.1 16 (by decide)
        have g27_τ15 : τ15.2.1 27 = τ3.2.1 27 := hf_τ15.2.1 27 (by decide)
        have g28_τ15 : τ15.2.1 28 = τ3.2.1 28 := hf_τ15.2.1 28 (by decide)
        have g29_τ15 : τ15.2.1 29 = τ3.2.1 29 := hf_τ15.2.1 29 (by decide)
        have g30_τ15 : τ15.2.1 30 = τ3.2.1 30 := hf_τ15.2.1 30 (by decide)
        have g31_τ15 : τ15.2.1 31 = τ3.2.1 31 := hf_τ15.2.1 31 (by decide)
        have g32_τ15 : τ15.2.1 32 = τ3.2.1 32 := hf_τ15.2.1 32 (by decide)
        have g33_τ15 : τ15.2.1 33 = τ3.2.1 33 := hf_τ15.2.1 33 (by decide)
        have g34_τ15 : τ15.2.1 34 = τ3.2.1 34 := hf_τ15.2.1 34 (by decide)
        have g35_τ15 : τ15.2.1 35 = τ3.2.1 35 := hf_τ15.2.1 35 (by decide)
        have g36_τ15 : τ15.2.1 36 = τ3.2.1 36 := hf_τ15.2.1 36 (by decide)
        have g37_τ15 : τ15.2.1 37 = τ3.2.1 37 := hf_τ15.2.1 37 (by decide)
        have g84_τ15 : τ15.2.1 84 = τ3.2.1 84 := hf_τ15.2.1 84 (by decide)
        have W6 : τ15.1 6 = σ.1 6 := by first | exact w6_τ15.trans W6 | omega
        have W7 : τ15.1 7 = σ.1 7 := by first | exact w7_τ15.trans W7 | omega
        have W13 : τ15.1 13 = σ.1 13 := by first | exact w13_τ15.trans W13 | omega
        have W14 : τ15.1 14 = σ.1 14 := by first | exact w14_τ15.trans W14 | omega
        have W15 : τ15.1 15 = σ.1 15 := by first | exact w15_τ15.trans W15 | omega
        have W54 : τ15.1 54 = σ.1 54 := by first | exact w54_τ15.trans W54 | omega
        have G10 : τ15.2.1 10 = σ.2.1 10 := (g10_τ15).trans G10
        have G13 : τ15.2.1 13 = σ.2.1 13 := (g13_τ15).trans G13
        have G14 : τ15.2.1 14 = σ.2.1 14 := (g14_τ15).trans G14
        have G15 : τ15.2.1 15 = σ.2.1 15 := (g15_τ15).trans G15
        have G16 : τ15.2.1 16 = σ.2.1 16 := (g16_τ15).trans G16
        have G27 : τ15.2.1 27 = σ.2.1 27 := (g27_τ15).trans G27
        have G28 : τ15.2.1 28 = σ.2.1 28 := (g28_τ15).trans G28
        have G29 : τ15.2.1 29 = σ.2.1 29 := (g29_τ15).trans G29
        have G30 : τ15.2.1 30 = σ.2.1 30 := (g30_τ15).trans G30
        have G31 : τ15.2.1 31 = σ.2.1 31 := (g31_τ15).trans G31
        have G32 : τ15.2.1 32 = σ.2.1 32 := (g32_τ15).trans G32
        have G33 : τ15.2.1 33 = σ.2.1 33 := (g33_τ15).trans G33
        have G34 : τ15.2.1 34 = σ.2.1 34 := (g34_τ15).trans G34
        have G35 : τ15.2.1 35 = σ.2.1 35 := (g35_τ15).trans G35
        have G36 : τ15.2.1 36 = σ.2.1 36 := (g36_τ15).trans G36
        have G37 : τ15.2.1 37 = σ.2.1 37 := (g37_τ15).trans G37
        have G84 : τ15.2.1 84 = σ.2.1 84 := (g84_τ15).trans G84
        have y84_61_τ15 : τ15.2.1 84 (τ15.1 61) = (τ3.2.1 84) (τ3.1 61) := by rw [g84_τ15, w61_τ15]
        have CJ : J_all (τ15.1 7) (τ15.1 6) (τ15.1 13) (τ15.1 14) (τ15.1 15) (τ15.2.1 13) (τ15.2.1 14) (τ15.2.1 15) (τ15.2.1 16) (τ15.2.1 10) (τ15.2.1 27) (τ15.2.1 28) (τ15.2.1 29) (τ15.2.1 30) (τ15.2.1 31) (τ15.2.1 32) (τ15.2.1 33) (τ15.2.1 34) (τ15.2.1 35) (τ15.2.1 36) (τ15.2.1 37) := by rw [show (J_all (τ15.1 7) (τ15.1 6) (τ15.1 13) (τ15.1 14) (τ15.1 15) (τ15.2.1 13) (τ15.2.1 14) (τ15.2.1 15) (τ15.2.1 16) (τ15.2.1 10) (τ15.2.1 27) (τ15.2.1 28) (τ15.2.1 29) (τ15.2.1 30) (τ15.2.1 31) (τ15.2.1 32) (τ15.2.1 33) (τ15.2.1 34) (τ15.2.1 35) (τ15.2.1 36) (τ15.2.1 37)) = (J_all (τ3.1 7) (τ3.1 6) (τ3.1 13) (τ3.1 14) (τ3.1 15) (τ3.2.1 13) (τ3.2.1 14) (τ3.2.1 15) (τ3.2.1 16) (τ3.2.1 10) (τ3.2.1 27) (τ3.2.1 28) (τ3.2.1 29) (τ3.2.1 30) (τ3.2.1 31) (τ3.2.1 32) (τ3.2.1 33) (τ3.2.1 34) (τ3.2.1 35) (τ3.2.1 36) (τ3.2.1 37)) from by rw [w6_τ15, w7_τ15, w13_τ15, w14_τ15, w15_τ15, g10_τ15, g13_τ15, g14_τ15, g15_τ15, g16_τ15, g27_τ15, g28_τ15, g29_τ15, g30_τ15, g31_τ15, g32_τ15, g33_τ15, g34_τ15, g35_τ15, g36_τ15, g37_τ15]]; exact CJ
        have TRE : g_tre (τ15.1 7) (τ15.1 54) (τ15.2.1 13) (τ15.2.1 14) (τ15.2.1 27) (τ15.2.1 28) (τ15.2.1 29) (τ15.2.1 84) := by rw [show (g_tre (τ15.1 7) (τ15.1 54) (τ15.2.1 13) (τ15.2.1 14) (τ15.2.1 27) (τ15.2.1 28) (τ15.2.1 29) (τ15.2.1 84)) = (g_tre (τ3.1 7) (τ3.1 54) (τ3.2.1 13) (τ3.2.1 14) (τ3.2.1 27) (τ3.2.1 28) (τ3.2.1 29) (τ3.2.1 84)) from by rw [w7_τ15, w54_τ15, g13_τ15, g14_τ15, g27_τ15, g28_τ15, g29_τ15, g84_τ15]]; exact TRE
        have A10 : ∀ j, (-1) ≤ τ15.2.1 10 j ∧ τ15.2.1 10 j ≤ 99 := fun j => hT.2 10 j
        have A13 : ∀ j, 0 ≤ τ15.2.1 13 j ∧ τ15.2.1 13 j ≤ 4 := fun j => hT.2 13 j
        have A14 : ∀ j, 0 ≤ τ15.2.1 14 j ∧ τ15.2.1 14 j ≤ 30000 := fun j => hT.2 14 j
        have A15 : ∀ j, 0 ≤ τ15.2.1 15 j ∧ τ15.2.1 15 j ≤ 999 := fun j => hT.2 15 j
        have A16 : ∀ j, (-1) ≤ τ15.2.1 16 j ∧ τ15.2.1 16 j ≤ 1499 := fun j => hT.2 16 j
        have A27 : ∀ j, 0 ≤ τ15.2.1 27 j ∧ τ15.2.1 27 j ≤ 90000 := fun j => hT.2 27 j
        have A28 : ∀ j, 0 ≤ τ15.2.1 28 j ∧ τ15.2.1 28 j ≤ 60 := fun j => hT.2 28 j
        have A29 : ∀ j, 0 ≤ τ15.2.1 29 j ∧ τ15.2.1 29 j ≤ 1499 := fun j => hT.2 29 j
        have A30 : ∀ j, 0 ≤ τ15.2.1 30 j ∧ τ15.2.1 30 j ≤ 20000 := fun j => hT.2 30 j
        have A31 : ∀ j, 0 ≤ τ15.2.1 31 j ∧ τ15.2.1 31 j ≤ 20000 := fun j => hT.2 31 j
        have A32 : ∀ j, 0 ≤ τ15.2.1 32 j ∧ τ15.2.1 32 j ≤ 999999 := fun j => hT.2 32 j
        have A33 : ∀ j, 0 ≤ τ15.2.1 33 j ∧ τ15.2.1 33 j ≤ 20000 := fun j => hT.2 33 j
        have A34 : ∀ j, 0 ≤ τ15.2.1 34 j ∧ τ15.2.1 34 j ≤ 20000 := fun j => hT.2 34 j
        have A35 : ∀ j, 0 ≤ τ15.2.1 35 j ∧ τ15.2.1 35 j ≤ 1499 := fun j => hT.2 35 j
        have A36 : ∀ j, 0 ≤ τ15.2.1 36 j ∧ τ15.2.1 36 j ≤ 20000 := fun j => hT.2 36 j
        have A37 : ∀ j, 0 ≤ τ15.2.1 37 j ∧ τ15.2.1 37 j ≤ 19999 := fun j => hT.2 37 j
        have A84 : ∀ j, 0 ≤ τ15.2.1 84 j ∧ τ15.2.1 84 j ≤ 1499 := fun j => hT.2 84 j
        have A100 : ∀ j, 0 ≤ τ15.2.1 100 j ∧ τ15.2.1 100 j ≤ 1060 := fun j => hT.2 100 j
        have v6 : 0 ≤ τ15.1 6 ∧ τ15.1 6 ≤ 30000 := hT.1 6
        have v7 : 0 ≤ τ15.1 7 ∧ τ15.1 7 ≤ 1500 := hT.1 7
        have v13 : 0 ≤ τ15.1 13 ∧ τ15.1 13 ≤ 90000 := hT.1 13
        have v14 : 0 ≤ τ15.1 14 ∧ τ15.1 14 ≤ 20000 := hT.1 14
        have v15 : 0 ≤ τ15.1 15 ∧ τ15.1 15 ≤ 20000 := hT.1 15
        have v54 : 0 ≤ τ15.1 54 ∧ τ15.1 54 ≤ 12000 := hT.1 54
        have v61 : 0 ≤ τ15.1 61 ∧ τ15.1 61 ≤ 12000 := hT.1 61
        have v62 : 0 ≤ τ15.1 62 ∧ τ15.1 62 ≤ 12000 := hT.1 62
        have a84_61 : 0 ≤ τ15.2.1 84 (τ15.1 61) ∧ τ15.2.1 84 (τ15.1 61) ≤ 1499 := hT.2 84 _
        refine ⟨fun c16 => ?_, fun c16 => ?_⟩
        ·
          exact l_70 _ _ _ hT (show τ15.1 6 = σ.1 6 from by first | exact W6 | omega) (show τ15.1 7 = σ.1 7 from by first | exact W7 | omega) (show τ15.1 13 = σ.1 13 from by first | exact W13 | omega) (show τ15.1 14 = σ.1 14 from by first | exact W14 | omega) (show τ15.1 15 = σ.1 15 from by first | exact W15 | omega) (show τ15.1 54 = σ.1 54 from by first | exact W54 | omega) G10 G13 G14 G15 G16 G27 G28 G29 G30 G31 G32 G33 G34 G35 G36 G37 G84 (show 0 ≤ x6 ∧ x6 < 1500 from by (first | omega | (simp only [st_s] <;> omega) | assumption | omega | fail)) (show 0 ≤ 0 ∧ 0 ≤ 1 from by (first | omega | (simp only [st_s] <;> omega) | assumption | omega | fail)) (show 0 ≤ (τ15.1 61) ∧ (τ15.1 61) < (σ.1 54) from by (first | omega | (simp only [st_s] <;> omega) | assumption | omega | fail)) (show (τ15.1 61) + σ.2.1 28 x6 < (σ.1 54) from by (first | omega | (simp only [st_s] <;> omega) | assumption | omega | fail)) (show g_sl (τ15.1 61) (σ.2.1 28 x6) 1 (σ.2.1 13) (σ.2.1 14) (σ.2.1 15) (σ.2.1 84) (τ15.2.1 100) from by (first | (rw [w61_τ15, ← o13, ← o14, ← o15, ← o28, ← o84]; exact q13_2) | exact q13_2 | fail)) (show g_pp (σ.1 54) (τ15.1 61) (σ.2.1 13) (σ.2.1 14) (σ.2.1 16) (σ.2.1 27) (σ.2.1 28) (σ.2.1 29) (σ.2.1 84) from by (rw [w61_τ15]; exact q1_3 (by assumption))) (show x6 = σ.2.1 84 (τ15.1 61) ∧ σ.2.1 13 x6 = 2 from by exact ⟨by rw [w61_τ15]; exact e6, by rw [← e8]; assumption⟩) (show ¬ 0 = 0 → g_fx (τ15.1 61) (σ.2.1 28 x6 + 1) (σ.2.1 13) (σ.2.1 14) (σ.2.1 15) (σ.2.1 84) from by (first | (intro z; exact absurd rfl z) | (intro _; rw [w61_τ15, ← o13, ← o14, ← o15, ← o28, ← o84]; exact q13_3 (by assumption)) | fail))
        ·
          refine ⟨_, K_X2_secondHasNoOther hT (show J_all (τ15.1 7) (τ15.1 6) (τ15.1 13) (τ15.1 14) (τ15.1 15) (τ15.2.1 13) (τ15.2.1 14) (τ15.2.1 15) (τ15.2.1 16) (τ15.2.1 10) (τ15.2.1 27) (τ15.2.1 28) (τ15.2.1 29) (τ15.2.1 30) (τ15.2.1 31) (τ15.2.1 32) (τ15.2.1 33) (τ15.2.1 34) (τ15.2.1 35) (τ15.2.1 36) (τ15.2.1 37) from CJ) (show g_tre (τ15.1 7) (τ15.1 54) (τ15.2.1 13) (τ15.2.1 14) (τ15.2.1 27) (τ15.2.1 28) (τ15.2.1 29) (τ15.2.1 84) from TRE) (show 0 ≤ (τ15.1 62) ∧ (τ15.1 62) ≤ (τ15.1 54) from by (first | omega | (simp only [st_s] <;> omega) | assumption | omega | fail)), ?_⟩
          intro x18 r_x18 hq
          have q17_1 := hq
          replace q17_1 : 0 ≤ x18 ∧ x18 ≤ 1 := q17_1
          refine ⟨fun c20 => ?_, fun c20 => ?_⟩
          ·
            exact l_70 _ _ _ hT (show τ15.1 6 = σ.1 6 from by first | exact W6 | omega) (show τ15.1 7 = σ.1 7 from by first | exact W7 | omega) (show τ15.1 13 = σ.1 13 from by first | exact W13 | omega) (show τ15.1 14 = σ.1 14 from by first | exact W14 | omega) (show τ15.1 15 = σ.1 15 from by first | exact W15 | omega) (show τ15.1 54 = σ.1 54 from by first | exact W54 | omega) G10 G13 G14 G15 G16 G27 G28 G29 G30 G31 G32 G33 G34 G35 G36 G37 G84 (show 0 ≤ x6 ∧ x6 < 1500 from by (first | omega | (simp only [st_s] <;> omega) | assumption | omega | fail)) (show 0 ≤ 0 ∧ 0 ≤ 1 from by (first | omega | (simp only [st_s] <;> omega) | assumption | omega | fail)) (show 0 ≤ (τ15.1 61) ∧ (τ15.1 61) < (σ.1 54) from by (first | omega | (simp only [st_s] <;> omega) | assumption | omega | fail)) (show (τ15.1 61) + σ.2.1 28 x6 < (σ.1 54) from by (first | omega | (simp only [st_s] <;> omega) | assumption | omega | fail)) (show g_sl (τ15.1 61) (σ.2.1 28 x6) 1 (σ.2.1 13) (σ.2.1 14) (σ.2.1 15) (σ.2.1 84) (τ15.2.1 100) from by (first | (rw [w61_τ15, ← o13, ← o14, ← o15, ← o28, ← o84]; exact q13_2) | exact q13_2 | fail)) (show g_pp (σ.1 54) (τ15.1 61) (σ.2.1 13) (σ.2.1 14) (σ.2.1 16) (σ.2.1 27) (σ.2.1 28) (σ.2.1 29) (σ.2.1 84) from by (rw [w61_τ15]; exact q1_3 (by assumption))) (show x6 = σ.2.1 84 (τ15.1 61) ∧ σ.2.1 13 x6 = 2 from by exact ⟨by rw [w61_τ15]; exact e6, by rw [← e8]; assumption⟩) (show ¬ 0 = 0 → g_fx (τ15.1 61) (σ.2.1 28 x6 + 1) (σ.2.1 13) (σ.2.1 14) (σ.2.1 15) (σ.2.1 84) from by (first | (intro z; exact absurd rfl z) | (intro _; rw [w61_τ15, ← o13, ← o14, ← o15, ← o28, ← o84]; exact q13_3 (by assumption)) | fail))
          ·
            exact l_70 _ _ _ hT (show τ15.1 6 = σ.1 6 from by first | exact W6 | omega) (show τ15.1 7 = σ.1 7 from by first | exact W7 | omega) (show τ15.1 13 = σ.1 13 from by first | exact W13 | omega) (show τ15.1 14 = σ.1 14 from by first | exact W14 | omega) (show τ15.1 15 = σ.1 15 from by first | exact W15 | omega) (show τ15.1 54 = σ.1 54 from by first | exact W54 | omega) G10 G13 G14 G15 G16 G27 G28 G29 G30 G31 G32 G33 G34 G35 G36 G37 G84 (show 0 ≤ x6 ∧ x6 < 1500 from by (first | omega | (simp only [st_s] <;> omega) | assumption | omega | fail)) (show 0 ≤ 1 ∧ 1 ≤ 1 from by (first | omega | (simp only [st_s] <;> omega) | assumption | omega | fail)) (show 0 ≤ (τ15.1 61) ∧ (τ15.1 61) < (σ.1 54) from by (first | omega | (simp only [st_s] <;> omega) | assumption | omega | fail)) (show (τ15.1 61) + σ.2.1 28 x6 < (σ.1 54) from by (first | omega | (simp only [st_s] <;> omega) | assumption | omega | fail)) (show g_sl (τ15.1 61) (σ.2.1 28 x6) 1 (σ.2.1 13) (σ.2.1 14) (σ.2.1 15) (σ.2.1 84) (τ15.2.1 100) from by (first | (rw [w61_τ15, ← o13, ← o14, ← o15, ← o28, ← o84]; exact q13_2) | exact q13_2 | fail)) (show g_pp (σ.1 54) (τ15.1 61) (σ.2.1 13) (σ.2.1 14) (σ.2.1 16) (σ.2.1 27) (σ.2.1 28) (σ.2.1 29) (σ.2.1 84) from by (rw [w61_τ15]; exact q1_3 (by assumption))) (show x6 = σ.2.1 84 (τ15.1 61) ∧ σ.2.1 13 x6 = 2 from by exact ⟨by rw [w61_τ15]; exact e6, by rw [← e8]; assumption⟩) (show ¬ 1 = 0 → g_fx (τ15.1 61) (σ.2.1 28 x6 + 1) (σ.2.1 13) (σ.2.1 14) (σ.2.1 15) (σ.2.1 84) from by (first | (intro z; exact absurd rfl z) | (intro _; rw [w61_τ15, ← o13, ← o14, ← o15, ← o28, ← o84]; exact q13_3 (by assumption)) | fail))
      ·
        exact ⟨hT, (show 0 ≤ 0 ∧ 0 ≤ 1 from by (first | omega | (simp only [st_s] <;> omega) | assumption | omega | fail)), (show ∀ v, τ3.2.1 100 v = 0 from SZ), (show ¬ 0 = 0 → 0 ≤ (τ3.1 61) ∧ (τ3.1 61) < (σ.1 54) from by (first | omega | (simp only [st_s] <;> omega) | assumption | omega | fail)), (show ¬ 0 = 0 → g_pp (σ.1 54) (τ3.1 61) (σ.2.1 13) (σ.2.1 14) (σ.2.1 16) (σ.2.1 27) (σ.2.1 28) (σ.2.1 29) (σ.2.1 84) ∧ σ.2.1 13 (σ.2.1 84 (τ3.1 61)) = 2 ∧ g_fx (τ3.1 61) (σ.2.1 28 (σ.2.1 84 (τ3.1 61)) + 1) (σ.2.1 13) (σ.2.1 14) (σ.2.1 15) (σ.2.1 84) ∧ (τ3.1 61) + σ.2.1 28 (σ.2.1 84 (τ3.1 61)) < (σ.1 54) from by (first | (intro z; exact absurd rfl z) | (intro z; rw [w61_τ23]; exact ⟨i70_6, by rw [← i70_7.1]; exact i70_7.2, by rw [← i70_7.1]; exact i70_8 z, by rw [← i70_7.1]; exact i70_4⟩) | fail))⟩
  ·
    exact ⟨hT, (show 0 ≤ 0 ∧ 0 ≤ 1 from by (first | omega | (simp only [st_s] <;> omega) | assumption | omega | fail)), (show ∀ v, τ3.2.1 100 v = 0 from SZ), (show ¬ 0 = 0 → 0 ≤ (τ3.1 61) ∧ (τ3.1 61) < (σ.1 54) from by (first | omega | (simp only [st_s] <;> omega) | assumption | omega | fail)), (show ¬ 0 = 0 → g_pp (σ.1 54) (τ3.1 61) (σ.2.1 13) (σ.2.1 14) (σ.2.1 16) (σ.2.1 27) (σ.2.1 28) (σ.2.1 29) (σ.2.1 84) ∧ σ.2.1 13 (σ.2.1 84 (τ3.1 61)) = 2 ∧ g_fx (τ3.1 61) (σ.2.1 28 (σ.2.1 84 (τ3.1 61)) + 1) (σ.2.1 13) (σ.2.1 14) (σ.2.1 15) (σ.2.1 84) ∧ (τ3.1 61) + σ.2.1 28 (σ.2.1 84 (τ3.1 61)) < (σ.1 54) from by (first | (intro z; exact absurd rfl z) | (intro z; rw [w61_τ23]; exact ⟨i70_6, by rw [← i70_7.1]; exact i70_7.2, by rw [← i70_7.1]; exact i70_8 z, by rw [← i70_7.1]; exact i70_4⟩) | fail))⟩
set_option maxHeartbeats 1000000 in
theorem K_X11_keepPattern {σ : S0} (hT : c_T σ) : W_X11_keepPattern σ (fun (τ : S0) => (c_T τ) ∧ ((τ.1 55) = (σ.1 54)) ∧ (∀ k : Int, 0 ≤ k → k < (σ.1 54) → τ.2.1 87 k = σ.2.1 84 k)) := by
  have A84 : ∀ j, 0 ≤ σ.2.1 84 j ∧ σ.2.1 84 j ≤ 1499 := fun j => hT.2 84 j
  have v54 : 0 ≤ σ.1 54 ∧ σ.1 54 ≤ 12000 := hT.1 54
  have v55 : 0 ≤ σ.1 55 ∧ σ.1 55 ≤ 12000 := hT.1 55
  have W54 : σ.1 54 = σ.1 54 := rfl
  have G84 : σ.2.1 84 = σ.2.1 84 := rfl
  unfold W_X11_keepPattern
  refine ⟨(show (0 : Int) ≤ 0 ∧ (0 : Int) ≤ 0 ∧ (0 : Int) ≤ σ.1 54 ∧ 0 + σ.1 54 ≤ 12000 ∧ 0 + σ.1 54 ≤ 12000 from by (first | omega | (simp only [st_s] <;> omega) | assumption | omega | fail)), ?_⟩
  replace hT := cT_f (k := 87) (f := (c_py (σ.2.1 84) (σ.2.1 87) 0 0 (σ.1 54))) hT (cpy_r (lo := fun _ => (0 : Int)) (hi := fun _ => (1499 : Int)) A84 (fun j => hT.2 87 j) (fun _ => rfl) (fun _ => rfl))
  replace hT := cT_v (i := 55) hT (show 0 ≤ (σ.1 54) ∧ (σ.1 54) ≤ 12000 from by (first | omega | (simp only [st_s] <;> omega) | assumption | omega | fail))
  exact ⟨hT, (show ((σ.1 54)) = (σ.1 54) from by (first | omega | (simp only [st_s] <;> omega) | assumption | omega | fail)), (show ∀ k : Int, 0 ≤ k → k < (σ.1 54) → (c_py (σ.2.1 84) (σ.2.1 87) 0 0 (σ.1 54)) k = σ.2.1 84 k from by (intro k a b; unfold c_py; rw [if_pos (by omega), show 0 + (k - 0) = k from by omega]))⟩
set_option maxHeartbeats 1000000 in
theorem K_X11_binds {n1 : Int} {n2 : Int} {σ : S0} (hT : c_T σ) (p1 : 0 ≤ n1) (p2 : n1 < 1000) (p3 : 0 ≤ n2) (p4 : n2 < 12000) : W_X11_binds n1 n2 σ (fun (x : Int) (τ : S0) => (c_T τ) ∧ (0 ≤ x ∧ x ≤ 1)) := by
  have A85 : ∀ j, 0 ≤ σ.2.1 85 j ∧ σ.2.1 85 j ≤ 59 := fun j => hT.2 85 j
  have A86 : ∀ j, 0 ≤ σ.2.1 86 j ∧ σ.2.1 86 j ≤ 59 := fun j => hT.2 86 j
  have A89 : ∀ j, 0 ≤ σ.2.1 89 j ∧ σ.2.1 89 j ≤ 59 := fun j => hT.2 89 j
  have A90 : ∀ j, 0 ≤ σ.2.1 90 j ∧ σ.2.1 90 j ≤ 59 := fun j => hT.2 90 j
  have v56 : (-2147483648) ≤ σ.1 56 ∧ σ.1 56 ≤ 2147483647 := hT.1 56
  have W56 : σ.1 56 = σ.1 56 := rfl
  have G85 : σ.2.1 85 = σ.2.1 85 := rfl
  have G86 : σ.2.1 86 = σ.2.1 86 := rfl
  intro P85 h85
  have s89 := A89 n1
  have s90 := A90 n1
  have s85 := A85 n2
  have s86 := A86 n2
  have l_85 : ∀ (m_85 : Nat) (u3_85 : Int) (u4_85 : Int) (τ_85 : S0), 61 - u4_85 < (m_85 : Int) → (c_T τ_85) → (τ_85.1 56 = σ.1 56) → (τ_85.2.1 85 = σ.2.1 85) → (τ_85.2.1 86 = σ.2.1 86) → (0 ≤ u4_85 ∧ u4_85 ≤ 60) → (τ_85 = σ) → (u3_85 = σ.2.1 90 n1 - σ.2.1 89 n1) → (u3_85 = σ.2.1 86 n2 - σ.2.1 85 n2) → P85 n1 n2 u3_85 u4_85 τ_85 := by
    intro m_85
    induction m_85 with
    | zero =>
      intro u3_85 u4_85 τ_85 hm hT W56 G85 G86 i85_1 i85_2 i85_3 i85_4
      have A85 : ∀ j, 0 ≤ τ_85.2.1 85 j ∧ τ_85.2.1 85 j ≤ 59 := fun j => hT.2 85 j
      have A86 : ∀ j, 0 ≤ τ_85.2.1 86 j ∧ τ_85.2.1 86 j ≤ 59 := fun j => hT.2 86 j
      have A89 : ∀ j, 0 ≤ τ_85.2.1 89 j ∧ τ_85.2.1 89 j ≤ 59 := fun j => hT.2 89 j
      have A90 : ∀ j, 0 ≤ τ_85.2.1 90 j ∧ τ_85.2.1 90 j ≤ 59 := fun j => hT.2 90 j
      have v56 : (-2147483648) ≤ τ_85.1 56 ∧ τ_85.1 56 ≤ 2147483647 := hT.1 56
      exfalso; (first | omega | (simp only [st_s] <;> omega) | assumption | omega | fail)
    | succ m_85 ih_85 =>
      intro u3_85 u4_85 τ_85 hm_85 hT W56 G85 G86 i85_1 i85_2 i85_3 i85_4
      have A85 : ∀ j, 0 ≤ τ_85.2.1 85 j ∧ τ_85.2.1 85 j ≤ 59 := fun j => hT.2 85 j
      have A86 : ∀ j, 0 ≤ τ_85.2.1 86 j ∧ τ_85.2.1 86 j ≤ 59 := fun j => hT.2 86 j
      have A89 : ∀ j, 0 ≤ τ_85.2.1 89 j ∧ τ_85.2.1 89 j ≤ 59 := fun j => hT.2 89 j
      have A90 : ∀ j, 0 ≤ τ_85.2.1 90 j ∧ τ_85.2.1 90 j ≤ 59 := fun j => hT.2 90 j
      have v56 : (-2147483648) ≤ τ_85.1 56 ∧ τ_85.1 56 ≤ 2147483647 := hT.1 56
      refine h85 n1 n2 u3_85 u4_85 τ_85 ?_
      refine ⟨fun c15 => ?_, fun c15 => ?_⟩
      ·
        exact ⟨hT, (show 0 ≤ 1 ∧ 1 ≤ 1 from by (first | omega | (simp only [st_s] <;> omega) | assumption | omega | fail))⟩
      ·
        refine ⟨(show 0 ≤ n1 ∧ n1 < 1000 from by (first | omega | (simp only [st_s] <;> omega) | assumption | omega | fail)), ?_⟩
        intro x17 r_x17 e_x17
        have b_x17 : 0 ≤ x17 ∧ x17 ≤ 59 := by rw [e_x17]; exact hT.2 89 _
        rw [i85_2] at e_x17
        refine ⟨(show 0 ≤ (x17 + u4_85) ∧ (x17 + u4_85) < 60 from by (first | omega | (simp only [st_s] <;> omega) | assumption | omega | fail)), ?_⟩
        intro x19 r_x19 e_x19
        have b_x19 : 0 ≤ x19 ∧ x19 ≤ 999 := by rw [e_x19]; exact hT.2 77 _
        refine ⟨(show 0 ≤ n2 ∧ n2 < 12000 from by (first | omega | (simp only [st_s] <;> omega) | assumption | omega | fail)), ?_⟩
        intro x21 r_x21 e_x21
        have b_x21 : 0 ≤ x21 ∧ x21 ≤ 59 := by rw [e_x21]; exact hT.2 85 _
        rw [i85_2] at e_x21
        refine ⟨(show 0 ≤ (x21 + u4_85) ∧ (x21 + u4_85) < 60 from by (first | omega | (simp only [st_s] <;> omega) | assumption | omega | fail)), ?_⟩
        intro x23 r_x23 e_x23
        have b_x23 : 0 ≤ x23 ∧ x23 ≤ 999 := by rw [e_x23]; exact hT.2 77 _
        refine ⟨fun c24 => ?_, fun c24 => ?_⟩
        ·
          refine ⟨(⟨by (first | omega | (simp only [st_s] <;> omega) | assumption | omega | fail), by (first | omega | (simp only [st_s] <;> omega) | assumption | omega | fail)⟩ : rg (u4_85 + 1)), ?_⟩
          exact ih_85 _ _ _ (show (61 - (u4_85 + 1) : Int) < ((m_85 : Nat) : Int) from by ((first | omega | (simp only [st_s] <;> omega) | assumption | omega | fail))) hT (show τ_85.1 56 = σ.1 56 from by first | exact W56 | omega) G85 G86 (show 0 ≤ (u4_85 + 1) ∧ (u4_85 + 1) ≤ 60 from by (first | omega | (simp only [st_s] <;> omega) | assumption | omega | fail)) (show τ_85 = σ from by (first | rfl | exact i85_2 | fail)) (show u3_85 = σ.2.1 90 n1 - σ.2.1 89 n1 from by (first | (rw [← e_x7, ← e_x8]; omega) | exact i85_3 | fail)) (show u3_85 = σ.2.1 86 n2 - σ.2.1 85 n2 from by (first | (rw [← e_x5, ← e_x6]) | exact i85_4 | fail))
        ·
          exact ⟨hT, (show 0 ≤ 0 ∧ 0 ≤ 1 from by (first | omega | (simp only [st_s] <;> omega) | assumption | omega | fail))⟩
  refine ⟨(show 0 ≤ n1 ∧ n1 < 1000 from by (first | omega | (simp only [st_s] <;> omega) | assumption | omega | fail)), ?_⟩
  intro x2 r_x2 e_x2
  have b_x2 : (-2147483648) ≤ x2 ∧ x2 ≤ 2147483647 := by rw [e_x2]; exact hT.2 91 _
  refine ⟨fun c3 => ?_, fun c3 => ?_⟩
  ·
    refine ⟨(show 0 ≤ n2 ∧ n2 < 12000 from by (first | omega | (simp only [st_s] <;> omega) | assumption | omega | fail)), ?_⟩
    intro x5 r_x5 e_x5
    have b_x5 : 0 ≤ x5 ∧ x5 ≤ 59 := by rw [e_x5]; exact hT.2 86 _
    intro x6 r_x6 e_x6
    have b_x6 : 0 ≤ x6 ∧ x6 ≤ 59 := by rw [e_x6]; exact hT.2 85 _
    intro x7 r_x7 e_x7
    have b_x7 : 0 ≤ x7 ∧ x7 ≤ 59 := by rw [e_x7]; exact hT.2 90 _
    intro x8 r_x8 e_x8
    have b_x8 : 0 ≤ x8 ∧ x8 ≤ 59 := by rw [e_x8]; exact hT.2 89 _
    refine ⟨(⟨by (first | omega | (simp only [st_s] <;> omega) | assumption | omega | fail), by (first | omega | (simp only [st_s] <;> omega) | assumption | omega | fail)⟩ : rg (x7 - x8)), ?_⟩
    refine ⟨(⟨by (first | omega | (simp only [st_s] <;> omega) | assumption | omega | fail), by (first | omega | (simp only [st_s] <;> omega) | assumption | omega | fail)⟩ : rg (x5 - x6)), ?_⟩
    refine ⟨fun c11 => ?_, fun c11 => ?_⟩
    ·
      exact l_85 ((61 - 0 : Int).toNat + 1) _ _ _ (show (61 - 0 : Int) < (((61 - 0 : Int).toNat + 1 : Nat) : Int) from by ((first | omega | (simp only [st_s] <;> omega) | assumption | omega | fail))) hT (show σ.1 56 = σ.1 56 from by first | exact W56 | omega) G85 G86 (show 0 ≤ 0 ∧ 0 ≤ 60 from by (first | omega | (simp only [st_s] <;> omega) | assumption | omega | fail)) (show σ = σ from by (first | rfl | exact i85_2 | fail)) (show (x5 - x6) = σ.2.1 90 n1 - σ.2.1 89 n1 from by (first | (rw [← e_x7, ← e_x8]; omega) | exact i85_3 | fail)) (show (x5 - x6) = σ.2.1 86 n2 - σ.2.1 85 n2 from by (first | (rw [← e_x5, ← e_x6]) | exact i85_4 | fail))
    ·
      exact ⟨hT, (show 0 ≤ 0 ∧ 0 ≤ 1 from by (first | omega | (simp only [st_s] <;> omega) | assumption | omega | fail))⟩
  ·
    replace hT := cT_a (k := 91) (j := n1) hT (show (-2147483648 : Int) ≤ (σ.1 56) ∧ (σ.1 56) ≤ 2147483647 from by (first | omega | (simp only [st_s] <;> omega) | assumption | omega | fail))
    refine ⟨(show 0 ≤ n2 ∧ n2 < 12000 from by (first | omega | (simp only [st_s] <;> omega) | assumption | omega | fail)), ?_⟩
    intro x13 r_x13 e_x13
    have b_x13 : 0 ≤ x13 ∧ x13 ≤ 59 := by rw [e_x13]; exact hT.2 85 _
    replace hT := cT_a (k := 89) (j := n1) hT (show (0 : Int) ≤ x13 ∧ x13 ≤ 59 from by (first | omega | (simp only [st_s] <;> omega) | assumption | omega | fail))
    intro x14 r_x14 e_x14
    have b_x14 : 0 ≤ x14 ∧ x14 ≤ 59 := by rw [e_x14]; exact hT.2 86 _
    replace hT := cT_a (k := 90) (j := n1) hT (show (0 : Int) ≤ x14 ∧ x14 ≤ 59 from by (first | omega | (simp only [st_s] <;> omega) | assumption | omega | fail))
    exact ⟨hT, (show 0 ≤ 1 ∧ 1 ≤ 1 from by (first | omega | (simp only [st_s] <;> omega) | assumption | omega | fail))⟩
set_option maxHeartbeats 2000000 in
theorem K_X11_fitsPattern {σ : S0} (hT : c_T σ) (p1 : J_all (σ.1 7) (σ.1 6) (σ.1 13) (σ.1 14) (σ.1 15) (σ.2.1 13) (σ.2.1 14) (σ.2.1 15) (σ.2.1 16) (σ.2.1 10) (σ.2.1 27) (σ.2.1 28) (σ.2.1 29) (σ.2.1 30) (σ.2.1 31) (σ.2.1 32) (σ.2.1 33) (σ.2.1 34) (σ.2.1 35) (σ.2.1 36) (σ.2.1 37)) (p2 : ∀ k : Int, 0 ≤ k → k < (σ.1 55) → σ.2.1 87 k < (σ.1 7)) (p3 : (σ.1 54) ≤ 11700) : W_X11_fitsPattern σ (fun (x : Int) (τ : S0) => (c_T τ) ∧ (0 ≤ x ∧ x ≤ 1)) := by
  have A10 : ∀ j, (-1) ≤ σ.2.1 10 j ∧ σ.2.1 10 j ≤ 99 := fun j => hT.2 10 j
  have A13 : ∀ j, 0 ≤ σ.2.1 13 j ∧ σ.2.1 13 j ≤ 4 := fun j => hT.2 13 j
  have A14 : ∀ j, 0 ≤ σ.2.1 14 j ∧ σ.2.1 14 j ≤ 30000 := fun j => hT.2 14 j
  have A15 : ∀ j, 0 ≤ σ.2.1 15 j ∧ σ.2.1 15 j ≤ 999 := fun j => hT.2 15 j
  have A16 : ∀ j, (-1) ≤ σ.2.1 16 j ∧ σ.2.1 16 j ≤ 1499 := fun j => hT.2 16 j
  have A27 : ∀ j, 0 ≤ σ.2.1 27 j ∧ σ.2.1 27 j ≤ 90000 := fun j => hT.2 27 j
  have A28 : ∀ j, 0 ≤ σ.2.1 28 j ∧ σ.2.1 28 j ≤ 60 := fun j => hT.2 28 j
  have A29 : ∀ j, 0 ≤ σ.2.1 29 j ∧ σ.2.1 29 j ≤ 1499 := fun j => hT.2 29 j
  have A30 : ∀ j, 0 ≤ σ.2.1 30 j ∧ σ.2.1 30 j ≤ 20000 := fun j => hT.2 30 j
  have A31 : ∀ j, 0 ≤ σ.2.1 31 j ∧ σ.2.1 31 j ≤ 20000 := fun j => hT.2 31 j
  have A32 : ∀ j, 0 ≤ σ.2.1 32 j ∧ σ.2.1 32 j ≤ 999999 := fun j => hT.2 32 j
  have A33 : ∀ j, 0 ≤ σ.2.1 33 j ∧ σ.2.1 33 j ≤ 20000 := fun j => hT.2 33 j
  have A34 : ∀ j, 0 ≤ σ.2.1 34 j ∧ σ.2.1 34 j ≤ 20000 := fun j => hT.2 34 j
  have A35 : ∀ j, 0 ≤ σ.2.1 35 j ∧ σ.2.1 35 j ≤ 1499 := fun j => hT.2 35 j
  have A36 : ∀ j, 0 ≤ σ.2.1 36 j ∧ σ.2.1 36 j ≤ 20000 := fun j => hT.2 36 j
  have A37 : ∀ j, 0 ≤ σ.2.1 37 j ∧ σ.2.1 37 j ≤ 19999 := fun j => hT.2 37 j
  have A84 : ∀ j, 0 ≤ σ.2.1 84 j ∧ σ.2.1 84 j ≤ 1499 := fun j => hT.2 84 j
  have A87 : ∀ j, 0 ≤ σ.2.1 87 j ∧ σ.2.1 87 j ≤ 1499 := fun j => hT.2 87 j
  have v6 : 0 ≤ σ.1 6 ∧ σ.1 6 ≤ 30000 := hT.1 6
  have v7 : 0 ≤ σ.1 7 ∧ σ.1 7 ≤ 1500 := hT.1 7
  have v13 : 0 ≤ σ.1 13 ∧ σ.1 13 ≤ 90000 := hT.1 13
  have v14 : 0 ≤ σ.1 14 ∧ σ.1 14 ≤ 20000 := hT.1 14
  have v15 : 0 ≤ σ.1 15 ∧ σ.1 15 ≤ 20000 := hT.1 15
  have v54 : 0 ≤ σ.1 54 ∧ σ.1 54 ≤ 12000 := hT.1 54
  have v55 : 0 ≤ σ.1 55 ∧ σ.1 55 ≤ 12000 := hT.1 55
  have W6 : σ.1 6 = σ.1 6 := rfl
  have W7 : σ.1 7 = σ.1 7 := rfl
  have W13 : σ.1 13 = σ.1 13 := rfl
  have W14 : σ.1 14 = σ.1 14 := rfl
  have W15 : σ.1 15 = σ.1 15 := rfl
  have W54 : σ.1 54 = σ.1 54 := rfl
  have W55 : σ.1 55 = σ.1 55 := rfl
  have G10 : σ.2.1 10 = σ.2.1 10 := rfl
  have G13 : σ.2.1 13 = σ.2.1 13 := rfl
  have G14 : σ.2.1 14 = σ.2.1 14 := rfl
  have G15 : σ.2.1 15 = σ.2.1 15 := rfl
  have G16 : σ.2.1 16 = σ.2.1 16 := rfl
  have G27 : σ.2.1 27 = σ.2.1 27 := rfl
  have G28 : σ.2.1 28 = σ.2.1 28 := rfl
  have G29 : σ.2.1 29 = σ.2.1 29 := rfl
  have G30 : σ.2.1 30 = σ.2.1 30 := rfl
  have G31 : σ.2.1 31 = σ.2.1 31 := rfl
  have G32 : σ.2.1 32 = σ.2.1 32 := rfl
  have G33 : σ.2.1 33 = σ.2.1 33 := rfl
  have G34 : σ.2.1 34 = σ.2.1 34 := rfl
  have G35 : σ.2.1 35 = σ.2.1 35 := rfl
  have G36 : σ.2.1 36 = σ.2.1 36 := rfl
  have G37 : σ.2.1 37 = σ.2.1 37 := rfl
  have G84 : σ.2.1 84 = σ.2.1 84 := rfl
  have G87 : σ.2.1 87 = σ.2.1 87 := rfl
  intro P14 h14
  have s14 := A14
  have CJ : J_all (σ.1 7) (σ.1 6) (σ.1 13) (σ.1 14) (σ.1 15) (σ.2.1 13) (σ.2.1 14) (σ.2.1 15) (σ.2.1 16) (σ.2.1 10) (σ.2.1 27) (σ.2.1 28) (σ.2.1 29) (σ.2.1 30) (σ.2.1 31) (σ.2.1 32) (σ.2.1 33) (σ.2.1 34) (σ.2.1 35) (σ.2.1 36) (σ.2.1 37) := p1
  have PTN : ∀ k : Int, 0 ≤ k → k < (σ.1 55) → σ.2.1 87 k < (σ.1 7) := p2
  have CJ_0 := CJ
  have PTN_0 := PTN
  have l_14 : ∀ (m_14 : Nat) (u1_14 : Int) (u2_14 : Int) (τ_14 : S0), 12001 - u2_14 < (m_14 : Int) → (c_T τ_14) → (τ_14.1 6 = σ.1 6) → (τ_14.1 7 = σ.1 7) → (τ_14.1 13 = σ.1 13) → (τ_14.1 14 = σ.1 14) → (τ_14.1 15 = σ.1 15) → (τ_14.1 54 = σ.1 54) → (τ_14.1 55 = σ.1 55) → (τ_14.2.1 10 = σ.2.1 10) → (τ_14.2.1 13 = σ.2.1 13) → (τ_14.2.1 14 = σ.2.1 14) → (τ_14.2.1 15 = σ.2.1 15) → (τ_14.2.1 16 = σ.2.1 16) → (τ_14.2.1 27 = σ.2.1 27) → (τ_14.2.1 28 = σ.2.1 28) → (τ_14.2.1 29 = σ.2.1 29) → (τ_14.2.1 30 = σ.2.1 30) → (τ_14.2.1 31 = σ.2.1 31) → (τ_14.2.1 32 = σ.2.1 32) → (τ_14.2.1 33 = σ.2.1 33) → (τ_14.2.1 34 = σ.2.1 34) → (τ_14.2.1 35 = σ.2.1 35) → (τ_14.2.1 36 = σ.2.1 36) → (τ_14.2.1 37 = σ.2.1 37) → (τ_14.2.1 84 = σ.2.1 84) → (τ_14.2.1 87 = σ.2.1 87) → (0 ≤ u1_14 ∧ u1_14 ≤ (σ.1 54)) → (0 ≤ u2_14 ∧ u2_14 ≤ 12000) → P14 u1_14 u2_14 τ_14 := by
    intro m_14
    induction m_14 with
    | zero =>
      intro u1_14 u2_14 τ_14 hm hT W6 W7 W13 W14 W15 W54 W55 G10 G13 G14 G15 G16 G27 G28 G29 G30 G31 G32 G33 G34 G35 G36 G37 G84 G87 i14_1 i14_2
      have A10 : ∀ j, (-1) ≤ τ_14.2.1 10 j ∧ τ_14.2.1 10 j ≤ 99 := fun j => hT.2 10 j
      have A13 : ∀ j, 0 ≤ τ_14.2.1 13 j ∧ τ_14.2.1 13 j ≤ 4 := fun j => hT.2 13 j
      have A14 : ∀ j, 0 ≤ τ_14.2.1 14 j ∧ τ_14.2.1 14 j ≤ 30000 := fun j => hT.2 14 j
      have A15 : ∀ j, 0 ≤ τ_14.2.1 15 j ∧ τ_14.2.1 15 j ≤ 999 := fun j => hT.2 15 j
      have A16 : ∀ j, (-1) ≤ τ_14.2.1 16 j ∧ τ_14.2.1 16 j ≤ 1499 := fun j => hT.2 16 j
      have A27 : ∀ j, 0 ≤ τ_14.2.1 27 j ∧ τ_14.2.1 27 j ≤ 90000 := fun j => hT.2 27 j
      have A28 : ∀ j, 0 ≤ τ_14.2.1 28 j ∧ τ_14.2.1 28 j ≤ 60 := fun j => hT.2 28 j
      have A29 : ∀ j, 0 ≤ τ_14.2.1 29 j ∧ τ_14.2.1 29 j ≤ 1499 := fun j => hT.2 29 j
      have A30 : ∀ j, 0 ≤ τ_14.2.1 30 j ∧ τ_14.2.1 30 j ≤ 20000 := fun j => hT.2 30 j
      have A31 : ∀ j, 0 ≤ τ_14.2.1 31 j ∧ τ_14.2.1 31 j ≤ 20000 := fun j => hT.2 31 j
      have A32 : ∀ j, 0 ≤ τ_14.2.1 32 j ∧ τ_14.2.1 32 j ≤ 999999 := fun j => hT.2 32 j
      have A33 : ∀ j, 0 ≤ τ_14.2.1 33 j ∧ τ_14.2.1 33 j ≤ 20000 := fun j => hT.2 33 j
      have A34 : ∀ j, 0 ≤ τ_14.2.1 34 j ∧ τ_14.2.1 34 j ≤ 20000 := fun j => hT.2 34 j
      have A35 : ∀ j, 0 ≤ τ_14.2.1 35 j ∧ τ_14.2.1 35 j ≤ 1499 := fun j => hT.2 35 j
      have A36 : ∀ j, 0 ≤ τ_14.2.1 36 j ∧ τ_14.2.1 36 j ≤ 20000 := fun j => hT.2 36 j
      have A37 : ∀ j, 0 ≤ τ_14.2.1 37 j ∧ τ_14.2.1 37 j ≤ 19999 := fun j => hT.2 37 j
      have A84 : ∀ j, 0 ≤ τ_14.2.1 84 j ∧ τ_14.2.1 84 j ≤ 1499 := fun j => hT.2 84 j
      have A87 : ∀ j, 0 ≤ τ_14.2.1 87 j ∧ τ_14.2.1 87 j ≤ 1499 := fun j => hT.2 87 j
      have v6 : 0 ≤ τ_14.1 6 ∧ τ_14.1 6 ≤ 30000 := hT.1 6
      have v7 : 0 ≤ τ_14.1 7 ∧ τ_14.1 7 ≤ 1500 := hT.1 7
      have v13 : 0 ≤ τ_14.1 13 ∧ τ_14.1 13 ≤ 90000 := hT.1 13
      have v14 : 0 ≤ τ_14.1 14 ∧ τ_14.1 14 ≤ 20000 := hT.1 14
      have v15 : 0 ≤ τ_14.1 15 ∧ τ_14.1 15 ≤ 20000 := hT.1 15
      have v54 : 0 ≤ τ_14.1 54 ∧ τ_14.1 54 ≤ 12000 := hT.1 54
      have v55 : 0 ≤ τ_14.1 55 ∧ τ_14.1 55 ≤ 12000 := hT.1 55
      exfalso; (first | omega | (simp only [st_s] <;> omega) | assumption | omega | fail)
    | succ m_14 ih_14 =>
      intro u1_14 u2_14 τ_14 hm_14 hT W6 W7 W13 W14 W15 W54 W55 G10 G13 G14 G15 G16 G27 G28 G29 G30 G31 G32 G33 G34 G35 G36 G37 G84 G87 i14_1 i14_2
      have A10 : ∀ j, (-1) ≤ τ_14.2.1 10 j ∧ τ_14.2.1 10 j ≤ 99 := fun j => hT.2 10 j
      have A13 : ∀ j, 0 ≤ τ_14.2.1 13 j ∧ τ_14.2.1 13 j ≤ 4 := fun j => hT.2 13 j
      have A14 : ∀ j, 0 ≤ τ_14.2.1 14 j ∧ τ_14.2.1 14 j ≤ 30000 := fun j => hT.2 14 j
      have A15 : ∀ j, 0 ≤ τ_14.2.1 15 j ∧ τ_14.2.1 15 j ≤ 999 := fun j => hT.2 15 j
      have A16 : ∀ j, (-1) ≤ τ_14.2.1 16 j ∧ τ_14.2.1 16 j ≤ 1499 := fun j => hT.2 16 j
      have A27 : ∀ j, 0 ≤ τ_14.2.1 27 j ∧ τ_14.2.1 27 j ≤ 90000 := fun j => hT.2 27 j
      have A28 : ∀ j, 0 ≤ τ_14.2.1 28 j ∧ τ_14.2.1 28 j ≤ 60 := fun j => hT.2 28 j
      have A29 : ∀ j, 0 ≤ τ_14.2.1 29 j ∧ τ_14.2.1 29 j ≤ 1499 := fun j => hT.2 29 j
      have A30 : ∀ j, 0 ≤ τ_14.2.1 30 j ∧ τ_14.2.1 30 j ≤ 20000 := fun j => hT.2 30 j
      have A31 : ∀ j, 0 ≤ τ_14.2.1 31 j ∧ τ_14.2.1 31 j ≤ 20000 := fun j => hT.2 31 j
      have A32 : ∀ j, 0 ≤ τ_14.2.1 32 j ∧ τ_14.2.1 32 j ≤ 999999 := fun j => hT.2 32 j
      have A33 : ∀ j, 0 ≤ τ_14.2.1 33 j ∧ τ_14.2.1 33 j ≤ 20000 := fun j => hT.2 33 j
      have A34 : ∀ j, 0 ≤ τ_14.2.1 34 j ∧ τ_14.2.1 34 j ≤ 20000 := fun j => hT.2 34 j
      have A35 : ∀ j, 0 ≤ τ_14.2.1 35 j ∧ τ_14.2.1 35 j ≤ 1499 := fun j => hT.2 35 j
      have A36 : ∀ j, 0 ≤ τ_14.2.1 36 j ∧ τ_14.2.1 36 j ≤ 20000 := fun j => hT.2 36 j
      have A37 : ∀ j, 0 ≤ τ_14.2.1 37 j ∧ τ_14.2.1 37 j ≤ 19999 := fun j => hT.2 37 j
      have A84 : ∀ j, 0 ≤ τ_14.2.1 84 j ∧ τ_14.2.1 84 j ≤ 1499 := fun j => hT.2 84 j
      have A87 : ∀ j, 0 ≤ τ_14.2.1 87 j ∧ τ_14.2.1 87 j ≤ 1499 := fun j => hT.2 87 j
      have v6 : 0 ≤ τ_14.1 6 ∧ τ_14.1 6 ≤ 30000 := hT.1 6
      have v7 : 0 ≤ τ_14.1 7 ∧ τ_14.1 7 ≤ 1500 := hT.1 7
      have v13 : 0 ≤ τ_14.1 13 ∧ τ_14.1 13 ≤ 90000 := hT.1 13
      have v14 : 0 ≤ τ_14.1 14 ∧ τ_14.1 14 ≤ 20000 := hT.1 14
      have v15 : 0 ≤ τ_14.1 15 ∧ τ_14.1 15 ≤ 20000 := hT.1 15
      have v54 : 0 ≤ τ_14.1 54 ∧ τ_14.1 54 ≤ 12000 := hT.1 54
      have v55 : 0 ≤ τ_14.1 55 ∧ τ_14.1 55 ≤ 12000 := hT.1 55
      have CJ : J_all (τ_14.1 7) (τ_14.1 6) (τ_14.1 13) (τ_14.1 14) (τ_14.1 15) (τ_14.2.1 13) (τ_14.2.1 14) (τ_14.2.1 15) (τ_14.2.1 16) (τ_14.2.1 10) (τ_14.2.1 27) (τ_14.2.1 28) (τ_14.2.1 29) (τ_14.2.1 30) (τ_14.2.1 31) (τ_14.2.1 32) (τ_14.2.1 33) (τ_14.2.1 34) (τ_14.2.1 35) (τ_14.2.1 36) (τ_14.2.1 37) := by rw [show (J_all (τ_14.1 7) (τ_14.1 6) (τ_14.1 13) (τ_14.1 14) (τ_14.1 15) (τ_14.2.1 13) (τ_14.2.1 14) (τ_14.2.1 15) (τ_14.2.1 16) (τ_14.2.1 10) (τ_14.2.1 27) (τ_14.2.1 28) (τ_14.2.1 29) (τ_14.2.1 30) (τ_14.2.1 31) (τ_14.2.1 32) (τ_14.2.1 33) (τ_14.2.1 34) (τ_14.2.1 35) (τ_14.2.1 36) (τ_14.2.1 37)) = (J_all (σ.1 7) (σ.1 6) (σ.1 13) (σ.1 14) (σ.1 15) (σ.2.1 13) (σ.2.1 14) (σ.2.1 15) (σ.2.1 16) (σ.2.1 10) (σ.2.1 27) (σ.2.1 28) (σ.2.1 29) (σ.2.1 30) (σ.2.1 31) (σ.2.1 32) (σ.2.1 33) (σ.2.1 34) (σ.2.1 35) (σ.2.1 36) (σ.2.1 37)) from by rw [W6, W7, W13, W14, W15, G10, G13, G14, G15, G16, G27, G28, G29, G30, G31, G32, G33, G34, G35, G36, G37]]; exact CJ_0
      have PTN : ∀ k : Int, 0 ≤ k → k < (τ_14.1 55) → τ_14.2.1 87 k < (τ_14.1 7) := by rw [show (∀ k : Int, 0 ≤ k → k < (τ_14.1 55) → τ_14.2.1 87 k < (τ_14.1 7)) = (∀ k : Int, 0 ≤ k → k < (σ.1 55) → σ.2.1 87 k < (σ.1 7)) from by rw [W7, W55, G87]]; exact PTN_0
      refine h14 u1_14 u2_14 τ_14 ?_
      refine ⟨fun c2 => ?_, fun c2 => ?_⟩
      ·
        refine ⟨fun c3 => ?_, fun c3 => ?_⟩
        ·
          exact ⟨hT, (show 0 ≤ 0 ∧ 0 ≤ 1 from by (first | omega | (simp only [st_s] <;> omega) | assumption | omega | fail))⟩
        ·
          exact ⟨hT, (show 0 ≤ 1 ∧ 1 ≤ 1 from by (first | omega | (simp only [st_s] <;> omega) | assumption | omega | fail))⟩
      ·
        refine ⟨(show 0 ≤ u2_14 ∧ u2_14 < 12000 from by (first | omega | (simp only [st_s] <;> omega) | assumption | omega | fail)), ?_⟩
        intro x5 r_x5 e_x5
        have b_x5 : 0 ≤ x5 ∧ x5 ≤ 1499 := by rw [e_x5]; exact hT.2 87 _
        refine ⟨fun c6 => ?_, fun c6 => ?_⟩
        ·
          refine ⟨(show 0 ≤ x5 ∧ x5 < 1500 from by (first | omega | (simp only [st_s] <;> omega) | assumption | omega | fail)), ?_⟩
          intro x8 r_x8 e_x8
          have b_x8 : 0 ≤ x8 ∧ x8 ≤ 4 := by rw [e_x8]; exact hT.2 13 _
          refine ⟨fun c9 => ?_, fun c9 => ?_⟩
          ·
            refine ⟨(show 0 ≤ u1_14 ∧ u1_14 < 12000 from by (first | omega | (simp only [st_s] <;> omega) | assumption | omega | fail)), ?_⟩
            intro x11 r_x11 e_x11
            have b_x11 : 0 ≤ x11 ∧ x11 ≤ 1499 := by rw [e_x11]; exact hT.2 84 _
            refine ⟨fun c12 => ?_, fun c12 => ?_⟩
            ·
              exact ⟨hT, (show 0 ≤ 0 ∧ 0 ≤ 1 from by (first | omega | (simp only [st_s] <;> omega) | assumption | omega | fail))⟩
            ·
              refine ⟨(⟨by (first | omega | (simp only [st_s] <;> omega) | assumption | omega | fail), by (first | omega | (simp only [st_s] <;> omega) | assumption | omega | fail)⟩ : rg (u1_14 + 1)), ?_⟩
              refine ⟨(⟨by (first | omega | (simp only [st_s] <;> omega) | assumption | omega | fail), by (first | omega | (simp only [st_s] <;> omega) | assumption | omega | fail)⟩ : rg (u2_14 + 1)), ?_⟩
              exact ih_14 _ _ _ (show (12001 - (u2_14 + 1) : Int) < ((m_14 : Nat) : Int) from by ((first | omega | (simp only [st_s] <;> omega) | assumption | omega | fail))) hT (show τ_14.1 6 = σ.1 6 from by first | exact W6 | omega) (show τ_14.1 7 = σ.1 7 from by first | exact W7 | omega) (show τ_14.1 13 = σ.1 13 from by first | exact W13 | omega) (show τ_14.1 14 = σ.1 14 from by first | exact W14 | omega) (show τ_14.1 15 = σ.1 15 from by first | exact W15 | omega) (show τ_14.1 54 = σ.1 54 from by first | exact W54 | omega) (show τ_14.1 55 = σ.1 55 from by first | exact W55 | omega) G10 G13 G14 G15 G16 G27 G28 G29 G30 G31 G32 G33 G34 G35 G36 G37 G84 G87 (show 0 ≤ (u1_14 + 1) ∧ (u1_14 + 1) ≤ (σ.1 54) from by (first | omega | (simp only [st_s] <;> omega) | assumption | omega | fail)) (show 0 ≤ (u2_14 + 1) ∧ (u2_14 + 1) ≤ 12000 from by (first | omega | (simp only [st_s] <;> omega) | assumption | omega | fail))
          ·
            have pt := p2 u2_14 (by omega) (by omega)
            rw [← G87, ← e_x5] at pt
            have jt := (p1.1 x5 (by omega) (by omega)).1.1
            have k0 : σ.2.1 13 x5 = 0 := by rw [← G13, ← e_x8]; assumption
            have jt2 := jt.2.2.2.1 k0
            refine ⟨_, K_X3_variableOf hT (show 0 ≤ x5 from by (first | omega | (simp only [st_s] <;> omega) | assumption | omega | fail)) (show x5 ≤ 1500 from by (first | omega | (simp only [st_s] <;> omega) | assumption | omega | fail)) (show τ_14.2.1 14 x5 < 29999 from by (rw [G14]; omega)), ?_⟩
            intro x16 r_x16 hq
            obtain ⟨q15_1, q15_2⟩ := hq
            replace q15_1 : x16 = τ_14.2.1 15 (τ_14.2.1 14 x5 + 1) := q15_1
            replace q15_2 : 0 ≤ x16 ∧ x16 ≤ 999 := q15_2
            refine ⟨_, K_X11_binds hT (show 0 ≤ x16 from by (first | omega | (simp only [st_s] <;> omega) | assumption | omega | fail)) (show x16 < 1000 from by (first | omega | (simp only [st_s] <;> omega) | assumption | omega | fail)) (show 0 ≤ u1_14 from by (first | omega | (simp only [st_s] <;> omega) | assumption | omega | fail)) (show u1_14 < 12000 from by (first | omega | (simp only [st_s] <;> omega) | assumption | omega | fail)), ?_⟩
            intro x19 τ20 r_x19 hn_τ20 hf_τ20 hq
            obtain ⟨hT, q18_1⟩ := hq
            replace q18_1 : 0 ≤ x19 ∧ x19 ≤ 1 := q18_1
            have w6_τ20 : τ20.1 6 = τ_14.1 6 := hf_τ20.1 6 (by decide)
            have w7_τ20 : τ20.1 7 = τ_14.1 7 := hf_τ20.1 7 (by decide)
            have w13_τ20 : τ20.1 13 = τ_14.1 13 := hf_τ20.1 13 (by decide)
            have w14_τ20 : τ20.1 14 = τ_14.1 14 := hf_τ20.1 14 (by decide)
            have w15_τ20 : τ20.1 15 = τ_14.1 15 := hf_τ20.1 15 (by decide)
            have w54_τ20 : τ20.1 54 = τ_14.1 54 := hf_τ20.1 54 (by decide)
            have w55_τ20 : τ20.1 55 = τ_14.1 55 := hf_τ20.1 55 (by decide)
            have g10_τ20 : τ20.2.1 10 = τ_14.2.1 10 := hf_τ20.2.1 10 (by decide)
            have g13_τ20 : τ20.2.1 13 = τ_14.2.1 13 := hf_τ20.2.1 13 (by decide)
            have g14_τ20 : τ20.2.1 14 = τ_14.2.1 14 := hf_τ20.2.1 14 (by decide)
            have g15_τ20 : τ20.2.1 15 = τ_14.2.1 15 := hf_τ20.2.1 15 (by decide)
            have g16_τ20 : τ20.2.1 16 = τ_14.2.1 16 := hf_τ20.2.1 16 (by decide)
            have g27_τ20 : τ20.2.1 27 = τ_14.2.1 27 := hf_τ20.2.1 27 (by decide)
            have g28_τ20 : τ20.2.1 28 = τ_14.2.1 28 := hf_τ20.2.1 28 (by decide)
            have g29_τ20 : τ20.2.1 29 = τ_14.2.1 29 := hf_τ20.2.1 29 (by decide)
            have g30_τ20 : τ20.2.1 30 = τ_14.2.1 30 := hf_τ20.2.1 30 (by decide)
            have g31_τ20 : τ20.2.1 31 = τ_14.2.1 31 := hf_τ20.2.1 31 (by decide)
            have g32_τ20 : τ20.2.1 32 = τ_14.2.1 32 := hf_τ20.2.1 32 (by decide)
            have g33_τ20 : τ20.2.1 33 = τ_14.2.1 33 := hf_τ20.2.1 33 (by decide)
            have g34_τ20 : τ20.2.1 34 = τ_14.2.1 34 := hf_τ20.2.1 34 (by decide)
            have g35_τ20 : τ20.2.1 35 = τ_14.2.1 35 := hf_τ20.2.1 35 (by decide)
            have g36_τ20 : τ20.2.1 36 = τ_14.2.1 36 := hf_τ20.2.1 36 (by decide)
            have g37_τ20 : τ20.2.1 37 = τ_14.2.1 37 := hf_τ20.2.1 37 (by decide)
            have g84_τ20 : τ20.2.1 84 = τ_14.2.1 84 := hf_τ20.2.1 84 (by decide)
            have g87_τ20 : τ20.2.1 87 = τ_14.2.1 87 := hf_τ20.2.1 87 (by decide)
            have W6 : τ20.1 6 = σ.1 6 := by first | exact w6_τ20.trans W6 | omega
            have W7 : τ20.1 7 = σ.1 7 := by first | exact w7_τ20.trans W7 | omega
            have W13 : τ20.1 13 = σ.1 13 := by first | exact w13_τ20.trans W13 | omega
            have W14 : τ20.1 14 = σ.1 14 := by first | exact w14_τ20.trans W14 | omega
            have W15 : τ20.1 15 = σ.1 15 := by first | exact w15_τ20.trans W15 | omega
            have W54 : τ20.1 54 = σ.1 54 := by first | exact w54_τ20.trans W54 | omega
            have W55 : τ20.1 55 = σ.1 55 := by first | exact w55_τ20.trans W55 | omega
            have G10 : τ20.2.1 10 = σ.2.1 10 := (g10_τ20).trans G10
            have G13 : τ20.2.1 13 = σ.2.1 13 := (g13_τ20).trans G13
            have G14 : τ20.2.1 14 = σ.2.1 14 := (g14_τ20).trans G14
            have G15 : τ20.2.1 15 = σ.2.1 15 := (g15_τ20).trans G15
            have G16 : τ20.2.1 16 = σ.2.1 16 := (g16_τ20).trans G16
            have G27 : τ20.2.1 27 = σ.2.1 27 := (g27_τ20).trans G27
            have G28 : τ20.2.1 28 = σ.2.1 28 := (g28_τ20).trans G28
            have G29 : τ20.2.1 29 = σ.2.1 29 := (g29_τ20).trans G29
            have G30 : τ20.2.1 30 = σ.2.1 30 := (g30_τ20).trans G30
            have G31 : τ20.2.1 31 = σ.2.1 31 := (g31_τ20).trans G31
            have G32 : τ20.2.1 32 = σ.2.1 32 := (g32_τ20).trans G32
            have G33 : τ20.2.1 33 = σ.2.1 33 := (g33_τ20).trans G33
            have G34 : τ20.2.1 34 = σ.2.1 34 := (g34_τ20).trans G34
            have G35 : τ20.2.1 35 = σ.2.1 35 := (g35_τ20).trans G35
            have G36 : τ20.2.1 36 = σ.2.1 36 := (g36_τ20).trans G36
            have G37 : τ20.2.1 37 = σ.2.1 37 := (g37_τ20).trans G37
            have G84 : τ20.2.1 84 = σ.2.1 84 := (g84_τ20).trans G84
            have G87 : τ20.2.1 87 = σ.2.1 87 := (g87_τ20).trans G87
            have CJ : J_all (τ20.1 7) (τ20.1 6) (τ20.1 13) (τ20.1 14) (τ20.1 15) (τ20.2.1 13) (τ20.2.1 14) (τ20.2.1 15) (τ20.2.1 16) (τ20.2.1 10) (τ20.2.1 27) (τ20.2.1 28) (τ20.2.1 29) (τ20.2.1 30) (τ20.2.1 31) (τ20.2.1 32) (τ20.2.1 33) (τ20.2.1 34) (τ20.2.1 35) (τ20.2.1 36) (τ20.2.1 37) := by rw [show (J_all (τ20.1 7) (τ20.1 6) (τ20.1 13) (τ20.1 14) (τ20.1 15) (τ20.2.1 13) (τ20.2.1 14) (τ20.2.1 15) (τ20.2.1 16) (τ20.2.1 10) (τ20.2.1 27) (τ20.2.1 28) (τ20.2.1 29) (τ20.2.1 30) (τ20.2.1 31) (τ20.2.1 32) (τ20.2.1 33) (τ20.2.1 34) (τ20.2.1 35) (τ20.2.1 36) (τ20.2.1 37)) = (J_all (τ_14.1 7) (τ_14.1 6) (τ_14.1 13) (τ_14.1 14) (τ_14.1 15) (τ_14.2.1 13) (τ_14.2.1 14) (τ_14.2.1 15) (τ_14.2.1 16) (τ_14.2.1 10) (τ_14.2.1 27) (τ_14.2.1 28) (τ_14.2.1 29) (τ_14.2.1 30) (τ_14.2.1 31) (τ_14.2.1 32) (τ_14.2.1 33) (τ_14.2.1 34) (τ_14.2.1 35) (τ_14.2.1 36) (τ_14.2.1 37)) from by rw [w6_τ20, w7_τ20, w13_τ20, w14_τ20, w15_τ20, g10_τ20, g13_τ20, g14_τ20, g15_τ20, g16_τ20, g27_τ20, g28_τ20, g29_τ20, g30_τ20, g31_τ20, g32_τ20, g33_τ20, g34_τ20, g35_τ20, g36_τ20, g37_τ20]]; exact CJ
            have PTN : ∀ k : Int, 0 ≤ k → k < (τ20.1 55) → τ20.2.1 87 k < (τ20.1 7) := by rw [show (∀ k : Int, 0 ≤ k → k < (τ20.1 55) → τ20.2.1 87 k < (τ20.1 7)) = (∀ k : Int, 0 ≤ k → k < (τ_14.1 55) → τ_14.2.1 87 k < (τ_14.1 7)) from by rw [w7_τ20, w55_τ20, g87_τ20]]; exact PTN
            have A10 : ∀ j, (-1) ≤ τ20.2.1 10 j ∧ τ20.2.1 10 j ≤ 99 := fun j => hT.2 10 j
            have A13 : ∀ j, 0 ≤ τ20.2.1 13 j ∧ τ20.2.1 13 j ≤ 4 := fun j => hT.2 13 j
            have A14 : ∀ j, 0 ≤ τ20.2.1 14 j ∧ τ20.2.1 14 j ≤ 30000 := fun j => hT.2 14 j
            have A15 : ∀ j, 0 ≤ τ20.2.1 15 j ∧ τ20.2.1 15 j ≤ 999 := fun j => hT.2 15 j
            have A16 : ∀ j, (-1) ≤ τ20.2.1 16 j ∧ τ20.2.1 16 j ≤ 1499 := fun j => hT.2 16 j
            have A27 : ∀ j, 0 ≤ τ20.2.1 27 j ∧ τ20.2.1 27 j ≤ 90000 := fun j => hT.2 27 j
            have A28 : ∀ j, 0 ≤ τ20.2.1 28 j ∧ τ20.2.1 28 j ≤ 60 := fun j => hT.2 28 j
            have A29 : ∀ j, 0 ≤ τ20.2.1 29 j ∧ τ20.2.1 29 j ≤ 1499 := fun j => hT.2 29 j
            have A30 : ∀ j, 0 ≤ τ20.2.1 30 j ∧ τ20.2.1 30 j ≤ 20000 := fun j => hT.2 30 j
            have A31 : ∀ j, 0 ≤ τ20.2.1 31 j ∧ τ20.2.1 31 j ≤ 20000 := fun j => hT.2 31 j
            have A32 : ∀ j, 0 ≤ τ20.2.1 32 j ∧ τ20.2.1 32 j ≤ 999999 := fun j => hT.2 32 j
            have A33 : ∀ j, 0 ≤ τ20.2.1 33 j ∧ τ20.2.1 33 j ≤ 20000 := fun j => hT.2 33 j
            have A34 : ∀ j, 0 ≤ τ20.2.1 34 j ∧ τ20.2.1 34 j ≤ 20000 := fun j => hT.2 34 j
            have A35 : ∀ j, 0 ≤ τ20.2.1 35 j ∧ τ20.2.1 35 j ≤ 1499 := fun j => hT.2 35 j
            have A36 : ∀ j, 0 ≤ τ20.2.1 36 j ∧ τ20.2.1 36 j ≤ 20000 := fun j => hT.2 36 j
            have A37 : ∀ j, 0 ≤ τ20.2.1 37 j ∧ τ20.2.1 37 j ≤ 19999 := fun j => hT.2 37 j
            have A84 : ∀ j, 0 ≤ τ20.2.1 84 j ∧ τ20.2.1 84 j ≤ 1499 := fun j => hT.2 84 j
            have A87 : ∀ j, 0 ≤ τ20.2.1 87 j ∧ τ20.2.1 87 j ≤ 1499 := fun j => hT.2 87 j
            have v6 : 0 ≤ τ20.1 6 ∧ τ20.1 6 ≤ 30000 := hT.1 6
            have v7 : 0 ≤ τ20.1 7 ∧ τ20.1 7 ≤ 1500 := hT.1 7
            have v13 : 0 ≤ τ20.1 13 ∧ τ20.1 13 ≤ 90000 := hT.1 13
            have v14 : 0 ≤ τ20.1 14 ∧ τ20.1 14 ≤ 20000 := hT.1 14
            have v15 : 0 ≤ τ20.1 15 ∧ τ20.1 15 ≤ 20000 := hT.1 15
            have v54 : 0 ≤ τ20.1 54 ∧ τ20.1 54 ≤ 12000 := hT.1 54
            have v55 : 0 ≤ τ20.1 55 ∧ τ20.1 55 ≤ 12000 := hT.1 55
            refine ⟨fun c21 => ?_, fun c21 => ?_⟩
            ·
              refine ⟨_, K_X11_behind hT (show 0 ≤ u1_14 from by (first | omega | (simp only [st_s] <;> omega) | assumption | omega | fail)) (show u1_14 ≤ (τ20.1 54) from by (first | omega | (simp only [st_s] <;> omega) | assumption | omega | fail)), ?_⟩
              intro x23 r_x23 hq
              obtain ⟨q22_1, q22_2, q22_3⟩ := hq
              replace q22_1 : u1_14 ≤ x23 ∧ x23 ≤ (τ20.1 54) := q22_1
              replace q22_2 : u1_14 < (τ20.1 54) → u1_14 < x23 := q22_2
              replace q22_3 : g_bh (τ20.1 54) u1_14 x23 (τ20.2.1 13) (τ20.2.1 28) (τ20.2.1 84) := q22_3
              refine ⟨(⟨by (first | omega | (simp only [st_s] <;> omega) | assumption | omega | fail), by (first | omega | (simp only [st_s] <;> omega) | assumption | omega | fail)⟩ : rg (u2_14 + 1)), ?_⟩
              exact ih_14 _ _ _ (show (12001 - (u2_14 + 1) : Int) < ((m_14 : Nat) : Int) from by ((first | omega | (simp only [st_s] <;> omega) | assumption | omega | fail))) hT (show τ20.1 6 = σ.1 6 from by first | exact W6 | omega) (show τ20.1 7 = σ.1 7 from by first | exact W7 | omega) (show τ20.1 13 = σ.1 13 from by first | exact W13 | omega) (show τ20.1 14 = σ.1 14 from by first | exact W14 | omega) (show τ20.1 15 = σ.1 15 from by first | exact W15 | omega) (show τ20.1 54 = σ.1 54 from by first | exact W54 | omega) (show τ20.1 55 = σ.1 55 from by first | exact W55 | omega) G10 G13 G14 G15 G16 G27 G28 G29 G30 G31 G32 G33 G34 G35 G36 G37 G84 G87 (show 0 ≤ x23 ∧ x23 ≤ (σ.1 54) from by (first | omega | (simp only [st_s] <;> omega) | assumption | omega | fail)) (show 0 ≤ (u2_14 + 1) ∧ (u2_14 + 1) ≤ 12000 from by (first | omega | (simp only [st_s] <;> omega) | assumption | omega | fail))
            ·
              exact ⟨hT, (show 0 ≤ 0 ∧ 0 ≤ 1 from by (first | omega | (simp only [st_s] <;> omega) | assumption | omega | fail))⟩
        ·
          exact ⟨hT, (show 0 ≤ 0 ∧ 0 ≤ 1 from by (first | omega | (simp only [st_s] <;> omega) | assumption | omega | fail))⟩
  intro x1 r_x1
  replace hT := cT_v (i := 56) hT (show (-2147483648) ≤ x1 ∧ x1 ≤ 2147483647 from by (first | omega | (simp only [st_s] <;> omega) | assumption | omega | fail))
  exact l_14 ((12001 - 0 : Int).toNat + 1) _ _ _ (show (12001 - 0 : Int) < (((12001 - 0 : Int).toNat + 1 : Nat) : Int) from by ((first | omega | (simp only [st_s] <;> omega) | assumption | omega | fail))) hT (show σ.1 6 = σ.1 6 from by first | exact W6 | omega) (show σ.1 7 = σ.1 7 from by first | exact W7 | omega) (show σ.1 13 = σ.1 13 from by first | exact W13 | omega) (show σ.1 14 = σ.1 14 from by first | exact W14 | omega) (show σ.1 15 = σ.1 15 from by first | exact W15 | omega) (show σ.1 54 = σ.1 54 from by first | exact W54 | omega) (show σ.1 55 = σ.1 55 from by first | exact W55 | omega) G10 G13 G14 G15 G16 G27 G28 G29 G30 G31 G32 G33 G34 G35 G36 G37 G84 G87 (show 0 ≤ 0 ∧ 0 ≤ (σ.1 54) from by (first | omega | (simp only [st_s] <;> omega) | assumption | omega | fail)) (show 0 ≤ 0 ∧ 0 ≤ 12000 from by (first | omega | (simp only [st_s] <;> omega) | assumption | omega | fail))
set_option maxHeartbeats 1000000 in
theorem K_X11_bindsEssentials {n1 : Int} {σ : S0} (hT : c_T σ) (p1 : 0 ≤ n1) (p2 : n1 < (σ.1 7)) (p3 : 2 ≤ σ.2.1 13 n1) (p4 : J_all (σ.1 7) (σ.1 6) (σ.1 13) (σ.1 14) (σ.1 15) (σ.2.1 13) (σ.2.1 14) (σ.2.1 15) (σ.2.1 16) (σ.2.1 10) (σ.2.1 27) (σ.2.1 28) (σ.2.1 29) (σ.2.1 30) (σ.2.1 31) (σ.2.1 32) (σ.2.1 33) (σ.2.1 34) (σ.2.1 35) (σ.2.1 36) (σ.2.1 37)) : W_X11_bindsEssentials n1 σ (fun (x : Int) => (0 ≤ x ∧ x ≤ 1)) := by
  have A10 : ∀ j, (-1) ≤ σ.2.1 10 j ∧ σ.2.1 10 j ≤ 99 := fun j => hT.2 10 j
  have A13 : ∀ j, 0 ≤ σ.2.1 13 j ∧ σ.2.1 13 j ≤ 4 := fun j => hT.2 13 j
  have A14 : ∀ j, 0 ≤ σ.2.1 14 j ∧ σ.2.1 14 j ≤ 30000 := fun j => hT.2 14 j
  have A15 : ∀ j, 0 ≤ σ.2.1 15 j ∧ σ.2.1 15 j ≤ 999 := fun j => hT.2 15 j
  have A16 : ∀ j, (-1) ≤ σ.2.1 16 j ∧ σ.2.1 16 j ≤ 1499 := fun j => hT.2 16 j
  have A27 : ∀ j, 0 ≤ σ.2.1 27 j ∧ σ.2.1 27 j ≤ 90000 := fun j => hT.2 27 j
  have A28 : ∀ j, 0 ≤ σ.2.1 28 j ∧ σ.2.1 28 j ≤ 60 := fun j => hT.2 28 j
  have A29 : ∀ j, 0 ≤ σ.2.1 29 j ∧ σ.2.1 29 j ≤ 1499 := fun j => hT.2 29 j
  have A30 : ∀ j, 0 ≤ σ.2.1 30 j ∧ σ.2.1 30 j ≤ 20000 := fun j => hT.2 30 j
  have A31 : ∀ j, 0 ≤ σ.2.1 31 j ∧ σ.2.1 31 j ≤ 20000 := fun j => hT.2 31 j
  have A32 : ∀ j, 0 ≤ σ.2.1 32 j ∧ σ.2.1 32 j ≤ 999999 := fun j => hT.2 32 j
  have A33 : ∀ j, 0 ≤ σ.2.1 33 j ∧ σ.2.1 33 j ≤ 20000 := fun j => hT.2 33 j
  have A34 : ∀ j, 0 ≤ σ.2.1 34 j ∧ σ.2.1 34 j ≤ 20000 := fun j => hT.2 34 j
  have A35 : ∀ j, 0 ≤ σ.2.1 35 j ∧ σ.2.1 35 j ≤ 1499 := fun j => hT.2 35 j
  have A36 : ∀ j, 0 ≤ σ.2.1 36 j ∧ σ.2.1 36 j ≤ 20000 := fun j => hT.2 36 j
  have A37 : ∀ j, 0 ≤ σ.2.1 37 j ∧ σ.2.1 37 j ≤ 19999 := fun j => hT.2 37 j
  have v6 : 0 ≤ σ.1 6 ∧ σ.1 6 ≤ 30000 := hT.1 6
  have v7 : 0 ≤ σ.1 7 ∧ σ.1 7 ≤ 1500 := hT.1 7
  have v13 : 0 ≤ σ.1 13 ∧ σ.1 13 ≤ 90000 := hT.1 13
  have v14 : 0 ≤ σ.1 14 ∧ σ.1 14 ≤ 20000 := hT.1 14
  have v15 : 0 ≤ σ.1 15 ∧ σ.1 15 ≤ 20000 := hT.1 15
  have v56 : (-2147483648) ≤ σ.1 56 ∧ σ.1 56 ≤ 2147483647 := hT.1 56
  intro P12 h12
  have jf := (p4.1 n1 p1 p2).2.1 p3
  have jf1 := jf.1
  have a27 := A27 n1
  have a28 := A28 n1
  have s29 := A29
  have s14 := A14
  have CJ : J_all (σ.1 7) (σ.1 6) (σ.1 13) (σ.1 14) (σ.1 15) (σ.2.1 13) (σ.2.1 14) (σ.2.1 15) (σ.2.1 16) (σ.2.1 10) (σ.2.1 27) (σ.2.1 28) (σ.2.1 29) (σ.2.1 30) (σ.2.1 31) (σ.2.1 32) (σ.2.1 33) (σ.2.1 34) (σ.2.1 35) (σ.2.1 36) (σ.2.1 37) := p4
  have CJ_0 := CJ
  have l_12 : ∀ (m_12 : Nat) (u2_12 : Int) (u3_12 : Int), 90100 - u3_12 < (m_12 : Int) → (u2_12 = σ.2.1 27 n1) → (u2_12 ≤ u3_12 ∧ u3_12 ≤ u2_12 + σ.2.1 28 n1) → P12 n1 u2_12 u3_12 := by
    intro m_12
    induction m_12 with
    | zero =>
      intro u2_12 u3_12 hm i12_1 i12_2
      exfalso; omega
    | succ m_12 ih_12 =>
      intro u2_12 u3_12 hm_12 i12_1 i12_2
      refine h12 n1 u2_12 u3_12 ?_
      refine ⟨(show 0 ≤ n1 ∧ n1 < 1500 from by (first | omega | (simp only [st_s] <;> omega) | assumption | omega | fail)), ?_⟩
      intro x4 r_x4 e_x4
      have b_x4 : 0 ≤ x4 ∧ x4 ≤ 60 := by rw [e_x4]; exact hT.2 28 _
      refine ⟨(⟨by (first | omega | (simp only [st_s] <;> omega) | assumption | omega | fail), by (first | omega | (simp only [st_s] <;> omega) | assumption | omega | fail)⟩ : rg (u2_12 + x4)), ?_⟩
      refine ⟨fun c6 => ?_, fun c6 => ?_⟩
      ·
        exact (show 0 ≤ 1 ∧ 1 ≤ 1 from by (first | omega | (simp only [st_s] <;> omega) | assumption | omega | fail))
      ·
        refine ⟨(show 0 ≤ u3_12 ∧ u3_12 < 90000 from by (first | omega | (simp only [st_s] <;> omega) | assumption | omega | fail)), ?_⟩
        intro x8 r_x8 e_x8
        have b_x8 : 0 ≤ x8 ∧ x8 ≤ 1499 := by rw [e_x8]; exact hT.2 29 _
        refine ⟨(show 0 ≤ x8 ∧ x8 < 1500 from by (first | omega | (simp only [st_s] <;> omega) | assumption | omega | fail)), ?_⟩
        intro x10 r_x10 e_x10
        have b_x10 : 0 ≤ x10 ∧ x10 ≤ 4 := by rw [e_x10]; exact hT.2 13 _
        refine ⟨fun c11 => ?_, fun c11 => ?_⟩
        ·
          refine ⟨(⟨by (first | omega | (simp only [st_s] <;> omega) | assumption | omega | fail), by (first | omega | (simp only [st_s] <;> omega) | assumption | omega | fail)⟩ : rg (u3_12 + 1)), ?_⟩
          exact ih_12 _ _ (show (90100 - (u3_12 + 1) : Int) < ((m_12 : Nat) : Int) from by ((first | omega | (simp only [st_s] <;> omega) | assumption | omega | fail))) (show u2_12 = σ.2.1 27 n1 from by (first | omega | (simp only [st_s] <;> omega) | assumption | omega | fail)) (show u2_12 ≤ (u3_12 + 1) ∧ (u3_12 + 1) ≤ u2_12 + σ.2.1 28 n1 from by (first | omega | (simp only [st_s] <;> omega) | assumption | omega | fail))
        ·
          have jk := jf.2.1 (u3_12 - u2_12) (by omega) (by omega)
          rw [show σ.2.1 27 n1 + (u3_12 - u2_12) = u3_12 from by omega, ← e_x8] at jk
          have jt := (p4.1 x8 (by have := s29 u3_12; omega) (by omega)).1.1
          have jt2 := jt.2.2.2.1 (by rw [← e_x10]; assumption)
          refine ⟨_, K_X3_variableOf hT (show 0 ≤ x8 from by (first | omega | (simp only [st_s] <;> omega) | assumption | omega | fail)) (show x8 ≤ 1500 from by (first | omega | (simp only [st_s] <;> omega) | assumption | omega | fail)) (show σ.2.1 14 x8 < 29999 from by (first | omega | (simp only [st_s] <;> omega) | assumption | omega | fail)), ?_⟩
          intro x14 r_x14 hq
          obtain ⟨q13_1, q13_2⟩ := hq
          replace q13_1 : x14 = σ.2.1 15 (σ.2.1 14 x8 + 1) := q13_1
          replace q13_2 : 0 ≤ x14 ∧ x14 ≤ 999 := q13_2
          refine ⟨(show 0 ≤ x14 ∧ x14 < 1000 from by (first | omega | (simp only [st_s] <;> omega) | assumption | omega | fail)), ?_⟩
          intro x17 r_x17 e_x17
          have b_x17 : (-2147483648) ≤ x17 ∧ x17 ≤ 2147483647 := by rw [e_x17]; exact hT.2 91 _
          refine ⟨fun c18 => ?_, fun c18 => ?_⟩
          ·
            refine ⟨(⟨by (first | omega | (simp only [st_s] <;> omega) | assumption | omega | fail), by (first | omega | (simp only [st_s] <;> omega) | assumption | omega | fail)⟩ : rg (u3_12 + 1)), ?_⟩
            exact ih_12 _ _ (show (90100 - (u3_12 + 1) : Int) < ((m_12 : Nat) : Int) from by ((first | omega | (simp only [st_s] <;> omega) | assumption | omega | fail))) (show u2_12 = σ.2.1 27 n1 from by (first | omega | (simp only [st_s] <;> omega) | assumption | omega | fail)) (show u2_12 ≤ (u3_12 + 1) ∧ (u3_12 + 1) ≤ u2_12 + σ.2.1 28 n1 from by (first | omega | (simp only [st_s] <;> omega) | assumption | omega | fail))
          ·
            exact (show 0 ≤ 0 ∧ 0 ≤ 1 from by (first | omega | (simp only [st_s] <;> omega) | assumption | omega | fail))
  refine ⟨(show 0 ≤ n1 ∧ n1 < 1500 from by (first | omega | (simp only [st_s] <;> omega) | assumption | omega | fail)), ?_⟩
  intro x2 r_x2 e_x2
  have b_x2 : 0 ≤ x2 ∧ x2 ≤ 90000 := by rw [e_x2]; exact hT.2 27 _
  exact l_12 ((90100 - x2 : Int).toNat + 1) _ _ (show (90100 - x2 : Int) < (((90100 - x2 : Int).toNat + 1 : Nat) : Int) from by ((first | omega | (simp only [st_s] <;> omega) | assumption | omega | fail))) (show x2 = σ.2.1 27 n1 from by (first | omega | (simp only [st_s] <;> omega) | assumption | omega | fail)) (show x2 ≤ x2 ∧ x2 ≤ x2 + σ.2.1 28 n1 from by (first | omega | (simp only [st_s] <;> omega) | assumption | omega | fail))
