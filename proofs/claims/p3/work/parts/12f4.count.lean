-- pure: how many trees a statement has, told of its text
/-- a statement's row, its leaves, its root -/
def y_rw (σ : S0) (i k : Int) : Int := σ.2.1 16 (σ.2.1 14 i + 1 + k)
def y_lt (σ : S0) (i k : Int) : Int := σ.2.1 16 (σ.2.1 14 (σ.2.1 17 (σ.2.1 14 i + 1 + k)))
def y_lf (σ : S0) (i k : Int) : Int := if ¬ σ.2.1 17 (σ.2.1 14 i + 1 + k) = -1 ∧ ¬ y_lt σ i k = σ.1 11 then y_lt σ i k else -1
def y_rt (σ : S0) (i : Int) : Int := if σ.2.1 16 (σ.2.1 14 i) = σ.1 11 then (if 0 ≤ σ.1 10 ∧ σ.2.1 8 (σ.1 10) = 0 then σ.1 10 else -1) else σ.2.1 16 (σ.2.1 14 i)
/-- a count that is right -/
def y_Ti (σ : S0) (i c : Int) : Prop := (0 ≤ c ∧ c ≤ 2) ∧ ∃ (W V : Int → Int → Int → Prop) (ρ : Int → Int → Int → Int), y_CH i (σ.2.1 15 i - 1) (y_In σ) (y_hd σ) (y_nn σ) (y_f σ) (y_rw σ i) (y_lf σ i) W V ρ ∧ (1 ≤ c ↔ 1 < σ.2.1 15 i ∧ W (y_rt σ i) 0 (σ.2.1 15 i - 1)) ∧ (2 ≤ c ↔ 1 < σ.2.1 15 i ∧ V (y_rt σ i) 0 (σ.2.1 15 i - 1))
/-- only the row and its leaves count -/
theorem y_CH_x {lim len : Int} {In : Int → Prop} {hd nn : Int → Int} {f : Int → Int → Int} {row ls row2 ls2 : Int → Int} {W V : Int → Int → Int → Prop} {ρ : Int → Int → Int → Int} (er : ∀ k : Int, 0 ≤ k → k < len → row2 k = row k) (el : ∀ k : Int, 0 ≤ k → k < len → ls2 k = ls k) (h : y_CH lim len In hd nn f row ls W V ρ) : y_CH lim len In hd nn f row2 ls2 W V ρ := ⟨h.1, fun t i j i0 ij jl => by
  have k := h.2 t i j i0 ij jl
  have p1 : ∀ r : Int, y_p1 row W (f r) i (nn r).toNat j = y_p1 row2 W (f r) i (nn r).toNat j := fun r => propext (y_p1_x _ _ (fun m a b => er m (by omega) (by omega)) (fun _ _ _ _ _ _ _ _ _ _ => Iff.rfl))
  have p2 : ∀ r : Int, y_p2 row W V (f r) i (nn r).toNat j = y_p2 row2 W V (f r) i (nn r).toNat j := fun r => propext (y_p2_x h.1 h.1 _ _ (fun m a b => er m (by omega) (by omega)) (fun _ _ _ _ _ _ _ _ _ _ => ⟨Iff.rfl, Iff.rfl⟩))
  have pl : y_L ls t i j = y_L ls2 t i j := by unfold y_L; rw [el i i0 (by omega)]
  unfold y_ok y_E1 y_E2 y_E3 at k ⊢
  simp only [p1, p2, pl] at k
  exact k⟩
/-- the leaves at hand are the statement's -/
theorem y_el {σ τ : S0} {i : Int} (J : n_J σ) (hT : m_T σ) (i0 : 0 ≤ i) (i5 : i < σ.1 5) (e3 : τ.1 3 = σ.1 3) (so : y_so (σ.1 3) (σ.1 11) (τ.1 46) (σ.2.1 12) (σ.2.1 8) (τ.2.1 71))
    (lf : ∀ k : Int, 0 ≤ k → k < σ.2.1 15 i - 1 → τ.2.1 72 k = σ.2.1 16 (σ.2.1 14 i + 1 + k) ∧ τ.2.1 74 k = σ.2.1 17 (σ.2.1 14 i + 1 + k) ∧ ((σ.2.1 17 (σ.2.1 14 i + 1 + k) = -1 ∧ τ.2.1 73 k = -1) ∨ (¬ σ.2.1 17 (σ.2.1 14 i + 1 + k) = -1 ∧ τ.2.1 73 k = τ.2.1 71 (σ.2.1 16 (σ.2.1 14 (σ.2.1 17 (σ.2.1 14 i + 1 + k))))))) : ∀ k : Int, 0 ≤ k → k < σ.2.1 15 i - 1 → y_lf σ i k = y_ls (τ.1 3) (τ.2.1 71) (τ.2.1 73) k := fun k k0 k1 => by
  obtain ⟨⟨a1, a2, a3, a4⟩, _, a6⟩ := (J i i0 i5).1
  obtain ⟨_, _, c | c⟩ := lf k k0 k1
  · unfold y_lf y_ls
    rw [if_neg (fun q => q.1 c.1), if_neg (by omega)]
  · have fl := (a6 (σ.2.1 14 i + 1 + k) (by omega) (by omega)).2
    rcases fl with w | ⟨_, w1, w2, w3, w4⟩
    · exact absurd w.2 c.1
    · obtain ⟨⟨b1, b2, b3, b4⟩, _, b6⟩ := (J _ w1 (by omega)).1
      have l1 := (b6 _ (Int.le_refl _) (by omega)).1
      have l0 : 0 ≤ y_lt σ i k := (hT.2 16 _).1
      have c2 : τ.2.1 73 k = τ.2.1 71 (y_lt σ i k) := c.2
      have l1 : y_lt σ i k < σ.1 3 := l1
      unfold y_lf y_ls
      by_cases d : y_lt σ i k = σ.1 11
      · rw [if_neg (fun q => q.2 d)]
        rcases so.1 _ l0 l1 with y | y
        · rw [c2, y.1]; rfl
        · exact absurd d y.2.2.2
      · rw [if_pos ⟨c.1, d⟩]
        rcases so.1 _ l0 l1 with y | y
        · exact absurd ⟨b4, b3, d⟩ y.2
        · rw [c2, if_pos y.1.1, e3]
          exact (y_inv_s so.2 l0 l1 y.1.1).symm
/-- the root's sort -/
theorem y_hR {σ τ : S0} {i z : Int} (J : n_J σ) (hT : m_T σ) (i0 : 0 ≤ i) (i5 : i < σ.1 5)
    (wf : σ.1 10 < σ.1 3) (z0 : -1 ≤ z) (r1 : σ.2.1 8 (σ.2.1 16 (σ.2.1 14 i)) = 0 → ¬ σ.2.1 16 (σ.2.1 14 i) = σ.1 11 → z = τ.2.1 71 (σ.2.1 16 (σ.2.1 14 i))) (r2 : σ.2.1 16 (σ.2.1 14 i) = σ.1 11 → σ.2.1 8 (σ.2.1 16 (σ.2.1 14 i)) = 0 → 0 ≤ σ.1 10 → σ.2.1 8 (σ.1 10) = 0 → z = τ.2.1 71 (σ.1 10))
    (r3 : 0 ≤ z → (¬ σ.2.1 16 (σ.2.1 14 i) = σ.1 11 ∧ σ.2.1 8 (σ.2.1 16 (σ.2.1 14 i)) = 0 ∧ z = τ.2.1 71 (σ.2.1 16 (σ.2.1 14 i))) ∨ (σ.2.1 16 (σ.2.1 14 i) = σ.1 11 ∧ σ.2.1 8 (σ.2.1 16 (σ.2.1 14 i)) = 0 ∧ 0 ≤ σ.1 10 ∧ σ.2.1 8 (σ.1 10) = 0 ∧ z = τ.2.1 71 (σ.1 10))) : (z = -1 ∧ ¬ (0 ≤ y_rt σ i ∧ y_rt σ i < σ.1 3 ∧ 0 ≤ τ.2.1 71 (y_rt σ i))) ∨ (0 ≤ z ∧ (0 ≤ y_rt σ i ∧ y_rt σ i < σ.1 3) ∧ τ.2.1 71 (y_rt σ i) = z) := by
  obtain ⟨⟨a1, a2, a3, a4⟩, _, a6⟩ := (J i i0 i5).1
  have f0 : 0 ≤ σ.2.1 16 (σ.2.1 14 i) := (hT.2 16 _).1
  have f1 := (a6 (σ.2.1 14 i) (Int.le_refl _) (by omega)).1
  unfold y_rt
  by_cases c : σ.2.1 16 (σ.2.1 14 i) = σ.1 11
  · rw [if_pos c]
    by_cases d : 0 ≤ σ.1 10 ∧ σ.2.1 8 (σ.1 10) = 0
    · rw [if_pos d]
      have e := r2 c a3 d.1 d.2
      omega
    · rw [if_neg d]
      by_cases e : 0 ≤ z
      · rcases r3 e with w | w
        · exact absurd c w.1
        · exact absurd ⟨w.2.2.1, w.2.2.2.1⟩ d
      · omega
  · rw [if_neg c]
    have e := r1 a3 c
    omega
/-- the chart of the row at hand tells the count -/
theorem y_Ti_mk {σ τ : S0} {wn by_ : Int → Int} {i x z : Int} (J : n_J σ) (hT : m_T σ) (i0 : 0 ≤ i) (i5 : i < σ.1 5) (SD : y_SD σ τ) (e3 : τ.1 3 = σ.1 3) (so : y_so (σ.1 3) (σ.1 11) (τ.1 46) (σ.2.1 12) (σ.2.1 8) (τ.2.1 71)) (rs : τ.1 45 = σ.2.1 15 i - 1)
    (lf : ∀ k : Int, 0 ≤ k → k < σ.2.1 15 i - 1 → τ.2.1 72 k = σ.2.1 16 (σ.2.1 14 i + 1 + k) ∧ τ.2.1 74 k = σ.2.1 17 (σ.2.1 14 i + 1 + k) ∧ ((σ.2.1 17 (σ.2.1 14 i + 1 + k) = -1 ∧ τ.2.1 73 k = -1) ∨ (¬ σ.2.1 17 (σ.2.1 14 i + 1 + k) = -1 ∧ τ.2.1 73 k = τ.2.1 71 (σ.2.1 16 (σ.2.1 14 (σ.2.1 17 (σ.2.1 14 i + 1 + k)))))))
    (wf : σ.1 10 < σ.1 3) (z0 : -1 ≤ z) (r1 : σ.2.1 8 (σ.2.1 16 (σ.2.1 14 i)) = 0 → ¬ σ.2.1 16 (σ.2.1 14 i) = σ.1 11 → z = τ.2.1 71 (σ.2.1 16 (σ.2.1 14 i))) (r2 : σ.2.1 16 (σ.2.1 14 i) = σ.1 11 → σ.2.1 8 (σ.2.1 16 (σ.2.1 14 i)) = 0 → 0 ≤ σ.1 10 → σ.2.1 8 (σ.1 10) = 0 → z = τ.2.1 71 (σ.1 10))
    (r3 : 0 ≤ z → (¬ σ.2.1 16 (σ.2.1 14 i) = σ.1 11 ∧ σ.2.1 8 (σ.2.1 16 (σ.2.1 14 i)) = 0 ∧ z = τ.2.1 71 (σ.2.1 16 (σ.2.1 14 i))) ∨ (σ.2.1 16 (σ.2.1 14 i) = σ.1 11 ∧ σ.2.1 8 (σ.2.1 16 (σ.2.1 14 i)) = 0 ∧ 0 ≤ σ.1 10 ∧ σ.2.1 8 (σ.1 10) = 0 ∧ z = τ.2.1 71 (σ.1 10)))
    (gd : y_GD τ wn by_ i (-1) 0) (x0 : z = -1 ∨ τ.1 45 = 0 → x = 0) (x1 : 0 ≤ z → 0 < τ.1 45 → x = wn ((z * 61 + 0) * 61 + τ.1 45)) : y_Ti σ i x ∧ (1 ≤ x → 0 < τ.1 45 ∧ τ.2.1 71 (y_rt σ i) = z ∧ y_W1 (τ.1 3) (τ.2.1 71) wn (y_rt σ i) 0 (τ.1 45) ∧ (x = 1 → ¬ y_W2 (τ.1 3) (τ.2.1 71) wn (y_rt σ i) 0 (τ.1 45))) := by
  obtain ⟨⟨ρ, g1⟩, g2, _⟩ := gd
  obtain ⟨_, E2, E3, E4, E5, _, _⟩ := y_SD_e SD
  obtain ⟨⟨a1, a2, a3, a4⟩, _, a6⟩ := (J i i0 i5).1
  have f0 : 0 ≤ σ.2.1 16 (σ.2.1 14 i) := (hT.2 16 _).1
  have f1 := (a6 (σ.2.1 14 i) (Int.le_refl _) (by omega)).1
  have hR := y_hR J hT i0 i5 wf z0 r1 r2 r3
  have CH : y_CH i (σ.2.1 15 i - 1) (y_In σ) (y_hd σ) (y_nn σ) (y_f σ) (y_rw σ i) (y_lf σ i) (y_W1 (τ.1 3) (τ.2.1 71) wn) (y_W2 (τ.1 3) (τ.2.1 71) wn) ρ := by
    refine y_CH_x (row := τ.2.1 72) (ls := y_ls (τ.1 3) (τ.2.1 71) (τ.2.1 73)) (fun k k0 k1 => (lf k k0 k1).1.symm) (fun k k0 k1 => ?_) ⟨y_W21 _ _ _, fun t p q a b c => by
      have w := g1 t p q a b (by omega) (Or.inl (by omega))
      rw [E2, E3, E4, E5] at w
      exact w⟩
    exact y_el J hT i0 i5 e3 so lf k k0 k1
  rcases hR with ⟨h1, h2⟩ | ⟨h1, h2, h3⟩
  · have e := x0 (Or.inl h1)
    subst e
    refine ⟨⟨by omega, _, _, ρ, CH, ⟨fun q => by omega, fun q => absurd (by rw [← e3]; exact q.2.1) h2⟩, ⟨fun q => by omega, fun q => absurd (by rw [← e3]; exact q.2.1) h2⟩⟩, fun q => by omega⟩
  · by_cases l : τ.1 45 = 0
    · have e := x0 (Or.inr l)
      subst e
      refine ⟨⟨by omega, _, _, ρ, CH, ⟨fun q => by omega, fun q => by omega⟩, ⟨fun q => by omega, fun q => by omega⟩⟩, fun q => by omega⟩
    · have e := x1 h1 (by omega)
      rw [← h3] at e
      have mb := (g2 (y_rt σ i) 0 (τ.1 45) h2.1 (by omega) (by omega) (Int.le_refl _) (by omega) (Int.le_refl _) (Or.inl (by omega))).1
      rw [← e] at mb
      have w1 : y_W1 (τ.1 3) (τ.2.1 71) wn (y_rt σ i) 0 (τ.1 45) ↔ 1 ≤ x := ⟨fun q => by rw [e]; exact q.2, fun q => ⟨⟨h2.1, by omega, by omega⟩, by rw [e] at q; exact q⟩⟩
      have w2 : y_W2 (τ.1 3) (τ.2.1 71) wn (y_rt σ i) 0 (τ.1 45) ↔ 2 ≤ x := ⟨fun q => by rw [e]; exact q.2, fun q => ⟨⟨h2.1, by omega, by omega⟩, by rw [e] at q; exact q⟩⟩
      refine ⟨⟨mb, _, _, ρ, CH, ?_, ?_⟩, fun q => ⟨by omega, h3, w1.mpr q, fun u v => ?_⟩⟩
      · rw [← rs, w1]; omega
      · rw [← rs, w2]; omega
      · have := w2.mp v; omega
/-- a chart of the row at hand, done -/
theorem y_TC_mk {σ τ : S0} {i : Int} (QD : y_QD τ) (SD : y_SD σ τ) (J : n_J τ) (M : m_J τ) (l50 : τ.1 50 = i) (i0 : 0 ≤ i) (i5 : i ≤ τ.1 5) (e3 : τ.1 3 = σ.1 3) (e45 : τ.1 45 = σ.1 45) (e71 : τ.2.1 71 = σ.2.1 71) (e72 : τ.2.1 72 = σ.2.1 72) (e73 : τ.2.1 73 = σ.2.1 73) (gd : y_GD σ (τ.2.1 75) (τ.2.1 76) i (-1) 0) : ∃ ρ : Int → Int → Int → Int, y_TC ρ τ := by
  obtain ⟨⟨ρ, g1⟩, g2, _⟩ := gd
  obtain ⟨_, E2, E3, E4, E5, _, E7⟩ := y_SD_e SD
  refine ⟨ρ, ⟨QD, by omega, by omega⟩, fun t p q a b c => ?_, fun t p q a b c d e f => ?_, J, M⟩
  · have w := g1 t p q a b (by omega) (Or.inl (by omega))
    rw [E2, E3, E4, E5, l50, e3, e71, e72, e73]
    exact w
  · have w := g2 t p q a (by omega) (by rw [← e71]; exact c) d e (by omega) (Or.inl (by omega))
    unfold y_mb at w ⊢
    rw [E7, E3, E4, E5, l50, e3, e71, e72]
    exact w
theorem y_TD_h {σ τ : S0} {wv wa wb : List Nat} (hf : f_r wv wa wb σ τ) (d1 : [3, 11, 45, 50].all (fun i => !wv.contains i) = true) (d2 : [8, 10, 13, 14, 15, 16, 18, 19, 20, 71, 72, 73, 74, 75].all (fun i => !wa.contains i) = true) : y_TD σ τ := by
  have V : ∀ i : Nat, i ∈ [3, 11, 45, 50] → τ.1 i = σ.1 i := fun i hi => hf.1 i (by simpa using List.all_eq_true.mp d1 i hi)
  have A : ∀ i : Nat, i ∈ [8, 10, 13, 14, 15, 16, 18, 19, 20, 71, 72, 73, 74, 75] → τ.2.1 i = σ.2.1 i := fun i hi => hf.2.1 i (by simpa using List.all_eq_true.mp d2 i hi)
  exact ⟨⟨V 11 (by simp), A 8 (by simp), A 10 (by simp), A 13 (by simp), A 14 (by simp), A 15 (by simp), A 16 (by simp), A 18 (by simp), A 19 (by simp), A 20 (by simp)⟩, V 3 (by simp), V 45 (by simp), V 50 (by simp), A 71 (by simp), A 72 (by simp), A 73 (by simp), A 74 (by simp), A 75 (by simp)⟩
/-- a leaf's hypothesis is one -/
theorem y_LK {σ τ : S0} {i : Int} (hT : m_T σ) (lf : ∀ k : Int, 0 ≤ k → k < σ.2.1 15 i - 1 → τ.2.1 72 k = σ.2.1 16 (σ.2.1 14 i + 1 + k) ∧ τ.2.1 74 k = σ.2.1 17 (σ.2.1 14 i + 1 + k) ∧ ((σ.2.1 17 (σ.2.1 14 i + 1 + k) = -1 ∧ τ.2.1 73 k = -1) ∨ (¬ σ.2.1 17 (σ.2.1 14 i + 1 + k) = -1 ∧ τ.2.1 73 k = τ.2.1 71 (σ.2.1 16 (σ.2.1 14 (σ.2.1 17 (σ.2.1 14 i + 1 + k)))))))
    : ∀ k : Int, 0 ≤ k → k < σ.2.1 15 i - 1 → ¬ τ.2.1 73 k = -1 → 0 ≤ τ.2.1 74 k := fun k k0 k1 h => by
  obtain ⟨_, b, c | c⟩ := lf k k0 k1
  · exact absurd c.2 h
  · have w := hT.2 17 (σ.2.1 14 i + 1 + k)
    have w1 : -1 ≤ σ.2.1 17 (σ.2.1 14 i + 1 + k) := w.1
    omega
/-- a leaf's sort is a symbol's -/
theorem y_LS {σ τ : S0} {i : Int} (J : n_J σ) (hT : m_T σ) (i0 : 0 ≤ i) (i5 : i < σ.1 5) (tT : ∀ s : Int, -1 ≤ τ.2.1 71 s) (lf : ∀ k : Int, 0 ≤ k → k < σ.2.1 15 i - 1 → τ.2.1 72 k = σ.2.1 16 (σ.2.1 14 i + 1 + k) ∧ τ.2.1 74 k = σ.2.1 17 (σ.2.1 14 i + 1 + k) ∧ ((σ.2.1 17 (σ.2.1 14 i + 1 + k) = -1 ∧ τ.2.1 73 k = -1) ∨ (¬ σ.2.1 17 (σ.2.1 14 i + 1 + k) = -1 ∧ τ.2.1 73 k = τ.2.1 71 (σ.2.1 16 (σ.2.1 14 (σ.2.1 17 (σ.2.1 14 i + 1 + k)))))))
    : ∀ k : Int, 0 ≤ k → k < σ.2.1 15 i - 1 → τ.2.1 73 k = -1 ∨ (0 ≤ τ.2.1 73 k ∧ ∃ t : Int, (0 ≤ t ∧ t < σ.1 3) ∧ τ.2.1 71 t = τ.2.1 73 k) := fun k k0 k1 => by
  obtain ⟨_, _, a6⟩ := (J i i0 i5).1
  obtain ⟨_, _, c | c⟩ := lf k k0 k1
  · exact Or.inl c.2
  · rcases (a6 (σ.2.1 14 i + 1 + k) (by omega) (by omega)).2 with w | ⟨_, w1, w2, w3, w4⟩
    · exact absurd w.2 c.1
    · obtain ⟨b1, _, b6⟩ := (J _ w1 (by omega)).1
      have l1 := (b6 _ (Int.le_refl _) (by omega)).1
      have l0 : 0 ≤ σ.2.1 16 (σ.2.1 14 (σ.2.1 17 (σ.2.1 14 i + 1 + k))) := (hT.2 16 _).1
      have t := tT (σ.2.1 16 (σ.2.1 14 (σ.2.1 17 (σ.2.1 14 i + 1 + k))))
      rw [← c.2] at t
      by_cases z : τ.2.1 73 k = -1
      · exact Or.inl z
      · exact Or.inr ⟨by omega, _, ⟨l0, l1⟩, c.2.symm⟩
/-- the rules' nodes stand for a state of the same statements -/
theorem y_tr_h {σ τ : S0} {n : Int} {wv wa wb : List Nat} (SD : y_SD σ τ) (hf : f_r wv wa wb σ τ) (d1 : [47, 48].all (fun i => !wv.contains i) = true) (d2 : [77, 78, 79, 80, 81, 82, 83, 84].all (fun i => !wa.contains i) = true) (h : y_TT σ σ n n ∧ y_Un σ n (σ.1 48) (σ.2.1 84)) : y_TT τ τ n n ∧ y_Un τ n (τ.1 48) (τ.2.1 84) := by
  have V : ∀ i : Nat, i ∈ [47, 48] → τ.1 i = σ.1 i := fun i hi => hf.1 i (by simpa using List.all_eq_true.mp d1 i hi)
  have A : ∀ i : Nat, i ∈ [77, 78, 79, 80, 81, 82, 83, 84] → τ.2.1 i = σ.2.1 i := fun i hi => hf.2.1 i (by simpa using List.all_eq_true.mp d2 i hi)
  rw [y_TT_e SD, y_Un_e SD]
  unfold y_TT at h ⊢
  rw [V 47 (by simp), V 48 (by simp), A 77 (by simp), A 78 (by simp), A 79 (by simp), A 80 (by simp), A 81 (by simp), A 82 (by simp), A 83 (by simp), A 84 (by simp)]
  exact h
set_option maxHeartbeats 16000000 in
theorem K_X13_treeOf {n1 : Int} {σ : S0} (hT : m_T σ) (p1 : 0 ≤ n1) (p2 : n1 < (σ.1 5)) (p3 : σ.2.1 15 n1 ≤ 60) (p4 : ca (σ.2.1 12) ((σ.1 3)) ≤ (σ.1 4)) (p5 : n_J σ) (p6 : m_J σ) (p7 : (σ.1 10) < (σ.1 3)) (p8 : (σ.1 49) = 0 ∨ (y_TT σ σ (σ.1 5) (σ.1 5) ∧ y_Un σ (σ.1 5) (σ.1 48) (σ.2.1 84))) (p9 : (σ.1 51) ≤ 47000) (p10 : (σ.1 52) ≤ 88000) : W_X13_treeOf n1 σ (fun (x : Int) (τ : S0) => (m_T τ) ∧ (∃ c : Int, τ.2.1 94 = st (σ.2.1 94) n1 c ∧ y_Ti σ n1 c ∧ (x = -1 ↔ ¬ c = 1)) ∧ (¬ (τ.1 49) = 0 ∧ y_TT τ τ (σ.1 5) (σ.1 5) ∧ y_Un τ (σ.1 5) (τ.1 48) (τ.2.1 84)) ∧ ((σ.1 51) ≤ (τ.1 51) ∧ (τ.1 51) ≤ (σ.1 51) + 11700) ∧ ((σ.1 52) ≤ (τ.1 52) ∧ (τ.1 52) ≤ (σ.1 52) + 11700) ∧ (∀ y : Int, y < (σ.1 51) → (τ.2.1 86 y = σ.2.1 86 y ∧ τ.2.1 87 y = σ.2.1 87 y) ∧ τ.2.1 88 y = σ.2.1 88 y ∧ τ.2.1 89 y = σ.2.1 89 y ∧ τ.2.1 90 y = σ.2.1 90 y) ∧ (∀ e : Int, e < (σ.1 52) → τ.2.1 91 e = σ.2.1 91 e) ∧ (x = -1 → (τ.1 51) = (σ.1 51) ∧ (τ.1 52) = (σ.1 52)) ∧ (¬ x = -1 → x = (σ.1 51) ∧ (σ.1 51) < (τ.1 51)) ∧ (¬ x = -1 → ∃ ρ : Int → Int → Int → Int, y_TC ρ τ) ∧ (¬ x = -1 → ∀ y : Int, (σ.1 51) ≤ y → y < (τ.1 51) → y_c0 τ (τ.2.1 90 y) (τ.2.1 88 y) (τ.2.1 89 y)) ∧ (¬ x = -1 → ∀ y : Int, (σ.1 51) ≤ y → y < (τ.1 51) → y_nd τ (τ.2.1 86) (τ.2.1 87) (τ.2.1 91) (τ.2.1 88) (τ.2.1 89) (τ.2.1 90) y (y + 1) (τ.1 51) (τ.1 52)) ∧ (¬ x = -1 → τ.2.1 90 (σ.1 51) = τ.2.1 71 (y_rt σ n1) ∧ τ.2.1 88 (σ.1 51) = 0 ∧ τ.2.1 89 (σ.1 51) = σ.2.1 15 n1 - 1) ∧ (¬ x = -1 → 0 ≤ y_rt σ n1 ∧ y_rt σ n1 < (σ.1 3)) ∧ (¬ x = -1 → (τ.1 50) = n1 ∧ (τ.1 45) = σ.2.1 15 n1 - 1 ∧ 1 < σ.2.1 15 n1) ∧ (¬ x = -1 → ∀ k : Int, 0 ≤ k → k < (σ.2.1 15 n1 - 1) → τ.2.1 72 k = σ.2.1 16 (σ.2.1 14 n1 + 1 + k) ∧ τ.2.1 74 k = σ.2.1 17 (σ.2.1 14 n1 + 1 + k) ∧ ((σ.2.1 17 (σ.2.1 14 n1 + 1 + k) = -1 ∧ τ.2.1 73 k = -1) ∨ (¬ σ.2.1 17 (σ.2.1 14 n1 + 1 + k) = -1 ∧ τ.2.1 73 k = τ.2.1 71 (σ.2.1 16 (σ.2.1 14 (σ.2.1 17 (σ.2.1 14 n1 + 1 + k)))))))) := by
  have A8 : ∀ j, 0 ≤ σ.2.1 8 j ∧ σ.2.1 8 j ≤ 1 := fun j => hT.2 8 j
  have A10 : ∀ j, (-1) ≤ σ.2.1 10 j ∧ σ.2.1 10 j ≤ 999 := fun j => hT.2 10 j
  have A12 : ∀ j, 0 ≤ σ.2.1 12 j ∧ σ.2.1 12 j ≤ 1 := fun j => hT.2 12 j
  have A13 : ∀ j, 0 ≤ σ.2.1 13 j ∧ σ.2.1 13 j ≤ 4 := fun j => hT.2 13 j
  have A14 : ∀ j, 0 ≤ σ.2.1 14 j ∧ σ.2.1 14 j ≤ 30000 := fun j => hT.2 14 j
  have A15 : ∀ j, 0 ≤ σ.2.1 15 j ∧ σ.2.1 15 j ≤ 300 := fun j => hT.2 15 j
  have A16 : ∀ j, 0 ≤ σ.2.1 16 j ∧ σ.2.1 16 j ≤ 999 := fun j => hT.2 16 j
  have A17 : ∀ j, (-1) ≤ σ.2.1 17 j ∧ σ.2.1 17 j ≤ 1499 := fun j => hT.2 17 j
  have A18 : ∀ j, 0 ≤ σ.2.1 18 j ∧ σ.2.1 18 j ≤ 90000 := fun j => hT.2 18 j
  have A19 : ∀ j, 0 ≤ σ.2.1 19 j ∧ σ.2.1 19 j ≤ 60 := fun j => hT.2 19 j
  have A20 : ∀ j, 0 ≤ σ.2.1 20 j ∧ σ.2.1 20 j ≤ 1499 := fun j => hT.2 20 j
  have A71 : ∀ j, (-1) ≤ σ.2.1 71 j ∧ σ.2.1 71 j ≤ 99 := fun j => hT.2 71 j
  have A72 : ∀ j, 0 ≤ σ.2.1 72 j ∧ σ.2.1 72 j ≤ 999 := fun j => hT.2 72 j
  have A73 : ∀ j, (-1) ≤ σ.2.1 73 j ∧ σ.2.1 73 j ≤ 99 := fun j => hT.2 73 j
  have A74 : ∀ j, (-1) ≤ σ.2.1 74 j ∧ σ.2.1 74 j ≤ 1499 := fun j => hT.2 74 j
  have A75 : ∀ j, 0 ≤ σ.2.1 75 j ∧ σ.2.1 75 j ≤ 3 := fun j => hT.2 75 j
  have A76 : ∀ j, (-1) ≤ σ.2.1 76 j ∧ σ.2.1 76 j ≤ 1499 := fun j => hT.2 76 j
  have A86 : ∀ j, (-1500) ≤ σ.2.1 86 j ∧ σ.2.1 86 j ≤ 1499 := fun j => hT.2 86 j
  have A87 : ∀ j, 0 ≤ σ.2.1 87 j ∧ σ.2.1 87 j ≤ 120000 := fun j => hT.2 87 j
  have A88 : ∀ j, 0 ≤ σ.2.1 88 j ∧ σ.2.1 88 j ≤ 59 := fun j => hT.2 88 j
  have A89 : ∀ j, 0 ≤ σ.2.1 89 j ∧ σ.2.1 89 j ≤ 59 := fun j => hT.2 89 j
  have A90 : ∀ j, (-1) ≤ σ.2.1 90 j ∧ σ.2.1 90 j ≤ 99 := fun j => hT.2 90 j
  have A91 : ∀ j, 0 ≤ σ.2.1 91 j ∧ σ.2.1 91 j ≤ 60000 := fun j => hT.2 91 j
  have A94 : ∀ j, (-1) ≤ σ.2.1 94 j ∧ σ.2.1 94 j ≤ 2 := fun j => hT.2 94 j
  have v3 : 0 ≤ σ.1 3 ∧ σ.1 3 ≤ 1000 := hT.1 3
  have v4 : 0 ≤ σ.1 4 ∧ σ.1 4 ≤ 100 := hT.1 4
  have v5 : 0 ≤ σ.1 5 ∧ σ.1 5 ≤ 1500 := hT.1 5
  have v10 : (-1) ≤ σ.1 10 ∧ σ.1 10 ≤ 999 := hT.1 10
  have v11 : (-1) ≤ σ.1 11 ∧ σ.1 11 ≤ 999 := hT.1 11
  have v45 : 0 ≤ σ.1 45 ∧ σ.1 45 ≤ 59 := hT.1 45
  have v46 : 0 ≤ σ.1 46 ∧ σ.1 46 ≤ 100 := hT.1 46
  have v48 : 0 ≤ σ.1 48 ∧ σ.1 48 ≤ 1500 := hT.1 48
  have v49 : 0 ≤ σ.1 49 ∧ σ.1 49 ≤ 1 := hT.1 49
  have v50 : 0 ≤ σ.1 50 ∧ σ.1 50 ≤ 1500 := hT.1 50
  have v51 : 0 ≤ σ.1 51 ∧ σ.1 51 ≤ 60000 := hT.1 51
  have v52 : 0 ≤ σ.1 52 ∧ σ.1 52 ≤ 120000 := hT.1 52
  have a8_10 : 0 ≤ σ.2.1 8 (σ.1 10) ∧ σ.2.1 8 (σ.1 10) ≤ 1 := hT.2 8 _
  have a71_10 : (-1) ≤ σ.2.1 71 (σ.1 10) ∧ σ.2.1 71 (σ.1 10) ≤ 99 := hT.2 71 _
  have a88_51 : 0 ≤ σ.2.1 88 (σ.1 51) ∧ σ.2.1 88 (σ.1 51) ≤ 59 := hT.2 88 _
  have a89_51 : 0 ≤ σ.2.1 89 (σ.1 51) ∧ σ.2.1 89 (σ.1 51) ≤ 59 := hT.2 89 _
  have a90_51 : (-1) ≤ σ.2.1 90 (σ.1 51) ∧ σ.2.1 90 (σ.1 51) ≤ 99 := hT.2 90 _
  have W3 : σ.1 3 = σ.1 3 := rfl
  have W4 : σ.1 4 = σ.1 4 := rfl
  have W5 : σ.1 5 = σ.1 5 := rfl
  have W10 : σ.1 10 = σ.1 10 := rfl
  have W11 : σ.1 11 = σ.1 11 := rfl
  have G8 : σ.2.1 8 = σ.2.1 8 := rfl
  have G10 : σ.2.1 10 = σ.2.1 10 := rfl
  have G12 : σ.2.1 12 = σ.2.1 12 := rfl
  have G13 : σ.2.1 13 = σ.2.1 13 := rfl
  have G14 : σ.2.1 14 = σ.2.1 14 := rfl
  have G15 : σ.2.1 15 = σ.2.1 15 := rfl
  have G16 : σ.2.1 16 = σ.2.1 16 := rfl
  have G17 : σ.2.1 17 = σ.2.1 17 := rfl
  have G18 : σ.2.1 18 = σ.2.1 18 := rfl
  have G19 : σ.2.1 19 = σ.2.1 19 := rfl
  have G20 : σ.2.1 20 = σ.2.1 20 := rfl
  have na := (p5 n1 p1 p2).1
  have f16 : 0 ≤ σ.2.1 16 (σ.2.1 14 n1) := (hT.2 16 _).1
  have fsy := (na.2.2 (σ.2.1 14 n1) (Int.le_refl _) (by have w := na.1.1; omega)).1
  have hTσ := hT
  have a14 := A14 n1
  have na1 := na.1.1
  have Y20 : ca (σ.2.1 12) ((σ.1 3)) ≤ (σ.1 4) := p4
  have Y20_0 := Y20
  unfold W_X13_treeOf
  refine ⟨_, K_X13_takeStatement hT (show 0 ≤ n1 from by (first | omega | (simp only [st_s] <;> omega) | assumption | omega | fail)) (show n1 < (σ.1 5) from by (first | omega | (simp only [st_s] <;> omega) | assumption | omega | fail)) (show σ.2.1 15 n1 ≤ 60 from by (first | omega | (simp only [st_s] <;> omega) | assumption | omega | fail)) (show 1 ≤ σ.2.1 15 n1 from by (first | omega | (simp only [st_s] <;> omega) | assumption | omega | fail)) (show ca (σ.2.1 12) ((σ.1 3)) ≤ (σ.1 4) from Y20), ?_⟩
  intro τ3 hn_τ3 hf_τ3 hq
  obtain ⟨hT, q1_1, q1_2, q1_3⟩ := hq
  replace q1_1 : y_so (σ.1 3) (σ.1 11) (τ3.1 46) (σ.2.1 12) (σ.2.1 8) (τ3.2.1 71) := q1_1
  replace q1_2 : (τ3.1 45) = σ.2.1 15 n1 - 1 := q1_2
  replace q1_3 : ∀ k : Int, 0 ≤ k → k < (σ.2.1 15 n1 - 1) → τ3.2.1 72 k = σ.2.1 16 (σ.2.1 14 n1 + 1 + k) ∧ τ3.2.1 74 k = σ.2.1 17 (σ.2.1 14 n1 + 1 + k) ∧ ((σ.2.1 17 (σ.2.1 14 n1 + 1 + k) = -1 ∧ τ3.2.1 73 k = -1) ∨ (¬ σ.2.1 17 (σ.2.1 14 n1 + 1 + k) = -1 ∧ τ3.2.1 73 k = τ3.2.1 71 (σ.2.1 16 (σ.2.1 14 (σ.2.1 17 (σ.2.1 14 n1 + 1 + k)))))) := q1_3
  have w3_τ3 : τ3.1 3 = σ.1 3 := hf_τ3.1 3 (by decide)
  have w4_τ3 : τ3.1 4 = σ.1 4 := hf_τ3.1 4 (by decide)
  have w5_τ3 : τ3.1 5 = σ.1 5 := hf_τ3.1 5 (by decide)
  have w10_τ3 : τ3.1 10 = σ.1 10 := hf_τ3.1 10 (by decide)
  have w11_τ3 : τ3.1 11 = σ.1 11 := hf_τ3.1 11 (by decide)
  have w48_τ3 : τ3.1 48 = σ.1 48 := hf_τ3.1 48 (by decide)
  have w49_τ3 : τ3.1 49 = σ.1 49 := hf_τ3.1 49 (by decide)
  have w50_τ3 : τ3.1 50 = σ.1 50 := hf_τ3.1 50 (by decide)
  have w51_τ3 : τ3.1 51 = σ.1 51 := hf_τ3.1 51 (by decide)
  have w52_τ3 : τ3.1 52 = σ.1 52 := hf_τ3.1 52 (by decide)
  have g8_τ3 : τ3.2.1 8 = σ.2.1 8 := hf_τ3.2.1 8 (by decide)
  have g10_τ3 : τ3.2.1 10 = σ.2.1 10 := hf_τ3.2.1 10 (by decide)
  have g12_τ3 : τ3.2.1 12 = σ.2.1 12 := hf_τ3.2.1 12 (by decide)
  have g13_τ3 : τ3.2.1 13 = σ.2.1 13 := hf_τ3.2.1 13 (by decide)
  have g14_τ3 : τ3.2.1 14 = σ.2.1 14 := hf_τ3.2.1 14 (by decide)
  have g15_τ3 : τ3.2.1 15 = σ.2.1 15 := hf_τ3.2.1 15 (by decide)
  have g16_τ3 : τ3.2.1 16 = σ.2.1 16 := hf_τ3.2.1 16 (by decide)
  have g17_τ3 : τ3.2.1 17 = σ.2.1 17 := hf_τ3.2.1 17 (by decide)
  have g18_τ3 : τ3.2.1 18 = σ.2.1 18 := hf_τ3.2.1 18 (by decide)
  have g19_τ3 : τ3.2.1 19 = σ.2.1 19 := hf_τ3.2.1 19 (by decide)
  have g20_τ3 : τ3.2.1 20 = σ.2.1 20 := hf_τ3.2.1 20 (by decide)
  have g75_τ3 : τ3.2.1 75 = σ.2.1 75 := hf_τ3.2.1 75 (by decide)
  have g76_τ3 : τ3.2.1 76 = σ.2.1 76 := hf_τ3.2.1 76 (by decide)
  have g86_τ3 : τ3.2.1 86 = σ.2.1 86 := hf_τ3.2.1 86 (by decide)
  have g87_τ3 : τ3.2.1 87 = σ.2.1 87 := hf_τ3.2.1 87 (by decide)
  have g88_τ3 : τ3.2.1 88 = σ.2.1 88 := hf_τ3.2.1 88 (by decide)
  have g89_τ3 : τ3.2.1 89 = σ.2.1 89 := hf_τ3.2.1 89 (by decide)
  have g90_τ3 : τ3.2.1 90 = σ.2.1 90 := hf_τ3.2.1 90 (by decide)
  have g91_τ3 : τ3.2.1 91 = σ.2.1 91 := hf_τ3.2.1 91 (by decide)
  have g94_τ3 : τ3.2.1 94 = σ.2.1 94 := hf_τ3.2.1 94 (by decide)
  have W3 : τ3.1 3 = σ.1 3 := by first | exact w3_τ3.trans W3 | omega
  have W4 : τ3.1 4 = σ.1 4 := by first | exact w4_τ3.trans W4 | omega
  have W5 : τ3.1 5 = σ.1 5 := by first | exact w5_τ3.trans W5 | omega
  have W10 : τ3.1 10 = σ.1 10 := by first | exact w10_τ3.trans W10 | omega
  have W11 : τ3.1 11 = σ.1 11 := by first | exact w11_τ3.trans W11 | omega
  have G8 : τ3.2.1 8 = σ.2.1 8 := (g8_τ3).trans G8
  have G10 : τ3.2.1 10 = σ.2.1 10 := (g10_τ3).trans G10
  have G12 : τ3.2.1 12 = σ.2.1 12 := (g12_τ3).trans G12
  have G13 : τ3.2.1 13 = σ.2.1 13 := (g13_τ3).trans G13
  have G14 : τ3.2.1 14 = σ.2.1 14 := (g14_τ3).trans G14
  have G15 : τ3.2.1 15 = σ.2.1 15 := (g15_τ3).trans G15
  have G16 : τ3.2.1 16 = σ.2.1 16 := (g16_τ3).trans G16
  have G17 : τ3.2.1 17 = σ.2.1 17 := (g17_τ3).trans G17
  have G18 : τ3.2.1 18 = σ.2.1 18 := (g18_τ3).trans G18
  have G19 : τ3.2.1 19 = σ.2.1 19 := (g19_τ3).trans G19
  have G20 : τ3.2.1 20 = σ.2.1 20 := (g20_τ3).trans G20
  have y8_10_τ3 : τ3.2.1 8 (τ3.1 10) = (σ.2.1 8) (σ.1 10) := by rw [g8_τ3, w10_τ3]
  have y88_51_τ3 : τ3.2.1 88 (τ3.1 51) = (σ.2.1 88) (σ.1 51) := by rw [g88_τ3, w51_τ3]
  have y89_51_τ3 : τ3.2.1 89 (τ3.1 51) = (σ.2.1 89) (σ.1 51) := by rw [g89_τ3, w51_τ3]
  have y90_51_τ3 : τ3.2.1 90 (τ3.1 51) = (σ.2.1 90) (σ.1 51) := by rw [g90_τ3, w51_τ3]
  have Y20 : ca (τ3.2.1 12) ((τ3.1 3)) ≤ (τ3.1 4) := by rw [show (ca (τ3.2.1 12) ((τ3.1 3)) ≤ (τ3.1 4)) = (ca (σ.2.1 12) ((σ.1 3)) ≤ (σ.1 4)) from by rw [w3_τ3, w4_τ3, g12_τ3]]; exact Y20
  have A8 : ∀ j, 0 ≤ τ3.2.1 8 j ∧ τ3.2.1 8 j ≤ 1 := fun j => hT.2 8 j
  have A10 : ∀ j, (-1) ≤ τ3.2.1 10 j ∧ τ3.2.1 10 j ≤ 999 := fun j => hT.2 10 j
  have A12 : ∀ j, 0 ≤ τ3.2.1 12 j ∧ τ3.2.1 12 j ≤ 1 := fun j => hT.2 12 j
  have A13 : ∀ j, 0 ≤ τ3.2.1 13 j ∧ τ3.2.1 13 j ≤ 4 := fun j => hT.2 13 j
  have A14 : ∀ j, 0 ≤ τ3.2.1 14 j ∧ τ3.2.1 14 j ≤ 30000 := fun j => hT.2 14 j
  have A15 : ∀ j, 0 ≤ τ3.2.1 15 j ∧ τ3.2.1 15 j ≤ 300 := fun j => hT.2 15 j
  have A16 : ∀ j, 0 ≤ τ3.2.1 16 j ∧ τ3.2.1 16 j ≤ 999 := fun j => hT.2 16 j
  have A17 : ∀ j, (-1) ≤ τ3.2.1 17 j ∧ τ3.2.1 17 j ≤ 1499 := fun j => hT.2 17 j
  have A18 : ∀ j, 0 ≤ τ3.2.1 18 j ∧ τ3.2.1 18 j ≤ 90000 := fun j => hT.2 18 j
  have A19 : ∀ j, 0 ≤ τ3.2.1 19 j ∧ τ3.2.1 19 j ≤ 60 := fun j => hT.2 19 j
  have A20 : ∀ j, 0 ≤ τ3.2.1 20 j ∧ τ3.2.1 20 j ≤ 1499 := fun j => hT.2 20 j
  have A71 : ∀ j, (-1) ≤ τ3.2.1 71 j ∧ τ3.2.1 71 j ≤ 99 := fun j => hT.2 71 j
  have A72 : ∀ j, 0 ≤ τ3.2.1 72 j ∧ τ3.2.1 72 j ≤ 999 := fun j => hT.2 72 j
  have A73 : ∀ j, (-1) ≤ τ3.2.1 73 j ∧ τ3.2.1 73 j ≤ 99 := fun j => hT.2 73 j
  have A74 : ∀ j, (-1) ≤ τ3.2.1 74 j ∧ τ3.2.1 74 j ≤ 1499 := fun j => hT.2 74 j
  have A75 : ∀ j, 0 ≤ τ3.2.1 75 j ∧ τ3.2.1 75 j ≤ 3 := fun j => hT.2 75 j
  have A76 : ∀ j, (-1) ≤ τ3.2.1 76 j ∧ τ3.2.1 76 j ≤ 1499 := fun j => hT.2 76 j
  have A86 : ∀ j, (-1500) ≤ τ3.2.1 86 j ∧ τ3.2.1 86 j ≤ 1499 := fun j => hT.2 86 j
  have A87 : ∀ j, 0 ≤ τ3.2.1 87 j ∧ τ3.2.1 87 j ≤ 120000 := fun j => hT.2 87 j
  have A88 : ∀ j, 0 ≤ τ3.2.1 88 j ∧ τ3.2.1 88 j ≤ 59 := fun j => hT.2 88 j
  have A89 : ∀ j, 0 ≤ τ3.2.1 89 j ∧ τ3.2.1 89 j ≤ 59 := fun j => hT.2 89 j
  have A90 : ∀ j, (-1) ≤ τ3.2.1 90 j ∧ τ3.2.1 90 j ≤ 99 := fun j => hT.2 90 j
  have A91 : ∀ j, 0 ≤ τ3.2.1 91 j ∧ τ3.2.1 91 j ≤ 60000 := fun j => hT.2 91 j
  have A94 : ∀ j, (-1) ≤ τ3.2.1 94 j ∧ τ3.2.1 94 j ≤ 2 := fun j => hT.2 94 j
  have v3 : 0 ≤ τ3.1 3 ∧ τ3.1 3 ≤ 1000 := hT.1 3
  have v4 : 0 ≤ τ3.1 4 ∧ τ3.1 4 ≤ 100 := hT.1 4
  have v5 : 0 ≤ τ3.1 5 ∧ τ3.1 5 ≤ 1500 := hT.1 5
  have v10 : (-1) ≤ τ3.1 10 ∧ τ3.1 10 ≤ 999 := hT.1 10
  have v11 : (-1) ≤ τ3.1 11 ∧ τ3.1 11 ≤ 999 := hT.1 11
  have v45 : 0 ≤ τ3.1 45 ∧ τ3.1 45 ≤ 59 := hT.1 45
  have v46 : 0 ≤ τ3.1 46 ∧ τ3.1 46 ≤ 100 := hT.1 46
  have v48 : 0 ≤ τ3.1 48 ∧ τ3.1 48 ≤ 1500 := hT.1 48
  have v49 : 0 ≤ τ3.1 49 ∧ τ3.1 49 ≤ 1 := hT.1 49
  have v50 : 0 ≤ τ3.1 50 ∧ τ3.1 50 ≤ 1500 := hT.1 50
  have v51 : 0 ≤ τ3.1 51 ∧ τ3.1 51 ≤ 60000 := hT.1 51
  have v52 : 0 ≤ τ3.1 52 ∧ τ3.1 52 ≤ 120000 := hT.1 52
  have a8_10 : 0 ≤ τ3.2.1 8 (τ3.1 10) ∧ τ3.2.1 8 (τ3.1 10) ≤ 1 := hT.2 8 _
  have a71_10 : (-1) ≤ τ3.2.1 71 (τ3.1 10) ∧ τ3.2.1 71 (τ3.1 10) ≤ 99 := hT.2 71 _
  have a88_51 : 0 ≤ τ3.2.1 88 (τ3.1 51) ∧ τ3.2.1 88 (τ3.1 51) ≤ 59 := hT.2 88 _
  have a89_51 : 0 ≤ τ3.2.1 89 (τ3.1 51) ∧ τ3.2.1 89 (τ3.1 51) ≤ 59 := hT.2 89 _
  have a90_51 : (-1) ≤ τ3.2.1 90 (τ3.1 51) ∧ τ3.2.1 90 (τ3.1 51) ≤ 99 := hT.2 90 _
  have SD3 : y_SD σ τ3 := y_SD_h hf_τ3 rfl rfl
  have J3 : n_J τ3 := n_J_hh p5 hf_τ3 rfl rfl
  have M3 : m_J τ3 := m_J_f p6 hf_τ3 rfl rfl
  have soS := y_soS q1_1
  have so3 : y_so (τ3.1 3) (τ3.1 11) (τ3.1 46) (τ3.2.1 12) (τ3.2.1 8) (τ3.2.1 71) := by (rw [w3_τ3, w11_τ3, g12_τ3, g8_τ3]; exact q1_1)
  have tT3 : ∀ s : Int, -1 ≤ τ3.2.1 71 s := fun s => (hT.2 71 s).1
  have LS3 := y_LS (τ := τ3) p5 hTσ p1 p2 tT3 q1_3
  have LK3 := y_LK (τ := τ3) hTσ q1_3
  have tr3 : τ3.1 49 = 0 ∨ (y_TT τ3 τ3 (τ3.1 5) (τ3.1 5) ∧ y_Un τ3 (τ3.1 5) (τ3.1 48) (τ3.2.1 84)) := by (rw [w49_τ3, w5_τ3]; rcases p8 with z | z; (exact Or.inl z); (exact Or.inr (y_tr_h SD3 hf_τ3 rfl rfl z)))
  refine ⟨(show 0 ≤ n1 ∧ n1 < 1501 from by (first | omega | (simp only [st_s] <;> omega) | assumption | omega | fail)), ?_⟩
  intro x5 r_x5 e_x5
  have b_x5 : 0 ≤ x5 ∧ x5 ≤ 30000 := by rw [e_x5]; exact hT.2 14 _
  rw [g14_τ3] at e_x5
  refine ⟨(show 0 ≤ x5 ∧ x5 < 30400 from by (first | omega | (simp only [st_s] <;> omega) | assumption | omega | fail)), ?_⟩
  intro x7 r_x7 e_x7
  have b_x7 : 0 ≤ x7 ∧ x7 ≤ 999 := by rw [e_x7]; exact hT.2 16 _
  rw [g16_τ3] at e_x7
  have f7 : x7 = σ.2.1 16 (σ.2.1 14 n1) := by rw [e_x7, e_x5]
  refine ⟨_, K_X13_treeSort hT (show 0 ≤ x7 from by (first | omega | (simp only [st_s] <;> omega) | assumption | omega | fail)) (show x7 < 1001 from by (first | omega | (simp only [st_s] <;> omega) | assumption | omega | fail)), ?_⟩
  intro x9 r_x9 hq
  obtain ⟨q8_1, q8_2, q8_3, q8_4⟩ := hq
  replace q8_1 : -1 ≤ x9 ∧ x9 ≤ 99 := q8_1
  replace q8_2 : τ3.2.1 8 x7 = 0 → ¬ x7 = (τ3.1 11) → x9 = τ3.2.1 71 x7 := q8_2
  replace q8_3 : x7 = (τ3.1 11) → τ3.2.1 8 x7 = 0 → 0 ≤ (τ3.1 10) → τ3.2.1 8 (τ3.1 10) = 0 → x9 = τ3.2.1 71 (τ3.1 10) := q8_3
  replace q8_4 : 0 ≤ x9 → (¬ x7 = (τ3.1 11) ∧ τ3.2.1 8 x7 = 0 ∧ x9 = τ3.2.1 71 x7) ∨ (x7 = (τ3.1 11) ∧ τ3.2.1 8 x7 = 0 ∧ 0 ≤ (τ3.1 10) ∧ τ3.2.1 8 (τ3.1 10) = 0 ∧ x9 = τ3.2.1 71 (τ3.1 10)) := q8_4
  rw [g8_τ3] at q8_2 q8_3 q8_4
  rw [f7] at q8_2 q8_3 q8_4
  rw [w11_τ3] at q8_2 q8_3 q8_4
  rw [w10_τ3] at q8_3 q8_4
  have hR := y_hR (τ := τ3) p5 hTσ p1 p2 p7 (by omega) q8_2 (fun a b c d => q8_3 a b c d) q8_4
  have x9s : x9 < τ3.1 46 := by (rcases hR with z | z; (have w := hT.1 46; have w1 : 0 ≤ τ3.1 46 := w.1; omega); (have w := soS _ z.2.1.1 z.2.1.2 (by omega); omega))
  refine ⟨_, K_X13_countWays hT (show -1 ≤ x9 ∧ x9 < (τ3.1 46) from by (first | omega | (simp only [st_s] <;> omega) | assumption | omega | fail)) (show 0 ≤ n1 ∧ n1 ≤ (τ3.1 5) from by (rw [w5_τ3]; omega)) (show (τ3.1 49) = 0 ∨ (y_TT τ3 τ3 (τ3.1 5) (τ3.1 5) ∧ y_Un τ3 (τ3.1 5) (τ3.1 48) (τ3.2.1 84)) from by exact tr3) (show y_so (τ3.1 3) (τ3.1 11) (τ3.1 46) (τ3.2.1 12) (τ3.2.1 8) (τ3.2.1 71) from by exact so3) (show ∀ k : Int, 0 ≤ k → k < (τ3.1 45) → τ3.2.1 73 k = -1 ∨ (0 ≤ τ3.2.1 73 k ∧ ∃ t : Int, (0 ≤ t ∧ t < (τ3.1 3)) ∧ τ3.2.1 71 t = τ3.2.1 73 k) from by (rw [q1_2, w3_τ3]; exact LS3)) (show n_J τ3 from by exact J3) (show m_J τ3 from by exact M3), ?_⟩
  intro x12 τ13 r_x12 hn_τ13 hf_τ13 hq
  obtain ⟨hT, q11_1, q11_2, q11_3, q11_4, q11_5, q11_6⟩ := hq
  replace q11_1 : y_QD τ13 := q11_1
  replace q11_2 : ¬ (τ13.1 49) = 0 := q11_2
  replace q11_3 : (τ13.1 50) = n1 := q11_3
  replace q11_4 : y_GD τ3 (τ13.2.1 75) (τ13.2.1 76) n1 (-1) (0) := q11_4
  replace q11_5 : x9 = -1 ∨ (τ3.1 45) = 0 → x12 = 0 := q11_5
  replace q11_6 : 0 ≤ x9 → 0 < (τ3.1 45) → x12 = τ13.2.1 75 ((x9 * 61 + 0) * 61 + (τ3.1 45)) := q11_6
  have w3_τ13 : τ13.1 3 = τ3.1 3 := hf_τ13.1 3 (by decide)
  have w4_τ13 : τ13.1 4 = τ3.1 4 := hf_τ13.1 4 (by decide)
  have w5_τ13 : τ13.1 5 = τ3.1 5 := hf_τ13.1 5 (by decide)
  have w10_τ13 : τ13.1 10 = τ3.1 10 := hf_τ13.1 10 (by decide)
  have w11_τ13 : τ13.1 11 = τ3.1 11 := hf_τ13.1 11 (by decide)
  have w45_τ13 : τ13.1 45 = τ3.1 45 := hf_τ13.1 45 (by decide)
  have w46_τ13 : τ13.1 46 = τ3.1 46 := hf_τ13.1 46 (by decide)
  have w51_τ13 : τ13.1 51 = τ3.1 51 := hf_τ13.1 51 (by decide)
  have w52_τ13 : τ13.1 52 = τ3.1 52 := hf_τ13.1 52 (by decide)
  have g8_τ13 : τ13.2.1 8 = τ3.2.1 8 := hf_τ13.2.1 8 (by decide)
  have g10_τ13 : τ13.2.1 10 = τ3.2.1 10 := hf_τ13.2.1 10 (by decide)
  have g12_τ13 : τ13.2.1 12 = τ3.2.1 12 := hf_τ13.2.1 12 (by decide)
  have g13_τ13 : τ13.2.1 13 = τ3.2.1 13 := hf_τ13.2.1 13 (by decide)
  have g14_τ13 : τ13.2.1 14 = τ3.2.1 14 := hf_τ13.2.1 14 (by decide)
  have g15_τ13 : τ13.2.1 15 = τ3.2.1 15 := hf_τ13.2.1 15 (by decide)
  have g16_τ13 : τ13.2.1 16 = τ3.2.1 16 := hf_τ13.2.1 16 (by decide)
  have g17_τ13 : τ13.2.1 17 = τ3.2.1 17 := hf_τ13.2.1 17 (by decide)
  have g18_τ13 : τ13.2.1 18 = τ3.2.1 18 := hf_τ13.2.1 18 (by decide)
  have g19_τ13 : τ13.2.1 19 = τ3.2.1 19 := hf_τ13.2.1 19 (by decide)
  have g20_τ13 : τ13.2.1 20 = τ3.2.1 20 := hf_τ13.2.1 20 (by decide)
  have g71_τ13 : τ13.2.1 71 = τ3.2.1 71 := hf_τ13.2.1 71 (by decide)
  have g72_τ13 : τ13.2.1 72 = τ3.2.1 72 := hf_τ13.2.1 72 (by decide)
  have g73_τ13 : τ13.2.1 73 = τ3.2.1 73 := hf_τ13.2.1 73 (by decide)
  have g74_τ13 : τ13.2.1 74 = τ3.2.1 74 := hf_τ13.2.1 74 (by decide)
  have g86_τ13 : τ13.2.1 86 = τ3.2.1 86 := hf_τ13.2.1 86 (by decide)
  have g87_τ13 : τ13.2.1 87 = τ3.2.1 87 := hf_τ13.2.1 87 (by decide)
  have g88_τ13 : τ13.2.1 88 = τ3.2.1 88 := hf_τ13.2.1 88 (by decide)
  have g89_τ13 : τ13.2.1 89 = τ3.2.1 89 := hf_τ13.2.1 89 (by decide)
  have g90_τ13 : τ13.2.1 90 = τ3.2.1 90 := hf_τ13.2.1 90 (by decide)
  have g91_τ13 : τ13.2.1 91 = τ3.2.1 91 := hf_τ13.2.1 91 (by decide)
  have g94_τ13 : τ13.2.1 94 = τ3.2.1 94 := hf_τ13.2.1 94 (by decide)
  have W3 : τ13.1 3 = σ.1 3 := by first | exact w3_τ13.trans W3 | omega
  have W4 : τ13.1 4 = σ.1 4 := by first | exact w4_τ13.trans W4 | omega
  have W5 : τ13.1 5 = σ.1 5 := by first | exact w5_τ13.trans W5 | omega
  have W10 : τ13.1 10 = σ.1 10 := by first | exact w10_τ13.trans W10 | omega
  have W11 : τ13.1 11 = σ.1 11 := by first | exact w11_τ13.trans W11 | omega
  have G8 : τ13.2.1 8 = σ.2.1 8 := (g8_τ13).trans G8
  have G10 : τ13.2.1 10 = σ.2.1 10 := (g10_τ13).trans G10
  have G12 : τ13.2.1 12 = σ.2.1 12 := (g12_τ13).trans G12
  have G13 : τ13.2.1 13 = σ.2.1 13 := (g13_τ13).trans G13
  have G14 : τ13.2.1 14 = σ.2.1 14 := (g14_τ13).trans G14
  have G15 : τ13.2.1 15 = σ.2.1 15 := (g15_τ13).trans G15
  have G16 : τ13.2.1 16 = σ.2.1 16 := (g16_τ13).trans G16
  have G17 : τ13.2.1 17 = σ.2.1 17 := (g17_τ13).trans G17
  have G18 : τ13.2.1 18 = σ.2.1 18 := (g18_τ13).trans G18
  have G19 : τ13.2.1 19 = σ.2.1 19 := (g19_τ13).trans G19
  have G20 : τ13.2.1 20 = σ.2.1 20 := (g20_τ13).trans G20
  have y8_10_τ13 : τ13.2.1 8 (τ13.1 10) = (τ3.2.1 8) (τ3.1 10) := by rw [g8_τ13, w10_τ13]
  have y71_10_τ13 : τ13.2.1 71 (τ13.1 10) = (τ3.2.1 71) (τ3.1 10) := by rw [g71_τ13, w10_τ13]
  have y88_51_τ13 : τ13.2.1 88 (τ13.1 51) = (τ3.2.1 88) (τ3.1 51) := by rw [g88_τ13, w51_τ13]
  have y89_51_τ13 : τ13.2.1 89 (τ13.1 51) = (τ3.2.1 89) (τ3.1 51) := by rw [g89_τ13, w51_τ13]
  have y90_51_τ13 : τ13.2.1 90 (τ13.1 51) = (τ3.2.1 90) (τ3.1 51) := by rw [g90_τ13, w51_τ13]
  have Y20 : ca (τ13.2.1 12) ((τ13.1 3)) ≤ (τ13.1 4) := by rw [show (ca (τ13.2.1 12) ((τ13.1 3)) ≤ (τ13.1 4)) = (ca (τ3.2.1 12) ((τ3.1 3)) ≤ (τ3.1 4)) from by rw [w3_τ13, w4_τ13, g12_τ13]]; exact Y20
  have A8 : ∀ j, 0 ≤ τ13.2.1 8 j ∧ τ13.2.1 8 j ≤ 1 := fun j => hT.2 8 j
  have A10 : ∀ j, (-1) ≤ τ13.2.1 10 j ∧ τ13.2.1 10 j ≤ 999 := fun j => hT.2 10 j
  have A12 : ∀ j, 0 ≤ τ13.2.1 12 j ∧ τ13.2.1 12 j ≤ 1 := fun j => hT.2 12 j
  have A13 : ∀ j, 0 ≤ τ13.2.1 13 j ∧ τ13.2.1 13 j ≤ 4 := fun j => hT.2 13 j
  have A14 : ∀ j, 0 ≤ τ13.2.1 14 j ∧ τ13.2.1 14 j ≤ 30000 := fun j => hT.2 14 j
  have A15 : ∀ j, 0 ≤ τ13.2.1 15 j ∧ τ13.2.1 15 j ≤ 300 := fun j => hT.2 15 j
  have A16 : ∀ j, 0 ≤ τ13.2.1 16 j ∧ τ13.2.1 16 j ≤ 999 := fun j => hT.2 16 j
  have A17 : ∀ j, (-1) ≤ τ13.2.1 17 j ∧ τ13.2.1 17 j ≤ 1499 := fun j => hT.2 17 j
  have A18 : ∀ j, 0 ≤ τ13.2.1 18 j ∧ τ13.2.1 18 j ≤ 90000 := fun j => hT.2 18 j
  have A19 : ∀ j, 0 ≤ τ13.2.1 19 j ∧ τ13.2.1 19 j ≤ 60 := fun j => hT.2 19 j
  have A20 : ∀ j, 0 ≤ τ13.2.1 20 j ∧ τ13.2.1 20 j ≤ 1499 := fun j => hT.2 20 j
  have A71 : ∀ j, (-1) ≤ τ13.2.1 71 j ∧ τ13.2.1 71 j ≤ 99 := fun j => hT.2 71 j
  have A72 : ∀ j, 0 ≤ τ13.2.1 72 j ∧ τ13.2.1 72 j ≤ 999 := fun j => hT.2 72 j
  have A73 : ∀ j, (-1) ≤ τ13.2.1 73 j ∧ τ13.2.1 73 j ≤ 99 := fun j => hT.2 73 j
  have A74 : ∀ j, (-1) ≤ τ13.2.1 74 j ∧ τ13.2.1 74 j ≤ 1499 := fun j => hT.2 74 j
  have A75 : ∀ j, 0 ≤ τ13.2.1 75 j ∧ τ13.2.1 75 j ≤ 3 := fun j => hT.2 75 j
  have A76 : ∀ j, (-1) ≤ τ13.2.1 76 j ∧ τ13.2.1 76 j ≤ 1499 := fun j => hT.2 76 j
  have A86 : ∀ j, (-1500) ≤ τ13.2.1 86 j ∧ τ13.2.1 86 j ≤ 1499 := fun j => hT.2 86 j
  have A87 : ∀ j, 0 ≤ τ13.2.1 87 j ∧ τ13.2.1 87 j ≤ 120000 := fun j => hT.2 87 j
  have A88 : ∀ j, 0 ≤ τ13.2.1 88 j ∧ τ13.2.1 88 j ≤ 59 := fun j => hT.2 88 j
  have A89 : ∀ j, 0 ≤ τ13.2.1 89 j ∧ τ13.2.1 89 j ≤ 59 := fun j => hT.2 89 j
  have A90 : ∀ j, (-1) ≤ τ13.2.1 90 j ∧ τ13.2.1 90 j ≤ 99 := fun j => hT.2 90 j
  have A91 : ∀ j, 0 ≤ τ13.2.1 91 j ∧ τ13.2.1 91 j ≤ 60000 := fun j => hT.2 91 j
  have A94 : ∀ j, (-1) ≤ τ13.2.1 94 j ∧ τ13.2.1 94 j ≤ 2 := fun j => hT.2 94 j
  have v3 : 0 ≤ τ13.1 3 ∧ τ13.1 3 ≤ 1000 := hT.1 3
  have v4 : 0 ≤ τ13.1 4 ∧ τ13.1 4 ≤ 100 := hT.1 4
  have v5 : 0 ≤ τ13.1 5 ∧ τ13.1 5 ≤ 1500 := hT.1 5
  have v10 : (-1) ≤ τ13.1 10 ∧ τ13.1 10 ≤ 999 := hT.1 10
  have v11 : (-1) ≤ τ13.1 11 ∧ τ13.1 11 ≤ 999 := hT.1 11
  have v45 : 0 ≤ τ13.1 45 ∧ τ13.1 45 ≤ 59 := hT.1 45
  have v46 : 0 ≤ τ13.1 46 ∧ τ13.1 46 ≤ 100 := hT.1 46
  have v48 : 0 ≤ τ13.1 48 ∧ τ13.1 48 ≤ 1500 := hT.1 48
  have v49 : 0 ≤ τ13.1 49 ∧ τ13.1 49 ≤ 1 := hT.1 49
  have v50 : 0 ≤ τ13.1 50 ∧ τ13.1 50 ≤ 1500 := hT.1 50
  have v51 : 0 ≤ τ13.1 51 ∧ τ13.1 51 ≤ 60000 := hT.1 51
  have v52 : 0 ≤ τ13.1 52 ∧ τ13.1 52 ≤ 120000 := hT.1 52
  have a8_10 : 0 ≤ τ13.2.1 8 (τ13.1 10) ∧ τ13.2.1 8 (τ13.1 10) ≤ 1 := hT.2 8 _
  have a71_10 : (-1) ≤ τ13.2.1 71 (τ13.1 10) ∧ τ13.2.1 71 (τ13.1 10) ≤ 99 := hT.2 71 _
  have a88_51 : 0 ≤ τ13.2.1 88 (τ13.1 51) ∧ τ13.2.1 88 (τ13.1 51) ≤ 59 := hT.2 88 _
  have a89_51 : 0 ≤ τ13.2.1 89 (τ13.1 51) ∧ τ13.2.1 89 (τ13.1 51) ≤ 59 := hT.2 89 _
  have a90_51 : (-1) ≤ τ13.2.1 90 (τ13.1 51) ∧ τ13.2.1 90 (τ13.1 51) ≤ 99 := hT.2 90 _
  have SD13 : y_SD τ3 τ13 := y_SD_h hf_τ13 rfl rfl
  have J13 : n_J τ13 := n_J_hh J3 hf_τ13 rfl rfl
  have M13 : m_J τ13 := m_J_f M3 hf_τ13 rfl rfl
  have TI := y_Ti_mk (τ := τ3) p5 hTσ p1 p2 SD3 w3_τ3 q1_1 q1_2 q1_3 p7 (by omega) q8_2 (fun a b c d => q8_3 a b c d) q8_4 q11_4 q11_5 q11_6
  have x12r := TI.1.1
  replace hT := mT_a (k := 94) (j := n1) hT (show (-1 : Int) ≤ x12 ∧ x12 ≤ 2 from by (first | omega | (simp only [st_s] <;> omega) | assumption | omega | fail))
  refine ⟨fun c14 => ?_, fun c14 => ?_⟩
  ·
    exact ⟨hT, (show ∃ c : Int, (st (τ13.2.1 94) n1 x12) = st (σ.2.1 94) n1 c ∧ y_Ti σ n1 c ∧ ((-1) = -1 ↔ ¬ c = 1) from by (first | exact ⟨x12, by rw [g94_τ13, g94_τ3], TI.1, by omega⟩ | exact ⟨x12, by rw [g94_τ17, g94_τ13, g94_τ3], TI.1, by omega⟩ | fail)), (show ¬ (τ13.1 49) = 0 ∧ y_TT (s_a τ13 94 n1 x12) (s_a τ13 94 n1 x12) (σ.1 5) (σ.1 5) ∧ y_Un (s_a τ13 94 n1 x12) (σ.1 5) (τ13.1 48) (τ13.2.1 84) from by (first | (rw [← w5_τ3, ← w5_τ13]; exact ⟨q11_2, q11_1.1, q11_1.2.1⟩) | (rw [← w5_τ3, ← w5_τ13, ← w5_τ17]; exact ⟨by omega, QD17.1, QD17.2.1⟩) | fail)), (show (σ.1 51) ≤ (τ13.1 51) ∧ (τ13.1 51) ≤ (σ.1 51) + 11700 from by (first | omega | (simp only [st_s] <;> omega) | assumption | omega | fail)), (show (σ.1 52) ≤ (τ13.1 52) ∧ (τ13.1 52) ≤ (σ.1 52) + 11700 from by (first | omega | (simp only [st_s] <;> omega) | assumption | omega | fail)), (show ∀ y : Int, y < (σ.1 51) → (τ13.2.1 86 y = σ.2.1 86 y ∧ τ13.2.1 87 y = σ.2.1 87 y) ∧ τ13.2.1 88 y = σ.2.1 88 y ∧ τ13.2.1 89 y = σ.2.1 89 y ∧ τ13.2.1 90 y = σ.2.1 90 y from by (first | (intro y a; have w := q15_4 y (by omega); rw [w.1.1, w.1.2, w.2.1, w.2.2.1, w.2.2.2, g86_τ13, g87_τ13, g88_τ13, g89_τ13, g90_τ13, g86_τ3, g87_τ3, g88_τ3, g89_τ3, g90_τ3]; exact ⟨⟨rfl, rfl⟩, rfl, rfl, rfl⟩) | (intro y a; rw [g86_τ13, g87_τ13, g88_τ13, g89_τ13, g90_τ13, g86_τ3, g87_τ3, g88_τ3, g89_τ3, g90_τ3]; exact ⟨⟨rfl, rfl⟩, rfl, rfl, rfl⟩) | fail)), (show ∀ e : Int, e < (σ.1 52) → τ13.2.1 91 e = σ.2.1 91 e from by (first | (intro e a; rw [q15_5 e (by omega), g91_τ13, g91_τ3]) | (intro e a; rw [g91_τ13, g91_τ3]) | fail)), (show (-1) = -1 → (τ13.1 51) = (σ.1 51) ∧ (τ13.1 52) = (σ.1 52) from by (first | omega | (simp only [st_s] <;> omega) | assumption | omega | fail)), (show ¬ (-1) = -1 → (-1) = (σ.1 51) ∧ (σ.1 51) < (τ13.1 51) from by (first | omega | (simp only [st_s] <;> omega) | assumption | omega | fail)), (show ¬ (-1) = -1 → ∃ ρ : Int → Int → Int → Int, y_TC ρ (s_a τ13 94 n1 x12) from by (first | (intro z; exfalso; omega) | exact fun _ => ⟨ρ, TC17⟩ | fail)), (show ¬ (-1) = -1 → ∀ y : Int, (σ.1 51) ≤ y → y < (τ13.1 51) → y_c0 (s_a τ13 94 n1 x12) (τ13.2.1 90 y) (τ13.2.1 88 y) (τ13.2.1 89 y) from by (first | (intro z; exfalso; omega) | (intro _ y a b; rw [td1]; exact q15_6 y (by omega) b) | fail)), (show ¬ (-1) = -1 → ∀ y : Int, (σ.1 51) ≤ y → y < (τ13.1 51) → y_nd (s_a τ13 94 n1 x12) (τ13.2.1 86) (τ13.2.1 87) (τ13.2.1 91) (τ13.2.1 88) (τ13.2.1 89) (τ13.2.1 90) y (y + 1) (τ13.1 51) (τ13.1 52) from by (first | (intro z; exfalso; omega) | (intro _ y a b; rw [td3]; exact q15_7 y (by omega) b) | fail)), (show ¬ (-1) = -1 → τ13.2.1 90 (σ.1 51) = τ13.2.1 71 (y_rt σ n1) ∧ τ13.2.1 88 (σ.1 51) = 0 ∧ τ13.2.1 89 (σ.1 51) = σ.2.1 15 n1 - 1 from by (first | (intro z; exfalso; omega) | (intro _; rw [show σ.1 51 = τ13.1 51 from by omega, q15_8.1, q15_8.2.1, q15_8.2.2, g71_τ17, g71_τ13, TI2.2.1]; exact ⟨rfl, rfl, by omega⟩) | fail)), (show ¬ (-1) = -1 → 0 ≤ y_rt σ n1 ∧ y_rt σ n1 < (σ.1 3) from by (first | (intro z; exfalso; omega) | (intro _; exact rr) | fail)), (show ¬ (-1) = -1 → (τ13.1 50) = n1 ∧ (τ13.1 45) = σ.2.1 15 n1 - 1 ∧ 1 < σ.2.1 15 n1 from by (first | (intro z; exfalso; omega) | (intro _; have w := TI2.1; exact ⟨by omega, by omega, by omega⟩) | fail)), (show ¬ (-1) = -1 → ∀ k : Int, 0 ≤ k → k < (σ.2.1 15 n1 - 1) → τ13.2.1 72 k = σ.2.1 16 (σ.2.1 14 n1 + 1 + k) ∧ τ13.2.1 74 k = σ.2.1 17 (σ.2.1 14 n1 + 1 + k) ∧ ((σ.2.1 17 (σ.2.1 14 n1 + 1 + k) = -1 ∧ τ13.2.1 73 k = -1) ∨ (¬ σ.2.1 17 (σ.2.1 14 n1 + 1 + k) = -1 ∧ τ13.2.1 73 k = τ13.2.1 71 (σ.2.1 16 (σ.2.1 14 (σ.2.1 17 (σ.2.1 14 n1 + 1 + k)))))) from by (first | (intro z; exfalso; omega) | (intro _; rw [g71_τ17, g72_τ17, g73_τ17, g74_τ17, g71_τ13, g72_τ13, g73_τ13, g74_τ13]; exact q1_3) | fail))⟩
  ·
    have QD2 : y_QD (s_a τ13 94 n1 x12) := q11_1
    have TI2 := TI.2 (by omega)
    have gd2 : y_GD τ3 ((s_a τ13 94 n1 x12).2.1 75) ((s_a τ13 94 n1 x12).2.1 76) n1 (-1) 0 := q11_4
    have SD2 : y_SD τ3 (s_a τ13 94 n1 x12) := SD13
    have J2 : n_J (s_a τ13 94 n1 x12) := J13
    have M2 : m_J (s_a τ13 94 n1 x12) := M13
    obtain ⟨ρ, TC⟩ := y_TC_mk (σ := τ3) (τ := s_a τ13 94 n1 x12) (i := n1) QD2 SD2 J2 M2 q11_3 p1 (by show n1 ≤ τ13.1 5; omega) w3_τ13 w45_τ13 g71_τ13 g72_τ13 g73_τ13 gd2
    have c02 : y_c0 (s_a τ13 94 n1 x12) x9 0 (τ13.1 45) := ⟨⟨Int.le_refl _, by (rw [w45_τ13]; exact TI2.1), Int.le_refl _⟩, y_rt σ n1, by (show τ13.2.1 71 _ = _; rw [g71_τ13]; exact TI2.2.1), by (show y_W1 (τ13.1 3) (τ13.2.1 71) (τ13.2.1 75) _ _ _; rw [w3_τ13, g71_τ13, w45_τ13]; exact TI2.2.2.1), by (show ¬ y_W2 (τ13.1 3) (τ13.2.1 71) (τ13.2.1 75) _ _ _; rw [w3_τ13, g71_τ13, w45_τ13]; exact TI2.2.2.2 (by omega))⟩
    refine ⟨_, K_X13_makeTree hT (show y_TC ρ (s_a τ13 94 n1 x12) from by exact TC) (show (τ13.1 51) ≤ 47000 from by (first | omega | (simp only [st_s] <;> omega) | assumption | omega | fail)) (show (τ13.1 52) ≤ 88000 from by (first | omega | (simp only [st_s] <;> omega) | assumption | omega | fail)) (show y_c0 (s_a τ13 94 n1 x12) x9 0 (τ13.1 45) from by exact c02) (show ∀ k : Int, 0 ≤ k → k < (τ13.1 45) → ¬ τ13.2.1 73 k = -1 → 0 ≤ τ13.2.1 74 k from by (rw [w45_τ13, q1_2]; show ∀ k : Int, 0 ≤ k → k < σ.2.1 15 n1 - 1 → ¬ τ13.2.1 73 k = -1 → 0 ≤ τ13.2.1 74 k; rw [g73_τ13, g74_τ13]; exact LK3)), ?_⟩
    intro x16 τ17 r_x16 hn_τ17 hf_τ17 hq
    obtain ⟨hT, q15_1, q15_2, q15_3, q15_4, q15_5, q15_6, q15_7, q15_8⟩ := hq
    replace q15_1 : x16 = (τ13.1 51) := q15_1
    replace q15_2 : (τ13.1 51) < (τ17.1 51) ∧ (τ17.1 51) ≤ (τ13.1 51) + 11700 := q15_2
    replace q15_3 : (τ13.1 52) ≤ (τ17.1 52) ∧ (τ17.1 52) ≤ (τ13.1 52) + 11700 := q15_3
    replace q15_4 : ∀ y : Int, y < (τ13.1 51) → (τ17.2.1 86 y = τ13.2.1 86 y ∧ τ17.2.1 87 y = τ13.2.1 87 y) ∧ τ17.2.1 88 y = τ13.2.1 88 y ∧ τ17.2.1 89 y = τ13.2.1 89 y ∧ τ17.2.1 90 y = τ13.2.1 90 y := q15_4
    replace q15_5 : ∀ e : Int, e < (τ13.1 52) → τ17.2.1 91 e = τ13.2.1 91 e := q15_5
    replace q15_6 : ∀ y : Int, (τ13.1 51) ≤ y → y < (τ17.1 51) → y_c0 (s_a τ13 94 n1 x12) (τ17.2.1 90 y) (τ17.2.1 88 y) (τ17.2.1 89 y) := q15_6
    replace q15_7 : ∀ y : Int, (τ13.1 51) ≤ y → y < (τ17.1 51) → y_nd (s_a τ13 94 n1 x12) (τ17.2.1 86) (τ17.2.1 87) (τ17.2.1 91) (τ17.2.1 88) (τ17.2.1 89) (τ17.2.1 90) y (y + 1) (τ17.1 51) (τ17.1 52) := q15_7
    replace q15_8 : τ17.2.1 90 (τ13.1 51) = x9 ∧ τ17.2.1 88 (τ13.1 51) = 0 ∧ τ17.2.1 89 (τ13.1 51) = (τ13.1 45) := q15_8
    have w3_τ17 : τ17.1 3 = τ13.1 3 := hf_τ17.1 3 (by decide)
    have w4_τ17 : τ17.1 4 = τ13.1 4 := hf_τ17.1 4 (by decide)
    have w5_τ17 : τ17.1 5 = τ13.1 5 := hf_τ17.1 5 (by decide)
    have w10_τ17 : τ17.1 10 = τ13.1 10 := hf_τ17.1 10 (by decide)
    have w11_τ17 : τ17.1 11 = τ13.1 11 := hf_τ17.1 11 (by decide)
    have w45_τ17 : τ17.1 45 = τ13.1 45 := hf_τ17.1 45 (by decide)
    have w46_τ17 : τ17.1 46 = τ13.1 46 := hf_τ17.1 46 (by decide)
    have w48_τ17 : τ17.1 48 = τ13.1 48 := hf_τ17.1 48 (by decide)
    have w49_τ17 : τ17.1 49 = τ13.1 49 := hf_τ17.1 49 (by decide)
    have w50_τ17 : τ17.1 50 = τ13.1 50 := hf_τ17.1 50 (by decide)
    have g8_τ17 : τ17.2.1 8 = τ13.2.1 8 := hf_τ17.2.1 8 (by decide)
    have g10_τ17 : τ17.2.1 10 = τ13.2.1 10 := hf_τ17.2.1 10 (by decide)
    have g12_τ17 : τ17.2.1 12 = τ13.2.1 12 := hf_τ17.2.1 12 (by decide)
    have g13_τ17 : τ17.2.1 13 = τ13.2.1 13 := hf_τ17.2.1 13 (by decide)
    have g14_τ17 : τ17.2.1 14 = τ13.2.1 14 := hf_τ17.2.1 14 (by decide)
    have g15_τ17 : τ17.2.1 15 = τ13.2.1 15 := hf_τ17.2.1 15 (by decide)
    have g16_τ17 : τ17.2.1 16 = τ13.2.1 16 := hf_τ17.2.1 16 (by decide)
    have g17_τ17 : τ17.2.1 17 = τ13.2.1 17 := hf_τ17.2.1 17 (by decide)
    have g18_τ17 : τ17.2.1 18 = τ13.2.1 18 := hf_τ17.2.1 18 (by decide)
    have g19_τ17 : τ17.2.1 19 = τ13.2.1 19 := hf_τ17.2.1 19 (by decide)
    have g20_τ17 : τ17.2.1 20 = τ13.2.1 20 := hf_τ17.2.1 20 (by decide)
    have g71_τ17 : τ17.2.1 71 = τ13.2.1 71 := hf_τ17.2.1 71 (by decide)
    have g72_τ17 : τ17.2.1 72 = τ13.2.1 72 := hf_τ17.2.1 72 (by decide)
    have g73_τ17 : τ17.2.1 73 = τ13.2.1 73 := hf_τ17.2.1 73 (by decide)
    have g74_τ17 : τ17.2.1 74 = τ13.2.1 74 := hf_τ17.2.1 74 (by decide)
    have g75_τ17 : τ17.2.1 75 = τ13.2.1 75 := hf_τ17.2.1 75 (by decide)
    have g76_τ17 : τ17.2.1 76 = τ13.2.1 76 := hf_τ17.2.1 76 (by decide)
    have g94_τ17 : τ17.2.1 94 = (st (τ13.2.1 94) n1 x12) := hf_τ17.2.1 94 (by decide)
    have W3 : τ17.1 3 = σ.1 3 := by first | exact w3_τ17.trans W3 | omega
    have W4 : τ17.1 4 = σ.1 4 := by first | exact w4_τ17.trans W4 | omega
    have W5 : τ17.1 5 = σ.1 5 := by first | exact w5_τ17.trans W5 | omega
    have W10 : τ17.1 10 = σ.1 10 := by first | exact w10_τ17.trans W10 | omega
    have W11 : τ17.1 11 = σ.1 11 := by first | exact w11_τ17.trans W11 | omega
    have G8 : τ17.2.1 8 = σ.2.1 8 := (g8_τ17).trans G8
    have G10 : τ17.2.1 10 = σ.2.1 10 := (g10_τ17).trans G10
    have G12 : τ17.2.1 12 = σ.2.1 12 := (g12_τ17).trans G12
    have G13 : τ17.2.1 13 = σ.2.1 13 := (g13_τ17).trans G13
    have G14 : τ17.2.1 14 = σ.2.1 14 := (g14_τ17).trans G14
    have G15 : τ17.2.1 15 = σ.2.1 15 := (g15_τ17).trans G15
    have G16 : τ17.2.1 16 = σ.2.1 16 := (g16_τ17).trans G16
    have G17 : τ17.2.1 17 = σ.2.1 17 := (g17_τ17).trans G17
    have G18 : τ17.2.1 18 = σ.2.1 18 := (g18_τ17).trans G18
    have G19 : τ17.2.1 19 = σ.2.1 19 := (g19_τ17).trans G19
    have G20 : τ17.2.1 20 = σ.2.1 20 := (g20_τ17).trans G20
    have y8_10_τ17 : τ17.2.1 8 (τ17.1 10) = (τ13.2.1 8) (τ13.1 10) := by rw [g8_τ17, w10_τ17]
    have y71_10_τ17 : τ17.2.1 71 (τ17.1 10) = (τ13.2.1 71) (τ13.1 10) := by rw [g71_τ17, w10_τ17]
    have Y20 : ca (τ17.2.1 12) ((τ17.1 3)) ≤ (τ17.1 4) := by rw [show (ca (τ17.2.1 12) ((τ17.1 3)) ≤ (τ17.1 4)) = (ca (τ13.2.1 12) ((τ13.1 3)) ≤ (τ13.1 4)) from by rw [w3_τ17, w4_τ17, g12_τ17]]; exact Y20
    have A8 : ∀ j, 0 ≤ τ17.2.1 8 j ∧ τ17.2.1 8 j ≤ 1 := fun j => hT.2 8 j
    have A10 : ∀ j, (-1) ≤ τ17.2.1 10 j ∧ τ17.2.1 10 j ≤ 999 := fun j => hT.2 10 j
    have A12 : ∀ j, 0 ≤ τ17.2.1 12 j ∧ τ17.2.1 12 j ≤ 1 := fun j => hT.2 12 j
    have A13 : ∀ j, 0 ≤ τ17.2.1 13 j ∧ τ17.2.1 13 j ≤ 4 := fun j => hT.2 13 j
    have A14 : ∀ j, 0 ≤ τ17.2.1 14 j ∧ τ17.2.1 14 j ≤ 30000 := fun j => hT.2 14 j
    have A15 : ∀ j, 0 ≤ τ17.2.1 15 j ∧ τ17.2.1 15 j ≤ 300 := fun j => hT.2 15 j
    have A16 : ∀ j, 0 ≤ τ17.2.1 16 j ∧ τ17.2.1 16 j ≤ 999 := fun j => hT.2 16 j
    have A17 : ∀ j, (-1) ≤ τ17.2.1 17 j ∧ τ17.2.1 17 j ≤ 1499 := fun j => hT.2 17 j
    have A18 : ∀ j, 0 ≤ τ17.2.1 18 j ∧ τ17.2.1 18 j ≤ 90000 := fun j => hT.2 18 j
    have A19 : ∀ j, 0 ≤ τ17.2.1 19 j ∧ τ17.2.1 19 j ≤ 60 := fun j => hT.2 19 j
    have A20 : ∀ j, 0 ≤ τ17.2.1 20 j ∧ τ17.2.1 20 j ≤ 1499 := fun j => hT.2 20 j
    have A71 : ∀ j, (-1) ≤ τ17.2.1 71 j ∧ τ17.2.1 71 j ≤ 99 := fun j => hT.2 71 j
    have A72 : ∀ j, 0 ≤ τ17.2.1 72 j ∧ τ17.2.1 72 j ≤ 999 := fun j => hT.2 72 j
    have A73 : ∀ j, (-1) ≤ τ17.2.1 73 j ∧ τ17.2.1 73 j ≤ 99 := fun j => hT.2 73 j
    have A74 : ∀ j, (-1) ≤ τ17.2.1 74 j ∧ τ17.2.1 74 j ≤ 1499 := fun j => hT.2 74 j
    have A75 : ∀ j, 0 ≤ τ17.2.1 75 j ∧ τ17.2.1 75 j ≤ 3 := fun j => hT.2 75 j
    have A76 : ∀ j, (-1) ≤ τ17.2.1 76 j ∧ τ17.2.1 76 j ≤ 1499 := fun j => hT.2 76 j
    have A86 : ∀ j, (-1500) ≤ τ17.2.1 86 j ∧ τ17.2.1 86 j ≤ 1499 := fun j => hT.2 86 j
    have A87 : ∀ j, 0 ≤ τ17.2.1 87 j ∧ τ17.2.1 87 j ≤ 120000 := fun j => hT.2 87 j
    have A88 : ∀ j, 0 ≤ τ17.2.1 88 j ∧ τ17.2.1 88 j ≤ 59 := fun j => hT.2 88 j
    have A89 : ∀ j, 0 ≤ τ17.2.1 89 j ∧ τ17.2.1 89 j ≤ 59 := fun j => hT.2 89 j
    have A90 : ∀ j, (-1) ≤ τ17.2.1 90 j ∧ τ17.2.1 90 j ≤ 99 := fun j => hT.2 90 j
    have A91 : ∀ j, 0 ≤ τ17.2.1 91 j ∧ τ17.2.1 91 j ≤ 60000 := fun j => hT.2 91 j
    have A94 : ∀ j, (-1) ≤ τ17.2.1 94 j ∧ τ17.2.1 94 j ≤ 2 := fun j => hT.2 94 j
    have v3 : 0 ≤ τ17.1 3 ∧ τ17.1 3 ≤ 1000 := hT.1 3
    have v4 : 0 ≤ τ17.1 4 ∧ τ17.1 4 ≤ 100 := hT.1 4
    have v5 : 0 ≤ τ17.1 5 ∧ τ17.1 5 ≤ 1500 := hT.1 5
    have v10 : (-1) ≤ τ17.1 10 ∧ τ17.1 10 ≤ 999 := hT.1 10
    have v11 : (-1) ≤ τ17.1 11 ∧ τ17.1 11 ≤ 999 := hT.1 11
    have v45 : 0 ≤ τ17.1 45 ∧ τ17.1 45 ≤ 59 := hT.1 45
    have v46 : 0 ≤ τ17.1 46 ∧ τ17.1 46 ≤ 100 := hT.1 46
    have v48 : 0 ≤ τ17.1 48 ∧ τ17.1 48 ≤ 1500 := hT.1 48
    have v49 : 0 ≤ τ17.1 49 ∧ τ17.1 49 ≤ 1 := hT.1 49
    have v50 : 0 ≤ τ17.1 50 ∧ τ17.1 50 ≤ 1500 := hT.1 50
    have v51 : 0 ≤ τ17.1 51 ∧ τ17.1 51 ≤ 60000 := hT.1 51
    have v52 : 0 ≤ τ17.1 52 ∧ τ17.1 52 ≤ 120000 := hT.1 52
    have a8_10 : 0 ≤ τ17.2.1 8 (τ17.1 10) ∧ τ17.2.1 8 (τ17.1 10) ≤ 1 := hT.2 8 _
    have a71_10 : (-1) ≤ τ17.2.1 71 (τ17.1 10) ∧ τ17.2.1 71 (τ17.1 10) ≤ 99 := hT.2 71 _
    have a88_51 : 0 ≤ τ17.2.1 88 (τ17.1 51) ∧ τ17.2.1 88 (τ17.1 51) ≤ 59 := hT.2 88 _
    have a89_51 : 0 ≤ τ17.2.1 89 (τ17.1 51) ∧ τ17.2.1 89 (τ17.1 51) ≤ 59 := hT.2 89 _
    have a90_51 : (-1) ≤ τ17.2.1 90 (τ17.1 51) ∧ τ17.2.1 90 (τ17.1 51) ≤ 99 := hT.2 90 _
    have TD := y_TD_h hf_τ17 rfl rfl
    obtain ⟨td1, td2, td3, td4⟩ := y_TD_e TD ρ
    have QD17 := y_QD_h QD2 hf_τ17 rfl rfl
    have TC17 : y_TC ρ τ17 := y_TC_h TC hf_τ17 rfl rfl (n_J_hh J2 hf_τ17 rfl rfl) (m_J_f M2 hf_τ17 rfl rfl)
    have rr : 0 ≤ y_rt σ n1 ∧ y_rt σ n1 < σ.1 3 := by (rcases hR with z | z; (exfalso; have w := TI2.2.2.1.1.2.2; rw [TI2.2.1] at w; omega); (exact z.2.1))
    exact ⟨hT, (show ∃ c : Int, τ17.2.1 94 = st (σ.2.1 94) n1 c ∧ y_Ti σ n1 c ∧ (x16 = -1 ↔ ¬ c = 1) from by (first | exact ⟨x12, by rw [g94_τ13, g94_τ3], TI.1, by omega⟩ | exact ⟨x12, by rw [g94_τ17, g94_τ13, g94_τ3], TI.1, by omega⟩ | fail)), (show ¬ (τ17.1 49) = 0 ∧ y_TT τ17 τ17 (σ.1 5) (σ.1 5) ∧ y_Un τ17 (σ.1 5) (τ17.1 48) (τ17.2.1 84) from by (first | (rw [← w5_τ3, ← w5_τ13]; exact ⟨q11_2, q11_1.1, q11_1.2.1⟩) | (rw [← w5_τ3, ← w5_τ13, ← w5_τ17]; exact ⟨by omega, QD17.1, QD17.2.1⟩) | fail)), (show (σ.1 51) ≤ (τ17.1 51) ∧ (τ17.1 51) ≤ (σ.1 51) + 11700 from by (first | omega | (simp only [st_s] <;> omega) | assumption | omega | fail)), (show (σ.1 52) ≤ (τ17.1 52) ∧ (τ17.1 52) ≤ (σ.1 52) + 11700 from by (first | omega | (simp only [st_s] <;> omega) | assumption | omega | fail)), (show ∀ y : Int, y < (σ.1 51) → (τ17.2.1 86 y = σ.2.1 86 y ∧ τ17.2.1 87 y = σ.2.1 87 y) ∧ τ17.2.1 88 y = σ.2.1 88 y ∧ τ17.2.1 89 y = σ.2.1 89 y ∧ τ17.2.1 90 y = σ.2.1 90 y from by (first | (intro y a; have w := q15_4 y (by omega); rw [w.1.1, w.1.2, w.2.1, w.2.2.1, w.2.2.2, g86_τ13, g87_τ13, g88_τ13, g89_τ13, g90_τ13, g86_τ3, g87_τ3, g88_τ3, g89_τ3, g90_τ3]; exact ⟨⟨rfl, rfl⟩, rfl, rfl, rfl⟩) | (intro y a; rw [g86_τ13, g87_τ13, g88_τ13, g89_τ13, g90_τ13, g86_τ3, g87_τ3, g88_τ3, g89_τ3, g90_τ3]; exact ⟨⟨rfl, rfl⟩, rfl, rfl, rfl⟩) | fail)), (show ∀ e : Int, e < (σ.1 52) → τ17.2.1 91 e = σ.2.1 91 e from by (first | (intro e a; rw [q15_5 e (by omega), g91_τ13, g91_τ3]) | (intro e a; rw [g91_τ13, g91_τ3]) | fail)), (show x16 = -1 → (τ17.1 51) = (σ.1 51) ∧ (τ17.1 52) = (σ.1 52) from by (first | omega | (simp only [st_s] <;> omega) | assumption | omega | fail)), (show ¬ x16 = -1 → x16 = (σ.1 51) ∧ (σ.1 51) < (τ17.1 51) from by (first | omega | (simp only [st_s] <;> omega) | assumption | omega | fail)), (show ¬ x16 = -1 → ∃ ρ : Int → Int → Int → Int, y_TC ρ τ17 from by (first | (intro z; exfalso; omega) | exact fun _ => ⟨ρ, TC17⟩ | fail)), (show ¬ x16 = -1 → ∀ y : Int, (σ.1 51) ≤ y → y < (τ17.1 51) → y_c0 τ17 (τ17.2.1 90 y) (τ17.2.1 88 y) (τ17.2.1 89 y) from by (first | (intro z; exfalso; omega) | (intro _ y a b; rw [td1]; exact q15_6 y (by omega) b) | fail)), (show ¬ x16 = -1 → ∀ y : Int, (σ.1 51) ≤ y → y < (τ17.1 51) → y_nd τ17 (τ17.2.1 86) (τ17.2.1 87) (τ17.2.1 91) (τ17.2.1 88) (τ17.2.1 89) (τ17.2.1 90) y (y + 1) (τ17.1 51) (τ17.1 52) from by (first | (intro z; exfalso; omega) | (intro _ y a b; rw [td3]; exact q15_7 y (by omega) b) | fail)), (show ¬ x16 = -1 → τ17.2.1 90 (σ.1 51) = τ17.2.1 71 (y_rt σ n1) ∧ τ17.2.1 88 (σ.1 51) = 0 ∧ τ17.2.1 89 (σ.1 51) = σ.2.1 15 n1 - 1 from by (first | (intro z; exfalso; omega) | (intro _; rw [show σ.1 51 = τ13.1 51 from by omega, q15_8.1, q15_8.2.1, q15_8.2.2, g71_τ17, g71_τ13, TI2.2.1]; exact ⟨rfl, rfl, by omega⟩) | fail)), (show ¬ x16 = -1 → 0 ≤ y_rt σ n1 ∧ y_rt σ n1 < (σ.1 3) from by (first | (intro z; exfalso; omega) | (intro _; exact rr) | fail)), (show ¬ x16 = -1 → (τ17.1 50) = n1 ∧ (τ17.1 45) = σ.2.1 15 n1 - 1 ∧ 1 < σ.2.1 15 n1 from by (first | (intro z; exfalso; omega) | (intro _; have w := TI2.1; exact ⟨by omega, by omega, by omega⟩) | fail)), (show ¬ x16 = -1 → ∀ k : Int, 0 ≤ k → k < (σ.2.1 15 n1 - 1) → τ17.2.1 72 k = σ.2.1 16 (σ.2.1 14 n1 + 1 + k) ∧ τ17.2.1 74 k = σ.2.1 17 (σ.2.1 14 n1 + 1 + k) ∧ ((σ.2.1 17 (σ.2.1 14 n1 + 1 + k) = -1 ∧ τ17.2.1 73 k = -1) ∨ (¬ σ.2.1 17 (σ.2.1 14 n1 + 1 + k) = -1 ∧ τ17.2.1 73 k = τ17.2.1 71 (σ.2.1 16 (σ.2.1 14 (σ.2.1 17 (σ.2.1 14 n1 + 1 + k)))))) from by (first | (intro z; exfalso; omega) | (intro _; rw [g71_τ17, g72_τ17, g73_τ17, g74_τ17, g71_τ13, g72_τ13, g73_τ13, g74_τ13]; exact q1_3) | fail))⟩
