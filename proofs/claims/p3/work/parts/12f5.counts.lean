-- pure: a tree that is counted: its cells and its rules
def y_b7 (f : Int → Int64) (i r : Int) : Prop := j_b (f (24 * i + r / 64)) (r % 64)
/-- the cells of the one tree, and the rules that make them -/
def y_Zi (σ : S0) (f : Int → Int64) (i : Int) : Prop := ∃ (row ls : Int → Int) (W V : Int → Int → Int → Prop) (ρ : Int → Int → Int → Int), ((∀ k : Int, 0 ≤ k → k < σ.2.1 15 i - 1 → row k = y_rw σ i k) ∧ ∀ k : Int, 0 ≤ k → k < σ.2.1 15 i - 1 → ls k = y_lf σ i k) ∧ y_CH i (σ.2.1 15 i - 1) (y_In σ) (y_hd σ) (y_nn σ) (y_f σ) row ls W V ρ ∧ ∃ Z : Int → Int → Int → Prop, (1 < σ.2.1 15 i ∧ Z (y_rt σ i) 0 (σ.2.1 15 i - 1)) ∧ ∀ t p q : Int, Z t p q → ((0 ≤ p ∧ p < q ∧ q ≤ σ.2.1 15 i - 1) ∧ W t p q ∧ ¬ V t p q) ∧ (y_L ls t p q ∨ ∃ r : Int, y_cb i (y_In σ) (y_hd σ) t r ∧ y_b7 f i r ∧ ∃ D : Int → Int, y_wy row W (y_f σ r) p q (y_nn σ r) D ∧ ∀ m : Int, 0 ≤ m → m < y_nn σ r → y_f σ r (m + 1) < 0 → Z (-2 - y_f σ r (m + 1)) (D m) (D (m + 1)))
/-- all that is kept of trees between calls -/
def y_CT (σ : S0) : Prop := ∀ i : Int, 0 ≤ i → i < σ.1 5 → ¬ σ.2.1 94 i = -1 → σ.2.1 15 i ≤ 60 ∧ y_Ti σ i (σ.2.1 94 i) ∧ (σ.2.1 94 i = 1 → y_Zi σ (σ.2.2 7) i)
/-- a count is one only -/
theorem y_Ti_u {σ : S0} {i c d : Int} (h : y_Ti σ i c) (g : y_Ti σ i d) : c = d := by
  obtain ⟨hr, W, V, ρ, ch, h1, h2⟩ := h
  obtain ⟨gr, W', V', ρ', cg, g1, g2⟩ := g
  by_cases z : 1 < σ.2.1 15 i
  · have u := y_un (n := (σ.2.1 15 i).toNat) y_nn1 ch cg (y_rt σ i) 0 (σ.2.1 15 i - 1) (Int.le_refl _) (by omega) (Int.le_refl _) (by omega)
    rw [u.1, ← g1] at h1
    rw [u.2, ← g2] at h2
    omega
  · have a : ¬ 1 ≤ c := fun q => z (h1.mp q).1
    have b : ¬ 1 ≤ d := fun q => z (g1.mp q).1
    omega
/-- a count stands while the statements stand -/
theorem y_Ti_e {σ τ : S0} (SD : y_SD σ τ) (e10 : τ.1 10 = σ.1 10) (e17 : τ.2.1 17 = σ.2.1 17) : y_Ti τ = y_Ti σ ∧ y_Zi τ = y_Zi σ ∧ y_rt τ = y_rt σ := by
  obtain ⟨_, E2, E3, E4, E5, _, _⟩ := y_SD_e SD
  obtain ⟨e11, e8, _, _, e14, e15, e16, _, _, _⟩ := SD
  have a : y_rw τ = y_rw σ := by funext i k; unfold y_rw; rw [e14, e16]
  have b : y_lt τ = y_lt σ := by funext i k; unfold y_lt; rw [e14, e16, e17]
  have c : y_lf τ = y_lf σ := by funext i k; unfold y_lf; rw [b, e14, e17, e11]
  have d : y_rt τ = y_rt σ := by funext i; unfold y_rt; rw [e14, e16, e8, e10, e11]
  refine ⟨?_, ?_, d⟩
  · funext i k; unfold y_Ti; rw [E2, E3, E4, E5, a, c, d, e15]
  · funext f i; unfold y_Zi; rw [E2, E3, E4, E5, a, c, d, e15]
/-- a tree that is made gives its cells -/
theorem y_Zi_mk {ρ : Int → Int → Int → Int} {σ : S0} {i lo : Int} {f : Int → Int64} (TC : y_TC ρ σ) (hT : m_T σ) (i0 : 0 ≤ i) (i5 : i < σ.1 5) (l50 : σ.1 50 = i) (rs : σ.1 45 = σ.2.1 15 i - 1) (len : 1 < σ.2.1 15 i)
    (lf : ∀ k : Int, 0 ≤ k → k < σ.2.1 15 i - 1 → σ.2.1 72 k = σ.2.1 16 (σ.2.1 14 i + 1 + k) ∧ σ.2.1 74 k = σ.2.1 17 (σ.2.1 14 i + 1 + k) ∧ ((σ.2.1 17 (σ.2.1 14 i + 1 + k) = -1 ∧ σ.2.1 73 k = -1) ∨ (¬ σ.2.1 17 (σ.2.1 14 i + 1 + k) = -1 ∧ σ.2.1 73 k = σ.2.1 71 (σ.2.1 16 (σ.2.1 14 (σ.2.1 17 (σ.2.1 14 i + 1 + k)))))))
    (c0 : ∀ y : Int, lo ≤ y → y < σ.1 51 → y_c0 σ (σ.2.1 90 y) (σ.2.1 88 y) (σ.2.1 89 y)) (nd : ∀ y : Int, lo ≤ y → y < σ.1 51 → y_nd σ (σ.2.1 86) (σ.2.1 87) (σ.2.1 91) (σ.2.1 88) (σ.2.1 89) (σ.2.1 90) y (y + 1) (σ.1 51) (σ.1 52))
    (lh : lo < σ.1 51) (rt : σ.2.1 90 lo = σ.2.1 71 (y_rt σ i) ∧ σ.2.1 88 lo = 0 ∧ σ.2.1 89 lo = σ.2.1 15 i - 1) (rr : 0 ≤ y_rt σ i ∧ y_rt σ i < σ.1 3) (hb : ∀ y : Int, lo ≤ y → y < σ.1 51 → 0 ≤ σ.2.1 86 y → y_b7 f i (σ.2.1 86 y)) : y_Zi σ f i := by
  obtain ⟨⟨⟨q1, q2, so, q4, q5⟩, _, _⟩, ok, _, J, _⟩ := TC
  have inj := so.2
  have un : ∀ s t : Int, 0 ≤ s → s < σ.1 3 → 0 ≤ t → t < σ.1 3 → 0 ≤ σ.2.1 71 s → σ.2.1 71 s = σ.2.1 71 t → s = t := fun s t a b c d e g => by
    rcases Int.lt_trichotomy s t with z | z | z
    · exact absurd g (inj _ _ a z d e)
    · exact z
    · exact absurd g.symm (inj _ _ c z b (by omega))
  refine ⟨σ.2.1 72, y_ls (σ.1 3) (σ.2.1 71) (σ.2.1 73), y_Wσ σ, y_Vσ σ, ρ, ⟨fun k a b => (lf k a b).1, fun k a b => (y_el J hT i0 i5 rfl so lf k a b).symm⟩, ⟨y_W21 _ _ _, fun t p q a b c => by (have w := ok t p q a b (by omega); rw [l50] at w; exact w)⟩, fun t p q => (0 ≤ t ∧ t < σ.1 3) ∧ ∃ y : Int, (lo ≤ y ∧ y < σ.1 51) ∧ σ.2.1 71 t = σ.2.1 90 y ∧ σ.2.1 88 y = p ∧ σ.2.1 89 y = q, ⟨len, rr, lo, ⟨Int.le_refl _, lh⟩, rt.1.symm, rt.2.1, rt.2.2⟩, ?_⟩
  rintro t p q ⟨t0, y, hy, ey, ep, eq⟩
  obtain ⟨cc, t', ct, cw, cv⟩ := c0 y hy.1 hy.2
  have et : t' = t := un t' t cw.1.1 cw.1.2.1 t0.1 t0.2 cw.1.2.2 (ct.trans ey.symm)
  subst et
  rw [ep, eq] at cc cw cv
  refine ⟨⟨⟨cc.1, cc.2.1, by omega⟩, cw, cv⟩, ?_⟩
  rcases nd y hy.1 hy.2 with ⟨_, _, n3, n4⟩ | ⟨n1, n2, n3, _, D, n5, n6⟩
  · refine Or.inl ⟨by omega, t0.1, ?_⟩
    rw [ep] at n4
    unfold y_ls
    rw [n4, ← ey, if_pos cw.1.2.2]
    exact y_inv_s inj t0.1 t0.2 cw.1.2.2
  · have qq := q4 _ n1.1 (by omega) n2
    refine Or.inr ⟨σ.2.1 86 y, ⟨⟨n1.1, by omega⟩, n2, un _ _ qq.1.1 qq.1.2.1 t0.1 t0.2 qq.1.2.2 (n3.trans ey.symm)⟩, hb y hy.1 hy.2 n1.1, D, by rw [ep, eq] at n5; exact n5, fun m m0 m1 mf => ?_⟩
    obtain ⟨k, _, _, k3, k4, k5, k6⟩ := n6 m m0 m1 mf
    exact ⟨qq.2 (m + 1) (by omega) (by omega) mf, _, ⟨by omega, k3.2⟩, k4.symm, k5, k6⟩
-- pure: what is kept of trees when one more is counted
def y_TO (σ τ : S0) (n x : Int) : Prop := (∃ c : Int, τ.2.1 94 = st (σ.2.1 94) n c ∧ y_Ti σ n c ∧ (x = -1 ↔ ¬ c = 1)) ∧ (¬ τ.1 49 = 0 ∧ y_TT τ τ (σ.1 5) (σ.1 5) ∧ y_Un τ (σ.1 5) (τ.1 48) (τ.2.1 84)) ∧ (σ.1 51 ≤ τ.1 51 ∧ τ.1 51 ≤ σ.1 51 + 11700) ∧ (σ.1 52 ≤ τ.1 52 ∧ τ.1 52 ≤ σ.1 52 + 11700) ∧
  (∀ y : Int, y < σ.1 51 → (τ.2.1 86 y = σ.2.1 86 y ∧ τ.2.1 87 y = σ.2.1 87 y) ∧ τ.2.1 88 y = σ.2.1 88 y ∧ τ.2.1 89 y = σ.2.1 89 y ∧ τ.2.1 90 y = σ.2.1 90 y) ∧ (∀ e : Int, e < σ.1 52 → τ.2.1 91 e = σ.2.1 91 e) ∧
  (¬ x = -1 → (x = σ.1 51 ∧ σ.1 51 < τ.1 51) ∧ (∃ ρ : Int → Int → Int → Int, y_TC ρ τ) ∧ (∀ y : Int, σ.1 51 ≤ y → y < τ.1 51 → y_c0 τ (τ.2.1 90 y) (τ.2.1 88 y) (τ.2.1 89 y)) ∧ (∀ y : Int, σ.1 51 ≤ y → y < τ.1 51 → y_nd τ (τ.2.1 86) (τ.2.1 87) (τ.2.1 91) (τ.2.1 88) (τ.2.1 89) (τ.2.1 90) y (y + 1) (τ.1 51) (τ.1 52)) ∧
    (τ.2.1 90 (σ.1 51) = τ.2.1 71 (y_rt σ n) ∧ τ.2.1 88 (σ.1 51) = 0 ∧ τ.2.1 89 (σ.1 51) = σ.2.1 15 n - 1) ∧ (0 ≤ y_rt σ n ∧ y_rt σ n < σ.1 3) ∧ (τ.1 50 = n ∧ τ.1 45 = σ.2.1 15 n - 1 ∧ 1 < σ.2.1 15 n) ∧
    ∀ k : Int, 0 ≤ k → k < σ.2.1 15 n - 1 → τ.2.1 72 k = σ.2.1 16 (σ.2.1 14 n + 1 + k) ∧ τ.2.1 74 k = σ.2.1 17 (σ.2.1 14 n + 1 + k) ∧ ((σ.2.1 17 (σ.2.1 14 n + 1 + k) = -1 ∧ τ.2.1 73 k = -1) ∨ (¬ σ.2.1 17 (σ.2.1 14 n + 1 + k) = -1 ∧ τ.2.1 73 k = τ.2.1 71 (σ.2.1 16 (σ.2.1 14 (σ.2.1 17 (σ.2.1 14 n + 1 + k)))))))
theorem y_TO_b {σ τ : S0} {n x k : Int} {v : Int64} (h : y_TO σ τ n x) : y_TO σ (s_b τ 7 k v) n x := by
  have hf : f_r [] [] [7] τ (s_b τ 7 k v) := f_b f_0 (by simp)
  have TD := y_TD_h hf rfl rfl
  obtain ⟨h1, ⟨a, b, c⟩, h3, h4, h5, h6, h7⟩ := h
  refine ⟨h1, ⟨a, y_tr_h TD.1 hf rfl rfl ⟨b, c⟩⟩, h3, h4, h5, h6, fun z => ?_⟩
  obtain ⟨g1, ⟨ρ, g2⟩, g3, g4, g5, g6, g7, g8⟩ := h7 z
  obtain ⟨td1, _, td3, _⟩ := y_TD_e TD ρ
  refine ⟨g1, ⟨ρ, y_TC_h g2 hf rfl rfl (n_J_hh g2.2.2.2.1 hf rfl rfl) (m_J_f g2.2.2.2.2 hf rfl rfl)⟩, ?_, ?_, g5, g6, g7, g8⟩
  · rw [td1]; exact g3
  · rw [td3]; exact g4
theorem y_Zi_f {σ : S0} {f g : Int → Int64} {i : Int} (e : ∀ r : Int, 0 ≤ r → r < i → g (24 * i + r / 64) = f (24 * i + r / 64)) (h : y_Zi σ f i) : y_Zi σ g i := by
  obtain ⟨row, ls, W, V, ρ, h1, h2, Z, h3, h4⟩ := h
  refine ⟨row, ls, W, V, ρ, h1, h2, Z, h3, fun t p q z => ?_⟩
  obtain ⟨a, b | ⟨r, b, c, d⟩⟩ := h4 t p q z
  · exact ⟨a, Or.inl b⟩
  · refine ⟨a, Or.inr ⟨r, b, ?_, d⟩⟩
    unfold y_b7 at c ⊢
    rw [e r b.1.1 b.1.2]
    exact c
theorem y_CT_e {σ τ : S0} (SD : y_SD σ τ) (e5 : τ.1 5 = σ.1 5) (e10 : τ.1 10 = σ.1 10) (e17 : τ.2.1 17 = σ.2.1 17) (e94 : τ.2.1 94 = σ.2.1 94) (e7 : τ.2.2 7 = σ.2.2 7) (h : y_CT σ) : y_CT τ := by
  obtain ⟨a, b, _⟩ := y_Ti_e SD e10 e17
  unfold y_CT
  rw [e5, e94, e7, a, b, SD.2.2.2.2.2.1]
  exact h
theorem y_CT_mk {σ τ : S0} {n x : Int} (CT : y_CT σ) (TO : y_TO σ τ n x) (hT : m_T τ) (n0 : 0 ≤ n) (n5 : n < σ.1 5) (ts60 : σ.2.1 15 n ≤ 60) (SD : y_SD σ τ) (e3 : τ.1 3 = σ.1 3) (e5 : τ.1 5 = σ.1 5) (e10 : τ.1 10 = σ.1 10) (e17 : τ.2.1 17 = σ.2.1 17) (b7 : ∀ k : Int, ¬ (24 * n ≤ k ∧ k < 24 * n + 24) → τ.2.2 7 k = σ.2.2 7 k) (bits : ¬ x = -1 → ∀ y : Int, σ.1 51 ≤ y → y < τ.1 51 → 0 ≤ τ.2.1 86 y → y_b7 (τ.2.2 7) n (τ.2.1 86 y)) : y_CT τ ∧ (0 ≤ τ.2.1 94 n ∧ τ.2.1 94 n ≤ 2) := by
  obtain ⟨eT, eZ, er⟩ := y_Ti_e SD e10 e17
  obtain ⟨⟨c, c1, c2, c3⟩, _, _, _, _, _, h7⟩ := TO
  have l5 : σ.1 5 ≤ 1500 := by (have w := hT.1 5; rw [e5] at w; exact w.2)
  have d14 := SD.2.2.2.2.1
  have d15 := SD.2.2.2.2.2.1
  have d16 := SD.2.2.2.2.2.2.1
  refine ⟨fun i i0 i5 hi => ?_, by rw [c1, st_s]; exact c2.1⟩
  rw [eT, eZ, d15]
  by_cases z : i = n
  · subst z
    rw [c1, st_s]
    refine ⟨ts60, c2, fun c1' => ?_⟩
    have xn : ¬ x = -1 := fun w => c3.mp w c1'
    obtain ⟨g1, ⟨ρ, g2⟩, g3, g4, g5, g6, g7, g8⟩ := h7 xn
    rw [← eZ]
    refine y_Zi_mk g2 hT i0 i5 g7.1 (by rw [d15]; exact g7.2.1) (by rw [d15]; exact g7.2.2) ?_ g3 g4 g1.2 ?_ (by rw [er, e3]; exact g6) (bits xn)
    · rw [d14, d15, d16, e17]; exact g8
    · rw [er, d15]; exact g5
  · rw [c1, st_n _ _ z] at hi ⊢
    obtain ⟨a, b, d⟩ := CT i i0 (by omega) hi
    exact ⟨a, b, fun w => y_Zi_f (fun r r0 r1 => b7 _ (by omega)) (d w)⟩
/-- a rule's bit is set -/
theorem y_b7_s {f : Int → Int64} {n r s : Int} {v : Int64} (r0 : 0 ≤ r) (h : v = f (24 * n + r / 64) ||| j_shl 1 (r % 64)) (s0 : 0 ≤ s) (b : s = r ∨ y_b7 f n s) : y_b7 (st f (24 * n + r / 64) v) n s := by
  unfold y_b7 at b ⊢
  by_cases z : 24 * n + s / 64 = 24 * n + r / 64
  · rw [z, st_s, h, j_b_or, j_b_one (by omega) (by omega) (by omega) (by omega)]
    rcases b with b | b
    · exact Or.inr (by rw [b])
    · exact Or.inl (by rw [← z]; exact b)
  · rw [st_n _ _ z]
    rcases b with b | b
    · exact absurd (by rw [b]) z
    · exact b
set_option maxHeartbeats 16000000 in
theorem K_X13_countTrees {n1 : Int} {σ : S0} (hT : m_T σ) (p1 : 0 ≤ n1) (p2 : n1 < (σ.1 5)) (p3 : σ.2.1 15 n1 ≤ 60) (p4 : ca (σ.2.1 12) ((σ.1 3)) ≤ (σ.1 4)) (p5 : n_J σ) (p6 : m_J σ) (p7 : (σ.1 10) < (σ.1 3)) (p8 : (σ.1 49) = 0 ∨ (y_TT σ σ (σ.1 5) (σ.1 5) ∧ y_Un σ (σ.1 5) (σ.1 48) (σ.2.1 84))) (p9 : (σ.1 51) ≤ 47000) (p10 : (σ.1 52) ≤ 88000) (p11 : y_CT σ) : W_X13_countTrees n1 σ (fun (x : Int) (τ : S0) => (m_T τ) ∧ (y_CT τ) ∧ (τ.2.1 94 n1 = x ∧ 0 ≤ x ∧ x ≤ 2) ∧ (((τ.1 49) = 0 ∨ (y_TT τ τ (σ.1 5) (σ.1 5) ∧ y_Un τ (σ.1 5) (τ.1 48) (τ.2.1 84)))) ∧ ((τ.1 51) = (σ.1 51) ∧ (τ.1 52) = (σ.1 52)) ∧ (∀ y : Int, y < (σ.1 51) → (τ.2.1 86 y = σ.2.1 86 y ∧ τ.2.1 87 y = σ.2.1 87 y) ∧ τ.2.1 88 y = σ.2.1 88 y ∧ τ.2.1 89 y = σ.2.1 89 y ∧ τ.2.1 90 y = σ.2.1 90 y) ∧ (∀ e : Int, e < (σ.1 52) → τ.2.1 91 e = σ.2.1 91 e) ∧ (∀ k : Int, ¬ (24 * n1 ≤ k ∧ k < 24 * n1 + 24) → τ.2.2 7 k = σ.2.2 7 k) ∧ (∀ i : Int, ¬ i = n1 → τ.2.1 94 i = σ.2.1 94 i) ∧ (¬ σ.2.1 94 n1 = -1 → τ = σ)) := by
  have A8 : ∀ j, 0 ≤ σ.2.1 8 j ∧ σ.2.1 8 j ≤ 1 := fun j => hT.2 8 j
  have A10 : ∀ j, (-1) ≤ σ.2.1 10 j ∧ σ.2.1 10 j ≤ 999 := fun j => hT.2 10 j
  have A12 : ∀ j, 0 ≤ σ.2.1 12 j ∧ σ.2.1 12 j ≤ 1 := fun j => hT.2 12 j
  have A13 : ∀ j, 0 ≤ σ.2.1 13 j ∧ σ.2.1 13 j ≤ 4 := fun j => hT.2 13 j
  have A14 : ∀ j, 0 ≤ σ.2.1 14 j ∧ σ.2.1 14 j ≤ 30000 := fun j => hT.2 14 j
  have A15 : ∀ j, 0 ≤ σ.2.1 15 j ∧ σ.2.1 15 j ≤ 300 := fun j => hT.2 15 j
  have A16 : ∀ j, 0 ≤ σ.2.1 16 j ∧ σ.2.1 16 j ≤ 999 := fun j => hT.2 16 j
  have A17 : ∀ j, (-1) ≤ σ.2.1 17 j ∧ σ.2.1 17 j ≤ 1499 := fun j => hT.2 17 j
  have A18 : ∀ j, 0 ≤ σ.2.1 18 j ∧ σ.2.1 18 j ≤ 90000 := fun j => hT.2 18 j
  have A19 : ∀ j, 0 ≤ σ.2.1 19 j ∧ σ.2.1 19 j ≤ 60 := fun j => hT.2 19 j
  have A20 : ∀ j, 0 ≤ σ.2.1 20 j ∧ σ.2.1 20 j ≤ 1499 := fun j => hT.2 20 j
  have A86 : ∀ j, (-1500) ≤ σ.2.1 86 j ∧ σ.2.1 86 j ≤ 1499 := fun j => hT.2 86 j
  have A87 : ∀ j, 0 ≤ σ.2.1 87 j ∧ σ.2.1 87 j ≤ 120000 := fun j => hT.2 87 j
  have A88 : ∀ j, 0 ≤ σ.2.1 88 j ∧ σ.2.1 88 j ≤ 59 := fun j => hT.2 88 j
  have A89 : ∀ j, 0 ≤ σ.2.1 89 j ∧ σ.2.1 89 j ≤ 59 := fun j => hT.2 89 j
  have A90 : ∀ j, (-1) ≤ σ.2.1 90 j ∧ σ.2.1 90 j ≤ 99 := fun j => hT.2 90 j
  have A91 : ∀ j, 0 ≤ σ.2.1 91 j ∧ σ.2.1 91 j ≤ 60000 := fun j => hT.2 91 j
  have A94 : ∀ j, (-1) ≤ σ.2.1 94 j ∧ σ.2.1 94 j ≤ 2 := fun j => hT.2 94 j
  have v3 : 0 ≤ σ.1 3 ∧ σ.1 3 ≤ 1000 := hT.1 3
  have v4 : 0 ≤ σ.1 4 ∧ σ.1 4 ≤ 100 := hT.1 4
  have v5 : 0 ≤ σ.1 5 ∧ σ.1 5 ≤ 1500 := hT.1 5
  have v10 : (-1) ≤ σ.1 10 ∧ σ.1 10 ≤ 999 := hT.1 10
  have v11 : (-1) ≤ σ.1 11 ∧ σ.1 11 ≤ 999 := hT.1 11
  have v45 : 0 ≤ σ.1 45 ∧ σ.1 45 ≤ 59 := hT.1 45
  have v48 : 0 ≤ σ.1 48 ∧ σ.1 48 ≤ 1500 := hT.1 48
  have v49 : 0 ≤ σ.1 49 ∧ σ.1 49 ≤ 1 := hT.1 49
  have v50 : 0 ≤ σ.1 50 ∧ σ.1 50 ≤ 1500 := hT.1 50
  have v51 : 0 ≤ σ.1 51 ∧ σ.1 51 ≤ 60000 := hT.1 51
  have v52 : 0 ≤ σ.1 52 ∧ σ.1 52 ≤ 120000 := hT.1 52
  have a88_51 : 0 ≤ σ.2.1 88 (σ.1 51) ∧ σ.2.1 88 (σ.1 51) ≤ 59 := hT.2 88 _
  have a89_51 : 0 ≤ σ.2.1 89 (σ.1 51) ∧ σ.2.1 89 (σ.1 51) ≤ 59 := hT.2 89 _
  have a90_51 : (-1) ≤ σ.2.1 90 (σ.1 51) ∧ σ.2.1 90 (σ.1 51) ≤ 99 := hT.2 90 _
  have W3 : σ.1 3 = σ.1 3 := rfl
  have W4 : σ.1 4 = σ.1 4 := rfl
  have W5 : σ.1 5 = σ.1 5 := rfl
  have W10 : σ.1 10 = σ.1 10 := rfl
  have W11 : σ.1 11 = σ.1 11 := rfl
  have G8 : σ.2.1 8 = σ.2.1 8 := rfl
  have G10 : σ.2.1 10 = σ.2.1 10 := rfl
  have G12 : σ.2.1 12 = σ.2.1 12 := rfl
  have G13 : σ.2.1 13 = σ.2.1 13 := rfl
  have G14 : σ.2.1 14 = σ.2.1 14 := rfl
  have G15 : σ.2.1 15 = σ.2.1 15 := rfl
  have G16 : σ.2.1 16 = σ.2.1 16 := rfl
  have G17 : σ.2.1 17 = σ.2.1 17 := rfl
  have G18 : σ.2.1 18 = σ.2.1 18 := rfl
  have G19 : σ.2.1 19 = σ.2.1 19 := rfl
  have G20 : σ.2.1 20 = σ.2.1 20 := rfl
  intro P37 P66 P132 h37 h66 h132
  have hTσ := hT
  have CTn := p11 n1 p1 p2
  have Y20 : ca (σ.2.1 12) ((σ.1 3)) ≤ (σ.1 4) := p4
  have Y20_0 := Y20
  have l_66 : ∀ (m_66 : Nat) (u2_66 : Int) (u3_66 : Int) (u4_66 : Int) (u5_66 : Int) (τ_66 : S0), 60001 - u5_66 < (m_66 : Int) → (m_T τ_66) → (τ_66.1 3 = σ.1 3) → (τ_66.1 4 = σ.1 4) → (τ_66.1 5 = σ.1 5) → (τ_66.1 10 = σ.1 10) → (τ_66.1 11 = σ.1 11) → (τ_66.2.1 8 = σ.2.1 8) → (τ_66.2.1 10 = σ.2.1 10) → (τ_66.2.1 12 = σ.2.1 12) → (τ_66.2.1 13 = σ.2.1 13) → (τ_66.2.1 14 = σ.2.1 14) → (τ_66.2.1 15 = σ.2.1 15) → (τ_66.2.1 16 = σ.2.1 16) → (τ_66.2.1 17 = σ.2.1 17) → (τ_66.2.1 18 = σ.2.1 18) → (τ_66.2.1 19 = σ.2.1 19) → (τ_66.2.1 20 = σ.2.1 20) → (u2_66 = (σ.1 51) ∧ u3_66 = (σ.1 52)) → (y_TO σ τ_66 n1 u4_66) → (∀ k : Int, ¬ (24 * n1 ≤ k ∧ k < 24 * n1 + 24) → τ_66.2.2 7 k = σ.2.2 7 k) → (σ.2.1 94 n1 = -1) → ((σ.1 51) ≤ u5_66) → (u5_66 ≤ (τ_66.1 51)) → (¬ u4_66 = -1 → ∀ y : Int, (σ.1 51) ≤ y → y < u5_66 → 0 ≤ τ_66.2.1 86 y → y_b7 (τ_66.2.2 7) n1 (τ_66.2.1 86 y)) → P66 n1 u2_66 u3_66 u4_66 u5_66 τ_66 := by
    intro m_66
    induction m_66 with
    | zero =>
      intro u2_66 u3_66 u4_66 u5_66 τ_66 hm hT W3 W4 W5 W10 W11 G8 G10 G12 G13 G14 G15 G16 G17 G18 G19 G20 i66_1 i66_2 i66_3 i66_4 i66_5 i66_6 i66_7
      have A8 : ∀ j, 0 ≤ τ_66.2.1 8 j ∧ τ_66.2.1 8 j ≤ 1 := fun j => hT.2 8 j
      have A10 : ∀ j, (-1) ≤ τ_66.2.1 10 j ∧ τ_66.2.1 10 j ≤ 999 := fun j => hT.2 10 j
      have A12 : ∀ j, 0 ≤ τ_66.2.1 12 j ∧ τ_66.2.1 12 j ≤ 1 := fun j => hT.2 12 j
      have A13 : ∀ j, 0 ≤ τ_66.2.1 13 j ∧ τ_66.2.1 13 j ≤ 4 := fun j => hT.2 13 j
      have A14 : ∀ j, 0 ≤ τ_66.2.1 14 j ∧ τ_66.2.1 14 j ≤ 30000 := fun j => hT.2 14 j
      have A15 : ∀ j, 0 ≤ τ_66.2.1 15 j ∧ τ_66.2.1 15 j ≤ 300 := fun j => hT.2 15 j
      have A16 : ∀ j, 0 ≤ τ_66.2.1 16 j ∧ τ_66.2.1 16 j ≤ 999 := fun j => hT.2 16 j
      have A17 : ∀ j, (-1) ≤ τ_66.2.1 17 j ∧ τ_66.2.1 17 j ≤ 1499 := fun j => hT.2 17 j
      have A18 : ∀ j, 0 ≤ τ_66.2.1 18 j ∧ τ_66.2.1 18 j ≤ 90000 := fun j => hT.2 18 j
      have A19 : ∀ j, 0 ≤ τ_66.2.1 19 j ∧ τ_66.2.1 19 j ≤ 60 := fun j => hT.2 19 j
      have A20 : ∀ j, 0 ≤ τ_66.2.1 20 j ∧ τ_66.2.1 20 j ≤ 1499 := fun j => hT.2 20 j
      have A86 : ∀ j, (-1500) ≤ τ_66.2.1 86 j ∧ τ_66.2.1 86 j ≤ 1499 := fun j => hT.2 86 j
      have A87 : ∀ j, 0 ≤ τ_66.2.1 87 j ∧ τ_66.2.1 87 j ≤ 120000 := fun j => hT.2 87 j
      have A88 : ∀ j, 0 ≤ τ_66.2.1 88 j ∧ τ_66.2.1 88 j ≤ 59 := fun j => hT.2 88 j
      have A89 : ∀ j, 0 ≤ τ_66.2.1 89 j ∧ τ_66.2.1 89 j ≤ 59 := fun j => hT.2 89 j
      have A90 : ∀ j, (-1) ≤ τ_66.2.1 90 j ∧ τ_66.2.1 90 j ≤ 99 := fun j => hT.2 90 j
      have A91 : ∀ j, 0 ≤ τ_66.2.1 91 j ∧ τ_66.2.1 91 j ≤ 60000 := fun j => hT.2 91 j
      have A94 : ∀ j, (-1) ≤ τ_66.2.1 94 j ∧ τ_66.2.1 94 j ≤ 2 := fun j => hT.2 94 j
      have v3 : 0 ≤ τ_66.1 3 ∧ τ_66.1 3 ≤ 1000 := hT.1 3
      have v4 : 0 ≤ τ_66.1 4 ∧ τ_66.1 4 ≤ 100 := hT.1 4
      have v5 : 0 ≤ τ_66.1 5 ∧ τ_66.1 5 ≤ 1500 := hT.1 5
      have v10 : (-1) ≤ τ_66.1 10 ∧ τ_66.1 10 ≤ 999 := hT.1 10
      have v11 : (-1) ≤ τ_66.1 11 ∧ τ_66.1 11 ≤ 999 := hT.1 11
      have v45 : 0 ≤ τ_66.1 45 ∧ τ_66.1 45 ≤ 59 := hT.1 45
      have v48 : 0 ≤ τ_66.1 48 ∧ τ_66.1 48 ≤ 1500 := hT.1 48
      have v49 : 0 ≤ τ_66.1 49 ∧ τ_66.1 49 ≤ 1 := hT.1 49
      have v50 : 0 ≤ τ_66.1 50 ∧ τ_66.1 50 ≤ 1500 := hT.1 50
      have v51 : 0 ≤ τ_66.1 51 ∧ τ_66.1 51 ≤ 60000 := hT.1 51
      have v52 : 0 ≤ τ_66.1 52 ∧ τ_66.1 52 ≤ 120000 := hT.1 52
      have a88_51 : 0 ≤ τ_66.2.1 88 (τ_66.1 51) ∧ τ_66.2.1 88 (τ_66.1 51) ≤ 59 := hT.2 88 _
      have a89_51 : 0 ≤ τ_66.2.1 89 (τ_66.1 51) ∧ τ_66.2.1 89 (τ_66.1 51) ≤ 59 := hT.2 89 _
      have a90_51 : (-1) ≤ τ_66.2.1 90 (τ_66.1 51) ∧ τ_66.2.1 90 (τ_66.1 51) ≤ 99 := hT.2 90 _
      exfalso; (first | omega | (simp only [st_s] <;> omega) | assumption | omega | fail)
    | succ m_66 ih_66 =>
      intro u2_66 u3_66 u4_66 u5_66 τ_66 hm_66 hT W3 W4 W5 W10 W11 G8 G10 G12 G13 G14 G15 G16 G17 G18 G19 G20 i66_1 i66_2 i66_3 i66_4 i66_5 i66_6 i66_7
      have A8 : ∀ j, 0 ≤ τ_66.2.1 8 j ∧ τ_66.2.1 8 j ≤ 1 := fun j => hT.2 8 j
      have A10 : ∀ j, (-1) ≤ τ_66.2.1 10 j ∧ τ_66.2.1 10 j ≤ 999 := fun j => hT.2 10 j
      have A12 : ∀ j, 0 ≤ τ_66.2.1 12 j ∧ τ_66.2.1 12 j ≤ 1 := fun j => hT.2 12 j
      have A13 : ∀ j, 0 ≤ τ_66.2.1 13 j ∧ τ_66.2.1 13 j ≤ 4 := fun j => hT.2 13 j
      have A14 : ∀ j, 0 ≤ τ_66.2.1 14 j ∧ τ_66.2.1 14 j ≤ 30000 := fun j => hT.2 14 j
      have A15 : ∀ j, 0 ≤ τ_66.2.1 15 j ∧ τ_66.2.1 15 j ≤ 300 := fun j => hT.2 15 j
      have A16 : ∀ j, 0 ≤ τ_66.2.1 16 j ∧ τ_66.2.1 16 j ≤ 999 := fun j => hT.2 16 j
      have A17 : ∀ j, (-1) ≤ τ_66.2.1 17 j ∧ τ_66.2.1 17 j ≤ 1499 := fun j => hT.2 17 j
      have A18 : ∀ j, 0 ≤ τ_66.2.1 18 j ∧ τ_66.2.1 18 j ≤ 90000 := fun j => hT.2 18 j
      have A19 : ∀ j, 0 ≤ τ_66.2.1 19 j ∧ τ_66.2.1 19 j ≤ 60 := fun j => hT.2 19 j
      have A20 : ∀ j, 0 ≤ τ_66.2.1 20 j ∧ τ_66.2.1 20 j ≤ 1499 := fun j => hT.2 20 j
      have A86 : ∀ j, (-1500) ≤ τ_66.2.1 86 j ∧ τ_66.2.1 86 j ≤ 1499 := fun j => hT.2 86 j
      have A87 : ∀ j, 0 ≤ τ_66.2.1 87 j ∧ τ_66.2.1 87 j ≤ 120000 := fun j => hT.2 87 j
      have A88 : ∀ j, 0 ≤ τ_66.2.1 88 j ∧ τ_66.2.1 88 j ≤ 59 := fun j => hT.2 88 j
      have A89 : ∀ j, 0 ≤ τ_66.2.1 89 j ∧ τ_66.2.1 89 j ≤ 59 := fun j => hT.2 89 j
      have A90 : ∀ j, (-1) ≤ τ_66.2.1 90 j ∧ τ_66.2.1 90 j ≤ 99 := fun j => hT.2 90 j
      have A91 : ∀ j, 0 ≤ τ_66.2.1 91 j ∧ τ_66.2.1 91 j ≤ 60000 := fun j => hT.2 91 j
      have A94 : ∀ j, (-1) ≤ τ_66.2.1 94 j ∧ τ_66.2.1 94 j ≤ 2 := fun j => hT.2 94 j
      have v3 : 0 ≤ τ_66.1 3 ∧ τ_66.1 3 ≤ 1000 := hT.1 3
      have v4 : 0 ≤ τ_66.1 4 ∧ τ_66.1 4 ≤ 100 := hT.1 4
      have v5 : 0 ≤ τ_66.1 5 ∧ τ_66.1 5 ≤ 1500 := hT.1 5
      have v10 : (-1) ≤ τ_66.1 10 ∧ τ_66.1 10 ≤ 999 := hT.1 10
      have v11 : (-1) ≤ τ_66.1 11 ∧ τ_66.1 11 ≤ 999 := hT.1 11
      have v45 : 0 ≤ τ_66.1 45 ∧ τ_66.1 45 ≤ 59 := hT.1 45
      have v48 : 0 ≤ τ_66.1 48 ∧ τ_66.1 48 ≤ 1500 := hT.1 48
      have v49 : 0 ≤ τ_66.1 49 ∧ τ_66.1 49 ≤ 1 := hT.1 49
      have v50 : 0 ≤ τ_66.1 50 ∧ τ_66.1 50 ≤ 1500 := hT.1 50
      have v51 : 0 ≤ τ_66.1 51 ∧ τ_66.1 51 ≤ 60000 := hT.1 51
      have v52 : 0 ≤ τ_66.1 52 ∧ τ_66.1 52 ≤ 120000 := hT.1 52
      have a88_51 : 0 ≤ τ_66.2.1 88 (τ_66.1 51) ∧ τ_66.2.1 88 (τ_66.1 51) ≤ 59 := hT.2 88 _
      have a89_51 : 0 ≤ τ_66.2.1 89 (τ_66.1 51) ∧ τ_66.2.1 89 (τ_66.1 51) ≤ 59 := hT.2 89 _
      have a90_51 : (-1) ≤ τ_66.2.1 90 (τ_66.1 51) ∧ τ_66.2.1 90 (τ_66.1 51) ≤ 99 := hT.2 90 _
      have Y20 : ca (τ_66.2.1 12) ((τ_66.1 3)) ≤ (τ_66.1 4) := by rw [show (ca (τ_66.2.1 12) ((τ_66.1 3)) ≤ (τ_66.1 4)) = (ca (σ.2.1 12) ((σ.1 3)) ≤ (σ.1 4)) from by rw [W3, W4, G12]]; exact Y20_0
      have SDτ : y_SD σ τ_66 := ⟨W11, G8, G10, G13, G14, G15, G16, G18, G19, G20⟩
      have hTτ := hT
      have CTx := fun (bits : ¬ u4_66 = -1 → ∀ y : Int, σ.1 51 ≤ y → y < τ_66.1 51 → 0 ≤ τ_66.2.1 86 y → y_b7 (τ_66.2.2 7) n1 (τ_66.2.1 86 y)) => y_CT_mk (x := u4_66) p11 i66_2 hTτ p1 p2 p3 SDτ W3 W5 W10 G17 i66_3 bits
      have TOd := i66_2
      obtain ⟨to1, to2, to3, to4, to5, to6, to7⟩ := TOd
      refine h66 n1 u2_66 u3_66 u4_66 u5_66 τ_66 ?_
      refine ⟨fun c13 => ?_, fun c13 => ?_⟩
      ·
        refine h132 _ _ _ _ ?_
        replace hT := mT_v (i := 51) hT (show 0 ≤ u2_66 ∧ u2_66 ≤ 60000 from by (first | omega | (simp only [st_s] <;> omega) | assumption | omega | fail))
        replace hT := mT_v (i := 52) hT (show 0 ≤ u3_66 ∧ u3_66 ≤ 120000 from by (first | omega | (simp only [st_s] <;> omega) | assumption | omega | fail))
        refine ⟨(show 0 ≤ n1 ∧ n1 < 1501 from by (first | omega | (simp only [st_s] <;> omega) | assumption | omega | fail)), ?_⟩
        intro x27 r_x27 e_x27
        have b_x27 : (-1) ≤ x27 ∧ x27 ≤ 2 := by rw [e_x27]; exact hT.2 94 _
        exact ⟨hT, (show y_CT (s_v (s_v τ_66 51 u2_66) 52 u3_66) from by (first | exact p11 | exact y_CT_e ⟨rfl, rfl, rfl, rfl, rfl, rfl, rfl, rfl, rfl, rfl⟩ rfl rfl rfl rfl rfl (CTx (fun z y a b => i66_7 z y a (by omega))).1 | exact y_CT_e ⟨rfl, rfl, rfl, rfl, rfl, rfl, rfl, rfl, rfl, rfl⟩ rfl rfl rfl rfl rfl (CTx (fun z => absurd c14 z)).1 | fail)), (show τ_66.2.1 94 n1 = x27 ∧ 0 ≤ x27 ∧ x27 ≤ 2 from by (first | (have w := (CTn (by omega)).2.1.1; exact ⟨by omega, by omega, by omega⟩) | (have w := (CTx (fun z y a b => i66_7 z y a (by omega))).2; exact ⟨e_x27.symm, by omega, by omega⟩) | (have w := (CTx (fun z => absurd c14 z)).2; exact ⟨e_x27.symm, by omega, by omega⟩) | fail)), (show ((τ_66.1 49) = 0 ∨ (y_TT (s_v (s_v τ_66 51 u2_66) 52 u3_66) (s_v (s_v τ_66 51 u2_66) 52 u3_66) (σ.1 5) (σ.1 5) ∧ y_Un (s_v (s_v τ_66 51 u2_66) 52 u3_66) (σ.1 5) (τ_66.1 48) (τ_66.2.1 84))) from by (first | exact p8 | exact Or.inr ⟨to2.2.1, to2.2.2⟩ | fail)), (show (u2_66) = (σ.1 51) ∧ (u3_66) = (σ.1 52) from by (first | omega | (simp only [st_s] <;> omega) | assumption | omega | fail)), (show ∀ y : Int, y < (σ.1 51) → (τ_66.2.1 86 y = σ.2.1 86 y ∧ τ_66.2.1 87 y = σ.2.1 87 y) ∧ τ_66.2.1 88 y = σ.2.1 88 y ∧ τ_66.2.1 89 y = σ.2.1 89 y ∧ τ_66.2.1 90 y = σ.2.1 90 y from by (first | exact to5 | exact fun _ _ => ⟨⟨rfl, rfl⟩, rfl, rfl, rfl⟩ | fail)), (show ∀ e : Int, e < (σ.1 52) → τ_66.2.1 91 e = σ.2.1 91 e from by (first | exact to6 | exact fun _ _ => rfl | fail)), (show ∀ k : Int, ¬ (24 * n1 ≤ k ∧ k < 24 * n1 + 24) → τ_66.2.2 7 k = σ.2.2 7 k from by (first | exact i66_3 | exact fun _ _ => rfl | fail)), (show ∀ i : Int, ¬ i = n1 → τ_66.2.1 94 i = σ.2.1 94 i from by (first | exact fun _ _ => rfl | (have q9 := to1; obtain ⟨cc, cc1, _⟩ := q9; intro i a; rw [cc1, st_n _ _ a]) | fail)), (show ¬ σ.2.1 94 n1 = -1 → (s_v (s_v τ_66 51 u2_66) 52 u3_66) = σ from by (first | exact fun _ => rfl | (intro z; exfalso; omega) | fail))⟩
      ·
        refine ⟨fun c14 => ?_, fun c14 => ?_⟩
        ·
          refine h132 _ _ _ _ ?_
          replace hT := mT_v (i := 51) hT (show 0 ≤ u2_66 ∧ u2_66 ≤ 60000 from by (first | omega | (simp only [st_s] <;> omega) | assumption | omega | fail))
          replace hT := mT_v (i := 52) hT (show 0 ≤ u3_66 ∧ u3_66 ≤ 120000 from by (first | omega | (simp only [st_s] <;> omega) | assumption | omega | fail))
          refine ⟨(show 0 ≤ n1 ∧ n1 < 1501 from by (first | omega | (simp only [st_s] <;> omega) | assumption | omega | fail)), ?_⟩
          intro x27 r_x27 e_x27
          have b_x27 : (-1) ≤ x27 ∧ x27 ≤ 2 := by rw [e_x27]; exact hT.2 94 _
          exact ⟨hT, (show y_CT (s_v (s_v τ_66 51 u2_66) 52 u3_66) from by (first | exact p11 | exact y_CT_e ⟨rfl, rfl, rfl, rfl, rfl, rfl, rfl, rfl, rfl, rfl⟩ rfl rfl rfl rfl rfl (CTx (fun z y a b => i66_7 z y a (by omega))).1 | exact y_CT_e ⟨rfl, rfl, rfl, rfl, rfl, rfl, rfl, rfl, rfl, rfl⟩ rfl rfl rfl rfl rfl (CTx (fun z => absurd c14 z)).1 | fail)), (show τ_66.2.1 94 n1 = x27 ∧ 0 ≤ x27 ∧ x27 ≤ 2 from by (first | (have w := (CTn (by omega)).2.1.1; exact ⟨by omega, by omega, by omega⟩) | (have w := (CTx (fun z y a b => i66_7 z y a (by omega))).2; exact ⟨e_x27.symm, by omega, by omega⟩) | (have w := (CTx (fun z => absurd c14 z)).2; exact ⟨e_x27.symm, by omega, by omega⟩) | fail)), (show ((τ_66.1 49) = 0 ∨ (y_TT (s_v (s_v τ_66 51 u2_66) 52 u3_66) (s_v (s_v τ_66 51 u2_66) 52 u3_66) (σ.1 5) (σ.1 5) ∧ y_Un (s_v (s_v τ_66 51 u2_66) 52 u3_66) (σ.1 5) (τ_66.1 48) (τ_66.2.1 84))) from by (first | exact p8 | exact Or.inr ⟨to2.2.1, to2.2.2⟩ | fail)), (show (u2_66) = (σ.1 51) ∧ (u3_66) = (σ.1 52) from by (first | omega | (simp only [st_s] <;> omega) | assumption | omega | fail)), (show ∀ y : Int, y < (σ.1 51) → (τ_66.2.1 86 y = σ.2.1 86 y ∧ τ_66.2.1 87 y = σ.2.1 87 y) ∧ τ_66.2.1 88 y = σ.2.1 88 y ∧ τ_66.2.1 89 y = σ.2.1 89 y ∧ τ_66.2.1 90 y = σ.2.1 90 y from by (first | exact to5 | exact fun _ _ => ⟨⟨rfl, rfl⟩, rfl, rfl, rfl⟩ | fail)), (show ∀ e : Int, e < (σ.1 52) → τ_66.2.1 91 e = σ.2.1 91 e from by (first | exact to6 | exact fun _ _ => rfl | fail)), (show ∀ k : Int, ¬ (24 * n1 ≤ k ∧ k < 24 * n1 + 24) → τ_66.2.2 7 k = σ.2.2 7 k from by (first | exact i66_3 | exact fun _ _ => rfl | fail)), (show ∀ i : Int, ¬ i = n1 → τ_66.2.1 94 i = σ.2.1 94 i from by (first | exact fun _ _ => rfl | (have q9 := to1; obtain ⟨cc, cc1, _⟩ := q9; intro i a; rw [cc1, st_n _ _ a]) | fail)), (show ¬ σ.2.1 94 n1 = -1 → (s_v (s_v τ_66 51 u2_66) 52 u3_66) = σ from by (first | exact fun _ => rfl | (intro z; exfalso; omega) | fail))⟩
        ·
          refine ⟨(show 0 ≤ u5_66 ∧ u5_66 < 60000 from by (first | omega | (simp only [st_s] <;> omega) | assumption | omega | fail)), ?_⟩
          intro x16 r_x16 e_x16
          have b_x16 : (-1500) ≤ x16 ∧ x16 ≤ 1499 := by rw [e_x16]; exact hT.2 86 _
          refine ⟨fun c17 => ?_, fun c17 => ?_⟩
          ·
            refine ⟨(⟨by (first | omega | (simp only [st_s] <;> omega) | assumption | omega | fail), by (first | omega | (simp only [st_s] <;> omega) | assumption | omega | fail)⟩ : rg (u5_66 + 1)), ?_⟩
            exact ih_66 _ _ _ _ _ (show (60001 - (u5_66 + 1) : Int) < ((m_66 : Nat) : Int) from by ((first | omega | (simp only [st_s] <;> omega) | assumption | omega | fail))) hT (show τ_66.1 3 = σ.1 3 from by first | exact W3 | omega) (show τ_66.1 4 = σ.1 4 from by first | exact W4 | omega) (show τ_66.1 5 = σ.1 5 from by first | exact W5 | omega) (show τ_66.1 10 = σ.1 10 from by first | exact W10 | omega) (show τ_66.1 11 = σ.1 11 from by first | exact W11 | omega) G8 G10 G12 G13 G14 G15 G16 G17 G18 G19 G20 (show u2_66 = (σ.1 51) ∧ u3_66 = (σ.1 52) from by (first | omega | (simp only [st_s] <;> omega) | assumption | omega | fail)) (show y_TO σ τ_66 n1 u4_66 from by (first | exact i37_2 | exact i66_2 | exact y_TO_b i66_2 | fail)) (show ∀ k : Int, ¬ (24 * n1 ≤ k ∧ k < 24 * n1 + 24) → τ_66.2.2 7 k = σ.2.2 7 k from by (first | exact i37_3 | exact i66_3 | (intro k a; rw [st_n _ _ (by omega)]; exact i66_3 k a) | fail)) (show σ.2.1 94 n1 = -1 from by (first | omega | (simp only [st_s] <;> omega) | assumption | omega | fail)) (show (σ.1 51) ≤ (u5_66 + 1) from by (first | omega | (simp only [st_s] <;> omega) | assumption | omega | fail)) (show (u5_66 + 1) ≤ (τ_66.1 51) from by (first | omega | (simp only [st_s] <;> omega) | assumption | omega | fail)) (show ¬ u4_66 = -1 → ∀ y : Int, (σ.1 51) ≤ y → y < (u5_66 + 1) → 0 ≤ τ_66.2.1 86 y → y_b7 (τ_66.2.2 7) n1 (τ_66.2.1 86 y) from by (first | (intro z y a b; exfalso; omega) | (intro z y a b c; rw [hx20]; rcases (by omega : y < u5_66 ∨ y = u5_66) with w | w; (exact y_b7_s r0 hx22 c (Or.inr (i66_7 z y a w c))); (exact y_b7_s r0 hx22 c (Or.inl (by rw [w])))) | (intro z y a b c; rcases (by omega : y < u5_66 ∨ y = u5_66) with w | w; (exact i66_7 z y a w c); (exfalso; rw [w] at c; omega)) | fail))
          ·
            intro x19 r_x19 e_x19
            have b_x19 : (-1500) ≤ x19 ∧ x19 ≤ 1499 := by rw [e_x19]; exact hT.2 86 _
            intro x20 r_x20 h1_x20 h2_x20
            refine ⟨(show 0 ≤ ((24 * n1) + x20) ∧ ((24 * n1) + x20) < 36024 from by (first | omega | (simp only [st_s] <;> omega) | assumption | omega | fail)), ?_⟩
            intro x22 e_x22
            intro x23 r_x23 e_x23
            have b_x23 : (-1500) ≤ x23 ∧ x23 ≤ 1499 := by rw [e_x23]; exact hT.2 86 _
            intro x24 r_x24 h1_x24 h2_x24
            have hx20 : x20 = τ_66.2.1 86 u5_66 / 64 := by omega
            have hx24 : x24 = τ_66.2.1 86 u5_66 % 64 := by omega
            have r0 : 0 ≤ τ_66.2.1 86 u5_66 := by omega
            have hx22 : x22 ||| j_shl 1 x24 = τ_66.2.2 7 (24 * n1 + τ_66.2.1 86 u5_66 / 64) ||| j_shl 1 (τ_66.2.1 86 u5_66 % 64) := by rw [e_x22, hx20, hx24]
            have r87 : τ_66.2.1 86 u5_66 < 1500 := by (have to7z := to7 (by omega); rcases to7z.2.2.2.1 u5_66 i66_5 (by omega) with w | w; (exfalso; have w1 := w.2.1; omega); (have w1 := w.1.2; have w2 := to7z.2.2.2.2.2.2.1.1; have w3 := hTσ.1 5; have w4 : σ.1 5 ≤ 1500 := w3.2; omega))
            replace hT := mT_b (k := 7) (j := ((24 * n1) + x20)) (x := (x22 ||| (j_shl 1 x24))) hT
            refine ⟨(⟨by (first | omega | (simp only [st_s] <;> omega) | assumption | omega | fail), by (first | omega | (simp only [st_s] <;> omega) | assumption | omega | fail)⟩ : rg (u5_66 + 1)), ?_⟩
            exact ih_66 _ _ _ _ _ (show (60001 - (u5_66 + 1) : Int) < ((m_66 : Nat) : Int) from by ((first | omega | (simp only [st_s] <;> omega) | assumption | omega | fail))) hT (show τ_66.1 3 = σ.1 3 from by first | exact W3 | omega) (show τ_66.1 4 = σ.1 4 from by first | exact W4 | omega) (show τ_66.1 5 = σ.1 5 from by first | exact W5 | omega) (show τ_66.1 10 = σ.1 10 from by first | exact W10 | omega) (show τ_66.1 11 = σ.1 11 from by first | exact W11 | omega) G8 G10 G12 G13 G14 G15 G16 G17 G18 G19 G20 (show u2_66 = (σ.1 51) ∧ u3_66 = (σ.1 52) from by (first | omega | (simp only [st_s] <;> omega) | assumption | omega | fail)) (show y_TO σ (s_b τ_66 7 ((24 * n1) + x20) (x22 ||| (j_shl 1 x24))) n1 u4_66 from by (first | exact i37_2 | exact i66_2 | exact y_TO_b i66_2 | fail)) (show ∀ k : Int, ¬ (24 * n1 ≤ k ∧ k < 24 * n1 + 24) → (st (τ_66.2.2 7) ((24 * n1) + x20) (x22 ||| (j_shl 1 x24))) k = σ.2.2 7 k from by (first | exact i37_3 | exact i66_3 | (intro k a; rw [st_n _ _ (by omega)]; exact i66_3 k a) | fail)) (show σ.2.1 94 n1 = -1 from by (first | omega | (simp only [st_s] <;> omega) | assumption | omega | fail)) (show (σ.1 51) ≤ (u5_66 + 1) from by (first | omega | (simp only [st_s] <;> omega) | assumption | omega | fail)) (show (u5_66 + 1) ≤ (τ_66.1 51) from by (first | omega | (simp only [st_s] <;> omega) | assumption | omega | fail)) (show ¬ u4_66 = -1 → ∀ y : Int, (σ.1 51) ≤ y → y < (u5_66 + 1) → 0 ≤ τ_66.2.1 86 y → y_b7 ((st (τ_66.2.2 7) ((24 * n1) + x20) (x22 ||| (j_shl 1 x24)))) n1 (τ_66.2.1 86 y) from by (first | (intro z y a b; exfalso; omega) | (intro z y a b c; rw [hx20]; rcases (by omega : y < u5_66 ∨ y = u5_66) with w | w; (exact y_b7_s r0 hx22 c (Or.inr (i66_7 z y a w c))); (exact y_b7_s r0 hx22 c (Or.inl (by rw [w])))) | (intro z y a b c; rcases (by omega : y < u5_66 ∨ y = u5_66) with w | w; (exact i66_7 z y a w c); (exfalso; rw [w] at c; omega)) | fail))
  have l_37 : ∀ (m_37 : Nat) (u2_37 : Int) (u3_37 : Int) (u4_37 : Int) (u5_37 : Int) (τ_37 : S0), 25 - u5_37 < (m_37 : Int) → (m_T τ_37) → (τ_37.1 3 = σ.1 3) → (τ_37.1 4 = σ.1 4) → (τ_37.1 5 = σ.1 5) → (τ_37.1 10 = σ.1 10) → (τ_37.1 11 = σ.1 11) → (τ_37.2.1 8 = σ.2.1 8) → (τ_37.2.1 10 = σ.2.1 10) → (τ_37.2.1 12 = σ.2.1 12) → (τ_37.2.1 13 = σ.2.1 13) → (τ_37.2.1 14 = σ.2.1 14) → (τ_37.2.1 15 = σ.2.1 15) → (τ_37.2.1 16 = σ.2.1 16) → (τ_37.2.1 17 = σ.2.1 17) → (τ_37.2.1 18 = σ.2.1 18) → (τ_37.2.1 19 = σ.2.1 19) → (τ_37.2.1 20 = σ.2.1 20) → (u2_37 = (σ.1 51) ∧ u3_37 = (σ.1 52)) → (y_TO σ τ_37 n1 u4_37) → (∀ k : Int, ¬ (24 * n1 ≤ k ∧ k < 24 * n1 + 24) → τ_37.2.2 7 k = σ.2.2 7 k) → (σ.2.1 94 n1 = -1) → (0 ≤ u5_37 ∧ u5_37 ≤ 24) → P37 n1 u2_37 u3_37 u4_37 u5_37 τ_37 := by
    intro m_37
    induction m_37 with
    | zero =>
      intro u2_37 u3_37 u4_37 u5_37 τ_37 hm hT W3 W4 W5 W10 W11 G8 G10 G12 G13 G14 G15 G16 G17 G18 G19 G20 i37_1 i37_2 i37_3 i37_4 i37_5
      have A8 : ∀ j, 0 ≤ τ_37.2.1 8 j ∧ τ_37.2.1 8 j ≤ 1 := fun j => hT.2 8 j
      have A10 : ∀ j, (-1) ≤ τ_37.2.1 10 j ∧ τ_37.2.1 10 j ≤ 999 := fun j => hT.2 10 j
      have A12 : ∀ j, 0 ≤ τ_37.2.1 12 j ∧ τ_37.2.1 12 j ≤ 1 := fun j => hT.2 12 j
      have A13 : ∀ j, 0 ≤ τ_37.2.1 13 j ∧ τ_37.2.1 13 j ≤ 4 := fun j => hT.2 13 j
      have A14 : ∀ j, 0 ≤ τ_37.2.1 14 j ∧ τ_37.2.1 14 j ≤ 30000 := fun j => hT.2 14 j
      have A15 : ∀ j, 0 ≤ τ_37.2.1 15 j ∧ τ_37.2.1 15 j ≤ 300 := fun j => hT.2 15 j
      have A16 : ∀ j, 0 ≤ τ_37.2.1 16 j ∧ τ_37.2.1 16 j ≤ 999 := fun j => hT.2 16 j
      have A17 : ∀ j, (-1) ≤ τ_37.2.1 17 j ∧ τ_37.2.1 17 j ≤ 1499 := fun j => hT.2 17 j
      have A18 : ∀ j, 0 ≤ τ_37.2.1 18 j ∧ τ_37.2.1 18 j ≤ 90000 := fun j => hT.2 18 j
      have A19 : ∀ j, 0 ≤ τ_37.2.1 19 j ∧ τ_37.2.1 19 j ≤ 60 := fun j => hT.2 19 j
      have A20 : ∀ j, 0 ≤ τ_37.2.1 20 j ∧ τ_37.2.1 20 j ≤ 1499 := fun j => hT.2 20 j
      have A86 : ∀ j, (-1500) ≤ τ_37.2.1 86 j ∧ τ_37.2.1 86 j ≤ 1499 := fun j => hT.2 86 j
      have A87 : ∀ j, 0 ≤ τ_37.2.1 87 j ∧ τ_37.2.1 87 j ≤ 120000 := fun j => hT.2 87 j
      have A88 : ∀ j, 0 ≤ τ_37.2.1 88 j ∧ τ_37.2.1 88 j ≤ 59 := fun j => hT.2 88 j
      have A89 : ∀ j, 0 ≤ τ_37.2.1 89 j ∧ τ_37.2.1 89 j ≤ 59 := fun j => hT.2 89 j
      have A90 : ∀ j, (-1) ≤ τ_37.2.1 90 j ∧ τ_37.2.1 90 j ≤ 99 := fun j => hT.2 90 j
      have A91 : ∀ j, 0 ≤ τ_37.2.1 91 j ∧ τ_37.2.1 91 j ≤ 60000 := fun j => hT.2 91 j
      have A94 : ∀ j, (-1) ≤ τ_37.2.1 94 j ∧ τ_37.2.1 94 j ≤ 2 := fun j => hT.2 94 j
      have v3 : 0 ≤ τ_37.1 3 ∧ τ_37.1 3 ≤ 1000 := hT.1 3
      have v4 : 0 ≤ τ_37.1 4 ∧ τ_37.1 4 ≤ 100 := hT.1 4
      have v5 : 0 ≤ τ_37.1 5 ∧ τ_37.1 5 ≤ 1500 := hT.1 5
      have v10 : (-1) ≤ τ_37.1 10 ∧ τ_37.1 10 ≤ 999 := hT.1 10
      have v11 : (-1) ≤ τ_37.1 11 ∧ τ_37.1 11 ≤ 999 := hT.1 11
      have v45 : 0 ≤ τ_37.1 45 ∧ τ_37.1 45 ≤ 59 := hT.1 45
      have v48 : 0 ≤ τ_37.1 48 ∧ τ_37.1 48 ≤ 1500 := hT.1 48
      have v49 : 0 ≤ τ_37.1 49 ∧ τ_37.1 49 ≤ 1 := hT.1 49
      have v50 : 0 ≤ τ_37.1 50 ∧ τ_37.1 50 ≤ 1500 := hT.1 50
      have v51 : 0 ≤ τ_37.1 51 ∧ τ_37.1 51 ≤ 60000 := hT.1 51
      have v52 : 0 ≤ τ_37.1 52 ∧ τ_37.1 52 ≤ 120000 := hT.1 52
      have a88_51 : 0 ≤ τ_37.2.1 88 (τ_37.1 51) ∧ τ_37.2.1 88 (τ_37.1 51) ≤ 59 := hT.2 88 _
      have a89_51 : 0 ≤ τ_37.2.1 89 (τ_37.1 51) ∧ τ_37.2.1 89 (τ_37.1 51) ≤ 59 := hT.2 89 _
      have a90_51 : (-1) ≤ τ_37.2.1 90 (τ_37.1 51) ∧ τ_37.2.1 90 (τ_37.1 51) ≤ 99 := hT.2 90 _
      exfalso; (first | omega | (simp only [st_s] <;> omega) | assumption | omega | fail)
    | succ m_37 ih_37 =>
      intro u2_37 u3_37 u4_37 u5_37 τ_37 hm_37 hT W3 W4 W5 W10 W11 G8 G10 G12 G13 G14 G15 G16 G17 G18 G19 G20 i37_1 i37_2 i37_3 i37_4 i37_5
      have A8 : ∀ j, 0 ≤ τ_37.2.1 8 j ∧ τ_37.2.1 8 j ≤ 1 := fun j => hT.2 8 j
      have A10 : ∀ j, (-1) ≤ τ_37.2.1 10 j ∧ τ_37.2.1 10 j ≤ 999 := fun j => hT.2 10 j
      have A12 : ∀ j, 0 ≤ τ_37.2.1 12 j ∧ τ_37.2.1 12 j ≤ 1 := fun j => hT.2 12 j
      have A13 : ∀ j, 0 ≤ τ_37.2.1 13 j ∧ τ_37.2.1 13 j ≤ 4 := fun j => hT.2 13 j
      have A14 : ∀ j, 0 ≤ τ_37.2.1 14 j ∧ τ_37.2.1 14 j ≤ 30000 := fun j => hT.2 14 j
      have A15 : ∀ j, 0 ≤ τ_37.2.1 15 j ∧ τ_37.2.1 15 j ≤ 300 := fun j => hT.2 15 j
      have A16 : ∀ j, 0 ≤ τ_37.2.1 16 j ∧ τ_37.2.1 16 j ≤ 999 := fun j => hT.2 16 j
      have A17 : ∀ j, (-1) ≤ τ_37.2.1 17 j ∧ τ_37.2.1 17 j ≤ 1499 := fun j => hT.2 17 j
      have A18 : ∀ j, 0 ≤ τ_37.2.1 18 j ∧ τ_37.2.1 18 j ≤ 90000 := fun j => hT.2 18 j
      have A19 : ∀ j, 0 ≤ τ_37.2.1 19 j ∧ τ_37.2.1 19 j ≤ 60 := fun j => hT.2 19 j
      have A20 : ∀ j, 0 ≤ τ_37.2.1 20 j ∧ τ_37.2.1 20 j ≤ 1499 := fun j => hT.2 20 j
      have A86 : ∀ j, (-1500) ≤ τ_37.2.1 86 j ∧ τ_37.2.1 86 j ≤ 1499 := fun j => hT.2 86 j
      have A87 : ∀ j, 0 ≤ τ_37.2.1 87 j ∧ τ_37.2.1 87 j ≤ 120000 := fun j => hT.2 87 j
      have A88 : ∀ j, 0 ≤ τ_37.2.1 88 j ∧ τ_37.2.1 88 j ≤ 59 := fun j => hT.2 88 j
      have A89 : ∀ j, 0 ≤ τ_37.2.1 89 j ∧ τ_37.2.1 89 j ≤ 59 := fun j => hT.2 89 j
      have A90 : ∀ j, (-1) ≤ τ_37.2.1 90 j ∧ τ_37.2.1 90 j ≤ 99 := fun j => hT.2 90 j
      have A91 : ∀ j, 0 ≤ τ_37.2.1 91 j ∧ τ_37.2.1 91 j ≤ 60000 := fun j => hT.2 91 j
      have A94 : ∀ j, (-1) ≤ τ_37.2.1 94 j ∧ τ_37.2.1 94 j ≤ 2 := fun j => hT.2 94 j
      have v3 : 0 ≤ τ_37.1 3 ∧ τ_37.1 3 ≤ 1000 := hT.1 3
      have v4 : 0 ≤ τ_37.1 4 ∧ τ_37.1 4 ≤ 100 := hT.1 4
      have v5 : 0 ≤ τ_37.1 5 ∧ τ_37.1 5 ≤ 1500 := hT.1 5
      have v10 : (-1) ≤ τ_37.1 10 ∧ τ_37.1 10 ≤ 999 := hT.1 10
      have v11 : (-1) ≤ τ_37.1 11 ∧ τ_37.1 11 ≤ 999 := hT.1 11
      have v45 : 0 ≤ τ_37.1 45 ∧ τ_37.1 45 ≤ 59 := hT.1 45
      have v48 : 0 ≤ τ_37.1 48 ∧ τ_37.1 48 ≤ 1500 := hT.1 48
      have v49 : 0 ≤ τ_37.1 49 ∧ τ_37.1 49 ≤ 1 := hT.1 49
      have v50 : 0 ≤ τ_37.1 50 ∧ τ_37.1 50 ≤ 1500 := hT.1 50
      have v51 : 0 ≤ τ_37.1 51 ∧ τ_37.1 51 ≤ 60000 := hT.1 51
      have v52 : 0 ≤ τ_37.1 52 ∧ τ_37.1 52 ≤ 120000 := hT.1 52
      have a88_51 : 0 ≤ τ_37.2.1 88 (τ_37.1 51) ∧ τ_37.2.1 88 (τ_37.1 51) ≤ 59 := hT.2 88 _
      have a89_51 : 0 ≤ τ_37.2.1 89 (τ_37.1 51) ∧ τ_37.2.1 89 (τ_37.1 51) ≤ 59 := hT.2 89 _
      have a90_51 : (-1) ≤ τ_37.2.1 90 (τ_37.1 51) ∧ τ_37.2.1 90 (τ_37.1 51) ≤ 99 := hT.2 90 _
      have Y20 : ca (τ_37.2.1 12) ((τ_37.1 3)) ≤ (τ_37.1 4) := by rw [show (ca (τ_37.2.1 12) ((τ_37.1 3)) ≤ (τ_37.1 4)) = (ca (σ.2.1 12) ((σ.1 3)) ≤ (σ.1 4)) from by rw [W3, W4, G12]]; exact Y20_0
      have to3 := i37_2.2.2.1
      refine h37 n1 u2_37 u3_37 u4_37 u5_37 τ_37 ?_
      refine ⟨fun c10 => ?_, fun c10 => ?_⟩
      ·
        exact l_66 ((60001 - u2_37 : Int).toNat + 1) _ _ _ _ _ (show (60001 - u2_37 : Int) < (((60001 - u2_37 : Int).toNat + 1 : Nat) : Int) from by ((first | omega | (simp only [st_s] <;> omega) | assumption | omega | fail))) hT (show τ_37.1 3 = σ.1 3 from by first | exact W3 | omega) (show τ_37.1 4 = σ.1 4 from by first | exact W4 | omega) (show τ_37.1 5 = σ.1 5 from by first | exact W5 | omega) (show τ_37.1 10 = σ.1 10 from by first | exact W10 | omega) (show τ_37.1 11 = σ.1 11 from by first | exact W11 | omega) G8 G10 G12 G13 G14 G15 G16 G17 G18 G19 G20 (show u2_37 = (σ.1 51) ∧ u3_37 = (σ.1 52) from by (first | omega | (simp only [st_s] <;> omega) | assumption | omega | fail)) (show y_TO σ τ_37 n1 u4_37 from by (first | exact i37_2 | exact i66_2 | exact y_TO_b i66_2 | fail)) (show ∀ k : Int, ¬ (24 * n1 ≤ k ∧ k < 24 * n1 + 24) → τ_37.2.2 7 k = σ.2.2 7 k from by (first | exact i37_3 | exact i66_3 | (intro k a; rw [st_n _ _ (by omega)]; exact i66_3 k a) | fail)) (show σ.2.1 94 n1 = -1 from by (first | omega | (simp only [st_s] <;> omega) | assumption | omega | fail)) (show (σ.1 51) ≤ u2_37 from by (first | omega | (simp only [st_s] <;> omega) | assumption | omega | fail)) (show u2_37 ≤ (τ_37.1 51) from by (first | omega | (simp only [st_s] <;> omega) | assumption | omega | fail)) (show ¬ u4_37 = -1 → ∀ y : Int, (σ.1 51) ≤ y → y < u2_37 → 0 ≤ τ_37.2.1 86 y → y_b7 (τ_37.2.2 7) n1 (τ_37.2.1 86 y) from by (first | (intro z y a b; exfalso; omega) | (intro z y a b c; rw [hx20]; rcases (by omega : y < u5_66 ∨ y = u5_66) with w | w; (exact y_b7_s r0 hx22 c (Or.inr (i66_7 z y a w c))); (exact y_b7_s r0 hx22 c (Or.inl (by rw [w])))) | (intro z y a b c; rcases (by omega : y < u5_66 ∨ y = u5_66) with w | w; (exact i66_7 z y a w c); (exfalso; rw [w] at c; omega)) | fail))
      ·
        refine ⟨(show 0 ≤ ((24 * n1) + u5_37) ∧ ((24 * n1) + u5_37) < 36024 from by (first | omega | (simp only [st_s] <;> omega) | assumption | omega | fail)), ?_⟩
        replace hT := mT_b (k := 7) (j := ((24 * n1) + u5_37)) (x := 0) hT
        refine ⟨(⟨by (first | omega | (simp only [st_s] <;> omega) | assumption | omega | fail), by (first | omega | (simp only [st_s] <;> omega) | assumption | omega | fail)⟩ : rg (u5_37 + 1)), ?_⟩
        exact ih_37 _ _ _ _ _ (show (25 - (u5_37 + 1) : Int) < ((m_37 : Nat) : Int) from by ((first | omega | (simp only [st_s] <;> omega) | assumption | omega | fail))) hT (show τ_37.1 3 = σ.1 3 from by first | exact W3 | omega) (show τ_37.1 4 = σ.1 4 from by first | exact W4 | omega) (show τ_37.1 5 = σ.1 5 from by first | exact W5 | omega) (show τ_37.1 10 = σ.1 10 from by first | exact W10 | omega) (show τ_37.1 11 = σ.1 11 from by first | exact W11 | omega) G8 G10 G12 G13 G14 G15 G16 G17 G18 G19 G20 (show u2_37 = (σ.1 51) ∧ u3_37 = (σ.1 52) from by (first | omega | (simp only [st_s] <;> omega) | assumption | omega | fail)) (show y_TO σ (s_b τ_37 7 ((24 * n1) + u5_37) 0) n1 u4_37 from by (first | exact TO6 | exact y_TO_b i37_2 | fail)) (show ∀ k : Int, ¬ (24 * n1 ≤ k ∧ k < 24 * n1 + 24) → (st (τ_37.2.2 7) ((24 * n1) + u5_37) 0) k = σ.2.2 7 k from by (first | (intro k a; rw [b76]) | (intro k a; rw [st_n _ _ (by omega)]; exact i37_3 k a) | fail)) (show σ.2.1 94 n1 = -1 from by (first | omega | (simp only [st_s] <;> omega) | assumption | omega | fail)) (show 0 ≤ (u5_37 + 1) ∧ (u5_37 + 1) ≤ 24 from by (first | omega | (simp only [st_s] <;> omega) | assumption | omega | fail))
  refine ⟨(show 0 ≤ n1 ∧ n1 < 1501 from by (first | omega | (simp only [st_s] <;> omega) | assumption | omega | fail)), ?_⟩
  intro x2 r_x2 e_x2
  have b_x2 : (-1) ≤ x2 ∧ x2 ≤ 2 := by rw [e_x2]; exact hT.2 94 _
  refine ⟨fun c3 => ?_, fun c3 => ?_⟩
  ·
    refine ⟨_, K_X13_treeOf hT (show 0 ≤ n1 from by (first | omega | (simp only [st_s] <;> omega) | assumption | omega | fail)) (show n1 < (σ.1 5) from by (first | omega | (simp only [st_s] <;> omega) | assumption | omega | fail)) (show σ.2.1 15 n1 ≤ 60 from by (first | omega | (simp only [st_s] <;> omega) | assumption | omega | fail)) (show ca (σ.2.1 12) ((σ.1 3)) ≤ (σ.1 4) from Y20) (show n_J σ from by (first | omega | (simp only [st_s] <;> omega) | assumption | omega | fail)) (show m_J σ from by (first | omega | (simp only [st_s] <;> omega) | assumption | omega | fail)) (show (σ.1 10) < (σ.1 3) from by (first | omega | (simp only [st_s] <;> omega) | assumption | omega | fail)) (show (σ.1 49) = 0 ∨ (y_TT σ σ (σ.1 5) (σ.1 5) ∧ y_Un σ (σ.1 5) (σ.1 48) (σ.2.1 84)) from by (first | omega | (simp only [st_s] <;> omega) | assumption | omega | fail)) (show (σ.1 51) ≤ 47000 from by (first | omega | (simp only [st_s] <;> omega) | assumption | omega | fail)) (show (σ.1 52) ≤ 88000 from by (first | omega | (simp only [st_s] <;> omega) | assumption | omega | fail)), ?_⟩
    intro x5 τ6 r_x5 hn_τ6 hf_τ6 hq
    obtain ⟨hT, q4_1, q4_2, q4_3, q4_4, q4_5, q4_6, q4_7, q4_8, q4_9, q4_10, q4_11, q4_12, q4_13, q4_14, q4_15⟩ := hq
    replace q4_1 : ∃ c : Int, τ6.2.1 94 = st (σ.2.1 94) n1 c ∧ y_Ti σ n1 c ∧ (x5 = -1 ↔ ¬ c = 1) := q4_1
    replace q4_2 : ¬ (τ6.1 49) = 0 ∧ y_TT τ6 τ6 (σ.1 5) (σ.1 5) ∧ y_Un τ6 (σ.1 5) (τ6.1 48) (τ6.2.1 84) := q4_2
    replace q4_3 : (σ.1 51) ≤ (τ6.1 51) ∧ (τ6.1 51) ≤ (σ.1 51) + 11700 := q4_3
    replace q4_4 : (σ.1 52) ≤ (τ6.1 52) ∧ (τ6.1 52) ≤ (σ.1 52) + 11700 := q4_4
    replace q4_5 : ∀ y : Int, y < (σ.1 51) → (τ6.2.1 86 y = σ.2.1 86 y ∧ τ6.2.1 87 y = σ.2.1 87 y) ∧ τ6.2.1 88 y = σ.2.1 88 y ∧ τ6.2.1 89 y = σ.2.1 89 y ∧ τ6.2.1 90 y = σ.2.1 90 y := q4_5
    replace q4_6 : ∀ e : Int, e < (σ.1 52) → τ6.2.1 91 e = σ.2.1 91 e := q4_6
    replace q4_7 : x5 = -1 → (τ6.1 51) = (σ.1 51) ∧ (τ6.1 52) = (σ.1 52) := q4_7
    replace q4_8 : ¬ x5 = -1 → x5 = (σ.1 51) ∧ (σ.1 51) < (τ6.1 51) := q4_8
    replace q4_9 : ¬ x5 = -1 → ∃ ρ : Int → Int → Int → Int, y_TC ρ τ6 := q4_9
    replace q4_10 : ¬ x5 = -1 → ∀ y : Int, (σ.1 51) ≤ y → y < (τ6.1 51) → y_c0 τ6 (τ6.2.1 90 y) (τ6.2.1 88 y) (τ6.2.1 89 y) := q4_10
    replace q4_11 : ¬ x5 = -1 → ∀ y : Int, (σ.1 51) ≤ y → y < (τ6.1 51) → y_nd τ6 (τ6.2.1 86) (τ6.2.1 87) (τ6.2.1 91) (τ6.2.1 88) (τ6.2.1 89) (τ6.2.1 90) y (y + 1) (τ6.1 51) (τ6.1 52) := q4_11
    replace q4_12 : ¬ x5 = -1 → τ6.2.1 90 (σ.1 51) = τ6.2.1 71 (y_rt σ n1) ∧ τ6.2.1 88 (σ.1 51) = 0 ∧ τ6.2.1 89 (σ.1 51) = σ.2.1 15 n1 - 1 := q4_12
    replace q4_13 : ¬ x5 = -1 → 0 ≤ y_rt σ n1 ∧ y_rt σ n1 < (σ.1 3) := q4_13
    replace q4_14 : ¬ x5 = -1 → (τ6.1 50) = n1 ∧ (τ6.1 45) = σ.2.1 15 n1 - 1 ∧ 1 < σ.2.1 15 n1 := q4_14
    replace q4_15 : ¬ x5 = -1 → ∀ k : Int, 0 ≤ k → k < (σ.2.1 15 n1 - 1) → τ6.2.1 72 k = σ.2.1 16 (σ.2.1 14 n1 + 1 + k) ∧ τ6.2.1 74 k = σ.2.1 17 (σ.2.1 14 n1 + 1 + k) ∧ ((σ.2.1 17 (σ.2.1 14 n1 + 1 + k) = -1 ∧ τ6.2.1 73 k = -1) ∨ (¬ σ.2.1 17 (σ.2.1 14 n1 + 1 + k) = -1 ∧ τ6.2.1 73 k = τ6.2.1 71 (σ.2.1 16 (σ.2.1 14 (σ.2.1 17 (σ.2.1 14 n1 + 1 + k)))))) := q4_15
    have w3_τ6 : τ6.1 3 = σ.1 3 := hf_τ6.1 3 (by decide)
    have w4_τ6 : τ6.1 4 = σ.1 4 := hf_τ6.1 4 (by decide)
    have w5_τ6 : τ6.1 5 = σ.1 5 := hf_τ6.1 5 (by decide)
    have w10_τ6 : τ6.1 10 = σ.1 10 := hf_τ6.1 10 (by decide)
    have w11_τ6 : τ6.1 11 = σ.1 11 := hf_τ6.1 11 (by decide)
    have g8_τ6 : τ6.2.1 8 = σ.2.1 8 := hf_τ6.2.1 8 (by decide)
    have g10_τ6 : τ6.2.1 10 = σ.2.1 10 := hf_τ6.2.1 10 (by decide)
    have g12_τ6 : τ6.2.1 12 = σ.2.1 12 := hf_τ6.2.1 12 (by decide)
    have g13_τ6 : τ6.2.1 13 = σ.2.1 13 := hf_τ6.2.1 13 (by decide)
    have g14_τ6 : τ6.2.1 14 = σ.2.1 14 := hf_τ6.2.1 14 (by decide)
    have g15_τ6 : τ6.2.1 15 = σ.2.1 15 := hf_τ6.2.1 15 (by decide)
    have g16_τ6 : τ6.2.1 16 = σ.2.1 16 := hf_τ6.2.1 16 (by decide)
    have g17_τ6 : τ6.2.1 17 = σ.2.1 17 := hf_τ6.2.1 17 (by decide)
    have g18_τ6 : τ6.2.1 18 = σ.2.1 18 := hf_τ6.2.1 18 (by decide)
    have g19_τ6 : τ6.2.1 19 = σ.2.1 19 := hf_τ6.2.1 19 (by decide)
    have g20_τ6 : τ6.2.1 20 = σ.2.1 20 := hf_τ6.2.1 20 (by decide)
    have W3 : τ6.1 3 = σ.1 3 := by first | exact w3_τ6.trans W3 | omega
    have W4 : τ6.1 4 = σ.1 4 := by first | exact w4_τ6.trans W4 | omega
    have W5 : τ6.1 5 = σ.1 5 := by first | exact w5_τ6.trans W5 | omega
    have W10 : τ6.1 10 = σ.1 10 := by first | exact w10_τ6.trans W10 | omega
    have W11 : τ6.1 11 = σ.1 11 := by first | exact w11_τ6.trans W11 | omega
    have G8 : τ6.2.1 8 = σ.2.1 8 := (g8_τ6).trans G8
    have G10 : τ6.2.1 10 = σ.2.1 10 := (g10_τ6).trans G10
    have G12 : τ6.2.1 12 = σ.2.1 12 := (g12_τ6).trans G12
    have G13 : τ6.2.1 13 = σ.2.1 13 := (g13_τ6).trans G13
    have G14 : τ6.2.1 14 = σ.2.1 14 := (g14_τ6).trans G14
    have G15 : τ6.2.1 15 = σ.2.1 15 := (g15_τ6).trans G15
    have G16 : τ6.2.1 16 = σ.2.1 16 := (g16_τ6).trans G16
    have G17 : τ6.2.1 17 = σ.2.1 17 := (g17_τ6).trans G17
    have G18 : τ6.2.1 18 = σ.2.1 18 := (g18_τ6).trans G18
    have G19 : τ6.2.1 19 = σ.2.1 19 := (g19_τ6).trans G19
    have G20 : τ6.2.1 20 = σ.2.1 20 := (g20_τ6).trans G20
    have Y20 : ca (τ6.2.1 12) ((τ6.1 3)) ≤ (τ6.1 4) := by rw [show (ca (τ6.2.1 12) ((τ6.1 3)) ≤ (τ6.1 4)) = (ca (σ.2.1 12) ((σ.1 3)) ≤ (σ.1 4)) from by rw [w3_τ6, w4_τ6, g12_τ6]]; exact Y20
    have A8 : ∀ j, 0 ≤ τ6.2.1 8 j ∧ τ6.2.1 8 j ≤ 1 := fun j => hT.2 8 j
    have A10 : ∀ j, (-1) ≤ τ6.2.1 10 j ∧ τ6.2.1 10 j ≤ 999 := fun j => hT.2 10 j
    have A12 : ∀ j, 0 ≤ τ6.2.1 12 j ∧ τ6.2.1 12 j ≤ 1 := fun j => hT.2 12 j
    have A13 : ∀ j, 0 ≤ τ6.2.1 13 j ∧ τ6.2.1 13 j ≤ 4 := fun j => hT.2 13 j
    have A14 : ∀ j, 0 ≤ τ6.2.1 14 j ∧ τ6.2.1 14 j ≤ 30000 := fun j => hT.2 14 j
    have A15 : ∀ j, 0 ≤ τ6.2.1 15 j ∧ τ6.2.1 15 j ≤ 300 := fun j => hT.2 15 j
    have A16 : ∀ j, 0 ≤ τ6.2.1 16 j ∧ τ6.2.1 16 j ≤ 999 := fun j => hT.2 16 j
    have A17 : ∀ j, (-1) ≤ τ6.2.1 17 j ∧ τ6.2.1 17 j ≤ 1499 := fun j => hT.2 17 j
    have A18 : ∀ j, 0 ≤ τ6.2.1 18 j ∧ τ6.2.1 18 j ≤ 90000 := fun j => hT.2 18 j
    have A19 : ∀ j, 0 ≤ τ6.2.1 19 j ∧ τ6.2.1 19 j ≤ 60 := fun j => hT.2 19 j
    have A20 : ∀ j, 0 ≤ τ6.2.1 20 j ∧ τ6.2.1 20 j ≤ 1499 := fun j => hT.2 20 j
    have A86 : ∀ j, (-1500) ≤ τ6.2.1 86 j ∧ τ6.2.1 86 j ≤ 1499 := fun j => hT.2 86 j
    have A87 : ∀ j, 0 ≤ τ6.2.1 87 j ∧ τ6.2.1 87 j ≤ 120000 := fun j => hT.2 87 j
    have A88 : ∀ j, 0 ≤ τ6.2.1 88 j ∧ τ6.2.1 88 j ≤ 59 := fun j => hT.2 88 j
    have A89 : ∀ j, 0 ≤ τ6.2.1 89 j ∧ τ6.2.1 89 j ≤ 59 := fun j => hT.2 89 j
    have A90 : ∀ j, (-1) ≤ τ6.2.1 90 j ∧ τ6.2.1 90 j ≤ 99 := fun j => hT.2 90 j
    have A91 : ∀ j, 0 ≤ τ6.2.1 91 j ∧ τ6.2.1 91 j ≤ 60000 := fun j => hT.2 91 j
    have A94 : ∀ j, (-1) ≤ τ6.2.1 94 j ∧ τ6.2.1 94 j ≤ 2 := fun j => hT.2 94 j
    have v3 : 0 ≤ τ6.1 3 ∧ τ6.1 3 ≤ 1000 := hT.1 3
    have v4 : 0 ≤ τ6.1 4 ∧ τ6.1 4 ≤ 100 := hT.1 4
    have v5 : 0 ≤ τ6.1 5 ∧ τ6.1 5 ≤ 1500 := hT.1 5
    have v10 : (-1) ≤ τ6.1 10 ∧ τ6.1 10 ≤ 999 := hT.1 10
    have v11 : (-1) ≤ τ6.1 11 ∧ τ6.1 11 ≤ 999 := hT.1 11
    have v45 : 0 ≤ τ6.1 45 ∧ τ6.1 45 ≤ 59 := hT.1 45
    have v48 : 0 ≤ τ6.1 48 ∧ τ6.1 48 ≤ 1500 := hT.1 48
    have v49 : 0 ≤ τ6.1 49 ∧ τ6.1 49 ≤ 1 := hT.1 49
    have v50 : 0 ≤ τ6.1 50 ∧ τ6.1 50 ≤ 1500 := hT.1 50
    have v51 : 0 ≤ τ6.1 51 ∧ τ6.1 51 ≤ 60000 := hT.1 51
    have v52 : 0 ≤ τ6.1 52 ∧ τ6.1 52 ≤ 120000 := hT.1 52
    have a88_51 : 0 ≤ τ6.2.1 88 (τ6.1 51) ∧ τ6.2.1 88 (τ6.1 51) ≤ 59 := hT.2 88 _
    have a89_51 : 0 ≤ τ6.2.1 89 (τ6.1 51) ∧ τ6.2.1 89 (τ6.1 51) ≤ 59 := hT.2 89 _
    have a90_51 : (-1) ≤ τ6.2.1 90 (τ6.1 51) ∧ τ6.2.1 90 (τ6.1 51) ≤ 99 := hT.2 90 _
    have TO6 : y_TO σ τ6 n1 x5 := ⟨q4_1, q4_2, q4_3, q4_4, q4_5, q4_6, fun z => ⟨q4_8 z, q4_9 z, q4_10 z, q4_11 z, q4_12 z, q4_13 z, q4_14 z, q4_15 z⟩⟩
    have b76 : τ6.2.2 7 = σ.2.2 7 := hf_τ6.2.2 7 (by decide)
    refine ⟨(⟨by (first | omega | (simp only [st_s] <;> omega) | assumption | omega | fail), by (first | omega | (simp only [st_s] <;> omega) | assumption | omega | fail)⟩ : rg (σ.1 51)), ?_⟩
    refine ⟨(⟨by (first | omega | (simp only [st_s] <;> omega) | assumption | omega | fail), by (first | omega | (simp only [st_s] <;> omega) | assumption | omega | fail)⟩ : rg (σ.1 52)), ?_⟩
    exact l_37 ((25 - 0 : Int).toNat + 1) _ _ _ _ _ (show (25 - 0 : Int) < (((25 - 0 : Int).toNat + 1 : Nat) : Int) from by ((first | omega | (simp only [st_s] <;> omega) | assumption | omega | fail))) hT (show τ6.1 3 = σ.1 3 from by first | exact W3 | omega) (show τ6.1 4 = σ.1 4 from by first | exact W4 | omega) (show τ6.1 5 = σ.1 5 from by first | exact W5 | omega) (show τ6.1 10 = σ.1 10 from by first | exact W10 | omega) (show τ6.1 11 = σ.1 11 from by first | exact W11 | omega) G8 G10 G12 G13 G14 G15 G16 G17 G18 G19 G20 (show (σ.1 51) = (σ.1 51) ∧ (σ.1 52) = (σ.1 52) from by (first | omega | (simp only [st_s] <;> omega) | assumption | omega | fail)) (show y_TO σ τ6 n1 x5 from by (first | exact TO6 | exact y_TO_b i37_2 | fail)) (show ∀ k : Int, ¬ (24 * n1 ≤ k ∧ k < 24 * n1 + 24) → τ6.2.2 7 k = σ.2.2 7 k from by (first | (intro k a; rw [b76]) | (intro k a; rw [st_n _ _ (by omega)]; exact i37_3 k a) | fail)) (show σ.2.1 94 n1 = -1 from by (first | omega | (simp only [st_s] <;> omega) | assumption | omega | fail)) (show 0 ≤ 0 ∧ 0 ≤ 24 from by (first | omega | (simp only [st_s] <;> omega) | assumption | omega | fail))
  ·
    intro x9 r_x9 e_x9
    have b_x9 : (-1) ≤ x9 ∧ x9 ≤ 2 := by rw [e_x9]; exact hT.2 94 _
    exact ⟨hT, (show y_CT σ from by (first | exact p11 | exact y_CT_e ⟨rfl, rfl, rfl, rfl, rfl, rfl, rfl, rfl, rfl, rfl⟩ rfl rfl rfl rfl rfl (CTx (fun z y a b => i66_7 z y a (by omega))).1 | exact y_CT_e ⟨rfl, rfl, rfl, rfl, rfl, rfl, rfl, rfl, rfl, rfl⟩ rfl rfl rfl rfl rfl (CTx (fun z => absurd c14 z)).1 | fail)), (show σ.2.1 94 n1 = x9 ∧ 0 ≤ x9 ∧ x9 ≤ 2 from by (first | (have w := (CTn (by omega)).2.1.1; exact ⟨by omega, by omega, by omega⟩) | (have w := (CTx (fun z y a b => i66_7 z y a (by omega))).2; exact ⟨e_x27.symm, by omega, by omega⟩) | (have w := (CTx (fun z => absurd c14 z)).2; exact ⟨e_x27.symm, by omega, by omega⟩) | fail)), (show ((σ.1 49) = 0 ∨ (y_TT σ σ (σ.1 5) (σ.1 5) ∧ y_Un σ (σ.1 5) (σ.1 48) (σ.2.1 84))) from by (first | exact p8 | exact Or.inr ⟨to2.2.1, to2.2.2⟩ | fail)), (show (σ.1 51) = (σ.1 51) ∧ (σ.1 52) = (σ.1 52) from by (first | omega | (simp only [st_s] <;> omega) | assumption | omega | fail)), (show ∀ y : Int, y < (σ.1 51) → (σ.2.1 86 y = σ.2.1 86 y ∧ σ.2.1 87 y = σ.2.1 87 y) ∧ σ.2.1 88 y = σ.2.1 88 y ∧ σ.2.1 89 y = σ.2.1 89 y ∧ σ.2.1 90 y = σ.2.1 90 y from by (first | exact to5 | exact fun _ _ => ⟨⟨rfl, rfl⟩, rfl, rfl, rfl⟩ | fail)), (show ∀ e : Int, e < (σ.1 52) → σ.2.1 91 e = σ.2.1 91 e from by (first | exact to6 | exact fun _ _ => rfl | fail)), (show ∀ k : Int, ¬ (24 * n1 ≤ k ∧ k < 24 * n1 + 24) → σ.2.2 7 k = σ.2.2 7 k from by (first | exact i66_3 | exact fun _ _ => rfl | fail)), (show ∀ i : Int, ¬ i = n1 → σ.2.1 94 i = σ.2.1 94 i from by (first | exact fun _ _ => rfl | (have q9 := to1; obtain ⟨cc, cc1, _⟩ := q9; intro i a; rw [cc1, st_n _ _ a]) | fail)), (show ¬ σ.2.1 94 n1 = -1 → σ = σ from by (first | exact fun _ => rfl | (intro z; exfalso; omega) | fail))⟩
