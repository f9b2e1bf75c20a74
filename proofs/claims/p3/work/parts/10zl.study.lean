-- pure: what the class keeps of definitions between calls
/-- an axiom that was found to define a rule: its only tree, and what was found in it -/
def c_DT (In : Int → Prop) (σ : S0) (i x : Int) : Prop := σ.2.1 14 (i + 1) ≤ σ.2.1 14 i + 60 ∧ ∃ (p w sz ft : Int) (ru : Int → Int), (g_pe σ p ∧ g_we σ w ∧ σ.2.1 15 (σ.2.1 14 i) = p ∧ 0 ≤ p ∧ 0 ≤ w) ∧ (1 ≤ sz ∧ ∀ j : Int, 0 ≤ j → j < sz → 0 ≤ ru j ∧ ru j < σ.1 7) ∧ g_T (σ.2.1 14 (i + 1) - σ.2.1 14 i - 1) i p (fun k => σ.2.1 15 (σ.2.1 14 i + 1 + k)) (fun k => σ.2.1 16 (σ.2.1 14 i + 1 + k)) (σ.2.1 13) (σ.2.1 14) (σ.2.1 15) (σ.2.1 16) (σ.2.1 10) (σ.2.1 27) (σ.2.1 28) (σ.2.1 29) In (σ.2.1 10 w) 0 (σ.2.1 14 (i + 1) - σ.2.1 14 i - 1) (g_pre ru sz.toNat) ∧ g_pp sz ft (σ.2.1 13) (σ.2.1 14) (σ.2.1 16) (σ.2.1 27) (σ.2.1 28) (σ.2.1 29) ru ∧ (0 ≤ ft ∧ ft + σ.2.1 28 (ru ft) < sz) ∧ x = ru ft + 1 ∧ σ.2.1 13 (ru ft) = 2 ∧ g_fx ft (σ.2.1 28 (ru ft) + 1) (σ.2.1 13) (σ.2.1 14) (σ.2.1 15) ru
theorem c_DT_e {In : Int → Prop} {σ τ : S0} {i x : Int} (h : c_DT In σ i x) (w3 : τ.1 3 = σ.1 3) (w7 : τ.1 7 = σ.1 7) (g : ∀ k, k ∈ [2, 3, 4, 8, 10, 13, 14, 15, 16, 27, 28, 29] → τ.2.1 k = σ.2.1 k) : c_DT In τ i x := by
  obtain ⟨h1, p, w, sz, ft, ru, ⟨a1, a2, a3⟩, h2⟩ := h
  unfold c_DT
  rw [w7, g 10 (by decide), g 13 (by decide), g 14 (by decide), g 15 (by decide), g 16 (by decide), g 27 (by decide), g 28 (by decide), g 29 (by decide)]
  exact ⟨h1, p, w, sz, ft, ru, ⟨g_pe_e w3 (g 2 (by decide)) (g 3 (by decide)) (g 4 (by decide)) (g 8 (by decide)) a1, (g_we_e w3 (g 2 (by decide)) (g 3 (by decide)) (g 4 (by decide)) (g 8 (by decide))).mpr a2, a3⟩, h2⟩
theorem c_DT_m {In In2 : Int → Prop} (hI : ∀ r, In r → In2 r) {σ : S0} {i x : Int} (h : c_DT In σ i x) : c_DT In2 σ i x := by
  obtain ⟨h1, p, w, sz, ft, ru, a, b, c, d⟩ := h
  exact ⟨h1, p, w, sz, ft, ru, a, b, g_T_w hI c, d⟩
theorem c_DT_0 {In : Int → Prop} {σ : S0} {i len goal sz ft pv wf : Int} {row lf ru : Int → Int} (h : g_T len i pv row lf (σ.2.1 13) (σ.2.1 14) (σ.2.1 15) (σ.2.1 16) (σ.2.1 10) (σ.2.1 27) (σ.2.1 28) (σ.2.1 29) In goal 0 len (g_pre ru sz.toNat)) (l2 : ∀ r : Int, In r → σ.2.1 14 r + 2 ≤ σ.2.1 14 (r + 1)) (hl : len = σ.2.1 14 (i + 1) - σ.2.1 14 i - 1) (e : ∀ k : Int, 0 ≤ k → k < len → row k = σ.2.1 15 (σ.2.1 14 i + 1 + k) ∧ lf k = σ.2.1 16 (σ.2.1 14 i + 1 + k)) (l60 : len ≤ 59) (hg : goal = σ.2.1 10 wf) (pe : g_pe σ pv) (we : g_we σ wf) (tp : σ.2.1 15 (σ.2.1 14 i) = pv) (p0 : 0 ≤ pv) (w0 : 0 ≤ wf) (s1 : 1 ≤ sz) (nd : ∀ j : Int, 0 ≤ j → j < sz → 0 ≤ ru j ∧ ru j < σ.1 7)
    (pp : g_pp sz ft (σ.2.1 13) (σ.2.1 14) (σ.2.1 16) (σ.2.1 27) (σ.2.1 28) (σ.2.1 29) ru) (f0 : 0 ≤ ft) (f1 : ft + σ.2.1 28 (ru ft) < sz) (k2 : σ.2.1 13 (ru ft) = 2) (fx : g_fx ft (σ.2.1 28 (ru ft) + 1) (σ.2.1 13) (σ.2.1 14) (σ.2.1 15) ru) : c_DT In σ i (ru ft + 1) := by
  have w := g_T_rw l2 (row2 := fun k => σ.2.1 15 (σ.2.1 14 i + 1 + k)) (lf2 := fun k => σ.2.1 16 (σ.2.1 14 i + 1 + k)) (fun k a b => ⟨(e k a b).1.symm, (e k a b).2.symm⟩) h
  rw [hl, hg] at w
  exact ⟨by omega, pv, wf, sz, ft, ru, ⟨pe, we, tp, p0, w0⟩, ⟨s1, nd⟩, w, pp, ⟨f0, f1⟩, rfl, k2, fx⟩
def c_DS (In : Int → Prop) (σ : S0) : Prop := (∀ v, σ.2.1 100 v = 0) ∧ (∀ i : Int, 0 ≤ i → i < 1500 → ¬ σ.2.1 93 i = 0 → i < σ.1 7 ∧ 1 ≤ σ.2.1 94 i ∧ c_DT In σ i (σ.2.1 94 i)) ∧ σ.1 57 ≤ σ.1 7
def c_DB (lb : Nat) (σ : S0) : Prop := (g_bd (σ.1 60) (σ.2.1 95) (σ.2.1 98) (σ.2.1 99) (σ.2.1 97) (σ.2.1 28)) ∧ σ.1 60 ≤ (lb : Int) ∧ σ.1 59 ≤ σ.1 57 ∧ ∀ r : Int, 0 ≤ r → r < 1500 → ¬ σ.2.1 95 r = 0 → r < σ.1 7
theorem c_DS_h {In : Int → Prop} {σ τ : S0} {wv wa wb : List Nat} (h : c_DS In σ) (hf : f_r wv wa wb σ τ) (d1 : [3, 7, 57].all (fun i => !wv.contains i) = true) (d2 : [2, 3, 4, 8, 10, 13, 14, 15, 16, 27, 28, 29, 93, 94, 100].all (fun i => !wa.contains i) = true) : c_DS In τ := by
  obtain ⟨h1, h2, h3⟩ := h
  have g := fun i hi => hf.2.1 i (c_fl d2 i hi)
  unfold c_DS
  rw [hf.1 7 (c_fl d1 7 (by decide)), hf.1 57 (c_fl d1 57 (by decide)), g 93 (by decide), g 94 (by decide), g 100 (by decide)]
  exact ⟨h1, fun i a b c => ⟨(h2 i a b c).1, (h2 i a b c).2.1, c_DT_e (h2 i a b c).2.2 (hf.1 3 (c_fl d1 3 (by decide))) (hf.1 7 (c_fl d1 7 (by decide))) (fun k hk => g k (by simp only [List.mem_cons, List.mem_nil_iff, or_false] at hk ⊢; omega))⟩, h3⟩
theorem c_DS_m {In In2 : Int → Prop} (hI : ∀ r, In r → In2 r) {σ : S0} (h : c_DS In σ) : c_DS In2 σ := ⟨h.1, fun i a b c => ⟨(h.2.1 i a b c).1, (h.2.1 i a b c).2.1, c_DT_m hI (h.2.1 i a b c).2.2⟩, h.2.2⟩
theorem c_DS_a {In : Int → Prop} {σ τ : S0} {i x y : Int} (h : c_DS In σ) (w3 : τ.1 3 = σ.1 3) (w7 : τ.1 7 = σ.1 7) (w57 : τ.1 57 = σ.1 57) (g : ∀ k, k ∈ [2, 3, 4, 8, 10, 13, 14, 15, 16, 27, 28, 29, 100] → τ.2.1 k = σ.2.1 k) (e93 : τ.2.1 93 = st (σ.2.1 93) i x) (e94 : τ.2.1 94 = st (σ.2.1 94) i y) (i1 : i < σ.1 7) (y1 : 1 ≤ y) (dt : c_DT In σ i y) : c_DS In τ := by
  obtain ⟨h1, h2, h3⟩ := h
  have g2 : ∀ k, k ∈ [2, 3, 4, 8, 10, 13, 14, 15, 16, 27, 28, 29] → τ.2.1 k = σ.2.1 k := fun k hk => g k (by simp only [List.mem_cons, List.mem_nil_iff, or_false] at hk ⊢; omega)
  unfold c_DS
  rw [w7, w57, g 100 (by decide)]
  refine ⟨h1, fun j a b c => ?_, h3⟩
  by_cases z : j = i
  · rw [z, e94, st_s]; exact ⟨i1, y1, c_DT_e dt w3 w7 g2⟩
  · rw [e93, st_n _ _ z] at c
    rw [e94, st_n _ _ z]
    have w := h2 j a b c
    exact ⟨w.1, w.2.1, c_DT_e w.2.2 w3 w7 g2⟩
/-- slots alone have changed, and are clear again -/
theorem c_DS_s {In : Int → Prop} {σ τ : S0} {wv wa wb : List Nat} (h : c_DS In σ) (hf : f_r wv wa wb σ τ) (d1 : [3, 7, 57].all (fun i => !wv.contains i) = true) (d2 : [2, 3, 4, 8, 10, 13, 14, 15, 16, 27, 28, 29, 93, 94].all (fun i => !wa.contains i) = true) (z : ∀ v, τ.2.1 100 v = 0) : c_DS In τ := by
  obtain ⟨h1, h2, h3⟩ := h
  have g := fun i hi => hf.2.1 i (c_fl d2 i hi)
  unfold c_DS
  rw [hf.1 7 (c_fl d1 7 (by decide)), hf.1 57 (c_fl d1 57 (by decide)), g 93 (by decide), g 94 (by decide)]
  exact ⟨z, fun i a b c => ⟨(h2 i a b c).1, (h2 i a b c).2.1, c_DT_e (h2 i a b c).2.2 (hf.1 3 (c_fl d1 3 (by decide))) (hf.1 7 (c_fl d1 7 (by decide))) (fun k hk => g k (by simp only [List.mem_cons, List.mem_nil_iff, or_false] at hk ⊢; omega))⟩, h3⟩
theorem c_DB_h {lb : Nat} {σ τ : S0} {wv wa wb : List Nat} (h : c_DB lb σ) (hf : f_r wv wa wb σ τ) (d1 : [7, 57, 59, 60].all (fun i => !wv.contains i) = true) (d2 : [28, 95, 97, 98, 99].all (fun i => !wa.contains i) = true) : c_DB lb τ := by
  unfold c_DB
  rw [hf.1 7 (c_fl d1 7 (by decide)), hf.1 57 (c_fl d1 57 (by decide)), hf.1 59 (c_fl d1 59 (by decide)), hf.1 60 (c_fl d1 60 (by decide)), hf.2.1 28 (c_fl d2 28 (by decide)), hf.2.1 95 (c_fl d2 95 (by decide)), hf.2.1 97 (c_fl d2 97 (by decide)), hf.2.1 98 (c_fl d2 98 (by decide)), hf.2.1 99 (c_fl d2 99 (by decide))]
  exact h
theorem c_DB_w {lb : Nat} {σ τ : S0} {wv wa wb : List Nat} (h : c_DB lb σ) (hf : f_r wv wa wb σ τ) (d1 : [7, 59, 60].all (fun i => !wv.contains i) = true) (d2 : [28, 95, 97, 98, 99].all (fun i => !wa.contains i) = true) (s : σ.1 57 ≤ τ.1 57) : c_DB lb τ := by
  unfold c_DB at h ⊢
  rw [hf.1 7 (c_fl d1 7 (by decide)), hf.1 59 (c_fl d1 59 (by decide)), hf.1 60 (c_fl d1 60 (by decide)), hf.2.1 28 (c_fl d2 28 (by decide)), hf.2.1 95 (c_fl d2 95 (by decide)), hf.2.1 97 (c_fl d2 97 (by decide)), hf.2.1 98 (c_fl d2 98 (by decide)), hf.2.1 99 (c_fl d2 99 (by decide))]
  exact ⟨h.1, h.2.1, by have := h.2.2.1; omega, h.2.2.2⟩
theorem g_tg_a {f g f' g' : Int → Int} {i x y : Int} (h : ∀ i : Int, 0 ≤ i → i < 1500 → ¬ f i = 0 → 1 ≤ g i) (hy : 1 ≤ y) (ef : f' = st f i x) (eg : g' = st g i y) : ∀ i : Int, 0 ≤ i → i < 1500 → ¬ f' i = 0 → 1 ≤ g' i := fun j a b c => by
  rw [ef] at c; rw [eg]
  by_cases z : j = i
  · rw [z, st_s]; exact hy
  · rw [st_n _ _ z] at c ⊢; exact h j a b c
set_option maxHeartbeats 1000000 in
theorem K_J7_fill_53178_q117 {n1 : Int} {σ : S0} (hT : c_T σ) (p1 : n1 = 0) : W_J7_fill_53178_q117 n1 σ (fun (τ : S0) => (c_T τ) ∧ (∀ e : Int, 0 ≤ e → e < 1500 → τ.2.1 95 e = 0)) := by
  intro P5 h5
  have l_5 : ∀ (m_5 : Nat) (u2_5 : Int) (τ_5 : S0), 1501 - u2_5 < (m_5 : Int) → (c_T τ_5) → (0 ≤ u2_5) → (u2_5 ≤ 1500) → (∀ e : Int, 0 ≤ e → e < u2_5 → τ_5.2.1 95 e = 0) → P5 n1 u2_5 1500 τ_5 := by
    intro m_5
    induction m_5 with
    | zero =>
      intro u2_5 τ_5 hm hT i5_1 i5_2 i5_3
      exfalso; (first | omega | (simp only [st_s] <;> omega) | assumption | omega | fail)
    | succ m_5 ih_5 =>
      intro u2_5 τ_5 hm_5 hT i5_1 i5_2 i5_3
      refine h5 n1 u2_5 1500 τ_5 ?_
      refine ⟨fun c1 => ?_, fun c1 => ?_⟩
      ·
        exact ⟨hT, (show ∀ e : Int, 0 ≤ e → e < 1500 → τ_5.2.1 95 e = 0 from by (intro e a b; exact i5_3 e a (by omega)))⟩
      ·
        refine ⟨(show 0 ≤ u2_5 ∧ u2_5 < 1500 from by (first | omega | (simp only [st_s] <;> omega) | assumption | omega | fail)), ?_⟩
        replace hT := cT_a (k := 95) (j := u2_5) hT (show (0 : Int) ≤ n1 ∧ n1 ≤ 1500 from by (first | omega | (simp only [st_s] <;> omega) | assumption | omega | fail))
        refine ⟨(⟨by (first | omega | (simp only [st_s] <;> omega) | assumption | omega | fail), by (first | omega | (simp only [st_s] <;> omega) | assumption | omega | fail)⟩ : rg (u2_5 + 1)), ?_⟩
        exact ih_5 _ _ (show (1501 - (u2_5 + 1) : Int) < ((m_5 : Nat) : Int) from by ((first | omega | (simp only [st_s] <;> omega) | assumption | omega | fail))) hT (show 0 ≤ (u2_5 + 1) from by (first | omega | (simp only [st_s] <;> omega) | assumption | omega | fail)) (show (u2_5 + 1) ≤ 1500 from by (first | omega | (simp only [st_s] <;> omega) | assumption | omega | fail)) (show ∀ e : Int, 0 ≤ e → e < (u2_5 + 1) → (st (τ_5.2.1 95) u2_5 n1) e = 0 from by (first | (intro e a b; omega) | (intro e a b; by_cases z : e = u2_5; (rw [z, st_s]; omega); (rw [st_n _ _ z]; exact i5_3 e a (by omega))) | fail))
  exact l_5 ((1501 - 0 : Int).toNat + 1) _ _ (show (1501 - 0 : Int) < (((1501 - 0 : Int).toNat + 1 : Nat) : Int) from by ((first | omega | (simp only [st_s] <;> omega) | assumption | omega | fail))) hT (show 0 ≤ 0 from by (first | omega | (simp only [st_s] <;> omega) | assumption | omega | fail)) (show 0 ≤ 1500 from by (first | omega | (simp only [st_s] <;> omega) | assumption | omega | fail)) (show ∀ e : Int, 0 ≤ e → e < 0 → σ.2.1 95 e = 0 from by (first | (intro e a b; omega) | (intro e a b; by_cases z : e = u2_5; (rw [z, st_s]; omega); (rw [st_n _ _ z]; exact i5_3 e a (by omega))) | fail))
set_option maxHeartbeats 1000000 in
theorem K_X2_turn {n1 : Int} {σ : S0} (hT : c_T σ) (p1 : 0 ≤ n1) (p2 : n1 < 1500) : W_X2_turn n1 σ (fun (x : Int) (τ : S0) => (c_T τ) ∧ (∀ lb : Nat, c_DB lb τ) ∧ ((τ.1 59) = 0 ∧ (τ.1 60) = 0)) := by
  have v58 : (-2147483648) ≤ σ.1 58 ∧ σ.1 58 ≤ 2147483647 := hT.1 58
  have v59 : 0 ≤ σ.1 59 ∧ σ.1 59 ≤ 1500 := hT.1 59
  have v60 : 0 ≤ σ.1 60 ∧ σ.1 60 ≤ 1048576 := hT.1 60
  intro P19 P39 h19 h39
  refine ⟨(show 0 ≤ n1 ∧ n1 < 1500 from by (first | omega | (simp only [st_s] <;> omega) | assumption | omega | fail)), ?_⟩
  intro x2 r_x2 e_x2
  have b_x2 : 0 ≤ x2 ∧ x2 ≤ 1 := by rw [e_x2]; exact hT.2 96 _
  refine ⟨fun c3 => ?_, fun c3 => ?_⟩
  ·
    refine h19 _ _ _ _ ?_
    refine ⟨(show 0 ≤ n1 ∧ n1 < 1500 from by (first | omega | (simp only [st_s] <;> omega) | assumption | omega | fail)), ?_⟩
    refine ⟨(show 0 ≤ 0 ∧ 0 ≤ 1 from by (first | omega | (simp only [st_s] <;> omega) | assumption | omega | fail)), ?_⟩
    replace hT := cT_a (k := 96) (j := n1) hT (show (0 : Int) ≤ 0 ∧ 0 ≤ 1 from by (first | omega | (simp only [st_s] <;> omega) | assumption | omega | fail))
    refine ⟨(show 0 ≤ n1 ∧ n1 < 1500 from by (first | omega | (simp only [st_s] <;> omega) | assumption | omega | fail)), ?_⟩
    intro x7 r_x7 e_x7
    have b_x7 : 0 ≤ x7 ∧ x7 ≤ 1 := by rw [e_x7]; exact hT.2 96 _
    refine ⟨fun c8 => ?_, fun c8 => ?_⟩
    ·
      obtain ⟨τ_39, e_τ_39⟩ : ∃ z : S0, z = s_a σ 96 n1 0 := ⟨_, rfl⟩
      rw [← e_τ_39]
      replace hT : c_T τ_39 := by rw [e_τ_39]; exact hT
      have w58_τ_39 : τ_39.1 58 = σ.1 58 := by rw [e_τ_39]; rfl
      have w59_τ_39 : τ_39.1 59 = σ.1 59 := by rw [e_τ_39]; rfl
      have w60_τ_39 : τ_39.1 60 = σ.1 60 := by rw [e_τ_39]; rfl
      have v58 : (-2147483648) ≤ τ_39.1 58 ∧ τ_39.1 58 ≤ 2147483647 := hT.1 58
      have v59 : 0 ≤ τ_39.1 59 ∧ τ_39.1 59 ≤ 1500 := hT.1 59
      have v60 : 0 ≤ τ_39.1 60 ∧ τ_39.1 60 ≤ 1048576 := hT.1 60
      refine h39 _ _ _ ?_
      intro x9 r_x9
      replace hT := cT_v (i := 58) hT (show (-2147483648) ≤ x9 ∧ x9 ≤ 2147483647 from by (first | omega | (simp only [st_s] <;> omega) | assumption | omega | fail))
      refine ⟨_, K_J7_fill_53178_q117 hT (show (0 : Int) = 0 from by (first | omega | (simp only [st_s] <;> omega) | assumption | omega | fail)), ?_⟩
      intro τ12 hn_τ12 hf_τ12 hq
      obtain ⟨hT, q10_1⟩ := hq
      replace q10_1 : ∀ e : Int, 0 ≤ e → e < 1500 → τ12.2.1 95 e = 0 := q10_1
      have w58_τ12 : τ12.1 58 = x9 := hf_τ12.1 58 (by decide)
      have w59_τ12 : τ12.1 59 = τ_39.1 59 := hf_τ12.1 59 (by decide)
      have w60_τ12 : τ12.1 60 = τ_39.1 60 := hf_τ12.1 60 (by decide)
      have v58 : (-2147483648) ≤ τ12.1 58 ∧ τ12.1 58 ≤ 2147483647 := hT.1 58
      have v59 : 0 ≤ τ12.1 59 ∧ τ12.1 59 ≤ 1500 := hT.1 59
      have v60 : 0 ≤ τ12.1 60 ∧ τ12.1 60 ≤ 1048576 := hT.1 60
      replace hT := cT_v (i := 59) hT (show (0 : Int) ≤ 0 ∧ 0 ≤ 1500 from by (first | omega | (simp only [st_s] <;> omega) | assumption | omega | fail))
      replace hT := cT_v (i := 60) hT (show (0 : Int) ≤ 0 ∧ 0 ≤ 1048576 from by (first | omega | (simp only [st_s] <;> omega) | assumption | omega | fail))
      exact ⟨hT, (show ∀ lb : Nat, c_DB lb (s_v (s_v τ12 59 0) 60 0) from by (intro lb; show g_bd 0 _ _ _ _ _ ∧ (0 : Int) ≤ (lb : Int) ∧ (0 : Int) ≤ _ ∧ _; exact ⟨fun r a b c => absurd (q10_1 r a b) c, by omega, (hT.1 57).1, fun r a b c => absurd (q10_1 r a b) c⟩)), (show ((0 : Int)) = 0 ∧ ((0 : Int)) = 0 from by (first | omega | (simp only [st_s] <;> omega) | assumption | omega | fail))⟩
    ·
      obtain ⟨τ_39, e_τ_39⟩ : ∃ z : S0, z = s_a σ 96 n1 0 := ⟨_, rfl⟩
      rw [← e_τ_39]
      replace hT : c_T τ_39 := by rw [e_τ_39]; exact hT
      have w58_τ_39 : τ_39.1 58 = σ.1 58 := by rw [e_τ_39]; rfl
      have w59_τ_39 : τ_39.1 59 = σ.1 59 := by rw [e_τ_39]; rfl
      have w60_τ_39 : τ_39.1 60 = σ.1 60 := by rw [e_τ_39]; rfl
      have v58 : (-2147483648) ≤ τ_39.1 58 ∧ τ_39.1 58 ≤ 2147483647 := hT.1 58
      have v59 : 0 ≤ τ_39.1 59 ∧ τ_39.1 59 ≤ 1500 := hT.1 59
      have v60 : 0 ≤ τ_39.1 60 ∧ τ_39.1 60 ≤ 1048576 := hT.1 60
      refine h39 _ _ _ ?_
      intro x9 r_x9
      replace hT := cT_v (i := 58) hT (show (-2147483648) ≤ x9 ∧ x9 ≤ 2147483647 from by (first | omega | (simp only [st_s] <;> omega) | assumption | omega | fail))
      refine ⟨_, K_J7_fill_53178_q117 hT (show (0 : Int) = 0 from by (first | omega | (simp only [st_s] <;> omega) | assumption | omega | fail)), ?_⟩
      intro τ12 hn_τ12 hf_τ12 hq
      obtain ⟨hT, q10_1⟩ := hq
      replace q10_1 : ∀ e : Int, 0 ≤ e → e < 1500 → τ12.2.1 95 e = 0 := q10_1
      have w58_τ12 : τ12.1 58 = x9 := hf_τ12.1 58 (by decide)
      have w59_τ12 : τ12.1 59 = τ_39.1 59 := hf_τ12.1 59 (by decide)
      have w60_τ12 : τ12.1 60 = τ_39.1 60 := hf_τ12.1 60 (by decide)
      have v58 : (-2147483648) ≤ τ12.1 58 ∧ τ12.1 58 ≤ 2147483647 := hT.1 58
      have v59 : 0 ≤ τ12.1 59 ∧ τ12.1 59 ≤ 1500 := hT.1 59
      have v60 : 0 ≤ τ12.1 60 ∧ τ12.1 60 ≤ 1048576 := hT.1 60
      replace hT := cT_v (i := 59) hT (show (0 : Int) ≤ 0 ∧ 0 ≤ 1500 from by (first | omega | (simp only [st_s] <;> omega) | assumption | omega | fail))
      replace hT := cT_v (i := 60) hT (show (0 : Int) ≤ 0 ∧ 0 ≤ 1048576 from by (first | omega | (simp only [st_s] <;> omega) | assumption | omega | fail))
      exact ⟨hT, (show ∀ lb : Nat, c_DB lb (s_v (s_v τ12 59 0) 60 0) from by (intro lb; show g_bd 0 _ _ _ _ _ ∧ (0 : Int) ≤ (lb : Int) ∧ (0 : Int) ≤ _ ∧ _; exact ⟨fun r a b c => absurd (q10_1 r a b) c, by omega, (hT.1 57).1, fun r a b c => absurd (q10_1 r a b) c⟩)), (show ((0 : Int)) = 0 ∧ ((0 : Int)) = 0 from by (first | omega | (simp only [st_s] <;> omega) | assumption | omega | fail))⟩
  ·
    refine h19 _ _ _ _ ?_
    refine ⟨(show 0 ≤ n1 ∧ n1 < 1500 from by (first | omega | (simp only [st_s] <;> omega) | assumption | omega | fail)), ?_⟩
    refine ⟨(show 0 ≤ 1 ∧ 1 ≤ 1 from by (first | omega | (simp only [st_s] <;> omega) | assumption | omega | fail)), ?_⟩
    replace hT := cT_a (k := 96) (j := n1) hT (show (0 : Int) ≤ 1 ∧ 1 ≤ 1 from by (first | omega | (simp only [st_s] <;> omega) | assumption | omega | fail))
    refine ⟨(show 0 ≤ n1 ∧ n1 < 1500 from by (first | omega | (simp only [st_s] <;> omega) | assumption | omega | fail)), ?_⟩
    intro x7 r_x7 e_x7
    have b_x7 : 0 ≤ x7 ∧ x7 ≤ 1 := by rw [e_x7]; exact hT.2 96 _
    refine ⟨fun c8 => ?_, fun c8 => ?_⟩
    ·
      obtain ⟨τ_39, e_τ_39⟩ : ∃ z : S0, z = s_a σ 96 n1 1 := ⟨_, rfl⟩
      rw [← e_τ_39]
      replace hT : c_T τ_39 := by rw [e_τ_39]; exact hT
      have w58_τ_39 : τ_39.1 58 = σ.1 58 := by rw [e_τ_39]; rfl
      have w59_τ_39 : τ_39.1 59 = σ.1 59 := by rw [e_τ_39]; rfl
      have w60_τ_39 : τ_39.1 60 = σ.1 60 := by rw [e_τ_39]; rfl
      have v58 : (-2147483648) ≤ τ_39.1 58 ∧ τ_39.1 58 ≤ 2147483647 := hT.1 58
      have v59 : 0 ≤ τ_39.1 59 ∧ τ_39.1 59 ≤ 1500 := hT.1 59
      have v60 : 0 ≤ τ_39.1 60 ∧ τ_39.1 60 ≤ 1048576 := hT.1 60
      refine h39 _ _ _ ?_
      intro x9 r_x9
      replace hT := cT_v (i := 58) hT (show (-2147483648) ≤ x9 ∧ x9 ≤ 2147483647 from by (first | omega | (simp only [st_s] <;> omega) | assumption | omega | fail))
      refine ⟨_, K_J7_fill_53178_q117 hT (show (0 : Int) = 0 from by (first | omega | (simp only [st_s] <;> omega) | assumption | omega | fail)), ?_⟩
      intro τ12 hn_τ12 hf_τ12 hq
      obtain ⟨hT, q10_1⟩ := hq
      replace q10_1 : ∀ e : Int, 0 ≤ e → e < 1500 → τ12.2.1 95 e = 0 := q10_1
      have w58_τ12 : τ12.1 58 = x9 := hf_τ12.1 58 (by decide)
      have w59_τ12 : τ12.1 59 = τ_39.1 59 := hf_τ12.1 59 (by decide)
      have w60_τ12 : τ12.1 60 = τ_39.1 60 := hf_τ12.1 60 (by decide)
      have v58 : (-2147483648) ≤ τ12.1 58 ∧ τ12.1 58 ≤ 2147483647 := hT.1 58
      have v59 : 0 ≤ τ12.1 59 ∧ τ12.1 59 ≤ 1500 := hT.1 59
      have v60 : 0 ≤ τ12.1 60 ∧ τ12.1 60 ≤ 1048576 := hT.1 60
      replace hT := cT_v (i := 59) hT (show (0 : Int) ≤ 0 ∧ 0 ≤ 1500 from by (first | omega | (simp only [st_s] <;> omega) | assumption | omega | fail))
      replace hT := cT_v (i := 60) hT (show (0 : Int) ≤ 0 ∧ 0 ≤ 1048576 from by (first | omega | (simp only [st_s] <;> omega) | assumption | omega | fail))
      exact ⟨hT, (show ∀ lb : Nat, c_DB lb (s_v (s_v τ12 59 0) 60 0) from by (intro lb; show g_bd 0 _ _ _ _ _ ∧ (0 : Int) ≤ (lb : Int) ∧ (0 : Int) ≤ _ ∧ _; exact ⟨fun r a b c => absurd (q10_1 r a b) c, by omega, (hT.1 57).1, fun r a b c => absurd (q10_1 r a b) c⟩)), (show ((0 : Int)) = 0 ∧ ((0 : Int)) = 0 from by (first | omega | (simp only [st_s] <;> omega) | assumption | omega | fail))⟩
    ·
      obtain ⟨τ_39, e_τ_39⟩ : ∃ z : S0, z = s_a σ 96 n1 1 := ⟨_, rfl⟩
      rw [← e_τ_39]
      replace hT : c_T τ_39 := by rw [e_τ_39]; exact hT
      have w58_τ_39 : τ_39.1 58 = σ.1 58 := by rw [e_τ_39]; rfl
      have w59_τ_39 : τ_39.1 59 = σ.1 59 := by rw [e_τ_39]; rfl
      have w60_τ_39 : τ_39.1 60 = σ.1 60 := by rw [e_τ_39]; rfl
      have v58 : (-2147483648) ≤ τ_39.1 58 ∧ τ_39.1 58 ≤ 2147483647 := hT.1 58
      have v59 : 0 ≤ τ_39.1 59 ∧ τ_39.1 59 ≤ 1500 := hT.1 59
      have v60 : 0 ≤ τ_39.1 60 ∧ τ_39.1 60 ≤ 1048576 := hT.1 60
      refine h39 _ _ _ ?_
      intro x9 r_x9
      replace hT := cT_v (i := 58) hT (show (-2147483648) ≤ x9 ∧ x9 ≤ 2147483647 from by (first | omega | (simp only [st_s] <;> omega) | assumption | omega | fail))
      refine ⟨_, K_J7_fill_53178_q117 hT (show (0 : Int) = 0 from by (first | omega | (simp only [st_s] <;> omega) | assumption | omega | fail)), ?_⟩
      intro τ12 hn_τ12 hf_τ12 hq
      obtain ⟨hT, q10_1⟩ := hq
      replace q10_1 : ∀ e : Int, 0 ≤ e → e < 1500 → τ12.2.1 95 e = 0 := q10_1
      have w58_τ12 : τ12.1 58 = x9 := hf_τ12.1 58 (by decide)
      have w59_τ12 : τ12.1 59 = τ_39.1 59 := hf_τ12.1 59 (by decide)
      have w60_τ12 : τ12.1 60 = τ_39.1 60 := hf_τ12.1 60 (by decide)
      have v58 : (-2147483648) ≤ τ12.1 58 ∧ τ12.1 58 ≤ 2147483647 := hT.1 58
      have v59 : 0 ≤ τ12.1 59 ∧ τ12.1 59 ≤ 1500 := hT.1 59
      have v60 : 0 ≤ τ12.1 60 ∧ τ12.1 60 ≤ 1048576 := hT.1 60
      replace hT := cT_v (i := 59) hT (show (0 : Int) ≤ 0 ∧ 0 ≤ 1500 from by (first | omega | (simp only [st_s] <;> omega) | assumption | omega | fail))
      replace hT := cT_v (i := 60) hT (show (0 : Int) ≤ 0 ∧ 0 ≤ 1048576 from by (first | omega | (simp only [st_s] <;> omega) | assumption | omega | fail))
      exact ⟨hT, (show ∀ lb : Nat, c_DB lb (s_v (s_v τ12 59 0) 60 0) from by (intro lb; show g_bd 0 _ _ _ _ _ ∧ (0 : Int) ≤ (lb : Int) ∧ (0 : Int) ≤ _ ∧ _; exact ⟨fun r a b c => absurd (q10_1 r a b) c, by omega, (hT.1 57).1, fun r a b c => absurd (q10_1 r a b) c⟩)), (show ((0 : Int)) = 0 ∧ ((0 : Int)) = 0 from by (first | omega | (simp only [st_s] <;> omega) | assumption | omega | fail))⟩
set_option maxHeartbeats 8000000 in
theorem K_X2_study {n1 : Int} {par nof : Int → Int} {In : Int → Prop} {σ : S0} (hT : c_T σ) (p1 : 0 ≤ n1) (p2 : n1 ≤ (σ.1 7)) (p3 : J_all (σ.1 7) (σ.1 6) (σ.1 13) (σ.1 14) (σ.1 15) (σ.2.1 13) (σ.2.1 14) (σ.2.1 15) (σ.2.1 16) (σ.2.1 10) (σ.2.1 27) (σ.2.1 28) (σ.2.1 29) (σ.2.1 30) (σ.2.1 31) (σ.2.1 32) (σ.2.1 33) (σ.2.1 34) (σ.2.1 35) (σ.2.1 36) (σ.2.1 37)) (p4 : J_rks (σ.1 5) (σ.1 4) (σ.2.1 10) (σ.2.1 11)) (p5 : J_vs (σ.1 6) (σ.1 5) (σ.2.1 15)) (p6 : c_Rs σ par nof In) (p7 : c_WZ σ) (p8 : (σ.1 49) < (σ.1 5)) (p9 : c_DS In σ) (p10 : (σ.1 49) = -1 ∨ g_we σ (σ.1 49)) : W_X2_study n1 σ (fun (τ : S0) => (c_T τ) ∧ (c_Rs τ par nof In) ∧ (c_WZ τ) ∧ (c_DS In τ) ∧ (n1 ≤ (τ.1 57) ∧ (σ.1 57) ≤ (τ.1 57))) := by
  have A2 : ∀ j, 0 ≤ σ.2.1 2 j ∧ σ.2.1 2 j ≤ 65535 := fun j => hT.2 2 j
  have A3 : ∀ j, 0 ≤ σ.2.1 3 j ∧ σ.2.1 3 j ≤ 30000 := fun j => hT.2 3 j
  have A4 : ∀ j, (-1000) ≤ σ.2.1 4 j ∧ σ.2.1 4 j ≤ 1499 := fun j => hT.2 4 j
  have A8 : ∀ j, 0 ≤ σ.2.1 8 j ∧ σ.2.1 8 j ≤ 1 := fun j => hT.2 8 j
  have A10 : ∀ j, (-1) ≤ σ.2.1 10 j ∧ σ.2.1 10 j ≤ 99 := fun j => hT.2 10 j
  have A11 : ∀ j, 0 ≤ σ.2.1 11 j ∧ σ.2.1 11 j ≤ 999 := fun j => hT.2 11 j
  have A13 : ∀ j, 0 ≤ σ.2.1 13 j ∧ σ.2.1 13 j ≤ 4 := fun j => hT.2 13 j
  have A14 : ∀ j, 0 ≤ σ.2.1 14 j ∧ σ.2.1 14 j ≤ 30000 := fun j => hT.2 14 j
  have A15 : ∀ j, 0 ≤ σ.2.1 15 j ∧ σ.2.1 15 j ≤ 999 := fun j => hT.2 15 j
  have A16 : ∀ j, (-1) ≤ σ.2.1 16 j ∧ σ.2.1 16 j ≤ 1499 := fun j => hT.2 16 j
  have A27 : ∀ j, 0 ≤ σ.2.1 27 j ∧ σ.2.1 27 j ≤ 90000 := fun j => hT.2 27 j
  have A28 : ∀ j, 0 ≤ σ.2.1 28 j ∧ σ.2.1 28 j ≤ 60 := fun j => hT.2 28 j
  have A29 : ∀ j, 0 ≤ σ.2.1 29 j ∧ σ.2.1 29 j ≤ 1499 := fun j => hT.2 29 j
  have A30 : ∀ j, 0 ≤ σ.2.1 30 j ∧ σ.2.1 30 j ≤ 20000 := fun j => hT.2 30 j
  have A31 : ∀ j, 0 ≤ σ.2.1 31 j ∧ σ.2.1 31 j ≤ 20000 := fun j => hT.2 31 j
  have A32 : ∀ j, 0 ≤ σ.2.1 32 j ∧ σ.2.1 32 j ≤ 999999 := fun j => hT.2 32 j
  have A33 : ∀ j, 0 ≤ σ.2.1 33 j ∧ σ.2.1 33 j ≤ 20000 := fun j => hT.2 33 j
  have A34 : ∀ j, 0 ≤ σ.2.1 34 j ∧ σ.2.1 34 j ≤ 20000 := fun j => hT.2 34 j
  have A35 : ∀ j, 0 ≤ σ.2.1 35 j ∧ σ.2.1 35 j ≤ 1499 := fun j => hT.2 35 j
  have A36 : ∀ j, 0 ≤ σ.2.1 36 j ∧ σ.2.1 36 j ≤ 20000 := fun j => hT.2 36 j
  have A37 : ∀ j, 0 ≤ σ.2.1 37 j ∧ σ.2.1 37 j ≤ 19999 := fun j => hT.2 37 j
  have A69 : ∀ j, (-100) ≤ σ.2.1 69 j ∧ σ.2.1 69 j ≤ 999 := fun j => hT.2 69 j
  have A70 : ∀ j, 0 ≤ σ.2.1 70 j ∧ σ.2.1 70 j ≤ 1499 := fun j => hT.2 70 j
  have A77 : ∀ j, 0 ≤ σ.2.1 77 j ∧ σ.2.1 77 j ≤ 999 := fun j => hT.2 77 j
  have A78 : ∀ j, (-1) ≤ σ.2.1 78 j ∧ σ.2.1 78 j ≤ 1499 := fun j => hT.2 78 j
  have A79 : ∀ j, 0 ≤ σ.2.1 79 j ∧ σ.2.1 79 j ≤ 1499 := fun j => hT.2 79 j
  have A84 : ∀ j, 0 ≤ σ.2.1 84 j ∧ σ.2.1 84 j ≤ 1499 := fun j => hT.2 84 j
  have A93 : ∀ j, 0 ≤ σ.2.1 93 j ∧ σ.2.1 93 j ≤ 1500 := fun j => hT.2 93 j
  have A94 : ∀ j, 0 ≤ σ.2.1 94 j ∧ σ.2.1 94 j ≤ 1500 := fun j => hT.2 94 j
  have A100 : ∀ j, 0 ≤ σ.2.1 100 j ∧ σ.2.1 100 j ≤ 1060 := fun j => hT.2 100 j
  have v3 : 0 ≤ σ.1 3 ∧ σ.1 3 ≤ 2500 := hT.1 3
  have v4 : 0 ≤ σ.1 4 ∧ σ.1 4 ≤ 100 := hT.1 4
  have v5 : 0 ≤ σ.1 5 ∧ σ.1 5 ≤ 1000 := hT.1 5
  have v6 : 0 ≤ σ.1 6 ∧ σ.1 6 ≤ 30000 := hT.1 6
  have v7 : 0 ≤ σ.1 7 ∧ σ.1 7 ≤ 1500 := hT.1 7
  have v13 : 0 ≤ σ.1 13 ∧ σ.1 13 ≤ 90000 := hT.1 13
  have v14 : 0 ≤ σ.1 14 ∧ σ.1 14 ≤ 20000 := hT.1 14
  have v15 : 0 ≤ σ.1 15 ∧ σ.1 15 ≤ 20000 := hT.1 15
  have v45 : 1 ≤ σ.1 45 ∧ σ.1 45 ≤ 30001 := hT.1 45
  have v48 : (-1) ≤ σ.1 48 ∧ σ.1 48 ≤ 999 := hT.1 48
  have v49 : (-1) ≤ σ.1 49 ∧ σ.1 49 ≤ 999 := hT.1 49
  have v50 : 0 ≤ σ.1 50 ∧ σ.1 50 ≤ 59 := hT.1 50
  have v51 : 0 ≤ σ.1 51 ∧ σ.1 51 ≤ 1500 := hT.1 51
  have v52 : (-1) ≤ σ.1 52 ∧ σ.1 52 ≤ 99 := hT.1 52
  have v54 : 0 ≤ σ.1 54 ∧ σ.1 54 ≤ 12000 := hT.1 54
  have v57 : 0 ≤ σ.1 57 ∧ σ.1 57 ≤ 1500 := hT.1 57
  have v61 : 0 ≤ σ.1 61 ∧ σ.1 61 ≤ 12000 := hT.1 61
  have a10_49 : (-1) ≤ σ.2.1 10 (σ.1 49) ∧ σ.2.1 10 (σ.1 49) ≤ 99 := hT.2 10 _
  have a84_61 : 0 ≤ σ.2.1 84 (σ.1 61) ∧ σ.2.1 84 (σ.1 61) ≤ 1499 := hT.2 84 _
  have W3 : σ.1 3 = σ.1 3 := rfl
  have W4 : σ.1 4 = σ.1 4 := rfl
  have W5 : σ.1 5 = σ.1 5 := rfl
  have W6 : σ.1 6 = σ.1 6 := rfl
  have W7 : σ.1 7 = σ.1 7 := rfl
  have W13 : σ.1 13 = σ.1 13 := rfl
  have W14 : σ.1 14 = σ.1 14 := rfl
  have W15 : σ.1 15 = σ.1 15 := rfl
  have W45 : σ.1 45 = σ.1 45 := rfl
  have W48 : σ.1 48 = σ.1 48 := rfl
  have W49 : σ.1 49 = σ.1 49 := rfl
  have G2 : σ.2.1 2 = σ.2.1 2 := rfl
  have G3 : σ.2.1 3 = σ.2.1 3 := rfl
  have G4 : σ.2.1 4 = σ.2.1 4 := rfl
  have G8 : σ.2.1 8 = σ.2.1 8 := rfl
  have G10 : σ.2.1 10 = σ.2.1 10 := rfl
  have G11 : σ.2.1 11 = σ.2.1 11 := rfl
  have G13 : σ.2.1 13 = σ.2.1 13 := rfl
  have G14 : σ.2.1 14 = σ.2.1 14 := rfl
  have G15 : σ.2.1 15 = σ.2.1 15 := rfl
  have G16 : σ.2.1 16 = σ.2.1 16 := rfl
  have G27 : σ.2.1 27 = σ.2.1 27 := rfl
  have G28 : σ.2.1 28 = σ.2.1 28 := rfl
  have G29 : σ.2.1 29 = σ.2.1 29 := rfl
  have G30 : σ.2.1 30 = σ.2.1 30 := rfl
  have G31 : σ.2.1 31 = σ.2.1 31 := rfl
  have G32 : σ.2.1 32 = σ.2.1 32 := rfl
  have G33 : σ.2.1 33 = σ.2.1 33 := rfl
  have G34 : σ.2.1 34 = σ.2.1 34 := rfl
  have G35 : σ.2.1 35 = σ.2.1 35 := rfl
  have G36 : σ.2.1 36 = σ.2.1 36 := rfl
  have G37 : σ.2.1 37 = σ.2.1 37 := rfl
  have G69 : σ.2.1 69 = σ.2.1 69 := rfl
  have G70 : σ.2.1 70 = σ.2.1 70 := rfl
  intro P5 h5
  have s93 := A93
  have s14 := A14
  have s15 := A15
  have ds0 := p9.2.2
  have TX : J_vs (σ.1 6) (σ.1 5) (σ.2.1 15) := p5
  have RKS : J_rks (σ.1 5) (σ.1 4) (σ.2.1 10) (σ.2.1 11) := p4
  have CJ : J_all (σ.1 7) (σ.1 6) (σ.1 13) (σ.1 14) (σ.1 15) (σ.2.1 13) (σ.2.1 14) (σ.2.1 15) (σ.2.1 16) (σ.2.1 10) (σ.2.1 27) (σ.2.1 28) (σ.2.1 29) (σ.2.1 30) (σ.2.1 31) (σ.2.1 32) (σ.2.1 33) (σ.2.1 34) (σ.2.1 35) (σ.2.1 36) (σ.2.1 37) := p3
  have CJ_0 := CJ
  have RKS_0 := RKS
  have TX_0 := TX
  have l_5 : ∀ (m_5 : Nat) (u2_5 : Int) (τ_5 : S0), 1501 - u2_5 < (m_5 : Int) → (c_T τ_5) → (τ_5.1 3 = σ.1 3) → (τ_5.1 4 = σ.1 4) → (τ_5.1 5 = σ.1 5) → (τ_5.1 6 = σ.1 6) → (τ_5.1 7 = σ.1 7) → (τ_5.1 13 = σ.1 13) → (τ_5.1 14 = σ.1 14) → (τ_5.1 15 = σ.1 15) → (τ_5.1 45 = σ.1 45) → (τ_5.1 48 = σ.1 48) → (τ_5.1 49 = σ.1 49) → (τ_5.2.1 2 = σ.2.1 2) → (τ_5.2.1 3 = σ.2.1 3) → (τ_5.2.1 4 = σ.2.1 4) → (τ_5.2.1 8 = σ.2.1 8) → (τ_5.2.1 10 = σ.2.1 10) → (τ_5.2.1 11 = σ.2.1 11) → (τ_5.2.1 13 = σ.2.1 13) → (τ_5.2.1 14 = σ.2.1 14) → (τ_5.2.1 15 = σ.2.1 15) → (τ_5.2.1 16 = σ.2.1 16) → (τ_5.2.1 27 = σ.2.1 27) → (τ_5.2.1 28 = σ.2.1 28) → (τ_5.2.1 29 = σ.2.1 29) → (τ_5.2.1 30 = σ.2.1 30) → (τ_5.2.1 31 = σ.2.1 31) → (τ_5.2.1 32 = σ.2.1 32) → (τ_5.2.1 33 = σ.2.1 33) → (τ_5.2.1 34 = σ.2.1 34) → (τ_5.2.1 35 = σ.2.1 35) → (τ_5.2.1 36 = σ.2.1 36) → (τ_5.2.1 37 = σ.2.1 37) → (τ_5.2.1 69 = σ.2.1 69) → (τ_5.2.1 70 = σ.2.1 70) → (0 ≤ u2_5 ∧ u2_5 ≤ (σ.1 7)) → (c_Rs τ_5 par nof In) → (c_WZ τ_5) → (c_DS In τ_5) → ((τ_5.1 57) = (σ.1 57)) → ((τ_5.1 3) = (σ.1 3)) → P5 n1 u2_5 τ_5 := by
    intro m_5
    induction m_5 with
    | zero =>
      intro u2_5 τ_5 hm hT W3 W4 W5 W6 W7 W13 W14 W15 W45 W48 W49 G2 G3 G4 G8 G10 G11 G13 G14 G15 G16 G27 G28 G29 G30 G31 G32 G33 G34 G35 G36 G37 G69 G70 i5_1 i5_2 i5_3 i5_4 i5_5 i5_6
      have A2 : ∀ j, 0 ≤ τ_5.2.1 2 j ∧ τ_5.2.1 2 j ≤ 65535 := fun j => hT.2 2 j
      have A3 : ∀ j, 0 ≤ τ_5.2.1 3 j ∧ τ_5.2.1 3 j ≤ 30000 := fun j => hT.2 3 j
      have A4 : ∀ j, (-1000) ≤ τ_5.2.1 4 j ∧ τ_5.2.1 4 j ≤ 1499 := fun j => hT.2 4 j
      have A8 : ∀ j, 0 ≤ τ_5.2.1 8 j ∧ τ_5.2.1 8 j ≤ 1 := fun j => hT.2 8 j
      have A10 : ∀ j, (-1) ≤ τ_5.2.1 10 j ∧ τ_5.2.1 10 j ≤ 99 := fun j => hT.2 10 j
      have A11 : ∀ j, 0 ≤ τ_5.2.1 11 j ∧ τ_5.2.1 11 j ≤ 999 := fun j => hT.2 11 j
      have A13 : ∀ j, 0 ≤ τ_5.2.1 13 j ∧ τ_5.2.1 13 j ≤ 4 := fun j => hT.2 13 j
      have A14 : ∀ j, 0 ≤ τ_5.2.1 14 j ∧ τ_5.2.1 14 j ≤ 30000 := fun j => hT.2 14 j
      have A15 : ∀ j, 0 ≤ τ_5.2.1 15 j ∧ τ_5.2.1 15 j ≤ 999 := fun j => hT.2 15 j
      have A16 : ∀ j, (-1) ≤ τ_5.2.1 16 j ∧ τ_5.2.1 16 j ≤ 1499 := fun j => hT.2 16 j
      have A27 : ∀ j, 0 ≤ τ_5.2.1 27 j ∧ τ_5.2.1 27 j ≤ 90000 := fun j => hT.2 27 j
      have A28 : ∀ j, 0 ≤ τ_5.2.1 28 j ∧ τ_5.2.1 28 j ≤ 60 := fun j => hT.2 28 j
      have A29 : ∀ j, 0 ≤ τ_5.2.1 29 j ∧ τ_5.2.1 29 j ≤ 1499 := fun j => hT.2 29 j
      have A30 : ∀ j, 0 ≤ τ_5.2.1 30 j ∧ τ_5.2.1 30 j ≤ 20000 := fun j => hT.2 30 j
      have A31 : ∀ j, 0 ≤ τ_5.2.1 31 j ∧ τ_5.2.1 31 j ≤ 20000 := fun j => hT.2 31 j
      have A32 : ∀ j, 0 ≤ τ_5.2.1 32 j ∧ τ_5.2.1 32 j ≤ 999999 := fun j => hT.2 32 j
      have A33 : ∀ j, 0 ≤ τ_5.2.1 33 j ∧ τ_5.2.1 33 j ≤ 20000 := fun j => hT.2 33 j
      have A34 : ∀ j, 0 ≤ τ_5.2.1 34 j ∧ τ_5.2.1 34 j ≤ 20000 := fun j => hT.2 34 j
      have A35 : ∀ j, 0 ≤ τ_5.2.1 35 j ∧ τ_5.2.1 35 j ≤ 1499 := fun j => hT.2 35 j
      have A36 : ∀ j, 0 ≤ τ_5.2.1 36 j ∧ τ_5.2.1 36 j ≤ 20000 := fun j => hT.2 36 j
      have A37 : ∀ j, 0 ≤ τ_5.2.1 37 j ∧ τ_5.2.1 37 j ≤ 19999 := fun j => hT.2 37 j
      have A69 : ∀ j, (-100) ≤ τ_5.2.1 69 j ∧ τ_5.2.1 69 j ≤ 999 := fun j => hT.2 69 j
      have A70 : ∀ j, 0 ≤ τ_5.2.1 70 j ∧ τ_5.2.1 70 j ≤ 1499 := fun j => hT.2 70 j
      have A77 : ∀ j, 0 ≤ τ_5.2.1 77 j ∧ τ_5.2.1 77 j ≤ 999 := fun j => hT.2 77 j
      have A78 : ∀ j, (-1) ≤ τ_5.2.1 78 j ∧ τ_5.2.1 78 j ≤ 1499 := fun j => hT.2 78 j
      have A79 : ∀ j, 0 ≤ τ_5.2.1 79 j ∧ τ_5.2.1 79 j ≤ 1499 := fun j => hT.2 79 j
      have A84 : ∀ j, 0 ≤ τ_5.2.1 84 j ∧ τ_5.2.1 84 j ≤ 1499 := fun j => hT.2 84 j
      have A93 : ∀ j, 0 ≤ τ_5.2.1 93 j ∧ τ_5.2.1 93 j ≤ 1500 := fun j => hT.2 93 j
      have A94 : ∀ j, 0 ≤ τ_5.2.1 94 j ∧ τ_5.2.1 94 j ≤ 1500 := fun j => hT.2 94 j
      have A100 : ∀ j, 0 ≤ τ_5.2.1 100 j ∧ τ_5.2.1 100 j ≤ 1060 := fun j => hT.2 100 j
      have v3 : 0 ≤ τ_5.1 3 ∧ τ_5.1 3 ≤ 2500 := hT.1 3
      have v4 : 0 ≤ τ_5.1 4 ∧ τ_5.1 4 ≤ 100 := hT.1 4
      have v5 : 0 ≤ τ_5.1 5 ∧ τ_5.1 5 ≤ 1000 := hT.1 5
      have v6 : 0 ≤ τ_5.1 6 ∧ τ_5.1 6 ≤ 30000 := hT.1 6
      have v7 : 0 ≤ τ_5.1 7 ∧ τ_5.1 7 ≤ 1500 := hT.1 7
      have v13 : 0 ≤ τ_5.1 13 ∧ τ_5.1 13 ≤ 90000 := hT.1 13
      have v14 : 0 ≤ τ_5.1 14 ∧ τ_5.1 14 ≤ 20000 := hT.1 14
      have v15 : 0 ≤ τ_5.1 15 ∧ τ_5.1 15 ≤ 20000 := hT.1 15
      have v45 : 1 ≤ τ_5.1 45 ∧ τ_5.1 45 ≤ 30001 := hT.1 45
      have v48 : (-1) ≤ τ_5.1 48 ∧ τ_5.1 48 ≤ 999 := hT.1 48
      have v49 : (-1) ≤ τ_5.1 49 ∧ τ_5.1 49 ≤ 999 := hT.1 49
      have v50 : 0 ≤ τ_5.1 50 ∧ τ_5.1 50 ≤ 59 := hT.1 50
      have v51 : 0 ≤ τ_5.1 51 ∧ τ_5.1 51 ≤ 1500 := hT.1 51
      have v52 : (-1) ≤ τ_5.1 52 ∧ τ_5.1 52 ≤ 99 := hT.1 52
      have v54 : 0 ≤ τ_5.1 54 ∧ τ_5.1 54 ≤ 12000 := hT.1 54
      have v57 : 0 ≤ τ_5.1 57 ∧ τ_5.1 57 ≤ 1500 := hT.1 57
      have v61 : 0 ≤ τ_5.1 61 ∧ τ_5.1 61 ≤ 12000 := hT.1 61
      have a10_49 : (-1) ≤ τ_5.2.1 10 (τ_5.1 49) ∧ τ_5.2.1 10 (τ_5.1 49) ≤ 99 := hT.2 10 _
      have a84_61 : 0 ≤ τ_5.2.1 84 (τ_5.1 61) ∧ τ_5.2.1 84 (τ_5.1 61) ≤ 1499 := hT.2 84 _
      exfalso; (first | omega | (simp only [st_s] <;> omega) | assumption | omega | fail)
    | succ m_5 ih_5 =>
      intro u2_5 τ_5 hm_5 hT W3 W4 W5 W6 W7 W13 W14 W15 W45 W48 W49 G2 G3 G4 G8 G10 G11 G13 G14 G15 G16 G27 G28 G29 G30 G31 G32 G33 G34 G35 G36 G37 G69 G70 i5_1 i5_2 i5_3 i5_4 i5_5 i5_6
      have A2 : ∀ j, 0 ≤ τ_5.2.1 2 j ∧ τ_5.2.1 2 j ≤ 65535 := fun j => hT.2 2 j
      have A3 : ∀ j, 0 ≤ τ_5.2.1 3 j ∧ τ_5.2.1 3 j ≤ 30000 := fun j => hT.2 3 j
      have A4 : ∀ j, (-1000) ≤ τ_5.2.1 4 j ∧ τ_5.2.1 4 j ≤ 1499 := fun j => hT.2 4 j
      have A8 : ∀ j, 0 ≤ τ_5.2.1 8 j ∧ τ_5.2.1 8 j ≤ 1 := fun j => hT.2 8 j
      have A10 : ∀ j, (-1) ≤ τ_5.2.1 10 j ∧ τ_5.2.1 10 j ≤ 99 := fun j => hT.2 10 j
      have A11 : ∀ j, 0 ≤ τ_5.2.1 11 j ∧ τ_5.2.1 11 j ≤ 999 := fun j => hT.2 11 j
      have A13 : ∀ j, 0 ≤ τ_5.2.1 13 j ∧ τ_5.2.1 13 j ≤ 4 := fun j => hT.2 13 j
      have A14 : ∀ j, 0 ≤ τ_5.2.1 14 j ∧ τ_5.2.1 14 j ≤ 30000 := fun j => hT.2 14 j
      have A15 : ∀ j, 0 ≤ τ_5.2.1 15 j ∧ τ_5.2.1 15 j ≤ 999 := fun j => hT.2 15 j
      have A16 : ∀ j, (-1) ≤ τ_5.2.1 16 j ∧ τ_5.2.1 16 j ≤ 1499 := fun j => hT.2 16 j
      have A27 : ∀ j, 0 ≤ τ_5.2.1 27 j ∧ τ_5.2.1 27 j ≤ 90000 := fun j => hT.2 27 j
      have A28 : ∀ j, 0 ≤ τ_5.2.1 28 j ∧ τ_5.2.1 28 j ≤ 60 := fun j => hT.2 28 j
      have A29 : ∀ j, 0 ≤ τ_5.2.1 29 j ∧ τ_5.2.1 29 j ≤ 1499 := fun j => hT.2 29 j
      have A30 : ∀ j, 0 ≤ τ_5.2.1 30 j ∧ τ_5.2.1 30 j ≤ 20000 := fun j => hT.2 30 j
      have A31 : ∀ j, 0 ≤ τ_5.2.1 31 j ∧ τ_5.2.1 31 j ≤ 20000 := fun j => hT.2 31 j
      have A32 : ∀ j, 0 ≤ τ_5.2.1 32 j ∧ τ_5.2.1 32 j ≤ 999999 := fun j => hT.2 32 j
      have A33 : ∀ j, 0 ≤ τ_5.2.1 33 j ∧ τ_5.2.1 33 j ≤ 20000 := fun j => hT.2 33 j
      have A34 : ∀ j, 0 ≤ τ_5.2.1 34 j ∧ τ_5.2.1 34 j ≤ 20000 := fun j => hT.2 34 j
      have A35 : ∀ j, 0 ≤ τ_5.2.1 35 j ∧ τ_5.2.1 35 j ≤ 1499 := fun j => hT.2 35 j
      have A36 : ∀ j, 0 ≤ τ_5.2.1 36 j ∧ τ_5.2.1 36 j ≤ 20000 := fun j => hT.2 36 j
      have A37 : ∀ j, 0 ≤ τ_5.2.1 37 j ∧ τ_5.2.1 37 j ≤ 19999 := fun j => hT.2 37 j
      have A69 : ∀ j, (-100) ≤ τ_5.2.1 69 j ∧ τ_5.2.1 69 j ≤ 999 := fun j => hT.2 69 j
      have A70 : ∀ j, 0 ≤ τ_5.2.1 70 j ∧ τ_5.2.1 70 j ≤ 1499 := fun j => hT.2 70 j
      have A77 : ∀ j, 0 ≤ τ_5.2.1 77 j ∧ τ_5.2.1 77 j ≤ 999 := fun j => hT.2 77 j
      have A78 : ∀ j, (-1) ≤ τ_5.2.1 78 j ∧ τ_5.2.1 78 j ≤ 1499 := fun j => hT.2 78 j
      have A79 : ∀ j, 0 ≤ τ_5.2.1 79 j ∧ τ_5.2.1 79 j ≤ 1499 := fun j => hT.2 79 j
      have A84 : ∀ j, 0 ≤ τ_5.2.1 84 j ∧ τ_5.2.1 84 j ≤ 1499 := fun j => hT.2 84 j
      have A93 : ∀ j, 0 ≤ τ_5.2.1 93 j ∧ τ_5.2.1 93 j ≤ 1500 := fun j => hT.2 93 j
      have A94 : ∀ j, 0 ≤ τ_5.2.1 94 j ∧ τ_5.2.1 94 j ≤ 1500 := fun j => hT.2 94 j
      have A100 : ∀ j, 0 ≤ τ_5.2.1 100 j ∧ τ_5.2.1 100 j ≤ 1060 := fun j => hT.2 100 j
      have v3 : 0 ≤ τ_5.1 3 ∧ τ_5.1 3 ≤ 2500 := hT.1 3
      have v4 : 0 ≤ τ_5.1 4 ∧ τ_5.1 4 ≤ 100 := hT.1 4
      have v5 : 0 ≤ τ_5.1 5 ∧ τ_5.1 5 ≤ 1000 := hT.1 5
      have v6 : 0 ≤ τ_5.1 6 ∧ τ_5.1 6 ≤ 30000 := hT.1 6
      have v7 : 0 ≤ τ_5.1 7 ∧ τ_5.1 7 ≤ 1500 := hT.1 7
      have v13 : 0 ≤ τ_5.1 13 ∧ τ_5.1 13 ≤ 90000 := hT.1 13
      have v14 : 0 ≤ τ_5.1 14 ∧ τ_5.1 14 ≤ 20000 := hT.1 14
      have v15 : 0 ≤ τ_5.1 15 ∧ τ_5.1 15 ≤ 20000 := hT.1 15
      have v45 : 1 ≤ τ_5.1 45 ∧ τ_5.1 45 ≤ 30001 := hT.1 45
      have v48 : (-1) ≤ τ_5.1 48 ∧ τ_5.1 48 ≤ 999 := hT.1 48
      have v49 : (-1) ≤ τ_5.1 49 ∧ τ_5.1 49 ≤ 999 := hT.1 49
      have v50 : 0 ≤ τ_5.1 50 ∧ τ_5.1 50 ≤ 59 := hT.1 50
      have v51 : 0 ≤ τ_5.1 51 ∧ τ_5.1 51 ≤ 1500 := hT.1 51
      have v52 : (-1) ≤ τ_5.1 52 ∧ τ_5.1 52 ≤ 99 := hT.1 52
      have v54 : 0 ≤ τ_5.1 54 ∧ τ_5.1 54 ≤ 12000 := hT.1 54
      have v57 : 0 ≤ τ_5.1 57 ∧ τ_5.1 57 ≤ 1500 := hT.1 57
      have v61 : 0 ≤ τ_5.1 61 ∧ τ_5.1 61 ≤ 12000 := hT.1 61
      have a10_49 : (-1) ≤ τ_5.2.1 10 (τ_5.1 49) ∧ τ_5.2.1 10 (τ_5.1 49) ≤ 99 := hT.2 10 _
      have a84_61 : 0 ≤ τ_5.2.1 84 (τ_5.1 61) ∧ τ_5.2.1 84 (τ_5.1 61) ≤ 1499 := hT.2 84 _
      have y10_49_τ_5 : τ_5.2.1 10 (τ_5.1 49) = σ.2.1 10 (σ.1 49) := by rw [G10, W49]
      have TX : J_vs (τ_5.1 6) (τ_5.1 5) (τ_5.2.1 15) := by rw [show (J_vs (τ_5.1 6) (τ_5.1 5) (τ_5.2.1 15)) = (J_vs (σ.1 6) (σ.1 5) (σ.2.1 15)) from by rw [W5, W6, G15]]; exact TX_0
      have RKS : J_rks (τ_5.1 5) (τ_5.1 4) (τ_5.2.1 10) (τ_5.2.1 11) := by rw [show (J_rks (τ_5.1 5) (τ_5.1 4) (τ_5.2.1 10) (τ_5.2.1 11)) = (J_rks (σ.1 5) (σ.1 4) (σ.2.1 10) (σ.2.1 11)) from by rw [W4, W5, G10, G11]]; exact RKS_0
      have CJ : J_all (τ_5.1 7) (τ_5.1 6) (τ_5.1 13) (τ_5.1 14) (τ_5.1 15) (τ_5.2.1 13) (τ_5.2.1 14) (τ_5.2.1 15) (τ_5.2.1 16) (τ_5.2.1 10) (τ_5.2.1 27) (τ_5.2.1 28) (τ_5.2.1 29) (τ_5.2.1 30) (τ_5.2.1 31) (τ_5.2.1 32) (τ_5.2.1 33) (τ_5.2.1 34) (τ_5.2.1 35) (τ_5.2.1 36) (τ_5.2.1 37) := by rw [show (J_all (τ_5.1 7) (τ_5.1 6) (τ_5.1 13) (τ_5.1 14) (τ_5.1 15) (τ_5.2.1 13) (τ_5.2.1 14) (τ_5.2.1 15) (τ_5.2.1 16) (τ_5.2.1 10) (τ_5.2.1 27) (τ_5.2.1 28) (τ_5.2.1 29) (τ_5.2.1 30) (τ_5.2.1 31) (τ_5.2.1 32) (τ_5.2.1 33) (τ_5.2.1 34) (τ_5.2.1 35) (τ_5.2.1 36) (τ_5.2.1 37)) = (J_all (σ.1 7) (σ.1 6) (σ.1 13) (σ.1 14) (σ.1 15) (σ.2.1 13) (σ.2.1 14) (σ.2.1 15) (σ.2.1 16) (σ.2.1 10) (σ.2.1 27) (σ.2.1 28) (σ.2.1 29) (σ.2.1 30) (σ.2.1 31) (σ.2.1 32) (σ.2.1 33) (σ.2.1 34) (σ.2.1 35) (σ.2.1 36) (σ.2.1 37)) from by rw [W6, W7, W13, W14, W15, G10, G13, G14, G15, G16, G27, G28, G29, G30, G31, G32, G33, G34, G35, G36, G37]]; exact CJ_0
      refine h5 n1 u2_5 τ_5 ?_
      refine ⟨fun c1 => ?_, fun c1 => ?_⟩
      ·
        intro x2 r_x2 h1_x2 h2_x2 h3_x2
        replace hT := cT_v (i := 57) hT (show 0 ≤ x2 ∧ x2 ≤ 1500 from by (first | omega | (simp only [st_s] <;> omega) | assumption | omega | fail))
        exact ⟨hT, (show c_Rs (s_v τ_5 57 x2) par nof In from by (first | omega | (simp only [st_s] <;> omega) | assumption | omega | fail)), (show c_WZ (s_v τ_5 57 x2) from by (first | omega | (simp only [st_s] <;> omega) | assumption | omega | fail)), (show c_DS In (s_v τ_5 57 x2) from by exact ⟨i5_4.1, fun i a b c => ⟨(i5_4.2.1 i a b c).1, (i5_4.2.1 i a b c).2.1, c_DT_e (i5_4.2.1 i a b c).2.2 rfl rfl (fun _ _ => rfl)⟩, (show x2 ≤ τ_5.1 7 from by have := i5_4.2.2; omega)⟩), (show n1 ≤ (x2) ∧ (σ.1 57) ≤ (x2) from by (first | omega | (simp only [st_s] <;> omega) | assumption | omega | fail))⟩
      ·
        have jq := p3.1 u2_5 (by omega) (by omega)
        have jt := jq.1.1
        refine ⟨_, K_X3_typeOf hT (show 0 ≤ u2_5 from by (first | omega | (simp only [st_s] <;> omega) | assumption | omega | fail)) (show u2_5 ≤ 1500 from by (first | omega | (simp only [st_s] <;> omega) | assumption | omega | fail)) (show τ_5.2.1 14 u2_5 < 30000 from by (rw [G14]; omega)), ?_⟩
        intro x4 r_x4 hq
        obtain ⟨q3_1, q3_2⟩ := hq
        replace q3_1 : x4 = τ_5.2.1 15 (τ_5.2.1 14 u2_5) := q3_1
        replace q3_2 : 0 ≤ x4 ∧ x4 ≤ 999 := q3_2
        refine ⟨fun c6 => ?_, fun c6 => ?_⟩
        ·
          refine ⟨(⟨by (first | omega | (simp only [st_s] <;> omega) | assumption | omega | fail), by (first | omega | (simp only [st_s] <;> omega) | assumption | omega | fail)⟩ : rg (u2_5 + 1)), ?_⟩
          exact ih_5 _ _ (show (1501 - (u2_5 + 1) : Int) < ((m_5 : Nat) : Int) from by ((first | omega | (simp only [st_s] <;> omega) | assumption | omega | fail))) hT (show τ_5.1 3 = σ.1 3 from by first | exact W3 | omega) (show τ_5.1 4 = σ.1 4 from by first | exact W4 | omega) (show τ_5.1 5 = σ.1 5 from by first | exact W5 | omega) (show τ_5.1 6 = σ.1 6 from by first | exact W6 | omega) (show τ_5.1 7 = σ.1 7 from by first | exact W7 | omega) (show τ_5.1 13 = σ.1 13 from by first | exact W13 | omega) (show τ_5.1 14 = σ.1 14 from by first | exact W14 | omega) (show τ_5.1 15 = σ.1 15 from by first | exact W15 | omega) (show τ_5.1 45 = σ.1 45 from by first | exact W45 | omega) (show τ_5.1 48 = σ.1 48 from by first | exact W48 | omega) (show τ_5.1 49 = σ.1 49 from by first | exact W49 | omega) G2 G3 G4 G8 G10 G11 G13 G14 G15 G16 G27 G28 G29 G30 G31 G32 G33 G34 G35 G36 G37 G69 G70 (show 0 ≤ (u2_5 + 1) ∧ (u2_5 + 1) ≤ (σ.1 7) from by (first | omega | (simp only [st_s] <;> omega) | assumption | omega | fail)) (show c_Rs τ_5 par nof In from by (first | exact i5_2 | exact p6 | exact q15_3 | exact rs25 | exact rs37 | fail)) (show c_WZ τ_5 from by (first | exact i5_3 | exact p7 | exact q15_2 | exact wz25 | exact wz37 | fail)) (show c_DS In τ_5 from by (first | exact i5_4 | exact p9 | exact ds17 | exact ds25 | exact ds37 | exact c_DS_a ds37 rfl rfl rfl (fun k hk => by simp only [List.mem_cons, List.mem_nil_iff, or_false] at hk; have q9 := hk; rcases q9 with rfl | rfl | rfl | rfl | rfl | rfl | rfl | rfl | rfl | rfl | rfl | rfl | rfl <;> rfl) rfl rfl (by omega) (by omega) (by rw [e_x43]; exact dt37 (by assumption)) | fail)) (show (τ_5.1 57) = (σ.1 57) from by (first | omega | (simp only [st_s] <;> omega) | assumption | omega | fail)) (show (τ_5.1 3) = (σ.1 3) from by (first | omega | (simp only [st_s] <;> omega) | assumption | omega | fail))
        ·
          refine ⟨_, K_X3_lengthOf hT (show 0 ≤ u2_5 from by (first | omega | (simp only [st_s] <;> omega) | assumption | omega | fail)) (show u2_5 < 1500 from by (first | omega | (simp only [st_s] <;> omega) | assumption | omega | fail)), ?_⟩
          intro x9 r_x9 hq
          have q8_1 := hq
          replace q8_1 : x9 = τ_5.2.1 14 (u2_5 + 1) - τ_5.2.1 14 u2_5 := q8_1
          rw [G14] at q8_1
          refine ⟨fun c11 => ?_, fun c11 => ?_⟩
          ·
            have l10 := G10
            have l14 := G14
            have l15 := G15
            have l16 := G16
            have l48 := W48
            have l49 := W49
            have tp4 : τ_5.2.1 15 (τ_5.2.1 14 u2_5) = τ_5.1 48 := by (rw [← q3_1]; assumption)
            refine ⟨_, K_X1_takeStatement hT (show 0 ≤ u2_5 from by (first | omega | (simp only [st_s] <;> omega) | assumption | omega | fail)) (show u2_5 < (τ_5.1 7) from by (first | omega | (simp only [st_s] <;> omega) | assumption | omega | fail)) (show J_all (τ_5.1 7) (τ_5.1 6) (τ_5.1 13) (τ_5.1 14) (τ_5.1 15) (τ_5.2.1 13) (τ_5.2.1 14) (τ_5.2.1 15) (τ_5.2.1 16) (τ_5.2.1 10) (τ_5.2.1 27) (τ_5.2.1 28) (τ_5.2.1 29) (τ_5.2.1 30) (τ_5.2.1 31) (τ_5.2.1 32) (τ_5.2.1 33) (τ_5.2.1 34) (τ_5.2.1 35) (τ_5.2.1 36) (τ_5.2.1 37) from CJ) (show J_rks (τ_5.1 5) (τ_5.1 4) (τ_5.2.1 10) (τ_5.2.1 11) from RKS) (show J_vs (τ_5.1 6) (τ_5.1 5) (τ_5.2.1 15) from TX) (show ∀ s : Int, 0 ≤ s → s < 1000 → (∀ i : Int, 0 ≤ i → i < (τ_5.1 50) → τ_5.2.1 77 i ≠ s) → τ_5.2.2 3 s = 0 from by exact i5_3) (show τ_5.2.1 14 (u2_5 + 1) ≤ τ_5.2.1 14 u2_5 + 60 from by (rw [G14]; omega)) (show (τ_5.1 49) < (τ_5.1 5) from by (first | omega | (simp only [st_s] <;> omega) | assumption | omega | fail)), ?_⟩
            intro τ14 hn_τ14 hf_τ14 hq
            obtain ⟨hT, q12_1, q12_2, q12_3, q12_4, q12_5, q12_6, q12_7⟩ := hq
            replace q12_1 : ∀ s : Int, 0 ≤ s → s < 1000 → τ14.2.2 3 s = 0 := q12_1
            replace q12_2 : (τ14.1 52) < (τ_5.1 4) := q12_2
            replace q12_3 : (τ14.1 50) = τ_5.2.1 14 (u2_5 + 1) - τ_5.2.1 14 u2_5 - 1 := q12_3
            replace q12_4 : (τ14.1 51) = u2_5 := q12_4
            replace q12_5 : ∀ i : Int, 0 ≤ i → i < (τ14.1 50) → 0 ≤ τ14.2.1 78 i → τ14.2.1 78 i < (τ_5.1 7) ∧ τ_5.2.1 13 (τ14.2.1 78 i) = 0 := q12_5
            replace q12_6 : ∀ i : Int, 0 ≤ i → i < (τ14.1 50) → τ14.2.1 77 i = τ_5.2.1 15 (τ_5.2.1 14 u2_5 + 1 + i) ∧ τ14.2.1 78 i = τ_5.2.1 16 (τ_5.2.1 14 u2_5 + 1 + i) := q12_6
            replace q12_7 : τ_5.2.1 15 (τ_5.2.1 14 u2_5) = (τ_5.1 48) → (τ14.1 52) = -1 ∨ (¬ (τ_5.1 49) = -1 ∧ (τ14.1 52) = τ_5.2.1 10 (τ_5.1 49)) := q12_7
            have w3_τ14 : τ14.1 3 = τ_5.1 3 := hf_τ14.1 3 (by decide)
            have w4_τ14 : τ14.1 4 = τ_5.1 4 := hf_τ14.1 4 (by decide)
            have w5_τ14 : τ14.1 5 = τ_5.1 5 := hf_τ14.1 5 (by decide)
            have w6_τ14 : τ14.1 6 = τ_5.1 6 := hf_τ14.1 6 (by decide)
            have w7_τ14 : τ14.1 7 = τ_5.1 7 := hf_τ14.1 7 (by decide)
            have w13_τ14 : τ14.1 13 = τ_5.1 13 := hf_τ14.1 13 (by decide)
            have w14_τ14 : τ14.1 14 = τ_5.1 14 := hf_τ14.1 14 (by decide)
            have w15_τ14 : τ14.1 15 = τ_5.1 15 := hf_τ14.1 15 (by decide)
            have w45_τ14 : τ14.1 45 = τ_5.1 45 := hf_τ14.1 45 (by decide)
            have w48_τ14 : τ14.1 48 = τ_5.1 48 := hf_τ14.1 48 (by decide)
            have w49_τ14 : τ14.1 49 = τ_5.1 49 := hf_τ14.1 49 (by decide)
            have w54_τ14 : τ14.1 54 = τ_5.1 54 := hf_τ14.1 54 (by decide)
            have w57_τ14 : τ14.1 57 = τ_5.1 57 := hf_τ14.1 57 (by decide)
            have w61_τ14 : τ14.1 61 = τ_5.1 61 := hf_τ14.1 61 (by decide)
            have g2_τ14 : τ14.2.1 2 = τ_5.2.1 2 := hf_τ14.2.1 2 (by decide)
            have g3_τ14 : τ14.2.1 3 = τ_5.2.1 3 := hf_τ14.2.1 3 (by decide)
            have g4_τ14 : τ14.2.1 4 = τ_5.2.1 4 := hf_τ14.2.1 4 (by decide)
            have g8_τ14 : τ14.2.1 8 = τ_5.2.1 8 := hf_τ14.2.1 8 (by decide)
            have g10_τ14 : τ14.2.1 10 = τ_5.2.1 10 := hf_τ14.2.1 10 (by decide)
            have g11_τ14 : τ14.2.1 11 = τ_5.2.1 11 := hf_τ14.2.1 11 (by decide)
            have g13_τ14 : τ14.2.1 13 = τ_5.2.1 13 := hf_τ14.2.1 13 (by decide)
            have g14_τ14 : τ14.2.1 14 = τ_5.2.1 14 := hf_τ14.2.1 14 (by decide)
            have g15_τ14 : τ14.2.1 15 = τ_5.2.1 15 := hf_τ14.2.1 15 (by decide)
            have g16_τ14 : τ14.2.1 16 = τ_5.2.1 16 := hf_τ14.2.1 16 (by decide)
            have g27_τ14 : τ14.2.1 27 = τ_5.2.1 27 := hf_τ14.2.1 27 (by decide)
            have g28_τ14 : τ14.2.1 28 = τ_5.2.1 28 := hf_τ14.2.1 28 (by decide)
            have g29_τ14 : τ14.2.1 29 = τ_5.2.1 29 := hf_τ14.2.1 29 (by decide)
            have g30_τ14 : τ14.2.1 30 = τ_5.2.1 30 := hf_τ14.2.1 30 (by decide)
            have g31_τ14 : τ14.2.1 31 = τ_5.2.1 31 := hf_τ14.2.1 31 (by decide)
            have g32_τ14 : τ14.2.1 32 = τ_5.2.1 32 := hf_τ14.2.1 32 (by decide)
            have g33_τ14 : τ14.2.1 33 = τ_5.2.1 33 := hf_τ14.2.1 33 (by decide)
            have g34_τ14 : τ14.2.1 34 = τ_5.2.1 34 := hf_τ14.2.1 34 (by decide)
            have g35_τ14 : τ14.2.1 35 = τ_5.2.1 35 := hf_τ14.2.1 35 (by decide)
            have g36_τ14 : τ14.2.1 36 = τ_5.2.1 36 := hf_τ14.2.1 36 (by decide)
            have g37_τ14 : τ14.2.1 37 = τ_5.2.1 37 := hf_τ14.2.1 37 (by decide)
            have g69_τ14 : τ14.2.1 69 = τ_5.2.1 69 := hf_τ14.2.1 69 (by decide)
            have g70_τ14 : τ14.2.1 70 = τ_5.2.1 70 := hf_τ14.2.1 70 (by decide)
            have g79_τ14 : τ14.2.1 79 = τ_5.2.1 79 := hf_τ14.2.1 79 (by decide)
            have g84_τ14 : τ14.2.1 84 = τ_5.2.1 84 := hf_τ14.2.1 84 (by decide)
            have g93_τ14 : τ14.2.1 93 = τ_5.2.1 93 := hf_τ14.2.1 93 (by decide)
            have g94_τ14 : τ14.2.1 94 = τ_5.2.1 94 := hf_τ14.2.1 94 (by decide)
            have g100_τ14 : τ14.2.1 100 = τ_5.2.1 100 := hf_τ14.2.1 100 (by decide)
            have W3 : τ14.1 3 = σ.1 3 := by first | exact w3_τ14.trans W3 | omega
            have W4 : τ14.1 4 = σ.1 4 := by first | exact w4_τ14.trans W4 | omega
            have W5 : τ14.1 5 = σ.1 5 := by first | exact w5_τ14.trans W5 | omega
            have W6 : τ14.1 6 = σ.1 6 := by first | exact w6_τ14.trans W6 | omega
            have W7 : τ14.1 7 = σ.1 7 := by first | exact w7_τ14.trans W7 | omega
            have W13 : τ14.1 13 = σ.1 13 := by first | exact w13_τ14.trans W13 | omega
            have W14 : τ14.1 14 = σ.1 14 := by first | exact w14_τ14.trans W14 | omega
            have W15 : τ14.1 15 = σ.1 15 := by first | exact w15_τ14.trans W15 | omega
            have W45 : τ14.1 45 = σ.1 45 := by first | exact w45_τ14.trans W45 | omega
            have W48 : τ14.1 48 = σ.1 48 := by first | exact w48_τ14.trans W48 | omega
            have W49 : τ14.1 49 = σ.1 49 := by first | exact w49_τ14.trans W49 | omega
            have G2 : τ14.2.1 2 = σ.2.1 2 := (g2_τ14).trans G2
            have G3 : τ14.2.1 3 = σ.2.1 3 := (g3_τ14).trans G3
            have G4 : τ14.2.1 4 = σ.2.1 4 := (g4_τ14).trans G4
            have G8 : τ14.2.1 8 = σ.2.1 8 := (g8_τ14).trans G8
            have G10 : τ14.2.1 10 = σ.2.1 10 := (g10_τ14).trans G10
            have G11 : τ14.2.1 11 = σ.2.1 11 := (g11_τ14).trans G11
            have G13 : τ14.2.1 13 = σ.2.1 13 := (g13_τ14).trans G13
            have G14 : τ14.2.1 14 = σ.2.1 14 := (g14_τ14).trans G14
            have G15 : τ14.2.1 15 = σ.2.1 15 := (g15_τ14).trans G15
            have G16 : τ14.2.1 16 = σ.2.1 16 := (g16_τ14).trans G16
            have G27 : τ14.2.1 27 = σ.2.1 27 := (g27_τ14).trans G27
            have G28 : τ14.2.1 28 = σ.2.1 28 := (g28_τ14).trans G28
            have G29 : τ14.2.1 29 = σ.2.1 29 := (g29_τ14).trans G29
            have G30 : τ14.2.1 30 = σ.2.1 30 := (g30_τ14).trans G30
            have G31 : τ14.2.1 31 = σ.2.1 31 := (g31_τ14).trans G31
            have G32 : τ14.2.1 32 = σ.2.1 32 := (g32_τ14).trans G32
            have G33 : τ14.2.1 33 = σ.2.1 33 := (g33_τ14).trans G33
            have G34 : τ14.2.1 34 = σ.2.1 34 := (g34_τ14).trans G34
            have G35 : τ14.2.1 35 = σ.2.1 35 := (g35_τ14).trans G35
            have G36 : τ14.2.1 36 = σ.2.1 36 := (g36_τ14).trans G36
            have G37 : τ14.2.1 37 = σ.2.1 37 := (g37_τ14).trans G37
            have G69 : τ14.2.1 69 = σ.2.1 69 := (g69_τ14).trans G69
            have G70 : τ14.2.1 70 = σ.2.1 70 := (g70_τ14).trans G70
            have y10_49_τ14 : τ14.2.1 10 (τ14.1 49) = (τ_5.2.1 10) (τ_5.1 49) := by rw [g10_τ14, w49_τ14]
            have y84_61_τ14 : τ14.2.1 84 (τ14.1 61) = (τ_5.2.1 84) (τ_5.1 61) := by rw [g84_τ14, w61_τ14]
            have TX : J_vs (τ14.1 6) (τ14.1 5) (τ14.2.1 15) := by rw [show (J_vs (τ14.1 6) (τ14.1 5) (τ14.2.1 15)) = (J_vs (τ_5.1 6) (τ_5.1 5) (τ_5.2.1 15)) from by rw [w5_τ14, w6_τ14, g15_τ14]]; exact TX
            have RKS : J_rks (τ14.1 5) (τ14.1 4) (τ14.2.1 10) (τ14.2.1 11) := by rw [show (J_rks (τ14.1 5) (τ14.1 4) (τ14.2.1 10) (τ14.2.1 11)) = (J_rks (τ_5.1 5) (τ_5.1 4) (τ_5.2.1 10) (τ_5.2.1 11)) from by rw [w4_τ14, w5_τ14, g10_τ14, g11_τ14]]; exact RKS
            have CJ : J_all (τ14.1 7) (τ14.1 6) (τ14.1 13) (τ14.1 14) (τ14.1 15) (τ14.2.1 13) (τ14.2.1 14) (τ14.2.1 15) (τ14.2.1 16) (τ14.2.1 10) (τ14.2.1 27) (τ14.2.1 28) (τ14.2.1 29) (τ14.2.1 30) (τ14.2.1 31) (τ14.2.1 32) (τ14.2.1 33) (τ14.2.1 34) (τ14.2.1 35) (τ14.2.1 36) (τ14.2.1 37) := by rw [show (J_all (τ14.1 7) (τ14.1 6) (τ14.1 13) (τ14.1 14) (τ14.1 15) (τ14.2.1 13) (τ14.2.1 14) (τ14.2.1 15) (τ14.2.1 16) (τ14.2.1 10) (τ14.2.1 27) (τ14.2.1 28) (τ14.2.1 29) (τ14.2.1 30) (τ14.2.1 31) (τ14.2.1 32) (τ14.2.1 33) (τ14.2.1 34) (τ14.2.1 35) (τ14.2.1 36) (τ14.2.1 37)) = (J_all (τ_5.1 7) (τ_5.1 6) (τ_5.1 13) (τ_5.1 14) (τ_5.1 15) (τ_5.2.1 13) (τ_5.2.1 14) (τ_5.2.1 15) (τ_5.2.1 16) (τ_5.2.1 10) (τ_5.2.1 27) (τ_5.2.1 28) (τ_5.2.1 29) (τ_5.2.1 30) (τ_5.2.1 31) (τ_5.2.1 32) (τ_5.2.1 33) (τ_5.2.1 34) (τ_5.2.1 35) (τ_5.2.1 36) (τ_5.2.1 37)) from by rw [w6_τ14, w7_τ14, w13_τ14, w14_τ14, w15_τ14, g10_τ14, g13_τ14, g14_τ14, g15_τ14, g16_τ14, g27_τ14, g28_τ14, g29_τ14, g30_τ14, g31_τ14, g32_τ14, g33_τ14, g34_τ14, g35_τ14, g36_τ14, g37_τ14]]; exact CJ
            have A2 : ∀ j, 0 ≤ τ14.2.1 2 j ∧ τ14.2.1 2 j ≤ 65535 := fun j => hT.2 2 j
            have A3 : ∀ j, 0 ≤ τ14.2.1 3 j ∧ τ14.2.1 3 j ≤ 30000 := fun j => hT.2 3 j
            have A4 : ∀ j, (-1000) ≤ τ14.2.1 4 j ∧ τ14.2.1 4 j ≤ 1499 := fun j => hT.2 4 j
            have A8 : ∀ j, 0 ≤ τ14.2.1 8 j ∧ τ14.2.1 8 j ≤ 1 := fun j => hT.2 8 j
            have A10 : ∀ j, (-1) ≤ τ14.2.1 10 j ∧ τ14.2.1 10 j ≤ 99 := fun j => hT.2 10 j
            have A11 : ∀ j, 0 ≤ τ14.2.1 11 j ∧ τ14.2.1 11 j ≤ 999 := fun j => hT.2 11 j
            have A13 : ∀ j, 0 ≤ τ14.2.1 13 j ∧ τ14.2.1 13 j ≤ 4 := fun j => hT.2 13 j
            have A14 : ∀ j, 0 ≤ τ14.2.1 14 j ∧ τ14.2.1 14 j ≤ 30000 := fun j => hT.2 14 j
            have A15 : ∀ j, 0 ≤ τ14.2.1 15 j ∧ τ14.2.1 15 j ≤ 999 := fun j => hT.2 15 j
            have A16 : ∀ j, (-1) ≤ τ14.2.1 16 j ∧ τ14.2.1 16 j ≤ 1499 := fun j => hT.2 16 j
            have A27 : ∀ j, 0 ≤ τ14.2.1 27 j ∧ τ14.2.1 27 j ≤ 90000 := fun j => hT.2 27 j
            have A28 : ∀ j, 0 ≤ τ14.2.1 28 j ∧ τ14.2.1 28 j ≤ 60 := fun j => hT.2 28 j
            have A29 : ∀ j, 0 ≤ τ14.2.1 29 j ∧ τ14.2.1 29 j ≤ 1499 := fun j => hT.2 29 j
            have A30 : ∀ j, 0 ≤ τ14.2.1 30 j ∧ τ14.2.1 30 j ≤ 20000 := fun j => hT.2 30 j
            have A31 : ∀ j, 0 ≤ τ14.2.1 31 j ∧ τ14.2.1 31 j ≤ 20000 := fun j => hT.2 31 j
            have A32 : ∀ j, 0 ≤ τ14.2.1 32 j ∧ τ14.2.1 32 j ≤ 999999 := fun j => hT.2 32 j
            have A33 : ∀ j, 0 ≤ τ14.2.1 33 j ∧ τ14.2.1 33 j ≤ 20000 := fun j => hT.2 33 j
            have A34 : ∀ j, 0 ≤ τ14.2.1 34 j ∧ τ14.2.1 34 j ≤ 20000 := fun j => hT.2 34 j
            have A35 : ∀ j, 0 ≤ τ14.2.1 35 j ∧ τ14.2.1 35 j ≤ 1499 := fun j => hT.2 35 j
            have A36 : ∀ j, 0 ≤ τ14.2.1 36 j ∧ τ14.2.1 36 j ≤ 20000 := fun j => hT.2 36 j
            have A37 : ∀ j, 0 ≤ τ14.2.1 37 j ∧ τ14.2.1 37 j ≤ 19999 := fun j => hT.2 37 j
            have A69 : ∀ j, (-100) ≤ τ14.2.1 69 j ∧ τ14.2.1 69 j ≤ 999 := fun j => hT.2 69 j
            have A70 : ∀ j, 0 ≤ τ14.2.1 70 j ∧ τ14.2.1 70 j ≤ 1499 := fun j => hT.2 70 j
            have A77 : ∀ j, 0 ≤ τ14.2.1 77 j ∧ τ14.2.1 77 j ≤ 999 := fun j => hT.2 77 j
            have A78 : ∀ j, (-1) ≤ τ14.2.1 78 j ∧ τ14.2.1 78 j ≤ 1499 := fun j => hT.2 78 j
            have A79 : ∀ j, 0 ≤ τ14.2.1 79 j ∧ τ14.2.1 79 j ≤ 1499 := fun j => hT.2 79 j
            have A84 : ∀ j, 0 ≤ τ14.2.1 84 j ∧ τ14.2.1 84 j ≤ 1499 := fun j => hT.2 84 j
            have A93 : ∀ j, 0 ≤ τ14.2.1 93 j ∧ τ14.2.1 93 j ≤ 1500 := fun j => hT.2 93 j
            have A94 : ∀ j, 0 ≤ τ14.2.1 94 j ∧ τ14.2.1 94 j ≤ 1500 := fun j => hT.2 94 j
            have A100 : ∀ j, 0 ≤ τ14.2.1 100 j ∧ τ14.2.1 100 j ≤ 1060 := fun j => hT.2 100 j
            have v3 : 0 ≤ τ14.1 3 ∧ τ14.1 3 ≤ 2500 := hT.1 3
            have v4 : 0 ≤ τ14.1 4 ∧ τ14.1 4 ≤ 100 := hT.1 4
            have v5 : 0 ≤ τ14.1 5 ∧ τ14.1 5 ≤ 1000 := hT.1 5
            have v6 : 0 ≤ τ14.1 6 ∧ τ14.1 6 ≤ 30000 := hT.1 6
            have v7 : 0 ≤ τ14.1 7 ∧ τ14.1 7 ≤ 1500 := hT.1 7
            have v13 : 0 ≤ τ14.1 13 ∧ τ14.1 13 ≤ 90000 := hT.1 13
            have v14 : 0 ≤ τ14.1 14 ∧ τ14.1 14 ≤ 20000 := hT.1 14
            have v15 : 0 ≤ τ14.1 15 ∧ τ14.1 15 ≤ 20000 := hT.1 15
            have v45 : 1 ≤ τ14.1 45 ∧ τ14.1 45 ≤ 30001 := hT.1 45
            have v48 : (-1) ≤ τ14.1 48 ∧ τ14.1 48 ≤ 999 := hT.1 48
            have v49 : (-1) ≤ τ14.1 49 ∧ τ14.1 49 ≤ 999 := hT.1 49
            have v50 : 0 ≤ τ14.1 50 ∧ τ14.1 50 ≤ 59 := hT.1 50
            have v51 : 0 ≤ τ14.1 51 ∧ τ14.1 51 ≤ 1500 := hT.1 51
            have v52 : (-1) ≤ τ14.1 52 ∧ τ14.1 52 ≤ 99 := hT.1 52
            have v54 : 0 ≤ τ14.1 54 ∧ τ14.1 54 ≤ 12000 := hT.1 54
            have v57 : 0 ≤ τ14.1 57 ∧ τ14.1 57 ≤ 1500 := hT.1 57
            have v61 : 0 ≤ τ14.1 61 ∧ τ14.1 61 ≤ 12000 := hT.1 61
            have a10_49 : (-1) ≤ τ14.2.1 10 (τ14.1 49) ∧ τ14.2.1 10 (τ14.1 49) ≤ 99 := hT.2 10 _
            have a84_61 : 0 ≤ τ14.2.1 84 (τ14.1 61) ∧ τ14.2.1 84 (τ14.1 61) ≤ 1499 := hT.2 84 _
            have ds14 := c_DS_h (show c_DS In τ_5 from i5_4) hf_τ14 rfl rfl
            rw [l14, l15, l16] at q12_6
            have tk7 := q12_7 tp4
            rw [l10, l49] at tk7
            rw [l14, l15, l48] at tp4
            have rs14 := c_Rs_h (show c_Rs τ_5 par nof In from i5_2) hf_τ14 rfl
            refine ⟨_, K_X1_countTrees hT (show J_all (τ14.1 7) (τ14.1 6) (τ14.1 13) (τ14.1 14) (τ14.1 15) (τ14.2.1 13) (τ14.2.1 14) (τ14.2.1 15) (τ14.2.1 16) (τ14.2.1 10) (τ14.2.1 27) (τ14.2.1 28) (τ14.2.1 29) (τ14.2.1 30) (τ14.2.1 31) (τ14.2.1 32) (τ14.2.1 33) (τ14.2.1 34) (τ14.2.1 35) (τ14.2.1 36) (τ14.2.1 37) from CJ) (show c_Rs τ14 par nof In from by exact rs14) (show ∀ s : Int, 0 ≤ s → s < 1000 → τ14.2.2 3 s = 0 from by exact q12_1) (show J_rks (τ14.1 5) (τ14.1 4) (τ14.2.1 10) (τ14.2.1 11) from RKS) (show J_vs (τ14.1 6) (τ14.1 5) (τ14.2.1 15) from TX) (show ∀ i : Int, 0 ≤ i → i < (τ14.1 50) → 0 ≤ τ14.2.1 78 i → τ14.2.1 78 i < (τ14.1 7) from by (rw [w7_τ14]; exact fun i a b c => (q12_5 i a b c).1)) (show (τ14.1 52) < (τ14.1 4) from by (first | omega | (simp only [st_s] <;> omega) | assumption | omega | fail)), ?_⟩
            intro x16 τ17 r_x16 hn_τ17 hf_τ17 hq
            obtain ⟨hT, q15_1, q15_2, q15_3, q15_4, q15_5⟩ := hq
            replace q15_1 : 0 ≤ x16 ∧ x16 ≤ 2 := q15_1
            replace q15_2 : ∀ s : Int, 0 ≤ s → s < 1000 → (∀ i : Int, 0 ≤ i → i < (τ17.1 50) → τ17.2.1 77 i ≠ s) → τ17.2.2 3 s = 0 := q15_2
            replace q15_3 : c_Rs τ17 par nof In := q15_3
            replace q15_4 : x16 = 1 → (∀ i : Int, 0 ≤ i → i < (τ14.1 50) → g_ok (τ14.1 45) (τ14.1 50) (τ14.1 4) (τ14.1 51) i (τ14.2.1 77) (τ14.2.1 69) par (τ14.2.1 70) nof (g_so (τ14.1 48) (τ14.2.1 14) (τ14.2.1 15) (τ14.2.1 10)) (τ14.2.1 78) In (τ17.2.2 4) (τ17.2.2 5) (τ17.2.1 79)) ∧ 0 ≤ (τ14.1 52) ∧ 0 < (τ14.1 50) ∧ g_H (τ17.2.2 4) (τ14.1 52) 0 (τ14.1 50) ∧ ¬ g_H (τ17.2.2 5) (τ14.1 52) 0 (τ14.1 50) ∧ g_wu (τ14.1 50) (τ14.2.1 77) (τ17.2.2 3) := q15_4
            replace q15_5 : x16 = 1 → ∀ i : Int, 0 ≤ i → i < (τ14.1 50) → g_uq (τ14.1 45) (τ14.1 50) (τ14.1 51) i (0 ≤ τ14.2.1 78 i ∧ ¬ τ14.2.1 15 (τ14.2.1 14 (τ14.2.1 78 i)) = (τ14.1 48)) (τ14.2.1 77) (τ14.2.1 69) par (τ14.2.1 70) nof (g_so (τ14.1 48) (τ14.2.1 14) (τ14.2.1 15) (τ14.2.1 10)) (τ14.2.1 78) In (τ17.2.2 4) (τ17.2.2 5) (τ17.2.1 79) := q15_5
            have w3_τ17 : τ17.1 3 = τ14.1 3 := hf_τ17.1 3 (by decide)
            have w4_τ17 : τ17.1 4 = τ14.1 4 := hf_τ17.1 4 (by decide)
            have w5_τ17 : τ17.1 5 = τ14.1 5 := hf_τ17.1 5 (by decide)
            have w6_τ17 : τ17.1 6 = τ14.1 6 := hf_τ17.1 6 (by decide)
            have w7_τ17 : τ17.1 7 = τ14.1 7 := hf_τ17.1 7 (by decide)
            have w13_τ17 : τ17.1 13 = τ14.1 13 := hf_τ17.1 13 (by decide)
            have w14_τ17 : τ17.1 14 = τ14.1 14 := hf_τ17.1 14 (by decide)
            have w15_τ17 : τ17.1 15 = τ14.1 15 := hf_τ17.1 15 (by decide)
            have w45_τ17 : τ17.1 45 = τ14.1 45 := hf_τ17.1 45 (by decide)
            have w48_τ17 : τ17.1 48 = τ14.1 48 := hf_τ17.1 48 (by decide)
            have w49_τ17 : τ17.1 49 = τ14.1 49 := hf_τ17.1 49 (by decide)
            have w50_τ17 : τ17.1 50 = τ14.1 50 := hf_τ17.1 50 (by decide)
            have w51_τ17 : τ17.1 51 = τ14.1 51 := hf_τ17.1 51 (by decide)
            have w52_τ17 : τ17.1 52 = τ14.1 52 := hf_τ17.1 52 (by decide)
            have w54_τ17 : τ17.1 54 = τ14.1 54 := hf_τ17.1 54 (by decide)
            have w57_τ17 : τ17.1 57 = τ14.1 57 := hf_τ17.1 57 (by decide)
            have w61_τ17 : τ17.1 61 = τ14.1 61 := hf_τ17.1 61 (by decide)
            have g2_τ17 : τ17.2.1 2 = τ14.2.1 2 := hf_τ17.2.1 2 (by decide)
            have g3_τ17 : τ17.2.1 3 = τ14.2.1 3 := hf_τ17.2.1 3 (by decide)
            have g4_τ17 : τ17.2.1 4 = τ14.2.1 4 := hf_τ17.2.1 4 (by decide)
            have g8_τ17 : τ17.2.1 8 = τ14.2.1 8 := hf_τ17.2.1 8 (by decide)
            have g10_τ17 : τ17.2.1 10 = τ14.2.1 10 := hf_τ17.2.1 10 (by decide)
            have g11_τ17 : τ17.2.1 11 = τ14.2.1 11 := hf_τ17.2.1 11 (by decide)
            have g13_τ17 : τ17.2.1 13 = τ14.2.1 13 := hf_τ17.2.1 13 (by decide)
            have g14_τ17 : τ17.2.1 14 = τ14.2.1 14 := hf_τ17.2.1 14 (by decide)
            have g15_τ17 : τ17.2.1 15 = τ14.2.1 15 := hf_τ17.2.1 15 (by decide)
            have g16_τ17 : τ17.2.1 16 = τ14.2.1 16 := hf_τ17.2.1 16 (by decide)
            have g27_τ17 : τ17.2.1 27 = τ14.2.1 27 := hf_τ17.2.1 27 (by decide)
            have g28_τ17 : τ17.2.1 28 = τ14.2.1 28 := hf_τ17.2.1 28 (by decide)
            have g29_τ17 : τ17.2.1 29 = τ14.2.1 29 := hf_τ17.2.1 29 (by decide)
            have g30_τ17 : τ17.2.1 30 = τ14.2.1 30 := hf_τ17.2.1 30 (by decide)
            have g31_τ17 : τ17.2.1 31 = τ14.2.1 31 := hf_τ17.2.1 31 (by decide)
            have g32_τ17 : τ17.2.1 32 = τ14.2.1 32 := hf_τ17.2.1 32 (by decide)
            have g33_τ17 : τ17.2.1 33 = τ14.2.1 33 := hf_τ17.2.1 33 (by decide)
            have g34_τ17 : τ17.2.1 34 = τ14.2.1 34 := hf_τ17.2.1 34 (by decide)
            have g35_τ17 : τ17.2.1 35 = τ14.2.1 35 := hf_τ17.2.1 35 (by decide)
            have g36_τ17 : τ17.2.1 36 = τ14.2.1 36 := hf_τ17.2.1 36 (by decide)
            have g37_τ17 : τ17.2.1 37 = τ14.2.1 37 := hf_τ17.2.1 37 (by decide)
            have g69_τ17 : τ17.2.1 69 = τ14.2.1 69 := hf_τ17.2.1 69 (by decide)
            have g70_τ17 : τ17.2.1 70 = τ14.2.1 70 := hf_τ17.2.1 70 (by decide)
            have g77_τ17 : τ17.2.1 77 = τ14.2.1 77 := hf_τ17.2.1 77 (by decide)
            have g78_τ17 : τ17.2.1 78 = τ14.2.1 78 := hf_τ17.2.1 78 (by decide)
            have g84_τ17 : τ17.2.1 84 = τ14.2.1 84 := hf_τ17.2.1 84 (by decide)
            have g93_τ17 : τ17.2.1 93 = τ14.2.1 93 := hf_τ17.2.1 93 (by decide)
            have g94_τ17 : τ17.2.1 94 = τ14.2.1 94 := hf_τ17.2.1 94 (by decide)
            have g100_τ17 : τ17.2.1 100 = τ14.2.1 100 := hf_τ17.2.1 100 (by decide)
            have W3 : τ17.1 3 = σ.1 3 := by first | exact w3_τ17.trans W3 | omega
            have W4 : τ17.1 4 = σ.1 4 := by first | exact w4_τ17.trans W4 | omega
            have W5 : τ17.1 5 = σ.1 5 := by first | exact w5_τ17.trans W5 | omega
            have W6 : τ17.1 6 = σ.1 6 := by first | exact w6_τ17.trans W6 | omega
            have W7 : τ17.1 7 = σ.1 7 := by first | exact w7_τ17.trans W7 | omega
            have W13 : τ17.1 13 = σ.1 13 := by first | exact w13_τ17.trans W13 | omega
            have W14 : τ17.1 14 = σ.1 14 := by first | exact w14_τ17.trans W14 | omega
            have W15 : τ17.1 15 = σ.1 15 := by first | exact w15_τ17.trans W15 | omega
            have W45 : τ17.1 45 = σ.1 45 := by first | exact w45_τ17.trans W45 | omega
            have W48 : τ17.1 48 = σ.1 48 := by first | exact w48_τ17.trans W48 | omega
            have W49 : τ17.1 49 = σ.1 49 := by first | exact w49_τ17.trans W49 | omega
            have G2 : τ17.2.1 2 = σ.2.1 2 := (g2_τ17).trans G2
            have G3 : τ17.2.1 3 = σ.2.1 3 := (g3_τ17).trans G3
            have G4 : τ17.2.1 4 = σ.2.1 4 := (g4_τ17).trans G4
            have G8 : τ17.2.1 8 = σ.2.1 8 := (g8_τ17).trans G8
            have G10 : τ17.2.1 10 = σ.2.1 10 := (g10_τ17).trans G10
            have G11 : τ17.2.1 11 = σ.2.1 11 := (g11_τ17).trans G11
            have G13 : τ17.2.1 13 = σ.2.1 13 := (g13_τ17).trans G13
            have G14 : τ17.2.1 14 = σ.2.1 14 := (g14_τ17).trans G14
            have G15 : τ17.2.1 15 = σ.2.1 15 := (g15_τ17).trans G15
            have G16 : τ17.2.1 16 = σ.2.1 16 := (g16_τ17).trans G16
            have G27 : τ17.2.1 27 = σ.2.1 27 := (g27_τ17).trans G27
            have G28 : τ17.2.1 28 = σ.2.1 28 := (g28_τ17).trans G28
            have G29 : τ17.2.1 29 = σ.2.1 29 := (g29_τ17).trans G29
            have G30 : τ17.2.1 30 = σ.2.1 30 := (g30_τ17).trans G30
            have G31 : τ17.2.1 31 = σ.2.1 31 := (g31_τ17).trans G31
            have G32 : τ17.2.1 32 = σ.2.1 32 := (g32_τ17).trans G32
            have G33 : τ17.2.1 33 = σ.2.1 33 := (g33_τ17).trans G33
            have G34 : τ17.2.1 34 = σ.2.1 34 := (g34_τ17).trans G34
            have G35 : τ17.2.1 35 = σ.2.1 35 := (g35_τ17).trans G35
            have G36 : τ17.2.1 36 = σ.2.1 36 := (g36_τ17).trans G36
            have G37 : τ17.2.1 37 = σ.2.1 37 := (g37_τ17).trans G37
            have G69 : τ17.2.1 69 = σ.2.1 69 := (g69_τ17).trans G69
            have G70 : τ17.2.1 70 = σ.2.1 70 := (g70_τ17).trans G70
            have y10_49_τ17 : τ17.2.1 10 (τ17.1 49) = (τ14.2.1 10) (τ14.1 49) := by rw [g10_τ17, w49_τ17]
            have y84_61_τ17 : τ17.2.1 84 (τ17.1 61) = (τ14.2.1 84) (τ14.1 61) := by rw [g84_τ17, w61_τ17]
            have TX : J_vs (τ17.1 6) (τ17.1 5) (τ17.2.1 15) := by rw [show (J_vs (τ17.1 6) (τ17.1 5) (τ17.2.1 15)) = (J_vs (τ14.1 6) (τ14.1 5) (τ14.2.1 15)) from by rw [w5_τ17, w6_τ17, g15_τ17]]; exact TX
            have RKS : J_rks (τ17.1 5) (τ17.1 4) (τ17.2.1 10) (τ17.2.1 11) := by rw [show (J_rks (τ17.1 5) (τ17.1 4) (τ17.2.1 10) (τ17.2.1 11)) = (J_rks (τ14.1 5) (τ14.1 4) (τ14.2.1 10) (τ14.2.1 11)) from by rw [w4_τ17, w5_τ17, g10_τ17, g11_τ17]]; exact RKS
            have CJ : J_all (τ17.1 7) (τ17.1 6) (τ17.1 13) (τ17.1 14) (τ17.1 15) (τ17.2.1 13) (τ17.2.1 14) (τ17.2.1 15) (τ17.2.1 16) (τ17.2.1 10) (τ17.2.1 27) (τ17.2.1 28) (τ17.2.1 29) (τ17.2.1 30) (τ17.2.1 31) (τ17.2.1 32) (τ17.2.1 33) (τ17.2.1 34) (τ17.2.1 35) (τ17.2.1 36) (τ17.2.1 37) := by rw [show (J_all (τ17.1 7) (τ17.1 6) (τ17.1 13) (τ17.1 14) (τ17.1 15) (τ17.2.1 13) (τ17.2.1 14) (τ17.2.1 15) (τ17.2.1 16) (τ17.2.1 10) (τ17.2.1 27) (τ17.2.1 28) (τ17.2.1 29) (τ17.2.1 30) (τ17.2.1 31) (τ17.2.1 32) (τ17.2.1 33) (τ17.2.1 34) (τ17.2.1 35) (τ17.2.1 36) (τ17.2.1 37)) = (J_all (τ14.1 7) (τ14.1 6) (τ14.1 13) (τ14.1 14) (τ14.1 15) (τ14.2.1 13) (τ14.2.1 14) (τ14.2.1 15) (τ14.2.1 16) (τ14.2.1 10) (τ14.2.1 27) (τ14.2.1 28) (τ14.2.1 29) (τ14.2.1 30) (τ14.2.1 31) (τ14.2.1 32) (τ14.2.1 33) (τ14.2.1 34) (τ14.2.1 35) (τ14.2.1 36) (τ14.2.1 37)) from by rw [w6_τ17, w7_τ17, w13_τ17, w14_τ17, w15_τ17, g10_τ17, g13_τ17, g14_τ17, g15_τ17, g16_τ17, g27_τ17, g28_τ17, g29_τ17, g30_τ17, g31_τ17, g32_τ17, g33_τ17, g34_τ17, g35_τ17, g36_τ17, g37_τ17]]; exact CJ
            have A2 : ∀ j, 0 ≤ τ17.2.1 2 j ∧ τ17.2.1 2 j ≤ 65535 := fun j => hT.2 2 j
            have A3 : ∀ j, 0 ≤ τ17.2.1 3 j ∧ τ17.2.1 3 j ≤ 30000 := fun j => hT.2 3 j
            have A4 : ∀ j, (-1000) ≤ τ17.2.1 4 j ∧ τ17.2.1 4 j ≤ 1499 := fun j => hT.2 4 j
            have A8 : ∀ j, 0 ≤ τ17.2.1 8 j ∧ τ17.2.1 8 j ≤ 1 := fun j => hT.2 8 j
            have A10 : ∀ j, (-1) ≤ τ17.2.1 10 j ∧ τ17.2.1 10 j ≤ 99 := fun j => hT.2 10 j
            have A11 : ∀ j, 0 ≤ τ17.2.1 11 j ∧ τ17.2.1 11 j ≤ 999 := fun j => hT.2 11 j
            have A13 : ∀ j, 0 ≤ τ17.2.1 13 j ∧ τ17.2.1 13 j ≤ 4 := fun j => hT.2 13 j
            have A14 : ∀ j, 0 ≤ τ17.2.1 14 j ∧ τ17.2.1 14 j ≤ 30000 := fun j => hT.2 14 j
            have A15 : ∀ j, 0 ≤ τ17.2.1 15 j ∧ τ17.2.1 15 j ≤ 999 := fun j => hT.2 15 j
            have A16 : ∀ j, (-1) ≤ τ17.2.1 16 j ∧ τ17.2.1 16 j ≤ 1499 := fun j => hT.2 16 j
            have A27 : ∀ j, 0 ≤ τ17.2.1 27 j ∧ τ17.2.1 27 j ≤ 90000 := fun j => hT.2 27 j
            have A28 : ∀ j, 0 ≤ τ17.2.1 28 j ∧ τ17.2.1 28 j ≤ 60 := fun j => hT.2 28 j
            have A29 : ∀ j, 0 ≤ τ17.2.1 29 j ∧ τ17.2.1 29 j ≤ 1499 := fun j => hT.2 29 j
            have A30 : ∀ j, 0 ≤ τ17.2.1 30 j ∧ τ17.2.1 30 j ≤ 20000 := fun j => hT.2 30 j
            have A31 : ∀ j, 0 ≤ τ17.2.1 31 j ∧ τ17.2.1 31 j ≤ 20000 := fun j => hT.2 31 j
            have A32 : ∀ j, 0 ≤ τ17.2.1 32 j ∧ τ17.2.1 32 j ≤ 999999 := fun j => hT.2 32 j
            have A33 : ∀ j, 0 ≤ τ17.2.1 33 j ∧ τ17.2.1 33 j ≤ 20000 := fun j => hT.2 33 j
            have A34 : ∀ j, 0 ≤ τ17.2.1 34 j ∧ τ17.2.1 34 j ≤ 20000 := fun j => hT.2 34 j
            have A35 : ∀ j, 0 ≤ τ17.2.1 35 j ∧ τ17.2.1 35 j ≤ 1499 := fun j => hT.2 35 j
            have A36 : ∀ j, 0 ≤ τ17.2.1 36 j ∧ τ17.2.1 36 j ≤ 20000 := fun j => hT.2 36 j
            have A37 : ∀ j, 0 ≤ τ17.2.1 37 j ∧ τ17.2.1 37 j ≤ 19999 := fun j => hT.2 37 j
            have A69 : ∀ j, (-100) ≤ τ17.2.1 69 j ∧ τ17.2.1 69 j ≤ 999 := fun j => hT.2 69 j
            have A70 : ∀ j, 0 ≤ τ17.2.1 70 j ∧ τ17.2.1 70 j ≤ 1499 := fun j => hT.2 70 j
            have A77 : ∀ j, 0 ≤ τ17.2.1 77 j ∧ τ17.2.1 77 j ≤ 999 := fun j => hT.2 77 j
            have A78 : ∀ j, (-1) ≤ τ17.2.1 78 j ∧ τ17.2.1 78 j ≤ 1499 := fun j => hT.2 78 j
            have A79 : ∀ j, 0 ≤ τ17.2.1 79 j ∧ τ17.2.1 79 j ≤ 1499 := fun j => hT.2 79 j
            have A84 : ∀ j, 0 ≤ τ17.2.1 84 j ∧ τ17.2.1 84 j ≤ 1499 := fun j => hT.2 84 j
            have A93 : ∀ j, 0 ≤ τ17.2.1 93 j ∧ τ17.2.1 93 j ≤ 1500 := fun j => hT.2 93 j
            have A94 : ∀ j, 0 ≤ τ17.2.1 94 j ∧ τ17.2.1 94 j ≤ 1500 := fun j => hT.2 94 j
            have A100 : ∀ j, 0 ≤ τ17.2.1 100 j ∧ τ17.2.1 100 j ≤ 1060 := fun j => hT.2 100 j
            have v3 : 0 ≤ τ17.1 3 ∧ τ17.1 3 ≤ 2500 := hT.1 3
            have v4 : 0 ≤ τ17.1 4 ∧ τ17.1 4 ≤ 100 := hT.1 4
            have v5 : 0 ≤ τ17.1 5 ∧ τ17.1 5 ≤ 1000 := hT.1 5
            have v6 : 0 ≤ τ17.1 6 ∧ τ17.1 6 ≤ 30000 := hT.1 6
            have v7 : 0 ≤ τ17.1 7 ∧ τ17.1 7 ≤ 1500 := hT.1 7
            have v13 : 0 ≤ τ17.1 13 ∧ τ17.1 13 ≤ 90000 := hT.1 13
            have v14 : 0 ≤ τ17.1 14 ∧ τ17.1 14 ≤ 20000 := hT.1 14
            have v15 : 0 ≤ τ17.1 15 ∧ τ17.1 15 ≤ 20000 := hT.1 15
            have v45 : 1 ≤ τ17.1 45 ∧ τ17.1 45 ≤ 30001 := hT.1 45
            have v48 : (-1) ≤ τ17.1 48 ∧ τ17.1 48 ≤ 999 := hT.1 48
            have v49 : (-1) ≤ τ17.1 49 ∧ τ17.1 49 ≤ 999 := hT.1 49
            have v50 : 0 ≤ τ17.1 50 ∧ τ17.1 50 ≤ 59 := hT.1 50
            have v51 : 0 ≤ τ17.1 51 ∧ τ17.1 51 ≤ 1500 := hT.1 51
            have v52 : (-1) ≤ τ17.1 52 ∧ τ17.1 52 ≤ 99 := hT.1 52
            have v54 : 0 ≤ τ17.1 54 ∧ τ17.1 54 ≤ 12000 := hT.1 54
            have v57 : 0 ≤ τ17.1 57 ∧ τ17.1 57 ≤ 1500 := hT.1 57
            have v61 : 0 ≤ τ17.1 61 ∧ τ17.1 61 ≤ 12000 := hT.1 61
            have a10_49 : (-1) ≤ τ17.2.1 10 (τ17.1 49) ∧ τ17.2.1 10 (τ17.1 49) ≤ 99 := hT.2 10 _
            have a84_61 : 0 ≤ τ17.2.1 84 (τ17.1 61) ∧ τ17.2.1 84 (τ17.1 61) ≤ 1499 := hT.2 84 _
            have ds17 := c_DS_h ds14 hf_τ17 rfl rfl
            refine ⟨fun c18 => ?_, fun c18 => ?_⟩
            ·
              refine ⟨(⟨by (first | omega | (simp only [st_s] <;> omega) | assumption | omega | fail), by (first | omega | (simp only [st_s] <;> omega) | assumption | omega | fail)⟩ : rg (u2_5 + 1)), ?_⟩
              exact ih_5 _ _ (show (1501 - (u2_5 + 1) : Int) < ((m_5 : Nat) : Int) from by ((first | omega | (simp only [st_s] <;> omega) | assumption | omega | fail))) hT (show τ17.1 3 = σ.1 3 from by first | exact W3 | omega) (show τ17.1 4 = σ.1 4 from by first | exact W4 | omega) (show τ17.1 5 = σ.1 5 from by first | exact W5 | omega) (show τ17.1 6 = σ.1 6 from by first | exact W6 | omega) (show τ17.1 7 = σ.1 7 from by first | exact W7 | omega) (show τ17.1 13 = σ.1 13 from by first | exact W13 | omega) (show τ17.1 14 = σ.1 14 from by first | exact W14 | omega) (show τ17.1 15 = σ.1 15 from by first | exact W15 | omega) (show τ17.1 45 = σ.1 45 from by first | exact W45 | omega) (show τ17.1 48 = σ.1 48 from by first | exact W48 | omega) (show τ17.1 49 = σ.1 49 from by first | exact W49 | omega) G2 G3 G4 G8 G10 G11 G13 G14 G15 G16 G27 G28 G29 G30 G31 G32 G33 G34 G35 G36 G37 G69 G70 (show 0 ≤ (u2_5 + 1) ∧ (u2_5 + 1) ≤ (σ.1 7) from by (first | omega | (simp only [st_s] <;> omega) | assumption | omega | fail)) (show c_Rs τ17 par nof In from by (first | exact i5_2 | exact p6 | exact q15_3 | exact rs25 | exact rs37 | fail)) (show c_WZ τ17 from by (first | exact i5_3 | exact p7 | exact q15_2 | exact wz25 | exact wz37 | fail)) (show c_DS In τ17 from by (first | exact i5_4 | exact p9 | exact ds17 | exact ds25 | exact ds37 | exact c_DS_a ds37 rfl rfl rfl (fun k hk => by simp only [List.mem_cons, List.mem_nil_iff, or_false] at hk; have q9 := hk; rcases q9 with rfl | rfl | rfl | rfl | rfl | rfl | rfl | rfl | rfl | rfl | rfl | rfl | rfl <;> rfl) rfl rfl (by omega) (by omega) (by rw [e_x43]; exact dt37 (by assumption)) | fail)) (show (τ17.1 57) = (σ.1 57) from by (first | omega | (simp only [st_s] <;> omega) | assumption | omega | fail)) (show (τ17.1 3) = (σ.1 3) from by (first | omega | (simp only [st_s] <;> omega) | assumption | omega | fail))
            ·
              have lk14 : ∀ i : Int, 0 ≤ i → i < τ14.1 50 → 0 ≤ τ14.2.1 78 i → τ14.2.1 78 i < τ14.1 7 ∧ τ14.2.1 13 (τ14.2.1 78 i) = 0 := by (rw [w7_τ14, g13_τ14]; exact q12_5)
              have gr := c_GR_c hf_τ17 rfl rfl lk14 (by omega) (q15_4 (by assumption)) (q15_5 (by assumption))
              have o10 := G10
              have o13 := G13
              have o14 := G14
              have o15 := G15
              have o16 := G16
              have o27 := G27
              have o28 := G28
              have o29 := G29
              have o48 := W48
              have e51 : τ17.1 51 = u2_5 := by omega
              have e77 := g77_τ17
              have e78 := g78_τ17
              refine ⟨_, K_X11_grow hT (show J_all (τ17.1 7) (τ17.1 6) (τ17.1 13) (τ17.1 14) (τ17.1 15) (τ17.2.1 13) (τ17.2.1 14) (τ17.2.1 15) (τ17.2.1 16) (τ17.2.1 10) (τ17.2.1 27) (τ17.2.1 28) (τ17.2.1 29) (τ17.2.1 30) (τ17.2.1 31) (τ17.2.1 32) (τ17.2.1 33) (τ17.2.1 34) (τ17.2.1 35) (τ17.2.1 36) (τ17.2.1 37) from CJ) (show c_Rs τ17 par nof In from by exact q15_3) (show J_rks (τ17.1 5) (τ17.1 4) (τ17.2.1 10) (τ17.2.1 11) from RKS) (show J_vs (τ17.1 6) (τ17.1 5) (τ17.2.1 15) from TX) (show ∀ i : Int, 0 ≤ i → i < (τ17.1 50) → 0 ≤ τ17.2.1 78 i → τ17.2.1 78 i < (τ17.1 7) ∧ τ17.2.1 13 (τ17.2.1 78 i) = 0 from by exact gr.1) (show ∀ i : Int, 0 ≤ i → i < (τ17.1 50) → g_ok (τ17.1 45) (τ17.1 50) (τ17.1 4) (τ17.1 51) i (τ17.2.1 77) (τ17.2.1 69) par (τ17.2.1 70) nof (g_so (τ17.1 48) (τ17.2.1 14) (τ17.2.1 15) (τ17.2.1 10)) (τ17.2.1 78) In (τ17.2.2 4) (τ17.2.2 5) (τ17.2.1 79) from by exact gr.2.1) (show 0 ≤ (τ17.1 52) ∧ (τ17.1 52) < (τ17.1 4) from by exact gr.2.2.1) (show 0 < (τ17.1 50) from by exact gr.2.2.2.1) (show g_H (τ17.2.2 4) (τ17.1 52) 0 (τ17.1 50) ∧ ¬ g_H (τ17.2.2 5) (τ17.1 52) 0 (τ17.1 50) from by exact gr.2.2.2.2.1) (show g_wu (τ17.1 50) (τ17.2.1 77) (τ17.2.2 3) from by exact gr.2.2.2.2.2.1), ?_⟩
              intro τ22 hn_τ22 hf_τ22 hq
              obtain ⟨hT, q20_1, q20_2⟩ := hq
              replace q20_1 : g_tre (τ22.1 7) (τ22.1 54) (τ22.2.1 13) (τ22.2.1 14) (τ22.2.1 27) (τ22.2.1 28) (τ22.2.1 29) (τ22.2.1 84) := q20_1
              replace q20_2 : g_T (τ17.1 50) (τ17.1 51) (τ17.1 48) (τ17.2.1 77) (τ17.2.1 78) (τ17.2.1 13) (τ17.2.1 14) (τ17.2.1 15) (τ17.2.1 16) (τ17.2.1 10) (τ17.2.1 27) (τ17.2.1 28) (τ17.2.1 29) In (τ17.1 52) 0 (τ17.1 50) (g_pre (τ22.2.1 84) ((τ22.1 54)).toNat) := q20_2
              have w3_τ22 : τ22.1 3 = τ17.1 3 := hf_τ22.1 3 (by decide)
              have w4_τ22 : τ22.1 4 = τ17.1 4 := hf_τ22.1 4 (by decide)
              have w5_τ22 : τ22.1 5 = τ17.1 5 := hf_τ22.1 5 (by decide)
              have w6_τ22 : τ22.1 6 = τ17.1 6 := hf_τ22.1 6 (by decide)
              have w7_τ22 : τ22.1 7 = τ17.1 7 := hf_τ22.1 7 (by decide)
              have w13_τ22 : τ22.1 13 = τ17.1 13 := hf_τ22.1 13 (by decide)
              have w14_τ22 : τ22.1 14 = τ17.1 14 := hf_τ22.1 14 (by decide)
              have w15_τ22 : τ22.1 15 = τ17.1 15 := hf_τ22.1 15 (by decide)
              have w45_τ22 : τ22.1 45 = τ17.1 45 := hf_τ22.1 45 (by decide)
              have w48_τ22 : τ22.1 48 = τ17.1 48 := hf_τ22.1 48 (by decide)
              have w49_τ22 : τ22.1 49 = τ17.1 49 := hf_τ22.1 49 (by decide)
              have w50_τ22 : τ22.1 50 = τ17.1 50 := hf_τ22.1 50 (by decide)
              have w51_τ22 : τ22.1 51 = τ17.1 51 := hf_τ22.1 51 (by decide)
              have w52_τ22 : τ22.1 52 = τ17.1 52 := hf_τ22.1 52 (by decide)
              have w57_τ22 : τ22.1 57 = τ17.1 57 := hf_τ22.1 57 (by decide)
              have w61_τ22 : τ22.1 61 = τ17.1 61 := hf_τ22.1 61 (by decide)
              have g2_τ22 : τ22.2.1 2 = τ17.2.1 2 := hf_τ22.2.1 2 (by decide)
              have g3_τ22 : τ22.2.1 3 = τ17.2.1 3 := hf_τ22.2.1 3 (by decide)
              have g4_τ22 : τ22.2.1 4 = τ17.2.1 4 := hf_τ22.2.1 4 (by decide)
              have g8_τ22 : τ22.2.1 8 = τ17.2.1 8 := hf_τ22.2.1 8 (by decide)
              have g10_τ22 : τ22.2.1 10 = τ17.2.1 10 := hf_τ22.2.1 10 (by decide)
              have g11_τ22 : τ22.2.1 11 = τ17.2.1 11 := hf_τ22.2.1 11 (by decide)
              have g13_τ22 : τ22.2.1 13 = τ17.2.1 13 := hf_τ22.2.1 13 (by decide)
              have g14_τ22 : τ22.2.1 14 = τ17.2.1 14 := hf_τ22.2.1 14 (by decide)
              have g15_τ22 : τ22.2.1 15 = τ17.2.1 15 := hf_τ22.2.1 15 (by decide)
              have g16_τ22 : τ22.2.1 16 = τ17.2.1 16 := hf_τ22.2.1 16 (by decide)
              have g27_τ22 : τ22.2.1 27 = τ17.2.1 27 := hf_τ22.2.1 27 (by decide)
              have g28_τ22 : τ22.2.1 28 = τ17.2.1 28 := hf_τ22.2.1 28 (by decide)
              have g29_τ22 : τ22.2.1 29 = τ17.2.1 29 := hf_τ22.2.1 29 (by decide)
              have g30_τ22 : τ22.2.1 30 = τ17.2.1 30 := hf_τ22.2.1 30 (by decide)
              have g31_τ22 : τ22.2.1 31 = τ17.2.1 31 := hf_τ22.2.1 31 (by decide)
              have g32_τ22 : τ22.2.1 32 = τ17.2.1 32 := hf_τ22.2.1 32 (by decide)
              have g33_τ22 : τ22.2.1 33 = τ17.2.1 33 := hf_τ22.2.1 33 (by decide)
              have g34_τ22 : τ22.2.1 34 = τ17.2.1 34 := hf_τ22.2.1 34 (by decide)
              have g35_τ22 : τ22.2.1 35 = τ17.2.1 35 := hf_τ22.2.1 35 (by decide)
              have g36_τ22 : τ22.2.1 36 = τ17.2.1 36 := hf_τ22.2.1 36 (by decide)
              have g37_τ22 : τ22.2.1 37 = τ17.2.1 37 := hf_τ22.2.1 37 (by decide)
              have g69_τ22 : τ22.2.1 69 = τ17.2.1 69 := hf_τ22.2.1 69 (by decide)
              have g70_τ22 : τ22.2.1 70 = τ17.2.1 70 := hf_τ22.2.1 70 (by decide)
              have g77_τ22 : τ22.2.1 77 = τ17.2.1 77 := hf_τ22.2.1 77 (by decide)
              have g78_τ22 : τ22.2.1 78 = τ17.2.1 78 := hf_τ22.2.1 78 (by decide)
              have g79_τ22 : τ22.2.1 79 = τ17.2.1 79 := hf_τ22.2.1 79 (by decide)
              have g93_τ22 : τ22.2.1 93 = τ17.2.1 93 := hf_τ22.2.1 93 (by decide)
              have g94_τ22 : τ22.2.1 94 = τ17.2.1 94 := hf_τ22.2.1 94 (by decide)
              have g100_τ22 : τ22.2.1 100 = τ17.2.1 100 := hf_τ22.2.1 100 (by decide)
              have W3 : τ22.1 3 = σ.1 3 := by first | exact w3_τ22.trans W3 | omega
              have W4 : τ22.1 4 = σ.1 4 := by first | exact w4_τ22.trans W4 | omega
              have W5 : τ22.1 5 = σ.1 5 := by first | exact w5_τ22.trans W5 | omega
              have W6 : τ22.1 6 = σ.1 6 := by first | exact w6_τ22.trans W6 | omega
              have W7 : τ22.1 7 = σ.1 7 := by first | exact w7_τ22.trans W7 | omega
              have W13 : τ22.1 13 = σ.1 13 := by first | exact w13_τ22.trans W13 | omega
              have W14 : τ22.1 14 = σ.1 14 := by first | exact w14_τ22.trans W14 | omega
              have W15 : τ22.1 15 = σ.1 15 := by first | exact w15_τ22.trans W15 | omega
              have W45 : τ22.1 45 = σ.1 45 := by first | exact w45_τ22.trans W45 | omega
              have W48 : τ22.1 48 = σ.1 48 := by first | exact w48_τ22.trans W48 | omega
              have W49 : τ22.1 49 = σ.1 49 := by first | exact w49_τ22.trans W49 | omega
              have G2 : τ22.2.1 2 = σ.2.1 2 := (g2_τ22).trans G2
              have G3 : τ22.2.1 3 = σ.2.1 3 := (g3_τ22).trans G3
              have G4 : τ22.2.1 4 = σ.2.1 4 := (g4_τ22).trans G4
              have G8 : τ22.2.1 8 = σ.2.1 8 := (g8_τ22).trans G8
              have G10 : τ22.2.1 10 = σ.2.1 10 := (g10_τ22).trans G10
              have G11 : τ22.2.1 11 = σ.2.1 11 := (g11_τ22).trans G11
              have G13 : τ22.2.1 13 = σ.2.1 13 := (g13_τ22).trans G13
              have G14 : τ22.2.1 14 = σ.2.1 14 := (g14_τ22).trans G14
              have G15 : τ22.2.1 15 = σ.2.1 15 := (g15_τ22).trans G15
              have G16 : τ22.2.1 16 = σ.2.1 16 := (g16_τ22).trans G16
              have G27 : τ22.2.1 27 = σ.2.1 27 := (g27_τ22).trans G27
              have G28 : τ22.2.1 28 = σ.2.1 28 := (g28_τ22).trans G28
              have G29 : τ22.2.1 29 = σ.2.1 29 := (g29_τ22).trans G29
              have G30 : τ22.2.1 30 = σ.2.1 30 := (g30_τ22).trans G30
              have G31 : τ22.2.1 31 = σ.2.1 31 := (g31_τ22).trans G31
              have G32 : τ22.2.1 32 = σ.2.1 32 := (g32_τ22).trans G32
              have G33 : τ22.2.1 33 = σ.2.1 33 := (g33_τ22).trans G33
              have G34 : τ22.2.1 34 = σ.2.1 34 := (g34_τ22).trans G34
              have G35 : τ22.2.1 35 = σ.2.1 35 := (g35_τ22).trans G35
              have G36 : τ22.2.1 36 = σ.2.1 36 := (g36_τ22).trans G36
              have G37 : τ22.2.1 37 = σ.2.1 37 := (g37_τ22).trans G37
              have G69 : τ22.2.1 69 = σ.2.1 69 := (g69_τ22).trans G69
              have G70 : τ22.2.1 70 = σ.2.1 70 := (g70_τ22).trans G70
              have y10_49_τ22 : τ22.2.1 10 (τ22.1 49) = (τ17.2.1 10) (τ17.1 49) := by rw [g10_τ22, w49_τ22]
              have TX : J_vs (τ22.1 6) (τ22.1 5) (τ22.2.1 15) := by rw [show (J_vs (τ22.1 6) (τ22.1 5) (τ22.2.1 15)) = (J_vs (τ17.1 6) (τ17.1 5) (τ17.2.1 15)) from by rw [w5_τ22, w6_τ22, g15_τ22]]; exact TX
              have RKS : J_rks (τ22.1 5) (τ22.1 4) (τ22.2.1 10) (τ22.2.1 11) := by rw [show (J_rks (τ22.1 5) (τ22.1 4) (τ22.2.1 10) (τ22.2.1 11)) = (J_rks (τ17.1 5) (τ17.1 4) (τ17.2.1 10) (τ17.2.1 11)) from by rw [w4_τ22, w5_τ22, g10_τ22, g11_τ22]]; exact RKS
              have CJ : J_all (τ22.1 7) (τ22.1 6) (τ22.1 13) (τ22.1 14) (τ22.1 15) (τ22.2.1 13) (τ22.2.1 14) (τ22.2.1 15) (τ22.2.1 16) (τ22.2.1 10) (τ22.2.1 27) (τ22.2.1 28) (τ22.2.1 29) (τ22.2.1 30) (τ22.2.1 31) (τ22.2.1 32) (τ22.2.1 33) (τ22.2.1 34) (τ22.2.1 35) (τ22.2.1 36) (τ22.2.1 37) := by rw [show (J_all (τ22.1 7) (τ22.1 6) (τ22.1 13) (τ22.1 14) (τ22.1 15) (τ22.2.1 13) (τ22.2.1 14) (τ22.2.1 15) (τ22.2.1 16) (τ22.2.1 10) (τ22.2.1 27) (τ22.2.1 28) (τ22.2.1 29) (τ22.2.1 30) (τ22.2.1 31) (τ22.2.1 32) (τ22.2.1 33) (τ22.2.1 34) (τ22.2.1 35) (τ22.2.1 36) (τ22.2.1 37)) = (J_all (τ17.1 7) (τ17.1 6) (τ17.1 13) (τ17.1 14) (τ17.1 15) (τ17.2.1 13) (τ17.2.1 14) (τ17.2.1 15) (τ17.2.1 16) (τ17.2.1 10) (τ17.2.1 27) (τ17.2.1 28) (τ17.2.1 29) (τ17.2.1 30) (τ17.2.1 31) (τ17.2.1 32) (τ17.2.1 33) (τ17.2.1 34) (τ17.2.1 35) (τ17.2.1 36) (τ17.2.1 37)) from by rw [w6_τ22, w7_τ22, w13_τ22, w14_τ22, w15_τ22, g10_τ22, g13_τ22, g14_τ22, g15_τ22, g16_τ22, g27_τ22, g28_τ22, g29_τ22, g30_τ22, g31_τ22, g32_τ22, g33_τ22, g34_τ22, g35_τ22, g36_τ22, g37_τ22]]; exact CJ
              have TRE : g_tre (τ22.1 7) (τ22.1 54) (τ22.2.1 13) (τ22.2.1 14) (τ22.2.1 27) (τ22.2.1 28) (τ22.2.1 29) (τ22.2.1 84) := q20_1
              have A2 : ∀ j, 0 ≤ τ22.2.1 2 j ∧ τ22.2.1 2 j ≤ 65535 := fun j => hT.2 2 j
              have A3 : ∀ j, 0 ≤ τ22.2.1 3 j ∧ τ22.2.1 3 j ≤ 30000 := fun j => hT.2 3 j
              have A4 : ∀ j, (-1000) ≤ τ22.2.1 4 j ∧ τ22.2.1 4 j ≤ 1499 := fun j => hT.2 4 j
              have A8 : ∀ j, 0 ≤ τ22.2.1 8 j ∧ τ22.2.1 8 j ≤ 1 := fun j => hT.2 8 j
              have A10 : ∀ j, (-1) ≤ τ22.2.1 10 j ∧ τ22.2.1 10 j ≤ 99 := fun j => hT.2 10 j
              have A11 : ∀ j, 0 ≤ τ22.2.1 11 j ∧ τ22.2.1 11 j ≤ 999 := fun j => hT.2 11 j
              have A13 : ∀ j, 0 ≤ τ22.2.1 13 j ∧ τ22.2.1 13 j ≤ 4 := fun j => hT.2 13 j
              have A14 : ∀ j, 0 ≤ τ22.2.1 14 j ∧ τ22.2.1 14 j ≤ 30000 := fun j => hT.2 14 j
              have A15 : ∀ j, 0 ≤ τ22.2.1 15 j ∧ τ22.2.1 15 j ≤ 999 := fun j => hT.2 15 j
              have A16 : ∀ j, (-1) ≤ τ22.2.1 16 j ∧ τ22.2.1 16 j ≤ 1499 := fun j => hT.2 16 j
              have A27 : ∀ j, 0 ≤ τ22.2.1 27 j ∧ τ22.2.1 27 j ≤ 90000 := fun j => hT.2 27 j
              have A28 : ∀ j, 0 ≤ τ22.2.1 28 j ∧ τ22.2.1 28 j ≤ 60 := fun j => hT.2 28 j
              have A29 : ∀ j, 0 ≤ τ22.2.1 29 j ∧ τ22.2.1 29 j ≤ 1499 := fun j => hT.2 29 j
              have A30 : ∀ j, 0 ≤ τ22.2.1 30 j ∧ τ22.2.1 30 j ≤ 20000 := fun j => hT.2 30 j
              have A31 : ∀ j, 0 ≤ τ22.2.1 31 j ∧ τ22.2.1 31 j ≤ 20000 := fun j => hT.2 31 j
              have A32 : ∀ j, 0 ≤ τ22.2.1 32 j ∧ τ22.2.1 32 j ≤ 999999 := fun j => hT.2 32 j
              have A33 : ∀ j, 0 ≤ τ22.2.1 33 j ∧ τ22.2.1 33 j ≤ 20000 := fun j => hT.2 33 j
              have A34 : ∀ j, 0 ≤ τ22.2.1 34 j ∧ τ22.2.1 34 j ≤ 20000 := fun j => hT.2 34 j
              have A35 : ∀ j, 0 ≤ τ22.2.1 35 j ∧ τ22.2.1 35 j ≤ 1499 := fun j => hT.2 35 j
              have A36 : ∀ j, 0 ≤ τ22.2.1 36 j ∧ τ22.2.1 36 j ≤ 20000 := fun j => hT.2 36 j
              have A37 : ∀ j, 0 ≤ τ22.2.1 37 j ∧ τ22.2.1 37 j ≤ 19999 := fun j => hT.2 37 j
              have A69 : ∀ j, (-100) ≤ τ22.2.1 69 j ∧ τ22.2.1 69 j ≤ 999 := fun j => hT.2 69 j
              have A70 : ∀ j, 0 ≤ τ22.2.1 70 j ∧ τ22.2.1 70 j ≤ 1499 := fun j => hT.2 70 j
              have A77 : ∀ j, 0 ≤ τ22.2.1 77 j ∧ τ22.2.1 77 j ≤ 999 := fun j => hT.2 77 j
              have A78 : ∀ j, (-1) ≤ τ22.2.1 78 j ∧ τ22.2.1 78 j ≤ 1499 := fun j => hT.2 78 j
              have A79 : ∀ j, 0 ≤ τ22.2.1 79 j ∧ τ22.2.1 79 j ≤ 1499 := fun j => hT.2 79 j
              have A84 : ∀ j, 0 ≤ τ22.2.1 84 j ∧ τ22.2.1 84 j ≤ 1499 := fun j => hT.2 84 j
              have A93 : ∀ j, 0 ≤ τ22.2.1 93 j ∧ τ22.2.1 93 j ≤ 1500 := fun j => hT.2 93 j
              have A94 : ∀ j, 0 ≤ τ22.2.1 94 j ∧ τ22.2.1 94 j ≤ 1500 := fun j => hT.2 94 j
              have A100 : ∀ j, 0 ≤ τ22.2.1 100 j ∧ τ22.2.1 100 j ≤ 1060 := fun j => hT.2 100 j
              have v3 : 0 ≤ τ22.1 3 ∧ τ22.1 3 ≤ 2500 := hT.1 3
              have v4 : 0 ≤ τ22.1 4 ∧ τ22.1 4 ≤ 100 := hT.1 4
              have v5 : 0 ≤ τ22.1 5 ∧ τ22.1 5 ≤ 1000 := hT.1 5
              have v6 : 0 ≤ τ22.1 6 ∧ τ22.1 6 ≤ 30000 := hT.1 6
              have v7 : 0 ≤ τ22.1 7 ∧ τ22.1 7 ≤ 1500 := hT.1 7
              have v13 : 0 ≤ τ22.1 13 ∧ τ22.1 13 ≤ 90000 := hT.1 13
              have v14 : 0 ≤ τ22.1 14 ∧ τ22.1 14 ≤ 20000 := hT.1 14
              have v15 : 0 ≤ τ22.1 15 ∧ τ22.1 15 ≤ 20000 := hT.1 15
              have v45 : 1 ≤ τ22.1 45 ∧ τ22.1 45 ≤ 30001 := hT.1 45
              have v48 : (-1) ≤ τ22.1 48 ∧ τ22.1 48 ≤ 999 := hT.1 48
              have v49 : (-1) ≤ τ22.1 49 ∧ τ22.1 49 ≤ 999 := hT.1 49
              have v50 : 0 ≤ τ22.1 50 ∧ τ22.1 50 ≤ 59 := hT.1 50
              have v51 : 0 ≤ τ22.1 51 ∧ τ22.1 51 ≤ 1500 := hT.1 51
              have v52 : (-1) ≤ τ22.1 52 ∧ τ22.1 52 ≤ 99 := hT.1 52
              have v54 : 0 ≤ τ22.1 54 ∧ τ22.1 54 ≤ 12000 := hT.1 54
              have v57 : 0 ≤ τ22.1 57 ∧ τ22.1 57 ≤ 1500 := hT.1 57
              have v61 : 0 ≤ τ22.1 61 ∧ τ22.1 61 ≤ 12000 := hT.1 61
              have a10_49 : (-1) ≤ τ22.2.1 10 (τ22.1 49) ∧ τ22.2.1 10 (τ22.1 49) ≤ 99 := hT.2 10 _
              have a84_61 : 0 ≤ τ22.2.1 84 (τ22.1 61) ∧ τ22.2.1 84 (τ22.1 61) ≤ 1499 := hT.2 84 _
              have ds22 := c_DS_h ds17 hf_τ22 rfl rfl
              rw [o10, o13, o14, o15, o16, o27, o28, o29, o48, e51] at q20_2
              have rs22 := c_Rs_h q15_3 hf_τ22 rfl
              have wz22 : c_WZ τ22 := c_WZ_h (show c_WZ τ17 from q15_2) hf_τ22 rfl rfl rfl
              refine ⟨_, K_X2_noteUses hT (show 0 ≤ u2_5 from by (first | omega | (simp only [st_s] <;> omega) | assumption | omega | fail)) (show u2_5 < 1500 from by (first | omega | (simp only [st_s] <;> omega) | assumption | omega | fail)), ?_⟩
              intro τ25 hn_τ25 hf_τ25 hq
              replace hT := hq
              have w3_τ25 : τ25.1 3 = τ22.1 3 := hf_τ25.1 3 (by decide)
              have w4_τ25 : τ25.1 4 = τ22.1 4 := hf_τ25.1 4 (by decide)
              have w5_τ25 : τ25.1 5 = τ22.1 5 := hf_τ25.1 5 (by decide)
              have w6_τ25 : τ25.1 6 = τ22.1 6 := hf_τ25.1 6 (by decide)
              have w7_τ25 : τ25.1 7 = τ22.1 7 := hf_τ25.1 7 (by decide)
              have w13_τ25 : τ25.1 13 = τ22.1 13 := hf_τ25.1 13 (by decide)
              have w14_τ25 : τ25.1 14 = τ22.1 14 := hf_τ25.1 14 (by decide)
              have w15_τ25 : τ25.1 15 = τ22.1 15 := hf_τ25.1 15 (by decide)
              have w45_τ25 : τ25.1 45 = τ22.1 45 := hf_τ25.1 45 (by decide)
              have w48_τ25 : τ25.1 48 = τ22.1 48 := hf_τ25.1 48 (by decide)
              have w49_τ25 : τ25.1 49 = τ22.1 49 := hf_τ25.1 49 (by decide)
              have w50_τ25 : τ25.1 50 = τ22.1 50 := hf_τ25.1 50 (by decide)
              have w51_τ25 : τ25.1 51 = τ22.1 51 := hf_τ25.1 51 (by decide)
              have w52_τ25 : τ25.1 52 = τ22.1 52 := hf_τ25.1 52 (by decide)
              have w54_τ25 : τ25.1 54 = τ22.1 54 := hf_τ25.1 54 (by decide)
              have w57_τ25 : τ25.1 57 = τ22.1 57 := hf_τ25.1 57 (by decide)
              have w61_τ25 : τ25.1 61 = τ22.1 61 := hf_τ25.1 61 (by decide)
              have g2_τ25 : τ25.2.1 2 = τ22.2.1 2 := hf_τ25.2.1 2 (by decide)
              have g3_τ25 : τ25.2.1 3 = τ22.2.1 3 := hf_τ25.2.1 3 (by decide)
              have g4_τ25 : τ25.2.1 4 = τ22.2.1 4 := hf_τ25.2.1 4 (by decide)
              have g8_τ25 : τ25.2.1 8 = τ22.2.1 8 := hf_τ25.2.1 8 (by decide)
              have g10_τ25 : τ25.2.1 10 = τ22.2.1 10 := hf_τ25.2.1 10 (by decide)
              have g11_τ25 : τ25.2.1 11 = τ22.2.1 11 := hf_τ25.2.1 11 (by decide)
              have g13_τ25 : τ25.2.1 13 = τ22.2.1 13 := hf_τ25.2.1 13 (by decide)
              have g14_τ25 : τ25.2.1 14 = τ22.2.1 14 := hf_τ25.2.1 14 (by decide)
              have g15_τ25 : τ25.2.1 15 = τ22.2.1 15 := hf_τ25.2.1 15 (by decide)
              have g16_τ25 : τ25.2.1 16 = τ22.2.1 16 := hf_τ25.2.1 16 (by decide)
              have g27_τ25 : τ25.2.1 27 = τ22.2.1 27 := hf_τ25.2.1 27 (by decide)
              have g28_τ25 : τ25.2.1 28 = τ22.2.1 28 := hf_τ25.2.1 28 (by decide)
              have g29_τ25 : τ25.2.1 29 = τ22.2.1 29 := hf_τ25.2.1 29 (by decide)
              have g30_τ25 : τ25.2.1 30 = τ22.2.1 30 := hf_τ25.2.1 30 (by decide)
              have g31_τ25 : τ25.2.1 31 = τ22.2.1 31 := hf_τ25.2.1 31 (by decide)
              have g32_τ25 : τ25.2.1 32 = τ22.2.1 32 := hf_τ25.2.1 32 (by decide)
              have g33_τ25 : τ25.2.1 33 = τ22.2.1 33 := hf_τ25.2.1 33 (by decide)
              have g34_τ25 : τ25.2.1 34 = τ22.2.1 34 := hf_τ25.2.1 34 (by decide)
              have g35_τ25 : τ25.2.1 35 = τ22.2.1 35 := hf_τ25.2.1 35 (by decide)
              have g36_τ25 : τ25.2.1 36 = τ22.2.1 36 := hf_τ25.2.1 36 (by decide)
              have g37_τ25 : τ25.2.1 37 = τ22.2.1 37 := hf_τ25.2.1 37 (by decide)
              have g69_τ25 : τ25.2.1 69 = τ22.2.1 69 := hf_τ25.2.1 69 (by decide)
              have g70_τ25 : τ25.2.1 70 = τ22.2.1 70 := hf_τ25.2.1 70 (by decide)
              have g77_τ25 : τ25.2.1 77 = τ22.2.1 77 := hf_τ25.2.1 77 (by decide)
              have g78_τ25 : τ25.2.1 78 = τ22.2.1 78 := hf_τ25.2.1 78 (by decide)
              have g79_τ25 : τ25.2.1 79 = τ22.2.1 79 := hf_τ25.2.1 79 (by decide)
              have g84_τ25 : τ25.2.1 84 = τ22.2.1 84 := hf_τ25.2.1 84 (by decide)
              have g93_τ25 : τ25.2.1 93 = τ22.2.1 93 := hf_τ25.2.1 93 (by decide)
              have g94_τ25 : τ25.2.1 94 = τ22.2.1 94 := hf_τ25.2.1 94 (by decide)
              have g100_τ25 : τ25.2.1 100 = τ22.2.1 100 := hf_τ25.2.1 100 (by decide)
              have W3 : τ25.1 3 = σ.1 3 := by first | exact w3_τ25.trans W3 | omega
              have W4 : τ25.1 4 = σ.1 4 := by first | exact w4_τ25.trans W4 | omega
              have W5 : τ25.1 5 = σ.1 5 := by first | exact w5_τ25.trans W5 | omega
              have W6 : τ25.1 6 = σ.1 6 := by first | exact w6_τ25.trans W6 | omega
              have W7 : τ25.1 7 = σ.1 7 := by first | exact w7_τ25.trans W7 | omega
              have W13 : τ25.1 13 = σ.1 13 := by first | exact w13_τ25.trans W13 | omega
              have W14 : τ25.1 14 = σ.1 14 := by first | exact w14_τ25.trans W14 | omega
              have W15 : τ25.1 15 = σ.1 15 := by first | exact w15_τ25.trans W15 | omega
              have W45 : τ25.1 45 = σ.1 45 := by first | exact w45_τ25.trans W45 | omega
              have W48 : τ25.1 48 = σ.1 48 := by first | exact w48_τ25.trans W48 | omega
              have W49 : τ25.1 49 = σ.1 49 := by first | exact w49_τ25.trans W49 | omega
              have G2 : τ25.2.1 2 = σ.2.1 2 := (g2_τ25).trans G2
              have G3 : τ25.2.1 3 = σ.2.1 3 := (g3_τ25).trans G3
              have G4 : τ25.2.1 4 = σ.2.1 4 := (g4_τ25).trans G4
              have G8 : τ25.2.1 8 = σ.2.1 8 := (g8_τ25).trans G8
              have G10 : τ25.2.1 10 = σ.2.1 10 := (g10_τ25).trans G10
              have G11 : τ25.2.1 11 = σ.2.1 11 := (g11_τ25).trans G11
              have G13 : τ25.2.1 13 = σ.2.1 13 := (g13_τ25).trans G13
              have G14 : τ25.2.1 14 = σ.2.1 14 := (g14_τ25).trans G14
              have G15 : τ25.2.1 15 = σ.2.1 15 := (g15_τ25).trans G15
              have G16 : τ25.2.1 16 = σ.2.1 16 := (g16_τ25).trans G16
              have G27 : τ25.2.1 27 = σ.2.1 27 := (g27_τ25).trans G27
              have G28 : τ25.2.1 28 = σ.2.1 28 := (g28_τ25).trans G28
              have G29 : τ25.2.1 29 = σ.2.1 29 := (g29_τ25).trans G29
              have G30 : τ25.2.1 30 = σ.2.1 30 := (g30_τ25).trans G30
              have G31 : τ25.2.1 31 = σ.2.1 31 := (g31_τ25).trans G31
              have G32 : τ25.2.1 32 = σ.2.1 32 := (g32_τ25).trans G32
              have G33 : τ25.2.1 33 = σ.2.1 33 := (g33_τ25).trans G33
              have G34 : τ25.2.1 34 = σ.2.1 34 := (g34_τ25).trans G34
              have G35 : τ25.2.1 35 = σ.2.1 35 := (g35_τ25).trans G35
              have G36 : τ25.2.1 36 = σ.2.1 36 := (g36_τ25).trans G36
              have G37 : τ25.2.1 37 = σ.2.1 37 := (g37_τ25).trans G37
              have G69 : τ25.2.1 69 = σ.2.1 69 := (g69_τ25).trans G69
              have G70 : τ25.2.1 70 = σ.2.1 70 := (g70_τ25).trans G70
              have y10_49_τ25 : τ25.2.1 10 (τ25.1 49) = (τ22.2.1 10) (τ22.1 49) := by rw [g10_τ25, w49_τ25]
              have y84_61_τ25 : τ25.2.1 84 (τ25.1 61) = (τ22.2.1 84) (τ22.1 61) := by rw [g84_τ25, w61_τ25]
              have TX : J_vs (τ25.1 6) (τ25.1 5) (τ25.2.1 15) := by rw [show (J_vs (τ25.1 6) (τ25.1 5) (τ25.2.1 15)) = (J_vs (τ22.1 6) (τ22.1 5) (τ22.2.1 15)) from by rw [w5_τ25, w6_τ25, g15_τ25]]; exact TX
              have RKS : J_rks (τ25.1 5) (τ25.1 4) (τ25.2.1 10) (τ25.2.1 11) := by rw [show (J_rks (τ25.1 5) (τ25.1 4) (τ25.2.1 10) (τ25.2.1 11)) = (J_rks (τ22.1 5) (τ22.1 4) (τ22.2.1 10) (τ22.2.1 11)) from by rw [w4_τ25, w5_τ25, g10_τ25, g11_τ25]]; exact RKS
              have CJ : J_all (τ25.1 7) (τ25.1 6) (τ25.1 13) (τ25.1 14) (τ25.1 15) (τ25.2.1 13) (τ25.2.1 14) (τ25.2.1 15) (τ25.2.1 16) (τ25.2.1 10) (τ25.2.1 27) (τ25.2.1 28) (τ25.2.1 29) (τ25.2.1 30) (τ25.2.1 31) (τ25.2.1 32) (τ25.2.1 33) (τ25.2.1 34) (τ25.2.1 35) (τ25.2.1 36) (τ25.2.1 37) := by rw [show (J_all (τ25.1 7) (τ25.1 6) (τ25.1 13) (τ25.1 14) (τ25.1 15) (τ25.2.1 13) (τ25.2.1 14) (τ25.2.1 15) (τ25.2.1 16) (τ25.2.1 10) (τ25.2.1 27) (τ25.2.1 28) (τ25.2.1 29) (τ25.2.1 30) (τ25.2.1 31) (τ25.2.1 32) (τ25.2.1 33) (τ25.2.1 34) (τ25.2.1 35) (τ25.2.1 36) (τ25.2.1 37)) = (J_all (τ22.1 7) (τ22.1 6) (τ22.1 13) (τ22.1 14) (τ22.1 15) (τ22.2.1 13) (τ22.2.1 14) (τ22.2.1 15) (τ22.2.1 16) (τ22.2.1 10) (τ22.2.1 27) (τ22.2.1 28) (τ22.2.1 29) (τ22.2.1 30) (τ22.2.1 31) (τ22.2.1 32) (τ22.2.1 33) (τ22.2.1 34) (τ22.2.1 35) (τ22.2.1 36) (τ22.2.1 37)) from by rw [w6_τ25, w7_τ25, w13_τ25, w14_τ25, w15_τ25, g10_τ25, g13_τ25, g14_τ25, g15_τ25, g16_τ25, g27_τ25, g28_τ25, g29_τ25, g30_τ25, g31_τ25, g32_τ25, g33_τ25, g34_τ25, g35_τ25, g36_τ25, g37_τ25]]; exact CJ
              have TRE : g_tre (τ25.1 7) (τ25.1 54) (τ25.2.1 13) (τ25.2.1 14) (τ25.2.1 27) (τ25.2.1 28) (τ25.2.1 29) (τ25.2.1 84) := by rw [show (g_tre (τ25.1 7) (τ25.1 54) (τ25.2.1 13) (τ25.2.1 14) (τ25.2.1 27) (τ25.2.1 28) (τ25.2.1 29) (τ25.2.1 84)) = (g_tre (τ22.1 7) (τ22.1 54) (τ22.2.1 13) (τ22.2.1 14) (τ22.2.1 27) (τ22.2.1 28) (τ22.2.1 29) (τ22.2.1 84)) from by rw [w7_τ25, w54_τ25, g13_τ25, g14_τ25, g27_τ25, g28_τ25, g29_τ25, g84_τ25]]; exact TRE
              have A2 : ∀ j, 0 ≤ τ25.2.1 2 j ∧ τ25.2.1 2 j ≤ 65535 := fun j => hT.2 2 j
              have A3 : ∀ j, 0 ≤ τ25.2.1 3 j ∧ τ25.2.1 3 j ≤ 30000 := fun j => hT.2 3 j
              have A4 : ∀ j, (-1000) ≤ τ25.2.1 4 j ∧ τ25.2.1 4 j ≤ 1499 := fun j => hT.2 4 j
              have A8 : ∀ j, 0 ≤ τ25.2.1 8 j ∧ τ25.2.1 8 j ≤ 1 := fun j => hT.2 8 j
              have A10 : ∀ j, (-1) ≤ τ25.2.1 10 j ∧ τ25.2.1 10 j ≤ 99 := fun j => hT.2 10 j
              have A11 : ∀ j, 0 ≤ τ25.2.1 11 j ∧ τ25.2.1 11 j ≤ 999 := fun j => hT.2 11 j
              have A13 : ∀ j, 0 ≤ τ25.2.1 13 j ∧ τ25.2.1 13 j ≤ 4 := fun j => hT.2 13 j
              have A14 : ∀ j, 0 ≤ τ25.2.1 14 j ∧ τ25.2.1 14 j ≤ 30000 := fun j => hT.2 14 j
              have A15 : ∀ j, 0 ≤ τ25.2.1 15 j ∧ τ25.2.1 15 j ≤ 999 := fun j => hT.2 15 j
              have A16 : ∀ j, (-1) ≤ τ25.2.1 16 j ∧ τ25.2.1 16 j ≤ 1499 := fun j => hT.2 16 j
              have A27 : ∀ j, 0 ≤ τ25.2.1 27 j ∧ τ25.2.1 27 j ≤ 90000 := fun j => hT.2 27 j
              have A28 : ∀ j, 0 ≤ τ25.2.1 28 j ∧ τ25.2.1 28 j ≤ 60 := fun j => hT.2 28 j
              have A29 : ∀ j, 0 ≤ τ25.2.1 29 j ∧ τ25.2.1 29 j ≤ 1499 := fun j => hT.2 29 j
              have A30 : ∀ j, 0 ≤ τ25.2.1 30 j ∧ τ25.2.1 30 j ≤ 20000 := fun j => hT.2 30 j
              have A31 : ∀ j, 0 ≤ τ25.2.1 31 j ∧ τ25.2.1 31 j ≤ 20000 := fun j => hT.2 31 j
              have A32 : ∀ j, 0 ≤ τ25.2.1 32 j ∧ τ25.2.1 32 j ≤ 999999 := fun j => hT.2 32 j
              have A33 : ∀ j, 0 ≤ τ25.2.1 33 j ∧ τ25.2.1 33 j ≤ 20000 := fun j => hT.2 33 j
              have A34 : ∀ j, 0 ≤ τ25.2.1 34 j ∧ τ25.2.1 34 j ≤ 20000 := fun j => hT.2 34 j
              have A35 : ∀ j, 0 ≤ τ25.2.1 35 j ∧ τ25.2.1 35 j ≤ 1499 := fun j => hT.2 35 j
              have A36 : ∀ j, 0 ≤ τ25.2.1 36 j ∧ τ25.2.1 36 j ≤ 20000 := fun j => hT.2 36 j
              have A37 : ∀ j, 0 ≤ τ25.2.1 37 j ∧ τ25.2.1 37 j ≤ 19999 := fun j => hT.2 37 j
              have A69 : ∀ j, (-100) ≤ τ25.2.1 69 j ∧ τ25.2.1 69 j ≤ 999 := fun j => hT.2 69 j
              have A70 : ∀ j, 0 ≤ τ25.2.1 70 j ∧ τ25.2.1 70 j ≤ 1499 := fun j => hT.2 70 j
              have A77 : ∀ j, 0 ≤ τ25.2.1 77 j ∧ τ25.2.1 77 j ≤ 999 := fun j => hT.2 77 j
              have A78 : ∀ j, (-1) ≤ τ25.2.1 78 j ∧ τ25.2.1 78 j ≤ 1499 := fun j => hT.2 78 j
              have A79 : ∀ j, 0 ≤ τ25.2.1 79 j ∧ τ25.2.1 79 j ≤ 1499 := fun j => hT.2 79 j
              have A84 : ∀ j, 0 ≤ τ25.2.1 84 j ∧ τ25.2.1 84 j ≤ 1499 := fun j => hT.2 84 j
              have A93 : ∀ j, 0 ≤ τ25.2.1 93 j ∧ τ25.2.1 93 j ≤ 1500 := fun j => hT.2 93 j
              have A94 : ∀ j, 0 ≤ τ25.2.1 94 j ∧ τ25.2.1 94 j ≤ 1500 := fun j => hT.2 94 j
              have A100 : ∀ j, 0 ≤ τ25.2.1 100 j ∧ τ25.2.1 100 j ≤ 1060 := fun j => hT.2 100 j
              have v3 : 0 ≤ τ25.1 3 ∧ τ25.1 3 ≤ 2500 := hT.1 3
              have v4 : 0 ≤ τ25.1 4 ∧ τ25.1 4 ≤ 100 := hT.1 4
              have v5 : 0 ≤ τ25.1 5 ∧ τ25.1 5 ≤ 1000 := hT.1 5
              have v6 : 0 ≤ τ25.1 6 ∧ τ25.1 6 ≤ 30000 := hT.1 6
              have v7 : 0 ≤ τ25.1 7 ∧ τ25.1 7 ≤ 1500 := hT.1 7
              have v13 : 0 ≤ τ25.1 13 ∧ τ25.1 13 ≤ 90000 := hT.1 13
              have v14 : 0 ≤ τ25.1 14 ∧ τ25.1 14 ≤ 20000 := hT.1 14
              have v15 : 0 ≤ τ25.1 15 ∧ τ25.1 15 ≤ 20000 := hT.1 15
              have v45 : 1 ≤ τ25.1 45 ∧ τ25.1 45 ≤ 30001 := hT.1 45
              have v48 : (-1) ≤ τ25.1 48 ∧ τ25.1 48 ≤ 999 := hT.1 48
              have v49 : (-1) ≤ τ25.1 49 ∧ τ25.1 49 ≤ 999 := hT.1 49
              have v50 : 0 ≤ τ25.1 50 ∧ τ25.1 50 ≤ 59 := hT.1 50
              have v51 : 0 ≤ τ25.1 51 ∧ τ25.1 51 ≤ 1500 := hT.1 51
              have v52 : (-1) ≤ τ25.1 52 ∧ τ25.1 52 ≤ 99 := hT.1 52
              have v54 : 0 ≤ τ25.1 54 ∧ τ25.1 54 ≤ 12000 := hT.1 54
              have v57 : 0 ≤ τ25.1 57 ∧ τ25.1 57 ≤ 1500 := hT.1 57
              have v61 : 0 ≤ τ25.1 61 ∧ τ25.1 61 ≤ 12000 := hT.1 61
              have a10_49 : (-1) ≤ τ25.2.1 10 (τ25.1 49) ∧ τ25.2.1 10 (τ25.1 49) ≤ 99 := hT.2 10 _
              have a84_61 : 0 ≤ τ25.2.1 84 (τ25.1 61) ∧ τ25.2.1 84 (τ25.1 61) ≤ 1499 := hT.2 84 _
              have ds25 := c_DS_h ds22 hf_τ25 rfl rfl
              have rs25 := c_Rs_h rs22 hf_τ25 rfl
              have wz25 := c_WZ_h wz22 hf_τ25 rfl rfl rfl
              refine ⟨(show 0 ≤ u2_5 ∧ u2_5 < 1500 from by (first | omega | (simp only [st_s] <;> omega) | assumption | omega | fail)), ?_⟩
              intro x27 r_x27 e_x27
              have b_x27 : 0 ≤ x27 ∧ x27 ≤ 4 := by rw [e_x27]; exact hT.2 13 _
              refine ⟨fun c28 => ?_, fun c28 => ?_⟩
              ·
                refine ⟨(⟨by (first | omega | (simp only [st_s] <;> omega) | assumption | omega | fail), by (first | omega | (simp only [st_s] <;> omega) | assumption | omega | fail)⟩ : rg (u2_5 + 1)), ?_⟩
                exact ih_5 _ _ (show (1501 - (u2_5 + 1) : Int) < ((m_5 : Nat) : Int) from by ((first | omega | (simp only [st_s] <;> omega) | assumption | omega | fail))) hT (show τ25.1 3 = σ.1 3 from by first | exact W3 | omega) (show τ25.1 4 = σ.1 4 from by first | exact W4 | omega) (show τ25.1 5 = σ.1 5 from by first | exact W5 | omega) (show τ25.1 6 = σ.1 6 from by first | exact W6 | omega) (show τ25.1 7 = σ.1 7 from by first | exact W7 | omega) (show τ25.1 13 = σ.1 13 from by first | exact W13 | omega) (show τ25.1 14 = σ.1 14 from by first | exact W14 | omega) (show τ25.1 15 = σ.1 15 from by first | exact W15 | omega) (show τ25.1 45 = σ.1 45 from by first | exact W45 | omega) (show τ25.1 48 = σ.1 48 from by first | exact W48 | omega) (show τ25.1 49 = σ.1 49 from by first | exact W49 | omega) G2 G3 G4 G8 G10 G11 G13 G14 G15 G16 G27 G28 G29 G30 G31 G32 G33 G34 G35 G36 G37 G69 G70 (show 0 ≤ (u2_5 + 1) ∧ (u2_5 + 1) ≤ (σ.1 7) from by (first | omega | (simp only [st_s] <;> omega) | assumption | omega | fail)) (show c_Rs τ25 par nof In from by (first | exact i5_2 | exact p6 | exact q15_3 | exact rs25 | exact rs37 | fail)) (show c_WZ τ25 from by (first | exact i5_3 | exact p7 | exact q15_2 | exact wz25 | exact wz37 | fail)) (show c_DS In τ25 from by (first | exact i5_4 | exact p9 | exact ds17 | exact ds25 | exact ds37 | exact c_DS_a ds37 rfl rfl rfl (fun k hk => by simp only [List.mem_cons, List.mem_nil_iff, or_false] at hk; have q9 := hk; rcases q9 with rfl | rfl | rfl | rfl | rfl | rfl | rfl | rfl | rfl | rfl | rfl | rfl | rfl <;> rfl) rfl rfl (by omega) (by omega) (by rw [e_x43]; exact dt37 (by assumption)) | fail)) (show (τ25.1 57) = (σ.1 57) from by (first | omega | (simp only [st_s] <;> omega) | assumption | omega | fail)) (show (τ25.1 3) = (σ.1 3) from by (first | omega | (simp only [st_s] <;> omega) | assumption | omega | fail))
              ·
                have k13 : σ.2.1 13 u2_5 = 2 := by (rw [← G13, ← e_x27]; assumption)
                have jf := (jq.2.1 (by omega)).1
                refine ⟨_, K2_X0_hasEssential hT (show 0 ≤ u2_5 from by (first | omega | (simp only [st_s] <;> omega) | assumption | omega | fail)) (show u2_5 < 1500 from by (first | omega | (simp only [st_s] <;> omega) | assumption | omega | fail)) (show τ25.2.1 27 u2_5 + τ25.2.1 28 u2_5 ≤ 90000 from by (rw [G27, G28]; have := jf.1; omega)), ?_⟩
                intro x31 r_x31 hq
                obtain ⟨q30_1, q30_2⟩ := hq
                replace q30_1 : 0 ≤ x31 ∧ x31 ≤ 1 := q30_1
                replace q30_2 : x31 = 0 → ∀ k : Int, 0 ≤ k → k < τ25.2.1 28 u2_5 → ¬ τ25.2.1 13 (τ25.2.1 29 (τ25.2.1 27 u2_5 + k)) = 1 := q30_2
                refine ⟨fun c33 => ?_, fun c33 => ?_⟩
                ·
                  refine ⟨(⟨by (first | omega | (simp only [st_s] <;> omega) | assumption | omega | fail), by (first | omega | (simp only [st_s] <;> omega) | assumption | omega | fail)⟩ : rg (u2_5 + 1)), ?_⟩
                  exact ih_5 _ _ (show (1501 - (u2_5 + 1) : Int) < ((m_5 : Nat) : Int) from by ((first | omega | (simp only [st_s] <;> omega) | assumption | omega | fail))) hT (show τ25.1 3 = σ.1 3 from by first | exact W3 | omega) (show τ25.1 4 = σ.1 4 from by first | exact W4 | omega) (show τ25.1 5 = σ.1 5 from by first | exact W5 | omega) (show τ25.1 6 = σ.1 6 from by first | exact W6 | omega) (show τ25.1 7 = σ.1 7 from by first | exact W7 | omega) (show τ25.1 13 = σ.1 13 from by first | exact W13 | omega) (show τ25.1 14 = σ.1 14 from by first | exact W14 | omega) (show τ25.1 15 = σ.1 15 from by first | exact W15 | omega) (show τ25.1 45 = σ.1 45 from by first | exact W45 | omega) (show τ25.1 48 = σ.1 48 from by first | exact W48 | omega) (show τ25.1 49 = σ.1 49 from by first | exact W49 | omega) G2 G3 G4 G8 G10 G11 G13 G14 G15 G16 G27 G28 G29 G30 G31 G32 G33 G34 G35 G36 G37 G69 G70 (show 0 ≤ (u2_5 + 1) ∧ (u2_5 + 1) ≤ (σ.1 7) from by (first | omega | (simp only [st_s] <;> omega) | assumption | omega | fail)) (show c_Rs τ25 par nof In from by (first | exact i5_2 | exact p6 | exact q15_3 | exact rs25 | exact rs37 | fail)) (show c_WZ τ25 from by (first | exact i5_3 | exact p7 | exact q15_2 | exact wz25 | exact wz37 | fail)) (show c_DS In τ25 from by (first | exact i5_4 | exact p9 | exact ds17 | exact ds25 | exact ds37 | exact c_DS_a ds37 rfl rfl rfl (fun k hk => by simp only [List.mem_cons, List.mem_nil_iff, or_false] at hk; have q9 := hk; rcases q9 with rfl | rfl | rfl | rfl | rfl | rfl | rfl | rfl | rfl | rfl | rfl | rfl | rfl <;> rfl) rfl rfl (by omega) (by omega) (by rw [e_x43]; exact dt37 (by assumption)) | fail)) (show (τ25.1 57) = (σ.1 57) from by (first | omega | (simp only [st_s] <;> omega) | assumption | omega | fail)) (show (τ25.1 3) = (σ.1 3) from by (first | omega | (simp only [st_s] <;> omega) | assumption | omega | fail))
                ·
                  have r13 := G13
                  have r14 := G14
                  have r15 := G15
                  have r16 := G16
                  have r27 := G27
                  have r28 := G28
                  have r29 := G29
                  refine ⟨_, K_X2_canDefine hT (show 0 ≤ u2_5 from by (first | omega | (simp only [st_s] <;> omega) | assumption | omega | fail)) (show u2_5 < 1500 from by (first | omega | (simp only [st_s] <;> omega) | assumption | omega | fail)) (show J_all (τ25.1 7) (τ25.1 6) (τ25.1 13) (τ25.1 14) (τ25.1 15) (τ25.2.1 13) (τ25.2.1 14) (τ25.2.1 15) (τ25.2.1 16) (τ25.2.1 10) (τ25.2.1 27) (τ25.2.1 28) (τ25.2.1 29) (τ25.2.1 30) (τ25.2.1 31) (τ25.2.1 32) (τ25.2.1 33) (τ25.2.1 34) (τ25.2.1 35) (τ25.2.1 36) (τ25.2.1 37) from CJ) (show g_tre (τ25.1 7) (τ25.1 54) (τ25.2.1 13) (τ25.2.1 14) (τ25.2.1 27) (τ25.2.1 28) (τ25.2.1 29) (τ25.2.1 84) from TRE) (show ∀ v, τ25.2.1 100 v = 0 from by exact ds25.1), ?_⟩
                  intro x36 τ37 r_x36 hn_τ37 hf_τ37 hq
                  obtain ⟨hT, q35_1, q35_2, q35_3, q35_4⟩ := hq
                  replace q35_1 : 0 ≤ x36 ∧ x36 ≤ 1 := q35_1
                  replace q35_2 : ∀ v, τ37.2.1 100 v = 0 := q35_2
                  replace q35_3 : ¬ x36 = 0 → 0 ≤ (τ37.1 61) ∧ (τ37.1 61) < (τ25.1 54) := q35_3
                  replace q35_4 : ¬ x36 = 0 → g_pp (τ25.1 54) (τ37.1 61) (τ25.2.1 13) (τ25.2.1 14) (τ25.2.1 16) (τ25.2.1 27) (τ25.2.1 28) (τ25.2.1 29) (τ25.2.1 84) ∧ τ25.2.1 13 (τ25.2.1 84 (τ37.1 61)) = 2 ∧ g_fx (τ37.1 61) (τ25.2.1 28 (τ25.2.1 84 (τ37.1 61)) + 1) (τ25.2.1 13) (τ25.2.1 14) (τ25.2.1 15) (τ25.2.1 84) ∧ (τ37.1 61) + τ25.2.1 28 (τ25.2.1 84 (τ37.1 61)) < (τ25.1 54) := q35_4
                  have w3_τ37 : τ37.1 3 = τ25.1 3 := hf_τ37.1 3 (by decide)
                  have w4_τ37 : τ37.1 4 = τ25.1 4 := hf_τ37.1 4 (by decide)
                  have w5_τ37 : τ37.1 5 = τ25.1 5 := hf_τ37.1 5 (by decide)
                  have w6_τ37 : τ37.1 6 = τ25.1 6 := hf_τ37.1 6 (by decide)
                  have w7_τ37 : τ37.1 7 = τ25.1 7 := hf_τ37.1 7 (by decide)
                  have w13_τ37 : τ37.1 13 = τ25.1 13 := hf_τ37.1 13 (by decide)
                  have w14_τ37 : τ37.1 14 = τ25.1 14 := hf_τ37.1 14 (by decide)
                  have w15_τ37 : τ37.1 15 = τ25.1 15 := hf_τ37.1 15 (by decide)
                  have w45_τ37 : τ37.1 45 = τ25.1 45 := hf_τ37.1 45 (by decide)
                  have w48_τ37 : τ37.1 48 = τ25.1 48 := hf_τ37.1 48 (by decide)
                  have w49_τ37 : τ37.1 49 = τ25.1 49 := hf_τ37.1 49 (by decide)
                  have w50_τ37 : τ37.1 50 = τ25.1 50 := hf_τ37.1 50 (by decide)
                  have w51_τ37 : τ37.1 51 = τ25.1 51 := hf_τ37.1 51 (by decide)
                  have w52_τ37 : τ37.1 52 = τ25.1 52 := hf_τ37.1 52 (by decide)
                  have w54_τ37 : τ37.1 54 = τ25.1 54 := hf_τ37.1 54 (by decide)
                  have w57_τ37 : τ37.1 57 = τ25.1 57 := hf_τ37.1 57 (by decide)
                  have g2_τ37 : τ37.2.1 2 = τ25.2.1 2 := hf_τ37.2.1 2 (by decide)
                  have g3_τ37 : τ37.2.1 3 = τ25.2.1 3 := hf_τ37.2.1 3 (by decide)
                  have g4_τ37 : τ37.2.1 4 = τ25.2.1 4 := hf_τ37.2.1 4 (by decide)
                  have g8_τ37 : τ37.2.1 8 = τ25.2.1 8 := hf_τ37.2.1 8 (by decide)
                  have g10_τ37 : τ37.2.1 10 = τ25.2.1 10 := hf_τ37.2.1 10 (by decide)
                  have g11_τ37 : τ37.2.1 11 = τ25.2.1 11 := hf_τ37.2.1 11 (by decide)
                  have g13_τ37 : τ37.2.1 13 = τ25.2.1 13 := hf_τ37.2.1 13 (by decide)
                  have g14_τ37 : τ37.2.1 14 = τ25.2.1 14 := hf_τ37.2.1 14 (by decide)
                  have g15_τ37 : τ37.2.1 15 = τ25.2.1 15 := hf_τ37.2.1 15 (by decide)
                  have g16_τ37 : τ37.2.1 16 = τ25.2.1 16 := hf_τ37.2.1 16 (by decide)
                  have g27_τ37 : τ37.2.1 27 = τ25.2.1 27 := hf_τ37.2.1 27 (by decide)
                  have g28_τ37 : τ37.2.1 28 = τ25.2.1 28 := hf_τ37.2.1 28 (by decide)
                  have g29_τ37 : τ37.2.1 29 = τ25.2.1 29 := hf_τ37.2.1 29 (by decide)
                  have g30_τ37 : τ37.2.1 30 = τ25.2.1 30 := hf_τ37.2.1 30 (by decide)
                  have g31_τ37 : τ37.2.1 31 = τ25.2.1 31 := hf_τ37.2.1 31 (by decide)
                  have g32_τ37 : τ37.2.1 32 = τ25.2.1 32 := hf_τ37.2.1 32 (by decide)
                  have g33_τ37 : τ37.2.1 33 = τ25.2.1 33 := hf_τ37.2.1 33 (by decide)
                  have g34_τ37 : τ37.2.1 34 = τ25.2.1 34 := hf_τ37.2.1 34 (by decide)
                  have g35_τ37 : τ37.2.1 35 = τ25.2.1 35 := hf_τ37.2.1 35 (by decide)
                  have g36_τ37 : τ37.2.1 36 = τ25.2.1 36 := hf_τ37.2.1 36 (by decide)
                  have g37_τ37 : τ37.2.1 37 = τ25.2.1 37 := hf_τ37.2.1 37 (by decide)
                  have g69_τ37 : τ37.2.1 69 = τ25.2.1 69 := hf_τ37.2.1 69 (by decide)
                  have g70_τ37 : τ37.2.1 70 = τ25.2.1 70 := hf_τ37.2.1 70 (by decide)
                  have g77_τ37 : τ37.2.1 77 = τ25.2.1 77 := hf_τ37.2.1 77 (by decide)
                  have g78_τ37 : τ37.2.1 78 = τ25.2.1 78 := hf_τ37.2.1 78 (by decide)
                  have g79_τ37 : τ37.2.1 79 = τ25.2.1 79 := hf_τ37.2.1 79 (by decide)
                  have g84_τ37 : τ37.2.1 84 = τ25.2.1 84 := hf_τ37.2.1 84 (by decide)
                  have g93_τ37 : τ37.2.1 93 = τ25.2.1 93 := hf_τ37.2.1 93 (by decide)
                  have g94_τ37 : τ37.2.1 94 = τ25.2.1 94 := hf_τ37.2.1 94 (by decide)
                  have W3 : τ37.1 3 = σ.1 3 := by first | exact w3_τ37.trans W3 | omega
                  have W4 : τ37.1 4 = σ.1 4 := by first | exact w4_τ37.trans W4 | omega
                  have W5 : τ37.1 5 = σ.1 5 := by first | exact w5_τ37.trans W5 | omega
                  have W6 : τ37.1 6 = σ.1 6 := by first | exact w6_τ37.trans W6 | omega
                  have W7 : τ37.1 7 = σ.1 7 := by first | exact w7_τ37.trans W7 | omega
                  have W13 : τ37.1 13 = σ.1 13 := by first | exact w13_τ37.trans W13 | omega
                  have W14 : τ37.1 14 = σ.1 14 := by first | exact w14_τ37.trans W14 | omega
                  have W15 : τ37.1 15 = σ.1 15 := by first | exact w15_τ37.trans W15 | omega
                  have W45 : τ37.1 45 = σ.1 45 := by first | exact w45_τ37.trans W45 | omega
                  have W48 : τ37.1 48 = σ.1 48 := by first | exact w48_τ37.trans W48 | omega
                  have W49 : τ37.1 49 = σ.1 49 := by first | exact w49_τ37.trans W49 | omega
                  have G2 : τ37.2.1 2 = σ.2.1 2 := (g2_τ37).trans G2
                  have G3 : τ37.2.1 3 = σ.2.1 3 := (g3_τ37).trans G3
                  have G4 : τ37.2.1 4 = σ.2.1 4 := (g4_τ37).trans G4
                  have G8 : τ37.2.1 8 = σ.2.1 8 := (g8_τ37).trans G8
                  have G10 : τ37.2.1 10 = σ.2.1 10 := (g10_τ37).trans G10
                  have G11 : τ37.2.1 11 = σ.2.1 11 := (g11_τ37).trans G11
                  have G13 : τ37.2.1 13 = σ.2.1 13 := (g13_τ37).trans G13
                  have G14 : τ37.2.1 14 = σ.2.1 14 := (g14_τ37).trans G14
                  have G15 : τ37.2.1 15 = σ.2.1 15 := (g15_τ37).trans G15
                  have G16 : τ37.2.1 16 = σ.2.1 16 := (g16_τ37).trans G16
                  have G27 : τ37.2.1 27 = σ.2.1 27 := (g27_τ37).trans G27
                  have G28 : τ37.2.1 28 = σ.2.1 28 := (g28_τ37).trans G28
                  have G29 : τ37.2.1 29 = σ.2.1 29 := (g29_τ37).trans G29
                  have G30 : τ37.2.1 30 = σ.2.1 30 := (g30_τ37).trans G30
                  have G31 : τ37.2.1 31 = σ.2.1 31 := (g31_τ37).trans G31
                  have G32 : τ37.2.1 32 = σ.2.1 32 := (g32_τ37).trans G32
                  have G33 : τ37.2.1 33 = σ.2.1 33 := (g33_τ37).trans G33
                  have G34 : τ37.2.1 34 = σ.2.1 34 := (g34_τ37).trans G34
                  have G35 : τ37.2.1 35 = σ.2.1 35 := (g35_τ37).trans G35
                  have G36 : τ37.2.1 36 = σ.2.1 36 := (g36_τ37).trans G36
                  have G37 : τ37.2.1 37 = σ.2.1 37 := (g37_τ37).trans G37
                  have G69 : τ37.2.1 69 = σ.2.1 69 := (g69_τ37).trans G69
                  have G70 : τ37.2.1 70 = σ.2.1 70 := (g70_τ37).trans G70
                  have y10_49_τ37 : τ37.2.1 10 (τ37.1 49) = (τ25.2.1 10) (τ25.1 49) := by rw [g10_τ37, w49_τ37]
                  have TX : J_vs (τ37.1 6) (τ37.1 5) (τ37.2.1 15) := by rw [show (J_vs (τ37.1 6) (τ37.1 5) (τ37.2.1 15)) = (J_vs (τ25.1 6) (τ25.1 5) (τ25.2.1 15)) from by rw [w5_τ37, w6_τ37, g15_τ37]]; exact TX
                  have RKS : J_rks (τ37.1 5) (τ37.1 4) (τ37.2.1 10) (τ37.2.1 11) := by rw [show (J_rks (τ37.1 5) (τ37.1 4) (τ37.2.1 10) (τ37.2.1 11)) = (J_rks (τ25.1 5) (τ25.1 4) (τ25.2.1 10) (τ25.2.1 11)) from by rw [w4_τ37, w5_τ37, g10_τ37, g11_τ37]]; exact RKS
                  have CJ : J_all (τ37.1 7) (τ37.1 6) (τ37.1 13) (τ37.1 14) (τ37.1 15) (τ37.2.1 13) (τ37.2.1 14) (τ37.2.1 15) (τ37.2.1 16) (τ37.2.1 10) (τ37.2.1 27) (τ37.2.1 28) (τ37.2.1 29) (τ37.2.1 30) (τ37.2.1 31) (τ37.2.1 32) (τ37.2.1 33) (τ37.2.1 34) (τ37.2.1 35) (τ37.2.1 36) (τ37.2.1 37) := by rw [show (J_all (τ37.1 7) (τ37.1 6) (τ37.1 13) (τ37.1 14) (τ37.1 15) (τ37.2.1 13) (τ37.2.1 14) (τ37.2.1 15) (τ37.2.1 16) (τ37.2.1 10) (τ37.2.1 27) (τ37.2.1 28) (τ37.2.1 29) (τ37.2.1 30) (τ37.2.1 31) (τ37.2.1 32) (τ37.2.1 33) (τ37.2.1 34) (τ37.2.1 35) (τ37.2.1 36) (τ37.2.1 37)) = (J_all (τ25.1 7) (τ25.1 6) (τ25.1 13) (τ25.1 14) (τ25.1 15) (τ25.2.1 13) (τ25.2.1 14) (τ25.2.1 15) (τ25.2.1 16) (τ25.2.1 10) (τ25.2.1 27) (τ25.2.1 28) (τ25.2.1 29) (τ25.2.1 30) (τ25.2.1 31) (τ25.2.1 32) (τ25.2.1 33) (τ25.2.1 34) (τ25.2.1 35) (τ25.2.1 36) (τ25.2.1 37)) from by rw [w6_τ37, w7_τ37, w13_τ37, w14_τ37, w15_τ37, g10_τ37, g13_τ37, g14_τ37, g15_τ37, g16_τ37, g27_τ37, g28_τ37, g29_τ37, g30_τ37, g31_τ37, g32_τ37, g33_τ37, g34_τ37, g35_τ37, g36_τ37, g37_τ37]]; exact CJ
                  have TRE : g_tre (τ37.1 7) (τ37.1 54) (τ37.2.1 13) (τ37.2.1 14) (τ37.2.1 27) (τ37.2.1 28) (τ37.2.1 29) (τ37.2.1 84) := by rw [show (g_tre (τ37.1 7) (τ37.1 54) (τ37.2.1 13) (τ37.2.1 14) (τ37.2.1 27) (τ37.2.1 28) (τ37.2.1 29) (τ37.2.1 84)) = (g_tre (τ25.1 7) (τ25.1 54) (τ25.2.1 13) (τ25.2.1 14) (τ25.2.1 27) (τ25.2.1 28) (τ25.2.1 29) (τ25.2.1 84)) from by rw [w7_τ37, w54_τ37, g13_τ37, g14_τ37, g27_τ37, g28_τ37, g29_τ37, g84_τ37]]; exact TRE
                  have A2 : ∀ j, 0 ≤ τ37.2.1 2 j ∧ τ37.2.1 2 j ≤ 65535 := fun j => hT.2 2 j
                  have A3 : ∀ j, 0 ≤ τ37.2.1 3 j ∧ τ37.2.1 3 j ≤ 30000 := fun j => hT.2 3 j
                  have A4 : ∀ j, (-1000) ≤ τ37.2.1 4 j ∧ τ37.2.1 4 j ≤ 1499 := fun j => hT.2 4 j
                  have A8 : ∀ j, 0 ≤ τ37.2.1 8 j ∧ τ37.2.1 8 j ≤ 1 := fun j => hT.2 8 j
                  have A10 : ∀ j, (-1) ≤ τ37.2.1 10 j ∧ τ37.2.1 10 j ≤ 99 := fun j => hT.2 10 j
                  have A11 : ∀ j, 0 ≤ τ37.2.1 11 j ∧ τ37.2.1 11 j ≤ 999 := fun j => hT.2 11 j
                  have A13 : ∀ j, 0 ≤ τ37.2.1 13 j ∧ τ37.2.1 13 j ≤ 4 := fun j => hT.2 13 j
                  have A14 : ∀ j, 0 ≤ τ37.2.1 14 j ∧ τ37.2.1 14 j ≤ 30000 := fun j => hT.2 14 j
                  have A15 : ∀ j, 0 ≤ τ37.2.1 15 j ∧ τ37.2.1 15 j ≤ 999 := fun j => hT.2 15 j
                  have A16 : ∀ j, (-1) ≤ τ37.2.1 16 j ∧ τ37.2.1 16 j ≤ 1499 := fun j => hT.2 16 j
                  have A27 : ∀ j, 0 ≤ τ37.2.1 27 j ∧ τ37.2.1 27 j ≤ 90000 := fun j => hT.2 27 j
                  have A28 : ∀ j, 0 ≤ τ37.2.1 28 j ∧ τ37.2.1 28 j ≤ 60 := fun j => hT.2 28 j
                  have A29 : ∀ j, 0 ≤ τ37.2.1 29 j ∧ τ37.2.1 29 j ≤ 1499 := fun j => hT.2 29 j
                  have A30 : ∀ j, 0 ≤ τ37.2.1 30 j ∧ τ37.2.1 30 j ≤ 20000 := fun j => hT.2 30 j
                  have A31 : ∀ j, 0 ≤ τ37.2.1 31 j ∧ τ37.2.1 31 j ≤ 20000 := fun j => hT.2 31 j
                  have A32 : ∀ j, 0 ≤ τ37.2.1 32 j ∧ τ37.2.1 32 j ≤ 999999 := fun j => hT.2 32 j
                  have A33 : ∀ j, 0 ≤ τ37.2.1 33 j ∧ τ37.2.1 33 j ≤ 20000 := fun j => hT.2 33 j
                  have A34 : ∀ j, 0 ≤ τ37.2.1 34 j ∧ τ37.2.1 34 j ≤ 20000 := fun j => hT.2 34 j
                  have A35 : ∀ j, 0 ≤ τ37.2.1 35 j ∧ τ37.2.1 35 j ≤ 1499 := fun j => hT.2 35 j
                  have A36 : ∀ j, 0 ≤ τ37.2.1 36 j ∧ τ37.2.1 36 j ≤ 20000 := fun j => hT.2 36 j
                  have A37 : ∀ j, 0 ≤ τ37.2.1 37 j ∧ τ37.2.1 37 j ≤ 19999 := fun j => hT.2 37 j
                  have A69 : ∀ j, (-100) ≤ τ37.2.1 69 j ∧ τ37.2.1 69 j ≤ 999 := fun j => hT.2 69 j
                  have A70 : ∀ j, 0 ≤ τ37.2.1 70 j ∧ τ37.2.1 70 j ≤ 1499 := fun j => hT.2 70 j
                  have A77 : ∀ j, 0 ≤ τ37.2.1 77 j ∧ τ37.2.1 77 j ≤ 999 := fun j => hT.2 77 j
                  have A78 : ∀ j, (-1) ≤ τ37.2.1 78 j ∧ τ37.2.1 78 j ≤ 1499 := fun j => hT.2 78 j
                  have A79 : ∀ j, 0 ≤ τ37.2.1 79 j ∧ τ37.2.1 79 j ≤ 1499 := fun j => hT.2 79 j
                  have A84 : ∀ j, 0 ≤ τ37.2.1 84 j ∧ τ37.2.1 84 j ≤ 1499 := fun j => hT.2 84 j
                  have A93 : ∀ j, 0 ≤ τ37.2.1 93 j ∧ τ37.2.1 93 j ≤ 1500 := fun j => hT.2 93 j
                  have A94 : ∀ j, 0 ≤ τ37.2.1 94 j ∧ τ37.2.1 94 j ≤ 1500 := fun j => hT.2 94 j
                  have A100 : ∀ j, 0 ≤ τ37.2.1 100 j ∧ τ37.2.1 100 j ≤ 1060 := fun j => hT.2 100 j
                  have v3 : 0 ≤ τ37.1 3 ∧ τ37.1 3 ≤ 2500 := hT.1 3
                  have v4 : 0 ≤ τ37.1 4 ∧ τ37.1 4 ≤ 100 := hT.1 4
                  have v5 : 0 ≤ τ37.1 5 ∧ τ37.1 5 ≤ 1000 := hT.1 5
                  have v6 : 0 ≤ τ37.1 6 ∧ τ37.1 6 ≤ 30000 := hT.1 6
                  have v7 : 0 ≤ τ37.1 7 ∧ τ37.1 7 ≤ 1500 := hT.1 7
                  have v13 : 0 ≤ τ37.1 13 ∧ τ37.1 13 ≤ 90000 := hT.1 13
                  have v14 : 0 ≤ τ37.1 14 ∧ τ37.1 14 ≤ 20000 := hT.1 14
                  have v15 : 0 ≤ τ37.1 15 ∧ τ37.1 15 ≤ 20000 := hT.1 15
                  have v45 : 1 ≤ τ37.1 45 ∧ τ37.1 45 ≤ 30001 := hT.1 45
                  have v48 : (-1) ≤ τ37.1 48 ∧ τ37.1 48 ≤ 999 := hT.1 48
                  have v49 : (-1) ≤ τ37.1 49 ∧ τ37.1 49 ≤ 999 := hT.1 49
                  have v50 : 0 ≤ τ37.1 50 ∧ τ37.1 50 ≤ 59 := hT.1 50
                  have v51 : 0 ≤ τ37.1 51 ∧ τ37.1 51 ≤ 1500 := hT.1 51
                  have v52 : (-1) ≤ τ37.1 52 ∧ τ37.1 52 ≤ 99 := hT.1 52
                  have v54 : 0 ≤ τ37.1 54 ∧ τ37.1 54 ≤ 12000 := hT.1 54
                  have v57 : 0 ≤ τ37.1 57 ∧ τ37.1 57 ≤ 1500 := hT.1 57
                  have v61 : 0 ≤ τ37.1 61 ∧ τ37.1 61 ≤ 12000 := hT.1 61
                  have a10_49 : (-1) ≤ τ37.2.1 10 (τ37.1 49) ∧ τ37.2.1 10 (τ37.1 49) ≤ 99 := hT.2 10 _
                  have a84_61 : 0 ≤ τ37.2.1 84 (τ37.1 61) ∧ τ37.2.1 84 (τ37.1 61) ≤ 1499 := hT.2 84 _
                  have rs37 := c_Rs_h rs25 hf_τ37 rfl
                  have wz37 := c_WZ_h wz25 hf_τ37 rfl rfl rfl
                  have ds37 : c_DS In τ37 := c_DS_s ds25 hf_τ37 rfl rfl q35_2
                  rw [r13, r14, r15, r16, r27, r28, r29] at q35_4
                  have dt37 : ¬ x36 = 0 → c_DT In τ37 u2_5 (τ37.2.1 84 (τ37.1 61) + 1) := fun z => by (have q := q35_4 z; have q3 := q35_3 z; have g4 := q15_4 (by assumption); have wf : ¬ σ.1 49 = -1 ∧ τ14.1 52 = σ.2.1 10 (σ.1 49) := tk7.resolve_left (by omega); have pe : g_pe σ (σ.1 48) := p6.2.1.resolve_left (by have := (s15 (σ.2.1 14 u2_5)).1; omega); have we : g_we σ (σ.1 49) := p10.resolve_left wf.1; rw [← g84_τ25] at q20_2; rw [g84_τ37]; refine c_DT_e (c_DT_0 (sz := τ25.1 54) (ft := τ37.1 61) (ru := τ25.2.1 84) (by rw [show τ25.1 54 = τ22.1 54 from by omega]; exact q20_2) (fun r hr => (p6.1.2.1.2.1 r hr).2.1.2.1) (by omega) (fun k a b => by rw [e77, e78]; exact q12_6 k a (by omega)) (by omega) (by rw [show τ17.1 52 = τ14.1 52 from by omega]; exact wf.2) pe we tp4 (by have := (s15 (σ.2.1 14 u2_5)).1; omega) (by omega) (by omega) (fun j a b => by have w := (q20_1.2.1 j a (by omega)).1; have v : 0 ≤ τ37.2.1 84 j ∧ τ37.2.1 84 j ≤ 1499 := hT.2 84 j; rw [g84_τ37, g84_τ25] at v; rw [g84_τ25]; exact ⟨v.1, by omega⟩) q.1 q3.1 q.2.2.2 q.2.1 q.2.2.1) (by omega) (by omega) (fun k hk => ?_); simp only [List.mem_cons, List.mem_nil_iff, or_false] at hk; rcases hk with rfl | rfl | rfl | rfl | rfl | rfl | rfl | rfl | rfl | rfl | rfl | rfl <;> assumption)
                  refine ⟨fun c38 => ?_, fun c38 => ?_⟩
                  ·
                    refine ⟨(⟨by (first | omega | (simp only [st_s] <;> omega) | assumption | omega | fail), by (first | omega | (simp only [st_s] <;> omega) | assumption | omega | fail)⟩ : rg (u2_5 + 1)), ?_⟩
                    exact ih_5 _ _ (show (1501 - (u2_5 + 1) : Int) < ((m_5 : Nat) : Int) from by ((first | omega | (simp only [st_s] <;> omega) | assumption | omega | fail))) hT (show τ37.1 3 = σ.1 3 from by first | exact W3 | omega) (show τ37.1 4 = σ.1 4 from by first | exact W4 | omega) (show τ37.1 5 = σ.1 5 from by first | exact W5 | omega) (show τ37.1 6 = σ.1 6 from by first | exact W6 | omega) (show τ37.1 7 = σ.1 7 from by first | exact W7 | omega) (show τ37.1 13 = σ.1 13 from by first | exact W13 | omega) (show τ37.1 14 = σ.1 14 from by first | exact W14 | omega) (show τ37.1 15 = σ.1 15 from by first | exact W15 | omega) (show τ37.1 45 = σ.1 45 from by first | exact W45 | omega) (show τ37.1 48 = σ.1 48 from by first | exact W48 | omega) (show τ37.1 49 = σ.1 49 from by first | exact W49 | omega) G2 G3 G4 G8 G10 G11 G13 G14 G15 G16 G27 G28 G29 G30 G31 G32 G33 G34 G35 G36 G37 G69 G70 (show 0 ≤ (u2_5 + 1) ∧ (u2_5 + 1) ≤ (σ.1 7) from by (first | omega | (simp only [st_s] <;> omega) | assumption | omega | fail)) (show c_Rs τ37 par nof In from by (first | exact i5_2 | exact p6 | exact q15_3 | exact rs25 | exact rs37 | fail)) (show c_WZ τ37 from by (first | exact i5_3 | exact p7 | exact q15_2 | exact wz25 | exact wz37 | fail)) (show c_DS In τ37 from by (first | exact i5_4 | exact p9 | exact ds17 | exact ds25 | exact ds37 | exact c_DS_a ds37 rfl rfl rfl (fun k hk => by simp only [List.mem_cons, List.mem_nil_iff, or_false] at hk; have q9 := hk; rcases q9 with rfl | rfl | rfl | rfl | rfl | rfl | rfl | rfl | rfl | rfl | rfl | rfl | rfl <;> rfl) rfl rfl (by omega) (by omega) (by rw [e_x43]; exact dt37 (by assumption)) | fail)) (show (τ37.1 57) = (σ.1 57) from by (first | omega | (simp only [st_s] <;> omega) | assumption | omega | fail)) (show (τ37.1 3) = (σ.1 3) from by (first | omega | (simp only [st_s] <;> omega) | assumption | omega | fail))
                  ·
                    intro x40 r_x40 e_x40
                    have b_x40 : 0 ≤ x40 ∧ x40 ≤ 1499 := by rw [e_x40]; exact hT.2 84 _
                    refine ⟨(⟨by (first | omega | (simp only [st_s] <;> omega) | assumption | omega | fail), by (first | omega | (simp only [st_s] <;> omega) | assumption | omega | fail)⟩ : rg (x40 + 1)), ?_⟩
                    replace hT := cT_a (k := 93) (j := u2_5) hT (show (0 : Int) ≤ (x40 + 1) ∧ (x40 + 1) ≤ 1500 from by (first | omega | (simp only [st_s] <;> omega) | assumption | omega | fail))
                    refine ⟨(show 0 ≤ τ37.1 61 ∧ τ37.1 61 < 12000 from by (first | omega | (simp only [st_s] <;> omega) | assumption | omega | fail)), ?_⟩
                    intro x43 r_x43 e_x43
                    have b_x43 : 0 ≤ x43 ∧ x43 ≤ 1499 := by rw [e_x43]; exact hT.2 84 _
                    refine ⟨(⟨by (first | omega | (simp only [st_s] <;> omega) | assumption | omega | fail), by (first | omega | (simp only [st_s] <;> omega) | assumption | omega | fail)⟩ : rg (x43 + 1)), ?_⟩
                    replace hT := cT_a (k := 94) (j := u2_5) hT (show (0 : Int) ≤ (x43 + 1) ∧ (x43 + 1) ≤ 1500 from by (first | omega | (simp only [st_s] <;> omega) | assumption | omega | fail))
                    refine ⟨(⟨by (first | omega | (simp only [st_s] <;> omega) | assumption | omega | fail), by (first | omega | (simp only [st_s] <;> omega) | assumption | omega | fail)⟩ : rg (u2_5 + 1)), ?_⟩
                    exact ih_5 _ _ (show (1501 - (u2_5 + 1) : Int) < ((m_5 : Nat) : Int) from by ((first | omega | (simp only [st_s] <;> omega) | assumption | omega | fail))) hT (show τ37.1 3 = σ.1 3 from by first | exact W3 | omega) (show τ37.1 4 = σ.1 4 from by first | exact W4 | omega) (show τ37.1 5 = σ.1 5 from by first | exact W5 | omega) (show τ37.1 6 = σ.1 6 from by first | exact W6 | omega) (show τ37.1 7 = σ.1 7 from by first | exact W7 | omega) (show τ37.1 13 = σ.1 13 from by first | exact W13 | omega) (show τ37.1 14 = σ.1 14 from by first | exact W14 | omega) (show τ37.1 15 = σ.1 15 from by first | exact W15 | omega) (show τ37.1 45 = σ.1 45 from by first | exact W45 | omega) (show τ37.1 48 = σ.1 48 from by first | exact W48 | omega) (show τ37.1 49 = σ.1 49 from by first | exact W49 | omega) G2 G3 G4 G8 G10 G11 G13 G14 G15 G16 G27 G28 G29 G30 G31 G32 G33 G34 G35 G36 G37 G69 G70 (show 0 ≤ (u2_5 + 1) ∧ (u2_5 + 1) ≤ (σ.1 7) from by (first | omega | (simp only [st_s] <;> omega) | assumption | omega | fail)) (show c_Rs (s_a (s_a τ37 93 u2_5 (x40 + 1)) 94 u2_5 (x43 + 1)) par nof In from by (first | exact i5_2 | exact p6 | exact q15_3 | exact rs25 | exact rs37 | fail)) (show c_WZ (s_a (s_a τ37 93 u2_5 (x40 + 1)) 94 u2_5 (x43 + 1)) from by (first | exact i5_3 | exact p7 | exact q15_2 | exact wz25 | exact wz37 | fail)) (show c_DS In (s_a (s_a τ37 93 u2_5 (x40 + 1)) 94 u2_5 (x43 + 1)) from by (first | exact i5_4 | exact p9 | exact ds17 | exact ds25 | exact ds37 | exact c_DS_a ds37 rfl rfl rfl (fun k hk => by simp only [List.mem_cons, List.mem_nil_iff, or_false] at hk; have q9 := hk; rcases q9 with rfl | rfl | rfl | rfl | rfl | rfl | rfl | rfl | rfl | rfl | rfl | rfl | rfl <;> rfl) rfl rfl (by omega) (by omega) (by rw [e_x43]; exact dt37 (by assumption)) | fail)) (show (τ37.1 57) = (σ.1 57) from by (first | omega | (simp only [st_s] <;> omega) | assumption | omega | fail)) (show (τ37.1 3) = (σ.1 3) from by (first | omega | (simp only [st_s] <;> omega) | assumption | omega | fail))
          ·
            refine ⟨(⟨by (first | omega | (simp only [st_s] <;> omega) | assumption | omega | fail), by (first | omega | (simp only [st_s] <;> omega) | assumption | omega | fail)⟩ : rg (u2_5 + 1)), ?_⟩
            exact ih_5 _ _ (show (1501 - (u2_5 + 1) : Int) < ((m_5 : Nat) : Int) from by ((first | omega | (simp only [st_s] <;> omega) | assumption | omega | fail))) hT (show τ_5.1 3 = σ.1 3 from by first | exact W3 | omega) (show τ_5.1 4 = σ.1 4 from by first | exact W4 | omega) (show τ_5.1 5 = σ.1 5 from by first | exact W5 | omega) (show τ_5.1 6 = σ.1 6 from by first | exact W6 | omega) (show τ_5.1 7 = σ.1 7 from by first | exact W7 | omega) (show τ_5.1 13 = σ.1 13 from by first | exact W13 | omega) (show τ_5.1 14 = σ.1 14 from by first | exact W14 | omega) (show τ_5.1 15 = σ.1 15 from by first | exact W15 | omega) (show τ_5.1 45 = σ.1 45 from by first | exact W45 | omega) (show τ_5.1 48 = σ.1 48 from by first | exact W48 | omega) (show τ_5.1 49 = σ.1 49 from by first | exact W49 | omega) G2 G3 G4 G8 G10 G11 G13 G14 G15 G16 G27 G28 G29 G30 G31 G32 G33 G34 G35 G36 G37 G69 G70 (show 0 ≤ (u2_5 + 1) ∧ (u2_5 + 1) ≤ (σ.1 7) from by (first | omega | (simp only [st_s] <;> omega) | assumption | omega | fail)) (show c_Rs τ_5 par nof In from by (first | exact i5_2 | exact p6 | exact q15_3 | exact rs25 | exact rs37 | fail)) (show c_WZ τ_5 from by (first | exact i5_3 | exact p7 | exact q15_2 | exact wz25 | exact wz37 | fail)) (show c_DS In τ_5 from by (first | exact i5_4 | exact p9 | exact ds17 | exact ds25 | exact ds37 | exact c_DS_a ds37 rfl rfl rfl (fun k hk => by simp only [List.mem_cons, List.mem_nil_iff, or_false] at hk; have q9 := hk; rcases q9 with rfl | rfl | rfl | rfl | rfl | rfl | rfl | rfl | rfl | rfl | rfl | rfl | rfl <;> rfl) rfl rfl (by omega) (by omega) (by rw [e_x43]; exact dt37 (by assumption)) | fail)) (show (τ_5.1 57) = (σ.1 57) from by (first | omega | (simp only [st_s] <;> omega) | assumption | omega | fail)) (show (τ_5.1 3) = (σ.1 3) from by (first | omega | (simp only [st_s] <;> omega) | assumption | omega | fail))
  exact l_5 ((1501 - (σ.1 57) : Int).toNat + 1) _ _ (show (1501 - (σ.1 57) : Int) < (((1501 - (σ.1 57) : Int).toNat + 1 : Nat) : Int) from by ((first | omega | (simp only [st_s] <;> omega) | assumption | omega | fail))) hT (show σ.1 3 = σ.1 3 from by first | exact W3 | omega) (show σ.1 4 = σ.1 4 from by first | exact W4 | omega) (show σ.1 5 = σ.1 5 from by first | exact W5 | omega) (show σ.1 6 = σ.1 6 from by first | exact W6 | omega) (show σ.1 7 = σ.1 7 from by first | exact W7 | omega) (show σ.1 13 = σ.1 13 from by first | exact W13 | omega) (show σ.1 14 = σ.1 14 from by first | exact W14 | omega) (show σ.1 15 = σ.1 15 from by first | exact W15 | omega) (show σ.1 45 = σ.1 45 from by first | exact W45 | omega) (show σ.1 48 = σ.1 48 from by first | exact W48 | omega) (show σ.1 49 = σ.1 49 from by first | exact W49 | omega) G2 G3 G4 G8 G10 G11 G13 G14 G15 G16 G27 G28 G29 G30 G31 G32 G33 G34 G35 G36 G37 G69 G70 (show 0 ≤ (σ.1 57) ∧ (σ.1 57) ≤ (σ.1 7) from by (first | omega | (simp only [st_s] <;> omega) | assumption | omega | fail)) (show c_Rs σ par nof In from by (first | exact i5_2 | exact p6 | exact q15_3 | exact rs25 | exact rs37 | fail)) (show c_WZ σ from by (first | exact i5_3 | exact p7 | exact q15_2 | exact wz25 | exact wz37 | fail)) (show c_DS In σ from by (first | exact i5_4 | exact p9 | exact ds17 | exact ds25 | exact ds37 | exact c_DS_a ds37 rfl rfl rfl (fun k hk => by simp only [List.mem_cons, List.mem_nil_iff, or_false] at hk; have q9 := hk; rcases q9 with rfl | rfl | rfl | rfl | rfl | rfl | rfl | rfl | rfl | rfl | rfl | rfl | rfl <;> rfl) rfl rfl (by omega) (by omega) (by rw [e_x43]; exact dt37 (by assumption)) | fail)) (show (σ.1 57) = (σ.1 57) from by (first | omega | (simp only [st_s] <;> omega) | assumption | omega | fail)) (show (σ.1 3) = (σ.1 3) from by (first | omega | (simp only [st_s] <;> omega) | assumption | omega | fail))
set_option maxHeartbeats 1000000 in
theorem K_X2_definedRule {n1 : Int} {σ : S0} (hT : c_T σ) (p1 : 0 ≤ n1) (p2 : n1 < 1500) (p3 : ∀ i : Int, 0 ≤ i → i < 1500 → ¬ σ.2.1 93 i = 0 → 1 ≤ σ.2.1 94 i) : W_X2_definedRule n1 σ (fun (x : Int) => (-1 ≤ x ∧ x ≤ 1499) ∧ (¬ x = -1 → ¬ σ.2.1 93 n1 = 0 ∧ x + 1 = σ.2.1 94 n1)) := by
  have A93 : ∀ j, 0 ≤ σ.2.1 93 j ∧ σ.2.1 93 j ≤ 1500 := fun j => hT.2 93 j
  have A94 : ∀ j, 0 ≤ σ.2.1 94 j ∧ σ.2.1 94 j ≤ 1500 := fun j => hT.2 94 j
  have tg := p3 n1 p1 p2
  have a93 := A93 n1
  have a94 := A94 n1
  unfold W_X2_definedRule
  refine ⟨(show 0 ≤ n1 ∧ n1 < 1500 from by (first | omega | (simp only [st_s] <;> omega) | assumption | omega | fail)), ?_⟩
  intro x2 r_x2 e_x2
  have b_x2 : 0 ≤ x2 ∧ x2 ≤ 1500 := by rw [e_x2]; exact hT.2 93 _
  refine ⟨fun c3 => ?_, fun c3 => ?_⟩
  ·
    exact ⟨(show -1 ≤ (-1) ∧ (-1) ≤ 1499 from by (first | omega | (simp only [st_s] <;> omega) | assumption | omega | fail)), (show ¬ (-1) = -1 → ¬ σ.2.1 93 n1 = 0 ∧ (-1) + 1 = σ.2.1 94 n1 from by (first | omega | (simp only [st_s] <;> omega) | assumption | omega | fail))⟩
  ·
    intro x4 r_x4 e_x4
    have b_x4 : 0 ≤ x4 ∧ x4 ≤ 1500 := by rw [e_x4]; exact hT.2 93 _
    have e4 : x4 = x2 := by rw [e_x4, e_x2]
    refine ⟨(show 0 ≤ (x4 - 1) ∧ (x4 - 1) < 1500 from by (first | omega | (simp only [st_s] <;> omega) | assumption | omega | fail)), ?_⟩
    intro x6 r_x6 e_x6
    have b_x6 : 0 ≤ x6 ∧ x6 ≤ 1 := by rw [e_x6]; exact hT.2 96 _
    refine ⟨fun c7 => ?_, fun c7 => ?_⟩
    ·
      exact ⟨(show -1 ≤ (-1) ∧ (-1) ≤ 1499 from by (first | omega | (simp only [st_s] <;> omega) | assumption | omega | fail)), (show ¬ (-1) = -1 → ¬ σ.2.1 93 n1 = 0 ∧ (-1) + 1 = σ.2.1 94 n1 from by (first | omega | (simp only [st_s] <;> omega) | assumption | omega | fail))⟩
    ·
      intro x8 r_x8 e_x8
      have b_x8 : 0 ≤ x8 ∧ x8 ≤ 1500 := by rw [e_x8]; exact hT.2 94 _
      have tg2 := tg (by rw [← e_x2]; assumption)
      refine ⟨(show 0 ≤ (x8 - 1) ∧ (x8 - 1) < 1500 from by (first | omega | (simp only [st_s] <;> omega) | assumption | omega | fail)), ?_⟩
      intro x10 r_x10 e_x10
      have b_x10 : 0 ≤ x10 ∧ x10 ≤ 1 := by rw [e_x10]; exact hT.2 96 _
      refine ⟨fun c11 => ?_, fun c11 => ?_⟩
      ·
        intro x12 r_x12 e_x12
        have b_x12 : 0 ≤ x12 ∧ x12 ≤ 1500 := by rw [e_x12]; exact hT.2 94 _
        have e12 : x12 = x8 := by rw [e_x12, e_x8]
        refine ⟨(⟨by (first | omega | (simp only [st_s] <;> omega) | assumption | omega | fail), by (first | omega | (simp only [st_s] <;> omega) | assumption | omega | fail)⟩ : rg (x12 - 1)), ?_⟩
        exact ⟨(show -1 ≤ (x12 - 1) ∧ (x12 - 1) ≤ 1499 from by (first | omega | (simp only [st_s] <;> omega) | assumption | omega | fail)), (show ¬ (x12 - 1) = -1 → ¬ σ.2.1 93 n1 = 0 ∧ (x12 - 1) + 1 = σ.2.1 94 n1 from by (first | omega | (simp only [st_s] <;> omega) | assumption | omega | fail))⟩
      ·
        exact ⟨(show -1 ≤ (-1) ∧ (-1) ≤ 1499 from by (first | omega | (simp only [st_s] <;> omega) | assumption | omega | fail)), (show ¬ (-1) = -1 → ¬ σ.2.1 93 n1 = 0 ∧ (-1) + 1 = σ.2.1 94 n1 from by (first | omega | (simp only [st_s] <;> omega) | assumption | omega | fail))⟩
set_option maxHeartbeats 2000000 in
theorem K_X12_equate {n1 : Int} {lb : Nat} {In0 : Int → Prop} {σ : S0} (hT : c_T σ) (p1 : J_all (σ.1 7) (σ.1 6) (σ.1 13) (σ.1 14) (σ.1 15) (σ.2.1 13) (σ.2.1 14) (σ.2.1 15) (σ.2.1 16) (σ.2.1 10) (σ.2.1 27) (σ.2.1 28) (σ.2.1 29) (σ.2.1 30) (σ.2.1 31) (σ.2.1 32) (σ.2.1 33) (σ.2.1 34) (σ.2.1 35) (σ.2.1 36) (σ.2.1 37)) (p2 : J_ht (σ.1 3) (σ.2.1 2) (σ.2.1 3) (σ.2.1 5) (σ.2.1 6)) (p3 : J_mn (σ.1 3) (σ.1 5) ((σ.1 7) + 1) (σ.2.1 4)) (p4 : J_rks (σ.1 5) (σ.1 4) (σ.2.1 10) (σ.2.1 11)) (p5 : J_vs (σ.1 6) (σ.1 5) (σ.2.1 15)) (p6 : c_GM In0 σ) (p7 : c_DB lb σ) (p8 : (σ.1 60) ≤ 599 * (σ.1 59)) : W_X12_equate n1 σ (fun (x : Int) (τ : S0) => (c_T τ) ∧ (c_GM In0 τ) ∧ (c_DB lb τ) ∧ ((τ.1 60) ≤ 599 * (τ.1 59))) := by
  have A2 : ∀ j, 0 ≤ σ.2.1 2 j ∧ σ.2.1 2 j ≤ 65535 := fun j => hT.2 2 j
  have A3 : ∀ j, 0 ≤ σ.2.1 3 j ∧ σ.2.1 3 j ≤ 30000 := fun j => hT.2 3 j
  have A4 : ∀ j, (-1000) ≤ σ.2.1 4 j ∧ σ.2.1 4 j ≤ 1499 := fun j => hT.2 4 j
  have A5 : ∀ j, 0 ≤ σ.2.1 5 j ∧ σ.2.1 5 j ≤ 2500 := fun j => hT.2 5 j
  have A6 : ∀ j, 0 ≤ σ.2.1 6 j ∧ σ.2.1 6 j ≤ 2500 := fun j => hT.2 6 j
  have A8 : ∀ j, 0 ≤ σ.2.1 8 j ∧ σ.2.1 8 j ≤ 1 := fun j => hT.2 8 j
  have A10 : ∀ j, (-1) ≤ σ.2.1 10 j ∧ σ.2.1 10 j ≤ 99 := fun j => hT.2 10 j
  have A11 : ∀ j, 0 ≤ σ.2.1 11 j ∧ σ.2.1 11 j ≤ 999 := fun j => hT.2 11 j
  have A13 : ∀ j, 0 ≤ σ.2.1 13 j ∧ σ.2.1 13 j ≤ 4 := fun j => hT.2 13 j
  have A14 : ∀ j, 0 ≤ σ.2.1 14 j ∧ σ.2.1 14 j ≤ 30000 := fun j => hT.2 14 j
  have A15 : ∀ j, 0 ≤ σ.2.1 15 j ∧ σ.2.1 15 j ≤ 999 := fun j => hT.2 15 j
  have A16 : ∀ j, (-1) ≤ σ.2.1 16 j ∧ σ.2.1 16 j ≤ 1499 := fun j => hT.2 16 j
  have A27 : ∀ j, 0 ≤ σ.2.1 27 j ∧ σ.2.1 27 j ≤ 90000 := fun j => hT.2 27 j
  have A28 : ∀ j, 0 ≤ σ.2.1 28 j ∧ σ.2.1 28 j ≤ 60 := fun j => hT.2 28 j
  have A29 : ∀ j, 0 ≤ σ.2.1 29 j ∧ σ.2.1 29 j ≤ 1499 := fun j => hT.2 29 j
  have A30 : ∀ j, 0 ≤ σ.2.1 30 j ∧ σ.2.1 30 j ≤ 20000 := fun j => hT.2 30 j
  have A31 : ∀ j, 0 ≤ σ.2.1 31 j ∧ σ.2.1 31 j ≤ 20000 := fun j => hT.2 31 j
  have A32 : ∀ j, 0 ≤ σ.2.1 32 j ∧ σ.2.1 32 j ≤ 999999 := fun j => hT.2 32 j
  have A33 : ∀ j, 0 ≤ σ.2.1 33 j ∧ σ.2.1 33 j ≤ 20000 := fun j => hT.2 33 j
  have A34 : ∀ j, 0 ≤ σ.2.1 34 j ∧ σ.2.1 34 j ≤ 20000 := fun j => hT.2 34 j
  have A35 : ∀ j, 0 ≤ σ.2.1 35 j ∧ σ.2.1 35 j ≤ 1499 := fun j => hT.2 35 j
  have A36 : ∀ j, 0 ≤ σ.2.1 36 j ∧ σ.2.1 36 j ≤ 20000 := fun j => hT.2 36 j
  have A37 : ∀ j, 0 ≤ σ.2.1 37 j ∧ σ.2.1 37 j ≤ 19999 := fun j => hT.2 37 j
  have A67 : ∀ j, 0 ≤ σ.2.1 67 j ∧ σ.2.1 67 j ≤ 30000 := fun j => hT.2 67 j
  have A68 : ∀ j, 0 ≤ σ.2.1 68 j ∧ σ.2.1 68 j ≤ 30000 := fun j => hT.2 68 j
  have A69 : ∀ j, (-100) ≤ σ.2.1 69 j ∧ σ.2.1 69 j ≤ 999 := fun j => hT.2 69 j
  have A70 : ∀ j, 0 ≤ σ.2.1 70 j ∧ σ.2.1 70 j ≤ 1499 := fun j => hT.2 70 j
  have A71 : ∀ j, 0 ≤ σ.2.1 71 j ∧ σ.2.1 71 j ≤ 1500 := fun j => hT.2 71 j
  have A72 : ∀ j, 0 ≤ σ.2.1 72 j ∧ σ.2.1 72 j ≤ 1500 := fun j => hT.2 72 j
  have A73 : ∀ j, 0 ≤ σ.2.1 73 j ∧ σ.2.1 73 j ≤ 30000 := fun j => hT.2 73 j
  have A74 : ∀ j, 0 ≤ σ.2.1 74 j ∧ σ.2.1 74 j ≤ 30000 := fun j => hT.2 74 j
  have A75 : ∀ j, 0 ≤ σ.2.1 75 j ∧ σ.2.1 75 j ≤ 1499 := fun j => hT.2 75 j
  have A76 : ∀ j, 0 ≤ σ.2.1 76 j ∧ σ.2.1 76 j ≤ 99 := fun j => hT.2 76 j
  have v3 : 0 ≤ σ.1 3 ∧ σ.1 3 ≤ 2500 := hT.1 3
  have v4 : 0 ≤ σ.1 4 ∧ σ.1 4 ≤ 100 := hT.1 4
  have v5 : 0 ≤ σ.1 5 ∧ σ.1 5 ≤ 1000 := hT.1 5
  have v6 : 0 ≤ σ.1 6 ∧ σ.1 6 ≤ 30000 := hT.1 6
  have v7 : 0 ≤ σ.1 7 ∧ σ.1 7 ≤ 1500 := hT.1 7
  have v13 : 0 ≤ σ.1 13 ∧ σ.1 13 ≤ 90000 := hT.1 13
  have v14 : 0 ≤ σ.1 14 ∧ σ.1 14 ≤ 20000 := hT.1 14
  have v15 : 0 ≤ σ.1 15 ∧ σ.1 15 ≤ 20000 := hT.1 15
  have v45 : 1 ≤ σ.1 45 ∧ σ.1 45 ≤ 30001 := hT.1 45
  have v46 : 0 ≤ σ.1 46 ∧ σ.1 46 ≤ 1500 := hT.1 46
  have v47 : 0 ≤ σ.1 47 ∧ σ.1 47 ≤ 1500 := hT.1 47
  have v48 : (-1) ≤ σ.1 48 ∧ σ.1 48 ≤ 999 := hT.1 48
  have v49 : (-1) ≤ σ.1 49 ∧ σ.1 49 ≤ 999 := hT.1 49
  have v59 : 0 ≤ σ.1 59 ∧ σ.1 59 ≤ 1500 := hT.1 59
  have v60 : 0 ≤ σ.1 60 ∧ σ.1 60 ≤ 1048576 := hT.1 60
  have a14_47 : 0 ≤ σ.2.1 14 (σ.1 47) ∧ σ.2.1 14 (σ.1 47) ≤ 30000 := hT.2 14 _
  have W3 : σ.1 3 = σ.1 3 := rfl
  have W4 : σ.1 4 = σ.1 4 := rfl
  have W5 : σ.1 5 = σ.1 5 := rfl
  have W6 : σ.1 6 = σ.1 6 := rfl
  have W7 : σ.1 7 = σ.1 7 := rfl
  have W13 : σ.1 13 = σ.1 13 := rfl
  have W14 : σ.1 14 = σ.1 14 := rfl
  have W15 : σ.1 15 = σ.1 15 := rfl
  have G2 : σ.2.1 2 = σ.2.1 2 := rfl
  have G3 : σ.2.1 3 = σ.2.1 3 := rfl
  have G4 : σ.2.1 4 = σ.2.1 4 := rfl
  have G5 : σ.2.1 5 = σ.2.1 5 := rfl
  have G6 : σ.2.1 6 = σ.2.1 6 := rfl
  have G8 : σ.2.1 8 = σ.2.1 8 := rfl
  have G10 : σ.2.1 10 = σ.2.1 10 := rfl
  have G11 : σ.2.1 11 = σ.2.1 11 := rfl
  have G13 : σ.2.1 13 = σ.2.1 13 := rfl
  have G14 : σ.2.1 14 = σ.2.1 14 := rfl
  have G15 : σ.2.1 15 = σ.2.1 15 := rfl
  have G16 : σ.2.1 16 = σ.2.1 16 := rfl
  have G27 : σ.2.1 27 = σ.2.1 27 := rfl
  have G28 : σ.2.1 28 = σ.2.1 28 := rfl
  have G29 : σ.2.1 29 = σ.2.1 29 := rfl
  have G30 : σ.2.1 30 = σ.2.1 30 := rfl
  have G31 : σ.2.1 31 = σ.2.1 31 := rfl
  have G32 : σ.2.1 32 = σ.2.1 32 := rfl
  have G33 : σ.2.1 33 = σ.2.1 33 := rfl
  have G34 : σ.2.1 34 = σ.2.1 34 := rfl
  have G35 : σ.2.1 35 = σ.2.1 35 := rfl
  have G36 : σ.2.1 36 = σ.2.1 36 := rfl
  have G37 : σ.2.1 37 = σ.2.1 37 := rfl
  have lr := p6.1
  have HT : J_ht (σ.1 3) (σ.2.1 2) (σ.2.1 3) (σ.2.1 5) (σ.2.1 6) := p2
  have MN : J_mn (σ.1 3) (σ.1 5) ((σ.1 7) + 1) (σ.2.1 4) := p3
  have TX : J_vs (σ.1 6) (σ.1 5) (σ.2.1 15) := p5
  have RKS : J_rks (σ.1 5) (σ.1 4) (σ.2.1 10) (σ.2.1 11) := p4
  have CJ : J_all (σ.1 7) (σ.1 6) (σ.1 13) (σ.1 14) (σ.1 15) (σ.2.1 13) (σ.2.1 14) (σ.2.1 15) (σ.2.1 16) (σ.2.1 10) (σ.2.1 27) (σ.2.1 28) (σ.2.1 29) (σ.2.1 30) (σ.2.1 31) (σ.2.1 32) (σ.2.1 33) (σ.2.1 34) (σ.2.1 35) (σ.2.1 36) (σ.2.1 37) := p1
  have CJ_0 := CJ
  have HT_0 := HT
  have MN_0 := MN
  have RKS_0 := RKS
  have TX_0 := TX
  unfold W_X12_equate
  refine ⟨_, K_X8_learn hT (show J_all (σ.1 7) (σ.1 6) (σ.1 13) (σ.1 14) (σ.1 15) (σ.2.1 13) (σ.2.1 14) (σ.2.1 15) (σ.2.1 16) (σ.2.1 10) (σ.2.1 27) (σ.2.1 28) (σ.2.1 29) (σ.2.1 30) (σ.2.1 31) (σ.2.1 32) (σ.2.1 33) (σ.2.1 34) (σ.2.1 35) (σ.2.1 36) (σ.2.1 37) from CJ) (show J_ht (σ.1 3) (σ.2.1 2) (σ.2.1 3) (σ.2.1 5) (σ.2.1 6) from HT) (show J_mn (σ.1 3) (σ.1 5) ((σ.1 7) + 1) (σ.2.1 4) from MN) (show J_rks (σ.1 5) (σ.1 4) (σ.2.1 10) (σ.2.1 11) from RKS) (show J_vs (σ.1 6) (σ.1 5) (σ.2.1 15) from TX) (show (σ.1 47) ≤ (σ.1 7) from by exact lr.1) (show (σ.1 45) ≤ σ.2.1 14 (σ.1 47) + 1 from by exact lr.2.1) (show (σ.1 46) ≤ (σ.1 47) from by exact lr.2.2.1) (show c_Uk (σ.1 47) In0 σ from by exact lr.2.2.2), ?_⟩
  intro τ3 hn_τ3 hf_τ3 hq
  obtain ⟨hT, q1_1, q1_2, q1_3, q1_4, q1_5, q1_6, q1_7, q1_8, q1_9, q1_10, q1_11⟩ := hq
  replace q1_1 : (τ3.1 47) = (σ.1 7) := q1_1
  replace q1_2 : (τ3.1 47) ≤ (τ3.1 7) := q1_2
  replace q1_3 : (τ3.1 45) ≤ τ3.2.1 14 (τ3.1 47) + 1 := q1_3
  replace q1_4 : (τ3.1 46) ≤ (τ3.1 47) := q1_4
  replace q1_5 : c_Uk (τ3.1 47) In0 τ3 := q1_5
  replace q1_6 : (τ3.1 48) = -1 ∨ g_pe τ3 (τ3.1 48) := q1_6
  replace q1_7 : (τ3.1 48) < (σ.1 5) := q1_7
  replace q1_8 : (τ3.1 49) < (σ.1 5) := q1_8
  replace q1_9 : g_wf τ3 (τ3.1 49) := q1_9
  replace q1_10 : (τ3.1 49) = -1 ∨ g_we τ3 (τ3.1 49) := q1_10
  replace q1_11 : g_pvf τ3 (τ3.1 48) := q1_11
  have w3_τ3 : τ3.1 3 = σ.1 3 := hf_τ3.1 3 (by decide)
  have w4_τ3 : τ3.1 4 = σ.1 4 := hf_τ3.1 4 (by decide)
  have w5_τ3 : τ3.1 5 = σ.1 5 := hf_τ3.1 5 (by decide)
  have w6_τ3 : τ3.1 6 = σ.1 6 := hf_τ3.1 6 (by decide)
  have w7_τ3 : τ3.1 7 = σ.1 7 := hf_τ3.1 7 (by decide)
  have w13_τ3 : τ3.1 13 = σ.1 13 := hf_τ3.1 13 (by decide)
  have w14_τ3 : τ3.1 14 = σ.1 14 := hf_τ3.1 14 (by decide)
  have w15_τ3 : τ3.1 15 = σ.1 15 := hf_τ3.1 15 (by decide)
  have w59_τ3 : τ3.1 59 = σ.1 59 := hf_τ3.1 59 (by decide)
  have w60_τ3 : τ3.1 60 = σ.1 60 := hf_τ3.1 60 (by decide)
  have g2_τ3 : τ3.2.1 2 = σ.2.1 2 := hf_τ3.2.1 2 (by decide)
  have g3_τ3 : τ3.2.1 3 = σ.2.1 3 := hf_τ3.2.1 3 (by decide)
  have g4_τ3 : τ3.2.1 4 = σ.2.1 4 := hf_τ3.2.1 4 (by decide)
  have g5_τ3 : τ3.2.1 5 = σ.2.1 5 := hf_τ3.2.1 5 (by decide)
  have g6_τ3 : τ3.2.1 6 = σ.2.1 6 := hf_τ3.2.1 6 (by decide)
  have g8_τ3 : τ3.2.1 8 = σ.2.1 8 := hf_τ3.2.1 8 (by decide)
  have g10_τ3 : τ3.2.1 10 = σ.2.1 10 := hf_τ3.2.1 10 (by decide)
  have g11_τ3 : τ3.2.1 11 = σ.2.1 11 := hf_τ3.2.1 11 (by decide)
  have g13_τ3 : τ3.2.1 13 = σ.2.1 13 := hf_τ3.2.1 13 (by decide)
  have g14_τ3 : τ3.2.1 14 = σ.2.1 14 := hf_τ3.2.1 14 (by decide)
  have g15_τ3 : τ3.2.1 15 = σ.2.1 15 := hf_τ3.2.1 15 (by decide)
  have g16_τ3 : τ3.2.1 16 = σ.2.1 16 := hf_τ3.2.1 16 (by decide)
  have g27_τ3 : τ3.2.1 27 = σ.2.1 27 := hf_τ3.2.1 27 (by decide)
  have g28_τ3 : τ3.2.1 28 = σ.2.1 28 := hf_τ3.2.1 28 (by decide)
  have g29_τ3 : τ3.2.1 29 = σ.2.1 29 := hf_τ3.2.1 29 (by decide)
  have g30_τ3 : τ3.2.1 30 = σ.2.1 30 := hf_τ3.2.1 30 (by decide)
  have g31_τ3 : τ3.2.1 31 = σ.2.1 31 := hf_τ3.2.1 31 (by decide)
  have g32_τ3 : τ3.2.1 32 = σ.2.1 32 := hf_τ3.2.1 32 (by decide)
  have g33_τ3 : τ3.2.1 33 = σ.2.1 33 := hf_τ3.2.1 33 (by decide)
  have g34_τ3 : τ3.2.1 34 = σ.2.1 34 := hf_τ3.2.1 34 (by decide)
  have g35_τ3 : τ3.2.1 35 = σ.2.1 35 := hf_τ3.2.1 35 (by decide)
  have g36_τ3 : τ3.2.1 36 = σ.2.1 36 := hf_τ3.2.1 36 (by decide)
  have g37_τ3 : τ3.2.1 37 = σ.2.1 37 := hf_τ3.2.1 37 (by decide)
  have W3 : τ3.1 3 = σ.1 3 := by first | exact w3_τ3.trans W3 | omega
  have W4 : τ3.1 4 = σ.1 4 := by first | exact w4_τ3.trans W4 | omega
  have W5 : τ3.1 5 = σ.1 5 := by first | exact w5_τ3.trans W5 | omega
  have W6 : τ3.1 6 = σ.1 6 := by first | exact w6_τ3.trans W6 | omega
  have W7 : τ3.1 7 = σ.1 7 := by first | exact w7_τ3.trans W7 | omega
  have W13 : τ3.1 13 = σ.1 13 := by first | exact w13_τ3.trans W13 | omega
  have W14 : τ3.1 14 = σ.1 14 := by first | exact w14_τ3.trans W14 | omega
  have W15 : τ3.1 15 = σ.1 15 := by first | exact w15_τ3.trans W15 | omega
  have G2 : τ3.2.1 2 = σ.2.1 2 := (g2_τ3).trans G2
  have G3 : τ3.2.1 3 = σ.2.1 3 := (g3_τ3).trans G3
  have G4 : τ3.2.1 4 = σ.2.1 4 := (g4_τ3).trans G4
  have G5 : τ3.2.1 5 = σ.2.1 5 := (g5_τ3).trans G5
  have G6 : τ3.2.1 6 = σ.2.1 6 := (g6_τ3).trans G6
  have G8 : τ3.2.1 8 = σ.2.1 8 := (g8_τ3).trans G8
  have G10 : τ3.2.1 10 = σ.2.1 10 := (g10_τ3).trans G10
  have G11 : τ3.2.1 11 = σ.2.1 11 := (g11_τ3).trans G11
  have G13 : τ3.2.1 13 = σ.2.1 13 := (g13_τ3).trans G13
  have G14 : τ3.2.1 14 = σ.2.1 14 := (g14_τ3).trans G14
  have G15 : τ3.2.1 15 = σ.2.1 15 := (g15_τ3).trans G15
  have G16 : τ3.2.1 16 = σ.2.1 16 := (g16_τ3).trans G16
  have G27 : τ3.2.1 27 = σ.2.1 27 := (g27_τ3).trans G27
  have G28 : τ3.2.1 28 = σ.2.1 28 := (g28_τ3).trans G28
  have G29 : τ3.2.1 29 = σ.2.1 29 := (g29_τ3).trans G29
  have G30 : τ3.2.1 30 = σ.2.1 30 := (g30_τ3).trans G30
  have G31 : τ3.2.1 31 = σ.2.1 31 := (g31_τ3).trans G31
  have G32 : τ3.2.1 32 = σ.2.1 32 := (g32_τ3).trans G32
  have G33 : τ3.2.1 33 = σ.2.1 33 := (g33_τ3).trans G33
  have G34 : τ3.2.1 34 = σ.2.1 34 := (g34_τ3).trans G34
  have G35 : τ3.2.1 35 = σ.2.1 35 := (g35_τ3).trans G35
  have G36 : τ3.2.1 36 = σ.2.1 36 := (g36_τ3).trans G36
  have G37 : τ3.2.1 37 = σ.2.1 37 := (g37_τ3).trans G37
  have HT : J_ht (τ3.1 3) (τ3.2.1 2) (τ3.2.1 3) (τ3.2.1 5) (τ3.2.1 6) := by rw [show (J_ht (τ3.1 3) (τ3.2.1 2) (τ3.2.1 3) (τ3.2.1 5) (τ3.2.1 6)) = (J_ht (σ.1 3) (σ.2.1 2) (σ.2.1 3) (σ.2.1 5) (σ.2.1 6)) from by rw [w3_τ3, g2_τ3, g3_τ3, g5_τ3, g6_τ3]]; exact HT
  have MN : J_mn (τ3.1 3) (τ3.1 5) ((τ3.1 7) + 1) (τ3.2.1 4) := by rw [show (J_mn (τ3.1 3) (τ3.1 5) ((τ3.1 7) + 1) (τ3.2.1 4)) = (J_mn (σ.1 3) (σ.1 5) ((σ.1 7) + 1) (σ.2.1 4)) from by rw [w3_τ3, w5_τ3, w7_τ3, g4_τ3]]; exact MN
  have TX : J_vs (τ3.1 6) (τ3.1 5) (τ3.2.1 15) := by rw [show (J_vs (τ3.1 6) (τ3.1 5) (τ3.2.1 15)) = (J_vs (σ.1 6) (σ.1 5) (σ.2.1 15)) from by rw [w5_τ3, w6_τ3, g15_τ3]]; exact TX
  have RKS : J_rks (τ3.1 5) (τ3.1 4) (τ3.2.1 10) (τ3.2.1 11) := by rw [show (J_rks (τ3.1 5) (τ3.1 4) (τ3.2.1 10) (τ3.2.1 11)) = (J_rks (σ.1 5) (σ.1 4) (σ.2.1 10) (σ.2.1 11)) from by rw [w4_τ3, w5_τ3, g10_τ3, g11_τ3]]; exact RKS
  have CJ : J_all (τ3.1 7) (τ3.1 6) (τ3.1 13) (τ3.1 14) (τ3.1 15) (τ3.2.1 13) (τ3.2.1 14) (τ3.2.1 15) (τ3.2.1 16) (τ3.2.1 10) (τ3.2.1 27) (τ3.2.1 28) (τ3.2.1 29) (τ3.2.1 30) (τ3.2.1 31) (τ3.2.1 32) (τ3.2.1 33) (τ3.2.1 34) (τ3.2.1 35) (τ3.2.1 36) (τ3.2.1 37) := by rw [show (J_all (τ3.1 7) (τ3.1 6) (τ3.1 13) (τ3.1 14) (τ3.1 15) (τ3.2.1 13) (τ3.2.1 14) (τ3.2.1 15) (τ3.2.1 16) (τ3.2.1 10) (τ3.2.1 27) (τ3.2.1 28) (τ3.2.1 29) (τ3.2.1 30) (τ3.2.1 31) (τ3.2.1 32) (τ3.2.1 33) (τ3.2.1 34) (τ3.2.1 35) (τ3.2.1 36) (τ3.2.1 37)) = (J_all (σ.1 7) (σ.1 6) (σ.1 13) (σ.1 14) (σ.1 15) (σ.2.1 13) (σ.2.1 14) (σ.2.1 15) (σ.2.1 16) (σ.2.1 10) (σ.2.1 27) (σ.2.1 28) (σ.2.1 29) (σ.2.1 30) (σ.2.1 31) (σ.2.1 32) (σ.2.1 33) (σ.2.1 34) (σ.2.1 35) (σ.2.1 36) (σ.2.1 37)) from by rw [w6_τ3, w7_τ3, w13_τ3, w14_τ3, w15_τ3, g10_τ3, g13_τ3, g14_τ3, g15_τ3, g16_τ3, g27_τ3, g28_τ3, g29_τ3, g30_τ3, g31_τ3, g32_τ3, g33_τ3, g34_τ3, g35_τ3, g36_τ3, g37_τ3]]; exact CJ
  have A2 : ∀ j, 0 ≤ τ3.2.1 2 j ∧ τ3.2.1 2 j ≤ 65535 := fun j => hT.2 2 j
  have A3 : ∀ j, 0 ≤ τ3.2.1 3 j ∧ τ3.2.1 3 j ≤ 30000 := fun j => hT.2 3 j
  have A4 : ∀ j, (-1000) ≤ τ3.2.1 4 j ∧ τ3.2.1 4 j ≤ 1499 := fun j => hT.2 4 j
  have A5 : ∀ j, 0 ≤ τ3.2.1 5 j ∧ τ3.2.1 5 j ≤ 2500 := fun j => hT.2 5 j
  have A6 : ∀ j, 0 ≤ τ3.2.1 6 j ∧ τ3.2.1 6 j ≤ 2500 := fun j => hT.2 6 j
  have A8 : ∀ j, 0 ≤ τ3.2.1 8 j ∧ τ3.2.1 8 j ≤ 1 := fun j => hT.2 8 j
  have A10 : ∀ j, (-1) ≤ τ3.2.1 10 j ∧ τ3.2.1 10 j ≤ 99 := fun j => hT.2 10 j
  have A11 : ∀ j, 0 ≤ τ3.2.1 11 j ∧ τ3.2.1 11 j ≤ 999 := fun j => hT.2 11 j
  have A13 : ∀ j, 0 ≤ τ3.2.1 13 j ∧ τ3.2.1 13 j ≤ 4 := fun j => hT.2 13 j
  have A14 : ∀ j, 0 ≤ τ3.2.1 14 j ∧ τ3.2.1 14 j ≤ 30000 := fun j => hT.2 14 j
  have A15 : ∀ j, 0 ≤ τ3.2.1 15 j ∧ τ3.2.1 15 j ≤ 999 := fun j => hT.2 15 j
  have A16 : ∀ j, (-1) ≤ τ3.2.1 16 j ∧ τ3.2.1 16 j ≤ 1499 := fun j => hT.2 16 j
  have A27 : ∀ j, 0 ≤ τ3.2.1 27 j ∧ τ3.2.1 27 j ≤ 90000 := fun j => hT.2 27 j
  have A28 : ∀ j, 0 ≤ τ3.2.1 28 j ∧ τ3.2.1 28 j ≤ 60 := fun j => hT.2 28 j
  have A29 : ∀ j, 0 ≤ τ3.2.1 29 j ∧ τ3.2.1 29 j ≤ 1499 := fun j => hT.2 29 j
  have A30 : ∀ j, 0 ≤ τ3.2.1 30 j ∧ τ3.2.1 30 j ≤ 20000 := fun j => hT.2 30 j
  have A31 : ∀ j, 0 ≤ τ3.2.1 31 j ∧ τ3.2.1 31 j ≤ 20000 := fun j => hT.2 31 j
  have A32 : ∀ j, 0 ≤ τ3.2.1 32 j ∧ τ3.2.1 32 j ≤ 999999 := fun j => hT.2 32 j
  have A33 : ∀ j, 0 ≤ τ3.2.1 33 j ∧ τ3.2.1 33 j ≤ 20000 := fun j => hT.2 33 j
  have A34 : ∀ j, 0 ≤ τ3.2.1 34 j ∧ τ3.2.1 34 j ≤ 20000 := fun j => hT.2 34 j
  have A35 : ∀ j, 0 ≤ τ3.2.1 35 j ∧ τ3.2.1 35 j ≤ 1499 := fun j => hT.2 35 j
  have A36 : ∀ j, 0 ≤ τ3.2.1 36 j ∧ τ3.2.1 36 j ≤ 20000 := fun j => hT.2 36 j
  have A37 : ∀ j, 0 ≤ τ3.2.1 37 j ∧ τ3.2.1 37 j ≤ 19999 := fun j => hT.2 37 j
  have A67 : ∀ j, 0 ≤ τ3.2.1 67 j ∧ τ3.2.1 67 j ≤ 30000 := fun j => hT.2 67 j
  have A68 : ∀ j, 0 ≤ τ3.2.1 68 j ∧ τ3.2.1 68 j ≤ 30000 := fun j => hT.2 68 j
  have A69 : ∀ j, (-100) ≤ τ3.2.1 69 j ∧ τ3.2.1 69 j ≤ 999 := fun j => hT.2 69 j
  have A70 : ∀ j, 0 ≤ τ3.2.1 70 j ∧ τ3.2.1 70 j ≤ 1499 := fun j => hT.2 70 j
  have A71 : ∀ j, 0 ≤ τ3.2.1 71 j ∧ τ3.2.1 71 j ≤ 1500 := fun j => hT.2 71 j
  have A72 : ∀ j, 0 ≤ τ3.2.1 72 j ∧ τ3.2.1 72 j ≤ 1500 := fun j => hT.2 72 j
  have A73 : ∀ j, 0 ≤ τ3.2.1 73 j ∧ τ3.2.1 73 j ≤ 30000 := fun j => hT.2 73 j
  have A74 : ∀ j, 0 ≤ τ3.2.1 74 j ∧ τ3.2.1 74 j ≤ 30000 := fun j => hT.2 74 j
  have A75 : ∀ j, 0 ≤ τ3.2.1 75 j ∧ τ3.2.1 75 j ≤ 1499 := fun j => hT.2 75 j
  have A76 : ∀ j, 0 ≤ τ3.2.1 76 j ∧ τ3.2.1 76 j ≤ 99 := fun j => hT.2 76 j
  have v3 : 0 ≤ τ3.1 3 ∧ τ3.1 3 ≤ 2500 := hT.1 3
  have v4 : 0 ≤ τ3.1 4 ∧ τ3.1 4 ≤ 100 := hT.1 4
  have v5 : 0 ≤ τ3.1 5 ∧ τ3.1 5 ≤ 1000 := hT.1 5
  have v6 : 0 ≤ τ3.1 6 ∧ τ3.1 6 ≤ 30000 := hT.1 6
  have v7 : 0 ≤ τ3.1 7 ∧ τ3.1 7 ≤ 1500 := hT.1 7
  have v13 : 0 ≤ τ3.1 13 ∧ τ3.1 13 ≤ 90000 := hT.1 13
  have v14 : 0 ≤ τ3.1 14 ∧ τ3.1 14 ≤ 20000 := hT.1 14
  have v15 : 0 ≤ τ3.1 15 ∧ τ3.1 15 ≤ 20000 := hT.1 15
  have v45 : 1 ≤ τ3.1 45 ∧ τ3.1 45 ≤ 30001 := hT.1 45
  have v46 : 0 ≤ τ3.1 46 ∧ τ3.1 46 ≤ 1500 := hT.1 46
  have v47 : 0 ≤ τ3.1 47 ∧ τ3.1 47 ≤ 1500 := hT.1 47
  have v48 : (-1) ≤ τ3.1 48 ∧ τ3.1 48 ≤ 999 := hT.1 48
  have v49 : (-1) ≤ τ3.1 49 ∧ τ3.1 49 ≤ 999 := hT.1 49
  have v59 : 0 ≤ τ3.1 59 ∧ τ3.1 59 ≤ 1500 := hT.1 59
  have v60 : 0 ≤ τ3.1 60 ∧ τ3.1 60 ≤ 1048576 := hT.1 60
  have a14_47 : 0 ≤ τ3.2.1 14 (τ3.1 47) ∧ τ3.2.1 14 (τ3.1 47) ≤ 30000 := hT.2 14 _
  have gm3 : c_GM In0 τ3 := ⟨⟨q1_2, q1_3, q1_4, q1_5⟩, c_WZ_h p6.2 hf_τ3 rfl rfl rfl⟩
  have db3 := c_DB_h p7 hf_τ3 rfl rfl
  refine ⟨_, K_X3_isStatement hT, ?_⟩
  intro x5 r_x5 hq
  obtain ⟨q4_1, q4_2⟩ := hq
  replace q4_1 : 0 ≤ x5 ∧ x5 ≤ 1 := q4_1
  replace q4_2 : ¬ x5 = 0 → 0 ≤ n1 ∧ n1 < (τ3.1 7) := q4_2
  refine ⟨fun c7 => ?_, fun c7 => ?_⟩
  ·
    exact ⟨hT, (show c_GM In0 τ3 from by (first | omega | (simp only [st_s] <;> omega) | assumption | omega | fail)), (show c_DB lb τ3 from by (first | omega | (simp only [st_s] <;> omega) | assumption | omega | fail)), (show (τ3.1 60) ≤ 599 * (τ3.1 59) from by (first | omega | (simp only [st_s] <;> omega) | assumption | omega | fail))⟩
  ·
    refine ⟨_, K_X8_isRule hT (show 0 ≤ n1 from by (first | omega | (simp only [st_s] <;> omega) | assumption | omega | fail)) (show n1 < (τ3.1 7) from by (first | omega | (simp only [st_s] <;> omega) | assumption | omega | fail)) (show J_all (τ3.1 7) (τ3.1 6) (τ3.1 13) (τ3.1 14) (τ3.1 15) (τ3.2.1 13) (τ3.2.1 14) (τ3.2.1 15) (τ3.2.1 16) (τ3.2.1 10) (τ3.2.1 27) (τ3.2.1 28) (τ3.2.1 29) (τ3.2.1 30) (τ3.2.1 31) (τ3.2.1 32) (τ3.2.1 33) (τ3.2.1 34) (τ3.2.1 35) (τ3.2.1 36) (τ3.2.1 37) from CJ), ?_⟩
    intro x9 r_x9 hq
    obtain ⟨q8_1, q8_2, q8_3⟩ := hq
    replace q8_1 : 0 ≤ x9 ∧ x9 ≤ 1 := q8_1
    replace q8_2 : ¬ x9 = 0 → τ3.2.1 13 n1 = 2 ∧ ¬ τ3.2.1 15 (τ3.2.1 14 n1) = (τ3.1 48) ∧ τ3.2.1 14 n1 + 2 ≤ τ3.2.1 14 (n1 + 1) ∧ ∀ k : Int, 0 ≤ k → k < τ3.2.1 28 n1 → τ3.2.1 13 (τ3.2.1 29 (τ3.2.1 27 n1 + k)) = 0 := q8_2
    replace q8_3 : ¬ x9 = 0 → sm (g_cv (τ3.2.1 14) (τ3.2.1 16) n1) (τ3.2.1 14 (n1 + 1) - τ3.2.1 14 n1) = τ3.2.1 28 n1 := q8_3
    refine ⟨fun c11 => ?_, fun c11 => ?_⟩
    ·
      exact ⟨hT, (show c_GM In0 τ3 from by (first | omega | (simp only [st_s] <;> omega) | assumption | omega | fail)), (show c_DB lb τ3 from by (first | omega | (simp only [st_s] <;> omega) | assumption | omega | fail)), (show (τ3.1 60) ≤ 599 * (τ3.1 59) from by (first | omega | (simp only [st_s] <;> omega) | assumption | omega | fail))⟩
    ·
      refine ⟨(show 0 ≤ n1 ∧ n1 < 1500 from by (first | omega | (simp only [st_s] <;> omega) | assumption | omega | fail)), ?_⟩
      intro x13 r_x13 e_x13
      have b_x13 : 0 ≤ x13 ∧ x13 ≤ 60 := by rw [e_x13]; exact hT.2 28 _
      refine ⟨fun c14 => ?_, fun c14 => ?_⟩
      ·
        refine ⟨_, K_X2_turn hT (show 0 ≤ n1 from by (first | omega | (simp only [st_s] <;> omega) | assumption | omega | fail)) (show n1 < 1500 from by (first | omega | (simp only [st_s] <;> omega) | assumption | omega | fail)), ?_⟩
        intro x16 τ17 r_x16 hn_τ17 hf_τ17 hq
        obtain ⟨hT, q15_1, q15_2⟩ := hq
        replace q15_1 : ∀ lb : Nat, c_DB lb τ17 := q15_1
        replace q15_2 : (τ17.1 59) = 0 ∧ (τ17.1 60) = 0 := q15_2
        have w3_τ17 : τ17.1 3 = τ3.1 3 := hf_τ17.1 3 (by decide)
        have w4_τ17 : τ17.1 4 = τ3.1 4 := hf_τ17.1 4 (by decide)
        have w5_τ17 : τ17.1 5 = τ3.1 5 := hf_τ17.1 5 (by decide)
        have w6_τ17 : τ17.1 6 = τ3.1 6 := hf_τ17.1 6 (by decide)
        have w7_τ17 : τ17.1 7 = τ3.1 7 := hf_τ17.1 7 (by decide)
        have w13_τ17 : τ17.1 13 = τ3.1 13 := hf_τ17.1 13 (by decide)
        have w14_τ17 : τ17.1 14 = τ3.1 14 := hf_τ17.1 14 (by decide)
        have w15_τ17 : τ17.1 15 = τ3.1 15 := hf_τ17.1 15 (by decide)
        have w45_τ17 : τ17.1 45 = τ3.1 45 := hf_τ17.1 45 (by decide)
        have w46_τ17 : τ17.1 46 = τ3.1 46 := hf_τ17.1 46 (by decide)
        have w47_τ17 : τ17.1 47 = τ3.1 47 := hf_τ17.1 47 (by decide)
        have w48_τ17 : τ17.1 48 = τ3.1 48 := hf_τ17.1 48 (by decide)
        have w49_τ17 : τ17.1 49 = τ3.1 49 := hf_τ17.1 49 (by decide)
        have g2_τ17 : τ17.2.1 2 = τ3.2.1 2 := hf_τ17.2.1 2 (by decide)
        have g3_τ17 : τ17.2.1 3 = τ3.2.1 3 := hf_τ17.2.1 3 (by decide)
        have g4_τ17 : τ17.2.1 4 = τ3.2.1 4 := hf_τ17.2.1 4 (by decide)
        have g5_τ17 : τ17.2.1 5 = τ3.2.1 5 := hf_τ17.2.1 5 (by decide)
        have g6_τ17 : τ17.2.1 6 = τ3.2.1 6 := hf_τ17.2.1 6 (by decide)
        have g8_τ17 : τ17.2.1 8 = τ3.2.1 8 := hf_τ17.2.1 8 (by decide)
        have g10_τ17 : τ17.2.1 10 = τ3.2.1 10 := hf_τ17.2.1 10 (by decide)
        have g11_τ17 : τ17.2.1 11 = τ3.2.1 11 := hf_τ17.2.1 11 (by decide)
        have g13_τ17 : τ17.2.1 13 = τ3.2.1 13 := hf_τ17.2.1 13 (by decide)
        have g14_τ17 : τ17.2.1 14 = τ3.2.1 14 := hf_τ17.2.1 14 (by decide)
        have g15_τ17 : τ17.2.1 15 = τ3.2.1 15 := hf_τ17.2.1 15 (by decide)
        have g16_τ17 : τ17.2.1 16 = τ3.2.1 16 := hf_τ17.2.1 16 (by decide)
        have g27_τ17 : τ17.2.1 27 = τ3.2.1 27 := hf_τ17.2.1 27 (by decide)
        have g28_τ17 : τ17.2.1 28 = τ3.2.1 28 := hf_τ17.2.1 28 (by decide)
        have g29_τ17 : τ17.2.1 29 = τ3.2.1 29 := hf_τ17.2.1 29 (by decide)
        have g30_τ17 : τ17.2.1 30 = τ3.2.1 30 := hf_τ17.2.1 30 (by decide)
        have g31_τ17 : τ17.2.1 31 = τ3.2.1 31 := hf_τ17.2.1 31 (by decide)
        have g32_τ17 : τ17.2.1 32 = τ3.2.1 32 := hf_τ17.2.1 32 (by decide)
        have g33_τ17 : τ17.2.1 33 = τ3.2.1 33 := hf_τ17.2.1 33 (by decide)
        have g34_τ17 : τ17.2.1 34 = τ3.2.1 34 := hf_τ17.2.1 34 (by decide)
        have g35_τ17 : τ17.2.1 35 = τ3.2.1 35 := hf_τ17.2.1 35 (by decide)
        have g36_τ17 : τ17.2.1 36 = τ3.2.1 36 := hf_τ17.2.1 36 (by decide)
        have g37_τ17 : τ17.2.1 37 = τ3.2.1 37 := hf_τ17.2.1 37 (by decide)
        have g67_τ17 : τ17.2.1 67 = τ3.2.1 67 := hf_τ17.2.1 67 (by decide)
        have g68_τ17 : τ17.2.1 68 = τ3.2.1 68 := hf_τ17.2.1 68 (by decide)
        have g69_τ17 : τ17.2.1 69 = τ3.2.1 69 := hf_τ17.2.1 69 (by decide)
        have g70_τ17 : τ17.2.1 70 = τ3.2.1 70 := hf_τ17.2.1 70 (by decide)
        have g71_τ17 : τ17.2.1 71 = τ3.2.1 71 := hf_τ17.2.1 71 (by decide)
        have g72_τ17 : τ17.2.1 72 = τ3.2.1 72 := hf_τ17.2.1 72 (by decide)
        have g73_τ17 : τ17.2.1 73 = τ3.2.1 73 := hf_τ17.2.1 73 (by decide)
        have g74_τ17 : τ17.2.1 74 = τ3.2.1 74 := hf_τ17.2.1 74 (by decide)
        have g75_τ17 : τ17.2.1 75 = τ3.2.1 75 := hf_τ17.2.1 75 (by decide)
        have g76_τ17 : τ17.2.1 76 = τ3.2.1 76 := hf_τ17.2.1 76 (by decide)
        have W3 : τ17.1 3 = σ.1 3 := by first | exact w3_τ17.trans W3 | omega
        have W4 : τ17.1 4 = σ.1 4 := by first | exact w4_τ17.trans W4 | omega
        have W5 : τ17.1 5 = σ.1 5 := by first | exact w5_τ17.trans W5 | omega
        have W6 : τ17.1 6 = σ.1 6 := by first | exact w6_τ17.trans W6 | omega
        have W7 : τ17.1 7 = σ.1 7 := by first | exact w7_τ17.trans W7 | omega
        have W13 : τ17.1 13 = σ.1 13 := by first | exact w13_τ17.trans W13 | omega
        have W14 : τ17.1 14 = σ.1 14 := by first | exact w14_τ17.trans W14 | omega
        have W15 : τ17.1 15 = σ.1 15 := by first | exact w15_τ17.trans W15 | omega
        have G2 : τ17.2.1 2 = σ.2.1 2 := (g2_τ17).trans G2
        have G3 : τ17.2.1 3 = σ.2.1 3 := (g3_τ17).trans G3
        have G4 : τ17.2.1 4 = σ.2.1 4 := (g4_τ17).trans G4
        have G5 : τ17.2.1 5 = σ.2.1 5 := (g5_τ17).trans G5
        have G6 : τ17.2.1 6 = σ.2.1 6 := (g6_τ17).trans G6
        have G8 : τ17.2.1 8 = σ.2.1 8 := (g8_τ17).trans G8
        have G10 : τ17.2.1 10 = σ.2.1 10 := (g10_τ17).trans G10
        have G11 : τ17.2.1 11 = σ.2.1 11 := (g11_τ17).trans G11
        have G13 : τ17.2.1 13 = σ.2.1 13 := (g13_τ17).trans G13
        have G14 : τ17.2.1 14 = σ.2.1 14 := (g14_τ17).trans G14
        have G15 : τ17.2.1 15 = σ.2.1 15 := (g15_τ17).trans G15
        have G16 : τ17.2.1 16 = σ.2.1 16 := (g16_τ17).trans G16
        have G27 : τ17.2.1 27 = σ.2.1 27 := (g27_τ17).trans G27
        have G28 : τ17.2.1 28 = σ.2.1 28 := (g28_τ17).trans G28
        have G29 : τ17.2.1 29 = σ.2.1 29 := (g29_τ17).trans G29
        have G30 : τ17.2.1 30 = σ.2.1 30 := (g30_τ17).trans G30
        have G31 : τ17.2.1 31 = σ.2.1 31 := (g31_τ17).trans G31
        have G32 : τ17.2.1 32 = σ.2.1 32 := (g32_τ17).trans G32
        have G33 : τ17.2.1 33 = σ.2.1 33 := (g33_τ17).trans G33
        have G34 : τ17.2.1 34 = σ.2.1 34 := (g34_τ17).trans G34
        have G35 : τ17.2.1 35 = σ.2.1 35 := (g35_τ17).trans G35
        have G36 : τ17.2.1 36 = σ.2.1 36 := (g36_τ17).trans G36
        have G37 : τ17.2.1 37 = σ.2.1 37 := (g37_τ17).trans G37
        have y14_47_τ17 : τ17.2.1 14 (τ17.1 47) = (τ3.2.1 14) (τ3.1 47) := by rw [g14_τ17, w47_τ17]
        have HT : J_ht (τ17.1 3) (τ17.2.1 2) (τ17.2.1 3) (τ17.2.1 5) (τ17.2.1 6) := by rw [show (J_ht (τ17.1 3) (τ17.2.1 2) (τ17.2.1 3) (τ17.2.1 5) (τ17.2.1 6)) = (J_ht (τ3.1 3) (τ3.2.1 2) (τ3.2.1 3) (τ3.2.1 5) (τ3.2.1 6)) from by rw [w3_τ17, g2_τ17, g3_τ17, g5_τ17, g6_τ17]]; exact HT
        have MN : J_mn (τ17.1 3) (τ17.1 5) ((τ17.1 7) + 1) (τ17.2.1 4) := by rw [show (J_mn (τ17.1 3) (τ17.1 5) ((τ17.1 7) + 1) (τ17.2.1 4)) = (J_mn (τ3.1 3) (τ3.1 5) ((τ3.1 7) + 1) (τ3.2.1 4)) from by rw [w3_τ17, w5_τ17, w7_τ17, g4_τ17]]; exact MN
        have TX : J_vs (τ17.1 6) (τ17.1 5) (τ17.2.1 15) := by rw [show (J_vs (τ17.1 6) (τ17.1 5) (τ17.2.1 15)) = (J_vs (τ3.1 6) (τ3.1 5) (τ3.2.1 15)) from by rw [w5_τ17, w6_τ17, g15_τ17]]; exact TX
        have RKS : J_rks (τ17.1 5) (τ17.1 4) (τ17.2.1 10) (τ17.2.1 11) := by rw [show (J_rks (τ17.1 5) (τ17.1 4) (τ17.2.1 10) (τ17.2.1 11)) = (J_rks (τ3.1 5) (τ3.1 4) (τ3.2.1 10) (τ3.2.1 11)) from by rw [w4_τ17, w5_τ17, g10_τ17, g11_τ17]]; exact RKS
        have CJ : J_all (τ17.1 7) (τ17.1 6) (τ17.1 13) (τ17.1 14) (τ17.1 15) (τ17.2.1 13) (τ17.2.1 14) (τ17.2.1 15) (τ17.2.1 16) (τ17.2.1 10) (τ17.2.1 27) (τ17.2.1 28) (τ17.2.1 29) (τ17.2.1 30) (τ17.2.1 31) (τ17.2.1 32) (τ17.2.1 33) (τ17.2.1 34) (τ17.2.1 35) (τ17.2.1 36) (τ17.2.1 37) := by rw [show (J_all (τ17.1 7) (τ17.1 6) (τ17.1 13) (τ17.1 14) (τ17.1 15) (τ17.2.1 13) (τ17.2.1 14) (τ17.2.1 15) (τ17.2.1 16) (τ17.2.1 10) (τ17.2.1 27) (τ17.2.1 28) (τ17.2.1 29) (τ17.2.1 30) (τ17.2.1 31) (τ17.2.1 32) (τ17.2.1 33) (τ17.2.1 34) (τ17.2.1 35) (τ17.2.1 36) (τ17.2.1 37)) = (J_all (τ3.1 7) (τ3.1 6) (τ3.1 13) (τ3.1 14) (τ3.1 15) (τ3.2.1 13) (τ3.2.1 14) (τ3.2.1 15) (τ3.2.1 16) (τ3.2.1 10) (τ3.2.1 27) (τ3.2.1 28) (τ3.2.1 29) (τ3.2.1 30) (τ3.2.1 31) (τ3.2.1 32) (τ3.2.1 33) (τ3.2.1 34) (τ3.2.1 35) (τ3.2.1 36) (τ3.2.1 37)) from by rw [w6_τ17, w7_τ17, w13_τ17, w14_τ17, w15_τ17, g10_τ17, g13_τ17, g14_τ17, g15_τ17, g16_τ17, g27_τ17, g28_τ17, g29_τ17, g30_τ17, g31_τ17, g32_τ17, g33_τ17, g34_τ17, g35_τ17, g36_τ17, g37_τ17]]; exact CJ
        have A2 : ∀ j, 0 ≤ τ17.2.1 2 j ∧ τ17.2.1 2 j ≤ 65535 := fun j => hT.2 2 j
        have A3 : ∀ j, 0 ≤ τ17.2.1 3 j ∧ τ17.2.1 3 j ≤ 30000 := fun j => hT.2 3 j
        have A4 : ∀ j, (-1000) ≤ τ17.2.1 4 j ∧ τ17.2.1 4 j ≤ 1499 := fun j => hT.2 4 j
        have A5 : ∀ j, 0 ≤ τ17.2.1 5 j ∧ τ17.2.1 5 j ≤ 2500 := fun j => hT.2 5 j
        have A6 : ∀ j, 0 ≤ τ17.2.1 6 j ∧ τ17.2.1 6 j ≤ 2500 := fun j => hT.2 6 j
        have A8 : ∀ j, 0 ≤ τ17.2.1 8 j ∧ τ17.2.1 8 j ≤ 1 := fun j => hT.2 8 j
        have A10 : ∀ j, (-1) ≤ τ17.2.1 10 j ∧ τ17.2.1 10 j ≤ 99 := fun j => hT.2 10 j
        have A11 : ∀ j, 0 ≤ τ17.2.1 11 j ∧ τ17.2.1 11 j ≤ 999 := fun j => hT.2 11 j
        have A13 : ∀ j, 0 ≤ τ17.2.1 13 j ∧ τ17.2.1 13 j ≤ 4 := fun j => hT.2 13 j
        have A14 : ∀ j, 0 ≤ τ17.2.1 14 j ∧ τ17.2.1 14 j ≤ 30000 := fun j => hT.2 14 j
        have A15 : ∀ j, 0 ≤ τ17.2.1 15 j ∧ τ17.2.1 15 j ≤ 999 := fun j => hT.2 15 j
        have A16 : ∀ j, (-1) ≤ τ17.2.1 16 j ∧ τ17.2.1 16 j ≤ 1499 := fun j => hT.2 16 j
        have A27 : ∀ j, 0 ≤ τ17.2.1 27 j ∧ τ17.2.1 27 j ≤ 90000 := fun j => hT.2 27 j
        have A28 : ∀ j, 0 ≤ τ17.2.1 28 j ∧ τ17.2.1 28 j ≤ 60 := fun j => hT.2 28 j
        have A29 : ∀ j, 0 ≤ τ17.2.1 29 j ∧ τ17.2.1 29 j ≤ 1499 := fun j => hT.2 29 j
        have A30 : ∀ j, 0 ≤ τ17.2.1 30 j ∧ τ17.2.1 30 j ≤ 20000 := fun j => hT.2 30 j
        have A31 : ∀ j, 0 ≤ τ17.2.1 31 j ∧ τ17.2.1 31 j ≤ 20000 := fun j => hT.2 31 j
        have A32 : ∀ j, 0 ≤ τ17.2.1 32 j ∧ τ17.2.1 32 j ≤ 999999 := fun j => hT.2 32 j
        have A33 : ∀ j, 0 ≤ τ17.2.1 33 j ∧ τ17.2.1 33 j ≤ 20000 := fun j => hT.2 33 j
        have A34 : ∀ j, 0 ≤ τ17.2.1 34 j ∧ τ17.2.1 34 j ≤ 20000 := fun j => hT.2 34 j
        have A35 : ∀ j, 0 ≤ τ17.2.1 35 j ∧ τ17.2.1 35 j ≤ 1499 := fun j => hT.2 35 j
        have A36 : ∀ j, 0 ≤ τ17.2.1 36 j ∧ τ17.2.1 36 j ≤ 20000 := fun j => hT.2 36 j
        have A37 : ∀ j, 0 ≤ τ17.2.1 37 j ∧ τ17.2.1 37 j ≤ 19999 := fun j => hT.2 37 j
        have A67 : ∀ j, 0 ≤ τ17.2.1 67 j ∧ τ17.2.1 67 j ≤ 30000 := fun j => hT.2 67 j
        have A68 : ∀ j, 0 ≤ τ17.2.1 68 j ∧ τ17.2.1 68 j ≤ 30000 := fun j => hT.2 68 j
        have A69 : ∀ j, (-100) ≤ τ17.2.1 69 j ∧ τ17.2.1 69 j ≤ 999 := fun j => hT.2 69 j
        have A70 : ∀ j, 0 ≤ τ17.2.1 70 j ∧ τ17.2.1 70 j ≤ 1499 := fun j => hT.2 70 j
        have A71 : ∀ j, 0 ≤ τ17.2.1 71 j ∧ τ17.2.1 71 j ≤ 1500 := fun j => hT.2 71 j
        have A72 : ∀ j, 0 ≤ τ17.2.1 72 j ∧ τ17.2.1 72 j ≤ 1500 := fun j => hT.2 72 j
        have A73 : ∀ j, 0 ≤ τ17.2.1 73 j ∧ τ17.2.1 73 j ≤ 30000 := fun j => hT.2 73 j
        have A74 : ∀ j, 0 ≤ τ17.2.1 74 j ∧ τ17.2.1 74 j ≤ 30000 := fun j => hT.2 74 j
        have A75 : ∀ j, 0 ≤ τ17.2.1 75 j ∧ τ17.2.1 75 j ≤ 1499 := fun j => hT.2 75 j
        have A76 : ∀ j, 0 ≤ τ17.2.1 76 j ∧ τ17.2.1 76 j ≤ 99 := fun j => hT.2 76 j
        have v3 : 0 ≤ τ17.1 3 ∧ τ17.1 3 ≤ 2500 := hT.1 3
        have v4 : 0 ≤ τ17.1 4 ∧ τ17.1 4 ≤ 100 := hT.1 4
        have v5 : 0 ≤ τ17.1 5 ∧ τ17.1 5 ≤ 1000 := hT.1 5
        have v6 : 0 ≤ τ17.1 6 ∧ τ17.1 6 ≤ 30000 := hT.1 6
        have v7 : 0 ≤ τ17.1 7 ∧ τ17.1 7 ≤ 1500 := hT.1 7
        have v13 : 0 ≤ τ17.1 13 ∧ τ17.1 13 ≤ 90000 := hT.1 13
        have v14 : 0 ≤ τ17.1 14 ∧ τ17.1 14 ≤ 20000 := hT.1 14
        have v15 : 0 ≤ τ17.1 15 ∧ τ17.1 15 ≤ 20000 := hT.1 15
        have v45 : 1 ≤ τ17.1 45 ∧ τ17.1 45 ≤ 30001 := hT.1 45
        have v46 : 0 ≤ τ17.1 46 ∧ τ17.1 46 ≤ 1500 := hT.1 46
        have v47 : 0 ≤ τ17.1 47 ∧ τ17.1 47 ≤ 1500 := hT.1 47
        have v48 : (-1) ≤ τ17.1 48 ∧ τ17.1 48 ≤ 999 := hT.1 48
        have v49 : (-1) ≤ τ17.1 49 ∧ τ17.1 49 ≤ 999 := hT.1 49
        have v59 : 0 ≤ τ17.1 59 ∧ τ17.1 59 ≤ 1500 := hT.1 59
        have v60 : 0 ≤ τ17.1 60 ∧ τ17.1 60 ≤ 1048576 := hT.1 60
        have a14_47 : 0 ≤ τ17.2.1 14 (τ17.1 47) ∧ τ17.2.1 14 (τ17.1 47) ≤ 30000 := hT.2 14 _
        have gm17 := c_GM_h gm3 hf_τ17 rfl rfl rfl
        have db17 := q15_1 lb
        exact ⟨hT, (show c_GM In0 τ17 from by (first | omega | (simp only [st_s] <;> omega) | assumption | omega | fail)), (show c_DB lb τ17 from by (first | omega | (simp only [st_s] <;> omega) | assumption | omega | fail)), (show (τ17.1 60) ≤ 599 * (τ17.1 59) from by (first | omega | (simp only [st_s] <;> omega) | assumption | omega | fail))⟩
      ·
        exact ⟨hT, (show c_GM In0 τ3 from by (first | omega | (simp only [st_s] <;> omega) | assumption | omega | fail)), (show c_DB lb τ3 from by (first | omega | (simp only [st_s] <;> omega) | assumption | omega | fail)), (show (τ3.1 60) ≤ 599 * (τ3.1 59) from by (first | omega | (simp only [st_s] <;> omega) | assumption | omega | fail))⟩
set_option maxHeartbeats 4000000 in
theorem K_X12_definition {n1 : Int} {lb : Nat} {In0 : Int → Prop} {σ : S0} (hT : c_T σ) (p1 : J_all (σ.1 7) (σ.1 6) (σ.1 13) (σ.1 14) (σ.1 15) (σ.2.1 13) (σ.2.1 14) (σ.2.1 15) (σ.2.1 16) (σ.2.1 10) (σ.2.1 27) (σ.2.1 28) (σ.2.1 29) (σ.2.1 30) (σ.2.1 31) (σ.2.1 32) (σ.2.1 33) (σ.2.1 34) (σ.2.1 35) (σ.2.1 36) (σ.2.1 37)) (p2 : J_ht (σ.1 3) (σ.2.1 2) (σ.2.1 3) (σ.2.1 5) (σ.2.1 6)) (p3 : J_mn (σ.1 3) (σ.1 5) ((σ.1 7) + 1) (σ.2.1 4)) (p4 : J_rks (σ.1 5) (σ.1 4) (σ.2.1 10) (σ.2.1 11)) (p5 : J_vs (σ.1 6) (σ.1 5) (σ.2.1 15)) (p6 : c_GM In0 σ) (p7 : c_DS In0 σ) (p8 : c_DB lb σ) : W_X12_definition n1 σ (fun (x : Int) (τ : S0) => (c_T τ) ∧ (∃ In1 : Int → Prop, c_GM In1 τ ∧ c_DS In1 τ) ∧ (c_DB lb τ)) := by
  have A2 : ∀ j, 0 ≤ σ.2.1 2 j ∧ σ.2.1 2 j ≤ 65535 := fun j => hT.2 2 j
  have A3 : ∀ j, 0 ≤ σ.2.1 3 j ∧ σ.2.1 3 j ≤ 30000 := fun j => hT.2 3 j
  have A4 : ∀ j, (-1000) ≤ σ.2.1 4 j ∧ σ.2.1 4 j ≤ 1499 := fun j => hT.2 4 j
  have A5 : ∀ j, 0 ≤ σ.2.1 5 j ∧ σ.2.1 5 j ≤ 2500 := fun j => hT.2 5 j
  have A6 : ∀ j, 0 ≤ σ.2.1 6 j ∧ σ.2.1 6 j ≤ 2500 := fun j => hT.2 6 j
  have A8 : ∀ j, 0 ≤ σ.2.1 8 j ∧ σ.2.1 8 j ≤ 1 := fun j => hT.2 8 j
  have A10 : ∀ j, (-1) ≤ σ.2.1 10 j ∧ σ.2.1 10 j ≤ 99 := fun j => hT.2 10 j
  have A11 : ∀ j, 0 ≤ σ.2.1 11 j ∧ σ.2.1 11 j ≤ 999 := fun j => hT.2 11 j
  have A13 : ∀ j, 0 ≤ σ.2.1 13 j ∧ σ.2.1 13 j ≤ 4 := fun j => hT.2 13 j
  have A14 : ∀ j, 0 ≤ σ.2.1 14 j ∧ σ.2.1 14 j ≤ 30000 := fun j => hT.2 14 j
  have A15 : ∀ j, 0 ≤ σ.2.1 15 j ∧ σ.2.1 15 j ≤ 999 := fun j => hT.2 15 j
  have A16 : ∀ j, (-1) ≤ σ.2.1 16 j ∧ σ.2.1 16 j ≤ 1499 := fun j => hT.2 16 j
  have A27 : ∀ j, 0 ≤ σ.2.1 27 j ∧ σ.2.1 27 j ≤ 90000 := fun j => hT.2 27 j
  have A28 : ∀ j, 0 ≤ σ.2.1 28 j ∧ σ.2.1 28 j ≤ 60 := fun j => hT.2 28 j
  have A29 : ∀ j, 0 ≤ σ.2.1 29 j ∧ σ.2.1 29 j ≤ 1499 := fun j => hT.2 29 j
  have A30 : ∀ j, 0 ≤ σ.2.1 30 j ∧ σ.2.1 30 j ≤ 20000 := fun j => hT.2 30 j
  have A31 : ∀ j, 0 ≤ σ.2.1 31 j ∧ σ.2.1 31 j ≤ 20000 := fun j => hT.2 31 j
  have A32 : ∀ j, 0 ≤ σ.2.1 32 j ∧ σ.2.1 32 j ≤ 999999 := fun j => hT.2 32 j
  have A33 : ∀ j, 0 ≤ σ.2.1 33 j ∧ σ.2.1 33 j ≤ 20000 := fun j => hT.2 33 j
  have A34 : ∀ j, 0 ≤ σ.2.1 34 j ∧ σ.2.1 34 j ≤ 20000 := fun j => hT.2 34 j
  have A35 : ∀ j, 0 ≤ σ.2.1 35 j ∧ σ.2.1 35 j ≤ 1499 := fun j => hT.2 35 j
  have A36 : ∀ j, 0 ≤ σ.2.1 36 j ∧ σ.2.1 36 j ≤ 20000 := fun j => hT.2 36 j
  have A37 : ∀ j, 0 ≤ σ.2.1 37 j ∧ σ.2.1 37 j ≤ 19999 := fun j => hT.2 37 j
  have A67 : ∀ j, 0 ≤ σ.2.1 67 j ∧ σ.2.1 67 j ≤ 30000 := fun j => hT.2 67 j
  have A68 : ∀ j, 0 ≤ σ.2.1 68 j ∧ σ.2.1 68 j ≤ 30000 := fun j => hT.2 68 j
  have A69 : ∀ j, (-100) ≤ σ.2.1 69 j ∧ σ.2.1 69 j ≤ 999 := fun j => hT.2 69 j
  have A70 : ∀ j, 0 ≤ σ.2.1 70 j ∧ σ.2.1 70 j ≤ 1499 := fun j => hT.2 70 j
  have A71 : ∀ j, 0 ≤ σ.2.1 71 j ∧ σ.2.1 71 j ≤ 1500 := fun j => hT.2 71 j
  have A72 : ∀ j, 0 ≤ σ.2.1 72 j ∧ σ.2.1 72 j ≤ 1500 := fun j => hT.2 72 j
  have A73 : ∀ j, 0 ≤ σ.2.1 73 j ∧ σ.2.1 73 j ≤ 30000 := fun j => hT.2 73 j
  have A74 : ∀ j, 0 ≤ σ.2.1 74 j ∧ σ.2.1 74 j ≤ 30000 := fun j => hT.2 74 j
  have A75 : ∀ j, 0 ≤ σ.2.1 75 j ∧ σ.2.1 75 j ≤ 1499 := fun j => hT.2 75 j
  have A76 : ∀ j, 0 ≤ σ.2.1 76 j ∧ σ.2.1 76 j ≤ 99 := fun j => hT.2 76 j
  have v3 : 0 ≤ σ.1 3 ∧ σ.1 3 ≤ 2500 := hT.1 3
  have v4 : 0 ≤ σ.1 4 ∧ σ.1 4 ≤ 100 := hT.1 4
  have v5 : 0 ≤ σ.1 5 ∧ σ.1 5 ≤ 1000 := hT.1 5
  have v6 : 0 ≤ σ.1 6 ∧ σ.1 6 ≤ 30000 := hT.1 6
  have v7 : 0 ≤ σ.1 7 ∧ σ.1 7 ≤ 1500 := hT.1 7
  have v13 : 0 ≤ σ.1 13 ∧ σ.1 13 ≤ 90000 := hT.1 13
  have v14 : 0 ≤ σ.1 14 ∧ σ.1 14 ≤ 20000 := hT.1 14
  have v15 : 0 ≤ σ.1 15 ∧ σ.1 15 ≤ 20000 := hT.1 15
  have v45 : 1 ≤ σ.1 45 ∧ σ.1 45 ≤ 30001 := hT.1 45
  have v46 : 0 ≤ σ.1 46 ∧ σ.1 46 ≤ 1500 := hT.1 46
  have v47 : 0 ≤ σ.1 47 ∧ σ.1 47 ≤ 1500 := hT.1 47
  have v48 : (-1) ≤ σ.1 48 ∧ σ.1 48 ≤ 999 := hT.1 48
  have v49 : (-1) ≤ σ.1 49 ∧ σ.1 49 ≤ 999 := hT.1 49
  have v57 : 0 ≤ σ.1 57 ∧ σ.1 57 ≤ 1500 := hT.1 57
  have a14_47 : 0 ≤ σ.2.1 14 (σ.1 47) ∧ σ.2.1 14 (σ.1 47) ≤ 30000 := hT.2 14 _
  have W3 : σ.1 3 = σ.1 3 := rfl
  have W4 : σ.1 4 = σ.1 4 := rfl
  have W5 : σ.1 5 = σ.1 5 := rfl
  have W6 : σ.1 6 = σ.1 6 := rfl
  have W7 : σ.1 7 = σ.1 7 := rfl
  have W13 : σ.1 13 = σ.1 13 := rfl
  have W14 : σ.1 14 = σ.1 14 := rfl
  have W15 : σ.1 15 = σ.1 15 := rfl
  have G2 : σ.2.1 2 = σ.2.1 2 := rfl
  have G3 : σ.2.1 3 = σ.2.1 3 := rfl
  have G4 : σ.2.1 4 = σ.2.1 4 := rfl
  have G5 : σ.2.1 5 = σ.2.1 5 := rfl
  have G6 : σ.2.1 6 = σ.2.1 6 := rfl
  have G8 : σ.2.1 8 = σ.2.1 8 := rfl
  have G10 : σ.2.1 10 = σ.2.1 10 := rfl
  have G11 : σ.2.1 11 = σ.2.1 11 := rfl
  have G13 : σ.2.1 13 = σ.2.1 13 := rfl
  have G14 : σ.2.1 14 = σ.2.1 14 := rfl
  have G15 : σ.2.1 15 = σ.2.1 15 := rfl
  have G16 : σ.2.1 16 = σ.2.1 16 := rfl
  have G27 : σ.2.1 27 = σ.2.1 27 := rfl
  have G28 : σ.2.1 28 = σ.2.1 28 := rfl
  have G29 : σ.2.1 29 = σ.2.1 29 := rfl
  have G30 : σ.2.1 30 = σ.2.1 30 := rfl
  have G31 : σ.2.1 31 = σ.2.1 31 := rfl
  have G32 : σ.2.1 32 = σ.2.1 32 := rfl
  have G33 : σ.2.1 33 = σ.2.1 33 := rfl
  have G34 : σ.2.1 34 = σ.2.1 34 := rfl
  have G35 : σ.2.1 35 = σ.2.1 35 := rfl
  have G36 : σ.2.1 36 = σ.2.1 36 := rfl
  have G37 : σ.2.1 37 = σ.2.1 37 := rfl
  have lr := p6.1
  have HT : J_ht (σ.1 3) (σ.2.1 2) (σ.2.1 3) (σ.2.1 5) (σ.2.1 6) := p2
  have MN : J_mn (σ.1 3) (σ.1 5) ((σ.1 7) + 1) (σ.2.1 4) := p3
  have TX : J_vs (σ.1 6) (σ.1 5) (σ.2.1 15) := p5
  have RKS : J_rks (σ.1 5) (σ.1 4) (σ.2.1 10) (σ.2.1 11) := p4
  have CJ : J_all (σ.1 7) (σ.1 6) (σ.1 13) (σ.1 14) (σ.1 15) (σ.2.1 13) (σ.2.1 14) (σ.2.1 15) (σ.2.1 16) (σ.2.1 10) (σ.2.1 27) (σ.2.1 28) (σ.2.1 29) (σ.2.1 30) (σ.2.1 31) (σ.2.1 32) (σ.2.1 33) (σ.2.1 34) (σ.2.1 35) (σ.2.1 36) (σ.2.1 37) := p1
  have CJ_0 := CJ
  have HT_0 := HT
  have MN_0 := MN
  have RKS_0 := RKS
  have TX_0 := TX
  unfold W_X12_definition
  refine ⟨_, K_X3_isStatement hT, ?_⟩
  intro x2 r_x2 hq
  obtain ⟨q1_1, q1_2⟩ := hq
  replace q1_1 : 0 ≤ x2 ∧ x2 ≤ 1 := q1_1
  replace q1_2 : ¬ x2 = 0 → 0 ≤ n1 ∧ n1 < (σ.1 7) := q1_2
  refine ⟨fun c4 => ?_, fun c4 => ?_⟩
  ·
    exact ⟨hT, (show ∃ In1 : Int → Prop, c_GM In1 σ ∧ c_DS In1 σ from by (first | exact ⟨In, gm18, q16_3⟩ | exact ⟨In0, p6, p7⟩ | fail)), (show c_DB lb σ from by (first | omega | (simp only [st_s] <;> omega) | assumption | omega | fail))⟩
  ·
    refine ⟨(show 0 ≤ n1 ∧ n1 < 1500 from by (first | omega | (simp only [st_s] <;> omega) | assumption | omega | fail)), ?_⟩
    intro x6 r_x6 e_x6
    have b_x6 : 0 ≤ x6 ∧ x6 ≤ 4 := by rw [e_x6]; exact hT.2 13 _
    refine ⟨fun c7 => ?_, fun c7 => ?_⟩
    ·
      refine ⟨_, K_X3_lengthOf hT (show 0 ≤ n1 from by (first | omega | (simp only [st_s] <;> omega) | assumption | omega | fail)) (show n1 < 1500 from by (first | omega | (simp only [st_s] <;> omega) | assumption | omega | fail)), ?_⟩
      intro x9 r_x9 hq
      have q8_1 := hq
      replace q8_1 : x9 = σ.2.1 14 (n1 + 1) - σ.2.1 14 n1 := q8_1
      refine ⟨fun c11 => ?_, fun c11 => ?_⟩
      ·
        refine ⟨_, K_X8_learn hT (show J_all (σ.1 7) (σ.1 6) (σ.1 13) (σ.1 14) (σ.1 15) (σ.2.1 13) (σ.2.1 14) (σ.2.1 15) (σ.2.1 16) (σ.2.1 10) (σ.2.1 27) (σ.2.1 28) (σ.2.1 29) (σ.2.1 30) (σ.2.1 31) (σ.2.1 32) (σ.2.1 33) (σ.2.1 34) (σ.2.1 35) (σ.2.1 36) (σ.2.1 37) from CJ) (show J_ht (σ.1 3) (σ.2.1 2) (σ.2.1 3) (σ.2.1 5) (σ.2.1 6) from HT) (show J_mn (σ.1 3) (σ.1 5) ((σ.1 7) + 1) (σ.2.1 4) from MN) (show J_rks (σ.1 5) (σ.1 4) (σ.2.1 10) (σ.2.1 11) from RKS) (show J_vs (σ.1 6) (σ.1 5) (σ.2.1 15) from TX) (show (σ.1 47) ≤ (σ.1 7) from by exact lr.1) (show (σ.1 45) ≤ σ.2.1 14 (σ.1 47) + 1 from by exact lr.2.1) (show (σ.1 46) ≤ (σ.1 47) from by exact lr.2.2.1) (show c_Uk (σ.1 47) In0 σ from by exact lr.2.2.2), ?_⟩
        intro τ14 hn_τ14 hf_τ14 hq
        obtain ⟨hT, q12_1, q12_2, q12_3, q12_4, q12_5, q12_6, q12_7, q12_8, q12_9, q12_10, q12_11⟩ := hq
        replace q12_1 : (τ14.1 47) = (σ.1 7) := q12_1
        replace q12_2 : (τ14.1 47) ≤ (τ14.1 7) := q12_2
        replace q12_3 : (τ14.1 45) ≤ τ14.2.1 14 (τ14.1 47) + 1 := q12_3
        replace q12_4 : (τ14.1 46) ≤ (τ14.1 47) := q12_4
        replace q12_5 : c_Uk (τ14.1 47) In0 τ14 := q12_5
        replace q12_6 : (τ14.1 48) = -1 ∨ g_pe τ14 (τ14.1 48) := q12_6
        replace q12_7 : (τ14.1 48) < (σ.1 5) := q12_7
        replace q12_8 : (τ14.1 49) < (σ.1 5) := q12_8
        replace q12_9 : g_wf τ14 (τ14.1 49) := q12_9
        replace q12_10 : (τ14.1 49) = -1 ∨ g_we τ14 (τ14.1 49) := q12_10
        replace q12_11 : g_pvf τ14 (τ14.1 48) := q12_11
        have w3_τ14 : τ14.1 3 = σ.1 3 := hf_τ14.1 3 (by decide)
        have w4_τ14 : τ14.1 4 = σ.1 4 := hf_τ14.1 4 (by decide)
        have w5_τ14 : τ14.1 5 = σ.1 5 := hf_τ14.1 5 (by decide)
        have w6_τ14 : τ14.1 6 = σ.1 6 := hf_τ14.1 6 (by decide)
        have w7_τ14 : τ14.1 7 = σ.1 7 := hf_τ14.1 7 (by decide)
        have w13_τ14 : τ14.1 13 = σ.1 13 := hf_τ14.1 13 (by decide)
        have w14_τ14 : τ14.1 14 = σ.1 14 := hf_τ14.1 14 (by decide)
        have w15_τ14 : τ14.1 15 = σ.1 15 := hf_τ14.1 15 (by decide)
        have w57_τ14 : τ14.1 57 = σ.1 57 := hf_τ14.1 57 (by decide)
        have g2_τ14 : τ14.2.1 2 = σ.2.1 2 := hf_τ14.2.1 2 (by decide)
        have g3_τ14 : τ14.2.1 3 = σ.2.1 3 := hf_τ14.2.1 3 (by decide)
        have g4_τ14 : τ14.2.1 4 = σ.2.1 4 := hf_τ14.2.1 4 (by decide)
        have g5_τ14 : τ14.2.1 5 = σ.2.1 5 := hf_τ14.2.1 5 (by decide)
        have g6_τ14 : τ14.2.1 6 = σ.2.1 6 := hf_τ14.2.1 6 (by decide)
        have g8_τ14 : τ14.2.1 8 = σ.2.1 8 := hf_τ14.2.1 8 (by decide)
        have g10_τ14 : τ14.2.1 10 = σ.2.1 10 := hf_τ14.2.1 10 (by decide)
        have g11_τ14 : τ14.2.1 11 = σ.2.1 11 := hf_τ14.2.1 11 (by decide)
        have g13_τ14 : τ14.2.1 13 = σ.2.1 13 := hf_τ14.2.1 13 (by decide)
        have g14_τ14 : τ14.2.1 14 = σ.2.1 14 := hf_τ14.2.1 14 (by decide)
        have g15_τ14 : τ14.2.1 15 = σ.2.1 15 := hf_τ14.2.1 15 (by decide)
        have g16_τ14 : τ14.2.1 16 = σ.2.1 16 := hf_τ14.2.1 16 (by decide)
        have g27_τ14 : τ14.2.1 27 = σ.2.1 27 := hf_τ14.2.1 27 (by decide)
        have g28_τ14 : τ14.2.1 28 = σ.2.1 28 := hf_τ14.2.1 28 (by decide)
        have g29_τ14 : τ14.2.1 29 = σ.2.1 29 := hf_τ14.2.1 29 (by decide)
        have g30_τ14 : τ14.2.1 30 = σ.2.1 30 := hf_τ14.2.1 30 (by decide)
        have g31_τ14 : τ14.2.1 31 = σ.2.1 31 := hf_τ14.2.1 31 (by decide)
        have g32_τ14 : τ14.2.1 32 = σ.2.1 32 := hf_τ14.2.1 32 (by decide)
        have g33_τ14 : τ14.2.1 33 = σ.2.1 33 := hf_τ14.2.1 33 (by decide)
        have g34_τ14 : τ14.2.1 34 = σ.2.1 34 := hf_τ14.2.1 34 (by decide)
        have g35_τ14 : τ14.2.1 35 = σ.2.1 35 := hf_τ14.2.1 35 (by decide)
        have g36_τ14 : τ14.2.1 36 = σ.2.1 36 := hf_τ14.2.1 36 (by decide)
        have g37_τ14 : τ14.2.1 37 = σ.2.1 37 := hf_τ14.2.1 37 (by decide)
        have W3 : τ14.1 3 = σ.1 3 := by first | exact w3_τ14.trans W3 | omega
        have W4 : τ14.1 4 = σ.1 4 := by first | exact w4_τ14.trans W4 | omega
        have W5 : τ14.1 5 = σ.1 5 := by first | exact w5_τ14.trans W5 | omega
        have W6 : τ14.1 6 = σ.1 6 := by first | exact w6_τ14.trans W6 | omega
        have W7 : τ14.1 7 = σ.1 7 := by first | exact w7_τ14.trans W7 | omega
        have W13 : τ14.1 13 = σ.1 13 := by first | exact w13_τ14.trans W13 | omega
        have W14 : τ14.1 14 = σ.1 14 := by first | exact w14_τ14.trans W14 | omega
        have W15 : τ14.1 15 = σ.1 15 := by first | exact w15_τ14.trans W15 | omega
        have G2 : τ14.2.1 2 = σ.2.1 2 := (g2_τ14).trans G2
        have G3 : τ14.2.1 3 = σ.2.1 3 := (g3_τ14).trans G3
        have G4 : τ14.2.1 4 = σ.2.1 4 := (g4_τ14).trans G4
        have G5 : τ14.2.1 5 = σ.2.1 5 := (g5_τ14).trans G5
        have G6 : τ14.2.1 6 = σ.2.1 6 := (g6_τ14).trans G6
        have G8 : τ14.2.1 8 = σ.2.1 8 := (g8_τ14).trans G8
        have G10 : τ14.2.1 10 = σ.2.1 10 := (g10_τ14).trans G10
        have G11 : τ14.2.1 11 = σ.2.1 11 := (g11_τ14).trans G11
        have G13 : τ14.2.1 13 = σ.2.1 13 := (g13_τ14).trans G13
        have G14 : τ14.2.1 14 = σ.2.1 14 := (g14_τ14).trans G14
        have G15 : τ14.2.1 15 = σ.2.1 15 := (g15_τ14).trans G15
        have G16 : τ14.2.1 16 = σ.2.1 16 := (g16_τ14).trans G16
        have G27 : τ14.2.1 27 = σ.2.1 27 := (g27_τ14).trans G27
        have G28 : τ14.2.1 28 = σ.2.1 28 := (g28_τ14).trans G28
        have G29 : τ14.2.1 29 = σ.2.1 29 := (g29_τ14).trans G29
        have G30 : τ14.2.1 30 = σ.2.1 30 := (g30_τ14).trans G30
        have G31 : τ14.2.1 31 = σ.2.1 31 := (g31_τ14).trans G31
        have G32 : τ14.2.1 32 = σ.2.1 32 := (g32_τ14).trans G32
        have G33 : τ14.2.1 33 = σ.2.1 33 := (g33_τ14).trans G33
        have G34 : τ14.2.1 34 = σ.2.1 34 := (g34_τ14).trans G34
        have G35 : τ14.2.1 35 = σ.2.1 35 := (g35_τ14).trans G35
        have G36 : τ14.2.1 36 = σ.2.1 36 := (g36_τ14).trans G36
        have G37 : τ14.2.1 37 = σ.2.1 37 := (g37_τ14).trans G37
        have HT : J_ht (τ14.1 3) (τ14.2.1 2) (τ14.2.1 3) (τ14.2.1 5) (τ14.2.1 6) := by rw [show (J_ht (τ14.1 3) (τ14.2.1 2) (τ14.2.1 3) (τ14.2.1 5) (τ14.2.1 6)) = (J_ht (σ.1 3) (σ.2.1 2) (σ.2.1 3) (σ.2.1 5) (σ.2.1 6)) from by rw [w3_τ14, g2_τ14, g3_τ14, g5_τ14, g6_τ14]]; exact HT
        have MN : J_mn (τ14.1 3) (τ14.1 5) ((τ14.1 7) + 1) (τ14.2.1 4) := by rw [show (J_mn (τ14.1 3) (τ14.1 5) ((τ14.1 7) + 1) (τ14.2.1 4)) = (J_mn (σ.1 3) (σ.1 5) ((σ.1 7) + 1) (σ.2.1 4)) from by rw [w3_τ14, w5_τ14, w7_τ14, g4_τ14]]; exact MN
        have TX : J_vs (τ14.1 6) (τ14.1 5) (τ14.2.1 15) := by rw [show (J_vs (τ14.1 6) (τ14.1 5) (τ14.2.1 15)) = (J_vs (σ.1 6) (σ.1 5) (σ.2.1 15)) from by rw [w5_τ14, w6_τ14, g15_τ14]]; exact TX
        have RKS : J_rks (τ14.1 5) (τ14.1 4) (τ14.2.1 10) (τ14.2.1 11) := by rw [show (J_rks (τ14.1 5) (τ14.1 4) (τ14.2.1 10) (τ14.2.1 11)) = (J_rks (σ.1 5) (σ.1 4) (σ.2.1 10) (σ.2.1 11)) from by rw [w4_τ14, w5_τ14, g10_τ14, g11_τ14]]; exact RKS
        have CJ : J_all (τ14.1 7) (τ14.1 6) (τ14.1 13) (τ14.1 14) (τ14.1 15) (τ14.2.1 13) (τ14.2.1 14) (τ14.2.1 15) (τ14.2.1 16) (τ14.2.1 10) (τ14.2.1 27) (τ14.2.1 28) (τ14.2.1 29) (τ14.2.1 30) (τ14.2.1 31) (τ14.2.1 32) (τ14.2.1 33) (τ14.2.1 34) (τ14.2.1 35) (τ14.2.1 36) (τ14.2.1 37) := by rw [show (J_all (τ14.1 7) (τ14.1 6) (τ14.1 13) (τ14.1 14) (τ14.1 15) (τ14.2.1 13) (τ14.2.1 14) (τ14.2.1 15) (τ14.2.1 16) (τ14.2.1 10) (τ14.2.1 27) (τ14.2.1 28) (τ14.2.1 29) (τ14.2.1 30) (τ14.2.1 31) (τ14.2.1 32) (τ14.2.1 33) (τ14.2.1 34) (τ14.2.1 35) (τ14.2.1 36) (τ14.2.1 37)) = (J_all (σ.1 7) (σ.1 6) (σ.1 13) (σ.1 14) (σ.1 15) (σ.2.1 13) (σ.2.1 14) (σ.2.1 15) (σ.2.1 16) (σ.2.1 10) (σ.2.1 27) (σ.2.1 28) (σ.2.1 29) (σ.2.1 30) (σ.2.1 31) (σ.2.1 32) (σ.2.1 33) (σ.2.1 34) (σ.2.1 35) (σ.2.1 36) (σ.2.1 37)) from by rw [w6_τ14, w7_τ14, w13_τ14, w14_τ14, w15_τ14, g10_τ14, g13_τ14, g14_τ14, g15_τ14, g16_τ14, g27_τ14, g28_τ14, g29_τ14, g30_τ14, g31_τ14, g32_τ14, g33_τ14, g34_τ14, g35_τ14, g36_τ14, g37_τ14]]; exact CJ
        have A2 : ∀ j, 0 ≤ τ14.2.1 2 j ∧ τ14.2.1 2 j ≤ 65535 := fun j => hT.2 2 j
        have A3 : ∀ j, 0 ≤ τ14.2.1 3 j ∧ τ14.2.1 3 j ≤ 30000 := fun j => hT.2 3 j
        have A4 : ∀ j, (-1000) ≤ τ14.2.1 4 j ∧ τ14.2.1 4 j ≤ 1499 := fun j => hT.2 4 j
        have A5 : ∀ j, 0 ≤ τ14.2.1 5 j ∧ τ14.2.1 5 j ≤ 2500 := fun j => hT.2 5 j
        have A6 : ∀ j, 0 ≤ τ14.2.1 6 j ∧ τ14.2.1 6 j ≤ 2500 := fun j => hT.2 6 j
        have A8 : ∀ j, 0 ≤ τ14.2.1 8 j ∧ τ14.2.1 8 j ≤ 1 := fun j => hT.2 8 j
        have A10 : ∀ j, (-1) ≤ τ14.2.1 10 j ∧ τ14.2.1 10 j ≤ 99 := fun j => hT.2 10 j
        have A11 : ∀ j, 0 ≤ τ14.2.1 11 j ∧ τ14.2.1 11 j ≤ 999 := fun j => hT.2 11 j
        have A13 : ∀ j, 0 ≤ τ14.2.1 13 j ∧ τ14.2.1 13 j ≤ 4 := fun j => hT.2 13 j
        have A14 : ∀ j, 0 ≤ τ14.2.1 14 j ∧ τ14.2.1 14 j ≤ 30000 := fun j => hT.2 14 j
        have A15 : ∀ j, 0 ≤ τ14.2.1 15 j ∧ τ14.2.1 15 j ≤ 999 := fun j => hT.2 15 j
        have A16 : ∀ j, (-1) ≤ τ14.2.1 16 j ∧ τ14.2.1 16 j ≤ 1499 := fun j => hT.2 16 j
        have A27 : ∀ j, 0 ≤ τ14.2.1 27 j ∧ τ14.2.1 27 j ≤ 90000 := fun j => hT.2 27 j
        have A28 : ∀ j, 0 ≤ τ14.2.1 28 j ∧ τ14.2.1 28 j ≤ 60 := fun j => hT.2 28 j
        have A29 : ∀ j, 0 ≤ τ14.2.1 29 j ∧ τ14.2.1 29 j ≤ 1499 := fun j => hT.2 29 j
        have A30 : ∀ j, 0 ≤ τ14.2.1 30 j ∧ τ14.2.1 30 j ≤ 20000 := fun j => hT.2 30 j
        have A31 : ∀ j, 0 ≤ τ14.2.1 31 j ∧ τ14.2.1 31 j ≤ 20000 := fun j => hT.2 31 j
        have A32 : ∀ j, 0 ≤ τ14.2.1 32 j ∧ τ14.2.1 32 j ≤ 999999 := fun j => hT.2 32 j
        have A33 : ∀ j, 0 ≤ τ14.2.1 33 j ∧ τ14.2.1 33 j ≤ 20000 := fun j => hT.2 33 j
        have A34 : ∀ j, 0 ≤ τ14.2.1 34 j ∧ τ14.2.1 34 j ≤ 20000 := fun j => hT.2 34 j
        have A35 : ∀ j, 0 ≤ τ14.2.1 35 j ∧ τ14.2.1 35 j ≤ 1499 := fun j => hT.2 35 j
        have A36 : ∀ j, 0 ≤ τ14.2.1 36 j ∧ τ14.2.1 36 j ≤ 20000 := fun j => hT.2 36 j
        have A37 : ∀ j, 0 ≤ τ14.2.1 37 j ∧ τ14.2.1 37 j ≤ 19999 := fun j => hT.2 37 j
        have A67 : ∀ j, 0 ≤ τ14.2.1 67 j ∧ τ14.2.1 67 j ≤ 30000 := fun j => hT.2 67 j
        have A68 : ∀ j, 0 ≤ τ14.2.1 68 j ∧ τ14.2.1 68 j ≤ 30000 := fun j => hT.2 68 j
        have A69 : ∀ j, (-100) ≤ τ14.2.1 69 j ∧ τ14.2.1 69 j ≤ 999 := fun j => hT.2 69 j
        have A70 : ∀ j, 0 ≤ τ14.2.1 70 j ∧ τ14.2.1 70 j ≤ 1499 := fun j => hT.2 70 j
        have A71 : ∀ j, 0 ≤ τ14.2.1 71 j ∧ τ14.2.1 71 j ≤ 1500 := fun j => hT.2 71 j
        have A72 : ∀ j, 0 ≤ τ14.2.1 72 j ∧ τ14.2.1 72 j ≤ 1500 := fun j => hT.2 72 j
        have A73 : ∀ j, 0 ≤ τ14.2.1 73 j ∧ τ14.2.1 73 j ≤ 30000 := fun j => hT.2 73 j
        have A74 : ∀ j, 0 ≤ τ14.2.1 74 j ∧ τ14.2.1 74 j ≤ 30000 := fun j => hT.2 74 j
        have A75 : ∀ j, 0 ≤ τ14.2.1 75 j ∧ τ14.2.1 75 j ≤ 1499 := fun j => hT.2 75 j
        have A76 : ∀ j, 0 ≤ τ14.2.1 76 j ∧ τ14.2.1 76 j ≤ 99 := fun j => hT.2 76 j
        have v3 : 0 ≤ τ14.1 3 ∧ τ14.1 3 ≤ 2500 := hT.1 3
        have v4 : 0 ≤ τ14.1 4 ∧ τ14.1 4 ≤ 100 := hT.1 4
        have v5 : 0 ≤ τ14.1 5 ∧ τ14.1 5 ≤ 1000 := hT.1 5
        have v6 : 0 ≤ τ14.1 6 ∧ τ14.1 6 ≤ 30000 := hT.1 6
        have v7 : 0 ≤ τ14.1 7 ∧ τ14.1 7 ≤ 1500 := hT.1 7
        have v13 : 0 ≤ τ14.1 13 ∧ τ14.1 13 ≤ 90000 := hT.1 13
        have v14 : 0 ≤ τ14.1 14 ∧ τ14.1 14 ≤ 20000 := hT.1 14
        have v15 : 0 ≤ τ14.1 15 ∧ τ14.1 15 ≤ 20000 := hT.1 15
        have v45 : 1 ≤ τ14.1 45 ∧ τ14.1 45 ≤ 30001 := hT.1 45
        have v46 : 0 ≤ τ14.1 46 ∧ τ14.1 46 ≤ 1500 := hT.1 46
        have v47 : 0 ≤ τ14.1 47 ∧ τ14.1 47 ≤ 1500 := hT.1 47
        have v48 : (-1) ≤ τ14.1 48 ∧ τ14.1 48 ≤ 999 := hT.1 48
        have v49 : (-1) ≤ τ14.1 49 ∧ τ14.1 49 ≤ 999 := hT.1 49
        have v57 : 0 ≤ τ14.1 57 ∧ τ14.1 57 ≤ 1500 := hT.1 57
        have a14_47 : 0 ≤ τ14.2.1 14 (τ14.1 47) ∧ τ14.2.1 14 (τ14.1 47) ≤ 30000 := hT.2 14 _
        refine ⟨(⟨by (first | omega | (simp only [st_s] <;> omega) | assumption | omega | fail), by (first | omega | (simp only [st_s] <;> omega) | assumption | omega | fail)⟩ : rg (n1 + 1)), ?_⟩
        have q12x := q12_5
        obtain ⟨par, nof, In, hU, hI⟩ := q12x
        have rs14 : c_Rs τ14 par nof In := ⟨hU, q12_6, by omega⟩
        have wz14 := c_WZ_h p6.2 hf_τ14 rfl rfl rfl
        have ds14 := c_DS_m hI (c_DS_h p7 hf_τ14 rfl rfl)
        have db14 := c_DB_h p8 hf_τ14 rfl rfl
        refine ⟨_, K_X2_study hT (show 0 ≤ (n1 + 1) from by (first | omega | (simp only [st_s] <;> omega) | assumption | omega | fail)) (show (n1 + 1) ≤ (τ14.1 7) from by (first | omega | (simp only [st_s] <;> omega) | assumption | omega | fail)) (show J_all (τ14.1 7) (τ14.1 6) (τ14.1 13) (τ14.1 14) (τ14.1 15) (τ14.2.1 13) (τ14.2.1 14) (τ14.2.1 15) (τ14.2.1 16) (τ14.2.1 10) (τ14.2.1 27) (τ14.2.1 28) (τ14.2.1 29) (τ14.2.1 30) (τ14.2.1 31) (τ14.2.1 32) (τ14.2.1 33) (τ14.2.1 34) (τ14.2.1 35) (τ14.2.1 36) (τ14.2.1 37) from CJ) (show J_rks (τ14.1 5) (τ14.1 4) (τ14.2.1 10) (τ14.2.1 11) from RKS) (show J_vs (τ14.1 6) (τ14.1 5) (τ14.2.1 15) from TX) (show c_Rs τ14 par nof In from by exact rs14) (show c_WZ τ14 from by (first | omega | (simp only [st_s] <;> omega) | assumption | omega | fail)) (show (τ14.1 49) < (τ14.1 5) from by (first | omega | (simp only [st_s] <;> omega) | assumption | omega | fail)) (show c_DS In τ14 from by (first | omega | (simp only [st_s] <;> omega) | assumption | omega | fail)) (show (τ14.1 49) = -1 ∨ g_we τ14 (τ14.1 49) from by exact q12_10), ?_⟩
        intro τ18 hn_τ18 hf_τ18 hq
        obtain ⟨hT, q16_1, q16_2, q16_3, q16_4⟩ := hq
        replace q16_1 : c_Rs τ18 par nof In := q16_1
        replace q16_2 : c_WZ τ18 := q16_2
        replace q16_3 : c_DS In τ18 := q16_3
        replace q16_4 : (n1 + 1) ≤ (τ18.1 57) ∧ (τ14.1 57) ≤ (τ18.1 57) := q16_4
        have w3_τ18 : τ18.1 3 = τ14.1 3 := hf_τ18.1 3 (by decide)
        have w4_τ18 : τ18.1 4 = τ14.1 4 := hf_τ18.1 4 (by decide)
        have w5_τ18 : τ18.1 5 = τ14.1 5 := hf_τ18.1 5 (by decide)
        have w6_τ18 : τ18.1 6 = τ14.1 6 := hf_τ18.1 6 (by decide)
        have w7_τ18 : τ18.1 7 = τ14.1 7 := hf_τ18.1 7 (by decide)
        have w13_τ18 : τ18.1 13 = τ14.1 13 := hf_τ18.1 13 (by decide)
        have w14_τ18 : τ18.1 14 = τ14.1 14 := hf_τ18.1 14 (by decide)
        have w15_τ18 : τ18.1 15 = τ14.1 15 := hf_τ18.1 15 (by decide)
        have w45_τ18 : τ18.1 45 = τ14.1 45 := hf_τ18.1 45 (by decide)
        have w46_τ18 : τ18.1 46 = τ14.1 46 := hf_τ18.1 46 (by decide)
        have w47_τ18 : τ18.1 47 = τ14.1 47 := hf_τ18.1 47 (by decide)
        have w48_τ18 : τ18.1 48 = τ14.1 48 := hf_τ18.1 48 (by decide)
        have w49_τ18 : τ18.1 49 = τ14.1 49 := hf_τ18.1 49 (by decide)
        have g2_τ18 : τ18.2.1 2 = τ14.2.1 2 := hf_τ18.2.1 2 (by decide)
        have g3_τ18 : τ18.2.1 3 = τ14.2.1 3 := hf_τ18.2.1 3 (by decide)
        have g4_τ18 : τ18.2.1 4 = τ14.2.1 4 := hf_τ18.2.1 4 (by decide)
        have g5_τ18 : τ18.2.1 5 = τ14.2.1 5 := hf_τ18.2.1 5 (by decide)
        have g6_τ18 : τ18.2.1 6 = τ14.2.1 6 := hf_τ18.2.1 6 (by decide)
        have g8_τ18 : τ18.2.1 8 = τ14.2.1 8 := hf_τ18.2.1 8 (by decide)
        have g10_τ18 : τ18.2.1 10 = τ14.2.1 10 := hf_τ18.2.1 10 (by decide)
        have g11_τ18 : τ18.2.1 11 = τ14.2.1 11 := hf_τ18.2.1 11 (by decide)
        have g13_τ18 : τ18.2.1 13 = τ14.2.1 13 := hf_τ18.2.1 13 (by decide)
        have g14_τ18 : τ18.2.1 14 = τ14.2.1 14 := hf_τ18.2.1 14 (by decide)
        have g15_τ18 : τ18.2.1 15 = τ14.2.1 15 := hf_τ18.2.1 15 (by decide)
        have g16_τ18 : τ18.2.1 16 = τ14.2.1 16 := hf_τ18.2.1 16 (by decide)
        have g27_τ18 : τ18.2.1 27 = τ14.2.1 27 := hf_τ18.2.1 27 (by decide)
        have g28_τ18 : τ18.2.1 28 = τ14.2.1 28 := hf_τ18.2.1 28 (by decide)
        have g29_τ18 : τ18.2.1 29 = τ14.2.1 29 := hf_τ18.2.1 29 (by decide)
        have g30_τ18 : τ18.2.1 30 = τ14.2.1 30 := hf_τ18.2.1 30 (by decide)
        have g31_τ18 : τ18.2.1 31 = τ14.2.1 31 := hf_τ18.2.1 31 (by decide)
        have g32_τ18 : τ18.2.1 32 = τ14.2.1 32 := hf_τ18.2.1 32 (by decide)
        have g33_τ18 : τ18.2.1 33 = τ14.2.1 33 := hf_τ18.2.1 33 (by decide)
        have g34_τ18 : τ18.2.1 34 = τ14.2.1 34 := hf_τ18.2.1 34 (by decide)
        have g35_τ18 : τ18.2.1 35 = τ14.2.1 35 := hf_τ18.2.1 35 (by decide)
        have g36_τ18 : τ18.2.1 36 = τ14.2.1 36 := hf_τ18.2.1 36 (by decide)
        have g37_τ18 : τ18.2.1 37 = τ14.2.1 37 := hf_τ18.2.1 37 (by decide)
        have g67_τ18 : τ18.2.1 67 = τ14.2.1 67 := hf_τ18.2.1 67 (by decide)
        have g68_τ18 : τ18.2.1 68 = τ14.2.1 68 := hf_τ18.2.1 68 (by decide)
        have g69_τ18 : τ18.2.1 69 = τ14.2.1 69 := hf_τ18.2.1 69 (by decide)
        have g70_τ18 : τ18.2.1 70 = τ14.2.1 70 := hf_τ18.2.1 70 (by decide)
        have g71_τ18 : τ18.2.1 71 = τ14.2.1 71 := hf_τ18.2.1 71 (by decide)
        have g72_τ18 : τ18.2.1 72 = τ14.2.1 72 := hf_τ18.2.1 72 (by decide)
        have g73_τ18 : τ18.2.1 73 = τ14.2.1 73 := hf_τ18.2.1 73 (by decide)
        have g74_τ18 : τ18.2.1 74 = τ14.2.1 74 := hf_τ18.2.1 74 (by decide)
        have g75_τ18 : τ18.2.1 75 = τ14.2.1 75 := hf_τ18.2.1 75 (by decide)
        have g76_τ18 : τ18.2.1 76 = τ14.2.1 76 := hf_τ18.2.1 76 (by decide)
        have W3 : τ18.1 3 = σ.1 3 := by first | exact w3_τ18.trans W3 | omega
        have W4 : τ18.1 4 = σ.1 4 := by first | exact w4_τ18.trans W4 | omega
        have W5 : τ18.1 5 = σ.1 5 := by first | exact w5_τ18.trans W5 | omega
        have W6 : τ18.1 6 = σ.1 6 := by first | exact w6_τ18.trans W6 | omega
        have W7 : τ18.1 7 = σ.1 7 := by first | exact w7_τ18.trans W7 | omega
        have W13 : τ18.1 13 = σ.1 13 := by first | exact w13_τ18.trans W13 | omega
        have W14 : τ18.1 14 = σ.1 14 := by first | exact w14_τ18.trans W14 | omega
        have W15 : τ18.1 15 = σ.1 15 := by first | exact w15_τ18.trans W15 | omega
        have G2 : τ18.2.1 2 = σ.2.1 2 := (g2_τ18).trans G2
        have G3 : τ18.2.1 3 = σ.2.1 3 := (g3_τ18).trans G3
        have G4 : τ18.2.1 4 = σ.2.1 4 := (g4_τ18).trans G4
        have G5 : τ18.2.1 5 = σ.2.1 5 := (g5_τ18).trans G5
        have G6 : τ18.2.1 6 = σ.2.1 6 := (g6_τ18).trans G6
        have G8 : τ18.2.1 8 = σ.2.1 8 := (g8_τ18).trans G8
        have G10 : τ18.2.1 10 = σ.2.1 10 := (g10_τ18).trans G10
        have G11 : τ18.2.1 11 = σ.2.1 11 := (g11_τ18).trans G11
        have G13 : τ18.2.1 13 = σ.2.1 13 := (g13_τ18).trans G13
        have G14 : τ18.2.1 14 = σ.2.1 14 := (g14_τ18).trans G14
        have G15 : τ18.2.1 15 = σ.2.1 15 := (g15_τ18).trans G15
        have G16 : τ18.2.1 16 = σ.2.1 16 := (g16_τ18).trans G16
        have G27 : τ18.2.1 27 = σ.2.1 27 := (g27_τ18).trans G27
        have G28 : τ18.2.1 28 = σ.2.1 28 := (g28_τ18).trans G28
        have G29 : τ18.2.1 29 = σ.2.1 29 := (g29_τ18).trans G29
        have G30 : τ18.2.1 30 = σ.2.1 30 := (g30_τ18).trans G30
        have G31 : τ18.2.1 31 = σ.2.1 31 := (g31_τ18).trans G31
        have G32 : τ18.2.1 32 = σ.2.1 32 := (g32_τ18).trans G32
        have G33 : τ18.2.1 33 = σ.2.1 33 := (g33_τ18).trans G33
        have G34 : τ18.2.1 34 = σ.2.1 34 := (g34_τ18).trans G34
        have G35 : τ18.2.1 35 = σ.2.1 35 := (g35_τ18).trans G35
        have G36 : τ18.2.1 36 = σ.2.1 36 := (g36_τ18).trans G36
        have G37 : τ18.2.1 37 = σ.2.1 37 := (g37_τ18).trans G37
        have y14_47_τ18 : τ18.2.1 14 (τ18.1 47) = (τ14.2.1 14) (τ14.1 47) := by rw [g14_τ18, w47_τ18]
        have HT : J_ht (τ18.1 3) (τ18.2.1 2) (τ18.2.1 3) (τ18.2.1 5) (τ18.2.1 6) := by rw [show (J_ht (τ18.1 3) (τ18.2.1 2) (τ18.2.1 3) (τ18.2.1 5) (τ18.2.1 6)) = (J_ht (τ14.1 3) (τ14.2.1 2) (τ14.2.1 3) (τ14.2.1 5) (τ14.2.1 6)) from by rw [w3_τ18, g2_τ18, g3_τ18, g5_τ18, g6_τ18]]; exact HT
        have MN : J_mn (τ18.1 3) (τ18.1 5) ((τ18.1 7) + 1) (τ18.2.1 4) := by rw [show (J_mn (τ18.1 3) (τ18.1 5) ((τ18.1 7) + 1) (τ18.2.1 4)) = (J_mn (τ14.1 3) (τ14.1 5) ((τ14.1 7) + 1) (τ14.2.1 4)) from by rw [w3_τ18, w5_τ18, w7_τ18, g4_τ18]]; exact MN
        have TX : J_vs (τ18.1 6) (τ18.1 5) (τ18.2.1 15) := by rw [show (J_vs (τ18.1 6) (τ18.1 5) (τ18.2.1 15)) = (J_vs (τ14.1 6) (τ14.1 5) (τ14.2.1 15)) from by rw [w5_τ18, w6_τ18, g15_τ18]]; exact TX
        have RKS : J_rks (τ18.1 5) (τ18.1 4) (τ18.2.1 10) (τ18.2.1 11) := by rw [show (J_rks (τ18.1 5) (τ18.1 4) (τ18.2.1 10) (τ18.2.1 11)) = (J_rks (τ14.1 5) (τ14.1 4) (τ14.2.1 10) (τ14.2.1 11)) from by rw [w4_τ18, w5_τ18, g10_τ18, g11_τ18]]; exact RKS
        have CJ : J_all (τ18.1 7) (τ18.1 6) (τ18.1 13) (τ18.1 14) (τ18.1 15) (τ18.2.1 13) (τ18.2.1 14) (τ18.2.1 15) (τ18.2.1 16) (τ18.2.1 10) (τ18.2.1 27) (τ18.2.1 28) (τ18.2.1 29) (τ18.2.1 30) (τ18.2.1 31) (τ18.2.1 32) (τ18.2.1 33) (τ18.2.1 34) (τ18.2.1 35) (τ18.2.1 36) (τ18.2.1 37) := by rw [show (J_all (τ18.1 7) (τ18.1 6) (τ18.1 13) (τ18.1 14) (τ18.1 15) (τ18.2.1 13) (τ18.2.1 14) (τ18.2.1 15) (τ18.2.1 16) (τ18.2.1 10) (τ18.2.1 27) (τ18.2.1 28) (τ18.2.1 29) (τ18.2.1 30) (τ18.2.1 31) (τ18.2.1 32) (τ18.2.1 33) (τ18.2.1 34) (τ18.2.1 35) (τ18.2.1 36) (τ18.2.1 37)) = (J_all (τ14.1 7) (τ14.1 6) (τ14.1 13) (τ14.1 14) (τ14.1 15) (τ14.2.1 13) (τ14.2.1 14) (τ14.2.1 15) (τ14.2.1 16) (τ14.2.1 10) (τ14.2.1 27) (τ14.2.1 28) (τ14.2.1 29) (τ14.2.1 30) (τ14.2.1 31) (τ14.2.1 32) (τ14.2.1 33) (τ14.2.1 34) (τ14.2.1 35) (τ14.2.1 36) (τ14.2.1 37)) from by rw [w6_τ18, w7_τ18, w13_τ18, w14_τ18, w15_τ18, g10_τ18, g13_τ18, g14_τ18, g15_τ18, g16_τ18, g27_τ18, g28_τ18, g29_τ18, g30_τ18, g31_τ18, g32_τ18, g33_τ18, g34_τ18, g35_τ18, g36_τ18, g37_τ18]]; exact CJ
        have A2 : ∀ j, 0 ≤ τ18.2.1 2 j ∧ τ18.2.1 2 j ≤ 65535 := fun j => hT.2 2 j
        have A3 : ∀ j, 0 ≤ τ18.2.1 3 j ∧ τ18.2.1 3 j ≤ 30000 := fun j => hT.2 3 j
        have A4 : ∀ j, (-1000) ≤ τ18.2.1 4 j ∧ τ18.2.1 4 j ≤ 1499 := fun j => hT.2 4 j
        have A5 : ∀ j, 0 ≤ τ18.2.1 5 j ∧ τ18.2.1 5 j ≤ 2500 := fun j => hT.2 5 j
        have A6 : ∀ j, 0 ≤ τ18.2.1 6 j ∧ τ18.2.1 6 j ≤ 2500 := fun j => hT.2 6 j
        have A8 : ∀ j, 0 ≤ τ18.2.1 8 j ∧ τ18.2.1 8 j ≤ 1 := fun j => hT.2 8 j
        have A10 : ∀ j, (-1) ≤ τ18.2.1 10 j ∧ τ18.2.1 10 j ≤ 99 := fun j => hT.2 10 j
        have A11 : ∀ j, 0 ≤ τ18.2.1 11 j ∧ τ18.2.1 11 j ≤ 999 := fun j => hT.2 11 j
        have A13 : ∀ j, 0 ≤ τ18.2.1 13 j ∧ τ18.2.1 13 j ≤ 4 := fun j => hT.2 13 j
        have A14 : ∀ j, 0 ≤ τ18.2.1 14 j ∧ τ18.2.1 14 j ≤ 30000 := fun j => hT.2 14 j
        have A15 : ∀ j, 0 ≤ τ18.2.1 15 j ∧ τ18.2.1 15 j ≤ 999 := fun j => hT.2 15 j
        have A16 : ∀ j, (-1) ≤ τ18.2.1 16 j ∧ τ18.2.1 16 j ≤ 1499 := fun j => hT.2 16 j
        have A27 : ∀ j, 0 ≤ τ18.2.1 27 j ∧ τ18.2.1 27 j ≤ 90000 := fun j => hT.2 27 j
        have A28 : ∀ j, 0 ≤ τ18.2.1 28 j ∧ τ18.2.1 28 j ≤ 60 := fun j => hT.2 28 j
        have A29 : ∀ j, 0 ≤ τ18.2.1 29 j ∧ τ18.2.1 29 j ≤ 1499 := fun j => hT.2 29 j
        have A30 : ∀ j, 0 ≤ τ18.2.1 30 j ∧ τ18.2.1 30 j ≤ 20000 := fun j => hT.2 30 j
        have A31 : ∀ j, 0 ≤ τ18.2.1 31 j ∧ τ18.2.1 31 j ≤ 20000 := fun j => hT.2 31 j
        have A32 : ∀ j, 0 ≤ τ18.2.1 32 j ∧ τ18.2.1 32 j ≤ 999999 := fun j => hT.2 32 j
        have A33 : ∀ j, 0 ≤ τ18.2.1 33 j ∧ τ18.2.1 33 j ≤ 20000 := fun j => hT.2 33 j
        have A34 : ∀ j, 0 ≤ τ18.2.1 34 j ∧ τ18.2.1 34 j ≤ 20000 := fun j => hT.2 34 j
        have A35 : ∀ j, 0 ≤ τ18.2.1 35 j ∧ τ18.2.1 35 j ≤ 1499 := fun j => hT.2 35 j
        have A36 : ∀ j, 0 ≤ τ18.2.1 36 j ∧ τ18.2.1 36 j ≤ 20000 := fun j => hT.2 36 j
        have A37 : ∀ j, 0 ≤ τ18.2.1 37 j ∧ τ18.2.1 37 j ≤ 19999 := fun j => hT.2 37 j
        have A67 : ∀ j, 0 ≤ τ18.2.1 67 j ∧ τ18.2.1 67 j ≤ 30000 := fun j => hT.2 67 j
        have A68 : ∀ j, 0 ≤ τ18.2.1 68 j ∧ τ18.2.1 68 j ≤ 30000 := fun j => hT.2 68 j
        have A69 : ∀ j, (-100) ≤ τ18.2.1 69 j ∧ τ18.2.1 69 j ≤ 999 := fun j => hT.2 69 j
        have A70 : ∀ j, 0 ≤ τ18.2.1 70 j ∧ τ18.2.1 70 j ≤ 1499 := fun j => hT.2 70 j
        have A71 : ∀ j, 0 ≤ τ18.2.1 71 j ∧ τ18.2.1 71 j ≤ 1500 := fun j => hT.2 71 j
        have A72 : ∀ j, 0 ≤ τ18.2.1 72 j ∧ τ18.2.1 72 j ≤ 1500 := fun j => hT.2 72 j
        have A73 : ∀ j, 0 ≤ τ18.2.1 73 j ∧ τ18.2.1 73 j ≤ 30000 := fun j => hT.2 73 j
        have A74 : ∀ j, 0 ≤ τ18.2.1 74 j ∧ τ18.2.1 74 j ≤ 30000 := fun j => hT.2 74 j
        have A75 : ∀ j, 0 ≤ τ18.2.1 75 j ∧ τ18.2.1 75 j ≤ 1499 := fun j => hT.2 75 j
        have A76 : ∀ j, 0 ≤ τ18.2.1 76 j ∧ τ18.2.1 76 j ≤ 99 := fun j => hT.2 76 j
        have v3 : 0 ≤ τ18.1 3 ∧ τ18.1 3 ≤ 2500 := hT.1 3
        have v4 : 0 ≤ τ18.1 4 ∧ τ18.1 4 ≤ 100 := hT.1 4
        have v5 : 0 ≤ τ18.1 5 ∧ τ18.1 5 ≤ 1000 := hT.1 5
        have v6 : 0 ≤ τ18.1 6 ∧ τ18.1 6 ≤ 30000 := hT.1 6
        have v7 : 0 ≤ τ18.1 7 ∧ τ18.1 7 ≤ 1500 := hT.1 7
        have v13 : 0 ≤ τ18.1 13 ∧ τ18.1 13 ≤ 90000 := hT.1 13
        have v14 : 0 ≤ τ18.1 14 ∧ τ18.1 14 ≤ 20000 := hT.1 14
        have v15 : 0 ≤ τ18.1 15 ∧ τ18.1 15 ≤ 20000 := hT.1 15
        have v45 : 1 ≤ τ18.1 45 ∧ τ18.1 45 ≤ 30001 := hT.1 45
        have v46 : 0 ≤ τ18.1 46 ∧ τ18.1 46 ≤ 1500 := hT.1 46
        have v47 : 0 ≤ τ18.1 47 ∧ τ18.1 47 ≤ 1500 := hT.1 47
        have v48 : (-1) ≤ τ18.1 48 ∧ τ18.1 48 ≤ 999 := hT.1 48
        have v49 : (-1) ≤ τ18.1 49 ∧ τ18.1 49 ≤ 999 := hT.1 49
        have v57 : 0 ≤ τ18.1 57 ∧ τ18.1 57 ≤ 1500 := hT.1 57
        have a14_47 : 0 ≤ τ18.2.1 14 (τ18.1 47) ∧ τ18.2.1 14 (τ18.1 47) ≤ 30000 := hT.2 14 _
        have gm18 : c_GM In τ18 := ⟨c_LR_h ⟨q12_2, q12_3, q12_4, ⟨par, nof, In, hU, fun _ h => h⟩⟩ hf_τ18 rfl rfl, q16_2⟩
        have db18 := c_DB_w db14 hf_τ18 rfl rfl q16_4.2
        refine ⟨_, K_X2_definedRule hT (show 0 ≤ n1 from by (first | omega | (simp only [st_s] <;> omega) | assumption | omega | fail)) (show n1 < 1500 from by (first | omega | (simp only [st_s] <;> omega) | assumption | omega | fail)) (show ∀ i : Int, 0 ≤ i → i < 1500 → ¬ τ18.2.1 93 i = 0 → 1 ≤ τ18.2.1 94 i from by exact fun i a b c => (q16_3.2.1 i a b c).2.1), ?_⟩
        intro x20 r_x20 hq
        obtain ⟨q19_1, q19_2⟩ := hq
        replace q19_1 : -1 ≤ x20 ∧ x20 ≤ 1499 := q19_1
        replace q19_2 : ¬ x20 = -1 → ¬ τ18.2.1 93 n1 = 0 ∧ x20 + 1 = τ18.2.1 94 n1 := q19_2
        exact ⟨hT, (show ∃ In1 : Int → Prop, c_GM In1 τ18 ∧ c_DS In1 τ18 from by (first | exact ⟨In, gm18, q16_3⟩ | exact ⟨In0, p6, p7⟩ | fail)), (show c_DB lb τ18 from by (first | omega | (simp only [st_s] <;> omega) | assumption | omega | fail))⟩
      ·
        exact ⟨hT, (show ∃ In1 : Int → Prop, c_GM In1 σ ∧ c_DS In1 σ from by (first | exact ⟨In, gm18, q16_3⟩ | exact ⟨In0, p6, p7⟩ | fail)), (show c_DB lb σ from by (first | omega | (simp only [st_s] <;> omega) | assumption | omega | fail))⟩
    ·
      exact ⟨hT, (show ∃ In1 : Int → Prop, c_GM In1 σ ∧ c_DS In1 σ from by (first | exact ⟨In, gm18, q16_3⟩ | exact ⟨In0, p6, p7⟩ | fail)), (show c_DB lb σ from by (first | omega | (simp only [st_s] <;> omega) | assumption | omega | fail))⟩
set_option maxHeartbeats 4000000 in
theorem K_X12_makesItsSymbols {lb : Nat} {n1 : Int} {par nof : Int → Int} {In : Int → Prop} {σ : S0} (hT : c_T σ) (p1 : 0 ≤ n1) (p2 : n1 < (σ.1 7)) (p3 : J_all (σ.1 7) (σ.1 6) (σ.1 13) (σ.1 14) (σ.1 15) (σ.2.1 13) (σ.2.1 14) (σ.2.1 15) (σ.2.1 16) (σ.2.1 10) (σ.2.1 27) (σ.2.1 28) (σ.2.1 29) (σ.2.1 30) (σ.2.1 31) (σ.2.1 32) (σ.2.1 33) (σ.2.1 34) (σ.2.1 35) (σ.2.1 36) (σ.2.1 37)) (p4 : c_Rs σ par nof In) (p5 : J_rks (σ.1 5) (σ.1 4) (σ.2.1 10) (σ.2.1 11)) (p6 : J_vs (σ.1 6) (σ.1 5) (σ.2.1 15)) (p7 : c_GR σ par nof In) (p8 : ∀ v, σ.2.1 100 v = 0) (p9 : c_DB lb σ) : W_X12_makesItsSymbols lb n1 σ (fun (x : Int) (τ : S0) => (c_T τ) ∧ (0 ≤ x ∧ x ≤ 1)) := by
  have A10 : ∀ j, (-1) ≤ σ.2.1 10 j ∧ σ.2.1 10 j ≤ 99 := fun j => hT.2 10 j
  have A11 : ∀ j, 0 ≤ σ.2.1 11 j ∧ σ.2.1 11 j ≤ 999 := fun j => hT.2 11 j
  have A13 : ∀ j, 0 ≤ σ.2.1 13 j ∧ σ.2.1 13 j ≤ 4 := fun j => hT.2 13 j
  have A14 : ∀ j, 0 ≤ σ.2.1 14 j ∧ σ.2.1 14 j ≤ 30000 := fun j => hT.2 14 j
  have A15 : ∀ j, 0 ≤ σ.2.1 15 j ∧ σ.2.1 15 j ≤ 999 := fun j => hT.2 15 j
  have A16 : ∀ j, (-1) ≤ σ.2.1 16 j ∧ σ.2.1 16 j ≤ 1499 := fun j => hT.2 16 j
  have A27 : ∀ j, 0 ≤ σ.2.1 27 j ∧ σ.2.1 27 j ≤ 90000 := fun j => hT.2 27 j
  have A28 : ∀ j, 0 ≤ σ.2.1 28 j ∧ σ.2.1 28 j ≤ 60 := fun j => hT.2 28 j
  have A29 : ∀ j, 0 ≤ σ.2.1 29 j ∧ σ.2.1 29 j ≤ 1499 := fun j => hT.2 29 j
  have A30 : ∀ j, 0 ≤ σ.2.1 30 j ∧ σ.2.1 30 j ≤ 20000 := fun j => hT.2 30 j
  have A31 : ∀ j, 0 ≤ σ.2.1 31 j ∧ σ.2.1 31 j ≤ 20000 := fun j => hT.2 31 j
  have A32 : ∀ j, 0 ≤ σ.2.1 32 j ∧ σ.2.1 32 j ≤ 999999 := fun j => hT.2 32 j
  have A33 : ∀ j, 0 ≤ σ.2.1 33 j ∧ σ.2.1 33 j ≤ 20000 := fun j => hT.2 33 j
  have A34 : ∀ j, 0 ≤ σ.2.1 34 j ∧ σ.2.1 34 j ≤ 20000 := fun j => hT.2 34 j
  have A35 : ∀ j, 0 ≤ σ.2.1 35 j ∧ σ.2.1 35 j ≤ 1499 := fun j => hT.2 35 j
  have A36 : ∀ j, 0 ≤ σ.2.1 36 j ∧ σ.2.1 36 j ≤ 20000 := fun j => hT.2 36 j
  have A37 : ∀ j, 0 ≤ σ.2.1 37 j ∧ σ.2.1 37 j ≤ 19999 := fun j => hT.2 37 j
  have A39 : ∀ j, 0 ≤ σ.2.1 39 j ∧ σ.2.1 39 j ≤ 1060 := fun j => hT.2 39 j
  have A40 : ∀ j, 0 ≤ σ.2.1 40 j ∧ σ.2.1 40 j ≤ 42000 := fun j => hT.2 40 j
  have A41 : ∀ j, (-2) ≤ σ.2.1 41 j ∧ σ.2.1 41 j ≤ 1000 := fun j => hT.2 41 j
  have A84 : ∀ j, 0 ≤ σ.2.1 84 j ∧ σ.2.1 84 j ≤ 1499 := fun j => hT.2 84 j
  have A95 : ∀ j, 0 ≤ σ.2.1 95 j ∧ σ.2.1 95 j ≤ 1500 := fun j => hT.2 95 j
  have A97 : ∀ j, 0 ≤ σ.2.1 97 j ∧ σ.2.1 97 j ≤ 1060 := fun j => hT.2 97 j
  have A98 : ∀ j, 0 ≤ σ.2.1 98 j ∧ σ.2.1 98 j ≤ 1048576 := fun j => hT.2 98 j
  have A99 : ∀ j, (-2) ≤ σ.2.1 99 j ∧ σ.2.1 99 j ≤ 600 := fun j => hT.2 99 j
  have A100 : ∀ j, 0 ≤ σ.2.1 100 j ∧ σ.2.1 100 j ≤ 1060 := fun j => hT.2 100 j
  have v4 : 0 ≤ σ.1 4 ∧ σ.1 4 ≤ 100 := hT.1 4
  have v5 : 0 ≤ σ.1 5 ∧ σ.1 5 ≤ 1000 := hT.1 5
  have v6 : 0 ≤ σ.1 6 ∧ σ.1 6 ≤ 30000 := hT.1 6
  have v7 : 0 ≤ σ.1 7 ∧ σ.1 7 ≤ 1500 := hT.1 7
  have v13 : 0 ≤ σ.1 13 ∧ σ.1 13 ≤ 90000 := hT.1 13
  have v14 : 0 ≤ σ.1 14 ∧ σ.1 14 ≤ 20000 := hT.1 14
  have v15 : 0 ≤ σ.1 15 ∧ σ.1 15 ≤ 20000 := hT.1 15
  have v17 : 0 ≤ σ.1 17 ∧ σ.1 17 ≤ 42000 := hT.1 17
  have v45 : 1 ≤ σ.1 45 ∧ σ.1 45 ≤ 30001 := hT.1 45
  have v48 : (-1) ≤ σ.1 48 ∧ σ.1 48 ≤ 999 := hT.1 48
  have v50 : 0 ≤ σ.1 50 ∧ σ.1 50 ≤ 59 := hT.1 50
  have v51 : 0 ≤ σ.1 51 ∧ σ.1 51 ≤ 1500 := hT.1 51
  have v52 : (-1) ≤ σ.1 52 ∧ σ.1 52 ≤ 99 := hT.1 52
  have v54 : 0 ≤ σ.1 54 ∧ σ.1 54 ≤ 12000 := hT.1 54
  have v60 : 0 ≤ σ.1 60 ∧ σ.1 60 ≤ 1048576 := hT.1 60
  have W4 : σ.1 4 = σ.1 4 := rfl
  have W5 : σ.1 5 = σ.1 5 := rfl
  have W6 : σ.1 6 = σ.1 6 := rfl
  have W7 : σ.1 7 = σ.1 7 := rfl
  have W13 : σ.1 13 = σ.1 13 := rfl
  have W14 : σ.1 14 = σ.1 14 := rfl
  have W15 : σ.1 15 = σ.1 15 := rfl
  have W45 : σ.1 45 = σ.1 45 := rfl
  have W48 : σ.1 48 = σ.1 48 := rfl
  have W50 : σ.1 50 = σ.1 50 := rfl
  have W51 : σ.1 51 = σ.1 51 := rfl
  have W52 : σ.1 52 = σ.1 52 := rfl
  have W60 : σ.1 60 = σ.1 60 := rfl
  have G10 : σ.2.1 10 = σ.2.1 10 := rfl
  have G11 : σ.2.1 11 = σ.2.1 11 := rfl
  have G13 : σ.2.1 13 = σ.2.1 13 := rfl
  have G14 : σ.2.1 14 = σ.2.1 14 := rfl
  have G15 : σ.2.1 15 = σ.2.1 15 := rfl
  have G16 : σ.2.1 16 = σ.2.1 16 := rfl
  have G27 : σ.2.1 27 = σ.2.1 27 := rfl
  have G28 : σ.2.1 28 = σ.2.1 28 := rfl
  have G29 : σ.2.1 29 = σ.2.1 29 := rfl
  have G30 : σ.2.1 30 = σ.2.1 30 := rfl
  have G31 : σ.2.1 31 = σ.2.1 31 := rfl
  have G32 : σ.2.1 32 = σ.2.1 32 := rfl
  have G33 : σ.2.1 33 = σ.2.1 33 := rfl
  have G34 : σ.2.1 34 = σ.2.1 34 := rfl
  have G35 : σ.2.1 35 = σ.2.1 35 := rfl
  have G36 : σ.2.1 36 = σ.2.1 36 := rfl
  have G37 : σ.2.1 37 = σ.2.1 37 := rfl
  have G95 : σ.2.1 95 = σ.2.1 95 := rfl
  have G97 : σ.2.1 97 = σ.2.1 97 := rfl
  have G98 : σ.2.1 98 = σ.2.1 98 := rfl
  have G99 : σ.2.1 99 = σ.2.1 99 := rfl
  have G100 : σ.2.1 100 = σ.2.1 100 := rfl
  intro P52 h52
  have jt := (p3.1 n1 p1 p2).1.1
  have a14 := A14 n1
  have TX : J_vs (σ.1 6) (σ.1 5) (σ.2.1 15) := p6
  have RKS : J_rks (σ.1 5) (σ.1 4) (σ.2.1 10) (σ.2.1 11) := p5
  have CJ : J_all (σ.1 7) (σ.1 6) (σ.1 13) (σ.1 14) (σ.1 15) (σ.2.1 13) (σ.2.1 14) (σ.2.1 15) (σ.2.1 16) (σ.2.1 10) (σ.2.1 27) (σ.2.1 28) (σ.2.1 29) (σ.2.1 30) (σ.2.1 31) (σ.2.1 32) (σ.2.1 33) (σ.2.1 34) (σ.2.1 35) (σ.2.1 36) (σ.2.1 37) := p3
  have SZ : ∀ v, σ.2.1 100 v = 0 := p8
  have CJ_0 := CJ
  have RKS_0 := RKS
  have SZ_0 := SZ
  have TX_0 := TX
  have l_52 : ∀ (m_52 : Nat) (u2_52 : Int) (τ_52 : S0), 1002 - u2_52 < (m_52 : Int) → (c_T τ_52) → (τ_52.1 4 = σ.1 4) → (τ_52.1 5 = σ.1 5) → (τ_52.1 6 = σ.1 6) → (τ_52.1 7 = σ.1 7) → (τ_52.1 13 = σ.1 13) → (τ_52.1 14 = σ.1 14) → (τ_52.1 15 = σ.1 15) → (τ_52.1 45 = σ.1 45) → (τ_52.1 48 = σ.1 48) → (τ_52.1 50 = σ.1 50) → (τ_52.1 51 = σ.1 51) → (τ_52.1 52 = σ.1 52) → (τ_52.1 60 = σ.1 60) → (τ_52.2.1 10 = σ.2.1 10) → (τ_52.2.1 11 = σ.2.1 11) → (τ_52.2.1 13 = σ.2.1 13) → (τ_52.2.1 14 = σ.2.1 14) → (τ_52.2.1 15 = σ.2.1 15) → (τ_52.2.1 16 = σ.2.1 16) → (τ_52.2.1 27 = σ.2.1 27) → (τ_52.2.1 28 = σ.2.1 28) → (τ_52.2.1 29 = σ.2.1 29) → (τ_52.2.1 30 = σ.2.1 30) → (τ_52.2.1 31 = σ.2.1 31) → (τ_52.2.1 32 = σ.2.1 32) → (τ_52.2.1 33 = σ.2.1 33) → (τ_52.2.1 34 = σ.2.1 34) → (τ_52.2.1 35 = σ.2.1 35) → (τ_52.2.1 36 = σ.2.1 36) → (τ_52.2.1 37 = σ.2.1 37) → (τ_52.2.1 95 = σ.2.1 95) → (τ_52.2.1 97 = σ.2.1 97) → (τ_52.2.1 98 = σ.2.1 98) → (τ_52.2.1 99 = σ.2.1 99) → (τ_52.2.1 100 = σ.2.1 100) → (0 ≤ u2_52 ∧ u2_52 ≤ 1001) → (0 ≤ τ_52.2.1 40 0 ∧ τ_52.2.1 40 0 + τ_52.2.1 41 0 ≤ 42000) → (τ_52.2.1 41 0 = σ.2.1 14 (n1 + 1) - σ.2.1 14 n1 - 1) → P52 n1 u2_52 τ_52 := by
    intro m_52
    induction m_52 with
    | zero =>
      intro u2_52 τ_52 hm hT W4 W5 W6 W7 W13 W14 W15 W45 W48 W50 W51 W52 W60 G10 G11 G13 G14 G15 G16 G27 G28 G29 G30 G31 G32 G33 G34 G35 G36 G37 G95 G97 G98 G99 G100 i52_1 i52_2 i52_3
      have A10 : ∀ j, (-1) ≤ τ_52.2.1 10 j ∧ τ_52.2.1 10 j ≤ 99 := fun j => hT.2 10 j
      have A11 : ∀ j, 0 ≤ τ_52.2.1 11 j ∧ τ_52.2.1 11 j ≤ 999 := fun j => hT.2 11 j
      have A13 : ∀ j, 0 ≤ τ_52.2.1 13 j ∧ τ_52.2.1 13 j ≤ 4 := fun j => hT.2 13 j
      have A14 : ∀ j, 0 ≤ τ_52.2.1 14 j ∧ τ_52.2.1 14 j ≤ 30000 := fun j => hT.2 14 j
      have A15 : ∀ j, 0 ≤ τ_52.2.1 15 j ∧ τ_52.2.1 15 j ≤ 999 := fun j => hT.2 15 j
      have A16 : ∀ j, (-1) ≤ τ_52.2.1 16 j ∧ τ_52.2.1 16 j ≤ 1499 := fun j => hT.2 16 j
      have A27 : ∀ j, 0 ≤ τ_52.2.1 27 j ∧ τ_52.2.1 27 j ≤ 90000 := fun j => hT.2 27 j
      have A28 : ∀ j, 0 ≤ τ_52.2.1 28 j ∧ τ_52.2.1 28 j ≤ 60 := fun j => hT.2 28 j
      have A29 : ∀ j, 0 ≤ τ_52.2.1 29 j ∧ τ_52.2.1 29 j ≤ 1499 := fun j => hT.2 29 j
      have A30 : ∀ j, 0 ≤ τ_52.2.1 30 j ∧ τ_52.2.1 30 j ≤ 20000 := fun j => hT.2 30 j
      have A31 : ∀ j, 0 ≤ τ_52.2.1 31 j ∧ τ_52.2.1 31 j ≤ 20000 := fun j => hT.2 31 j
      have A32 : ∀ j, 0 ≤ τ_52.2.1 32 j ∧ τ_52.2.1 32 j ≤ 999999 := fun j => hT.2 32 j
      have A33 : ∀ j, 0 ≤ τ_52.2.1 33 j ∧ τ_52.2.1 33 j ≤ 20000 := fun j => hT.2 33 j
      have A34 : ∀ j, 0 ≤ τ_52.2.1 34 j ∧ τ_52.2.1 34 j ≤ 20000 := fun j => hT.2 34 j
      have A35 : ∀ j, 0 ≤ τ_52.2.1 35 j ∧ τ_52.2.1 35 j ≤ 1499 := fun j => hT.2 35 j
      have A36 : ∀ j, 0 ≤ τ_52.2.1 36 j ∧ τ_52.2.1 36 j ≤ 20000 := fun j => hT.2 36 j
      have A37 : ∀ j, 0 ≤ τ_52.2.1 37 j ∧ τ_52.2.1 37 j ≤ 19999 := fun j => hT.2 37 j
      have A39 : ∀ j, 0 ≤ τ_52.2.1 39 j ∧ τ_52.2.1 39 j ≤ 1060 := fun j => hT.2 39 j
      have A40 : ∀ j, 0 ≤ τ_52.2.1 40 j ∧ τ_52.2.1 40 j ≤ 42000 := fun j => hT.2 40 j
      have A41 : ∀ j, (-2) ≤ τ_52.2.1 41 j ∧ τ_52.2.1 41 j ≤ 1000 := fun j => hT.2 41 j
      have A84 : ∀ j, 0 ≤ τ_52.2.1 84 j ∧ τ_52.2.1 84 j ≤ 1499 := fun j => hT.2 84 j
      have A95 : ∀ j, 0 ≤ τ_52.2.1 95 j ∧ τ_52.2.1 95 j ≤ 1500 := fun j => hT.2 95 j
      have A97 : ∀ j, 0 ≤ τ_52.2.1 97 j ∧ τ_52.2.1 97 j ≤ 1060 := fun j => hT.2 97 j
      have A98 : ∀ j, 0 ≤ τ_52.2.1 98 j ∧ τ_52.2.1 98 j ≤ 1048576 := fun j => hT.2 98 j
      have A99 : ∀ j, (-2) ≤ τ_52.2.1 99 j ∧ τ_52.2.1 99 j ≤ 600 := fun j => hT.2 99 j
      have A100 : ∀ j, 0 ≤ τ_52.2.1 100 j ∧ τ_52.2.1 100 j ≤ 1060 := fun j => hT.2 100 j
      have v4 : 0 ≤ τ_52.1 4 ∧ τ_52.1 4 ≤ 100 := hT.1 4
      have v5 : 0 ≤ τ_52.1 5 ∧ τ_52.1 5 ≤ 1000 := hT.1 5
      have v6 : 0 ≤ τ_52.1 6 ∧ τ_52.1 6 ≤ 30000 := hT.1 6
      have v7 : 0 ≤ τ_52.1 7 ∧ τ_52.1 7 ≤ 1500 := hT.1 7
      have v13 : 0 ≤ τ_52.1 13 ∧ τ_52.1 13 ≤ 90000 := hT.1 13
      have v14 : 0 ≤ τ_52.1 14 ∧ τ_52.1 14 ≤ 20000 := hT.1 14
      have v15 : 0 ≤ τ_52.1 15 ∧ τ_52.1 15 ≤ 20000 := hT.1 15
      have v17 : 0 ≤ τ_52.1 17 ∧ τ_52.1 17 ≤ 42000 := hT.1 17
      have v45 : 1 ≤ τ_52.1 45 ∧ τ_52.1 45 ≤ 30001 := hT.1 45
      have v48 : (-1) ≤ τ_52.1 48 ∧ τ_52.1 48 ≤ 999 := hT.1 48
      have v50 : 0 ≤ τ_52.1 50 ∧ τ_52.1 50 ≤ 59 := hT.1 50
      have v51 : 0 ≤ τ_52.1 51 ∧ τ_52.1 51 ≤ 1500 := hT.1 51
      have v52 : (-1) ≤ τ_52.1 52 ∧ τ_52.1 52 ≤ 99 := hT.1 52
      have v54 : 0 ≤ τ_52.1 54 ∧ τ_52.1 54 ≤ 12000 := hT.1 54
      have v60 : 0 ≤ τ_52.1 60 ∧ τ_52.1 60 ≤ 1048576 := hT.1 60
      exfalso; (first | omega | (simp only [st_s] <;> omega) | assumption | omega | fail)
    | succ m_52 ih_52 =>
      intro u2_52 τ_52 hm_52 hT W4 W5 W6 W7 W13 W14 W15 W45 W48 W50 W51 W52 W60 G10 G11 G13 G14 G15 G16 G27 G28 G29 G30 G31 G32 G33 G34 G35 G36 G37 G95 G97 G98 G99 G100 i52_1 i52_2 i52_3
      have A10 : ∀ j, (-1) ≤ τ_52.2.1 10 j ∧ τ_52.2.1 10 j ≤ 99 := fun j => hT.2 10 j
      have A11 : ∀ j, 0 ≤ τ_52.2.1 11 j ∧ τ_52.2.1 11 j ≤ 999 := fun j => hT.2 11 j
      have A13 : ∀ j, 0 ≤ τ_52.2.1 13 j ∧ τ_52.2.1 13 j ≤ 4 := fun j => hT.2 13 j
      have A14 : ∀ j, 0 ≤ τ_52.2.1 14 j ∧ τ_52.2.1 14 j ≤ 30000 := fun j => hT.2 14 j
      have A15 : ∀ j, 0 ≤ τ_52.2.1 15 j ∧ τ_52.2.1 15 j ≤ 999 := fun j => hT.2 15 j
      have A16 : ∀ j, (-1) ≤ τ_52.2.1 16 j ∧ τ_52.2.1 16 j ≤ 1499 := fun j => hT.2 16 j
      have A27 : ∀ j, 0 ≤ τ_52.2.1 27 j ∧ τ_52.2.1 27 j ≤ 90000 := fun j => hT.2 27 j
      have A28 : ∀ j, 0 ≤ τ_52.2.1 28 j ∧ τ_52.2.1 28 j ≤ 60 := fun j => hT.2 28 j
      have A29 : ∀ j, 0 ≤ τ_52.2.1 29 j ∧ τ_52.2.1 29 j ≤ 1499 := fun j => hT.2 29 j
      have A30 : ∀ j, 0 ≤ τ_52.2.1 30 j ∧ τ_52.2.1 30 j ≤ 20000 := fun j => hT.2 30 j
      have A31 : ∀ j, 0 ≤ τ_52.2.1 31 j ∧ τ_52.2.1 31 j ≤ 20000 := fun j => hT.2 31 j
      have A32 : ∀ j, 0 ≤ τ_52.2.1 32 j ∧ τ_52.2.1 32 j ≤ 999999 := fun j => hT.2 32 j
      have A33 : ∀ j, 0 ≤ τ_52.2.1 33 j ∧ τ_52.2.1 33 j ≤ 20000 := fun j => hT.2 33 j
      have A34 : ∀ j, 0 ≤ τ_52.2.1 34 j ∧ τ_52.2.1 34 j ≤ 20000 := fun j => hT.2 34 j
      have A35 : ∀ j, 0 ≤ τ_52.2.1 35 j ∧ τ_52.2.1 35 j ≤ 1499 := fun j => hT.2 35 j
      have A36 : ∀ j, 0 ≤ τ_52.2.1 36 j ∧ τ_52.2.1 36 j ≤ 20000 := fun j => hT.2 36 j
      have A37 : ∀ j, 0 ≤ τ_52.2.1 37 j ∧ τ_52.2.1 37 j ≤ 19999 := fun j => hT.2 37 j
      have A39 : ∀ j, 0 ≤ τ_52.2.1 39 j ∧ τ_52.2.1 39 j ≤ 1060 := fun j => hT.2 39 j
      have A40 : ∀ j, 0 ≤ τ_52.2.1 40 j ∧ τ_52.2.1 40 j ≤ 42000 := fun j => hT.2 40 j
      have A41 : ∀ j, (-2) ≤ τ_52.2.1 41 j ∧ τ_52.2.1 41 j ≤ 1000 := fun j => hT.2 41 j
      have A84 : ∀ j, 0 ≤ τ_52.2.1 84 j ∧ τ_52.2.1 84 j ≤ 1499 := fun j => hT.2 84 j
      have A95 : ∀ j, 0 ≤ τ_52.2.1 95 j ∧ τ_52.2.1 95 j ≤ 1500 := fun j => hT.2 95 j
      have A97 : ∀ j, 0 ≤ τ_52.2.1 97 j ∧ τ_52.2.1 97 j ≤ 1060 := fun j => hT.2 97 j
      have A98 : ∀ j, 0 ≤ τ_52.2.1 98 j ∧ τ_52.2.1 98 j ≤ 1048576 := fun j => hT.2 98 j
      have A99 : ∀ j, (-2) ≤ τ_52.2.1 99 j ∧ τ_52.2.1 99 j ≤ 600 := fun j => hT.2 99 j
      have A100 : ∀ j, 0 ≤ τ_52.2.1 100 j ∧ τ_52.2.1 100 j ≤ 1060 := fun j => hT.2 100 j
      have v4 : 0 ≤ τ_52.1 4 ∧ τ_52.1 4 ≤ 100 := hT.1 4
      have v5 : 0 ≤ τ_52.1 5 ∧ τ_52.1 5 ≤ 1000 := hT.1 5
      have v6 : 0 ≤ τ_52.1 6 ∧ τ_52.1 6 ≤ 30000 := hT.1 6
      have v7 : 0 ≤ τ_52.1 7 ∧ τ_52.1 7 ≤ 1500 := hT.1 7
      have v13 : 0 ≤ τ_52.1 13 ∧ τ_52.1 13 ≤ 90000 := hT.1 13
      have v14 : 0 ≤ τ_52.1 14 ∧ τ_52.1 14 ≤ 20000 := hT.1 14
      have v15 : 0 ≤ τ_52.1 15 ∧ τ_52.1 15 ≤ 20000 := hT.1 15
      have v17 : 0 ≤ τ_52.1 17 ∧ τ_52.1 17 ≤ 42000 := hT.1 17
      have v45 : 1 ≤ τ_52.1 45 ∧ τ_52.1 45 ≤ 30001 := hT.1 45
      have v48 : (-1) ≤ τ_52.1 48 ∧ τ_52.1 48 ≤ 999 := hT.1 48
      have v50 : 0 ≤ τ_52.1 50 ∧ τ_52.1 50 ≤ 59 := hT.1 50
      have v51 : 0 ≤ τ_52.1 51 ∧ τ_52.1 51 ≤ 1500 := hT.1 51
      have v52 : (-1) ≤ τ_52.1 52 ∧ τ_52.1 52 ≤ 99 := hT.1 52
      have v54 : 0 ≤ τ_52.1 54 ∧ τ_52.1 54 ≤ 12000 := hT.1 54
      have v60 : 0 ≤ τ_52.1 60 ∧ τ_52.1 60 ≤ 1048576 := hT.1 60
      have TX : J_vs (τ_52.1 6) (τ_52.1 5) (τ_52.2.1 15) := by rw [show (J_vs (τ_52.1 6) (τ_52.1 5) (τ_52.2.1 15)) = (J_vs (σ.1 6) (σ.1 5) (σ.2.1 15)) from by rw [W5, W6, G15]]; exact TX_0
      have RKS : J_rks (τ_52.1 5) (τ_52.1 4) (τ_52.2.1 10) (τ_52.2.1 11) := by rw [show (J_rks (τ_52.1 5) (τ_52.1 4) (τ_52.2.1 10) (τ_52.2.1 11)) = (J_rks (σ.1 5) (σ.1 4) (σ.2.1 10) (σ.2.1 11)) from by rw [W4, W5, G10, G11]]; exact RKS_0
      have CJ : J_all (τ_52.1 7) (τ_52.1 6) (τ_52.1 13) (τ_52.1 14) (τ_52.1 15) (τ_52.2.1 13) (τ_52.2.1 14) (τ_52.2.1 15) (τ_52.2.1 16) (τ_52.2.1 10) (τ_52.2.1 27) (τ_52.2.1 28) (τ_52.2.1 29) (τ_52.2.1 30) (τ_52.2.1 31) (τ_52.2.1 32) (τ_52.2.1 33) (τ_52.2.1 34) (τ_52.2.1 35) (τ_52.2.1 36) (τ_52.2.1 37) := by rw [show (J_all (τ_52.1 7) (τ_52.1 6) (τ_52.1 13) (τ_52.1 14) (τ_52.1 15) (τ_52.2.1 13) (τ_52.2.1 14) (τ_52.2.1 15) (τ_52.2.1 16) (τ_52.2.1 10) (τ_52.2.1 27) (τ_52.2.1 28) (τ_52.2.1 29) (τ_52.2.1 30) (τ_52.2.1 31) (τ_52.2.1 32) (τ_52.2.1 33) (τ_52.2.1 34) (τ_52.2.1 35) (τ_52.2.1 36) (τ_52.2.1 37)) = (J_all (σ.1 7) (σ.1 6) (σ.1 13) (σ.1 14) (σ.1 15) (σ.2.1 13) (σ.2.1 14) (σ.2.1 15) (σ.2.1 16) (σ.2.1 10) (σ.2.1 27) (σ.2.1 28) (σ.2.1 29) (σ.2.1 30) (σ.2.1 31) (σ.2.1 32) (σ.2.1 33) (σ.2.1 34) (σ.2.1 35) (σ.2.1 36) (σ.2.1 37)) from by rw [W6, W7, W13, W14, W15, G10, G13, G14, G15, G16, G27, G28, G29, G30, G31, G32, G33, G34, G35, G36, G37]]; exact CJ_0
      have SZ : ∀ v, τ_52.2.1 100 v = 0 := by rw [show (∀ v, τ_52.2.1 100 v = 0) = (∀ v, σ.2.1 100 v = 0) from by rw [G100]]; exact SZ_0
      refine h52 n1 u2_52 τ_52 ?_
      intro x14 r_x14 e_x14
      have b_x14 : (-2) ≤ x14 ∧ x14 ≤ 1000 := by rw [e_x14]; exact hT.2 41 _
      refine ⟨fun c15 => ?_, fun c15 => ?_⟩
      ·
        exact ⟨hT, (show 0 ≤ 1 ∧ 1 ≤ 1 from by (first | omega | (simp only [st_s] <;> omega) | assumption | omega | fail))⟩
      ·
        intro x16 r_x16 e_x16
        have b_x16 : 0 ≤ x16 ∧ x16 ≤ 42000 := by rw [e_x16]; exact hT.2 40 _
        refine ⟨(show 0 ≤ (x16 + u2_52) ∧ (x16 + u2_52) < 42000 from by (first | omega | (simp only [st_s] <;> omega) | assumption | omega | fail)), ?_⟩
        intro x18 r_x18 e_x18
        have b_x18 : 0 ≤ x18 ∧ x18 ≤ 1060 := by rw [e_x18]; exact hT.2 39 _
        refine ⟨(show 0 ≤ n1 ∧ n1 < 1501 from by (first | omega | (simp only [st_s] <;> omega) | assumption | omega | fail)), ?_⟩
        intro x20 r_x20 e_x20
        have b_x20 : 0 ≤ x20 ∧ x20 ≤ 30000 := by rw [e_x20]; exact hT.2 14 _
        rw [G14] at e_x20
        refine ⟨(show 0 ≤ ((x20 + 1) + u2_52) ∧ ((x20 + 1) + u2_52) < 30000 from by (first | omega | (simp only [st_s] <;> omega) | assumption | omega | fail)), ?_⟩
        intro x22 r_x22 e_x22
        have b_x22 : 0 ≤ x22 ∧ x22 ≤ 999 := by rw [e_x22]; exact hT.2 15 _
        refine ⟨fun c23 => ?_, fun c23 => ?_⟩
        ·
          refine ⟨(⟨by (first | omega | (simp only [st_s] <;> omega) | assumption | omega | fail), by (first | omega | (simp only [st_s] <;> omega) | assumption | omega | fail)⟩ : rg (u2_52 + 1)), ?_⟩
          exact ih_52 _ _ (show (1002 - (u2_52 + 1) : Int) < ((m_52 : Nat) : Int) from by ((first | omega | (simp only [st_s] <;> omega) | assumption | omega | fail))) hT (show τ_52.1 4 = σ.1 4 from by first | exact W4 | omega) (show τ_52.1 5 = σ.1 5 from by first | exact W5 | omega) (show τ_52.1 6 = σ.1 6 from by first | exact W6 | omega) (show τ_52.1 7 = σ.1 7 from by first | exact W7 | omega) (show τ_52.1 13 = σ.1 13 from by first | exact W13 | omega) (show τ_52.1 14 = σ.1 14 from by first | exact W14 | omega) (show τ_52.1 15 = σ.1 15 from by first | exact W15 | omega) (show τ_52.1 45 = σ.1 45 from by first | exact W45 | omega) (show τ_52.1 48 = σ.1 48 from by first | exact W48 | omega) (show τ_52.1 50 = σ.1 50 from by first | exact W50 | omega) (show τ_52.1 51 = σ.1 51 from by first | exact W51 | omega) (show τ_52.1 52 = σ.1 52 from by first | exact W52 | omega) (show τ_52.1 60 = σ.1 60 from by first | exact W60 | omega) G10 G11 G13 G14 G15 G16 G27 G28 G29 G30 G31 G32 G33 G34 G35 G36 G37 G95 G97 G98 G99 G100 (show 0 ≤ (u2_52 + 1) ∧ (u2_52 + 1) ≤ 1001 from by (first | omega | (simp only [st_s] <;> omega) | assumption | omega | fail)) (show 0 ≤ τ_52.2.1 40 0 ∧ τ_52.2.1 40 0 + τ_52.2.1 41 0 ≤ 42000 from by (first | omega | (simp only [st_s] <;> omega) | assumption | omega | fail)) (show τ_52.2.1 41 0 = σ.2.1 14 (n1 + 1) - σ.2.1 14 n1 - 1 from by (first | omega | (simp only [st_s] <;> omega) | assumption | omega | fail))
        ·
          exact ⟨hT, (show 0 ≤ 0 ∧ 0 ≤ 1 from by (first | omega | (simp only [st_s] <;> omega) | assumption | omega | fail))⟩
  refine ⟨_, K_X11_grow hT (show J_all (σ.1 7) (σ.1 6) (σ.1 13) (σ.1 14) (σ.1 15) (σ.2.1 13) (σ.2.1 14) (σ.2.1 15) (σ.2.1 16) (σ.2.1 10) (σ.2.1 27) (σ.2.1 28) (σ.2.1 29) (σ.2.1 30) (σ.2.1 31) (σ.2.1 32) (σ.2.1 33) (σ.2.1 34) (σ.2.1 35) (σ.2.1 36) (σ.2.1 37) from CJ) (show c_Rs σ par nof In from by exact p4) (show J_rks (σ.1 5) (σ.1 4) (σ.2.1 10) (σ.2.1 11) from RKS) (show J_vs (σ.1 6) (σ.1 5) (σ.2.1 15) from TX) (show ∀ i : Int, 0 ≤ i → i < (σ.1 50) → 0 ≤ σ.2.1 78 i → σ.2.1 78 i < (σ.1 7) ∧ σ.2.1 13 (σ.2.1 78 i) = 0 from by exact p7.1) (show ∀ i : Int, 0 ≤ i → i < (σ.1 50) → g_ok (σ.1 45) (σ.1 50) (σ.1 4) (σ.1 51) i (σ.2.1 77) (σ.2.1 69) par (σ.2.1 70) nof (g_so (σ.1 48) (σ.2.1 14) (σ.2.1 15) (σ.2.1 10)) (σ.2.1 78) In (σ.2.2 4) (σ.2.2 5) (σ.2.1 79) from by exact p7.2.1) (show 0 ≤ (σ.1 52) ∧ (σ.1 52) < (σ.1 4) from by exact p7.2.2.1) (show 0 < (σ.1 50) from by exact p7.2.2.2.1) (show g_H (σ.2.2 4) (σ.1 52) 0 (σ.1 50) ∧ ¬ g_H (σ.2.2 5) (σ.1 52) 0 (σ.1 50) from by exact p7.2.2.2.2.1) (show g_wu (σ.1 50) (σ.2.1 77) (σ.2.2 3) from by exact p7.2.2.2.2.2.1), ?_⟩
  intro τ3 hn_τ3 hf_τ3 hq
  obtain ⟨hT, q1_1, q1_2⟩ := hq
  replace q1_1 : g_tre (τ3.1 7) (τ3.1 54) (τ3.2.1 13) (τ3.2.1 14) (τ3.2.1 27) (τ3.2.1 28) (τ3.2.1 29) (τ3.2.1 84) := q1_1
  replace q1_2 : g_T (σ.1 50) (σ.1 51) (σ.1 48) (σ.2.1 77) (σ.2.1 78) (σ.2.1 13) (σ.2.1 14) (σ.2.1 15) (σ.2.1 16) (σ.2.1 10) (σ.2.1 27) (σ.2.1 28) (σ.2.1 29) In (σ.1 52) 0 (σ.1 50) (g_pre (τ3.2.1 84) ((τ3.1 54)).toNat) := q1_2
  have w4_τ3 : τ3.1 4 = σ.1 4 := hf_τ3.1 4 (by decide)
  have w5_τ3 : τ3.1 5 = σ.1 5 := hf_τ3.1 5 (by decide)
  have w6_τ3 : τ3.1 6 = σ.1 6 := hf_τ3.1 6 (by decide)
  have w7_τ3 : τ3.1 7 = σ.1 7 := hf_τ3.1 7 (by decide)
  have w13_τ3 : τ3.1 13 = σ.1 13 := hf_τ3.1 13 (by decide)
  have w14_τ3 : τ3.1 14 = σ.1 14 := hf_τ3.1 14 (by decide)
  have w15_τ3 : τ3.1 15 = σ.1 15 := hf_τ3.1 15 (by decide)
  have w17_τ3 : τ3.1 17 = σ.1 17 := hf_τ3.1 17 (by decide)
  have w45_τ3 : τ3.1 45 = σ.1 45 := hf_τ3.1 45 (by decide)
  have w48_τ3 : τ3.1 48 = σ.1 48 := hf_τ3.1 48 (by decide)
  have w50_τ3 : τ3.1 50 = σ.1 50 := hf_τ3.1 50 (by decide)
  have w51_τ3 : τ3.1 51 = σ.1 51 := hf_τ3.1 51 (by decide)
  have w52_τ3 : τ3.1 52 = σ.1 52 := hf_τ3.1 52 (by decide)
  have w60_τ3 : τ3.1 60 = σ.1 60 := hf_τ3.1 60 (by decide)
  have g10_τ3 : τ3.2.1 10 = σ.2.1 10 := hf_τ3.2.1 10 (by decide)
  have g11_τ3 : τ3.2.1 11 = σ.2.1 11 := hf_τ3.2.1 11 (by decide)
  have g13_τ3 : τ3.2.1 13 = σ.2.1 13 := hf_τ3.2.1 13 (by decide)
  have g14_τ3 : τ3.2.1 14 = σ.2.1 14 := hf_τ3.2.1 14 (by decide)
  have g15_τ3 : τ3.2.1 15 = σ.2.1 15 := hf_τ3.2.1 15 (by decide)
  have g16_τ3 : τ3.2.1 16 = σ.2.1 16 := hf_τ3.2.1 16 (by decide)
  have g27_τ3 : τ3.2.1 27 = σ.2.1 27 := hf_τ3.2.1 27 (by decide)
  have g28_τ3 : τ3.2.1 28 = σ.2.1 28 := hf_τ3.2.1 28 (by decide)
  have g29_τ3 : τ3.2.1 29 = σ.2.1 29 := hf_τ3.2.1 29 (by decide)
  have g30_τ3 : τ3.2.1 30 = σ.2.1 30 := hf_τ3.2.1 30 (by decide)
  have g31_τ3 : τ3.2.1 31 = σ.2.1 31 := hf_τ3.2.1 31 (by decide)
  have g32_τ3 : τ3.2.1 32 = σ.2.1 32 := hf_τ3.2.1 32 (by decide)
  have g33_τ3 : τ3.2.1 33 = σ.2.1 33 := hf_τ3.2.1 33 (by decide)
  have g34_τ3 : τ3.2.1 34 = σ.2.1 34 := hf_τ3.2.1 34 (by decide)
  have g35_τ3 : τ3.2.1 35 = σ.2.1 35 := hf_τ3.2.1 35 (by decide)
  have g36_τ3 : τ3.2.1 36 = σ.2.1 36 := hf_τ3.2.1 36 (by decide)
  have g37_τ3 : τ3.2.1 37 = σ.2.1 37 := hf_τ3.2.1 37 (by decide)
  have g39_τ3 : τ3.2.1 39 = σ.2.1 39 := hf_τ3.2.1 39 (by decide)
  have g40_τ3 : τ3.2.1 40 = σ.2.1 40 := hf_τ3.2.1 40 (by decide)
  have g41_τ3 : τ3.2.1 41 = σ.2.1 41 := hf_τ3.2.1 41 (by decide)
  have g95_τ3 : τ3.2.1 95 = σ.2.1 95 := hf_τ3.2.1 95 (by decide)
  have g97_τ3 : τ3.2.1 97 = σ.2.1 97 := hf_τ3.2.1 97 (by decide)
  have g98_τ3 : τ3.2.1 98 = σ.2.1 98 := hf_τ3.2.1 98 (by decide)
  have g99_τ3 : τ3.2.1 99 = σ.2.1 99 := hf_τ3.2.1 99 (by decide)
  have g100_τ3 : τ3.2.1 100 = σ.2.1 100 := hf_τ3.2.1 100 (by decide)
  have W4 : τ3.1 4 = σ.1 4 := by first | exact w4_τ3.trans W4 | omega
  have W5 : τ3.1 5 = σ.1 5 := by first | exact w5_τ3.trans W5 | omega
  have W6 : τ3.1 6 = σ.1 6 := by first | exact w6_τ3.trans W6 | omega
  have W7 : τ3.1 7 = σ.1 7 := by first | exact w7_τ3.trans W7 | omega
  have W13 : τ3.1 13 = σ.1 13 := by first | exact w13_τ3.trans W13 | omega
  have W14 : τ3.1 14 = σ.1 14 := by first | exact w14_τ3.trans W14 | omega
  have W15 : τ3.1 15 = σ.1 15 := by first | exact w15_τ3.trans W15 | omega
  have W45 : τ3.1 45 = σ.1 45 := by first | exact w45_τ3.trans W45 | omega
  have W48 : τ3.1 48 = σ.1 48 := by first | exact w48_τ3.trans W48 | omega
  have W50 : τ3.1 50 = σ.1 50 := by first | exact w50_τ3.trans W50 | omega
  have W51 : τ3.1 51 = σ.1 51 := by first | exact w51_τ3.trans W51 | omega
  have W52 : τ3.1 52 = σ.1 52 := by first | exact w52_τ3.trans W52 | omega
  have W60 : τ3.1 60 = σ.1 60 := by first | exact w60_τ3.trans W60 | omega
  have G10 : τ3.2.1 10 = σ.2.1 10 := (g10_τ3).trans G10
  have G11 : τ3.2.1 11 = σ.2.1 11 := (g11_τ3).trans G11
  have G13 : τ3.2.1 13 = σ.2.1 13 := (g13_τ3).trans G13
  have G14 : τ3.2.1 14 = σ.2.1 14 := (g14_τ3).trans G14
  have G15 : τ3.2.1 15 = σ.2.1 15 := (g15_τ3).trans G15
  have G16 : τ3.2.1 16 = σ.2.1 16 := (g16_τ3).trans G16
  have G27 : τ3.2.1 27 = σ.2.1 27 := (g27_τ3).trans G27
  have G28 : τ3.2.1 28 = σ.2.1 28 := (g28_τ3).trans G28
  have G29 : τ3.2.1 29 = σ.2.1 29 := (g29_τ3).trans G29
  have G30 : τ3.2.1 30 = σ.2.1 30 := (g30_τ3).trans G30
  have G31 : τ3.2.1 31 = σ.2.1 31 := (g31_τ3).trans G31
  have G32 : τ3.2.1 32 = σ.2.1 32 := (g32_τ3).trans G32
  have G33 : τ3.2.1 33 = σ.2.1 33 := (g33_τ3).trans G33
  have G34 : τ3.2.1 34 = σ.2.1 34 := (g34_τ3).trans G34
  have G35 : τ3.2.1 35 = σ.2.1 35 := (g35_τ3).trans G35
  have G36 : τ3.2.1 36 = σ.2.1 36 := (g36_τ3).trans G36
  have G37 : τ3.2.1 37 = σ.2.1 37 := (g37_τ3).trans G37
  have G95 : τ3.2.1 95 = σ.2.1 95 := (g95_τ3).trans G95
  have G97 : τ3.2.1 97 = σ.2.1 97 := (g97_τ3).trans G97
  have G98 : τ3.2.1 98 = σ.2.1 98 := (g98_τ3).trans G98
  have G99 : τ3.2.1 99 = σ.2.1 99 := (g99_τ3).trans G99
  have G100 : τ3.2.1 100 = σ.2.1 100 := (g100_τ3).trans G100
  have TX : J_vs (τ3.1 6) (τ3.1 5) (τ3.2.1 15) := by rw [show (J_vs (τ3.1 6) (τ3.1 5) (τ3.2.1 15)) = (J_vs (σ.1 6) (σ.1 5) (σ.2.1 15)) from by rw [w5_τ3, w6_τ3, g15_τ3]]; exact TX
  have RKS : J_rks (τ3.1 5) (τ3.1 4) (τ3.2.1 10) (τ3.2.1 11) := by rw [show (J_rks (τ3.1 5) (τ3.1 4) (τ3.2.1 10) (τ3.2.1 11)) = (J_rks (σ.1 5) (σ.1 4) (σ.2.1 10) (σ.2.1 11)) from by rw [w4_τ3, w5_τ3, g10_τ3, g11_τ3]]; exact RKS
  have CJ : J_all (τ3.1 7) (τ3.1 6) (τ3.1 13) (τ3.1 14) (τ3.1 15) (τ3.2.1 13) (τ3.2.1 14) (τ3.2.1 15) (τ3.2.1 16) (τ3.2.1 10) (τ3.2.1 27) (τ3.2.1 28) (τ3.2.1 29) (τ3.2.1 30) (τ3.2.1 31) (τ3.2.1 32) (τ3.2.1 33) (τ3.2.1 34) (τ3.2.1 35) (τ3.2.1 36) (τ3.2.1 37) := by rw [show (J_all (τ3.1 7) (τ3.1 6) (τ3.1 13) (τ3.1 14) (τ3.1 15) (τ3.2.1 13) (τ3.2.1 14) (τ3.2.1 15) (τ3.2.1 16) (τ3.2.1 10) (τ3.2.1 27) (τ3.2.1 28) (τ3.2.1 29) (τ3.2.1 30) (τ3.2.1 31) (τ3.2.1 32) (τ3.2.1 33) (τ3.2.1 34) (τ3.2.1 35) (τ3.2.1 36) (τ3.2.1 37)) = (J_all (σ.1 7) (σ.1 6) (σ.1 13) (σ.1 14) (σ.1 15) (σ.2.1 13) (σ.2.1 14) (σ.2.1 15) (σ.2.1 16) (σ.2.1 10) (σ.2.1 27) (σ.2.1 28) (σ.2.1 29) (σ.2.1 30) (σ.2.1 31) (σ.2.1 32) (σ.2.1 33) (σ.2.1 34) (σ.2.1 35) (σ.2.1 36) (σ.2.1 37)) from by rw [w6_τ3, w7_τ3, w13_τ3, w14_τ3, w15_τ3, g10_τ3, g13_τ3, g14_τ3, g15_τ3, g16_τ3, g27_τ3, g28_τ3, g29_τ3, g30_τ3, g31_τ3, g32_τ3, g33_τ3, g34_τ3, g35_τ3, g36_τ3, g37_τ3]]; exact CJ
  have TRE : g_tre (τ3.1 7) (τ3.1 54) (τ3.2.1 13) (τ3.2.1 14) (τ3.2.1 27) (τ3.2.1 28) (τ3.2.1 29) (τ3.2.1 84) := q1_1
  have SZ : ∀ v, τ3.2.1 100 v = 0 := by rw [show (∀ v, τ3.2.1 100 v = 0) = (∀ v, σ.2.1 100 v = 0) from by rw [g100_τ3]]; exact SZ
  have A10 : ∀ j, (-1) ≤ τ3.2.1 10 j ∧ τ3.2.1 10 j ≤ 99 := fun j => hT.2 10 j
  have A11 : ∀ j, 0 ≤ τ3.2.1 11 j ∧ τ3.2.1 11 j ≤ 999 := fun j => hT.2 11 j
  have A13 : ∀ j, 0 ≤ τ3.2.1 13 j ∧ τ3.2.1 13 j ≤ 4 := fun j => hT.2 13 j
  have A14 : ∀ j, 0 ≤ τ3.2.1 14 j ∧ τ3.2.1 14 j ≤ 30000 := fun j => hT.2 14 j
  have A15 : ∀ j, 0 ≤ τ3.2.1 15 j ∧ τ3.2.1 15 j ≤ 999 := fun j => hT.2 15 j
  have A16 : ∀ j, (-1) ≤ τ3.2.1 16 j ∧ τ3.2.1 16 j ≤ 1499 := fun j => hT.2 16 j
  have A27 : ∀ j, 0 ≤ τ3.2.1 27 j ∧ τ3.2.1 27 j ≤ 90000 := fun j => hT.2 27 j
  have A28 : ∀ j, 0 ≤ τ3.2.1 28 j ∧ τ3.2.1 28 j ≤ 60 := fun j => hT.2 28 j
  have A29 : ∀ j, 0 ≤ τ3.2.1 29 j ∧ τ3.2.1 29 j ≤ 1499 := fun j => hT.2 29 j
  have A30 : ∀ j, 0 ≤ τ3.2.1 30 j ∧ τ3.2.1 30 j ≤ 20000 := fun j => hT.2 30 j
  have A31 : ∀ j, 0 ≤ τ3.2.1 31 j ∧ τ3.2.1 31 j ≤ 20000 := fun j => hT.2 31 j
  have A32 : ∀ j, 0 ≤ τ3.2.1 32 j ∧ τ3.2.1 32 j ≤ 999999 := fun j => hT.2 32 j
  have A33 : ∀ j, 0 ≤ τ3.2.1 33 j ∧ τ3.2.1 33 j ≤ 20000 := fun j => hT.2 33 j
  have A34 : ∀ j, 0 ≤ τ3.2.1 34 j ∧ τ3.2.1 34 j ≤ 20000 := fun j => hT.2 34 j
  have A35 : ∀ j, 0 ≤ τ3.2.1 35 j ∧ τ3.2.1 35 j ≤ 1499 := fun j => hT.2 35 j
  have A36 : ∀ j, 0 ≤ τ3.2.1 36 j ∧ τ3.2.1 36 j ≤ 20000 := fun j => hT.2 36 j
  have A37 : ∀ j, 0 ≤ τ3.2.1 37 j ∧ τ3.2.1 37 j ≤ 19999 := fun j => hT.2 37 j
  have A39 : ∀ j, 0 ≤ τ3.2.1 39 j ∧ τ3.2.1 39 j ≤ 1060 := fun j => hT.2 39 j
  have A40 : ∀ j, 0 ≤ τ3.2.1 40 j ∧ τ3.2.1 40 j ≤ 42000 := fun j => hT.2 40 j
  have A41 : ∀ j, (-2) ≤ τ3.2.1 41 j ∧ τ3.2.1 41 j ≤ 1000 := fun j => hT.2 41 j
  have A84 : ∀ j, 0 ≤ τ3.2.1 84 j ∧ τ3.2.1 84 j ≤ 1499 := fun j => hT.2 84 j
  have A95 : ∀ j, 0 ≤ τ3.2.1 95 j ∧ τ3.2.1 95 j ≤ 1500 := fun j => hT.2 95 j
  have A97 : ∀ j, 0 ≤ τ3.2.1 97 j ∧ τ3.2.1 97 j ≤ 1060 := fun j => hT.2 97 j
  have A98 : ∀ j, 0 ≤ τ3.2.1 98 j ∧ τ3.2.1 98 j ≤ 1048576 := fun j => hT.2 98 j
  have A99 : ∀ j, (-2) ≤ τ3.2.1 99 j ∧ τ3.2.1 99 j ≤ 600 := fun j => hT.2 99 j
  have A100 : ∀ j, 0 ≤ τ3.2.1 100 j ∧ τ3.2.1 100 j ≤ 1060 := fun j => hT.2 100 j
  have v4 : 0 ≤ τ3.1 4 ∧ τ3.1 4 ≤ 100 := hT.1 4
  have v5 : 0 ≤ τ3.1 5 ∧ τ3.1 5 ≤ 1000 := hT.1 5
  have v6 : 0 ≤ τ3.1 6 ∧ τ3.1 6 ≤ 30000 := hT.1 6
  have v7 : 0 ≤ τ3.1 7 ∧ τ3.1 7 ≤ 1500 := hT.1 7
  have v13 : 0 ≤ τ3.1 13 ∧ τ3.1 13 ≤ 90000 := hT.1 13
  have v14 : 0 ≤ τ3.1 14 ∧ τ3.1 14 ≤ 20000 := hT.1 14
  have v15 : 0 ≤ τ3.1 15 ∧ τ3.1 15 ≤ 20000 := hT.1 15
  have v17 : 0 ≤ τ3.1 17 ∧ τ3.1 17 ≤ 42000 := hT.1 17
  have v45 : 1 ≤ τ3.1 45 ∧ τ3.1 45 ≤ 30001 := hT.1 45
  have v48 : (-1) ≤ τ3.1 48 ∧ τ3.1 48 ≤ 999 := hT.1 48
  have v50 : 0 ≤ τ3.1 50 ∧ τ3.1 50 ≤ 59 := hT.1 50
  have v51 : 0 ≤ τ3.1 51 ∧ τ3.1 51 ≤ 1500 := hT.1 51
  have v52 : (-1) ≤ τ3.1 52 ∧ τ3.1 52 ≤ 99 := hT.1 52
  have v54 : 0 ≤ τ3.1 54 ∧ τ3.1 54 ≤ 12000 := hT.1 54
  have v60 : 0 ≤ τ3.1 60 ∧ τ3.1 60 ≤ 1048576 := hT.1 60
  obtain ⟨B, e_B⟩ : ∃ z : Int, z = 1000 := ⟨_, rfl⟩
  have db3 := c_DB_h p9 hf_τ3 rfl rfl
  have TREo := q1_1.1
  refine ⟨_, K_X2_evaluate hT (show 0 ≤ (0 : Int) ∧ (0 : Int) ≤ (τ3.1 54) from by (first | omega | (simp only [st_s] <;> omega) | assumption | omega | fail)) (show (τ3.1 54) ≤ (τ3.1 54) from by (first | omega | (simp only [st_s] <;> omega) | assumption | omega | fail)) (show J_all (τ3.1 7) (τ3.1 6) (τ3.1 13) (τ3.1 14) (τ3.1 15) (τ3.2.1 13) (τ3.2.1 14) (τ3.2.1 15) (τ3.2.1 16) (τ3.2.1 10) (τ3.2.1 27) (τ3.2.1 28) (τ3.2.1 29) (τ3.2.1 30) (τ3.2.1 31) (τ3.2.1 32) (τ3.2.1 33) (τ3.2.1 34) (τ3.2.1 35) (τ3.2.1 36) (τ3.2.1 37) from CJ) (show g_tre (τ3.1 7) (τ3.1 54) (τ3.2.1 13) (τ3.2.1 14) (τ3.2.1 27) (τ3.2.1 28) (τ3.2.1 29) (τ3.2.1 84) from TRE) (show g_bd (τ3.1 60) (τ3.2.1 95) (τ3.2.1 98) (τ3.2.1 99) (τ3.2.1 97) (τ3.2.1 28) from by exact db3.1) (show (τ3.1 60) ≤ (lb : Int) from by exact db3.2.1) (show 1000 ≤ B from by (first | omega | (simp only [st_s] <;> omega) | assumption | omega | fail)) (show ∀ v, τ3.2.1 100 v < B from by (rw [g100_τ3]; intro v; rw [p8 v]; omega)), ?_⟩
  intro x5 τ6 r_x5 hn_τ6 hf_τ6 hq
  obtain ⟨hT, q4_1, q4_2⟩ := hq
  replace q4_1 : 0 ≤ x5 ∧ x5 ≤ 1 := q4_1
  replace q4_2 : ¬ x5 = 0 → g_ev B 1 (τ6.1 17) (τ6.2.1 40) (τ6.2.1 41) (τ6.2.1 39) ∧ 0 ≤ τ6.2.1 41 0 := q4_2
  have w4_τ6 : τ6.1 4 = τ3.1 4 := hf_τ6.1 4 (by decide)
  have w5_τ6 : τ6.1 5 = τ3.1 5 := hf_τ6.1 5 (by decide)
  have w6_τ6 : τ6.1 6 = τ3.1 6 := hf_τ6.1 6 (by decide)
  have w7_τ6 : τ6.1 7 = τ3.1 7 := hf_τ6.1 7 (by decide)
  have w13_τ6 : τ6.1 13 = τ3.1 13 := hf_τ6.1 13 (by decide)
  have w14_τ6 : τ6.1 14 = τ3.1 14 := hf_τ6.1 14 (by decide)
  have w15_τ6 : τ6.1 15 = τ3.1 15 := hf_τ6.1 15 (by decide)
  have w45_τ6 : τ6.1 45 = τ3.1 45 := hf_τ6.1 45 (by decide)
  have w48_τ6 : τ6.1 48 = τ3.1 48 := hf_τ6.1 48 (by decide)
  have w50_τ6 : τ6.1 50 = τ3.1 50 := hf_τ6.1 50 (by decide)
  have w51_τ6 : τ6.1 51 = τ3.1 51 := hf_τ6.1 51 (by decide)
  have w52_τ6 : τ6.1 52 = τ3.1 52 := hf_τ6.1 52 (by decide)
  have w54_τ6 : τ6.1 54 = τ3.1 54 := hf_τ6.1 54 (by decide)
  have w60_τ6 : τ6.1 60 = τ3.1 60 := hf_τ6.1 60 (by decide)
  have g10_τ6 : τ6.2.1 10 = τ3.2.1 10 := hf_τ6.2.1 10 (by decide)
  have g11_τ6 : τ6.2.1 11 = τ3.2.1 11 := hf_τ6.2.1 11 (by decide)
  have g13_τ6 : τ6.2.1 13 = τ3.2.1 13 := hf_τ6.2.1 13 (by decide)
  have g14_τ6 : τ6.2.1 14 = τ3.2.1 14 := hf_τ6.2.1 14 (by decide)
  have g15_τ6 : τ6.2.1 15 = τ3.2.1 15 := hf_τ6.2.1 15 (by decide)
  have g16_τ6 : τ6.2.1 16 = τ3.2.1 16 := hf_τ6.2.1 16 (by decide)
  have g27_τ6 : τ6.2.1 27 = τ3.2.1 27 := hf_τ6.2.1 27 (by decide)
  have g28_τ6 : τ6.2.1 28 = τ3.2.1 28 := hf_τ6.2.1 28 (by decide)
  have g29_τ6 : τ6.2.1 29 = τ3.2.1 29 := hf_τ6.2.1 29 (by decide)
  have g30_τ6 : τ6.2.1 30 = τ3.2.1 30 := hf_τ6.2.1 30 (by decide)
  have g31_τ6 : τ6.2.1 31 = τ3.2.1 31 := hf_τ6.2.1 31 (by decide)
  have g32_τ6 : τ6.2.1 32 = τ3.2.1 32 := hf_τ6.2.1 32 (by decide)
  have g33_τ6 : τ6.2.1 33 = τ3.2.1 33 := hf_τ6.2.1 33 (by decide)
  have g34_τ6 : τ6.2.1 34 = τ3.2.1 34 := hf_τ6.2.1 34 (by decide)
  have g35_τ6 : τ6.2.1 35 = τ3.2.1 35 := hf_τ6.2.1 35 (by decide)
  have g36_τ6 : τ6.2.1 36 = τ3.2.1 36 := hf_τ6.2.1 36 (by decide)
  have g37_τ6 : τ6.2.1 37 = τ3.2.1 37 := hf_τ6.2.1 37 (by decide)
  have g84_τ6 : τ6.2.1 84 = τ3.2.1 84 := hf_τ6.2.1 84 (by decide)
  have g95_τ6 : τ6.2.1 95 = τ3.2.1 95 := hf_τ6.2.1 95 (by decide)
  have g97_τ6 : τ6.2.1 97 = τ3.2.1 97 := hf_τ6.2.1 97 (by decide)
  have g98_τ6 : τ6.2.1 98 = τ3.2.1 98 := hf_τ6.2.1 98 (by decide)
  have g99_τ6 : τ6.2.1 99 = τ3.2.1 99 := hf_τ6.2.1 99 (by decide)
  have g100_τ6 : τ6.2.1 100 = τ3.2.1 100 := hf_τ6.2.1 100 (by decide)
  have W4 : τ6.1 4 = σ.1 4 := by first | exact w4_τ6.trans W4 | omega
  have W5 : τ6.1 5 = σ.1 5 := by first | exact w5_τ6.trans W5 | omega
  have W6 : τ6.1 6 = σ.1 6 := by first | exact w6_τ6.trans W6 | omega
  have W7 : τ6.1 7 = σ.1 7 := by first | exact w7_τ6.trans W7 | omega
  have W13 : τ6.1 13 = σ.1 13 := by first | exact w13_τ6.trans W13 | omega
  have W14 : τ6.1 14 = σ.1 14 := by first | exact w14_τ6.trans W14 | omega
  have W15 : τ6.1 15 = σ.1 15 := by first | exact w15_τ6.trans W15 | omega
  have W45 : τ6.1 45 = σ.1 45 := by first | exact w45_τ6.trans W45 | omega
  have W48 : τ6.1 48 = σ.1 48 := by first | exact w48_τ6.trans W48 | omega
  have W50 : τ6.1 50 = σ.1 50 := by first | exact w50_τ6.trans W50 | omega
  have W51 : τ6.1 51 = σ.1 51 := by first | exact w51_τ6.trans W51 | omega
  have W52 : τ6.1 52 = σ.1 52 := by first | exact w52_τ6.trans W52 | omega
  have W60 : τ6.1 60 = σ.1 60 := by first | exact w60_τ6.trans W60 | omega
  have G10 : τ6.2.1 10 = σ.2.1 10 := (g10_τ6).trans G10
  have G11 : τ6.2.1 11 = σ.2.1 11 := (g11_τ6).trans G11
  have G13 : τ6.2.1 13 = σ.2.1 13 := (g13_τ6).trans G13
  have G14 : τ6.2.1 14 = σ.2.1 14 := (g14_τ6).trans G14
  have G15 : τ6.2.1 15 = σ.2.1 15 := (g15_τ6).trans G15
  have G16 : τ6.2.1 16 = σ.2.1 16 := (g16_τ6).trans G16
  have G27 : τ6.2.1 27 = σ.2.1 27 := (g27_τ6).trans G27
  have G28 : τ6.2.1 28 = σ.2.1 28 := (g28_τ6).trans G28
  have G29 : τ6.2.1 29 = σ.2.1 29 := (g29_τ6).trans G29
  have G30 : τ6.2.1 30 = σ.2.1 30 := (g30_τ6).trans G30
  have G31 : τ6.2.1 31 = σ.2.1 31 := (g31_τ6).trans G31
  have G32 : τ6.2.1 32 = σ.2.1 32 := (g32_τ6).trans G32
  have G33 : τ6.2.1 33 = σ.2.1 33 := (g33_τ6).trans G33
  have G34 : τ6.2.1 34 = σ.2.1 34 := (g34_τ6).trans G34
  have G35 : τ6.2.1 35 = σ.2.1 35 := (g35_τ6).trans G35
  have G36 : τ6.2.1 36 = σ.2.1 36 := (g36_τ6).trans G36
  have G37 : τ6.2.1 37 = σ.2.1 37 := (g37_τ6).trans G37
  have G95 : τ6.2.1 95 = σ.2.1 95 := (g95_τ6).trans G95
  have G97 : τ6.2.1 97 = σ.2.1 97 := (g97_τ6).trans G97
  have G98 : τ6.2.1 98 = σ.2.1 98 := (g98_τ6).trans G98
  have G99 : τ6.2.1 99 = σ.2.1 99 := (g99_τ6).trans G99
  have G100 : τ6.2.1 100 = σ.2.1 100 := (g100_τ6).trans G100
  have TX : J_vs (τ6.1 6) (τ6.1 5) (τ6.2.1 15) := by rw [show (J_vs (τ6.1 6) (τ6.1 5) (τ6.2.1 15)) = (J_vs (τ3.1 6) (τ3.1 5) (τ3.2.1 15)) from by rw [w5_τ6, w6_τ6, g15_τ6]]; exact TX
  have RKS : J_rks (τ6.1 5) (τ6.1 4) (τ6.2.1 10) (τ6.2.1 11) := by rw [show (J_rks (τ6.1 5) (τ6.1 4) (τ6.2.1 10) (τ6.2.1 11)) = (J_rks (τ3.1 5) (τ3.1 4) (τ3.2.1 10) (τ3.2.1 11)) from by rw [w4_τ6, w5_τ6, g10_τ6, g11_τ6]]; exact RKS
  have CJ : J_all (τ6.1 7) (τ6.1 6) (τ6.1 13) (τ6.1 14) (τ6.1 15) (τ6.2.1 13) (τ6.2.1 14) (τ6.2.1 15) (τ6.2.1 16) (τ6.2.1 10) (τ6.2.1 27) (τ6.2.1 28) (τ6.2.1 29) (τ6.2.1 30) (τ6.2.1 31) (τ6.2.1 32) (τ6.2.1 33) (τ6.2.1 34) (τ6.2.1 35) (τ6.2.1 36) (τ6.2.1 37) := by rw [show (J_all (τ6.1 7) (τ6.1 6) (τ6.1 13) (τ6.1 14) (τ6.1 15) (τ6.2.1 13) (τ6.2.1 14) (τ6.2.1 15) (τ6.2.1 16) (τ6.2.1 10) (τ6.2.1 27) (τ6.2.1 28) (τ6.2.1 29) (τ6.2.1 30) (τ6.2.1 31) (τ6.2.1 32) (τ6.2.1 33) (τ6.2.1 34) (τ6.2.1 35) (τ6.2.1 36) (τ6.2.1 37)) = (J_all (τ3.1 7) (τ3.1 6) (τ3.1 13) (τ3.1 14) (τ3.1 15) (τ3.2.1 13) (τ3.2.1 14) (τ3.2.1 15) (τ3.2.1 16) (τ3.2.1 10) (τ3.2.1 27) (τ3.2.1 28) (τ3.2.1 29) (τ3.2.1 30) (τ3.2.1 31) (τ3.2.1 32) (τ3.2.1 33) (τ3.2.1 34) (τ3.2.1 35) (τ3.2.1 36) (τ3.2.1 37)) from by rw [w6_τ6, w7_τ6, w13_τ6, w14_τ6, w15_τ6, g10_τ6, g13_τ6, g14_τ6, g15_τ6, g16_τ6, g27_τ6, g28_τ6, g29_τ6, g30_τ6, g31_τ6, g32_τ6, g33_τ6, g34_τ6, g35_τ6, g36_τ6, g37_τ6]]; exact CJ
  have TRE : g_tre (τ6.1 7) (τ6.1 54) (τ6.2.1 13) (τ6.2.1 14) (τ6.2.1 27) (τ6.2.1 28) (τ6.2.1 29) (τ6.2.1 84) := by rw [show (g_tre (τ6.1 7) (τ6.1 54) (τ6.2.1 13) (τ6.2.1 14) (τ6.2.1 27) (τ6.2.1 28) (τ6.2.1 29) (τ6.2.1 84)) = (g_tre (τ3.1 7) (τ3.1 54) (τ3.2.1 13) (τ3.2.1 14) (τ3.2.1 27) (τ3.2.1 28) (τ3.2.1 29) (τ3.2.1 84)) from by rw [w7_τ6, w54_τ6, g13_τ6, g14_τ6, g27_τ6, g28_τ6, g29_τ6, g84_τ6]]; exact TRE
  have SZ : ∀ v, τ6.2.1 100 v = 0 := by rw [show (∀ v, τ6.2.1 100 v = 0) = (∀ v, τ3.2.1 100 v = 0) from by rw [g100_τ6]]; exact SZ
  have A10 : ∀ j, (-1) ≤ τ6.2.1 10 j ∧ τ6.2.1 10 j ≤ 99 := fun j => hT.2 10 j
  have A11 : ∀ j, 0 ≤ τ6.2.1 11 j ∧ τ6.2.1 11 j ≤ 999 := fun j => hT.2 11 j
  have A13 : ∀ j, 0 ≤ τ6.2.1 13 j ∧ τ6.2.1 13 j ≤ 4 := fun j => hT.2 13 j
  have A14 : ∀ j, 0 ≤ τ6.2.1 14 j ∧ τ6.2.1 14 j ≤ 30000 := fun j => hT.2 14 j
  have A15 : ∀ j, 0 ≤ τ6.2.1 15 j ∧ τ6.2.1 15 j ≤ 999 := fun j => hT.2 15 j
  have A16 : ∀ j, (-1) ≤ τ6.2.1 16 j ∧ τ6.2.1 16 j ≤ 1499 := fun j => hT.2 16 j
  have A27 : ∀ j, 0 ≤ τ6.2.1 27 j ∧ τ6.2.1 27 j ≤ 90000 := fun j => hT.2 27 j
  have A28 : ∀ j, 0 ≤ τ6.2.1 28 j ∧ τ6.2.1 28 j ≤ 60 := fun j => hT.2 28 j
  have A29 : ∀ j, 0 ≤ τ6.2.1 29 j ∧ τ6.2.1 29 j ≤ 1499 := fun j => hT.2 29 j
  have A30 : ∀ j, 0 ≤ τ6.2.1 30 j ∧ τ6.2.1 30 j ≤ 20000 := fun j => hT.2 30 j
  have A31 : ∀ j, 0 ≤ τ6.2.1 31 j ∧ τ6.2.1 31 j ≤ 20000 := fun j => hT.2 31 j
  have A32 : ∀ j, 0 ≤ τ6.2.1 32 j ∧ τ6.2.1 32 j ≤ 999999 := fun j => hT.2 32 j
  have A33 : ∀ j, 0 ≤ τ6.2.1 33 j ∧ τ6.2.1 33 j ≤ 20000 := fun j => hT.2 33 j
  have A34 : ∀ j, 0 ≤ τ6.2.1 34 j ∧ τ6.2.1 34 j ≤ 20000 := fun j => hT.2 34 j
  have A35 : ∀ j, 0 ≤ τ6.2.1 35 j ∧ τ6.2.1 35 j ≤ 1499 := fun j => hT.2 35 j
  have A36 : ∀ j, 0 ≤ τ6.2.1 36 j ∧ τ6.2.1 36 j ≤ 20000 := fun j => hT.2 36 j
  have A37 : ∀ j, 0 ≤ τ6.2.1 37 j ∧ τ6.2.1 37 j ≤ 19999 := fun j => hT.2 37 j
  have A39 : ∀ j, 0 ≤ τ6.2.1 39 j ∧ τ6.2.1 39 j ≤ 1060 := fun j => hT.2 39 j
  have A40 : ∀ j, 0 ≤ τ6.2.1 40 j ∧ τ6.2.1 40 j ≤ 42000 := fun j => hT.2 40 j
  have A41 : ∀ j, (-2) ≤ τ6.2.1 41 j ∧ τ6.2.1 41 j ≤ 1000 := fun j => hT.2 41 j
  have A84 : ∀ j, 0 ≤ τ6.2.1 84 j ∧ τ6.2.1 84 j ≤ 1499 := fun j => hT.2 84 j
  have A95 : ∀ j, 0 ≤ τ6.2.1 95 j ∧ τ6.2.1 95 j ≤ 1500 := fun j => hT.2 95 j
  have A97 : ∀ j, 0 ≤ τ6.2.1 97 j ∧ τ6.2.1 97 j ≤ 1060 := fun j => hT.2 97 j
  have A98 : ∀ j, 0 ≤ τ6.2.1 98 j ∧ τ6.2.1 98 j ≤ 1048576 := fun j => hT.2 98 j
  have A99 : ∀ j, (-2) ≤ τ6.2.1 99 j ∧ τ6.2.1 99 j ≤ 600 := fun j => hT.2 99 j
  have A100 : ∀ j, 0 ≤ τ6.2.1 100 j ∧ τ6.2.1 100 j ≤ 1060 := fun j => hT.2 100 j
  have v4 : 0 ≤ τ6.1 4 ∧ τ6.1 4 ≤ 100 := hT.1 4
  have v5 : 0 ≤ τ6.1 5 ∧ τ6.1 5 ≤ 1000 := hT.1 5
  have v6 : 0 ≤ τ6.1 6 ∧ τ6.1 6 ≤ 30000 := hT.1 6
  have v7 : 0 ≤ τ6.1 7 ∧ τ6.1 7 ≤ 1500 := hT.1 7
  have v13 : 0 ≤ τ6.1 13 ∧ τ6.1 13 ≤ 90000 := hT.1 13
  have v14 : 0 ≤ τ6.1 14 ∧ τ6.1 14 ≤ 20000 := hT.1 14
  have v15 : 0 ≤ τ6.1 15 ∧ τ6.1 15 ≤ 20000 := hT.1 15
  have v17 : 0 ≤ τ6.1 17 ∧ τ6.1 17 ≤ 42000 := hT.1 17
  have v45 : 1 ≤ τ6.1 45 ∧ τ6.1 45 ≤ 30001 := hT.1 45
  have v48 : (-1) ≤ τ6.1 48 ∧ τ6.1 48 ≤ 999 := hT.1 48
  have v50 : 0 ≤ τ6.1 50 ∧ τ6.1 50 ≤ 59 := hT.1 50
  have v51 : 0 ≤ τ6.1 51 ∧ τ6.1 51 ≤ 1500 := hT.1 51
  have v52 : (-1) ≤ τ6.1 52 ∧ τ6.1 52 ≤ 99 := hT.1 52
  have v54 : 0 ≤ τ6.1 54 ∧ τ6.1 54 ≤ 12000 := hT.1 54
  have v60 : 0 ≤ τ6.1 60 ∧ τ6.1 60 ≤ 1048576 := hT.1 60
  have ev := fun z => (q4_2 z).1.2 0 (Int.le_refl _) (by omega)
  refine ⟨fun c7 => ?_, fun c7 => ?_⟩
  ·
    exact ⟨hT, (show 0 ≤ 0 ∧ 0 ≤ 1 from by (first | omega | (simp only [st_s] <;> omega) | assumption | omega | fail))⟩
  ·
    intro x8 r_x8 e_x8
    have b_x8 : (-2) ≤ x8 ∧ x8 ≤ 1000 := by rw [e_x8]; exact hT.2 41 _
    refine ⟨_, K_X3_lengthOf hT (show 0 ≤ n1 from by (first | omega | (simp only [st_s] <;> omega) | assumption | omega | fail)) (show n1 < 1500 from by (first | omega | (simp only [st_s] <;> omega) | assumption | omega | fail)), ?_⟩
    intro x10 r_x10 hq
    have q9_1 := hq
    replace q9_1 : x10 = τ6.2.1 14 (n1 + 1) - τ6.2.1 14 n1 := q9_1
    rw [G14] at q9_1
    have ev1 := ev (by assumption)
    have ev2 := (q4_2 (by assumption)).2
    rw [← e_x8] at ev2
    have ev3 := ev1.2.2.resolve_left (by rw [← e_x8]; omega)
    have ev4 := ev3.2.1
    have ev5 := (q4_2 (by assumption)).1.1
    refine ⟨(⟨by (first | omega | (simp only [st_s] <;> omega) | assumption | omega | fail), by (first | omega | (simp only [st_s] <;> omega) | assumption | omega | fail)⟩ : rg (x10 - 1)), ?_⟩
    refine ⟨fun c13 => ?_, fun c13 => ?_⟩
    ·
      exact l_52 ((1002 - 0 : Int).toNat + 1) _ _ (show (1002 - 0 : Int) < (((1002 - 0 : Int).toNat + 1 : Nat) : Int) from by ((first | omega | (simp only [st_s] <;> omega) | assumption | omega | fail))) hT (show τ6.1 4 = σ.1 4 from by first | exact W4 | omega) (show τ6.1 5 = σ.1 5 from by first | exact W5 | omega) (show τ6.1 6 = σ.1 6 from by first | exact W6 | omega) (show τ6.1 7 = σ.1 7 from by first | exact W7 | omega) (show τ6.1 13 = σ.1 13 from by first | exact W13 | omega) (show τ6.1 14 = σ.1 14 from by first | exact W14 | omega) (show τ6.1 15 = σ.1 15 from by first | exact W15 | omega) (show τ6.1 45 = σ.1 45 from by first | exact W45 | omega) (show τ6.1 48 = σ.1 48 from by first | exact W48 | omega) (show τ6.1 50 = σ.1 50 from by first | exact W50 | omega) (show τ6.1 51 = σ.1 51 from by first | exact W51 | omega) (show τ6.1 52 = σ.1 52 from by first | exact W52 | omega) (show τ6.1 60 = σ.1 60 from by first | exact W60 | omega) G10 G11 G13 G14 G15 G16 G27 G28 G29 G30 G31 G32 G33 G34 G35 G36 G37 G95 G97 G98 G99 G100 (show 0 ≤ 0 ∧ 0 ≤ 1001 from by (first | omega | (simp only [st_s] <;> omega) | assumption | omega | fail)) (show 0 ≤ τ6.2.1 40 0 ∧ τ6.2.1 40 0 + τ6.2.1 41 0 ≤ 42000 from by (first | omega | (simp only [st_s] <;> omega) | assumption | omega | fail)) (show τ6.2.1 41 0 = σ.2.1 14 (n1 + 1) - σ.2.1 14 n1 - 1 from by (first | omega | (simp only [st_s] <;> omega) | assumption | omega | fail))
    ·
      exact ⟨hT, (show 0 ≤ 0 ∧ 0 ≤ 1 from by (first | omega | (simp only [st_s] <;> omega) | assumption | omega | fail))⟩
set_option maxHeartbeats 4000000 in
theorem K_X12_check {lb : Nat} {In0 : Int → Prop} {σ : S0} (hT : c_T σ) (p1 : J_all (σ.1 7) (σ.1 6) (σ.1 13) (σ.1 14) (σ.1 15) (σ.2.1 13) (σ.2.1 14) (σ.2.1 15) (σ.2.1 16) (σ.2.1 10) (σ.2.1 27) (σ.2.1 28) (σ.2.1 29) (σ.2.1 30) (σ.2.1 31) (σ.2.1 32) (σ.2.1 33) (σ.2.1 34) (σ.2.1 35) (σ.2.1 36) (σ.2.1 37)) (p2 : J_ht (σ.1 3) (σ.2.1 2) (σ.2.1 3) (σ.2.1 5) (σ.2.1 6)) (p3 : J_mn (σ.1 3) (σ.1 5) ((σ.1 7) + 1) (σ.2.1 4)) (p4 : J_rks (σ.1 5) (σ.1 4) (σ.2.1 10) (σ.2.1 11)) (p5 : J_vs (σ.1 6) (σ.1 5) (σ.2.1 15)) (p6 : J_bp (σ.2.1 44) (σ.2.1 45)) (p7 : c_GM In0 σ) (p8 : ∀ v, σ.2.1 100 v = 0) (p9 : c_DB lb σ) : W_X12_check lb σ (fun (x : Int) (τ : S0) => (c_T τ) ∧ (c_GM In0 τ) ∧ (J_bp (τ.2.1 44) (τ.2.1 45)) ∧ (c_DB lb τ)) := by
  have A2 : ∀ j, 0 ≤ σ.2.1 2 j ∧ σ.2.1 2 j ≤ 65535 := fun j => hT.2 2 j
  have A3 : ∀ j, 0 ≤ σ.2.1 3 j ∧ σ.2.1 3 j ≤ 30000 := fun j => hT.2 3 j
  have A4 : ∀ j, (-1000) ≤ σ.2.1 4 j ∧ σ.2.1 4 j ≤ 1499 := fun j => hT.2 4 j
  have A5 : ∀ j, 0 ≤ σ.2.1 5 j ∧ σ.2.1 5 j ≤ 2500 := fun j => hT.2 5 j
  have A6 : ∀ j, 0 ≤ σ.2.1 6 j ∧ σ.2.1 6 j ≤ 2500 := fun j => hT.2 6 j
  have A8 : ∀ j, 0 ≤ σ.2.1 8 j ∧ σ.2.1 8 j ≤ 1 := fun j => hT.2 8 j
  have A10 : ∀ j, (-1) ≤ σ.2.1 10 j ∧ σ.2.1 10 j ≤ 99 := fun j => hT.2 10 j
  have A11 : ∀ j, 0 ≤ σ.2.1 11 j ∧ σ.2.1 11 j ≤ 999 := fun j => hT.2 11 j
  have A13 : ∀ j, 0 ≤ σ.2.1 13 j ∧ σ.2.1 13 j ≤ 4 := fun j => hT.2 13 j
  have A14 : ∀ j, 0 ≤ σ.2.1 14 j ∧ σ.2.1 14 j ≤ 30000 := fun j => hT.2 14 j
  have A15 : ∀ j, 0 ≤ σ.2.1 15 j ∧ σ.2.1 15 j ≤ 999 := fun j => hT.2 15 j
  have A16 : ∀ j, (-1) ≤ σ.2.1 16 j ∧ σ.2.1 16 j ≤ 1499 := fun j => hT.2 16 j
  have A27 : ∀ j, 0 ≤ σ.2.1 27 j ∧ σ.2.1 27 j ≤ 90000 := fun j => hT.2 27 j
  have A28 : ∀ j, 0 ≤ σ.2.1 28 j ∧ σ.2.1 28 j ≤ 60 := fun j => hT.2 28 j
  have A29 : ∀ j, 0 ≤ σ.2.1 29 j ∧ σ.2.1 29 j ≤ 1499 := fun j => hT.2 29 j
  have A30 : ∀ j, 0 ≤ σ.2.1 30 j ∧ σ.2.1 30 j ≤ 20000 := fun j => hT.2 30 j
  have A31 : ∀ j, 0 ≤ σ.2.1 31 j ∧ σ.2.1 31 j ≤ 20000 := fun j => hT.2 31 j
  have A32 : ∀ j, 0 ≤ σ.2.1 32 j ∧ σ.2.1 32 j ≤ 999999 := fun j => hT.2 32 j
  have A33 : ∀ j, 0 ≤ σ.2.1 33 j ∧ σ.2.1 33 j ≤ 20000 := fun j => hT.2 33 j
  have A34 : ∀ j, 0 ≤ σ.2.1 34 j ∧ σ.2.1 34 j ≤ 20000 := fun j => hT.2 34 j
  have A35 : ∀ j, 0 ≤ σ.2.1 35 j ∧ σ.2.1 35 j ≤ 1499 := fun j => hT.2 35 j
  have A36 : ∀ j, 0 ≤ σ.2.1 36 j ∧ σ.2.1 36 j ≤ 20000 := fun j => hT.2 36 j
  have A37 : ∀ j, 0 ≤ σ.2.1 37 j ∧ σ.2.1 37 j ≤ 19999 := fun j => hT.2 37 j
  have A44 : ∀ j, 0 ≤ σ.2.1 44 j ∧ σ.2.1 44 j ≤ 42000 := fun j => hT.2 44 j
  have A45 : ∀ j, 0 ≤ σ.2.1 45 j ∧ σ.2.1 45 j ≤ 1000 := fun j => hT.2 45 j
  have A67 : ∀ j, 0 ≤ σ.2.1 67 j ∧ σ.2.1 67 j ≤ 30000 := fun j => hT.2 67 j
  have A68 : ∀ j, 0 ≤ σ.2.1 68 j ∧ σ.2.1 68 j ≤ 30000 := fun j => hT.2 68 j
  have A69 : ∀ j, (-100) ≤ σ.2.1 69 j ∧ σ.2.1 69 j ≤ 999 := fun j => hT.2 69 j
  have A70 : ∀ j, 0 ≤ σ.2.1 70 j ∧ σ.2.1 70 j ≤ 1499 := fun j => hT.2 70 j
  have A71 : ∀ j, 0 ≤ σ.2.1 71 j ∧ σ.2.1 71 j ≤ 1500 := fun j => hT.2 71 j
  have A72 : ∀ j, 0 ≤ σ.2.1 72 j ∧ σ.2.1 72 j ≤ 1500 := fun j => hT.2 72 j
  have A73 : ∀ j, 0 ≤ σ.2.1 73 j ∧ σ.2.1 73 j ≤ 30000 := fun j => hT.2 73 j
  have A74 : ∀ j, 0 ≤ σ.2.1 74 j ∧ σ.2.1 74 j ≤ 30000 := fun j => hT.2 74 j
  have A75 : ∀ j, 0 ≤ σ.2.1 75 j ∧ σ.2.1 75 j ≤ 1499 := fun j => hT.2 75 j
  have A76 : ∀ j, 0 ≤ σ.2.1 76 j ∧ σ.2.1 76 j ≤ 99 := fun j => hT.2 76 j
  have A77 : ∀ j, 0 ≤ σ.2.1 77 j ∧ σ.2.1 77 j ≤ 999 := fun j => hT.2 77 j
  have A78 : ∀ j, (-1) ≤ σ.2.1 78 j ∧ σ.2.1 78 j ≤ 1499 := fun j => hT.2 78 j
  have A100 : ∀ j, 0 ≤ σ.2.1 100 j ∧ σ.2.1 100 j ≤ 1060 := fun j => hT.2 100 j
  have v3 : 0 ≤ σ.1 3 ∧ σ.1 3 ≤ 2500 := hT.1 3
  have v4 : 0 ≤ σ.1 4 ∧ σ.1 4 ≤ 100 := hT.1 4
  have v5 : 0 ≤ σ.1 5 ∧ σ.1 5 ≤ 1000 := hT.1 5
  have v6 : 0 ≤ σ.1 6 ∧ σ.1 6 ≤ 30000 := hT.1 6
  have v7 : 0 ≤ σ.1 7 ∧ σ.1 7 ≤ 1500 := hT.1 7
  have v13 : 0 ≤ σ.1 13 ∧ σ.1 13 ≤ 90000 := hT.1 13
  have v14 : 0 ≤ σ.1 14 ∧ σ.1 14 ≤ 20000 := hT.1 14
  have v15 : 0 ≤ σ.1 15 ∧ σ.1 15 ≤ 20000 := hT.1 15
  have v49 : (-1) ≤ σ.1 49 ∧ σ.1 49 ≤ 999 := hT.1 49
  have W3 : σ.1 3 = σ.1 3 := rfl
  have W4 : σ.1 4 = σ.1 4 := rfl
  have W5 : σ.1 5 = σ.1 5 := rfl
  have W6 : σ.1 6 = σ.1 6 := rfl
  have W7 : σ.1 7 = σ.1 7 := rfl
  have W13 : σ.1 13 = σ.1 13 := rfl
  have W14 : σ.1 14 = σ.1 14 := rfl
  have W15 : σ.1 15 = σ.1 15 := rfl
  have G2 : σ.2.1 2 = σ.2.1 2 := rfl
  have G3 : σ.2.1 3 = σ.2.1 3 := rfl
  have G4 : σ.2.1 4 = σ.2.1 4 := rfl
  have G5 : σ.2.1 5 = σ.2.1 5 := rfl
  have G6 : σ.2.1 6 = σ.2.1 6 := rfl
  have G8 : σ.2.1 8 = σ.2.1 8 := rfl
  have G10 : σ.2.1 10 = σ.2.1 10 := rfl
  have G11 : σ.2.1 11 = σ.2.1 11 := rfl
  have G13 : σ.2.1 13 = σ.2.1 13 := rfl
  have G14 : σ.2.1 14 = σ.2.1 14 := rfl
  have G15 : σ.2.1 15 = σ.2.1 15 := rfl
  have G16 : σ.2.1 16 = σ.2.1 16 := rfl
  have G27 : σ.2.1 27 = σ.2.1 27 := rfl
  have G28 : σ.2.1 28 = σ.2.1 28 := rfl
  have G29 : σ.2.1 29 = σ.2.1 29 := rfl
  have G30 : σ.2.1 30 = σ.2.1 30 := rfl
  have G31 : σ.2.1 31 = σ.2.1 31 := rfl
  have G32 : σ.2.1 32 = σ.2.1 32 := rfl
  have G33 : σ.2.1 33 = σ.2.1 33 := rfl
  have G34 : σ.2.1 34 = σ.2.1 34 := rfl
  have G35 : σ.2.1 35 = σ.2.1 35 := rfl
  have G36 : σ.2.1 36 = σ.2.1 36 := rfl
  have G37 : σ.2.1 37 = σ.2.1 37 := rfl
  have G100 : σ.2.1 100 = σ.2.1 100 := rfl
  intro P2 P56 h2 h56
  have HT : J_ht (σ.1 3) (σ.2.1 2) (σ.2.1 3) (σ.2.1 5) (σ.2.1 6) := p2
  have MN : J_mn (σ.1 3) (σ.1 5) ((σ.1 7) + 1) (σ.2.1 4) := p3
  have TX : J_vs (σ.1 6) (σ.1 5) (σ.2.1 15) := p5
  have RKS : J_rks (σ.1 5) (σ.1 4) (σ.2.1 10) (σ.2.1 11) := p4
  have CJ : J_all (σ.1 7) (σ.1 6) (σ.1 13) (σ.1 14) (σ.1 15) (σ.2.1 13) (σ.2.1 14) (σ.2.1 15) (σ.2.1 16) (σ.2.1 10) (σ.2.1 27) (σ.2.1 28) (σ.2.1 29) (σ.2.1 30) (σ.2.1 31) (σ.2.1 32) (σ.2.1 33) (σ.2.1 34) (σ.2.1 35) (σ.2.1 36) (σ.2.1 37) := p1
  have BP : J_bp (σ.2.1 44) (σ.2.1 45) := p6
  have SZ : ∀ v, σ.2.1 100 v = 0 := p8
  have BP_0 := BP
  have CJ_0 := CJ
  have HT_0 := HT
  have MN_0 := MN
  have RKS_0 := RKS
  have SZ_0 := SZ
  have TX_0 := TX
  have l_56 : ∀ (m_56 : Nat) (u1_56 : Int) (τ_56 : S0), 1501 - u1_56 < (m_56 : Int) → (c_T τ_56) → (τ_56.1 3 = σ.1 3) → (τ_56.1 4 = σ.1 4) → (τ_56.1 5 = σ.1 5) → (τ_56.1 6 = σ.1 6) → (τ_56.1 7 = σ.1 7) → (τ_56.1 13 = σ.1 13) → (τ_56.1 14 = σ.1 14) → (τ_56.1 15 = σ.1 15) → (τ_56.2.1 2 = σ.2.1 2) → (τ_56.2.1 3 = σ.2.1 3) → (τ_56.2.1 4 = σ.2.1 4) → (τ_56.2.1 5 = σ.2.1 5) → (τ_56.2.1 6 = σ.2.1 6) → (τ_56.2.1 8 = σ.2.1 8) → (τ_56.2.1 10 = σ.2.1 10) → (τ_56.2.1 11 = σ.2.1 11) → (τ_56.2.1 13 = σ.2.1 13) → (τ_56.2.1 14 = σ.2.1 14) → (τ_56.2.1 15 = σ.2.1 15) → (τ_56.2.1 16 = σ.2.1 16) → (τ_56.2.1 27 = σ.2.1 27) → (τ_56.2.1 28 = σ.2.1 28) → (τ_56.2.1 29 = σ.2.1 29) → (τ_56.2.1 30 = σ.2.1 30) → (τ_56.2.1 31 = σ.2.1 31) → (τ_56.2.1 32 = σ.2.1 32) → (τ_56.2.1 33 = σ.2.1 33) → (τ_56.2.1 34 = σ.2.1 34) → (τ_56.2.1 35 = σ.2.1 35) → (τ_56.2.1 36 = σ.2.1 36) → (τ_56.2.1 37 = σ.2.1 37) → (τ_56.2.1 100 = σ.2.1 100) → (0 ≤ u1_56 ∧ u1_56 ≤ 1500) → (c_GM In0 τ_56) → (J_bp (τ_56.2.1 44) (τ_56.2.1 45)) → (c_DB lb τ_56) → P56 u1_56 τ_56 := by
    intro m_56
    induction m_56 with
    | zero =>
      intro u1_56 τ_56 hm hT W3 W4 W5 W6 W7 W13 W14 W15 G2 G3 G4 G5 G6 G8 G10 G11 G13 G14 G15 G16 G27 G28 G29 G30 G31 G32 G33 G34 G35 G36 G37 G100 i56_1 i56_2 i56_3 i56_4
      have A2 : ∀ j, 0 ≤ τ_56.2.1 2 j ∧ τ_56.2.1 2 j ≤ 65535 := fun j => hT.2 2 j
      have A3 : ∀ j, 0 ≤ τ_56.2.1 3 j ∧ τ_56.2.1 3 j ≤ 30000 := fun j => hT.2 3 j
      have A4 : ∀ j, (-1000) ≤ τ_56.2.1 4 j ∧ τ_56.2.1 4 j ≤ 1499 := fun j => hT.2 4 j
      have A5 : ∀ j, 0 ≤ τ_56.2.1 5 j ∧ τ_56.2.1 5 j ≤ 2500 := fun j => hT.2 5 j
      have A6 : ∀ j, 0 ≤ τ_56.2.1 6 j ∧ τ_56.2.1 6 j ≤ 2500 := fun j => hT.2 6 j
      have A8 : ∀ j, 0 ≤ τ_56.2.1 8 j ∧ τ_56.2.1 8 j ≤ 1 := fun j => hT.2 8 j
      have A10 : ∀ j, (-1) ≤ τ_56.2.1 10 j ∧ τ_56.2.1 10 j ≤ 99 := fun j => hT.2 10 j
      have A11 : ∀ j, 0 ≤ τ_56.2.1 11 j ∧ τ_56.2.1 11 j ≤ 999 := fun j => hT.2 11 j
      have A13 : ∀ j, 0 ≤ τ_56.2.1 13 j ∧ τ_56.2.1 13 j ≤ 4 := fun j => hT.2 13 j
      have A14 : ∀ j, 0 ≤ τ_56.2.1 14 j ∧ τ_56.2.1 14 j ≤ 30000 := fun j => hT.2 14 j
      have A15 : ∀ j, 0 ≤ τ_56.2.1 15 j ∧ τ_56.2.1 15 j ≤ 999 := fun j => hT.2 15 j
      have A16 : ∀ j, (-1) ≤ τ_56.2.1 16 j ∧ τ_56.2.1 16 j ≤ 1499 := fun j => hT.2 16 j
      have A27 : ∀ j, 0 ≤ τ_56.2.1 27 j ∧ τ_56.2.1 27 j ≤ 90000 := fun j => hT.2 27 j
      have A28 : ∀ j, 0 ≤ τ_56.2.1 28 j ∧ τ_56.2.1 28 j ≤ 60 := fun j => hT.2 28 j
      have A29 : ∀ j, 0 ≤ τ_56.2.1 29 j ∧ τ_56.2.1 29 j ≤ 1499 := fun j => hT.2 29 j
      have A30 : ∀ j, 0 ≤ τ_56.2.1 30 j ∧ τ_56.2.1 30 j ≤ 20000 := fun j => hT.2 30 j
      have A31 : ∀ j, 0 ≤ τ_56.2.1 31 j ∧ τ_56.2.1 31 j ≤ 20000 := fun j => hT.2 31 j
      have A32 : ∀ j, 0 ≤ τ_56.2.1 32 j ∧ τ_56.2.1 32 j ≤ 999999 := fun j => hT.2 32 j
      have A33 : ∀ j, 0 ≤ τ_56.2.1 33 j ∧ τ_56.2.1 33 j ≤ 20000 := fun j => hT.2 33 j
      have A34 : ∀ j, 0 ≤ τ_56.2.1 34 j ∧ τ_56.2.1 34 j ≤ 20000 := fun j => hT.2 34 j
      have A35 : ∀ j, 0 ≤ τ_56.2.1 35 j ∧ τ_56.2.1 35 j ≤ 1499 := fun j => hT.2 35 j
      have A36 : ∀ j, 0 ≤ τ_56.2.1 36 j ∧ τ_56.2.1 36 j ≤ 20000 := fun j => hT.2 36 j
      have A37 : ∀ j, 0 ≤ τ_56.2.1 37 j ∧ τ_56.2.1 37 j ≤ 19999 := fun j => hT.2 37 j
      have A44 : ∀ j, 0 ≤ τ_56.2.1 44 j ∧ τ_56.2.1 44 j ≤ 42000 := fun j => hT.2 44 j
      have A45 : ∀ j, 0 ≤ τ_56.2.1 45 j ∧ τ_56.2.1 45 j ≤ 1000 := fun j => hT.2 45 j
      have A67 : ∀ j, 0 ≤ τ_56.2.1 67 j ∧ τ_56.2.1 67 j ≤ 30000 := fun j => hT.2 67 j
      have A68 : ∀ j, 0 ≤ τ_56.2.1 68 j ∧ τ_56.2.1 68 j ≤ 30000 := fun j => hT.2 68 j
      have A69 : ∀ j, (-100) ≤ τ_56.2.1 69 j ∧ τ_56.2.1 69 j ≤ 999 := fun j => hT.2 69 j
      have A70 : ∀ j, 0 ≤ τ_56.2.1 70 j ∧ τ_56.2.1 70 j ≤ 1499 := fun j => hT.2 70 j
      have A71 : ∀ j, 0 ≤ τ_56.2.1 71 j ∧ τ_56.2.1 71 j ≤ 1500 := fun j => hT.2 71 j
      have A72 : ∀ j, 0 ≤ τ_56.2.1 72 j ∧ τ_56.2.1 72 j ≤ 1500 := fun j => hT.2 72 j
      have A73 : ∀ j, 0 ≤ τ_56.2.1 73 j ∧ τ_56.2.1 73 j ≤ 30000 := fun j => hT.2 73 j
      have A74 : ∀ j, 0 ≤ τ_56.2.1 74 j ∧ τ_56.2.1 74 j ≤ 30000 := fun j => hT.2 74 j
      have A75 : ∀ j, 0 ≤ τ_56.2.1 75 j ∧ τ_56.2.1 75 j ≤ 1499 := fun j => hT.2 75 j
      have A76 : ∀ j, 0 ≤ τ_56.2.1 76 j ∧ τ_56.2.1 76 j ≤ 99 := fun j => hT.2 76 j
      have A77 : ∀ j, 0 ≤ τ_56.2.1 77 j ∧ τ_56.2.1 77 j ≤ 999 := fun j => hT.2 77 j
      have A78 : ∀ j, (-1) ≤ τ_56.2.1 78 j ∧ τ_56.2.1 78 j ≤ 1499 := fun j => hT.2 78 j
      have A100 : ∀ j, 0 ≤ τ_56.2.1 100 j ∧ τ_56.2.1 100 j ≤ 1060 := fun j => hT.2 100 j
      have v3 : 0 ≤ τ_56.1 3 ∧ τ_56.1 3 ≤ 2500 := hT.1 3
      have v4 : 0 ≤ τ_56.1 4 ∧ τ_56.1 4 ≤ 100 := hT.1 4
      have v5 : 0 ≤ τ_56.1 5 ∧ τ_56.1 5 ≤ 1000 := hT.1 5
      have v6 : 0 ≤ τ_56.1 6 ∧ τ_56.1 6 ≤ 30000 := hT.1 6
      have v7 : 0 ≤ τ_56.1 7 ∧ τ_56.1 7 ≤ 1500 := hT.1 7
      have v13 : 0 ≤ τ_56.1 13 ∧ τ_56.1 13 ≤ 90000 := hT.1 13
      have v14 : 0 ≤ τ_56.1 14 ∧ τ_56.1 14 ≤ 20000 := hT.1 14
      have v15 : 0 ≤ τ_56.1 15 ∧ τ_56.1 15 ≤ 20000 := hT.1 15
      have v49 : (-1) ≤ τ_56.1 49 ∧ τ_56.1 49 ≤ 999 := hT.1 49
      exfalso; (first | omega | (simp only [st_s] <;> omega) | assumption | omega | fail)
    | succ m_56 ih_56 =>
      intro u1_56 τ_56 hm_56 hT W3 W4 W5 W6 W7 W13 W14 W15 G2 G3 G4 G5 G6 G8 G10 G11 G13 G14 G15 G16 G27 G28 G29 G30 G31 G32 G33 G34 G35 G36 G37 G100 i56_1 i56_2 i56_3 i56_4
      have A2 : ∀ j, 0 ≤ τ_56.2.1 2 j ∧ τ_56.2.1 2 j ≤ 65535 := fun j => hT.2 2 j
      have A3 : ∀ j, 0 ≤ τ_56.2.1 3 j ∧ τ_56.2.1 3 j ≤ 30000 := fun j => hT.2 3 j
      have A4 : ∀ j, (-1000) ≤ τ_56.2.1 4 j ∧ τ_56.2.1 4 j ≤ 1499 := fun j => hT.2 4 j
      have A5 : ∀ j, 0 ≤ τ_56.2.1 5 j ∧ τ_56.2.1 5 j ≤ 2500 := fun j => hT.2 5 j
      have A6 : ∀ j, 0 ≤ τ_56.2.1 6 j ∧ τ_56.2.1 6 j ≤ 2500 := fun j => hT.2 6 j
      have A8 : ∀ j, 0 ≤ τ_56.2.1 8 j ∧ τ_56.2.1 8 j ≤ 1 := fun j => hT.2 8 j
      have A10 : ∀ j, (-1) ≤ τ_56.2.1 10 j ∧ τ_56.2.1 10 j ≤ 99 := fun j => hT.2 10 j
      have A11 : ∀ j, 0 ≤ τ_56.2.1 11 j ∧ τ_56.2.1 11 j ≤ 999 := fun j => hT.2 11 j
      have A13 : ∀ j, 0 ≤ τ_56.2.1 13 j ∧ τ_56.2.1 13 j ≤ 4 := fun j => hT.2 13 j
      have A14 : ∀ j, 0 ≤ τ_56.2.1 14 j ∧ τ_56.2.1 14 j ≤ 30000 := fun j => hT.2 14 j
      have A15 : ∀ j, 0 ≤ τ_56.2.1 15 j ∧ τ_56.2.1 15 j ≤ 999 := fun j => hT.2 15 j
      have A16 : ∀ j, (-1) ≤ τ_56.2.1 16 j ∧ τ_56.2.1 16 j ≤ 1499 := fun j => hT.2 16 j
      have A27 : ∀ j, 0 ≤ τ_56.2.1 27 j ∧ τ_56.2.1 27 j ≤ 90000 := fun j => hT.2 27 j
      have A28 : ∀ j, 0 ≤ τ_56.2.1 28 j ∧ τ_56.2.1 28 j ≤ 60 := fun j => hT.2 28 j
      have A29 : ∀ j, 0 ≤ τ_56.2.1 29 j ∧ τ_56.2.1 29 j ≤ 1499 := fun j => hT.2 29 j
      have A30 : ∀ j, 0 ≤ τ_56.2.1 30 j ∧ τ_56.2.1 30 j ≤ 20000 := fun j => hT.2 30 j
      have A31 : ∀ j, 0 ≤ τ_56.2.1 31 j ∧ τ_56.2.1 31 j ≤ 20000 := fun j => hT.2 31 j
      have A32 : ∀ j, 0 ≤ τ_56.2.1 32 j ∧ τ_56.2.1 32 j ≤ 999999 := fun j => hT.2 32 j
      have A33 : ∀ j, 0 ≤ τ_56.2.1 33 j ∧ τ_56.2.1 33 j ≤ 20000 := fun j => hT.2 33 j
      have A34 : ∀ j, 0 ≤ τ_56.2.1 34 j ∧ τ_56.2.1 34 j ≤ 20000 := fun j => hT.2 34 j
      have A35 : ∀ j, 0 ≤ τ_56.2.1 35 j ∧ τ_56.2.1 35 j ≤ 1499 := fun j => hT.2 35 j
      have A36 : ∀ j, 0 ≤ τ_56.2.1 36 j ∧ τ_56.2.1 36 j ≤ 20000 := fun j => hT.2 36 j
      have A37 : ∀ j, 0 ≤ τ_56.2.1 37 j ∧ τ_56.2.1 37 j ≤ 19999 := fun j => hT.2 37 j
      have A44 : ∀ j, 0 ≤ τ_56.2.1 44 j ∧ τ_56.2.1 44 j ≤ 42000 := fun j => hT.2 44 j
      have A45 : ∀ j, 0 ≤ τ_56.2.1 45 j ∧ τ_56.2.1 45 j ≤ 1000 := fun j => hT.2 45 j
      have A67 : ∀ j, 0 ≤ τ_56.2.1 67 j ∧ τ_56.2.1 67 j ≤ 30000 := fun j => hT.2 67 j
      have A68 : ∀ j, 0 ≤ τ_56.2.1 68 j ∧ τ_56.2.1 68 j ≤ 30000 := fun j => hT.2 68 j
      have A69 : ∀ j, (-100) ≤ τ_56.2.1 69 j ∧ τ_56.2.1 69 j ≤ 999 := fun j => hT.2 69 j
      have A70 : ∀ j, 0 ≤ τ_56.2.1 70 j ∧ τ_56.2.1 70 j ≤ 1499 := fun j => hT.2 70 j
      have A71 : ∀ j, 0 ≤ τ_56.2.1 71 j ∧ τ_56.2.1 71 j ≤ 1500 := fun j => hT.2 71 j
      have A72 : ∀ j, 0 ≤ τ_56.2.1 72 j ∧ τ_56.2.1 72 j ≤ 1500 := fun j => hT.2 72 j
      have A73 : ∀ j, 0 ≤ τ_56.2.1 73 j ∧ τ_56.2.1 73 j ≤ 30000 := fun j => hT.2 73 j
      have A74 : ∀ j, 0 ≤ τ_56.2.1 74 j ∧ τ_56.2.1 74 j ≤ 30000 := fun j => hT.2 74 j
      have A75 : ∀ j, 0 ≤ τ_56.2.1 75 j ∧ τ_56.2.1 75 j ≤ 1499 := fun j => hT.2 75 j
      have A76 : ∀ j, 0 ≤ τ_56.2.1 76 j ∧ τ_56.2.1 76 j ≤ 99 := fun j => hT.2 76 j
      have A77 : ∀ j, 0 ≤ τ_56.2.1 77 j ∧ τ_56.2.1 77 j ≤ 999 := fun j => hT.2 77 j
      have A78 : ∀ j, (-1) ≤ τ_56.2.1 78 j ∧ τ_56.2.1 78 j ≤ 1499 := fun j => hT.2 78 j
      have A100 : ∀ j, 0 ≤ τ_56.2.1 100 j ∧ τ_56.2.1 100 j ≤ 1060 := fun j => hT.2 100 j
      have v3 : 0 ≤ τ_56.1 3 ∧ τ_56.1 3 ≤ 2500 := hT.1 3
      have v4 : 0 ≤ τ_56.1 4 ∧ τ_56.1 4 ≤ 100 := hT.1 4
      have v5 : 0 ≤ τ_56.1 5 ∧ τ_56.1 5 ≤ 1000 := hT.1 5
      have v6 : 0 ≤ τ_56.1 6 ∧ τ_56.1 6 ≤ 30000 := hT.1 6
      have v7 : 0 ≤ τ_56.1 7 ∧ τ_56.1 7 ≤ 1500 := hT.1 7
      have v13 : 0 ≤ τ_56.1 13 ∧ τ_56.1 13 ≤ 90000 := hT.1 13
      have v14 : 0 ≤ τ_56.1 14 ∧ τ_56.1 14 ≤ 20000 := hT.1 14
      have v15 : 0 ≤ τ_56.1 15 ∧ τ_56.1 15 ≤ 20000 := hT.1 15
      have v49 : (-1) ≤ τ_56.1 49 ∧ τ_56.1 49 ≤ 999 := hT.1 49
      have HT : J_ht (τ_56.1 3) (τ_56.2.1 2) (τ_56.2.1 3) (τ_56.2.1 5) (τ_56.2.1 6) := by rw [show (J_ht (τ_56.1 3) (τ_56.2.1 2) (τ_56.2.1 3) (τ_56.2.1 5) (τ_56.2.1 6)) = (J_ht (σ.1 3) (σ.2.1 2) (σ.2.1 3) (σ.2.1 5) (σ.2.1 6)) from by rw [W3, G2, G3, G5, G6]]; exact HT_0
      have MN : J_mn (τ_56.1 3) (τ_56.1 5) ((τ_56.1 7) + 1) (τ_56.2.1 4) := by rw [show (J_mn (τ_56.1 3) (τ_56.1 5) ((τ_56.1 7) + 1) (τ_56.2.1 4)) = (J_mn (σ.1 3) (σ.1 5) ((σ.1 7) + 1) (σ.2.1 4)) from by rw [W3, W5, W7, G4]]; exact MN_0
      have TX : J_vs (τ_56.1 6) (τ_56.1 5) (τ_56.2.1 15) := by rw [show (J_vs (τ_56.1 6) (τ_56.1 5) (τ_56.2.1 15)) = (J_vs (σ.1 6) (σ.1 5) (σ.2.1 15)) from by rw [W5, W6, G15]]; exact TX_0
      have RKS : J_rks (τ_56.1 5) (τ_56.1 4) (τ_56.2.1 10) (τ_56.2.1 11) := by rw [show (J_rks (τ_56.1 5) (τ_56.1 4) (τ_56.2.1 10) (τ_56.2.1 11)) = (J_rks (σ.1 5) (σ.1 4) (σ.2.1 10) (σ.2.1 11)) from by rw [W4, W5, G10, G11]]; exact RKS_0
      have CJ : J_all (τ_56.1 7) (τ_56.1 6) (τ_56.1 13) (τ_56.1 14) (τ_56.1 15) (τ_56.2.1 13) (τ_56.2.1 14) (τ_56.2.1 15) (τ_56.2.1 16) (τ_56.2.1 10) (τ_56.2.1 27) (τ_56.2.1 28) (τ_56.2.1 29) (τ_56.2.1 30) (τ_56.2.1 31) (τ_56.2.1 32) (τ_56.2.1 33) (τ_56.2.1 34) (τ_56.2.1 35) (τ_56.2.1 36) (τ_56.2.1 37) := by rw [show (J_all (τ_56.1 7) (τ_56.1 6) (τ_56.1 13) (τ_56.1 14) (τ_56.1 15) (τ_56.2.1 13) (τ_56.2.1 14) (τ_56.2.1 15) (τ_56.2.1 16) (τ_56.2.1 10) (τ_56.2.1 27) (τ_56.2.1 28) (τ_56.2.1 29) (τ_56.2.1 30) (τ_56.2.1 31) (τ_56.2.1 32) (τ_56.2.1 33) (τ_56.2.1 34) (τ_56.2.1 35) (τ_56.2.1 36) (τ_56.2.1 37)) = (J_all (σ.1 7) (σ.1 6) (σ.1 13) (σ.1 14) (σ.1 15) (σ.2.1 13) (σ.2.1 14) (σ.2.1 15) (σ.2.1 16) (σ.2.1 10) (σ.2.1 27) (σ.2.1 28) (σ.2.1 29) (σ.2.1 30) (σ.2.1 31) (σ.2.1 32) (σ.2.1 33) (σ.2.1 34) (σ.2.1 35) (σ.2.1 36) (σ.2.1 37)) from by rw [W6, W7, W13, W14, W15, G10, G13, G14, G15, G16, G27, G28, G29, G30, G31, G32, G33, G34, G35, G36, G37]]; exact CJ_0
      have BP : J_bp (τ_56.2.1 44) (τ_56.2.1 45) := i56_3
      have SZ : ∀ v, τ_56.2.1 100 v = 0 := by rw [show (∀ v, τ_56.2.1 100 v = 0) = (∀ v, σ.2.1 100 v = 0) from by rw [G100]]; exact SZ_0
      refine h56 u1_56 τ_56 ?_
      refine ⟨fun c13 => ?_, fun c13 => ?_⟩
      ·
        exact ⟨hT, (show c_GM In0 τ_56 from by (first | omega | (simp only [st_s] <;> omega) | assumption | omega | fail)), (show J_bp (τ_56.2.1 44) (τ_56.2.1 45) from BP), (show c_DB lb τ_56 from by (first | omega | (simp only [st_s] <;> omega) | assumption | omega | fail))⟩
      ·
        refine ⟨_, K_X12_treesOf hT (show 0 ≤ u1_56 from by (first | omega | (simp only [st_s] <;> omega) | assumption | omega | fail)) (show u1_56 < (τ_56.1 7) from by (first | omega | (simp only [st_s] <;> omega) | assumption | omega | fail)) (show J_all (τ_56.1 7) (τ_56.1 6) (τ_56.1 13) (τ_56.1 14) (τ_56.1 15) (τ_56.2.1 13) (τ_56.2.1 14) (τ_56.2.1 15) (τ_56.2.1 16) (τ_56.2.1 10) (τ_56.2.1 27) (τ_56.2.1 28) (τ_56.2.1 29) (τ_56.2.1 30) (τ_56.2.1 31) (τ_56.2.1 32) (τ_56.2.1 33) (τ_56.2.1 34) (τ_56.2.1 35) (τ_56.2.1 36) (τ_56.2.1 37) from CJ) (show J_ht (τ_56.1 3) (τ_56.2.1 2) (τ_56.2.1 3) (τ_56.2.1 5) (τ_56.2.1 6) from HT) (show J_mn (τ_56.1 3) (τ_56.1 5) ((τ_56.1 7) + 1) (τ_56.2.1 4) from MN) (show J_rks (τ_56.1 5) (τ_56.1 4) (τ_56.2.1 10) (τ_56.2.1 11) from RKS) (show J_vs (τ_56.1 6) (τ_56.1 5) (τ_56.2.1 15) from TX) (show c_GM In0 τ_56 from by exact i56_2), ?_⟩
        intro x15 τ16 r_x15 hn_τ16 hf_τ16 hq
        obtain ⟨hT, q14_1, q14_2, q14_3, q14_4, q14_5⟩ := hq
        replace q14_1 : -2 ≤ x15 ∧ x15 ≤ 2 := q14_1
        replace q14_2 : c_GM In0 τ16 := q14_2
        replace q14_3 : x15 = 1 → ∃ par nof : Int → Int, ∃ In : Int → Prop, (c_Rs τ16 par nof In ∧ ∀ r : Int, In0 r → In r) ∧ c_GR τ16 par nof In := q14_3
        replace q14_4 : x15 = 1 → τ_56.2.1 14 (u1_56 + 1) ≤ τ_56.2.1 14 u1_56 + 60 := q14_4
        replace q14_5 : x15 = 1 → (τ16.1 49) < (τ_56.1 5) := q14_5
        have w3_τ16 : τ16.1 3 = τ_56.1 3 := hf_τ16.1 3 (by decide)
        have w4_τ16 : τ16.1 4 = τ_56.1 4 := hf_τ16.1 4 (by decide)
        have w5_τ16 : τ16.1 5 = τ_56.1 5 := hf_τ16.1 5 (by decide)
        have w6_τ16 : τ16.1 6 = τ_56.1 6 := hf_τ16.1 6 (by decide)
        have w7_τ16 : τ16.1 7 = τ_56.1 7 := hf_τ16.1 7 (by decide)
        have w13_τ16 : τ16.1 13 = τ_56.1 13 := hf_τ16.1 13 (by decide)
        have w14_τ16 : τ16.1 14 = τ_56.1 14 := hf_τ16.1 14 (by decide)
        have w15_τ16 : τ16.1 15 = τ_56.1 15 := hf_τ16.1 15 (by decide)
        have g2_τ16 : τ16.2.1 2 = τ_56.2.1 2 := hf_τ16.2.1 2 (by decide)
        have g3_τ16 : τ16.2.1 3 = τ_56.2.1 3 := hf_τ16.2.1 3 (by decide)
        have g4_τ16 : τ16.2.1 4 = τ_56.2.1 4 := hf_τ16.2.1 4 (by decide)
        have g5_τ16 : τ16.2.1 5 = τ_56.2.1 5 := hf_τ16.2.1 5 (by decide)
        have g6_τ16 : τ16.2.1 6 = τ_56.2.1 6 := hf_τ16.2.1 6 (by decide)
        have g8_τ16 : τ16.2.1 8 = τ_56.2.1 8 := hf_τ16.2.1 8 (by decide)
        have g10_τ16 : τ16.2.1 10 = τ_56.2.1 10 := hf_τ16.2.1 10 (by decide)
        have g11_τ16 : τ16.2.1 11 = τ_56.2.1 11 := hf_τ16.2.1 11 (by decide)
        have g13_τ16 : τ16.2.1 13 = τ_56.2.1 13 := hf_τ16.2.1 13 (by decide)
        have g14_τ16 : τ16.2.1 14 = τ_56.2.1 14 := hf_τ16.2.1 14 (by decide)
        have g15_τ16 : τ16.2.1 15 = τ_56.2.1 15 := hf_τ16.2.1 15 (by decide)
        have g16_τ16 : τ16.2.1 16 = τ_56.2.1 16 := hf_τ16.2.1 16 (by decide)
        have g27_τ16 : τ16.2.1 27 = τ_56.2.1 27 := hf_τ16.2.1 27 (by decide)
        have g28_τ16 : τ16.2.1 28 = τ_56.2.1 28 := hf_τ16.2.1 28 (by decide)
        have g29_τ16 : τ16.2.1 29 = τ_56.2.1 29 := hf_τ16.2.1 29 (by decide)
        have g30_τ16 : τ16.2.1 30 = τ_56.2.1 30 := hf_τ16.2.1 30 (by decide)
        have g31_τ16 : τ16.2.1 31 = τ_56.2.1 31 := hf_τ16.2.1 31 (by decide)
        have g32_τ16 : τ16.2.1 32 = τ_56.2.1 32 := hf_τ16.2.1 32 (by decide)
        have g33_τ16 : τ16.2.1 33 = τ_56.2.1 33 := hf_τ16.2.1 33 (by decide)
        have g34_τ16 : τ16.2.1 34 = τ_56.2.1 34 := hf_τ16.2.1 34 (by decide)
        have g35_τ16 : τ16.2.1 35 = τ_56.2.1 35 := hf_τ16.2.1 35 (by decide)
        have g36_τ16 : τ16.2.1 36 = τ_56.2.1 36 := hf_τ16.2.1 36 (by decide)
        have g37_τ16 : τ16.2.1 37 = τ_56.2.1 37 := hf_τ16.2.1 37 (by decide)
        have g44_τ16 : τ16.2.1 44 = τ_56.2.1 44 := hf_τ16.2.1 44 (by decide)
        have g45_τ16 : τ16.2.1 45 = τ_56.2.1 45 := hf_τ16.2.1 45 (by decide)
        have g100_τ16 : τ16.2.1 100 = τ_56.2.1 100 := hf_τ16.2.1 100 (by decide)
        have W3 : τ16.1 3 = σ.1 3 := by first | exact w3_τ16.trans W3 | omega
        have W4 : τ16.1 4 = σ.1 4 := by first | exact w4_τ16.trans W4 | omega
        have W5 : τ16.1 5 = σ.1 5 := by first | exact w5_τ16.trans W5 | omega
        have W6 : τ16.1 6 = σ.1 6 := by first | exact w6_τ16.trans W6 | omega
        have W7 : τ16.1 7 = σ.1 7 := by first | exact w7_τ16.trans W7 | omega
        have W13 : τ16.1 13 = σ.1 13 := by first | exact w13_τ16.trans W13 | omega
        have W14 : τ16.1 14 = σ.1 14 := by first | exact w14_τ16.trans W14 | omega
        have W15 : τ16.1 15 = σ.1 15 := by first | exact w15_τ16.trans W15 | omega
        have G2 : τ16.2.1 2 = σ.2.1 2 := (g2_τ16).trans G2
        have G3 : τ16.2.1 3 = σ.2.1 3 := (g3_τ16).trans G3
        have G4 : τ16.2.1 4 = σ.2.1 4 := (g4_τ16).trans G4
        have G5 : τ16.2.1 5 = σ.2.1 5 := (g5_τ16).trans G5
        have G6 : τ16.2.1 6 = σ.2.1 6 := (g6_τ16).trans G6
        have G8 : τ16.2.1 8 = σ.2.1 8 := (g8_τ16).trans G8
        have G10 : τ16.2.1 10 = σ.2.1 10 := (g10_τ16).trans G10
        have G11 : τ16.2.1 11 = σ.2.1 11 := (g11_τ16).trans G11
        have G13 : τ16.2.1 13 = σ.2.1 13 := (g13_τ16).trans G13
        have G14 : τ16.2.1 14 = σ.2.1 14 := (g14_τ16).trans G14
        have G15 : τ16.2.1 15 = σ.2.1 15 := (g15_τ16).trans G15
        have G16 : τ16.2.1 16 = σ.2.1 16 := (g16_τ16).trans G16
        have G27 : τ16.2.1 27 = σ.2.1 27 := (g27_τ16).trans G27
        have G28 : τ16.2.1 28 = σ.2.1 28 := (g28_τ16).trans G28
        have G29 : τ16.2.1 29 = σ.2.1 29 := (g29_τ16).trans G29
        have G30 : τ16.2.1 30 = σ.2.1 30 := (g30_τ16).trans G30
        have G31 : τ16.2.1 31 = σ.2.1 31 := (g31_τ16).trans G31
        have G32 : τ16.2.1 32 = σ.2.1 32 := (g32_τ16).trans G32
        have G33 : τ16.2.1 33 = σ.2.1 33 := (g33_τ16).trans G33
        have G34 : τ16.2.1 34 = σ.2.1 34 := (g34_τ16).trans G34
        have G35 : τ16.2.1 35 = σ.2.1 35 := (g35_τ16).trans G35
        have G36 : τ16.2.1 36 = σ.2.1 36 := (g36_τ16).trans G36
        have G37 : τ16.2.1 37 = σ.2.1 37 := (g37_τ16).trans G37
        have G100 : τ16.2.1 100 = σ.2.1 100 := (g100_τ16).trans G100
        have HT : J_ht (τ16.1 3) (τ16.2.1 2) (τ16.2.1 3) (τ16.2.1 5) (τ16.2.1 6) := by rw [show (J_ht (τ16.1 3) (τ16.2.1 2) (τ16.2.1 3) (τ16.2.1 5) (τ16.2.1 6)) = (J_ht (τ_56.1 3) (τ_56.2.1 2) (τ_56.2.1 3) (τ_56.2.1 5) (τ_56.2.1 6)) from by rw [w3_τ16, g2_τ16, g3_τ16, g5_τ16, g6_τ16]]; exact HT
        have MN : J_mn (τ16.1 3) (τ16.1 5) ((τ16.1 7) + 1) (τ16.2.1 4) := by rw [show (J_mn (τ16.1 3) (τ16.1 5) ((τ16.1 7) + 1) (τ16.2.1 4)) = (J_mn (τ_56.1 3) (τ_56.1 5) ((τ_56.1 7) + 1) (τ_56.2.1 4)) from by rw [w3_τ16, w5_τ16, w7_τ16, g4_τ16]]; exact MN
        have TX : J_vs (τ16.1 6) (τ16.1 5) (τ16.2.1 15) := by rw [show (J_vs (τ16.1 6) (τ16.1 5) (τ16.2.1 15)) = (J_vs (τ_56.1 6) (τ_56.1 5) (τ_56.2.1 15)) from by rw [w5_τ16, w6_τ16, g15_τ16]]; exact TX
        have RKS : J_rks (τ16.1 5) (τ16.1 4) (τ16.2.1 10) (τ16.2.1 11) := by rw [show (J_rks (τ16.1 5) (τ16.1 4) (τ16.2.1 10) (τ16.2.1 11)) = (J_rks (τ_56.1 5) (τ_56.1 4) (τ_56.2.1 10) (τ_56.2.1 11)) from by rw [w4_τ16, w5_τ16, g10_τ16, g11_τ16]]; exact RKS
        have CJ : J_all (τ16.1 7) (τ16.1 6) (τ16.1 13) (τ16.1 14) (τ16.1 15) (τ16.2.1 13) (τ16.2.1 14) (τ16.2.1 15) (τ16.2.1 16) (τ16.2.1 10) (τ16.2.1 27) (τ16.2.1 28) (τ16.2.1 29) (τ16.2.1 30) (τ16.2.1 31) (τ16.2.1 32) (τ16.2.1 33) (τ16.2.1 34) (τ16.2.1 35) (τ16.2.1 36) (τ16.2.1 37) := by rw [show (J_all (τ16.1 7) (τ16.1 6) (τ16.1 13) (τ16.1 14) (τ16.1 15) (τ16.2.1 13) (τ16.2.1 14) (τ16.2.1 15) (τ16.2.1 16) (τ16.2.1 10) (τ16.2.1 27) (τ16.2.1 28) (τ16.2.1 29) (τ16.2.1 30) (τ16.2.1 31) (τ16.2.1 32) (τ16.2.1 33) (τ16.2.1 34) (τ16.2.1 35) (τ16.2.1 36) (τ16.2.1 37)) = (J_all (τ_56.1 7) (τ_56.1 6) (τ_56.1 13) (τ_56.1 14) (τ_56.1 15) (τ_56.2.1 13) (τ_56.2.1 14) (τ_56.2.1 15) (τ_56.2.1 16) (τ_56.2.1 10) (τ_56.2.1 27) (τ_56.2.1 28) (τ_56.2.1 29) (τ_56.2.1 30) (τ_56.2.1 31) (τ_56.2.1 32) (τ_56.2.1 33) (τ_56.2.1 34) (τ_56.2.1 35) (τ_56.2.1 36) (τ_56.2.1 37)) from by rw [w6_τ16, w7_τ16, w13_τ16, w14_τ16, w15_τ16, g10_τ16, g13_τ16, g14_τ16, g15_τ16, g16_τ16, g27_τ16, g28_τ16, g29_τ16, g30_τ16, g31_τ16, g32_τ16, g33_τ16, g34_τ16, g35_τ16, g36_τ16, g37_τ16]]; exact CJ
        have BP : J_bp (τ16.2.1 44) (τ16.2.1 45) := by rw [show (J_bp (τ16.2.1 44) (τ16.2.1 45)) = (J_bp (τ_56.2.1 44) (τ_56.2.1 45)) from by rw [g44_τ16, g45_τ16]]; exact BP
        have SZ : ∀ v, τ16.2.1 100 v = 0 := by rw [show (∀ v, τ16.2.1 100 v = 0) = (∀ v, τ_56.2.1 100 v = 0) from by rw [g100_τ16]]; exact SZ
        have A2 : ∀ j, 0 ≤ τ16.2.1 2 j ∧ τ16.2.1 2 j ≤ 65535 := fun j => hT.2 2 j
        have A3 : ∀ j, 0 ≤ τ16.2.1 3 j ∧ τ16.2.1 3 j ≤ 30000 := fun j => hT.2 3 j
        have A4 : ∀ j, (-1000) ≤ τ16.2.1 4 j ∧ τ16.2.1 4 j ≤ 1499 := fun j => hT.2 4 j
        have A5 : ∀ j, 0 ≤ τ16.2.1 5 j ∧ τ16.2.1 5 j ≤ 2500 := fun j => hT.2 5 j
        have A6 : ∀ j, 0 ≤ τ16.2.1 6 j ∧ τ16.2.1 6 j ≤ 2500 := fun j => hT.2 6 j
        have A8 : ∀ j, 0 ≤ τ16.2.1 8 j ∧ τ16.2.1 8 j ≤ 1 := fun j => hT.2 8 j
        have A10 : ∀ j, (-1) ≤ τ16.2.1 10 j ∧ τ16.2.1 10 j ≤ 99 := fun j => hT.2 10 j
        have A11 : ∀ j, 0 ≤ τ16.2.1 11 j ∧ τ16.2.1 11 j ≤ 999 := fun j => hT.2 11 j
        have A13 : ∀ j, 0 ≤ τ16.2.1 13 j ∧ τ16.2.1 13 j ≤ 4 := fun j => hT.2 13 j
        have A14 : ∀ j, 0 ≤ τ16.2.1 14 j ∧ τ16.2.1 14 j ≤ 30000 := fun j => hT.2 14 j
        have A15 : ∀ j, 0 ≤ τ16.2.1 15 j ∧ τ16.2.1 15 j ≤ 999 := fun j => hT.2 15 j
        have A16 : ∀ j, (-1) ≤ τ16.2.1 16 j ∧ τ16.2.1 16 j ≤ 1499 := fun j => hT.2 16 j
        have A27 : ∀ j, 0 ≤ τ16.2.1 27 j ∧ τ16.2.1 27 j ≤ 90000 := fun j => hT.2 27 j
        have A28 : ∀ j, 0 ≤ τ16.2.1 28 j ∧ τ16.2.1 28 j ≤ 60 := fun j => hT.2 28 j
        have A29 : ∀ j, 0 ≤ τ16.2.1 29 j ∧ τ16.2.1 29 j ≤ 1499 := fun j => hT.2 29 j
        have A30 : ∀ j, 0 ≤ τ16.2.1 30 j ∧ τ16.2.1 30 j ≤ 20000 := fun j => hT.2 30 j
        have A31 : ∀ j, 0 ≤ τ16.2.1 31 j ∧ τ16.2.1 31 j ≤ 20000 := fun j => hT.2 31 j
        have A32 : ∀ j, 0 ≤ τ16.2.1 32 j ∧ τ16.2.1 32 j ≤ 999999 := fun j => hT.2 32 j
        have A33 : ∀ j, 0 ≤ τ16.2.1 33 j ∧ τ16.2.1 33 j ≤ 20000 := fun j => hT.2 33 j
        have A34 : ∀ j, 0 ≤ τ16.2.1 34 j ∧ τ16.2.1 34 j ≤ 20000 := fun j => hT.2 34 j
        have A35 : ∀ j, 0 ≤ τ16.2.1 35 j ∧ τ16.2.1 35 j ≤ 1499 := fun j => hT.2 35 j
        have A36 : ∀ j, 0 ≤ τ16.2.1 36 j ∧ τ16.2.1 36 j ≤ 20000 := fun j => hT.2 36 j
        have A37 : ∀ j, 0 ≤ τ16.2.1 37 j ∧ τ16.2.1 37 j ≤ 19999 := fun j => hT.2 37 j
        have A44 : ∀ j, 0 ≤ τ16.2.1 44 j ∧ τ16.2.1 44 j ≤ 42000 := fun j => hT.2 44 j
        have A45 : ∀ j, 0 ≤ τ16.2.1 45 j ∧ τ16.2.1 45 j ≤ 1000 := fun j => hT.2 45 j
        have A67 : ∀ j, 0 ≤ τ16.2.1 67 j ∧ τ16.2.1 67 j ≤ 30000 := fun j => hT.2 67 j
        have A68 : ∀ j, 0 ≤ τ16.2.1 68 j ∧ τ16.2.1 68 j ≤ 30000 := fun j => hT.2 68 j
        have A69 : ∀ j, (-100) ≤ τ16.2.1 69 j ∧ τ16.2.1 69 j ≤ 999 := fun j => hT.2 69 j
        have A70 : ∀ j, 0 ≤ τ16.2.1 70 j ∧ τ16.2.1 70 j ≤ 1499 := fun j => hT.2 70 j
        have A71 : ∀ j, 0 ≤ τ16.2.1 71 j ∧ τ16.2.1 71 j ≤ 1500 := fun j => hT.2 71 j
        have A72 : ∀ j, 0 ≤ τ16.2.1 72 j ∧ τ16.2.1 72 j ≤ 1500 := fun j => hT.2 72 j
        have A73 : ∀ j, 0 ≤ τ16.2.1 73 j ∧ τ16.2.1 73 j ≤ 30000 := fun j => hT.2 73 j
        have A74 : ∀ j, 0 ≤ τ16.2.1 74 j ∧ τ16.2.1 74 j ≤ 30000 := fun j => hT.2 74 j
        have A75 : ∀ j, 0 ≤ τ16.2.1 75 j ∧ τ16.2.1 75 j ≤ 1499 := fun j => hT.2 75 j
        have A76 : ∀ j, 0 ≤ τ16.2.1 76 j ∧ τ16.2.1 76 j ≤ 99 := fun j => hT.2 76 j
        have A77 : ∀ j, 0 ≤ τ16.2.1 77 j ∧ τ16.2.1 77 j ≤ 999 := fun j => hT.2 77 j
        have A78 : ∀ j, (-1) ≤ τ16.2.1 78 j ∧ τ16.2.1 78 j ≤ 1499 := fun j => hT.2 78 j
        have A100 : ∀ j, 0 ≤ τ16.2.1 100 j ∧ τ16.2.1 100 j ≤ 1060 := fun j => hT.2 100 j
        have v3 : 0 ≤ τ16.1 3 ∧ τ16.1 3 ≤ 2500 := hT.1 3
        have v4 : 0 ≤ τ16.1 4 ∧ τ16.1 4 ≤ 100 := hT.1 4
        have v5 : 0 ≤ τ16.1 5 ∧ τ16.1 5 ≤ 1000 := hT.1 5
        have v6 : 0 ≤ τ16.1 6 ∧ τ16.1 6 ≤ 30000 := hT.1 6
        have v7 : 0 ≤ τ16.1 7 ∧ τ16.1 7 ≤ 1500 := hT.1 7
        have v13 : 0 ≤ τ16.1 13 ∧ τ16.1 13 ≤ 90000 := hT.1 13
        have v14 : 0 ≤ τ16.1 14 ∧ τ16.1 14 ≤ 20000 := hT.1 14
        have v15 : 0 ≤ τ16.1 15 ∧ τ16.1 15 ≤ 20000 := hT.1 15
        have v49 : (-1) ≤ τ16.1 49 ∧ τ16.1 49 ≤ 999 := hT.1 49
        have db16 := c_DB_h (show c_DB lb τ_56 from i56_4) hf_τ16 rfl rfl
        refine ⟨fun c17 => ?_, fun c17 => ?_⟩
        ·
          refine ⟨(⟨by (first | omega | (simp only [st_s] <;> omega) | assumption | omega | fail), by (first | omega | (simp only [st_s] <;> omega) | assumption | omega | fail)⟩ : rg (u1_56 + 1)), ?_⟩
          exact ih_56 _ _ (show (1501 - (u1_56 + 1) : Int) < ((m_56 : Nat) : Int) from by ((first | omega | (simp only [st_s] <;> omega) | assumption | omega | fail))) hT (show τ16.1 3 = σ.1 3 from by first | exact W3 | omega) (show τ16.1 4 = σ.1 4 from by first | exact W4 | omega) (show τ16.1 5 = σ.1 5 from by first | exact W5 | omega) (show τ16.1 6 = σ.1 6 from by first | exact W6 | omega) (show τ16.1 7 = σ.1 7 from by first | exact W7 | omega) (show τ16.1 13 = σ.1 13 from by first | exact W13 | omega) (show τ16.1 14 = σ.1 14 from by first | exact W14 | omega) (show τ16.1 15 = σ.1 15 from by first | exact W15 | omega) G2 G3 G4 G5 G6 G8 G10 G11 G13 G14 G15 G16 G27 G28 G29 G30 G31 G32 G33 G34 G35 G36 G37 G100 (show 0 ≤ (u1_56 + 1) ∧ (u1_56 + 1) ≤ 1500 from by (first | omega | (simp only [st_s] <;> omega) | assumption | omega | fail)) (show c_GM In0 τ16 from by (first | omega | (simp only [st_s] <;> omega) | assumption | omega | fail)) (show J_bp (τ16.2.1 44) (τ16.2.1 45) from BP) (show c_DB lb τ16 from by (first | omega | (simp only [st_s] <;> omega) | assumption | omega | fail))
        ·
          obtain ⟨par, nof, In, ⟨rs, hI⟩, gr⟩ := q14_3 (by assumption)
          refine ⟨_, K_X12_makesItsSymbols hT (show 0 ≤ u1_56 from by (first | omega | (simp only [st_s] <;> omega) | assumption | omega | fail)) (show u1_56 < (τ16.1 7) from by (first | omega | (simp only [st_s] <;> omega) | assumption | omega | fail)) (show J_all (τ16.1 7) (τ16.1 6) (τ16.1 13) (τ16.1 14) (τ16.1 15) (τ16.2.1 13) (τ16.2.1 14) (τ16.2.1 15) (τ16.2.1 16) (τ16.2.1 10) (τ16.2.1 27) (τ16.2.1 28) (τ16.2.1 29) (τ16.2.1 30) (τ16.2.1 31) (τ16.2.1 32) (τ16.2.1 33) (τ16.2.1 34) (τ16.2.1 35) (τ16.2.1 36) (τ16.2.1 37) from CJ) (show c_Rs τ16 par nof In from by (first | omega | (simp only [st_s] <;> omega) | assumption | omega | fail)) (show J_rks (τ16.1 5) (τ16.1 4) (τ16.2.1 10) (τ16.2.1 11) from RKS) (show J_vs (τ16.1 6) (τ16.1 5) (τ16.2.1 15) from TX) (show c_GR τ16 par nof In from by (first | omega | (simp only [st_s] <;> omega) | assumption | omega | fail)) (show ∀ v, τ16.2.1 100 v = 0 from SZ) (show c_DB lb τ16 from by (first | omega | (simp only [st_s] <;> omega) | assumption | omega | fail)), ?_⟩
          intro x20 τ21 r_x20 hn_τ21 hf_τ21 hq
          obtain ⟨hT, q19_1⟩ := hq
          replace q19_1 : 0 ≤ x20 ∧ x20 ≤ 1 := q19_1
          have w3_τ21 : τ21.1 3 = τ16.1 3 := hf_τ21.1 3 (by decide)
          have w4_τ21 : τ21.1 4 = τ16.1 4 := hf_τ21.1 4 (by decide)
          have w5_τ21 : τ21.1 5 = τ16.1 5 := hf_τ21.1 5 (by decide)
          have w6_τ21 : τ21.1 6 = τ16.1 6 := hf_τ21.1 6 (by decide)
          have w7_τ21 : τ21.1 7 = τ16.1 7 := hf_τ21.1 7 (by decide)
          have w13_τ21 : τ21.1 13 = τ16.1 13 := hf_τ21.1 13 (by decide)
          have w14_τ21 : τ21.1 14 = τ16.1 14 := hf_τ21.1 14 (by decide)
          have w15_τ21 : τ21.1 15 = τ16.1 15 := hf_τ21.1 15 (by decide)
          have w49_τ21 : τ21.1 49 = τ16.1 49 := hf_τ21.1 49 (by decide)
          have g2_τ21 : τ21.2.1 2 = τ16.2.1 2 := hf_τ21.2.1 2 (by decide)
          have g3_τ21 : τ21.2.1 3 = τ16.2.1 3 := hf_τ21.2.1 3 (by decide)
          have g4_τ21 : τ21.2.1 4 = τ16.2.1 4 := hf_τ21.2.1 4 (by decide)
          have g5_τ21 : τ21.2.1 5 = τ16.2.1 5 := hf_τ21.2.1 5 (by decide)
          have g6_τ21 : τ21.2.1 6 = τ16.2.1 6 := hf_τ21.2.1 6 (by decide)
          have g8_τ21 : τ21.2.1 8 = τ16.2.1 8 := hf_τ21.2.1 8 (by decide)
          have g10_τ21 : τ21.2.1 10 = τ16.2.1 10 := hf_τ21.2.1 10 (by decide)
          have g11_τ21 : τ21.2.1 11 = τ16.2.1 11 := hf_τ21.2.1 11 (by decide)
          have g13_τ21 : τ21.2.1 13 = τ16.2.1 13 := hf_τ21.2.1 13 (by decide)
          have g14_τ21 : τ21.2.1 14 = τ16.2.1 14 := hf_τ21.2.1 14 (by decide)
          have g15_τ21 : τ21.2.1 15 = τ16.2.1 15 := hf_τ21.2.1 15 (by decide)
          have g16_τ21 : τ21.2.1 16 = τ16.2.1 16 := hf_τ21.2.1 16 (by decide)
          have g27_τ21 : τ21.2.1 27 = τ16.2.1 27 := hf_τ21.2.1 27 (by decide)
          have g28_τ21 : τ21.2.1 28 = τ16.2.1 28 := hf_τ21.2.1 28 (by decide)
          have g29_τ21 : τ21.2.1 29 = τ16.2.1 29 := hf_τ21.2.1 29 (by decide)
          have g30_τ21 : τ21.2.1 30 = τ16.2.1 30 := hf_τ21.2.1 30 (by decide)
          have g31_τ21 : τ21.2.1 31 = τ16.2.1 31 := hf_τ21.2.1 31 (by decide)
          have g32_τ21 : τ21.2.1 32 = τ16.2.1 32 := hf_τ21.2.1 32 (by decide)
          have g33_τ21 : τ21.2.1 33 = τ16.2.1 33 := hf_τ21.2.1 33 (by decide)
          have g34_τ21 : τ21.2.1 34 = τ16.2.1 34 := hf_τ21.2.1 34 (by decide)
          have g35_τ21 : τ21.2.1 35 = τ16.2.1 35 := hf_τ21.2.1 35 (by decide)
          have g36_τ21 : τ21.2.1 36 = τ16.2.1 36 := hf_τ21.2.1 36 (by decide)
          have g37_τ21 : τ21.2.1 37 = τ16.2.1 37 := hf_τ21.2.1 37 (by decide)
          have g44_τ21 : τ21.2.1 44 = τ16.2.1 44 := hf_τ21.2.1 44 (by decide)
          have g45_τ21 : τ21.2.1 45 = τ16.2.1 45 := hf_τ21.2.1 45 (by decide)
          have g67_τ21 : τ21.2.1 67 = τ16.2.1 67 := hf_τ21.2.1 67 (by decide)
          have g68_τ21 : τ21.2.1 68 = τ16.2.1 68 := hf_τ21.2.1 68 (by decide)
          have g69_τ21 : τ21.2.1 69 = τ16.2.1 69 := hf_τ21.2.1 69 (by decide)
          have g70_τ21 : τ21.2.1 70 = τ16.2.1 70 := hf_τ21.2.1 70 (by decide)
          have g71_τ21 : τ21.2.1 71 = τ16.2.1 71 := hf_τ21.2.1 71 (by decide)
          have g72_τ21 : τ21.2.1 72 = τ16.2.1 72 := hf_τ21.2.1 72 (by decide)
          have g73_τ21 : τ21.2.1 73 = τ16.2.1 73 := hf_τ21.2.1 73 (by decide)
          have g74_τ21 : τ21.2.1 74 = τ16.2.1 74 := hf_τ21.2.1 74 (by decide)
          have g75_τ21 : τ21.2.1 75 = τ16.2.1 75 := hf_τ21.2.1 75 (by decide)
          have g76_τ21 : τ21.2.1 76 = τ16.2.1 76 := hf_τ21.2.1 76 (by decide)
          have g77_τ21 : τ21.2.1 77 = τ16.2.1 77 := hf_τ21.2.1 77 (by decide)
          have g78_τ21 : τ21.2.1 78 = τ16.2.1 78 := hf_τ21.2.1 78 (by decide)
          have g100_τ21 : τ21.2.1 100 = τ16.2.1 100 := hf_τ21.2.1 100 (by decide)
          have W3 : τ21.1 3 = σ.1 3 := by first | exact w3_τ21.trans W3 | omega
          have W4 : τ21.1 4 = σ.1 4 := by first | exact w4_τ21.trans W4 | omega
          have W5 : τ21.1 5 = σ.1 5 := by first | exact w5_τ21.trans W5 | omega
          have W6 : τ21.1 6 = σ.1 6 := by first | exact w6_τ21.trans W6 | omega
          have W7 : τ21.1 7 = σ.1 7 := by first | exact w7_τ21.trans W7 | omega
          have W13 : τ21.1 13 = σ.1 13 := by first | exact w13_τ21.trans W13 | omega
          have W14 : τ21.1 14 = σ.1 14 := by first | exact w14_τ21.trans W14 | omega
          have W15 : τ21.1 15 = σ.1 15 := by first | exact w15_τ21.trans W15 | omega
          have G2 : τ21.2.1 2 = σ.2.1 2 := (g2_τ21).trans G2
          have G3 : τ21.2.1 3 = σ.2.1 3 := (g3_τ21).trans G3
          have G4 : τ21.2.1 4 = σ.2.1 4 := (g4_τ21).trans G4
          have G5 : τ21.2.1 5 = σ.2.1 5 := (g5_τ21).trans G5
          have G6 : τ21.2.1 6 = σ.2.1 6 := (g6_τ21).trans G6
          have G8 : τ21.2.1 8 = σ.2.1 8 := (g8_τ21).trans G8
          have G10 : τ21.2.1 10 = σ.2.1 10 := (g10_τ21).trans G10
          have G11 : τ21.2.1 11 = σ.2.1 11 := (g11_τ21).trans G11
          have G13 : τ21.2.1 13 = σ.2.1 13 := (g13_τ21).trans G13
          have G14 : τ21.2.1 14 = σ.2.1 14 := (g14_τ21).trans G14
          have G15 : τ21.2.1 15 = σ.2.1 15 := (g15_τ21).trans G15
          have G16 : τ21.2.1 16 = σ.2.1 16 := (g16_τ21).trans G16
          have G27 : τ21.2.1 27 = σ.2.1 27 := (g27_τ21).trans G27
          have G28 : τ21.2.1 28 = σ.2.1 28 := (g28_τ21).trans G28
          have G29 : τ21.2.1 29 = σ.2.1 29 := (g29_τ21).trans G29
          have G30 : τ21.2.1 30 = σ.2.1 30 := (g30_τ21).trans G30
          have G31 : τ21.2.1 31 = σ.2.1 31 := (g31_τ21).trans G31
          have G32 : τ21.2.1 32 = σ.2.1 32 := (g32_τ21).trans G32
          have G33 : τ21.2.1 33 = σ.2.1 33 := (g33_τ21).trans G33
          have G34 : τ21.2.1 34 = σ.2.1 34 := (g34_τ21).trans G34
          have G35 : τ21.2.1 35 = σ.2.1 35 := (g35_τ21).trans G35
          have G36 : τ21.2.1 36 = σ.2.1 36 := (g36_τ21).trans G36
          have G37 : τ21.2.1 37 = σ.2.1 37 := (g37_τ21).trans G37
          have G100 : τ21.2.1 100 = σ.2.1 100 := (g100_τ21).trans G100
          have HT : J_ht (τ21.1 3) (τ21.2.1 2) (τ21.2.1 3) (τ21.2.1 5) (τ21.2.1 6) := by rw [show (J_ht (τ21.1 3) (τ21.2.1 2) (τ21.2.1 3) (τ21.2.1 5) (τ21.2.1 6)) = (J_ht (τ16.1 3) (τ16.2.1 2) (τ16.2.1 3) (τ16.2.1 5) (τ16.2.1 6)) from by rw [w3_τ21, g2_τ21, g3_τ21, g5_τ21, g6_τ21]]; exact HT
          have MN : J_mn (τ21.1 3) (τ21.1 5) ((τ21.1 7) + 1) (τ21.2.1 4) := by rw [show (J_mn (τ21.1 3) (τ21.1 5) ((τ21.1 7) + 1) (τ21.2.1 4)) = (J_mn (τ16.1 3) (τ16.1 5) ((τ16.1 7) + 1) (τ16.2.1 4)) from by rw [w3_τ21, w5_τ21, w7_τ21, g4_τ21]]; exact MN
          have TX : J_vs (τ21.1 6) (τ21.1 5) (τ21.2.1 15) := by rw [show (J_vs (τ21.1 6) (τ21.1 5) (τ21.2.1 15)) = (J_vs (τ16.1 6) (τ16.1 5) (τ16.2.1 15)) from by rw [w5_τ21, w6_τ21, g15_τ21]]; exact TX
          have RKS : J_rks (τ21.1 5) (τ21.1 4) (τ21.2.1 10) (τ21.2.1 11) := by rw [show (J_rks (τ21.1 5) (τ21.1 4) (τ21.2.1 10) (τ21.2.1 11)) = (J_rks (τ16.1 5) (τ16.1 4) (τ16.2.1 10) (τ16.2.1 11)) from by rw [w4_τ21, w5_τ21, g10_τ21, g11_τ21]]; exact RKS
          have CJ : J_all (τ21.1 7) (τ21.1 6) (τ21.1 13) (τ21.1 14) (τ21.1 15) (τ21.2.1 13) (τ21.2.1 14) (τ21.2.1 15) (τ21.2.1 16) (τ21.2.1 10) (τ21.2.1 27) (τ21.2.1 28) (τ21.2.1 29) (τ21.2.1 30) (τ21.2.1 31) (τ21.2.1 32) (τ21.2.1 33) (τ21.2.1 34) (τ21.2.1 35) (τ21.2.1 36) (τ21.2.1 37) := by rw [show (J_all (τ21.1 7) (τ21.1 6) (τ21.1 13) (τ21.1 14) (τ21.1 15) (τ21.2.1 13) (τ21.2.1 14) (τ21.2.1 15) (τ21.2.1 16) (τ21.2.1 10) (τ21.2.1 27) (τ21.2.1 28) (τ21.2.1 29) (τ21.2.1 30) (τ21.2.1 31) (τ21.2.1 32) (τ21.2.1 33) (τ21.2.1 34) (τ21.2.1 35) (τ21.2.1 36) (τ21.2.1 37)) = (J_all (τ16.1 7) (τ16.1 6) (τ16.1 13) (τ16.1 14) (τ16.1 15) (τ16.2.1 13) (τ16.2.1 14) (τ16.2.1 15) (τ16.2.1 16) (τ16.2.1 10) (τ16.2.1 27) (τ16.2.1 28) (τ16.2.1 29) (τ16.2.1 30) (τ16.2.1 31) (τ16.2.1 32) (τ16.2.1 33) (τ16.2.1 34) (τ16.2.1 35) (τ16.2.1 36) (τ16.2.1 37)) from by rw [w6_τ21, w7_τ21, w13_τ21, w14_τ21, w15_τ21, g10_τ21, g13_τ21, g14_τ21, g15_τ21, g16_τ21, g27_τ21, g28_τ21, g29_τ21, g30_τ21, g31_τ21, g32_τ21, g33_τ21, g34_τ21, g35_τ21, g36_τ21, g37_τ21]]; exact CJ
          have BP : J_bp (τ21.2.1 44) (τ21.2.1 45) := by rw [show (J_bp (τ21.2.1 44) (τ21.2.1 45)) = (J_bp (τ16.2.1 44) (τ16.2.1 45)) from by rw [g44_τ21, g45_τ21]]; exact BP
          have SZ : ∀ v, τ21.2.1 100 v = 0 := by rw [show (∀ v, τ21.2.1 100 v = 0) = (∀ v, τ16.2.1 100 v = 0) from by rw [g100_τ21]]; exact SZ
          have A2 : ∀ j, 0 ≤ τ21.2.1 2 j ∧ τ21.2.1 2 j ≤ 65535 := fun j => hT.2 2 j
          have A3 : ∀ j, 0 ≤ τ21.2.1 3 j ∧ τ21.2.1 3 j ≤ 30000 := fun j => hT.2 3 j
          have A4 : ∀ j, (-1000) ≤ τ21.2.1 4 j ∧ τ21.2.1 4 j ≤ 1499 := fun j => hT.2 4 j
          have A5 : ∀ j, 0 ≤ τ21.2.1 5 j ∧ τ21.2.1 5 j ≤ 2500 := fun j => hT.2 5 j
          have A6 : ∀ j, 0 ≤ τ21.2.1 6 j ∧ τ21.2.1 6 j ≤ 2500 := fun j => hT.2 6 j
          have A8 : ∀ j, 0 ≤ τ21.2.1 8 j ∧ τ21.2.1 8 j ≤ 1 := fun j => hT.2 8 j
          have A10 : ∀ j, (-1) ≤ τ21.2.1 10 j ∧ τ21.2.1 10 j ≤ 99 := fun j => hT.2 10 j
          have A11 : ∀ j, 0 ≤ τ21.2.1 11 j ∧ τ21.2.1 11 j ≤ 999 := fun j => hT.2 11 j
          have A13 : ∀ j, 0 ≤ τ21.2.1 13 j ∧ τ21.2.1 13 j ≤ 4 := fun j => hT.2 13 j
          have A14 : ∀ j, 0 ≤ τ21.2.1 14 j ∧ τ21.2.1 14 j ≤ 30000 := fun j => hT.2 14 j
          have A15 : ∀ j, 0 ≤ τ21.2.1 15 j ∧ τ21.2.1 15 j ≤ 999 := fun j => hT.2 15 j
          have A16 : ∀ j, (-1) ≤ τ21.2.1 16 j ∧ τ21.2.1 16 j ≤ 1499 := fun j => hT.2 16 j
          have A27 : ∀ j, 0 ≤ τ21.2.1 27 j ∧ τ21.2.1 27 j ≤ 90000 := fun j => hT.2 27 j
          have A28 : ∀ j, 0 ≤ τ21.2.1 28 j ∧ τ21.2.1 28 j ≤ 60 := fun j => hT.2 28 j
          have A29 : ∀ j, 0 ≤ τ21.2.1 29 j ∧ τ21.2.1 29 j ≤ 1499 := fun j => hT.2 29 j
          have A30 : ∀ j, 0 ≤ τ21.2.1 30 j ∧ τ21.2.1 30 j ≤ 20000 := fun j => hT.2 30 j
          have A31 : ∀ j, 0 ≤ τ21.2.1 31 j ∧ τ21.2.1 31 j ≤ 20000 := fun j => hT.2 31 j
          have A32 : ∀ j, 0 ≤ τ21.2.1 32 j ∧ τ21.2.1 32 j ≤ 999999 := fun j => hT.2 32 j
          have A33 : ∀ j, 0 ≤ τ21.2.1 33 j ∧ τ21.2.1 33 j ≤ 20000 := fun j => hT.2 33 j
          have A34 : ∀ j, 0 ≤ τ21.2.1 34 j ∧ τ21.2.1 34 j ≤ 20000 := fun j => hT.2 34 j
          have A35 : ∀ j, 0 ≤ τ21.2.1 35 j ∧ τ21.2.1 35 j ≤ 1499 := fun j => hT.2 35 j
          have A36 : ∀ j, 0 ≤ τ21.2.1 36 j ∧ τ21.2.1 36 j ≤ 20000 := fun j => hT.2 36 j
          have A37 : ∀ j, 0 ≤ τ21.2.1 37 j ∧ τ21.2.1 37 j ≤ 19999 := fun j => hT.2 37 j
          have A44 : ∀ j, 0 ≤ τ21.2.1 44 j ∧ τ21.2.1 44 j ≤ 42000 := fun j => hT.2 44 j
          have A45 : ∀ j, 0 ≤ τ21.2.1 45 j ∧ τ21.2.1 45 j ≤ 1000 := fun j => hT.2 45 j
          have A67 : ∀ j, 0 ≤ τ21.2.1 67 j ∧ τ21.2.1 67 j ≤ 30000 := fun j => hT.2 67 j
          have A68 : ∀ j, 0 ≤ τ21.2.1 68 j ∧ τ21.2.1 68 j ≤ 30000 := fun j => hT.2 68 j
          have A69 : ∀ j, (-100) ≤ τ21.2.1 69 j ∧ τ21.2.1 69 j ≤ 999 := fun j => hT.2 69 j
          have A70 : ∀ j, 0 ≤ τ21.2.1 70 j ∧ τ21.2.1 70 j ≤ 1499 := fun j => hT.2 70 j
          have A71 : ∀ j, 0 ≤ τ21.2.1 71 j ∧ τ21.2.1 71 j ≤ 1500 := fun j => hT.2 71 j
          have A72 : ∀ j, 0 ≤ τ21.2.1 72 j ∧ τ21.2.1 72 j ≤ 1500 := fun j => hT.2 72 j
          have A73 : ∀ j, 0 ≤ τ21.2.1 73 j ∧ τ21.2.1 73 j ≤ 30000 := fun j => hT.2 73 j
          have A74 : ∀ j, 0 ≤ τ21.2.1 74 j ∧ τ21.2.1 74 j ≤ 30000 := fun j => hT.2 74 j
          have A75 : ∀ j, 0 ≤ τ21.2.1 75 j ∧ τ21.2.1 75 j ≤ 1499 := fun j => hT.2 75 j
          have A76 : ∀ j, 0 ≤ τ21.2.1 76 j ∧ τ21.2.1 76 j ≤ 99 := fun j => hT.2 76 j
          have A77 : ∀ j, 0 ≤ τ21.2.1 77 j ∧ τ21.2.1 77 j ≤ 999 := fun j => hT.2 77 j
          have A78 : ∀ j, (-1) ≤ τ21.2.1 78 j ∧ τ21.2.1 78 j ≤ 1499 := fun j => hT.2 78 j
          have A100 : ∀ j, 0 ≤ τ21.2.1 100 j ∧ τ21.2.1 100 j ≤ 1060 := fun j => hT.2 100 j
          have v3 : 0 ≤ τ21.1 3 ∧ τ21.1 3 ≤ 2500 := hT.1 3
          have v4 : 0 ≤ τ21.1 4 ∧ τ21.1 4 ≤ 100 := hT.1 4
          have v5 : 0 ≤ τ21.1 5 ∧ τ21.1 5 ≤ 1000 := hT.1 5
          have v6 : 0 ≤ τ21.1 6 ∧ τ21.1 6 ≤ 30000 := hT.1 6
          have v7 : 0 ≤ τ21.1 7 ∧ τ21.1 7 ≤ 1500 := hT.1 7
          have v13 : 0 ≤ τ21.1 13 ∧ τ21.1 13 ≤ 90000 := hT.1 13
          have v14 : 0 ≤ τ21.1 14 ∧ τ21.1 14 ≤ 20000 := hT.1 14
          have v15 : 0 ≤ τ21.1 15 ∧ τ21.1 15 ≤ 20000 := hT.1 15
          have v49 : (-1) ≤ τ21.1 49 ∧ τ21.1 49 ≤ 999 := hT.1 49
          have gm21 := c_GM_h q14_2 hf_τ21 rfl rfl rfl
          have db21 := c_DB_h db16 hf_τ21 rfl rfl
          refine ⟨fun c22 => ?_, fun c22 => ?_⟩
          ·
            refine ⟨(⟨by (first | omega | (simp only [st_s] <;> omega) | assumption | omega | fail), by (first | omega | (simp only [st_s] <;> omega) | assumption | omega | fail)⟩ : rg (u1_56 + 1)), ?_⟩
            exact ih_56 _ _ (show (1501 - (u1_56 + 1) : Int) < ((m_56 : Nat) : Int) from by ((first | omega | (simp only [st_s] <;> omega) | assumption | omega | fail))) hT (show τ21.1 3 = σ.1 3 from by first | exact W3 | omega) (show τ21.1 4 = σ.1 4 from by first | exact W4 | omega) (show τ21.1 5 = σ.1 5 from by first | exact W5 | omega) (show τ21.1 6 = σ.1 6 from by first | exact W6 | omega) (show τ21.1 7 = σ.1 7 from by first | exact W7 | omega) (show τ21.1 13 = σ.1 13 from by first | exact W13 | omega) (show τ21.1 14 = σ.1 14 from by first | exact W14 | omega) (show τ21.1 15 = σ.1 15 from by first | exact W15 | omega) G2 G3 G4 G5 G6 G8 G10 G11 G13 G14 G15 G16 G27 G28 G29 G30 G31 G32 G33 G34 G35 G36 G37 G100 (show 0 ≤ (u1_56 + 1) ∧ (u1_56 + 1) ≤ 1500 from by (first | omega | (simp only [st_s] <;> omega) | assumption | omega | fail)) (show c_GM In0 τ21 from by (first | omega | (simp only [st_s] <;> omega) | assumption | omega | fail)) (show J_bp (τ21.2.1 44) (τ21.2.1 45) from BP) (show c_DB lb τ21 from by (first | omega | (simp only [st_s] <;> omega) | assumption | omega | fail))
          ·
            exact ⟨hT, (show c_GM In0 τ21 from by (first | omega | (simp only [st_s] <;> omega) | assumption | omega | fail)), (show J_bp (τ21.2.1 44) (τ21.2.1 45) from BP), (show c_DB lb τ21 from by (first | omega | (simp only [st_s] <;> omega) | assumption | omega | fail))⟩
  have l_2 : ∀ (m_2 : Nat) (u1_2 : Int) (τ_2 : S0), 1501 - u1_2 < (m_2 : Int) → (c_T τ_2) → (τ_2.1 3 = σ.1 3) → (τ_2.1 4 = σ.1 4) → (τ_2.1 5 = σ.1 5) → (τ_2.1 6 = σ.1 6) → (τ_2.1 7 = σ.1 7) → (τ_2.1 13 = σ.1 13) → (τ_2.1 14 = σ.1 14) → (τ_2.1 15 = σ.1 15) → (τ_2.2.1 2 = σ.2.1 2) → (τ_2.2.1 3 = σ.2.1 3) → (τ_2.2.1 4 = σ.2.1 4) → (τ_2.2.1 5 = σ.2.1 5) → (τ_2.2.1 6 = σ.2.1 6) → (τ_2.2.1 8 = σ.2.1 8) → (τ_2.2.1 10 = σ.2.1 10) → (τ_2.2.1 11 = σ.2.1 11) → (τ_2.2.1 13 = σ.2.1 13) → (τ_2.2.1 14 = σ.2.1 14) → (τ_2.2.1 15 = σ.2.1 15) → (τ_2.2.1 16 = σ.2.1 16) → (τ_2.2.1 27 = σ.2.1 27) → (τ_2.2.1 28 = σ.2.1 28) → (τ_2.2.1 29 = σ.2.1 29) → (τ_2.2.1 30 = σ.2.1 30) → (τ_2.2.1 31 = σ.2.1 31) → (τ_2.2.1 32 = σ.2.1 32) → (τ_2.2.1 33 = σ.2.1 33) → (τ_2.2.1 34 = σ.2.1 34) → (τ_2.2.1 35 = σ.2.1 35) → (τ_2.2.1 36 = σ.2.1 36) → (τ_2.2.1 37 = σ.2.1 37) → (τ_2.2.1 100 = σ.2.1 100) → (0 ≤ u1_2 ∧ u1_2 ≤ 1500) → (c_GM In0 τ_2) → (J_bp (τ_2.2.1 44) (τ_2.2.1 45)) → (c_DB lb τ_2) → P2 u1_2 τ_2 := by
    intro m_2
    induction m_2 with
    | zero =>
      intro u1_2 τ_2 hm hT W3 W4 W5 W6 W7 W13 W14 W15 G2 G3 G4 G5 G6 G8 G10 G11 G13 G14 G15 G16 G27 G28 G29 G30 G31 G32 G33 G34 G35 G36 G37 G100 i2_1 i2_2 i2_3 i2_4
      have A2 : ∀ j, 0 ≤ τ_2.2.1 2 j ∧ τ_2.2.1 2 j ≤ 65535 := fun j => hT.2 2 j
      have A3 : ∀ j, 0 ≤ τ_2.2.1 3 j ∧ τ_2.2.1 3 j ≤ 30000 := fun j => hT.2 3 j
      have A4 : ∀ j, (-1000) ≤ τ_2.2.1 4 j ∧ τ_2.2.1 4 j ≤ 1499 := fun j => hT.2 4 j
      have A5 : ∀ j, 0 ≤ τ_2.2.1 5 j ∧ τ_2.2.1 5 j ≤ 2500 := fun j => hT.2 5 j
      have A6 : ∀ j, 0 ≤ τ_2.2.1 6 j ∧ τ_2.2.1 6 j ≤ 2500 := fun j => hT.2 6 j
      have A8 : ∀ j, 0 ≤ τ_2.2.1 8 j ∧ τ_2.2.1 8 j ≤ 1 := fun j => hT.2 8 j
      have A10 : ∀ j, (-1) ≤ τ_2.2.1 10 j ∧ τ_2.2.1 10 j ≤ 99 := fun j => hT.2 10 j
      have A11 : ∀ j, 0 ≤ τ_2.2.1 11 j ∧ τ_2.2.1 11 j ≤ 999 := fun j => hT.2 11 j
      have A13 : ∀ j, 0 ≤ τ_2.2.1 13 j ∧ τ_2.2.1 13 j ≤ 4 := fun j => hT.2 13 j
      have A14 : ∀ j, 0 ≤ τ_2.2.1 14 j ∧ τ_2.2.1 14 j ≤ 30000 := fun j => hT.2 14 j
      have A15 : ∀ j, 0 ≤ τ_2.2.1 15 j ∧ τ_2.2.1 15 j ≤ 999 := fun j => hT.2 15 j
      have A16 : ∀ j, (-1) ≤ τ_2.2.1 16 j ∧ τ_2.2.1 16 j ≤ 1499 := fun j => hT.2 16 j
      have A27 : ∀ j, 0 ≤ τ_2.2.1 27 j ∧ τ_2.2.1 27 j ≤ 90000 := fun j => hT.2 27 j
      have A28 : ∀ j, 0 ≤ τ_2.2.1 28 j ∧ τ_2.2.1 28 j ≤ 60 := fun j => hT.2 28 j
      have A29 : ∀ j, 0 ≤ τ_2.2.1 29 j ∧ τ_2.2.1 29 j ≤ 1499 := fun j => hT.2 29 j
      have A30 : ∀ j, 0 ≤ τ_2.2.1 30 j ∧ τ_2.2.1 30 j ≤ 20000 := fun j => hT.2 30 j
      have A31 : ∀ j, 0 ≤ τ_2.2.1 31 j ∧ τ_2.2.1 31 j ≤ 20000 := fun j => hT.2 31 j
      have A32 : ∀ j, 0 ≤ τ_2.2.1 32 j ∧ τ_2.2.1 32 j ≤ 999999 := fun j => hT.2 32 j
      have A33 : ∀ j, 0 ≤ τ_2.2.1 33 j ∧ τ_2.2.1 33 j ≤ 20000 := fun j => hT.2 33 j
      have A34 : ∀ j, 0 ≤ τ_2.2.1 34 j ∧ τ_2.2.1 34 j ≤ 20000 := fun j => hT.2 34 j
      have A35 : ∀ j, 0 ≤ τ_2.2.1 35 j ∧ τ_2.2.1 35 j ≤ 1499 := fun j => hT.2 35 j
      have A36 : ∀ j, 0 ≤ τ_2.2.1 36 j ∧ τ_2.2.1 36 j ≤ 20000 := fun j => hT.2 36 j
      have A37 : ∀ j, 0 ≤ τ_2.2.1 37 j ∧ τ_2.2.1 37 j ≤ 19999 := fun j => hT.2 37 j
      have A44 : ∀ j, 0 ≤ τ_2.2.1 44 j ∧ τ_2.2.1 44 j ≤ 42000 := fun j => hT.2 44 j
      have A45 : ∀ j, 0 ≤ τ_2.2.1 45 j ∧ τ_2.2.1 45 j ≤ 1000 := fun j => hT.2 45 j
      have A67 : ∀ j, 0 ≤ τ_2.2.1 67 j ∧ τ_2.2.1 67 j ≤ 30000 := fun j => hT.2 67 j
      have A68 : ∀ j, 0 ≤ τ_2.2.1 68 j ∧ τ_2.2.1 68 j ≤ 30000 := fun j => hT.2 68 j
      have A69 : ∀ j, (-100) ≤ τ_2.2.1 69 j ∧ τ_2.2.1 69 j ≤ 999 := fun j => hT.2 69 j
      have A70 : ∀ j, 0 ≤ τ_2.2.1 70 j ∧ τ_2.2.1 70 j ≤ 1499 := fun j => hT.2 70 j
      have A71 : ∀ j, 0 ≤ τ_2.2.1 71 j ∧ τ_2.2.1 71 j ≤ 1500 := fun j => hT.2 71 j
      have A72 : ∀ j, 0 ≤ τ_2.2.1 72 j ∧ τ_2.2.1 72 j ≤ 1500 := fun j => hT.2 72 j
      have A73 : ∀ j, 0 ≤ τ_2.2.1 73 j ∧ τ_2.2.1 73 j ≤ 30000 := fun j => hT.2 73 j
      have A74 : ∀ j, 0 ≤ τ_2.2.1 74 j ∧ τ_2.2.1 74 j ≤ 30000 := fun j => hT.2 74 j
      have A75 : ∀ j, 0 ≤ τ_2.2.1 75 j ∧ τ_2.2.1 75 j ≤ 1499 := fun j => hT.2 75 j
      have A76 : ∀ j, 0 ≤ τ_2.2.1 76 j ∧ τ_2.2.1 76 j ≤ 99 := fun j => hT.2 76 j
      have A77 : ∀ j, 0 ≤ τ_2.2.1 77 j ∧ τ_2.2.1 77 j ≤ 999 := fun j => hT.2 77 j
      have A78 : ∀ j, (-1) ≤ τ_2.2.1 78 j ∧ τ_2.2.1 78 j ≤ 1499 := fun j => hT.2 78 j
      have A100 : ∀ j, 0 ≤ τ_2.2.1 100 j ∧ τ_2.2.1 100 j ≤ 1060 := fun j => hT.2 100 j
      have v3 : 0 ≤ τ_2.1 3 ∧ τ_2.1 3 ≤ 2500 := hT.1 3
      have v4 : 0 ≤ τ_2.1 4 ∧ τ_2.1 4 ≤ 100 := hT.1 4
      have v5 : 0 ≤ τ_2.1 5 ∧ τ_2.1 5 ≤ 1000 := hT.1 5
      have v6 : 0 ≤ τ_2.1 6 ∧ τ_2.1 6 ≤ 30000 := hT.1 6
      have v7 : 0 ≤ τ_2.1 7 ∧ τ_2.1 7 ≤ 1500 := hT.1 7
      have v13 : 0 ≤ τ_2.1 13 ∧ τ_2.1 13 ≤ 90000 := hT.1 13
      have v14 : 0 ≤ τ_2.1 14 ∧ τ_2.1 14 ≤ 20000 := hT.1 14
      have v15 : 0 ≤ τ_2.1 15 ∧ τ_2.1 15 ≤ 20000 := hT.1 15
      have v49 : (-1) ≤ τ_2.1 49 ∧ τ_2.1 49 ≤ 999 := hT.1 49
      exfalso; (first | omega | (simp only [st_s] <;> omega) | assumption | omega | fail)
    | succ m_2 ih_2 =>
      intro u1_2 τ_2 hm_2 hT W3 W4 W5 W6 W7 W13 W14 W15 G2 G3 G4 G5 G6 G8 G10 G11 G13 G14 G15 G16 G27 G28 G29 G30 G31 G32 G33 G34 G35 G36 G37 G100 i2_1 i2_2 i2_3 i2_4
      have A2 : ∀ j, 0 ≤ τ_2.2.1 2 j ∧ τ_2.2.1 2 j ≤ 65535 := fun j => hT.2 2 j
      have A3 : ∀ j, 0 ≤ τ_2.2.1 3 j ∧ τ_2.2.1 3 j ≤ 30000 := fun j => hT.2 3 j
      have A4 : ∀ j, (-1000) ≤ τ_2.2.1 4 j ∧ τ_2.2.1 4 j ≤ 1499 := fun j => hT.2 4 j
      have A5 : ∀ j, 0 ≤ τ_2.2.1 5 j ∧ τ_2.2.1 5 j ≤ 2500 := fun j => hT.2 5 j
      have A6 : ∀ j, 0 ≤ τ_2.2.1 6 j ∧ τ_2.2.1 6 j ≤ 2500 := fun j => hT.2 6 j
      have A8 : ∀ j, 0 ≤ τ_2.2.1 8 j ∧ τ_2.2.1 8 j ≤ 1 := fun j => hT.2 8 j
      have A10 : ∀ j, (-1) ≤ τ_2.2.1 10 j ∧ τ_2.2.1 10 j ≤ 99 := fun j => hT.2 10 j
      have A11 : ∀ j, 0 ≤ τ_2.2.1 11 j ∧ τ_2.2.1 11 j ≤ 999 := fun j => hT.2 11 j
      have A13 : ∀ j, 0 ≤ τ_2.2.1 13 j ∧ τ_2.2.1 13 j ≤ 4 := fun j => hT.2 13 j
      have A14 : ∀ j, 0 ≤ τ_2.2.1 14 j ∧ τ_2.2.1 14 j ≤ 30000 := fun j => hT.2 14 j
      have A15 : ∀ j, 0 ≤ τ_2.2.1 15 j ∧ τ_2.2.1 15 j ≤ 999 := fun j => hT.2 15 j
      have A16 : ∀ j, (-1) ≤ τ_2.2.1 16 j ∧ τ_2.2.1 16 j ≤ 1499 := fun j => hT.2 16 j
      have A27 : ∀ j, 0 ≤ τ_2.2.1 27 j ∧ τ_2.2.1 27 j ≤ 90000 := fun j => hT.2 27 j
      have A28 : ∀ j, 0 ≤ τ_2.2.1 28 j ∧ τ_2.2.1 28 j ≤ 60 := fun j => hT.2 28 j
      have A29 : ∀ j, 0 ≤ τ_2.2.1 29 j ∧ τ_2.2.1 29 j ≤ 1499 := fun j => hT.2 29 j
      have A30 : ∀ j, 0 ≤ τ_2.2.1 30 j ∧ τ_2.2.1 30 j ≤ 20000 := fun j => hT.2 30 j
      have A31 : ∀ j, 0 ≤ τ_2.2.1 31 j ∧ τ_2.2.1 31 j ≤ 20000 := fun j => hT.2 31 j
      have A32 : ∀ j, 0 ≤ τ_2.2.1 32 j ∧ τ_2.2.1 32 j ≤ 999999 := fun j => hT.2 32 j
      have A33 : ∀ j, 0 ≤ τ_2.2.1 33 j ∧ τ_2.2.1 33 j ≤ 20000 := fun j => hT.2 33 j
      have A34 : ∀ j, 0 ≤ τ_2.2.1 34 j ∧ τ_2.2.1 34 j ≤ 20000 := fun j => hT.2 34 j
      have A35 : ∀ j, 0 ≤ τ_2.2.1 35 j ∧ τ_2.2.1 35 j ≤ 1499 := fun j => hT.2 35 j
      have A36 : ∀ j, 0 ≤ τ_2.2.1 36 j ∧ τ_2.2.1 36 j ≤ 20000 := fun j => hT.2 36 j
      have A37 : ∀ j, 0 ≤ τ_2.2.1 37 j ∧ τ_2.2.1 37 j ≤ 19999 := fun j => hT.2 37 j
      have A44 : ∀ j, 0 ≤ τ_2.2.1 44 j ∧ τ_2.2.1 44 j ≤ 42000 := fun j => hT.2 44 j
      have A45 : ∀ j, 0 ≤ τ_2.2.1 45 j ∧ τ_2.2.1 45 j ≤ 1000 := fun j => hT.2 45 j
      have A67 : ∀ j, 0 ≤ τ_2.2.1 67 j ∧ τ_2.2.1 67 j ≤ 30000 := fun j => hT.2 67 j
      have A68 : ∀ j, 0 ≤ τ_2.2.1 68 j ∧ τ_2.2.1 68 j ≤ 30000 := fun j => hT.2 68 j
      have A69 : ∀ j, (-100) ≤ τ_2.2.1 69 j ∧ τ_2.2.1 69 j ≤ 999 := fun j => hT.2 69 j
      have A70 : ∀ j, 0 ≤ τ_2.2.1 70 j ∧ τ_2.2.1 70 j ≤ 1499 := fun j => hT.2 70 j
      have A71 : ∀ j, 0 ≤ τ_2.2.1 71 j ∧ τ_2.2.1 71 j ≤ 1500 := fun j => hT.2 71 j
      have A72 : ∀ j, 0 ≤ τ_2.2.1 72 j ∧ τ_2.2.1 72 j ≤ 1500 := fun j => hT.2 72 j
      have A73 : ∀ j, 0 ≤ τ_2.2.1 73 j ∧ τ_2.2.1 73 j ≤ 30000 := fun j => hT.2 73 j
      have A74 : ∀ j, 0 ≤ τ_2.2.1 74 j ∧ τ_2.2.1 74 j ≤ 30000 := fun j => hT.2 74 j
      have A75 : ∀ j, 0 ≤ τ_2.2.1 75 j ∧ τ_2.2.1 75 j ≤ 1499 := fun j => hT.2 75 j
      have A76 : ∀ j, 0 ≤ τ_2.2.1 76 j ∧ τ_2.2.1 76 j ≤ 99 := fun j => hT.2 76 j
      have A77 : ∀ j, 0 ≤ τ_2.2.1 77 j ∧ τ_2.2.1 77 j ≤ 999 := fun j => hT.2 77 j
      have A78 : ∀ j, (-1) ≤ τ_2.2.1 78 j ∧ τ_2.2.1 78 j ≤ 1499 := fun j => hT.2 78 j
      have A100 : ∀ j, 0 ≤ τ_2.2.1 100 j ∧ τ_2.2.1 100 j ≤ 1060 := fun j => hT.2 100 j
      have v3 : 0 ≤ τ_2.1 3 ∧ τ_2.1 3 ≤ 2500 := hT.1 3
      have v4 : 0 ≤ τ_2.1 4 ∧ τ_2.1 4 ≤ 100 := hT.1 4
      have v5 : 0 ≤ τ_2.1 5 ∧ τ_2.1 5 ≤ 1000 := hT.1 5
      have v6 : 0 ≤ τ_2.1 6 ∧ τ_2.1 6 ≤ 30000 := hT.1 6
      have v7 : 0 ≤ τ_2.1 7 ∧ τ_2.1 7 ≤ 1500 := hT.1 7
      have v13 : 0 ≤ τ_2.1 13 ∧ τ_2.1 13 ≤ 90000 := hT.1 13
      have v14 : 0 ≤ τ_2.1 14 ∧ τ_2.1 14 ≤ 20000 := hT.1 14
      have v15 : 0 ≤ τ_2.1 15 ∧ τ_2.1 15 ≤ 20000 := hT.1 15
      have v49 : (-1) ≤ τ_2.1 49 ∧ τ_2.1 49 ≤ 999 := hT.1 49
      have HT : J_ht (τ_2.1 3) (τ_2.2.1 2) (τ_2.2.1 3) (τ_2.2.1 5) (τ_2.2.1 6) := by rw [show (J_ht (τ_2.1 3) (τ_2.2.1 2) (τ_2.2.1 3) (τ_2.2.1 5) (τ_2.2.1 6)) = (J_ht (σ.1 3) (σ.2.1 2) (σ.2.1 3) (σ.2.1 5) (σ.2.1 6)) from by rw [W3, G2, G3, G5, G6]]; exact HT_0
      have MN : J_mn (τ_2.1 3) (τ_2.1 5) ((τ_2.1 7) + 1) (τ_2.2.1 4) := by rw [show (J_mn (τ_2.1 3) (τ_2.1 5) ((τ_2.1 7) + 1) (τ_2.2.1 4)) = (J_mn (σ.1 3) (σ.1 5) ((σ.1 7) + 1) (σ.2.1 4)) from by rw [W3, W5, W7, G4]]; exact MN_0
      have TX : J_vs (τ_2.1 6) (τ_2.1 5) (τ_2.2.1 15) := by rw [show (J_vs (τ_2.1 6) (τ_2.1 5) (τ_2.2.1 15)) = (J_vs (σ.1 6) (σ.1 5) (σ.2.1 15)) from by rw [W5, W6, G15]]; exact TX_0
      have RKS : J_rks (τ_2.1 5) (τ_2.1 4) (τ_2.2.1 10) (τ_2.2.1 11) := by rw [show (J_rks (τ_2.1 5) (τ_2.1 4) (τ_2.2.1 10) (τ_2.2.1 11)) = (J_rks (σ.1 5) (σ.1 4) (σ.2.1 10) (σ.2.1 11)) from by rw [W4, W5, G10, G11]]; exact RKS_0
      have CJ : J_all (τ_2.1 7) (τ_2.1 6) (τ_2.1 13) (τ_2.1 14) (τ_2.1 15) (τ_2.2.1 13) (τ_2.2.1 14) (τ_2.2.1 15) (τ_2.2.1 16) (τ_2.2.1 10) (τ_2.2.1 27) (τ_2.2.1 28) (τ_2.2.1 29) (τ_2.2.1 30) (τ_2.2.1 31) (τ_2.2.1 32) (τ_2.2.1 33) (τ_2.2.1 34) (τ_2.2.1 35) (τ_2.2.1 36) (τ_2.2.1 37) := by rw [show (J_all (τ_2.1 7) (τ_2.1 6) (τ_2.1 13) (τ_2.1 14) (τ_2.1 15) (τ_2.2.1 13) (τ_2.2.1 14) (τ_2.2.1 15) (τ_2.2.1 16) (τ_2.2.1 10) (τ_2.2.1 27) (τ_2.2.1 28) (τ_2.2.1 29) (τ_2.2.1 30) (τ_2.2.1 31) (τ_2.2.1 32) (τ_2.2.1 33) (τ_2.2.1 34) (τ_2.2.1 35) (τ_2.2.1 36) (τ_2.2.1 37)) = (J_all (σ.1 7) (σ.1 6) (σ.1 13) (σ.1 14) (σ.1 15) (σ.2.1 13) (σ.2.1 14) (σ.2.1 15) (σ.2.1 16) (σ.2.1 10) (σ.2.1 27) (σ.2.1 28) (σ.2.1 29) (σ.2.1 30) (σ.2.1 31) (σ.2.1 32) (σ.2.1 33) (σ.2.1 34) (σ.2.1 35) (σ.2.1 36) (σ.2.1 37)) from by rw [W6, W7, W13, W14, W15, G10, G13, G14, G15, G16, G27, G28, G29, G30, G31, G32, G33, G34, G35, G36, G37]]; exact CJ_0
      have BP : J_bp (τ_2.2.1 44) (τ_2.2.1 45) := i2_3
      have SZ : ∀ v, τ_2.2.1 100 v = 0 := by rw [show (∀ v, τ_2.2.1 100 v = 0) = (∀ v, σ.2.1 100 v = 0) from by rw [G100]]; exact SZ_0
      refine h2 u1_2 τ_2 ?_
      refine ⟨fun c1 => ?_, fun c1 => ?_⟩
      ·
        refine ⟨(⟨by (first | omega | (simp only [st_s] <;> omega) | assumption | omega | fail), by (first | omega | (simp only [st_s] <;> omega) | assumption | omega | fail)⟩ : rg (τ_2.1 7 - 4)), ?_⟩
        intro x3 r_x3 h1_x3 h2_x3 h3_x3
        exact l_56 ((1501 - x3 : Int).toNat + 1) _ _ (show (1501 - x3 : Int) < (((1501 - x3 : Int).toNat + 1 : Nat) : Int) from by ((first | omega | (simp only [st_s] <;> omega) | assumption | omega | fail))) hT (show τ_2.1 3 = σ.1 3 from by first | exact W3 | omega) (show τ_2.1 4 = σ.1 4 from by first | exact W4 | omega) (show τ_2.1 5 = σ.1 5 from by first | exact W5 | omega) (show τ_2.1 6 = σ.1 6 from by first | exact W6 | omega) (show τ_2.1 7 = σ.1 7 from by first | exact W7 | omega) (show τ_2.1 13 = σ.1 13 from by first | exact W13 | omega) (show τ_2.1 14 = σ.1 14 from by first | exact W14 | omega) (show τ_2.1 15 = σ.1 15 from by first | exact W15 | omega) G2 G3 G4 G5 G6 G8 G10 G11 G13 G14 G15 G16 G27 G28 G29 G30 G31 G32 G33 G34 G35 G36 G37 G100 (show 0 ≤ x3 ∧ x3 ≤ 1500 from by (first | omega | (simp only [st_s] <;> omega) | assumption | omega | fail)) (show c_GM In0 τ_2 from by (first | omega | (simp only [st_s] <;> omega) | assumption | omega | fail)) (show J_bp (τ_2.2.1 44) (τ_2.2.1 45) from BP) (show c_DB lb τ_2 from by (first | omega | (simp only [st_s] <;> omega) | assumption | omega | fail))
      ·
        refine ⟨(show 0 ≤ u1_2 ∧ u1_2 < 1500 from by (first | omega | (simp only [st_s] <;> omega) | assumption | omega | fail)), ?_⟩
        intro x5 r_x5 e_x5
        have b_x5 : 0 ≤ x5 ∧ x5 ≤ 4 := by rw [e_x5]; exact hT.2 13 _
        refine ⟨fun c6 => ?_, fun c6 => ?_⟩
        ·
          refine ⟨(⟨by (first | omega | (simp only [st_s] <;> omega) | assumption | omega | fail), by (first | omega | (simp only [st_s] <;> omega) | assumption | omega | fail)⟩ : rg (u1_2 + 1)), ?_⟩
          exact ih_2 _ _ (show (1501 - (u1_2 + 1) : Int) < ((m_2 : Nat) : Int) from by ((first | omega | (simp only [st_s] <;> omega) | assumption | omega | fail))) hT (show τ_2.1 3 = σ.1 3 from by first | exact W3 | omega) (show τ_2.1 4 = σ.1 4 from by first | exact W4 | omega) (show τ_2.1 5 = σ.1 5 from by first | exact W5 | omega) (show τ_2.1 6 = σ.1 6 from by first | exact W6 | omega) (show τ_2.1 7 = σ.1 7 from by first | exact W7 | omega) (show τ_2.1 13 = σ.1 13 from by first | exact W13 | omega) (show τ_2.1 14 = σ.1 14 from by first | exact W14 | omega) (show τ_2.1 15 = σ.1 15 from by first | exact W15 | omega) G2 G3 G4 G5 G6 G8 G10 G11 G13 G14 G15 G16 G27 G28 G29 G30 G31 G32 G33 G34 G35 G36 G37 G100 (show 0 ≤ (u1_2 + 1) ∧ (u1_2 + 1) ≤ 1500 from by (first | omega | (simp only [st_s] <;> omega) | assumption | omega | fail)) (show c_GM In0 τ_2 from by (first | omega | (simp only [st_s] <;> omega) | assumption | omega | fail)) (show J_bp (τ_2.2.1 44) (τ_2.2.1 45) from BP) (show c_DB lb τ_2 from by (first | omega | (simp only [st_s] <;> omega) | assumption | omega | fail))
        ·
          refine ⟨_, K_X12_isSound hT (show 0 ≤ u1_2 from by (first | omega | (simp only [st_s] <;> omega) | assumption | omega | fail)) (show u1_2 < (τ_2.1 7) from by (first | omega | (simp only [st_s] <;> omega) | assumption | omega | fail)) (show τ_2.2.1 13 u1_2 = 3 from by (first | omega | (simp only [st_s] <;> omega) | assumption | omega | fail)) (show J_all (τ_2.1 7) (τ_2.1 6) (τ_2.1 13) (τ_2.1 14) (τ_2.1 15) (τ_2.2.1 13) (τ_2.2.1 14) (τ_2.2.1 15) (τ_2.2.1 16) (τ_2.2.1 10) (τ_2.2.1 27) (τ_2.2.1 28) (τ_2.2.1 29) (τ_2.2.1 30) (τ_2.2.1 31) (τ_2.2.1 32) (τ_2.2.1 33) (τ_2.2.1 34) (τ_2.2.1 35) (τ_2.2.1 36) (τ_2.2.1 37) from CJ) (show J_bp (τ_2.2.1 44) (τ_2.2.1 45) from BP), ?_⟩
          intro x9 τ10 r_x9 hn_τ10 hf_τ10 hq
          obtain ⟨hT, q8_1, q8_2⟩ := hq
          replace q8_1 : 0 ≤ x9 ∧ x9 ≤ 1 := q8_1
          replace q8_2 : J_bp (τ10.2.1 44) (τ10.2.1 45) := q8_2
          have w3_τ10 : τ10.1 3 = τ_2.1 3 := hf_τ10.1 3 (by decide)
          have w4_τ10 : τ10.1 4 = τ_2.1 4 := hf_τ10.1 4 (by decide)
          have w5_τ10 : τ10.1 5 = τ_2.1 5 := hf_τ10.1 5 (by decide)
          have w6_τ10 : τ10.1 6 = τ_2.1 6 := hf_τ10.1 6 (by decide)
          have w7_τ10 : τ10.1 7 = τ_2.1 7 := hf_τ10.1 7 (by decide)
          have w13_τ10 : τ10.1 13 = τ_2.1 13 := hf_τ10.1 13 (by decide)
          have w14_τ10 : τ10.1 14 = τ_2.1 14 := hf_τ10.1 14 (by decide)
          have w15_τ10 : τ10.1 15 = τ_2.1 15 := hf_τ10.1 15 (by decide)
          have w49_τ10 : τ10.1 49 = τ_2.1 49 := hf_τ10.1 49 (by decide)
          have g2_τ10 : τ10.2.1 2 = τ_2.2.1 2 := hf_τ10.2.1 2 (by decide)
          have g3_τ10 : τ10.2.1 3 = τ_2.2.1 3 := hf_τ10.2.1 3 (by decide)
          have g4_τ10 : τ10.2.1 4 = τ_2.2.1 4 := hf_τ10.2.1 4 (by decide)
          have g5_τ10 : τ10.2.1 5 = τ_2.2.1 5 := hf_τ10.2.1 5 (by decide)
          have g6_τ10 : τ10.2.1 6 = τ_2.2.1 6 := hf_τ10.2.1 6 (by decide)
          have g8_τ10 : τ10.2.1 8 = τ_2.2.1 8 := hf_τ10.2.1 8 (by decide)
          have g10_τ10 : τ10.2.1 10 = τ_2.2.1 10 := hf_τ10.2.1 10 (by decide)
          have g11_τ10 : τ10.2.1 11 = τ_2.2.1 11 := hf_τ10.2.1 11 (by decide)
          have g13_τ10 : τ10.2.1 13 = τ_2.2.1 13 := hf_τ10.2.1 13 (by decide)
          have g14_τ10 : τ10.2.1 14 = τ_2.2.1 14 := hf_τ10.2.1 14 (by decide)
          have g15_τ10 : τ10.2.1 15 = τ_2.2.1 15 := hf_τ10.2.1 15 (by decide)
          have g16_τ10 : τ10.2.1 16 = τ_2.2.1 16 := hf_τ10.2.1 16 (by decide)
          have g27_τ10 : τ10.2.1 27 = τ_2.2.1 27 := hf_τ10.2.1 27 (by decide)
          have g28_τ10 : τ10.2.1 28 = τ_2.2.1 28 := hf_τ10.2.1 28 (by decide)
          have g29_τ10 : τ10.2.1 29 = τ_2.2.1 29 := hf_τ10.2.1 29 (by decide)
          have g30_τ10 : τ10.2.1 30 = τ_2.2.1 30 := hf_τ10.2.1 30 (by decide)
          have g31_τ10 : τ10.2.1 31 = τ_2.2.1 31 := hf_τ10.2.1 31 (by decide)
          have g32_τ10 : τ10.2.1 32 = τ_2.2.1 32 := hf_τ10.2.1 32 (by decide)
          have g33_τ10 : τ10.2.1 33 = τ_2.2.1 33 := hf_τ10.2.1 33 (by decide)
          have g34_τ10 : τ10.2.1 34 = τ_2.2.1 34 := hf_τ10.2.1 34 (by decide)
          have g35_τ10 : τ10.2.1 35 = τ_2.2.1 35 := hf_τ10.2.1 35 (by decide)
          have g36_τ10 : τ10.2.1 36 = τ_2.2.1 36 := hf_τ10.2.1 36 (by decide)
          have g37_τ10 : τ10.2.1 37 = τ_2.2.1 37 := hf_τ10.2.1 37 (by decide)
          have g67_τ10 : τ10.2.1 67 = τ_2.2.1 67 := hf_τ10.2.1 67 (by decide)
          have g68_τ10 : τ10.2.1 68 = τ_2.2.1 68 := hf_τ10.2.1 68 (by decide)
          have g69_τ10 : τ10.2.1 69 = τ_2.2.1 69 := hf_τ10.2.1 69 (by decide)
          have g70_τ10 : τ10.2.1 70 = τ_2.2.1 70 := hf_τ10.2.1 70 (by decide)
          have g71_τ10 : τ10.2.1 71 = τ_2.2.1 71 := hf_τ10.2.1 71 (by decide)
          have g72_τ10 : τ10.2.1 72 = τ_2.2.1 72 := hf_τ10.2.1 72 (by decide)
          have g73_τ10 : τ10.2.1 73 = τ_2.2.1 73 := hf_τ10.2.1 73 (by decide)
          have g74_τ10 : τ10.2.1 74 = τ_2.2.1 74 := hf_τ10.2.1 74 (by decide)
          have g75_τ10 : τ10.2.1 75 = τ_2.2.1 75 := hf_τ10.2.1 75 (by decide)
          have g76_τ10 : τ10.2.1 76 = τ_2.2.1 76 := hf_τ10.2.1 76 (by decide)
          have g77_τ10 : τ10.2.1 77 = τ_2.2.1 77 := hf_τ10.2.1 77 (by decide)
          have g78_τ10 : τ10.2.1 78 = τ_2.2.1 78 := hf_τ10.2.1 78 (by decide)
          have g100_τ10 : τ10.2.1 100 = τ_2.2.1 100 := hf_τ10.2.1 100 (by decide)
          have W3 : τ10.1 3 = σ.1 3 := by first | exact w3_τ10.trans W3 | omega
          have W4 : τ10.1 4 = σ.1 4 := by first | exact w4_τ10.trans W4 | omega
          have W5 : τ10.1 5 = σ.1 5 := by first | exact w5_τ10.trans W5 | omega
          have W6 : τ10.1 6 = σ.1 6 := by first | exact w6_τ10.trans W6 | omega
          have W7 : τ10.1 7 = σ.1 7 := by first | exact w7_τ10.trans W7 | omega
          have W13 : τ10.1 13 = σ.1 13 := by first | exact w13_τ10.trans W13 | omega
          have W14 : τ10.1 14 = σ.1 14 := by first | exact w14_τ10.trans W14 | omega
          have W15 : τ10.1 15 = σ.1 15 := by first | exact w15_τ10.trans W15 | omega
          have G2 : τ10.2.1 2 = σ.2.1 2 := (g2_τ10).trans G2
          have G3 : τ10.2.1 3 = σ.2.1 3 := (g3_τ10).trans G3
          have G4 : τ10.2.1 4 = σ.2.1 4 := (g4_τ10).trans G4
          have G5 : τ10.2.1 5 = σ.2.1 5 := (g5_τ10).trans G5
          have G6 : τ10.2.1 6 = σ.2.1 6 := (g6_τ10).trans G6
          have G8 : τ10.2.1 8 = σ.2.1 8 := (g8_τ10).trans G8
          have G10 : τ10.2.1 10 = σ.2.1 10 := (g10_τ10).trans G10
          have G11 : τ10.2.1 11 = σ.2.1 11 := (g11_τ10).trans G11
          have G13 : τ10.2.1 13 = σ.2.1 13 := (g13_τ10).trans G13
          have G14 : τ10.2.1 14 = σ.2.1 14 := (g14_τ10).trans G14
          have G15 : τ10.2.1 15 = σ.2.1 15 := (g15_τ10).trans G15
          have G16 : τ10.2.1 16 = σ.2.1 16 := (g16_τ10).trans G16
          have G27 : τ10.2.1 27 = σ.2.1 27 := (g27_τ10).trans G27
          have G28 : τ10.2.1 28 = σ.2.1 28 := (g28_τ10).trans G28
          have G29 : τ10.2.1 29 = σ.2.1 29 := (g29_τ10).trans G29
          have G30 : τ10.2.1 30 = σ.2.1 30 := (g30_τ10).trans G30
          have G31 : τ10.2.1 31 = σ.2.1 31 := (g31_τ10).trans G31
          have G32 : τ10.2.1 32 = σ.2.1 32 := (g32_τ10).trans G32
          have G33 : τ10.2.1 33 = σ.2.1 33 := (g33_τ10).trans G33
          have G34 : τ10.2.1 34 = σ.2.1 34 := (g34_τ10).trans G34
          have G35 : τ10.2.1 35 = σ.2.1 35 := (g35_τ10).trans G35
          have G36 : τ10.2.1 36 = σ.2.1 36 := (g36_τ10).trans G36
          have G37 : τ10.2.1 37 = σ.2.1 37 := (g37_τ10).trans G37
          have G100 : τ10.2.1 100 = σ.2.1 100 := (g100_τ10).trans G100
          have HT : J_ht (τ10.1 3) (τ10.2.1 2) (τ10.2.1 3) (τ10.2.1 5) (τ10.2.1 6) := by rw [show (J_ht (τ10.1 3) (τ10.2.1 2) (τ10.2.1 3) (τ10.2.1 5) (τ10.2.1 6)) = (J_ht (τ_2.1 3) (τ_2.2.1 2) (τ_2.2.1 3) (τ_2.2.1 5) (τ_2.2.1 6)) from by rw [w3_τ10, g2_τ10, g3_τ10, g5_τ10, g6_τ10]]; exact HT
          have MN : J_mn (τ10.1 3) (τ10.1 5) ((τ10.1 7) + 1) (τ10.2.1 4) := by rw [show (J_mn (τ10.1 3) (τ10.1 5) ((τ10.1 7) + 1) (τ10.2.1 4)) = (J_mn (τ_2.1 3) (τ_2.1 5) ((τ_2.1 7) + 1) (τ_2.2.1 4)) from by rw [w3_τ10, w5_τ10, w7_τ10, g4_τ10]]; exact MN
          have TX : J_vs (τ10.1 6) (τ10.1 5) (τ10.2.1 15) := by rw [show (J_vs (τ10.1 6) (τ10.1 5) (τ10.2.1 15)) = (J_vs (τ_2.1 6) (τ_2.1 5) (τ_2.2.1 15)) from by rw [w5_τ10, w6_τ10, g15_τ10]]; exact TX
          have RKS : J_rks (τ10.1 5) (τ10.1 4) (τ10.2.1 10) (τ10.2.1 11) := by rw [show (J_rks (τ10.1 5) (τ10.1 4) (τ10.2.1 10) (τ10.2.1 11)) = (J_rks (τ_2.1 5) (τ_2.1 4) (τ_2.2.1 10) (τ_2.2.1 11)) from by rw [w4_τ10, w5_τ10, g10_τ10, g11_τ10]]; exact RKS
          have CJ : J_all (τ10.1 7) (τ10.1 6) (τ10.1 13) (τ10.1 14) (τ10.1 15) (τ10.2.1 13) (τ10.2.1 14) (τ10.2.1 15) (τ10.2.1 16) (τ10.2.1 10) (τ10.2.1 27) (τ10.2.1 28) (τ10.2.1 29) (τ10.2.1 30) (τ10.2.1 31) (τ10.2.1 32) (τ10.2.1 33) (τ10.2.1 34) (τ10.2.1 35) (τ10.2.1 36) (τ10.2.1 37) := by rw [show (J_all (τ10.1 7) (τ10.1 6) (τ10.1 13) (τ10.1 14) (τ10.1 15) (τ10.2.1 13) (τ10.2.1 14) (τ10.2.1 15) (τ10.2.1 16) (τ10.2.1 10) (τ10.2.1 27) (τ10.2.1 28) (τ10.2.1 29) (τ10.2.1 30) (τ10.2.1 31) (τ10.2.1 32) (τ10.2.1 33) (τ10.2.1 34) (τ10.2.1 35) (τ10.2.1 36) (τ10.2.1 37)) = (J_all (τ_2.1 7) (τ_2.1 6) (τ_2.1 13) (τ_2.1 14) (τ_2.1 15) (τ_2.2.1 13) (τ_2.2.1 14) (τ_2.2.1 15) (τ_2.2.1 16) (τ_2.2.1 10) (τ_2.2.1 27) (τ_2.2.1 28) (τ_2.2.1 29) (τ_2.2.1 30) (τ_2.2.1 31) (τ_2.2.1 32) (τ_2.2.1 33) (τ_2.2.1 34) (τ_2.2.1 35) (τ_2.2.1 36) (τ_2.2.1 37)) from by rw [w6_τ10, w7_τ10, w13_τ10, w14_τ10, w15_τ10, g10_τ10, g13_τ10, g14_τ10, g15_τ10, g16_τ10, g27_τ10, g28_τ10, g29_τ10, g30_τ10, g31_τ10, g32_τ10, g33_τ10, g34_τ10, g35_τ10, g36_τ10, g37_τ10]]; exact CJ
          have BP : J_bp (τ10.2.1 44) (τ10.2.1 45) := q8_2
          have SZ : ∀ v, τ10.2.1 100 v = 0 := by rw [show (∀ v, τ10.2.1 100 v = 0) = (∀ v, τ_2.2.1 100 v = 0) from by rw [g100_τ10]]; exact SZ
          have A2 : ∀ j, 0 ≤ τ10.2.1 2 j ∧ τ10.2.1 2 j ≤ 65535 := fun j => hT.2 2 j
          have A3 : ∀ j, 0 ≤ τ10.2.1 3 j ∧ τ10.2.1 3 j ≤ 30000 := fun j => hT.2 3 j
          have A4 : ∀ j, (-1000) ≤ τ10.2.1 4 j ∧ τ10.2.1 4 j ≤ 1499 := fun j => hT.2 4 j
          have A5 : ∀ j, 0 ≤ τ10.2.1 5 j ∧ τ10.2.1 5 j ≤ 2500 := fun j => hT.2 5 j
          have A6 : ∀ j, 0 ≤ τ10.2.1 6 j ∧ τ10.2.1 6 j ≤ 2500 := fun j => hT.2 6 j
          have A8 : ∀ j, 0 ≤ τ10.2.1 8 j ∧ τ10.2.1 8 j ≤ 1 := fun j => hT.2 8 j
          have A10 : ∀ j, (-1) ≤ τ10.2.1 10 j ∧ τ10.2.1 10 j ≤ 99 := fun j => hT.2 10 j
          have A11 : ∀ j, 0 ≤ τ10.2.1 11 j ∧ τ10.2.1 11 j ≤ 999 := fun j => hT.2 11 j
          have A13 : ∀ j, 0 ≤ τ10.2.1 13 j ∧ τ10.2.1 13 j ≤ 4 := fun j => hT.2 13 j
          have A14 : ∀ j, 0 ≤ τ10.2.1 14 j ∧ τ10.2.1 14 j ≤ 30000 := fun j => hT.2 14 j
          have A15 : ∀ j, 0 ≤ τ10.2.1 15 j ∧ τ10.2.1 15 j ≤ 999 := fun j => hT.2 15 j
          have A16 : ∀ j, (-1) ≤ τ10.2.1 16 j ∧ τ10.2.1 16 j ≤ 1499 := fun j => hT.2 16 j
          have A27 : ∀ j, 0 ≤ τ10.2.1 27 j ∧ τ10.2.1 27 j ≤ 90000 := fun j => hT.2 27 j
          have A28 : ∀ j, 0 ≤ τ10.2.1 28 j ∧ τ10.2.1 28 j ≤ 60 := fun j => hT.2 28 j
          have A29 : ∀ j, 0 ≤ τ10.2.1 29 j ∧ τ10.2.1 29 j ≤ 1499 := fun j => hT.2 29 j
          have A30 : ∀ j, 0 ≤ τ10.2.1 30 j ∧ τ10.2.1 30 j ≤ 20000 := fun j => hT.2 30 j
          have A31 : ∀ j, 0 ≤ τ10.2.1 31 j ∧ τ10.2.1 31 j ≤ 20000 := fun j => hT.2 31 j
          have A32 : ∀ j, 0 ≤ τ10.2.1 32 j ∧ τ10.2.1 32 j ≤ 999999 := fun j => hT.2 32 j
          have A33 : ∀ j, 0 ≤ τ10.2.1 33 j ∧ τ10.2.1 33 j ≤ 20000 := fun j => hT.2 33 j
          have A34 : ∀ j, 0 ≤ τ10.2.1 34 j ∧ τ10.2.1 34 j ≤ 20000 := fun j => hT.2 34 j
          have A35 : ∀ j, 0 ≤ τ10.2.1 35 j ∧ τ10.2.1 35 j ≤ 1499 := fun j => hT.2 35 j
          have A36 : ∀ j, 0 ≤ τ10.2.1 36 j ∧ τ10.2.1 36 j ≤ 20000 := fun j => hT.2 36 j
          have A37 : ∀ j, 0 ≤ τ10.2.1 37 j ∧ τ10.2.1 37 j ≤ 19999 := fun j => hT.2 37 j
          have A44 : ∀ j, 0 ≤ τ10.2.1 44 j ∧ τ10.2.1 44 j ≤ 42000 := fun j => hT.2 44 j
          have A45 : ∀ j, 0 ≤ τ10.2.1 45 j ∧ τ10.2.1 45 j ≤ 1000 := fun j => hT.2 45 j
          have A67 : ∀ j, 0 ≤ τ10.2.1 67 j ∧ τ10.2.1 67 j ≤ 30000 := fun j => hT.2 67 j
          have A68 : ∀ j, 0 ≤ τ10.2.1 68 j ∧ τ10.2.1 68 j ≤ 30000 := fun j => hT.2 68 j
          have A69 : ∀ j, (-100) ≤ τ10.2.1 69 j ∧ τ10.2.1 69 j ≤ 999 := fun j => hT.2 69 j
          have A70 : ∀ j, 0 ≤ τ10.2.1 70 j ∧ τ10.2.1 70 j ≤ 1499 := fun j => hT.2 70 j
          have A71 : ∀ j, 0 ≤ τ10.2.1 71 j ∧ τ10.2.1 71 j ≤ 1500 := fun j => hT.2 71 j
          have A72 : ∀ j, 0 ≤ τ10.2.1 72 j ∧ τ10.2.1 72 j ≤ 1500 := fun j => hT.2 72 j
          have A73 : ∀ j, 0 ≤ τ10.2.1 73 j ∧ τ10.2.1 73 j ≤ 30000 := fun j => hT.2 73 j
          have A74 : ∀ j, 0 ≤ τ10.2.1 74 j ∧ τ10.2.1 74 j ≤ 30000 := fun j => hT.2 74 j
          have A75 : ∀ j, 0 ≤ τ10.2.1 75 j ∧ τ10.2.1 75 j ≤ 1499 := fun j => hT.2 75 j
          have A76 : ∀ j, 0 ≤ τ10.2.1 76 j ∧ τ10.2.1 76 j ≤ 99 := fun j => hT.2 76 j
          have A77 : ∀ j, 0 ≤ τ10.2.1 77 j ∧ τ10.2.1 77 j ≤ 999 := fun j => hT.2 77 j
          have A78 : ∀ j, (-1) ≤ τ10.2.1 78 j ∧ τ10.2.1 78 j ≤ 1499 := fun j => hT.2 78 j
          have A100 : ∀ j, 0 ≤ τ10.2.1 100 j ∧ τ10.2.1 100 j ≤ 1060 := fun j => hT.2 100 j
          have v3 : 0 ≤ τ10.1 3 ∧ τ10.1 3 ≤ 2500 := hT.1 3
          have v4 : 0 ≤ τ10.1 4 ∧ τ10.1 4 ≤ 100 := hT.1 4
          have v5 : 0 ≤ τ10.1 5 ∧ τ10.1 5 ≤ 1000 := hT.1 5
          have v6 : 0 ≤ τ10.1 6 ∧ τ10.1 6 ≤ 30000 := hT.1 6
          have v7 : 0 ≤ τ10.1 7 ∧ τ10.1 7 ≤ 1500 := hT.1 7
          have v13 : 0 ≤ τ10.1 13 ∧ τ10.1 13 ≤ 90000 := hT.1 13
          have v14 : 0 ≤ τ10.1 14 ∧ τ10.1 14 ≤ 20000 := hT.1 14
          have v15 : 0 ≤ τ10.1 15 ∧ τ10.1 15 ≤ 20000 := hT.1 15
          have v49 : (-1) ≤ τ10.1 49 ∧ τ10.1 49 ≤ 999 := hT.1 49
          have gm10 := c_GM_h i2_2 hf_τ10 rfl rfl rfl
          have db10 := c_DB_h (show c_DB lb τ_2 from i2_4) hf_τ10 rfl rfl
          refine ⟨fun c11 => ?_, fun c11 => ?_⟩
          ·
            refine ⟨(⟨by (first | omega | (simp only [st_s] <;> omega) | assumption | omega | fail), by (first | omega | (simp only [st_s] <;> omega) | assumption | omega | fail)⟩ : rg (u1_2 + 1)), ?_⟩
            exact ih_2 _ _ (show (1501 - (u1_2 + 1) : Int) < ((m_2 : Nat) : Int) from by ((first | omega | (simp only [st_s] <;> omega) | assumption | omega | fail))) hT (show τ10.1 3 = σ.1 3 from by first | exact W3 | omega) (show τ10.1 4 = σ.1 4 from by first | exact W4 | omega) (show τ10.1 5 = σ.1 5 from by first | exact W5 | omega) (show τ10.1 6 = σ.1 6 from by first | exact W6 | omega) (show τ10.1 7 = σ.1 7 from by first | exact W7 | omega) (show τ10.1 13 = σ.1 13 from by first | exact W13 | omega) (show τ10.1 14 = σ.1 14 from by first | exact W14 | omega) (show τ10.1 15 = σ.1 15 from by first | exact W15 | omega) G2 G3 G4 G5 G6 G8 G10 G11 G13 G14 G15 G16 G27 G28 G29 G30 G31 G32 G33 G34 G35 G36 G37 G100 (show 0 ≤ (u1_2 + 1) ∧ (u1_2 + 1) ≤ 1500 from by (first | omega | (simp only [st_s] <;> omega) | assumption | omega | fail)) (show c_GM In0 τ10 from by (first | omega | (simp only [st_s] <;> omega) | assumption | omega | fail)) (show J_bp (τ10.2.1 44) (τ10.2.1 45) from BP) (show c_DB lb τ10 from by (first | omega | (simp only [st_s] <;> omega) | assumption | omega | fail))
          ·
            exact ⟨hT, (show c_GM In0 τ10 from by (first | omega | (simp only [st_s] <;> omega) | assumption | omega | fail)), (show J_bp (τ10.2.1 44) (τ10.2.1 45) from BP), (show c_DB lb τ10 from by (first | omega | (simp only [st_s] <;> omega) | assumption | omega | fail))⟩
  exact l_2 ((1501 - 0 : Int).toNat + 1) _ _ (show (1501 - 0 : Int) < (((1501 - 0 : Int).toNat + 1 : Nat) : Int) from by ((first | omega | (simp only [st_s] <;> omega) | assumption | omega | fail))) hT (show σ.1 3 = σ.1 3 from by first | exact W3 | omega) (show σ.1 4 = σ.1 4 from by first | exact W4 | omega) (show σ.1 5 = σ.1 5 from by first | exact W5 | omega) (show σ.1 6 = σ.1 6 from by first | exact W6 | omega) (show σ.1 7 = σ.1 7 from by first | exact W7 | omega) (show σ.1 13 = σ.1 13 from by first | exact W13 | omega) (show σ.1 14 = σ.1 14 from by first | exact W14 | omega) (show σ.1 15 = σ.1 15 from by first | exact W15 | omega) G2 G3 G4 G5 G6 G8 G10 G11 G13 G14 G15 G16 G27 G28 G29 G30 G31 G32 G33 G34 G35 G36 G37 G100 (show 0 ≤ 0 ∧ 0 ≤ 1500 from by (first | omega | (simp only [st_s] <;> omega) | assumption | omega | fail)) (show c_GM In0 σ from by (first | omega | (simp only [st_s] <;> omega) | assumption | omega | fail)) (show J_bp (σ.2.1 44) (σ.2.1 45) from BP) (show c_DB lb σ from by (first | omega | (simp only [st_s] <;> omega) | assumption | omega | fail))
