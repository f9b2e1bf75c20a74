-- pure: a proof is gone through again, as it was when it was read
def n_same (P S : Int) (N F M G N' F' M' G' : Int → Int) : Prop := (∀ j : Int, 0 ≤ j → j < P → N' j = N j ∧ F' j = F j) ∧ ∀ j : Int, 0 ≤ j → j < S → M' j = M j ∧ G' j = G j
theorem n_mk_c {w P S b n f : Int} {kd ta ts tx iv ha hs hy N F M G N' F' M' G' : Int → Int} (e : n_same P S N F M G N' F' M' G') (h : n_mk w P S b n f kd ta ts tx iv ha hs hy N F M G) : n_mk w P S b n f kd ta ts tx iv ha hs hy N' F' M' G' := by
  rcases h with ⟨h0, h1, h2, h3, h4⟩ | h | ⟨h0, h1, h2, h3, h4, ⟨bs, h5, h6⟩, h7⟩
  · have q := e.2 (-1 - w) (by omega) h1
    exact Or.inl ⟨h0, h1, h2, by rw [q.1]; exact h3, by rw [q.2]; exact h4⟩
  · exact Or.inr (Or.inl h)
  · refine Or.inr (Or.inr ⟨h0, h1, h2, h3, fun k k0 k1 z => ?_, ⟨bs, fun k k0 k1 z => ?_, h6⟩, h7⟩)
    · have q := e.1 (b + k) (by omega) (by omega)
      rw [q.1, q.2]; exact h4 k k0 k1 z
    · have q := e.1 (b + k) (by omega) (by omega)
      rw [q.1]; exact h5 k k0 k1 z
theorem n_mk_b {w P S b n f : Int} {kd ta ts tx iv ha hs hy N F M G : Int → Int} (hs0 : ∀ j : Int, 0 ≤ hs j) (h : n_mk w P S b n f kd ta ts tx iv ha hs hy N F M G) : b ≤ P := by
  rcases h with ⟨_, _, h2, _⟩ | ⟨_, _, h2, _⟩ | ⟨_, _, h2, h3, _⟩
  · omega
  · omega
  · have := hs0 w; omega
theorem n_ok_c {v b n P S : Int} {N F M G N' F' M' G' : Int → Int} (e : n_same P S N F M G N' F' M' G') (bP : b ≤ P) (h : n_ok v b n S N M) : n_ok v b n S N' M' := by
  have e1 : sm N' b = sm N b := sm_x (fun j a c => (e.1 j a (by omega)).1)
  have e2 : sm M' S = sm M S := sm_x (fun j a c => (e.2 j a c).1)
  unfold n_ok
  rw [e1, e2]; exact h
theorem n_mk_u {w P S b n f b' n' f' sy : Int} {kd ta ts tx iv ha hs hy ty bg fl N F M G : Int → Int} (hA : 0 ≤ w → n_A w sy iv ty bg kd ta ts tx fl) (hB : 0 ≤ w → 2 ≤ kd w → n_B w iv kd ta ts tx fl ha hs hy) (h : n_mk w P S b n f kd ta ts tx iv ha hs hy N F M G) (h' : n_mk w P S b' n' f' kd ta ts tx iv ha hs hy N F M G) : b = b' ∧ n = n' ∧ f = f' := by
  rcases h with ⟨h0, h1, h2, h3, h4⟩ | ⟨h0, h1, h2, h3, h4⟩ | ⟨h0, h1, h2, h3, h4, ⟨bs, h5, h6⟩, h7⟩ <;> rcases h' with ⟨g0, g1, g2, g3, g4⟩ | ⟨g0, g1, g2, g3, g4⟩ | ⟨g0, g1, g2, g3, g4, ⟨bs', g5, g6⟩, g7⟩
  · exact ⟨by omega, by omega, by omega⟩
  · omega
  · omega
  · omega
  · exact ⟨by omega, by omega, by omega⟩
  · omega
  · omega
  · omega
  · have eb : b = b' := by omega
    rw [← eb] at g5
    exact ⟨eb, by rw [h6, g6]; exact n_sz_u (hA h0) (hB h0 h1) h5 g5, by omega⟩
/-- a state of the pile that is the run's -/
def n_at (P S : Int) (N F M G : Int → Int) (τ : S0) : Prop := (τ.1 30 = P ∧ τ.1 32 = S) ∧ n_same P S N F M G (τ.2.1 41) (n_F2 τ) (τ.2.1 45) (n_G2 τ) ∧ n_pw (τ.1 30) (τ.1 31) (τ.2.1 40) (τ.2.1 41) ∧ n_pw (τ.1 32) (τ.1 33) (τ.2.1 44) (τ.2.1 45)
theorem n_at_i {i w v P S P' S' : Int} {τ : S0} {N F M G N' F' M' G' : Int → Int} (a : n_at P S N F M G τ) (hs0 : ∀ j : Int, 0 ≤ τ.2.1 19 j) (h : n_sT i w v P S P' S' (τ.2.1 13) (τ.2.1 14) (τ.2.1 15) (τ.2.1 16) (τ.2.1 8) (τ.2.1 18) (τ.2.1 19) (τ.2.1 20) N F M G N' F' M' G') : n_mi τ w v := by
  obtain ⟨⟨a1, a2⟩, a3, _⟩ := a
  obtain ⟨_, b, n, f, m, ok, _⟩ := h
  unfold n_mi
  rw [a1, a2]
  exact ⟨b, n, f, n_mk_c a3 m, n_ok_c a3 (n_mk_b hs0 m) ok⟩
theorem n_at_n {i w v P S P' S' : Int} {τ υ : S0} {N F M G N' F' M' G' : Int → Int} (a : n_at P S N F M G τ) (hs0 : ∀ j : Int, 0 ≤ τ.2.1 19 j) (h : n_sT i w v P S P' S' (τ.2.1 13) (τ.2.1 14) (τ.2.1 15) (τ.2.1 16) (τ.2.1 8) (τ.2.1 18) (τ.2.1 19) (τ.2.1 20) N F M G N' F' M' G') (d : n_dA τ υ w v) (J : 0 ≤ w → n_J1 w τ) : n_at P' S' N' F' M' G' υ := by
  obtain ⟨⟨a1, a2⟩, a3, _⟩ := a
  obtain ⟨_, b, n, f, m, ok, x1, x2, x3, x4, x5, x6, x7⟩ := h
  obtain ⟨⟨b', n', f', m', ok', y1, y2, y3, y4, y5, y6, y7⟩, d2, d3⟩ := d
  rw [a1, a2] at m'
  obtain ⟨eb, en, ef⟩ := n_mk_u (fun z => (J z).1) (fun z z2 => (J z).2.1 z2) (n_mk_c a3 m) m'
  have bP := n_mk_b hs0 m
  rw [← eb] at y1 y2 y3 y4
  refine ⟨⟨by omega, ?_⟩, ⟨fun j j0 j1 => ?_, fun j j0 j1 => ?_⟩, d2, d3⟩
  · by_cases z : v = 0
    · rw [x5 z, y5 z]; exact a2
    · rw [(x6 z).1, (y6 z).1, a2]
  · rcases (by omega : j < b ∨ j = b) with q | q
    · have e := a3.1 j j0 (by omega)
      rw [(y4 j j0 q).1, (y4 j j0 q).2, (x4 j j0 q).1, (x4 j j0 q).2]; exact e
    · rw [q, y2, y3, x2, x3]; exact ⟨en.symm, ef.symm⟩
  · rw [a2] at y7
    rcases (by omega : j < S ∨ S ≤ j) with q | q
    · rw [(y7 j j0 q).1, (y7 j j0 q).2, (x7 j j0 q).1, (x7 j j0 q).2]; exact a3.2 j j0 q
    · have z : ¬ v = 0 := fun z => by have := x5 z; omega
      have q2 : j = S := by have := (x6 z).1; omega
      have u := y6 z
      rw [a2] at u
      rw [q2, u.2.1, u.2.2, (x6 z).2.1, (x6 z).2.2]; exact ⟨en.symm, ef.symm⟩
theorem n_at_0 {P S : Int} {N F M G : Int → Int} {τ : S0} (p0 : P = 0) (s0 : S = 0) (h30 : τ.1 30 = 0) (h31 : τ.1 31 = 0) (h32 : τ.1 32 = 0) (h33 : τ.1 33 = 0) : n_at P S N F M G τ := by
  refine ⟨⟨by omega, by omega⟩, ⟨fun j a b => by omega, fun j a b => by omega⟩, ?_, ?_⟩
  · rw [h30]; exact n_pw_0 h31
  · rw [h32]; exact n_pw_0 h33
theorem n_at_h {P S : Int} {N F M G : Int → Int} {τ υ : S0} {wv wa wb : List Nat} (h : n_at P S N F M G τ) (hf : f_r wv wa wb τ υ) (d1 : [30, 31, 32, 33].all (fun i => !wv.contains i) = true) (d2 : [40, 41, 43, 44, 45, 47].all (fun i => !wa.contains i) = true) : n_at P S N F M G υ := by
  unfold n_at n_F2 n_G2
  rw [hf.1 30 (n_fl d1 30 (by decide)), hf.1 31 (n_fl d1 31 (by decide)), hf.1 32 (n_fl d1 32 (by decide)), hf.1 33 (n_fl d1 33 (by decide)), hf.2.1 40 (n_fl d2 40 (by decide)), hf.2.1 41 (n_fl d2 41 (by decide)), hf.2.1 43 (n_fl d2 43 (by decide)), hf.2.1 44 (n_fl d2 44 (by decide)), hf.2.1 45 (n_fl d2 45 (by decide)), hf.2.1 47 (n_fl d2 47 (by decide))]
  exact h
theorem n_Y_h {τ υ : S0} {wv wa wb : List Nat} (h : n_Y τ) (hf : f_r wv wa wb τ υ) (d1 : [5, 36, 38].all (fun i => !wv.contains i) = true) (d2 : [13, 19, 25, 26, 27, 56, 57, 58].all (fun i => !wa.contains i) = true) : n_Y υ := by
  unfold n_Y
  rw [hf.1 5 (n_fl d1 5 (by decide)), hf.1 36 (n_fl d1 36 (by decide)), hf.1 38 (n_fl d1 38 (by decide)), hf.2.1 13 (n_fl d2 13 (by decide)), hf.2.1 19 (n_fl d2 19 (by decide)), hf.2.1 25 (n_fl d2 25 (by decide)), hf.2.1 26 (n_fl d2 26 (by decide)), hf.2.1 27 (n_fl d2 27 (by decide)), hf.2.1 56 (n_fl d2 56 (by decide)), hf.2.1 57 (n_fl d2 57 (by decide)), hf.2.1 58 (n_fl d2 58 (by decide))]
  exact h
set_option maxHeartbeats 1000000 in
theorem K_X13_rests {n1 : Int} {n2 : Int} {σ : S0} (hT : m_T σ) (p1 : -2147483648 ≤ n1 ∧ n1 ≤ 2147483647) (p2 : -2147483648 ≤ n2 ∧ n2 ≤ 2147483647) : W_X13_rests n1 n2 σ (fun (x : Int) => True) := by
  have v5 : 0 ≤ σ.1 5 ∧ σ.1 5 ≤ 1500 := hT.1 5
  unfold W_X13_rests
  refine ⟨_, K_X13_isAssertion hT (show -2147483648 ≤ n1 ∧ n1 ≤ 2147483647 from by (first | omega | (simp only [st_s] <;> omega) | assumption | omega | fail)), ?_⟩
  intro x2 r_x2 hq
  obtain ⟨q1_1, q1_2⟩ := hq
  replace q1_1 : 0 ≤ x2 ∧ x2 ≤ 1 := q1_1
  replace q1_2 : ¬ x2 = 0 → 0 ≤ n1 ∧ n1 < (σ.1 5) ∧ 2 ≤ σ.2.1 13 n1 := q1_2
  refine ⟨fun c4 => ?_, fun c4 => ?_⟩
  ·
    exact trivial
  ·
    refine ⟨(show 0 ≤ n1 ∧ n1 < 1501 from by (first | omega | (simp only [st_s] <;> omega) | assumption | omega | fail)), ?_⟩
    intro x6 r_x6 e_x6
    have b_x6 : 0 ≤ x6 ∧ x6 ≤ 4 := by rw [e_x6]; exact hT.2 13 _
    refine ⟨fun c7 => ?_, fun c7 => ?_⟩
    ·
      exact trivial
    ·
      refine ⟨_, K_X13_isAssertion hT (show -2147483648 ≤ n2 ∧ n2 ≤ 2147483647 from by (first | omega | (simp only [st_s] <;> omega) | assumption | omega | fail)), ?_⟩
      intro x9 r_x9 hq
      obtain ⟨q8_1, q8_2⟩ := hq
      replace q8_1 : 0 ≤ x9 ∧ x9 ≤ 1 := q8_1
      replace q8_2 : ¬ x9 = 0 → 0 ≤ n2 ∧ n2 < (σ.1 5) ∧ 2 ≤ σ.2.1 13 n2 := q8_2
      refine ⟨fun c11 => ?_, fun c11 => ?_⟩
      ·
        intro x12 r_x12 h1_x12 h2_x12
        refine ⟨(show 0 ≤ ((24 * n1) + x12) ∧ ((24 * n1) + x12) < 36024 from by (first | omega | (simp only [st_s] <;> omega) | assumption | omega | fail)), ?_⟩
        intro x14 e_x14
        intro x15 r_x15 h1_x15 h2_x15
        intro x16 r_x16 h1_x16
        exact trivial
      ·
        exact trivial
set_option maxHeartbeats 1000000 in
theorem K_X13_printTexts {n1 : Int} {σ : S0} (hT : m_T σ) (p1 : 0 ≤ n1) (p2 : n1 < σ.1 5) (p3 : m_J σ) : W_X13_printTexts n1 σ (fun (x : Int) (τ : S0) => (m_T τ)) := by
  have A14 : ∀ j, 0 ≤ σ.2.1 14 j ∧ σ.2.1 14 j ≤ 30000 := fun j => hT.2 14 j
  have A15 : ∀ j, 0 ≤ σ.2.1 15 j ∧ σ.2.1 15 j ≤ 300 := fun j => hT.2 15 j
  have v5 : 0 ≤ σ.1 5 ∧ σ.1 5 ≤ 1500 := hT.1 5
  have v6 : 0 ≤ σ.1 6 ∧ σ.1 6 ≤ 30000 := hT.1 6
  have W5 : σ.1 5 = σ.1 5 := rfl
  have W6 : σ.1 6 = σ.1 6 := rfl
  have G14 : σ.2.1 14 = σ.2.1 14 := rfl
  have G15 : σ.2.1 15 = σ.2.1 15 := rfl
  intro P7 h7
  have mm1 := p3 n1 p1 p2
  obtain ⟨⟨ma1, ma2, ma3, ma4⟩, ma5, ma6, ma7, ma8⟩ := mm1
  clear ma8
  have l_7 : ∀ (m_7 : Nat) (u2_7 : Int) (τ_7 : S0), 30301 - u2_7 < (m_7 : Int) → (m_T τ_7) → (τ_7.1 5 = σ.1 5) → (τ_7.1 6 = σ.1 6) → (τ_7.2.1 14 = σ.2.1 14) → (τ_7.2.1 15 = σ.2.1 15) → (0 ≤ u2_7) → (u2_7 ≤ 30300) → P7 n1 u2_7 τ_7 := by
    intro m_7
    induction m_7 with
    | zero =>
      intro u2_7 τ_7 hm hT W5 W6 G14 G15 i7_1 i7_2
      have A14 : ∀ j, 0 ≤ τ_7.2.1 14 j ∧ τ_7.2.1 14 j ≤ 30000 := fun j => hT.2 14 j
      have A15 : ∀ j, 0 ≤ τ_7.2.1 15 j ∧ τ_7.2.1 15 j ≤ 300 := fun j => hT.2 15 j
      have v5 : 0 ≤ τ_7.1 5 ∧ τ_7.1 5 ≤ 1500 := hT.1 5
      have v6 : 0 ≤ τ_7.1 6 ∧ τ_7.1 6 ≤ 30000 := hT.1 6
      exfalso; (first | omega | (simp only [st_s] <;> omega) | assumption | omega | fail)
    | succ m_7 ih_7 =>
      intro u2_7 τ_7 hm_7 hT W5 W6 G14 G15 i7_1 i7_2
      have A14 : ∀ j, 0 ≤ τ_7.2.1 14 j ∧ τ_7.2.1 14 j ≤ 30000 := fun j => hT.2 14 j
      have A15 : ∀ j, 0 ≤ τ_7.2.1 15 j ∧ τ_7.2.1 15 j ≤ 300 := fun j => hT.2 15 j
      have v5 : 0 ≤ τ_7.1 5 ∧ τ_7.1 5 ≤ 1500 := hT.1 5
      have v6 : 0 ≤ τ_7.1 6 ∧ τ_7.1 6 ≤ 30000 := hT.1 6
      refine h7 n1 u2_7 τ_7 ?_
      refine ⟨(show 0 ≤ n1 ∧ n1 < 1501 from by (first | omega | (simp only [st_s] <;> omega) | assumption | omega | fail)), ?_⟩
      intro x4 r_x4 e_x4
      have b_x4 : 0 ≤ x4 ∧ x4 ≤ 30000 := by rw [e_x4]; exact hT.2 14 _
      rw [G14] at e_x4
      intro x5 r_x5 e_x5
      have b_x5 : 0 ≤ x5 ∧ x5 ≤ 300 := by rw [e_x5]; exact hT.2 15 _
      rw [G15] at e_x5
      refine ⟨(⟨by (first | omega | (simp only [st_s] <;> omega) | assumption | omega | fail), by (first | omega | (simp only [st_s] <;> omega) | assumption | omega | fail)⟩ : rg (x4 + x5)), ?_⟩
      refine ⟨fun c7 => ?_, fun c7 => ?_⟩
      ·
        refine ⟨_, K_X13_keepDraft hT, ?_⟩
        intro x9 τ10 r_x9 hn_τ10 hf_τ10 hq
        replace hT := hq
        have w5_τ10 : τ10.1 5 = τ_7.1 5 := hf_τ10.1 5 (by decide)
        have w6_τ10 : τ10.1 6 = τ_7.1 6 := hf_τ10.1 6 (by decide)
        have g14_τ10 : τ10.2.1 14 = τ_7.2.1 14 := hf_τ10.2.1 14 (by decide)
        have g15_τ10 : τ10.2.1 15 = τ_7.2.1 15 := hf_τ10.2.1 15 (by decide)
        have W5 : τ10.1 5 = σ.1 5 := by first | exact w5_τ10.trans W5 | omega
        have W6 : τ10.1 6 = σ.1 6 := by first | exact w6_τ10.trans W6 | omega
        have G14 : τ10.2.1 14 = σ.2.1 14 := (g14_τ10).trans G14
        have G15 : τ10.2.1 15 = σ.2.1 15 := (g15_τ10).trans G15
        have A14 : ∀ j, 0 ≤ τ10.2.1 14 j ∧ τ10.2.1 14 j ≤ 30000 := fun j => hT.2 14 j
        have A15 : ∀ j, 0 ≤ τ10.2.1 15 j ∧ τ10.2.1 15 j ≤ 300 := fun j => hT.2 15 j
        have v5 : 0 ≤ τ10.1 5 ∧ τ10.1 5 ≤ 1500 := hT.1 5
        have v6 : 0 ≤ τ10.1 6 ∧ τ10.1 6 ≤ 30000 := hT.1 6
        exact hT
      ·
        refine ⟨(show 0 ≤ u2_7 ∧ u2_7 < 30400 from by (first | omega | (simp only [st_s] <;> omega) | assumption | omega | fail)), ?_⟩
        intro x12 r_x12 e_x12
        have b_x12 : 0 ≤ x12 ∧ x12 ≤ 999 := by rw [e_x12]; exact hT.2 16 _
        refine ⟨_, K_X13_putSymbol hT (show 0 ≤ x12 from by (first | omega | (simp only [st_s] <;> omega) | assumption | omega | fail)) (show x12 < 1000 from by (first | omega | (simp only [st_s] <;> omega) | assumption | omega | fail)), ?_⟩
        intro τ15 hn_τ15 hf_τ15 hq
        replace hT := hq
        have w5_τ15 : τ15.1 5 = τ_7.1 5 := hf_τ15.1 5 (by decide)
        have w6_τ15 : τ15.1 6 = τ_7.1 6 := hf_τ15.1 6 (by decide)
        have g14_τ15 : τ15.2.1 14 = τ_7.2.1 14 := hf_τ15.2.1 14 (by decide)
        have g15_τ15 : τ15.2.1 15 = τ_7.2.1 15 := hf_τ15.2.1 15 (by decide)
        have W5 : τ15.1 5 = σ.1 5 := by first | exact w5_τ15.trans W5 | omega
        have W6 : τ15.1 6 = σ.1 6 := by first | exact w6_τ15.trans W6 | omega
        have G14 : τ15.2.1 14 = σ.2.1 14 := (g14_τ15).trans G14
        have G15 : τ15.2.1 15 = σ.2.1 15 := (g15_τ15).trans G15
        have A14 : ∀ j, 0 ≤ τ15.2.1 14 j ∧ τ15.2.1 14 j ≤ 30000 := fun j => hT.2 14 j
        have A15 : ∀ j, 0 ≤ τ15.2.1 15 j ∧ τ15.2.1 15 j ≤ 300 := fun j => hT.2 15 j
        have v5 : 0 ≤ τ15.1 5 ∧ τ15.1 5 ≤ 1500 := hT.1 5
        have v6 : 0 ≤ τ15.1 6 ∧ τ15.1 6 ≤ 30000 := hT.1 6
        refine ⟨(⟨by (first | omega | (simp only [st_s] <;> omega) | assumption | omega | fail), by (first | omega | (simp only [st_s] <;> omega) | assumption | omega | fail)⟩ : rg (u2_7 + 1)), ?_⟩
        exact ih_7 _ _ (show (30301 - (u2_7 + 1) : Int) < ((m_7 : Nat) : Int) from by ((first | omega | (simp only [st_s] <;> omega) | assumption | omega | fail))) hT (show τ15.1 5 = σ.1 5 from by first | exact W5 | omega) (show τ15.1 6 = σ.1 6 from by first | exact W6 | omega) G14 G15 (show 0 ≤ (u2_7 + 1) from by (first | omega | (simp only [st_s] <;> omega) | assumption | omega | fail)) (show (u2_7 + 1) ≤ 30300 from by (first | omega | (simp only [st_s] <;> omega) | assumption | omega | fail))
  refine ⟨(show 0 ≤ n1 ∧ n1 < 1501 from by (first | omega | (simp only [st_s] <;> omega) | assumption | omega | fail)), ?_⟩
  intro x2 r_x2 e_x2
  have b_x2 : 0 ≤ x2 ∧ x2 ≤ 30000 := by rw [e_x2]; exact hT.2 14 _
  exact l_7 ((30301 - x2 : Int).toNat + 1) _ _ (show (30301 - x2 : Int) < (((30301 - x2 : Int).toNat + 1 : Nat) : Int) from by ((first | omega | (simp only [st_s] <;> omega) | assumption | omega | fail))) hT (show σ.1 5 = σ.1 5 from by first | exact W5 | omega) (show σ.1 6 = σ.1 6 from by first | exact W6 | omega) G14 G15 (show 0 ≤ x2 from by (first | omega | (simp only [st_s] <;> omega) | assumption | omega | fail)) (show x2 ≤ 30300 from by (first | omega | (simp only [st_s] <;> omega) | assumption | omega | fail))
set_option maxHeartbeats 6000000 in
theorem K3_X13_printRow {n1 : Int} {n2 : Int} {σ : S0} (hT : m_T σ) (p1 : 0 ≤ n1) (p2 : n1 < σ.1 5) (p3 : σ.2.1 13 n1 = 3) (p4 : n_J σ) (p5 : m_J σ) (p6 : J_pa (σ.2.1 21) (σ.2.1 22)) (p7 : 0 ≤ n2 ∧ n2 ≤ 20000) (p8 : n2 < n_rn (σ.2.1 25 n1) (σ.2.1 26 n1) (σ.2.1 27)) : W_X13_printRow n1 n2 σ (fun (x : Int) (τ : S0) => (m_T τ)) := by
  have A8 : ∀ j, 0 ≤ σ.2.1 8 j ∧ σ.2.1 8 j ≤ 1 := fun j => hT.2 8 j
  have A10 : ∀ j, (-1) ≤ σ.2.1 10 j ∧ σ.2.1 10 j ≤ 999 := fun j => hT.2 10 j
  have A12 : ∀ j, 0 ≤ σ.2.1 12 j ∧ σ.2.1 12 j ≤ 1 := fun j => hT.2 12 j
  have A13 : ∀ j, 0 ≤ σ.2.1 13 j ∧ σ.2.1 13 j ≤ 4 := fun j => hT.2 13 j
  have A14 : ∀ j, 0 ≤ σ.2.1 14 j ∧ σ.2.1 14 j ≤ 30000 := fun j => hT.2 14 j
  have A15 : ∀ j, 0 ≤ σ.2.1 15 j ∧ σ.2.1 15 j ≤ 300 := fun j => hT.2 15 j
  have A16 : ∀ j, 0 ≤ σ.2.1 16 j ∧ σ.2.1 16 j ≤ 999 := fun j => hT.2 16 j
  have A17 : ∀ j, (-1) ≤ σ.2.1 17 j ∧ σ.2.1 17 j ≤ 1499 := fun j => hT.2 17 j
  have A18 : ∀ j, 0 ≤ σ.2.1 18 j ∧ σ.2.1 18 j ≤ 90000 := fun j => hT.2 18 j
  have A19 : ∀ j, 0 ≤ σ.2.1 19 j ∧ σ.2.1 19 j ≤ 60 := fun j => hT.2 19 j
  have A20 : ∀ j, 0 ≤ σ.2.1 20 j ∧ σ.2.1 20 j ≤ 1499 := fun j => hT.2 20 j
  have A21 : ∀ j, 0 ≤ σ.2.1 21 j ∧ σ.2.1 21 j ≤ 20000 := fun j => hT.2 21 j
  have A22 : ∀ j, 0 ≤ σ.2.1 22 j ∧ σ.2.1 22 j ≤ 20000 := fun j => hT.2 22 j
  have A25 : ∀ j, 0 ≤ σ.2.1 25 j ∧ σ.2.1 25 j ≤ 20000 := fun j => hT.2 25 j
  have A26 : ∀ j, 0 ≤ σ.2.1 26 j ∧ σ.2.1 26 j ≤ 20000 := fun j => hT.2 26 j
  have A27 : ∀ j, (-300) ≤ σ.2.1 27 j ∧ σ.2.1 27 j ≤ 1499 := fun j => hT.2 27 j
  have A28 : ∀ j, 0 ≤ σ.2.1 28 j ∧ σ.2.1 28 j ≤ 1 := fun j => hT.2 28 j
  have A40 : ∀ j, 0 ≤ σ.2.1 40 j ∧ σ.2.1 40 j ≤ 40000 := fun j => hT.2 40 j
  have A41 : ∀ j, 0 ≤ σ.2.1 41 j ∧ σ.2.1 41 j ≤ 1000 := fun j => hT.2 41 j
  have A43 : ∀ j, 0 ≤ σ.2.1 43 j ∧ σ.2.1 43 j ≤ 999 := fun j => hT.2 43 j
  have A44 : ∀ j, 0 ≤ σ.2.1 44 j ∧ σ.2.1 44 j ≤ 40000 := fun j => hT.2 44 j
  have A45 : ∀ j, 0 ≤ σ.2.1 45 j ∧ σ.2.1 45 j ≤ 1000 := fun j => hT.2 45 j
  have A47 : ∀ j, 0 ≤ σ.2.1 47 j ∧ σ.2.1 47 j ≤ 999 := fun j => hT.2 47 j
  have v3 : 0 ≤ σ.1 3 ∧ σ.1 3 ≤ 1000 := hT.1 3
  have v5 : 0 ≤ σ.1 5 ∧ σ.1 5 ≤ 1500 := hT.1 5
  have v9 : 0 ≤ σ.1 9 ∧ σ.1 9 ≤ 20000 := hT.1 9
  have v30 : 0 ≤ σ.1 30 ∧ σ.1 30 ≤ 200 := hT.1 30
  have v31 : 0 ≤ σ.1 31 ∧ σ.1 31 ≤ 40000 := hT.1 31
  have v32 : 0 ≤ σ.1 32 ∧ σ.1 32 ≤ 300 := hT.1 32
  have v33 : 0 ≤ σ.1 33 ∧ σ.1 33 ≤ 40000 := hT.1 33
  have v35 : 0 ≤ σ.1 35 ∧ σ.1 35 ≤ 19 := hT.1 35
  have W3 : σ.1 3 = σ.1 3 := rfl
  have W5 : σ.1 5 = σ.1 5 := rfl
  have W9 : σ.1 9 = σ.1 9 := rfl
  have G8 : σ.2.1 8 = σ.2.1 8 := rfl
  have G10 : σ.2.1 10 = σ.2.1 10 := rfl
  have G12 : σ.2.1 12 = σ.2.1 12 := rfl
  have G13 : σ.2.1 13 = σ.2.1 13 := rfl
  have G14 : σ.2.1 14 = σ.2.1 14 := rfl
  have G15 : σ.2.1 15 = σ.2.1 15 := rfl
  have G16 : σ.2.1 16 = σ.2.1 16 := rfl
  have G17 : σ.2.1 17 = σ.2.1 17 := rfl
  have G18 : σ.2.1 18 = σ.2.1 18 := rfl
  have G19 : σ.2.1 19 = σ.2.1 19 := rfl
  have G20 : σ.2.1 20 = σ.2.1 20 := rfl
  have G21 : σ.2.1 21 = σ.2.1 21 := rfl
  have G22 : σ.2.1 22 = σ.2.1 22 := rfl
  have G25 : σ.2.1 25 = σ.2.1 25 := rfl
  have G26 : σ.2.1 26 = σ.2.1 26 := rfl
  have G27 : σ.2.1 27 = σ.2.1 27 := rfl
  have G28 : σ.2.1 28 = σ.2.1 28 := rfl
  intro P14 P35 P53 h14 h35 h53
  have s19 := A19
  have jj1 := p4 n1 p1 p2
  have mm1 := p5 n1 p1 p2
  obtain ⟨⟨ma1, ma2, ma3, ma4⟩, ma5, ma6, ma7, ma8⟩ := mm1
  obtain ⟨pP, pS, pN, pF, pM, pG, ⟨z1, z2, z3, z4⟩, zs⟩ := jj1.2.2 p3
  clear ma8 jj1
  have b25 := A25 n1
  have b26 := A26 n1
  have PA : J_pa (σ.2.1 21) (σ.2.1 22) := p6
  have PA_0 := PA
  have l_14 : ∀ (m_14 : Nat) (u3_14 : Int) (u4_14 : Int) (τ_14 : S0), 20001 - u4_14 < (m_14 : Int) → (m_T τ_14) → (τ_14.1 3 = σ.1 3) → (τ_14.1 5 = σ.1 5) → (τ_14.1 9 = σ.1 9) → (τ_14.2.1 8 = σ.2.1 8) → (τ_14.2.1 10 = σ.2.1 10) → (τ_14.2.1 12 = σ.2.1 12) → (τ_14.2.1 13 = σ.2.1 13) → (τ_14.2.1 14 = σ.2.1 14) → (τ_14.2.1 15 = σ.2.1 15) → (τ_14.2.1 16 = σ.2.1 16) → (τ_14.2.1 17 = σ.2.1 17) → (τ_14.2.1 18 = σ.2.1 18) → (τ_14.2.1 19 = σ.2.1 19) → (τ_14.2.1 20 = σ.2.1 20) → (τ_14.2.1 21 = σ.2.1 21) → (τ_14.2.1 22 = σ.2.1 22) → (τ_14.2.1 25 = σ.2.1 25) → (τ_14.2.1 26 = σ.2.1 26) → (τ_14.2.1 27 = σ.2.1 27) → (τ_14.2.1 28 = σ.2.1 28) → (-1 ≤ u3_14) → (u3_14 ≤ n2) → (σ.2.1 25 n1 ≤ u4_14) → (u4_14 ≤ σ.2.1 25 n1 + σ.2.1 26 n1) → ((τ_14.1 35) = 0) → (n_at (pP u4_14) (pS u4_14) (pN u4_14) (pF u4_14) (pM u4_14) (pG u4_14) τ_14) → (u3_14 + 1 = n_rn (σ.2.1 25 n1) (u4_14 - σ.2.1 25 n1) (σ.2.1 27)) → (pS u4_14 = ca (σ.2.1 28) u4_14 - ca (σ.2.1 28) (σ.2.1 25 n1)) → P14 n2 u3_14 u4_14 τ_14 := by
    intro m_14
    induction m_14 with
    | zero =>
      intro u3_14 u4_14 τ_14 hm hT W3 W5 W9 G8 G10 G12 G13 G14 G15 G16 G17 G18 G19 G20 G21 G22 G25 G26 G27 G28 i14_1 i14_2 i14_3 i14_4 i14_5 i14_6 i14_7 i14_8
      have A8 : ∀ j, 0 ≤ τ_14.2.1 8 j ∧ τ_14.2.1 8 j ≤ 1 := fun j => hT.2 8 j
      have A10 : ∀ j, (-1) ≤ τ_14.2.1 10 j ∧ τ_14.2.1 10 j ≤ 999 := fun j => hT.2 10 j
      have A12 : ∀ j, 0 ≤ τ_14.2.1 12 j ∧ τ_14.2.1 12 j ≤ 1 := fun j => hT.2 12 j
      have A13 : ∀ j, 0 ≤ τ_14.2.1 13 j ∧ τ_14.2.1 13 j ≤ 4 := fun j => hT.2 13 j
      have A14 : ∀ j, 0 ≤ τ_14.2.1 14 j ∧ τ_14.2.1 14 j ≤ 30000 := fun j => hT.2 14 j
      have A15 : ∀ j, 0 ≤ τ_14.2.1 15 j ∧ τ_14.2.1 15 j ≤ 300 := fun j => hT.2 15 j
      have A16 : ∀ j, 0 ≤ τ_14.2.1 16 j ∧ τ_14.2.1 16 j ≤ 999 := fun j => hT.2 16 j
      have A17 : ∀ j, (-1) ≤ τ_14.2.1 17 j ∧ τ_14.2.1 17 j ≤ 1499 := fun j => hT.2 17 j
      have A18 : ∀ j, 0 ≤ τ_14.2.1 18 j ∧ τ_14.2.1 18 j ≤ 90000 := fun j => hT.2 18 j
      have A19 : ∀ j, 0 ≤ τ_14.2.1 19 j ∧ τ_14.2.1 19 j ≤ 60 := fun j => hT.2 19 j
      have A20 : ∀ j, 0 ≤ τ_14.2.1 20 j ∧ τ_14.2.1 20 j ≤ 1499 := fun j => hT.2 20 j
      have A21 : ∀ j, 0 ≤ τ_14.2.1 21 j ∧ τ_14.2.1 21 j ≤ 20000 := fun j => hT.2 21 j
      have A22 : ∀ j, 0 ≤ τ_14.2.1 22 j ∧ τ_14.2.1 22 j ≤ 20000 := fun j => hT.2 22 j
      have A25 : ∀ j, 0 ≤ τ_14.2.1 25 j ∧ τ_14.2.1 25 j ≤ 20000 := fun j => hT.2 25 j
      have A26 : ∀ j, 0 ≤ τ_14.2.1 26 j ∧ τ_14.2.1 26 j ≤ 20000 := fun j => hT.2 26 j
      have A27 : ∀ j, (-300) ≤ τ_14.2.1 27 j ∧ τ_14.2.1 27 j ≤ 1499 := fun j => hT.2 27 j
      have A28 : ∀ j, 0 ≤ τ_14.2.1 28 j ∧ τ_14.2.1 28 j ≤ 1 := fun j => hT.2 28 j
      have A40 : ∀ j, 0 ≤ τ_14.2.1 40 j ∧ τ_14.2.1 40 j ≤ 40000 := fun j => hT.2 40 j
      have A41 : ∀ j, 0 ≤ τ_14.2.1 41 j ∧ τ_14.2.1 41 j ≤ 1000 := fun j => hT.2 41 j
      have A43 : ∀ j, 0 ≤ τ_14.2.1 43 j ∧ τ_14.2.1 43 j ≤ 999 := fun j => hT.2 43 j
      have A44 : ∀ j, 0 ≤ τ_14.2.1 44 j ∧ τ_14.2.1 44 j ≤ 40000 := fun j => hT.2 44 j
      have A45 : ∀ j, 0 ≤ τ_14.2.1 45 j ∧ τ_14.2.1 45 j ≤ 1000 := fun j => hT.2 45 j
      have A47 : ∀ j, 0 ≤ τ_14.2.1 47 j ∧ τ_14.2.1 47 j ≤ 999 := fun j => hT.2 47 j
      have v3 : 0 ≤ τ_14.1 3 ∧ τ_14.1 3 ≤ 1000 := hT.1 3
      have v5 : 0 ≤ τ_14.1 5 ∧ τ_14.1 5 ≤ 1500 := hT.1 5
      have v9 : 0 ≤ τ_14.1 9 ∧ τ_14.1 9 ≤ 20000 := hT.1 9
      have v30 : 0 ≤ τ_14.1 30 ∧ τ_14.1 30 ≤ 200 := hT.1 30
      have v31 : 0 ≤ τ_14.1 31 ∧ τ_14.1 31 ≤ 40000 := hT.1 31
      have v32 : 0 ≤ τ_14.1 32 ∧ τ_14.1 32 ≤ 300 := hT.1 32
      have v33 : 0 ≤ τ_14.1 33 ∧ τ_14.1 33 ≤ 40000 := hT.1 33
      have v35 : 0 ≤ τ_14.1 35 ∧ τ_14.1 35 ≤ 19 := hT.1 35
      exfalso; (first | omega | (simp only [st_s] <;> omega) | assumption | omega | fail)
    | succ m_14 ih_14 =>
      intro u3_14 u4_14 τ_14 hm_14 hT W3 W5 W9 G8 G10 G12 G13 G14 G15 G16 G17 G18 G19 G20 G21 G22 G25 G26 G27 G28 i14_1 i14_2 i14_3 i14_4 i14_5 i14_6 i14_7 i14_8
      have A8 : ∀ j, 0 ≤ τ_14.2.1 8 j ∧ τ_14.2.1 8 j ≤ 1 := fun j => hT.2 8 j
      have A10 : ∀ j, (-1) ≤ τ_14.2.1 10 j ∧ τ_14.2.1 10 j ≤ 999 := fun j => hT.2 10 j
      have A12 : ∀ j, 0 ≤ τ_14.2.1 12 j ∧ τ_14.2.1 12 j ≤ 1 := fun j => hT.2 12 j
      have A13 : ∀ j, 0 ≤ τ_14.2.1 13 j ∧ τ_14.2.1 13 j ≤ 4 := fun j => hT.2 13 j
      have A14 : ∀ j, 0 ≤ τ_14.2.1 14 j ∧ τ_14.2.1 14 j ≤ 30000 := fun j => hT.2 14 j
      have A15 : ∀ j, 0 ≤ τ_14.2.1 15 j ∧ τ_14.2.1 15 j ≤ 300 := fun j => hT.2 15 j
      have A16 : ∀ j, 0 ≤ τ_14.2.1 16 j ∧ τ_14.2.1 16 j ≤ 999 := fun j => hT.2 16 j
      have A17 : ∀ j, (-1) ≤ τ_14.2.1 17 j ∧ τ_14.2.1 17 j ≤ 1499 := fun j => hT.2 17 j
      have A18 : ∀ j, 0 ≤ τ_14.2.1 18 j ∧ τ_14.2.1 18 j ≤ 90000 := fun j => hT.2 18 j
      have A19 : ∀ j, 0 ≤ τ_14.2.1 19 j ∧ τ_14.2.1 19 j ≤ 60 := fun j => hT.2 19 j
      have A20 : ∀ j, 0 ≤ τ_14.2.1 20 j ∧ τ_14.2.1 20 j ≤ 1499 := fun j => hT.2 20 j
      have A21 : ∀ j, 0 ≤ τ_14.2.1 21 j ∧ τ_14.2.1 21 j ≤ 20000 := fun j => hT.2 21 j
      have A22 : ∀ j, 0 ≤ τ_14.2.1 22 j ∧ τ_14.2.1 22 j ≤ 20000 := fun j => hT.2 22 j
      have A25 : ∀ j, 0 ≤ τ_14.2.1 25 j ∧ τ_14.2.1 25 j ≤ 20000 := fun j => hT.2 25 j
      have A26 : ∀ j, 0 ≤ τ_14.2.1 26 j ∧ τ_14.2.1 26 j ≤ 20000 := fun j => hT.2 26 j
      have A27 : ∀ j, (-300) ≤ τ_14.2.1 27 j ∧ τ_14.2.1 27 j ≤ 1499 := fun j => hT.2 27 j
      have A28 : ∀ j, 0 ≤ τ_14.2.1 28 j ∧ τ_14.2.1 28 j ≤ 1 := fun j => hT.2 28 j
      have A40 : ∀ j, 0 ≤ τ_14.2.1 40 j ∧ τ_14.2.1 40 j ≤ 40000 := fun j => hT.2 40 j
      have A41 : ∀ j, 0 ≤ τ_14.2.1 41 j ∧ τ_14.2.1 41 j ≤ 1000 := fun j => hT.2 41 j
      have A43 : ∀ j, 0 ≤ τ_14.2.1 43 j ∧ τ_14.2.1 43 j ≤ 999 := fun j => hT.2 43 j
      have A44 : ∀ j, 0 ≤ τ_14.2.1 44 j ∧ τ_14.2.1 44 j ≤ 40000 := fun j => hT.2 44 j
      have A45 : ∀ j, 0 ≤ τ_14.2.1 45 j ∧ τ_14.2.1 45 j ≤ 1000 := fun j => hT.2 45 j
      have A47 : ∀ j, 0 ≤ τ_14.2.1 47 j ∧ τ_14.2.1 47 j ≤ 999 := fun j => hT.2 47 j
      have v3 : 0 ≤ τ_14.1 3 ∧ τ_14.1 3 ≤ 1000 := hT.1 3
      have v5 : 0 ≤ τ_14.1 5 ∧ τ_14.1 5 ≤ 1500 := hT.1 5
      have v9 : 0 ≤ τ_14.1 9 ∧ τ_14.1 9 ≤ 20000 := hT.1 9
      have v30 : 0 ≤ τ_14.1 30 ∧ τ_14.1 30 ≤ 200 := hT.1 30
      have v31 : 0 ≤ τ_14.1 31 ∧ τ_14.1 31 ≤ 40000 := hT.1 31
      have v32 : 0 ≤ τ_14.1 32 ∧ τ_14.1 32 ≤ 300 := hT.1 32
      have v33 : 0 ≤ τ_14.1 33 ∧ τ_14.1 33 ≤ 40000 := hT.1 33
      have v35 : 0 ≤ τ_14.1 35 ∧ τ_14.1 35 ≤ 19 := hT.1 35
      have PA : J_pa (τ_14.2.1 21) (τ_14.2.1 22) := by rw [show (J_pa (τ_14.2.1 21) (τ_14.2.1 22)) = (J_pa (σ.2.1 21) (σ.2.1 22)) from by rw [G21, G22]]; exact PA_0
      have l_53 : ∀ (m_53 : Nat) (u3_53 : Int) (u4_53 : Int) (u5_53 : Int) (τ_53 : S0), 1001 - u5_53 < (m_53 : Int) → (m_T τ_53) → (τ_53.1 3 = σ.1 3) → (τ_53.1 5 = σ.1 5) → (τ_53.1 9 = σ.1 9) → (τ_53.2.1 8 = σ.2.1 8) → (τ_53.2.1 10 = σ.2.1 10) → (τ_53.2.1 12 = σ.2.1 12) → (τ_53.2.1 13 = σ.2.1 13) → (τ_53.2.1 14 = σ.2.1 14) → (τ_53.2.1 15 = σ.2.1 15) → (τ_53.2.1 16 = σ.2.1 16) → (τ_53.2.1 17 = σ.2.1 17) → (τ_53.2.1 18 = σ.2.1 18) → (τ_53.2.1 19 = σ.2.1 19) → (τ_53.2.1 20 = σ.2.1 20) → (τ_53.2.1 21 = σ.2.1 21) → (τ_53.2.1 22 = σ.2.1 22) → (τ_53.2.1 25 = σ.2.1 25) → (τ_53.2.1 26 = σ.2.1 26) → (τ_53.2.1 27 = σ.2.1 27) → (τ_53.2.1 28 = σ.2.1 28) → (0 ≤ u3_53) → (u3_53 = n2) → (σ.2.1 25 n1 ≤ u4_53) → (u4_53 < σ.2.1 25 n1 + σ.2.1 26 n1) → ((τ_53.1 35) = 0) → (n_at (pP (u4_53 + 1)) (pS (u4_53 + 1)) (pN (u4_53 + 1)) (pF (u4_53 + 1)) (pM (u4_53 + 1)) (pG (u4_53 + 1)) τ_53) → (u3_53 + 1 = n_rn (σ.2.1 25 n1) ((u4_53 + 1) - σ.2.1 25 n1) (σ.2.1 27)) → (pS (u4_53 + 1) = ca (σ.2.1 28) (u4_53 + 1) - ca (σ.2.1 28) (σ.2.1 25 n1)) → (0 ≤ u5_53 ∧ u5_53 ≤ 1000) → (1 ≤ pP (u4_53 + 1)) → (u4_53 + (m_14 : Int) ≥ 20001) → P53 n2 u3_53 u4_53 u5_53 τ_53 := by
        intro m_53
        induction m_53 with
        | zero =>
          intro u3_53 u4_53 u5_53 τ_53 hm hT W3 W5 W9 G8 G10 G12 G13 G14 G15 G16 G17 G18 G19 G20 G21 G22 G25 G26 G27 G28 i53_1 i53_2 i53_3 i53_4 i53_5 i53_6 i53_7 i53_8 i53_9 i53_10 i53_11
          have A8 : ∀ j, 0 ≤ τ_53.2.1 8 j ∧ τ_53.2.1 8 j ≤ 1 := fun j => hT.2 8 j
          have A10 : ∀ j, (-1) ≤ τ_53.2.1 10 j ∧ τ_53.2.1 10 j ≤ 999 := fun j => hT.2 10 j
          have A12 : ∀ j, 0 ≤ τ_53.2.1 12 j ∧ τ_53.2.1 12 j ≤ 1 := fun j => hT.2 12 j
          have A13 : ∀ j, 0 ≤ τ_53.2.1 13 j ∧ τ_53.2.1 13 j ≤ 4 := fun j => hT.2 13 j
          have A14 : ∀ j, 0 ≤ τ_53.2.1 14 j ∧ τ_53.2.1 14 j ≤ 30000 := fun j => hT.2 14 j
          have A15 : ∀ j, 0 ≤ τ_53.2.1 15 j ∧ τ_53.2.1 15 j ≤ 300 := fun j => hT.2 15 j
          have A16 : ∀ j, 0 ≤ τ_53.2.1 16 j ∧ τ_53.2.1 16 j ≤ 999 := fun j => hT.2 16 j
          have A17 : ∀ j, (-1) ≤ τ_53.2.1 17 j ∧ τ_53.2.1 17 j ≤ 1499 := fun j => hT.2 17 j
          have A18 : ∀ j, 0 ≤ τ_53.2.1 18 j ∧ τ_53.2.1 18 j ≤ 90000 := fun j => hT.2 18 j
          have A19 : ∀ j, 0 ≤ τ_53.2.1 19 j ∧ τ_53.2.1 19 j ≤ 60 := fun j => hT.2 19 j
          have A20 : ∀ j, 0 ≤ τ_53.2.1 20 j ∧ τ_53.2.1 20 j ≤ 1499 := fun j => hT.2 20 j
          have A21 : ∀ j, 0 ≤ τ_53.2.1 21 j ∧ τ_53.2.1 21 j ≤ 20000 := fun j => hT.2 21 j
          have A22 : ∀ j, 0 ≤ τ_53.2.1 22 j ∧ τ_53.2.1 22 j ≤ 20000 := fun j => hT.2 22 j
          have A25 : ∀ j, 0 ≤ τ_53.2.1 25 j ∧ τ_53.2.1 25 j ≤ 20000 := fun j => hT.2 25 j
          have A26 : ∀ j, 0 ≤ τ_53.2.1 26 j ∧ τ_53.2.1 26 j ≤ 20000 := fun j => hT.2 26 j
          have A27 : ∀ j, (-300) ≤ τ_53.2.1 27 j ∧ τ_53.2.1 27 j ≤ 1499 := fun j => hT.2 27 j
          have A28 : ∀ j, 0 ≤ τ_53.2.1 28 j ∧ τ_53.2.1 28 j ≤ 1 := fun j => hT.2 28 j
          have A40 : ∀ j, 0 ≤ τ_53.2.1 40 j ∧ τ_53.2.1 40 j ≤ 40000 := fun j => hT.2 40 j
          have A41 : ∀ j, 0 ≤ τ_53.2.1 41 j ∧ τ_53.2.1 41 j ≤ 1000 := fun j => hT.2 41 j
          have A43 : ∀ j, 0 ≤ τ_53.2.1 43 j ∧ τ_53.2.1 43 j ≤ 999 := fun j => hT.2 43 j
          have A44 : ∀ j, 0 ≤ τ_53.2.1 44 j ∧ τ_53.2.1 44 j ≤ 40000 := fun j => hT.2 44 j
          have A45 : ∀ j, 0 ≤ τ_53.2.1 45 j ∧ τ_53.2.1 45 j ≤ 1000 := fun j => hT.2 45 j
          have A47 : ∀ j, 0 ≤ τ_53.2.1 47 j ∧ τ_53.2.1 47 j ≤ 999 := fun j => hT.2 47 j
          have v3 : 0 ≤ τ_53.1 3 ∧ τ_53.1 3 ≤ 1000 := hT.1 3
          have v5 : 0 ≤ τ_53.1 5 ∧ τ_53.1 5 ≤ 1500 := hT.1 5
          have v9 : 0 ≤ τ_53.1 9 ∧ τ_53.1 9 ≤ 20000 := hT.1 9
          have v30 : 0 ≤ τ_53.1 30 ∧ τ_53.1 30 ≤ 200 := hT.1 30
          have v31 : 0 ≤ τ_53.1 31 ∧ τ_53.1 31 ≤ 40000 := hT.1 31
          have v32 : 0 ≤ τ_53.1 32 ∧ τ_53.1 32 ≤ 300 := hT.1 32
          have v33 : 0 ≤ τ_53.1 33 ∧ τ_53.1 33 ≤ 40000 := hT.1 33
          have v35 : 0 ≤ τ_53.1 35 ∧ τ_53.1 35 ≤ 19 := hT.1 35
          exfalso; (first | omega | (simp only [st_s] <;> omega) | assumption | omega | fail)
        | succ m_53 ih_53 =>
          intro u3_53 u4_53 u5_53 τ_53 hm_53 hT W3 W5 W9 G8 G10 G12 G13 G14 G15 G16 G17 G18 G19 G20 G21 G22 G25 G26 G27 G28 i53_1 i53_2 i53_3 i53_4 i53_5 i53_6 i53_7 i53_8 i53_9 i53_10 i53_11
          have A8 : ∀ j, 0 ≤ τ_53.2.1 8 j ∧ τ_53.2.1 8 j ≤ 1 := fun j => hT.2 8 j
          have A10 : ∀ j, (-1) ≤ τ_53.2.1 10 j ∧ τ_53.2.1 10 j ≤ 999 := fun j => hT.2 10 j
          have A12 : ∀ j, 0 ≤ τ_53.2.1 12 j ∧ τ_53.2.1 12 j ≤ 1 := fun j => hT.2 12 j
          have A13 : ∀ j, 0 ≤ τ_53.2.1 13 j ∧ τ_53.2.1 13 j ≤ 4 := fun j => hT.2 13 j
          have A14 : ∀ j, 0 ≤ τ_53.2.1 14 j ∧ τ_53.2.1 14 j ≤ 30000 := fun j => hT.2 14 j
          have A15 : ∀ j, 0 ≤ τ_53.2.1 15 j ∧ τ_53.2.1 15 j ≤ 300 := fun j => hT.2 15 j
          have A16 : ∀ j, 0 ≤ τ_53.2.1 16 j ∧ τ_53.2.1 16 j ≤ 999 := fun j => hT.2 16 j
          have A17 : ∀ j, (-1) ≤ τ_53.2.1 17 j ∧ τ_53.2.1 17 j ≤ 1499 := fun j => hT.2 17 j
          have A18 : ∀ j, 0 ≤ τ_53.2.1 18 j ∧ τ_53.2.1 18 j ≤ 90000 := fun j => hT.2 18 j
          have A19 : ∀ j, 0 ≤ τ_53.2.1 19 j ∧ τ_53.2.1 19 j ≤ 60 := fun j => hT.2 19 j
          have A20 : ∀ j, 0 ≤ τ_53.2.1 20 j ∧ τ_53.2.1 20 j ≤ 1499 := fun j => hT.2 20 j
          have A21 : ∀ j, 0 ≤ τ_53.2.1 21 j ∧ τ_53.2.1 21 j ≤ 20000 := fun j => hT.2 21 j
          have A22 : ∀ j, 0 ≤ τ_53.2.1 22 j ∧ τ_53.2.1 22 j ≤ 20000 := fun j => hT.2 22 j
          have A25 : ∀ j, 0 ≤ τ_53.2.1 25 j ∧ τ_53.2.1 25 j ≤ 20000 := fun j => hT.2 25 j
          have A26 : ∀ j, 0 ≤ τ_53.2.1 26 j ∧ τ_53.2.1 26 j ≤ 20000 := fun j => hT.2 26 j
          have A27 : ∀ j, (-300) ≤ τ_53.2.1 27 j ∧ τ_53.2.1 27 j ≤ 1499 := fun j => hT.2 27 j
          have A28 : ∀ j, 0 ≤ τ_53.2.1 28 j ∧ τ_53.2.1 28 j ≤ 1 := fun j => hT.2 28 j
          have A40 : ∀ j, 0 ≤ τ_53.2.1 40 j ∧ τ_53.2.1 40 j ≤ 40000 := fun j => hT.2 40 j
          have A41 : ∀ j, 0 ≤ τ_53.2.1 41 j ∧ τ_53.2.1 41 j ≤ 1000 := fun j => hT.2 41 j
          have A43 : ∀ j, 0 ≤ τ_53.2.1 43 j ∧ τ_53.2.1 43 j ≤ 999 := fun j => hT.2 43 j
          have A44 : ∀ j, 0 ≤ τ_53.2.1 44 j ∧ τ_53.2.1 44 j ≤ 40000 := fun j => hT.2 44 j
          have A45 : ∀ j, 0 ≤ τ_53.2.1 45 j ∧ τ_53.2.1 45 j ≤ 1000 := fun j => hT.2 45 j
          have A47 : ∀ j, 0 ≤ τ_53.2.1 47 j ∧ τ_53.2.1 47 j ≤ 999 := fun j => hT.2 47 j
          have v3 : 0 ≤ τ_53.1 3 ∧ τ_53.1 3 ≤ 1000 := hT.1 3
          have v5 : 0 ≤ τ_53.1 5 ∧ τ_53.1 5 ≤ 1500 := hT.1 5
          have v9 : 0 ≤ τ_53.1 9 ∧ τ_53.1 9 ≤ 20000 := hT.1 9
          have v30 : 0 ≤ τ_53.1 30 ∧ τ_53.1 30 ≤ 200 := hT.1 30
          have v31 : 0 ≤ τ_53.1 31 ∧ τ_53.1 31 ≤ 40000 := hT.1 31
          have v32 : 0 ≤ τ_53.1 32 ∧ τ_53.1 32 ≤ 300 := hT.1 32
          have v33 : 0 ≤ τ_53.1 33 ∧ τ_53.1 33 ≤ 40000 := hT.1 33
          have v35 : 0 ≤ τ_53.1 35 ∧ τ_53.1 35 ≤ 19 := hT.1 35
          have PA : J_pa (τ_53.2.1 21) (τ_53.2.1 22) := by rw [show (J_pa (τ_53.2.1 21) (τ_53.2.1 22)) = (J_pa (σ.2.1 21) (σ.2.1 22)) from by rw [G21, G22]]; exact PA_0
          refine h53 n2 u3_53 u4_53 u5_53 τ_53 ?_
          have tt0 := i53_6.1.1
          have pw0 := i53_6.2.2.1
          have pwj := pw0.2 (τ_53.1 30 - 1) (by omega) (by omega)
          have pws := sm_s (τ_53.2.1 41) (show 0 ≤ τ_53.1 30 - 1 by omega)
          rw [show τ_53.1 30 - 1 + 1 = τ_53.1 30 by omega, ← pw0.1, ← pwj.1] at pws
          refine ⟨(show 0 ≤ (τ_53.1 30 - 1) ∧ (τ_53.1 30 - 1) < 202 from by (first | omega | (simp only [st_s] <;> omega) | assumption | omega | fail)), ?_⟩
          intro x20 r_x20 e_x20
          have b_x20 : 0 ≤ x20 ∧ x20 ≤ 1000 := by rw [e_x20]; exact hT.2 41 _
          refine ⟨fun c21 => ?_, fun c21 => ?_⟩
          ·
            refine ⟨(⟨by (first | omega | (simp only [st_s] <;> omega) | assumption | omega | fail), by (first | omega | (simp only [st_s] <;> omega) | assumption | omega | fail)⟩ : rg (u4_53 + 1)), ?_⟩
            exact ih_14 _ _ _ (show (20001 - (u4_53 + 1) : Int) < ((m_14 : Nat) : Int) from by ((first | omega | (simp only [st_s] <;> omega) | assumption | omega | fail))) hT (show τ_53.1 3 = σ.1 3 from by first | exact W3 | omega) (show τ_53.1 5 = σ.1 5 from by first | exact W5 | omega) (show τ_53.1 9 = σ.1 9 from by first | exact W9 | omega) G8 G10 G12 G13 G14 G15 G16 G17 G18 G19 G20 G21 G22 G25 G26 G27 G28 (show -1 ≤ u3_53 from by (first | omega | (simp only [st_s] <;> omega) | assumption | omega | fail)) (show u3_53 ≤ n2 from by (first | omega | (simp only [st_s] <;> omega) | assumption | omega | fail)) (show σ.2.1 25 n1 ≤ (u4_53 + 1) from by (first | omega | (simp only [st_s] <;> omega) | assumption | omega | fail)) (show (u4_53 + 1) ≤ σ.2.1 25 n1 + σ.2.1 26 n1 from by (first | omega | (simp only [st_s] <;> omega) | assumption | omega | fail)) (show (τ_53.1 35) = 0 from by (first | omega | (simp only [st_s] <;> omega) | assumption | omega | fail)) (show n_at (pP (u4_53 + 1)) (pS (u4_53 + 1)) (pN (u4_53 + 1)) (pF (u4_53 + 1)) (pM (u4_53 + 1)) (pG (u4_53 + 1)) τ_53 from by (first | exact n_at_0 (by (rw [e_x5]; first | exact z2 | (rw [g25_τ3]; exact z2))) (by (rw [e_x5]; first | exact z3 | (rw [g25_τ3]; exact z3))) (by omega) (by omega) (by omega) (by omega) | exact at15 | exact i53_6 | fail)) (show u3_53 + 1 = n_rn (σ.2.1 25 n1) ((u4_53 + 1) - σ.2.1 25 n1) (σ.2.1 27) from by (first | omega | (rw [n_rn_0 (by omega)]; omega) | (rw [n_rn_0 (by omega)]) | fail)) (show pS (u4_53 + 1) = ca (σ.2.1 28) (u4_53 + 1) - ca (σ.2.1 28) (σ.2.1 25 n1) from by (first | omega | (rw [e_x5]; omega) | (rw [e_x5, g25_τ3]; omega) | fail))
          ·
            intro x23 r_x23 e_x23
            have b_x23 : 0 ≤ x23 ∧ x23 ≤ 40000 := by rw [e_x23]; exact hT.2 40 _
            refine ⟨(show 0 ≤ (x23 + u5_53) ∧ (x23 + u5_53) < 42000 from by (first | omega | (simp only [st_s] <;> omega) | assumption | omega | fail)), ?_⟩
            intro x25 r_x25 e_x25
            have b_x25 : 0 ≤ x25 ∧ x25 ≤ 999 := by rw [e_x25]; exact hT.2 43 _
            refine ⟨_, K_X13_putSymbol hT (show 0 ≤ x25 from by (first | omega | (simp only [st_s] <;> omega) | assumption | omega | fail)) (show x25 < 1000 from by (first | omega | (simp only [st_s] <;> omega) | assumption | omega | fail)), ?_⟩
            intro τ28 hn_τ28 hf_τ28 hq
            replace hT := hq
            have w3_τ28 : τ28.1 3 = τ_53.1 3 := hf_τ28.1 3 (by decide)
            have w5_τ28 : τ28.1 5 = τ_53.1 5 := hf_τ28.1 5 (by decide)
            have w9_τ28 : τ28.1 9 = τ_53.1 9 := hf_τ28.1 9 (by decide)
            have w30_τ28 : τ28.1 30 = τ_53.1 30 := hf_τ28.1 30 (by decide)
            have w31_τ28 : τ28.1 31 = τ_53.1 31 := hf_τ28.1 31 (by decide)
            have w32_τ28 : τ28.1 32 = τ_53.1 32 := hf_τ28.1 32 (by decide)
            have w33_τ28 : τ28.1 33 = τ_53.1 33 := hf_τ28.1 33 (by decide)
            have w35_τ28 : τ28.1 35 = τ_53.1 35 := hf_τ28.1 35 (by decide)
            have g8_τ28 : τ28.2.1 8 = τ_53.2.1 8 := hf_τ28.2.1 8 (by decide)
            have g10_τ28 : τ28.2.1 10 = τ_53.2.1 10 := hf_τ28.2.1 10 (by decide)
            have g12_τ28 : τ28.2.1 12 = τ_53.2.1 12 := hf_τ28.2.1 12 (by decide)
            have g13_τ28 : τ28.2.1 13 = τ_53.2.1 13 := hf_τ28.2.1 13 (by decide)
            have g14_τ28 : τ28.2.1 14 = τ_53.2.1 14 := hf_τ28.2.1 14 (by decide)
            have g15_τ28 : τ28.2.1 15 = τ_53.2.1 15 := hf_τ28.2.1 15 (by decide)
            have g16_τ28 : τ28.2.1 16 = τ_53.2.1 16 := hf_τ28.2.1 16 (by decide)
            have g17_τ28 : τ28.2.1 17 = τ_53.2.1 17 := hf_τ28.2.1 17 (by decide)
            have g18_τ28 : τ28.2.1 18 = τ_53.2.1 18 := hf_τ28.2.1 18 (by decide)
            have g19_τ28 : τ28.2.1 19 = τ_53.2.1 19 := hf_τ28.2.1 19 (by decide)
            have g20_τ28 : τ28.2.1 20 = τ_53.2.1 20 := hf_τ28.2.1 20 (by decide)
            have g21_τ28 : τ28.2.1 21 = τ_53.2.1 21 := hf_τ28.2.1 21 (by decide)
            have g22_τ28 : τ28.2.1 22 = τ_53.2.1 22 := hf_τ28.2.1 22 (by decide)
            have g25_τ28 : τ28.2.1 25 = τ_53.2.1 25 := hf_τ28.2.1 25 (by decide)
            have g26_τ28 : τ28.2.1 26 = τ_53.2.1 26 := hf_τ28.2.1 26 (by decide)
            have g27_τ28 : τ28.2.1 27 = τ_53.2.1 27 := hf_τ28.2.1 27 (by decide)
            have g28_τ28 : τ28.2.1 28 = τ_53.2.1 28 := hf_τ28.2.1 28 (by decide)
            have g40_τ28 : τ28.2.1 40 = τ_53.2.1 40 := hf_τ28.2.1 40 (by decide)
            have g41_τ28 : τ28.2.1 41 = τ_53.2.1 41 := hf_τ28.2.1 41 (by decide)
            have g43_τ28 : τ28.2.1 43 = τ_53.2.1 43 := hf_τ28.2.1 43 (by decide)
            have g44_τ28 : τ28.2.1 44 = τ_53.2.1 44 := hf_τ28.2.1 44 (by decide)
            have g45_τ28 : τ28.2.1 45 = τ_53.2.1 45 := hf_τ28.2.1 45 (by decide)
            have g47_τ28 : τ28.2.1 47 = τ_53.2.1 47 := hf_τ28.2.1 47 (by decide)
            have W3 : τ28.1 3 = σ.1 3 := by first | exact w3_τ28.trans W3 | omega
            have W5 : τ28.1 5 = σ.1 5 := by first | exact w5_τ28.trans W5 | omega
            have W9 : τ28.1 9 = σ.1 9 := by first | exact w9_τ28.trans W9 | omega
            have G8 : τ28.2.1 8 = σ.2.1 8 := (g8_τ28).trans G8
            have G10 : τ28.2.1 10 = σ.2.1 10 := (g10_τ28).trans G10
            have G12 : τ28.2.1 12 = σ.2.1 12 := (g12_τ28).trans G12
            have G13 : τ28.2.1 13 = σ.2.1 13 := (g13_τ28).trans G13
            have G14 : τ28.2.1 14 = σ.2.1 14 := (g14_τ28).trans G14
            have G15 : τ28.2.1 15 = σ.2.1 15 := (g15_τ28).trans G15
            have G16 : τ28.2.1 16 = σ.2.1 16 := (g16_τ28).trans G16
            have G17 : τ28.2.1 17 = σ.2.1 17 := (g17_τ28).trans G17
            have G18 : τ28.2.1 18 = σ.2.1 18 := (g18_τ28).trans G18
            have G19 : τ28.2.1 19 = σ.2.1 19 := (g19_τ28).trans G19
            have G20 : τ28.2.1 20 = σ.2.1 20 := (g20_τ28).trans G20
            have G21 : τ28.2.1 21 = σ.2.1 21 := (g21_τ28).trans G21
            have G22 : τ28.2.1 22 = σ.2.1 22 := (g22_τ28).trans G22
            have G25 : τ28.2.1 25 = σ.2.1 25 := (g25_τ28).trans G25
            have G26 : τ28.2.1 26 = σ.2.1 26 := (g26_τ28).trans G26
            have G27 : τ28.2.1 27 = σ.2.1 27 := (g27_τ28).trans G27
            have G28 : τ28.2.1 28 = σ.2.1 28 := (g28_τ28).trans G28
            have PA : J_pa (τ28.2.1 21) (τ28.2.1 22) := by rw [show (J_pa (τ28.2.1 21) (τ28.2.1 22)) = (J_pa (τ_53.2.1 21) (τ_53.2.1 22)) from by rw [g21_τ28, g22_τ28]]; exact PA
            have A8 : ∀ j, 0 ≤ τ28.2.1 8 j ∧ τ28.2.1 8 j ≤ 1 := fun j => hT.2 8 j
            have A10 : ∀ j, (-1) ≤ τ28.2.1 10 j ∧ τ28.2.1 10 j ≤ 999 := fun j => hT.2 10 j
            have A12 : ∀ j, 0 ≤ τ28.2.1 12 j ∧ τ28.2.1 12 j ≤ 1 := fun j => hT.2 12 j
            have A13 : ∀ j, 0 ≤ τ28.2.1 13 j ∧ τ28.2.1 13 j ≤ 4 := fun j => hT.2 13 j
            have A14 : ∀ j, 0 ≤ τ28.2.1 14 j ∧ τ28.2.1 14 j ≤ 30000 := fun j => hT.2 14 j
            have A15 : ∀ j, 0 ≤ τ28.2.1 15 j ∧ τ28.2.1 15 j ≤ 300 := fun j => hT.2 15 j
            have A16 : ∀ j, 0 ≤ τ28.2.1 16 j ∧ τ28.2.1 16 j ≤ 999 := fun j => hT.2 16 j
            have A17 : ∀ j, (-1) ≤ τ28.2.1 17 j ∧ τ28.2.1 17 j ≤ 1499 := fun j => hT.2 17 j
            have A18 : ∀ j, 0 ≤ τ28.2.1 18 j ∧ τ28.2.1 18 j ≤ 90000 := fun j => hT.2 18 j
            have A19 : ∀ j, 0 ≤ τ28.2.1 19 j ∧ τ28.2.1 19 j ≤ 60 := fun j => hT.2 19 j
            have A20 : ∀ j, 0 ≤ τ28.2.1 20 j ∧ τ28.2.1 20 j ≤ 1499 := fun j => hT.2 20 j
            have A21 : ∀ j, 0 ≤ τ28.2.1 21 j ∧ τ28.2.1 21 j ≤ 20000 := fun j => hT.2 21 j
            have A22 : ∀ j, 0 ≤ τ28.2.1 22 j ∧ τ28.2.1 22 j ≤ 20000 := fun j => hT.2 22 j
            have A25 : ∀ j, 0 ≤ τ28.2.1 25 j ∧ τ28.2.1 25 j ≤ 20000 := fun j => hT.2 25 j
            have A26 : ∀ j, 0 ≤ τ28.2.1 26 j ∧ τ28.2.1 26 j ≤ 20000 := fun j => hT.2 26 j
            have A27 : ∀ j, (-300) ≤ τ28.2.1 27 j ∧ τ28.2.1 27 j ≤ 1499 := fun j => hT.2 27 j
            have A28 : ∀ j, 0 ≤ τ28.2.1 28 j ∧ τ28.2.1 28 j ≤ 1 := fun j => hT.2 28 j
            have A40 : ∀ j, 0 ≤ τ28.2.1 40 j ∧ τ28.2.1 40 j ≤ 40000 := fun j => hT.2 40 j
            have A41 : ∀ j, 0 ≤ τ28.2.1 41 j ∧ τ28.2.1 41 j ≤ 1000 := fun j => hT.2 41 j
            have A43 : ∀ j, 0 ≤ τ28.2.1 43 j ∧ τ28.2.1 43 j ≤ 999 := fun j => hT.2 43 j
            have A44 : ∀ j, 0 ≤ τ28.2.1 44 j ∧ τ28.2.1 44 j ≤ 40000 := fun j => hT.2 44 j
            have A45 : ∀ j, 0 ≤ τ28.2.1 45 j ∧ τ28.2.1 45 j ≤ 1000 := fun j => hT.2 45 j
            have A47 : ∀ j, 0 ≤ τ28.2.1 47 j ∧ τ28.2.1 47 j ≤ 999 := fun j => hT.2 47 j
            have v3 : 0 ≤ τ28.1 3 ∧ τ28.1 3 ≤ 1000 := hT.1 3
            have v5 : 0 ≤ τ28.1 5 ∧ τ28.1 5 ≤ 1500 := hT.1 5
            have v9 : 0 ≤ τ28.1 9 ∧ τ28.1 9 ≤ 20000 := hT.1 9
            have v30 : 0 ≤ τ28.1 30 ∧ τ28.1 30 ≤ 200 := hT.1 30
            have v31 : 0 ≤ τ28.1 31 ∧ τ28.1 31 ≤ 40000 := hT.1 31
            have v32 : 0 ≤ τ28.1 32 ∧ τ28.1 32 ≤ 300 := hT.1 32
            have v33 : 0 ≤ τ28.1 33 ∧ τ28.1 33 ≤ 40000 := hT.1 33
            have v35 : 0 ≤ τ28.1 35 ∧ τ28.1 35 ≤ 19 := hT.1 35
            refine ⟨(⟨by (first | omega | (simp only [st_s] <;> omega) | assumption | omega | fail), by (first | omega | (simp only [st_s] <;> omega) | assumption | omega | fail)⟩ : rg (u5_53 + 1)), ?_⟩
            exact ih_53 _ _ _ _ (show (1001 - (u5_53 + 1) : Int) < ((m_53 : Nat) : Int) from by ((first | omega | (simp only [st_s] <;> omega) | assumption | omega | fail))) hT (show τ28.1 3 = σ.1 3 from by first | exact W3 | omega) (show τ28.1 5 = σ.1 5 from by first | exact W5 | omega) (show τ28.1 9 = σ.1 9 from by first | exact W9 | omega) G8 G10 G12 G13 G14 G15 G16 G17 G18 G19 G20 G21 G22 G25 G26 G27 G28 (show 0 ≤ u3_53 from by (first | omega | (simp only [st_s] <;> omega) | assumption | omega | fail)) (show u3_53 = n2 from by (first | omega | (simp only [st_s] <;> omega) | assumption | omega | fail)) (show σ.2.1 25 n1 ≤ u4_53 from by (first | omega | (simp only [st_s] <;> omega) | assumption | omega | fail)) (show u4_53 < σ.2.1 25 n1 + σ.2.1 26 n1 from by (first | omega | (simp only [st_s] <;> omega) | assumption | omega | fail)) (show (τ28.1 35) = 0 from by (first | omega | (simp only [st_s] <;> omega) | assumption | omega | fail)) (show n_at (pP (u4_53 + 1)) (pS (u4_53 + 1)) (pN (u4_53 + 1)) (pF (u4_53 + 1)) (pM (u4_53 + 1)) (pG (u4_53 + 1)) τ28 from by (first | exact at15 | exact n_at_h i53_6 hf_τ28 rfl rfl | fail)) (show u3_53 + 1 = n_rn (σ.2.1 25 n1) ((u4_53 + 1) - σ.2.1 25 n1) (σ.2.1 27) from by (first | omega | (simp only [st_s] <;> omega) | assumption | omega | fail)) (show pS (u4_53 + 1) = ca (σ.2.1 28) (u4_53 + 1) - ca (σ.2.1 28) (σ.2.1 25 n1) from by (first | omega | (simp only [st_s] <;> omega) | assumption | omega | fail)) (show 0 ≤ (u5_53 + 1) ∧ (u5_53 + 1) ≤ 1000 from by (first | omega | (simp only [st_s] <;> omega) | assumption | omega | fail)) (show 1 ≤ pP (u4_53 + 1) from by (first | omega | (simp only [st_s] <;> omega) | assumption | omega | fail)) (show u4_53 + (m_14 : Int) ≥ 20001 from by (first | omega | (simp only [st_s] <;> omega) | assumption | omega | fail))
      refine h14 n2 u3_14 u4_14 τ_14 ?_
      refine ⟨fun c6 => ?_, fun c6 => ?_⟩
      ·
        refine ⟨_, K_X13_keepDraft hT, ?_⟩
        intro x8 τ9 r_x8 hn_τ9 hf_τ9 hq
        replace hT := hq
        have w3_τ9 : τ9.1 3 = τ_14.1 3 := hf_τ9.1 3 (by decide)
        have w5_τ9 : τ9.1 5 = τ_14.1 5 := hf_τ9.1 5 (by decide)
        have w9_τ9 : τ9.1 9 = τ_14.1 9 := hf_τ9.1 9 (by decide)
        have w30_τ9 : τ9.1 30 = τ_14.1 30 := hf_τ9.1 30 (by decide)
        have w31_τ9 : τ9.1 31 = τ_14.1 31 := hf_τ9.1 31 (by decide)
        have w32_τ9 : τ9.1 32 = τ_14.1 32 := hf_τ9.1 32 (by decide)
        have w33_τ9 : τ9.1 33 = τ_14.1 33 := hf_τ9.1 33 (by decide)
        have w35_τ9 : τ9.1 35 = τ_14.1 35 := hf_τ9.1 35 (by decide)
        have g8_τ9 : τ9.2.1 8 = τ_14.2.1 8 := hf_τ9.2.1 8 (by decide)
        have g10_τ9 : τ9.2.1 10 = τ_14.2.1 10 := hf_τ9.2.1 10 (by decide)
        have g12_τ9 : τ9.2.1 12 = τ_14.2.1 12 := hf_τ9.2.1 12 (by decide)
        have g13_τ9 : τ9.2.1 13 = τ_14.2.1 13 := hf_τ9.2.1 13 (by decide)
        have g14_τ9 : τ9.2.1 14 = τ_14.2.1 14 := hf_τ9.2.1 14 (by decide)
        have g15_τ9 : τ9.2.1 15 = τ_14.2.1 15 := hf_τ9.2.1 15 (by decide)
        have g16_τ9 : τ9.2.1 16 = τ_14.2.1 16 := hf_τ9.2.1 16 (by decide)
        have g17_τ9 : τ9.2.1 17 = τ_14.2.1 17 := hf_τ9.2.1 17 (by decide)
        have g18_τ9 : τ9.2.1 18 = τ_14.2.1 18 := hf_τ9.2.1 18 (by decide)
        have g19_τ9 : τ9.2.1 19 = τ_14.2.1 19 := hf_τ9.2.1 19 (by decide)
        have g20_τ9 : τ9.2.1 20 = τ_14.2.1 20 := hf_τ9.2.1 20 (by decide)
        have g21_τ9 : τ9.2.1 21 = τ_14.2.1 21 := hf_τ9.2.1 21 (by decide)
        have g22_τ9 : τ9.2.1 22 = τ_14.2.1 22 := hf_τ9.2.1 22 (by decide)
        have g25_τ9 : τ9.2.1 25 = τ_14.2.1 25 := hf_τ9.2.1 25 (by decide)
        have g26_τ9 : τ9.2.1 26 = τ_14.2.1 26 := hf_τ9.2.1 26 (by decide)
        have g27_τ9 : τ9.2.1 27 = τ_14.2.1 27 := hf_τ9.2.1 27 (by decide)
        have g28_τ9 : τ9.2.1 28 = τ_14.2.1 28 := hf_τ9.2.1 28 (by decide)
        have g40_τ9 : τ9.2.1 40 = τ_14.2.1 40 := hf_τ9.2.1 40 (by decide)
        have g41_τ9 : τ9.2.1 41 = τ_14.2.1 41 := hf_τ9.2.1 41 (by decide)
        have g43_τ9 : τ9.2.1 43 = τ_14.2.1 43 := hf_τ9.2.1 43 (by decide)
        have g44_τ9 : τ9.2.1 44 = τ_14.2.1 44 := hf_τ9.2.1 44 (by decide)
        have g45_τ9 : τ9.2.1 45 = τ_14.2.1 45 := hf_τ9.2.1 45 (by decide)
        have g47_τ9 : τ9.2.1 47 = τ_14.2.1 47 := hf_τ9.2.1 47 (by decide)
        have W3 : τ9.1 3 = σ.1 3 := by first | exact w3_τ9.trans W3 | omega
        have W5 : τ9.1 5 = σ.1 5 := by first | exact w5_τ9.trans W5 | omega
        have W9 : τ9.1 9 = σ.1 9 := by first | exact w9_τ9.trans W9 | omega
        have G8 : τ9.2.1 8 = σ.2.1 8 := (g8_τ9).trans G8
        have G10 : τ9.2.1 10 = σ.2.1 10 := (g10_τ9).trans G10
        have G12 : τ9.2.1 12 = σ.2.1 12 := (g12_τ9).trans G12
        have G13 : τ9.2.1 13 = σ.2.1 13 := (g13_τ9).trans G13
        have G14 : τ9.2.1 14 = σ.2.1 14 := (g14_τ9).trans G14
        have G15 : τ9.2.1 15 = σ.2.1 15 := (g15_τ9).trans G15
        have G16 : τ9.2.1 16 = σ.2.1 16 := (g16_τ9).trans G16
        have G17 : τ9.2.1 17 = σ.2.1 17 := (g17_τ9).trans G17
        have G18 : τ9.2.1 18 = σ.2.1 18 := (g18_τ9).trans G18
        have G19 : τ9.2.1 19 = σ.2.1 19 := (g19_τ9).trans G19
        have G20 : τ9.2.1 20 = σ.2.1 20 := (g20_τ9).trans G20
        have G21 : τ9.2.1 21 = σ.2.1 21 := (g21_τ9).trans G21
        have G22 : τ9.2.1 22 = σ.2.1 22 := (g22_τ9).trans G22
        have G25 : τ9.2.1 25 = σ.2.1 25 := (g25_τ9).trans G25
        have G26 : τ9.2.1 26 = σ.2.1 26 := (g26_τ9).trans G26
        have G27 : τ9.2.1 27 = σ.2.1 27 := (g27_τ9).trans G27
        have G28 : τ9.2.1 28 = σ.2.1 28 := (g28_τ9).trans G28
        have PA : J_pa (τ9.2.1 21) (τ9.2.1 22) := by rw [show (J_pa (τ9.2.1 21) (τ9.2.1 22)) = (J_pa (τ_14.2.1 21) (τ_14.2.1 22)) from by rw [g21_τ9, g22_τ9]]; exact PA
        have A8 : ∀ j, 0 ≤ τ9.2.1 8 j ∧ τ9.2.1 8 j ≤ 1 := fun j => hT.2 8 j
        have A10 : ∀ j, (-1) ≤ τ9.2.1 10 j ∧ τ9.2.1 10 j ≤ 999 := fun j => hT.2 10 j
        have A12 : ∀ j, 0 ≤ τ9.2.1 12 j ∧ τ9.2.1 12 j ≤ 1 := fun j => hT.2 12 j
        have A13 : ∀ j, 0 ≤ τ9.2.1 13 j ∧ τ9.2.1 13 j ≤ 4 := fun j => hT.2 13 j
        have A14 : ∀ j, 0 ≤ τ9.2.1 14 j ∧ τ9.2.1 14 j ≤ 30000 := fun j => hT.2 14 j
        have A15 : ∀ j, 0 ≤ τ9.2.1 15 j ∧ τ9.2.1 15 j ≤ 300 := fun j => hT.2 15 j
        have A16 : ∀ j, 0 ≤ τ9.2.1 16 j ∧ τ9.2.1 16 j ≤ 999 := fun j => hT.2 16 j
        have A17 : ∀ j, (-1) ≤ τ9.2.1 17 j ∧ τ9.2.1 17 j ≤ 1499 := fun j => hT.2 17 j
        have A18 : ∀ j, 0 ≤ τ9.2.1 18 j ∧ τ9.2.1 18 j ≤ 90000 := fun j => hT.2 18 j
        have A19 : ∀ j, 0 ≤ τ9.2.1 19 j ∧ τ9.2.1 19 j ≤ 60 := fun j => hT.2 19 j
        have A20 : ∀ j, 0 ≤ τ9.2.1 20 j ∧ τ9.2.1 20 j ≤ 1499 := fun j => hT.2 20 j
        have A21 : ∀ j, 0 ≤ τ9.2.1 21 j ∧ τ9.2.1 21 j ≤ 20000 := fun j => hT.2 21 j
        have A22 : ∀ j, 0 ≤ τ9.2.1 22 j ∧ τ9.2.1 22 j ≤ 20000 := fun j => hT.2 22 j
        have A25 : ∀ j, 0 ≤ τ9.2.1 25 j ∧ τ9.2.1 25 j ≤ 20000 := fun j => hT.2 25 j
        have A26 : ∀ j, 0 ≤ τ9.2.1 26 j ∧ τ9.2.1 26 j ≤ 20000 := fun j => hT.2 26 j
        have A27 : ∀ j, (-300) ≤ τ9.2.1 27 j ∧ τ9.2.1 27 j ≤ 1499 := fun j => hT.2 27 j
        have A28 : ∀ j, 0 ≤ τ9.2.1 28 j ∧ τ9.2.1 28 j ≤ 1 := fun j => hT.2 28 j
        have A40 : ∀ j, 0 ≤ τ9.2.1 40 j ∧ τ9.2.1 40 j ≤ 40000 := fun j => hT.2 40 j
        have A41 : ∀ j, 0 ≤ τ9.2.1 41 j ∧ τ9.2.1 41 j ≤ 1000 := fun j => hT.2 41 j
        have A43 : ∀ j, 0 ≤ τ9.2.1 43 j ∧ τ9.2.1 43 j ≤ 999 := fun j => hT.2 43 j
        have A44 : ∀ j, 0 ≤ τ9.2.1 44 j ∧ τ9.2.1 44 j ≤ 40000 := fun j => hT.2 44 j
        have A45 : ∀ j, 0 ≤ τ9.2.1 45 j ∧ τ9.2.1 45 j ≤ 1000 := fun j => hT.2 45 j
        have A47 : ∀ j, 0 ≤ τ9.2.1 47 j ∧ τ9.2.1 47 j ≤ 999 := fun j => hT.2 47 j
        have v3 : 0 ≤ τ9.1 3 ∧ τ9.1 3 ≤ 1000 := hT.1 3
        have v5 : 0 ≤ τ9.1 5 ∧ τ9.1 5 ≤ 1500 := hT.1 5
        have v9 : 0 ≤ τ9.1 9 ∧ τ9.1 9 ≤ 20000 := hT.1 9
        have v30 : 0 ≤ τ9.1 30 ∧ τ9.1 30 ≤ 200 := hT.1 30
        have v31 : 0 ≤ τ9.1 31 ∧ τ9.1 31 ≤ 40000 := hT.1 31
        have v32 : 0 ≤ τ9.1 32 ∧ τ9.1 32 ≤ 300 := hT.1 32
        have v33 : 0 ≤ τ9.1 33 ∧ τ9.1 33 ≤ 40000 := hT.1 33
        have v35 : 0 ≤ τ9.1 35 ∧ τ9.1 35 ≤ 19 := hT.1 35
        exact hT
      ·
        have lt4 : u4_14 < σ.2.1 25 n1 + σ.2.1 26 n1 := by (rcases (by omega : u4_14 < σ.2.1 25 n1 + σ.2.1 26 n1 ∨ u4_14 - σ.2.1 25 n1 = σ.2.1 26 n1) with q | q; exact q; (exfalso; have w := i14_7; rw [q] at w; omega))
        have t0 := i14_6.1.1
        have p0 : 0 ≤ pP u4_14 := by (rw [← t0]; exact (hT.1 30).1)
        obtain ⟨⟨d1, d0⟩, d2, d3, d4, d5, d6⟩ := n_sT_d (zs u4_14 (by omega) (by omega)) p0
        have cu := ca_u (σ.2.1 28) (n := u4_14) (by omega)
        have cm := ca_m (σ.2.1 28) (n := u4_14 + 1) (m := σ.2.1 25 n1 + σ.2.1 26 n1) (by omega) (by omega)
        have rn := n_rn_s (a := σ.2.1 25 n1) (u := u4_14) (sw := σ.2.1 27) (by omega)
        refine ⟨(show 0 ≤ u4_14 ∧ u4_14 < 20001 from by (first | omega | (simp only [st_s] <;> omega) | assumption | omega | fail)), ?_⟩
        intro x11 r_x11 e_x11
        have b_x11 : (-300) ≤ x11 ∧ x11 ≤ 1499 := by rw [e_x11]; exact hT.2 27 _
        rw [G27] at e_x11
        rw [← e_x11] at d0 d2 d3 rn
        refine ⟨fun c12 => ?_, fun c12 => ?_⟩
        ·
          refine h35 _ _ _ _ _ ?_
          have hs0 : ∀ j : Int, 0 ≤ τ_14.2.1 19 j := fun j => by (rw [G19]; exact (s19 j).1)
          have jn : n_Jn (σ.1 5) τ_14 := n_J_g p4 W3 (fun k hk => by simp only [List.mem_cons, List.mem_nil_iff, or_false] at hk; rcases hk with rfl | rfl | rfl | rfl | rfl | rfl | rfl | rfl | rfl | rfl | rfl | rfl | rfl | rfl | rfl <;> assumption)
          have g27 := G27
          have g28 := G28
          have sT : n_sT n1 (τ_14.2.1 27 u4_14) (τ_14.2.1 28 u4_14) (pP u4_14) (pS u4_14) (pP (u4_14 + 1)) (pS (u4_14 + 1)) (τ_14.2.1 13) (τ_14.2.1 14) (τ_14.2.1 15) (τ_14.2.1 16) (τ_14.2.1 8) (τ_14.2.1 18) (τ_14.2.1 19) (τ_14.2.1 20) (pN u4_14) (pF u4_14) (pM u4_14) (pG u4_14) (pN (u4_14 + 1)) (pF (u4_14 + 1)) (pM (u4_14 + 1)) (pG (u4_14 + 1)) := by (rw [G13, G14, G15, G16, G8, G18, G19, G20, G27, G28]; exact zs u4_14 (by omega) (by omega))
          have JW : 0 ≤ τ_14.2.1 27 u4_14 → n_J1 (τ_14.2.1 27 u4_14) τ_14 := fun z => jn _ z (by (rw [G27] at z ⊢; omega))
          have t32 := i14_6.1.2
          refine ⟨_, K3_X13_doStep hT (show 0 ≤ u4_14 from by (first | omega | (simp only [st_s] <;> omega) | assumption | omega | fail)) (show u4_14 < 20000 from by (first | omega | (simp only [st_s] <;> omega) | assumption | omega | fail)) (show 0 ≤ (0 : Int) from by (first | omega | (simp only [st_s] <;> omega) | assumption | omega | fail)) (show (0 : Int) ≤ 20000 from by (first | omega | (simp only [st_s] <;> omega) | assumption | omega | fail)) (show 0 ≤ (0 : Int) from by (first | omega | (simp only [st_s] <;> omega) | assumption | omega | fail)) (show (0 : Int) ≤ 1 from by (first | omega | (simp only [st_s] <;> omega) | assumption | omega | fail)) (show ¬ τ_14.2.1 28 u4_14 = 0 → (τ_14.1 32) < 300 from by (rw [g28]; intro z; omega)) (show 0 ≤ τ_14.2.1 27 u4_14 → τ_14.2.1 21 (τ_14.2.1 27 u4_14) + τ_14.2.1 22 (τ_14.2.1 27 u4_14) ≤ 20000 from by (intro z; rw [G21, G22]; exact p6 _)) (show n_pw (τ_14.1 30) (τ_14.1 31) (τ_14.2.1 40) (τ_14.2.1 41) from by exact i14_6.2.2.1) (show n_pw (τ_14.1 32) (τ_14.1 33) (τ_14.2.1 44) (τ_14.2.1 45) from by exact i14_6.2.2.2) (show 0 ≤ τ_14.2.1 27 u4_14 → n_J1 (τ_14.2.1 27 u4_14) τ_14 from by exact JW) (show τ_14.2.1 27 u4_14 < 0 → -1 - τ_14.2.1 27 u4_14 < (τ_14.1 32) from by (rw [g27]; intro z; omega)), ?_⟩
          intro τ15 hn_τ15 hf_τ15 hq
          obtain ⟨hT, q13_1, q13_2, q13_3, q13_4, q13_5⟩ := hq
          replace q13_1 : ¬ (τ_14.1 35) = 0 → (τ15.1 35) = (τ_14.1 35) := q13_1
          replace q13_2 : (τ15.1 32) ≤ (τ_14.1 32) + 1 := q13_2
          replace q13_3 : τ_14.2.1 28 u4_14 = 0 → (τ15.1 32) = (τ_14.1 32) := q13_3
          replace q13_4 : (τ_14.1 35) = 0 → (τ15.1 35) = 0 → n_dA τ_14 τ15 (τ_14.2.1 27 u4_14) (τ_14.2.1 28 u4_14) := q13_4
          replace q13_5 : (0 : Int) = 0 → (τ_14.1 35) = 0 → n_mi τ_14 (τ_14.2.1 27 u4_14) (τ_14.2.1 28 u4_14) → (τ15.1 35) = 0 := q13_5
          have w3_τ15 : τ15.1 3 = τ_14.1 3 := hf_τ15.1 3 (by decide)
          have w5_τ15 : τ15.1 5 = τ_14.1 5 := hf_τ15.1 5 (by decide)
          have w9_τ15 : τ15.1 9 = τ_14.1 9 := hf_τ15.1 9 (by decide)
          have g8_τ15 : τ15.2.1 8 = τ_14.2.1 8 := hf_τ15.2.1 8 (by decide)
          have g10_τ15 : τ15.2.1 10 = τ_14.2.1 10 := hf_τ15.2.1 10 (by decide)
          have g12_τ15 : τ15.2.1 12 = τ_14.2.1 12 := hf_τ15.2.1 12 (by decide)
          have g13_τ15 : τ15.2.1 13 = τ_14.2.1 13 := hf_τ15.2.1 13 (by decide)
          have g14_τ15 : τ15.2.1 14 = τ_14.2.1 14 := hf_τ15.2.1 14 (by decide)
          have g15_τ15 : τ15.2.1 15 = τ_14.2.1 15 := hf_τ15.2.1 15 (by decide)
          have g16_τ15 : τ15.2.1 16 = τ_14.2.1 16 := hf_τ15.2.1 16 (by decide)
          have g17_τ15 : τ15.2.1 17 = τ_14.2.1 17 := hf_τ15.2.1 17 (by decide)
          have g18_τ15 : τ15.2.1 18 = τ_14.2.1 18 := hf_τ15.2.1 18 (by decide)
          have g19_τ15 : τ15.2.1 19 = τ_14.2.1 19 := hf_τ15.2.1 19 (by decide)
          have g20_τ15 : τ15.2.1 20 = τ_14.2.1 20 := hf_τ15.2.1 20 (by decide)
          have g21_τ15 : τ15.2.1 21 = τ_14.2.1 21 := hf_τ15.2.1 21 (by decide)
          have g22_τ15 : τ15.2.1 22 = τ_14.2.1 22 := hf_τ15.2.1 22 (by decide)
          have g25_τ15 : τ15.2.1 25 = τ_14.2.1 25 := hf_τ15.2.1 25 (by decide)
          have g26_τ15 : τ15.2.1 26 = τ_14.2.1 26 := hf_τ15.2.1 26 (by decide)
          have g27_τ15 : τ15.2.1 27 = τ_14.2.1 27 := hf_τ15.2.1 27 (by decide)
          have g28_τ15 : τ15.2.1 28 = τ_14.2.1 28 := hf_τ15.2.1 28 (by decide)
          have W3 : τ15.1 3 = σ.1 3 := by first | exact w3_τ15.trans W3 | omega
          have W5 : τ15.1 5 = σ.1 5 := by first | exact w5_τ15.trans W5 | omega
          have W9 : τ15.1 9 = σ.1 9 := by first | exact w9_τ15.trans W9 | omega
          have G8 : τ15.2.1 8 = σ.2.1 8 := (g8_τ15).trans G8
          have G10 : τ15.2.1 10 = σ.2.1 10 := (g10_τ15).trans G10
          have G12 : τ15.2.1 12 = σ.2.1 12 := (g12_τ15).trans G12
          have G13 : τ15.2.1 13 = σ.2.1 13 := (g13_τ15).trans G13
          have G14 : τ15.2.1 14 = σ.2.1 14 := (g14_τ15).trans G14
          have G15 : τ15.2.1 15 = σ.2.1 15 := (g15_τ15).trans G15
          have G16 : τ15.2.1 16 = σ.2.1 16 := (g16_τ15).trans G16
          have G17 : τ15.2.1 17 = σ.2.1 17 := (g17_τ15).trans G17
          have G18 : τ15.2.1 18 = σ.2.1 18 := (g18_τ15).trans G18
          have G19 : τ15.2.1 19 = σ.2.1 19 := (g19_τ15).trans G19
          have G20 : τ15.2.1 20 = σ.2.1 20 := (g20_τ15).trans G20
          have G21 : τ15.2.1 21 = σ.2.1 21 := (g21_τ15).trans G21
          have G22 : τ15.2.1 22 = σ.2.1 22 := (g22_τ15).trans G22
          have G25 : τ15.2.1 25 = σ.2.1 25 := (g25_τ15).trans G25
          have G26 : τ15.2.1 26 = σ.2.1 26 := (g26_τ15).trans G26
          have G27 : τ15.2.1 27 = σ.2.1 27 := (g27_τ15).trans G27
          have G28 : τ15.2.1 28 = σ.2.1 28 := (g28_τ15).trans G28
          have PA : J_pa (τ15.2.1 21) (τ15.2.1 22) := by rw [show (J_pa (τ15.2.1 21) (τ15.2.1 22)) = (J_pa (τ_14.2.1 21) (τ_14.2.1 22)) from by rw [g21_τ15, g22_τ15]]; exact PA
          have A8 : ∀ j, 0 ≤ τ15.2.1 8 j ∧ τ15.2.1 8 j ≤ 1 := fun j => hT.2 8 j
          have A10 : ∀ j, (-1) ≤ τ15.2.1 10 j ∧ τ15.2.1 10 j ≤ 999 := fun j => hT.2 10 j
          have A12 : ∀ j, 0 ≤ τ15.2.1 12 j ∧ τ15.2.1 12 j ≤ 1 := fun j => hT.2 12 j
          have A13 : ∀ j, 0 ≤ τ15.2.1 13 j ∧ τ15.2.1 13 j ≤ 4 := fun j => hT.2 13 j
          have A14 : ∀ j, 0 ≤ τ15.2.1 14 j ∧ τ15.2.1 14 j ≤ 30000 := fun j => hT.2 14 j
          have A15 : ∀ j, 0 ≤ τ15.2.1 15 j ∧ τ15.2.1 15 j ≤ 300 := fun j => hT.2 15 j
          have A16 : ∀ j, 0 ≤ τ15.2.1 16 j ∧ τ15.2.1 16 j ≤ 999 := fun j => hT.2 16 j
          have A17 : ∀ j, (-1) ≤ τ15.2.1 17 j ∧ τ15.2.1 17 j ≤ 1499 := fun j => hT.2 17 j
          have A18 : ∀ j, 0 ≤ τ15.2.1 18 j ∧ τ15.2.1 18 j ≤ 90000 := fun j => hT.2 18 j
          have A19 : ∀ j, 0 ≤ τ15.2.1 19 j ∧ τ15.2.1 19 j ≤ 60 := fun j => hT.2 19 j
          have A20 : ∀ j, 0 ≤ τ15.2.1 20 j ∧ τ15.2.1 20 j ≤ 1499 := fun j => hT.2 20 j
          have A21 : ∀ j, 0 ≤ τ15.2.1 21 j ∧ τ15.2.1 21 j ≤ 20000 := fun j => hT.2 21 j
          have A22 : ∀ j, 0 ≤ τ15.2.1 22 j ∧ τ15.2.1 22 j ≤ 20000 := fun j => hT.2 22 j
          have A25 : ∀ j, 0 ≤ τ15.2.1 25 j ∧ τ15.2.1 25 j ≤ 20000 := fun j => hT.2 25 j
          have A26 : ∀ j, 0 ≤ τ15.2.1 26 j ∧ τ15.2.1 26 j ≤ 20000 := fun j => hT.2 26 j
          have A27 : ∀ j, (-300) ≤ τ15.2.1 27 j ∧ τ15.2.1 27 j ≤ 1499 := fun j => hT.2 27 j
          have A28 : ∀ j, 0 ≤ τ15.2.1 28 j ∧ τ15.2.1 28 j ≤ 1 := fun j => hT.2 28 j
          have A40 : ∀ j, 0 ≤ τ15.2.1 40 j ∧ τ15.2.1 40 j ≤ 40000 := fun j => hT.2 40 j
          have A41 : ∀ j, 0 ≤ τ15.2.1 41 j ∧ τ15.2.1 41 j ≤ 1000 := fun j => hT.2 41 j
          have A43 : ∀ j, 0 ≤ τ15.2.1 43 j ∧ τ15.2.1 43 j ≤ 999 := fun j => hT.2 43 j
          have A44 : ∀ j, 0 ≤ τ15.2.1 44 j ∧ τ15.2.1 44 j ≤ 40000 := fun j => hT.2 44 j
          have A45 : ∀ j, 0 ≤ τ15.2.1 45 j ∧ τ15.2.1 45 j ≤ 1000 := fun j => hT.2 45 j
          have A47 : ∀ j, 0 ≤ τ15.2.1 47 j ∧ τ15.2.1 47 j ≤ 999 := fun j => hT.2 47 j
          have v3 : 0 ≤ τ15.1 3 ∧ τ15.1 3 ≤ 1000 := hT.1 3
          have v5 : 0 ≤ τ15.1 5 ∧ τ15.1 5 ≤ 1500 := hT.1 5
          have v9 : 0 ≤ τ15.1 9 ∧ τ15.1 9 ≤ 20000 := hT.1 9
          have v30 : 0 ≤ τ15.1 30 ∧ τ15.1 30 ≤ 200 := hT.1 30
          have v31 : 0 ≤ τ15.1 31 ∧ τ15.1 31 ≤ 40000 := hT.1 31
          have v32 : 0 ≤ τ15.1 32 ∧ τ15.1 32 ≤ 300 := hT.1 32
          have v33 : 0 ≤ τ15.1 33 ∧ τ15.1 33 ≤ 40000 := hT.1 33
          have v35 : 0 ≤ τ15.1 35 ∧ τ15.1 35 ≤ 19 := hT.1 35
          have w35 : τ15.1 35 = 0 := q13_5 rfl i14_5 (n_at_i i14_6 hs0 sT)
          have at15 : n_at (pP (u4_14 + 1)) (pS (u4_14 + 1)) (pN (u4_14 + 1)) (pF (u4_14 + 1)) (pM (u4_14 + 1)) (pG (u4_14 + 1)) τ15 := n_at_n i14_6 hs0 sT (q13_4 i14_5 w35) JW
          refine ⟨(⟨by (first | omega | (simp only [st_s] <;> omega) | assumption | omega | fail), by (first | omega | (simp only [st_s] <;> omega) | assumption | omega | fail)⟩ : rg (u3_14 + 0)), ?_⟩
          refine ⟨fun c17 => ?_, fun c17 => ?_⟩
          ·
            refine ⟨(⟨by (first | omega | (simp only [st_s] <;> omega) | assumption | omega | fail), by (first | omega | (simp only [st_s] <;> omega) | assumption | omega | fail)⟩ : rg (u4_14 + 1)), ?_⟩
            exact ih_14 _ _ _ (show (20001 - (u4_14 + 1) : Int) < ((m_14 : Nat) : Int) from by ((first | omega | (simp only [st_s] <;> omega) | assumption | omega | fail))) hT (show τ15.1 3 = σ.1 3 from by first | exact W3 | omega) (show τ15.1 5 = σ.1 5 from by first | exact W5 | omega) (show τ15.1 9 = σ.1 9 from by first | exact W9 | omega) G8 G10 G12 G13 G14 G15 G16 G17 G18 G19 G20 G21 G22 G25 G26 G27 G28 (show -1 ≤ (u3_14 + 0) from by (first | omega | (simp only [st_s] <;> omega) | assumption | omega | fail)) (show (u3_14 + 0) ≤ n2 from by (first | omega | (simp only [st_s] <;> omega) | assumption | omega | fail)) (show σ.2.1 25 n1 ≤ (u4_14 + 1) from by (first | omega | (simp only [st_s] <;> omega) | assumption | omega | fail)) (show (u4_14 + 1) ≤ σ.2.1 25 n1 + σ.2.1 26 n1 from by (first | omega | (simp only [st_s] <;> omega) | assumption | omega | fail)) (show (τ15.1 35) = 0 from by (first | omega | (simp only [st_s] <;> omega) | assumption | omega | fail)) (show n_at (pP (u4_14 + 1)) (pS (u4_14 + 1)) (pN (u4_14 + 1)) (pF (u4_14 + 1)) (pM (u4_14 + 1)) (pG (u4_14 + 1)) τ15 from by (first | exact n_at_0 (by (rw [e_x5]; first | exact z2 | (rw [g25_τ3]; exact z2))) (by (rw [e_x5]; first | exact z3 | (rw [g25_τ3]; exact z3))) (by omega) (by omega) (by omega) (by omega) | exact at15 | exact i53_6 | fail)) (show (u3_14 + 0) + 1 = n_rn (σ.2.1 25 n1) ((u4_14 + 1) - σ.2.1 25 n1) (σ.2.1 27) from by (first | omega | (rw [n_rn_0 (by omega)]; omega) | (rw [n_rn_0 (by omega)]) | fail)) (show pS (u4_14 + 1) = ca (σ.2.1 28) (u4_14 + 1) - ca (σ.2.1 28) (σ.2.1 25 n1) from by (first | omega | (rw [e_x5]; omega) | (rw [e_x5, g25_τ3]; omega) | fail))
          ·
            exact l_53 ((1001 - 0 : Int).toNat + 1) _ _ _ _ (show (1001 - 0 : Int) < (((1001 - 0 : Int).toNat + 1 : Nat) : Int) from by ((first | omega | (simp only [st_s] <;> omega) | assumption | omega | fail))) hT (show τ15.1 3 = σ.1 3 from by first | exact W3 | omega) (show τ15.1 5 = σ.1 5 from by first | exact W5 | omega) (show τ15.1 9 = σ.1 9 from by first | exact W9 | omega) G8 G10 G12 G13 G14 G15 G16 G17 G18 G19 G20 G21 G22 G25 G26 G27 G28 (show 0 ≤ (u3_14 + 0) from by (first | omega | (simp only [st_s] <;> omega) | assumption | omega | fail)) (show (u3_14 + 0) = n2 from by (first | omega | (simp only [st_s] <;> omega) | assumption | omega | fail)) (show σ.2.1 25 n1 ≤ u4_14 from by (first | omega | (simp only [st_s] <;> omega) | assumption | omega | fail)) (show u4_14 < σ.2.1 25 n1 + σ.2.1 26 n1 from by (first | omega | (simp only [st_s] <;> omega) | assumption | omega | fail)) (show (τ15.1 35) = 0 from by (first | omega | (simp only [st_s] <;> omega) | assumption | omega | fail)) (show n_at (pP (u4_14 + 1)) (pS (u4_14 + 1)) (pN (u4_14 + 1)) (pF (u4_14 + 1)) (pM (u4_14 + 1)) (pG (u4_14 + 1)) τ15 from by (first | exact at15 | exact n_at_h i53_6 hf_τ28 rfl rfl | fail)) (show (u3_14 + 0) + 1 = n_rn (σ.2.1 25 n1) ((u4_14 + 1) - σ.2.1 25 n1) (σ.2.1 27) from by (first | omega | (simp only [st_s] <;> omega) | assumption | omega | fail)) (show pS (u4_14 + 1) = ca (σ.2.1 28) (u4_14 + 1) - ca (σ.2.1 28) (σ.2.1 25 n1) from by (first | omega | (simp only [st_s] <;> omega) | assumption | omega | fail)) (show 0 ≤ 0 ∧ 0 ≤ 1000 from by (first | omega | (simp only [st_s] <;> omega) | assumption | omega | fail)) (show 1 ≤ pP (u4_14 + 1) from by (first | omega | (simp only [st_s] <;> omega) | assumption | omega | fail)) (show u4_14 + (m_14 : Int) ≥ 20001 from by (first | omega | (simp only [st_s] <;> omega) | assumption | omega | fail))
        ·
          refine h35 _ _ _ _ _ ?_
          have hs0 : ∀ j : Int, 0 ≤ τ_14.2.1 19 j := fun j => by (rw [G19]; exact (s19 j).1)
          have jn : n_Jn (σ.1 5) τ_14 := n_J_g p4 W3 (fun k hk => by simp only [List.mem_cons, List.mem_nil_iff, or_false] at hk; rcases hk with rfl | rfl | rfl | rfl | rfl | rfl | rfl | rfl | rfl | rfl | rfl | rfl | rfl | rfl | rfl <;> assumption)
          have g27 := G27
          have g28 := G28
          have sT : n_sT n1 (τ_14.2.1 27 u4_14) (τ_14.2.1 28 u4_14) (pP u4_14) (pS u4_14) (pP (u4_14 + 1)) (pS (u4_14 + 1)) (τ_14.2.1 13) (τ_14.2.1 14) (τ_14.2.1 15) (τ_14.2.1 16) (τ_14.2.1 8) (τ_14.2.1 18) (τ_14.2.1 19) (τ_14.2.1 20) (pN u4_14) (pF u4_14) (pM u4_14) (pG u4_14) (pN (u4_14 + 1)) (pF (u4_14 + 1)) (pM (u4_14 + 1)) (pG (u4_14 + 1)) := by (rw [G13, G14, G15, G16, G8, G18, G19, G20, G27, G28]; exact zs u4_14 (by omega) (by omega))
          have JW : 0 ≤ τ_14.2.1 27 u4_14 → n_J1 (τ_14.2.1 27 u4_14) τ_14 := fun z => jn _ z (by (rw [G27] at z ⊢; omega))
          have t32 := i14_6.1.2
          refine ⟨_, K3_X13_doStep hT (show 0 ≤ u4_14 from by (first | omega | (simp only [st_s] <;> omega) | assumption | omega | fail)) (show u4_14 < 20000 from by (first | omega | (simp only [st_s] <;> omega) | assumption | omega | fail)) (show 0 ≤ (0 : Int) from by (first | omega | (simp only [st_s] <;> omega) | assumption | omega | fail)) (show (0 : Int) ≤ 20000 from by (first | omega | (simp only [st_s] <;> omega) | assumption | omega | fail)) (show 0 ≤ (0 : Int) from by (first | omega | (simp only [st_s] <;> omega) | assumption | omega | fail)) (show (0 : Int) ≤ 1 from by (first | omega | (simp only [st_s] <;> omega) | assumption | omega | fail)) (show ¬ τ_14.2.1 28 u4_14 = 0 → (τ_14.1 32) < 300 from by (rw [g28]; intro z; omega)) (show 0 ≤ τ_14.2.1 27 u4_14 → τ_14.2.1 21 (τ_14.2.1 27 u4_14) + τ_14.2.1 22 (τ_14.2.1 27 u4_14) ≤ 20000 from by (intro z; rw [G21, G22]; exact p6 _)) (show n_pw (τ_14.1 30) (τ_14.1 31) (τ_14.2.1 40) (τ_14.2.1 41) from by exact i14_6.2.2.1) (show n_pw (τ_14.1 32) (τ_14.1 33) (τ_14.2.1 44) (τ_14.2.1 45) from by exact i14_6.2.2.2) (show 0 ≤ τ_14.2.1 27 u4_14 → n_J1 (τ_14.2.1 27 u4_14) τ_14 from by exact JW) (show τ_14.2.1 27 u4_14 < 0 → -1 - τ_14.2.1 27 u4_14 < (τ_14.1 32) from by (rw [g27]; intro z; omega)), ?_⟩
          intro τ15 hn_τ15 hf_τ15 hq
          obtain ⟨hT, q13_1, q13_2, q13_3, q13_4, q13_5⟩ := hq
          replace q13_1 : ¬ (τ_14.1 35) = 0 → (τ15.1 35) = (τ_14.1 35) := q13_1
          replace q13_2 : (τ15.1 32) ≤ (τ_14.1 32) + 1 := q13_2
          replace q13_3 : τ_14.2.1 28 u4_14 = 0 → (τ15.1 32) = (τ_14.1 32) := q13_3
          replace q13_4 : (τ_14.1 35) = 0 → (τ15.1 35) = 0 → n_dA τ_14 τ15 (τ_14.2.1 27 u4_14) (τ_14.2.1 28 u4_14) := q13_4
          replace q13_5 : (0 : Int) = 0 → (τ_14.1 35) = 0 → n_mi τ_14 (τ_14.2.1 27 u4_14) (τ_14.2.1 28 u4_14) → (τ15.1 35) = 0 := q13_5
          have w3_τ15 : τ15.1 3 = τ_14.1 3 := hf_τ15.1 3 (by decide)
          have w5_τ15 : τ15.1 5 = τ_14.1 5 := hf_τ15.1 5 (by decide)
          have w9_τ15 : τ15.1 9 = τ_14.1 9 := hf_τ15.1 9 (by decide)
          have g8_τ15 : τ15.2.1 8 = τ_14.2.1 8 := hf_τ15.2.1 8 (by decide)
          have g10_τ15 : τ15.2.1 10 = τ_14.2.1 10 := hf_τ15.2.1 10 (by decide)
          have g12_τ15 : τ15.2.1 12 = τ_14.2.1 12 := hf_τ15.2.1 12 (by decide)
          have g13_τ15 : τ15.2.1 13 = τ_14.2.1 13 := hf_τ15.2.1 13 (by decide)
          have g14_τ15 : τ15.2.1 14 = τ_14.2.1 14 := hf_τ15.2.1 14 (by decide)
          have g15_τ15 : τ15.2.1 15 = τ_14.2.1 15 := hf_τ15.2.1 15 (by decide)
          have g16_τ15 : τ15.2.1 16 = τ_14.2.1 16 := hf_τ15.2.1 16 (by decide)
          have g17_τ15 : τ15.2.1 17 = τ_14.2.1 17 := hf_τ15.2.1 17 (by decide)
          have g18_τ15 : τ15.2.1 18 = τ_14.2.1 18 := hf_τ15.2.1 18 (by decide)
          have g19_τ15 : τ15.2.1 19 = τ_14.2.1 19 := hf_τ15.2.1 19 (by decide)
          have g20_τ15 : τ15.2.1 20 = τ_14.2.1 20 := hf_τ15.2.1 20 (by decide)
          have g21_τ15 : τ15.2.1 21 = τ_14.2.1 21 := hf_τ15.2.1 21 (by decide)
          have g22_τ15 : τ15.2.1 22 = τ_14.2.1 22 := hf_τ15.2.1 22 (by decide)
          have g25_τ15 : τ15.2.1 25 = τ_14.2.1 25 := hf_τ15.2.1 25 (by decide)
          have g26_τ15 : τ15.2.1 26 = τ_14.2.1 26 := hf_τ15.2.1 26 (by decide)
          have g27_τ15 : τ15.2.1 27 = τ_14.2.1 27 := hf_τ15.2.1 27 (by decide)
          have g28_τ15 : τ15.2.1 28 = τ_14.2.1 28 := hf_τ15.2.1 28 (by decide)
          have W3 : τ15.1 3 = σ.1 3 := by first | exact w3_τ15.trans W3 | omega
          have W5 : τ15.1 5 = σ.1 5 := by first | exact w5_τ15.trans W5 | omega
          have W9 : τ15.1 9 = σ.1 9 := by first | exact w9_τ15.trans W9 | omega
          have G8 : τ15.2.1 8 = σ.2.1 8 := (g8_τ15).trans G8
          have G10 : τ15.2.1 10 = σ.2.1 10 := (g10_τ15).trans G10
          have G12 : τ15.2.1 12 = σ.2.1 12 := (g12_τ15).trans G12
          have G13 : τ15.2.1 13 = σ.2.1 13 := (g13_τ15).trans G13
          have G14 : τ15.2.1 14 = σ.2.1 14 := (g14_τ15).trans G14
          have G15 : τ15.2.1 15 = σ.2.1 15 := (g15_τ15).trans G15
          have G16 : τ15.2.1 16 = σ.2.1 16 := (g16_τ15).trans G16
          have G17 : τ15.2.1 17 = σ.2.1 17 := (g17_τ15).trans G17
          have G18 : τ15.2.1 18 = σ.2.1 18 := (g18_τ15).trans G18
          have G19 : τ15.2.1 19 = σ.2.1 19 := (g19_τ15).trans G19
          have G20 : τ15.2.1 20 = σ.2.1 20 := (g20_τ15).trans G20
          have G21 : τ15.2.1 21 = σ.2.1 21 := (g21_τ15).trans G21
          have G22 : τ15.2.1 22 = σ.2.1 22 := (g22_τ15).trans G22
          have G25 : τ15.2.1 25 = σ.2.1 25 := (g25_τ15).trans G25
          have G26 : τ15.2.1 26 = σ.2.1 26 := (g26_τ15).trans G26
          have G27 : τ15.2.1 27 = σ.2.1 27 := (g27_τ15).trans G27
          have G28 : τ15.2.1 28 = σ.2.1 28 := (g28_τ15).trans G28
          have PA : J_pa (τ15.2.1 21) (τ15.2.1 22) := by rw [show (J_pa (τ15.2.1 21) (τ15.2.1 22)) = (J_pa (τ_14.2.1 21) (τ_14.2.1 22)) from by rw [g21_τ15, g22_τ15]]; exact PA
          have A8 : ∀ j, 0 ≤ τ15.2.1 8 j ∧ τ15.2.1 8 j ≤ 1 := fun j => hT.2 8 j
          have A10 : ∀ j, (-1) ≤ τ15.2.1 10 j ∧ τ15.2.1 10 j ≤ 999 := fun j => hT.2 10 j
          have A12 : ∀ j, 0 ≤ τ15.2.1 12 j ∧ τ15.2.1 12 j ≤ 1 := fun j => hT.2 12 j
          have A13 : ∀ j, 0 ≤ τ15.2.1 13 j ∧ τ15.2.1 13 j ≤ 4 := fun j => hT.2 13 j
          have A14 : ∀ j, 0 ≤ τ15.2.1 14 j ∧ τ15.2.1 14 j ≤ 30000 := fun j => hT.2 14 j
          have A15 : ∀ j, 0 ≤ τ15.2.1 15 j ∧ τ15.2.1 15 j ≤ 300 := fun j => hT.2 15 j
          have A16 : ∀ j, 0 ≤ τ15.2.1 16 j ∧ τ15.2.1 16 j ≤ 999 := fun j => hT.2 16 j
          have A17 : ∀ j, (-1) ≤ τ15.2.1 17 j ∧ τ15.2.1 17 j ≤ 1499 := fun j => hT.2 17 j
          have A18 : ∀ j, 0 ≤ τ15.2.1 18 j ∧ τ15.2.1 18 j ≤ 90000 := fun j => hT.2 18 j
          have A19 : ∀ j, 0 ≤ τ15.2.1 19 j ∧ τ15.2.1 19 j ≤ 60 := fun j => hT.2 19 j
          have A20 : ∀ j, 0 ≤ τ15.2.1 20 j ∧ τ15.2.1 20 j ≤ 1499 := fun j => hT.2 20 j
          have A21 : ∀ j, 0 ≤ τ15.2.1 21 j ∧ τ15.2.1 21 j ≤ 20000 := fun j => hT.2 21 j
          have A22 : ∀ j, 0 ≤ τ15.2.1 22 j ∧ τ15.2.1 22 j ≤ 20000 := fun j => hT.2 22 j
          have A25 : ∀ j, 0 ≤ τ15.2.1 25 j ∧ τ15.2.1 25 j ≤ 20000 := fun j => hT.2 25 j
          have A26 : ∀ j, 0 ≤ τ15.2.1 26 j ∧ τ15.2.1 26 j ≤ 20000 := fun j => hT.2 26 j
          have A27 : ∀ j, (-300) ≤ τ15.2.1 27 j ∧ τ15.2.1 27 j ≤ 1499 := fun j => hT.2 27 j
          have A28 : ∀ j, 0 ≤ τ15.2.1 28 j ∧ τ15.2.1 28 j ≤ 1 := fun j => hT.2 28 j
          have A40 : ∀ j, 0 ≤ τ15.2.1 40 j ∧ τ15.2.1 40 j ≤ 40000 := fun j => hT.2 40 j
          have A41 : ∀ j, 0 ≤ τ15.2.1 41 j ∧ τ15.2.1 41 j ≤ 1000 := fun j => hT.2 41 j
          have A43 : ∀ j, 0 ≤ τ15.2.1 43 j ∧ τ15.2.1 43 j ≤ 999 := fun j => hT.2 43 j
          have A44 : ∀ j, 0 ≤ τ15.2.1 44 j ∧ τ15.2.1 44 j ≤ 40000 := fun j => hT.2 44 j
          have A45 : ∀ j, 0 ≤ τ15.2.1 45 j ∧ τ15.2.1 45 j ≤ 1000 := fun j => hT.2 45 j
          have A47 : ∀ j, 0 ≤ τ15.2.1 47 j ∧ τ15.2.1 47 j ≤ 999 := fun j => hT.2 47 j
          have v3 : 0 ≤ τ15.1 3 ∧ τ15.1 3 ≤ 1000 := hT.1 3
          have v5 : 0 ≤ τ15.1 5 ∧ τ15.1 5 ≤ 1500 := hT.1 5
          have v9 : 0 ≤ τ15.1 9 ∧ τ15.1 9 ≤ 20000 := hT.1 9
          have v30 : 0 ≤ τ15.1 30 ∧ τ15.1 30 ≤ 200 := hT.1 30
          have v31 : 0 ≤ τ15.1 31 ∧ τ15.1 31 ≤ 40000 := hT.1 31
          have v32 : 0 ≤ τ15.1 32 ∧ τ15.1 32 ≤ 300 := hT.1 32
          have v33 : 0 ≤ τ15.1 33 ∧ τ15.1 33 ≤ 40000 := hT.1 33
          have v35 : 0 ≤ τ15.1 35 ∧ τ15.1 35 ≤ 19 := hT.1 35
          have w35 : τ15.1 35 = 0 := q13_5 rfl i14_5 (n_at_i i14_6 hs0 sT)
          have at15 : n_at (pP (u4_14 + 1)) (pS (u4_14 + 1)) (pN (u4_14 + 1)) (pF (u4_14 + 1)) (pM (u4_14 + 1)) (pG (u4_14 + 1)) τ15 := n_at_n i14_6 hs0 sT (q13_4 i14_5 w35) JW
          refine ⟨(⟨by (first | omega | (simp only [st_s] <;> omega) | assumption | omega | fail), by (first | omega | (simp only [st_s] <;> omega) | assumption | omega | fail)⟩ : rg (u3_14 + 1)), ?_⟩
          refine ⟨fun c17 => ?_, fun c17 => ?_⟩
          ·
            refine ⟨(⟨by (first | omega | (simp only [st_s] <;> omega) | assumption | omega | fail), by (first | omega | (simp only [st_s] <;> omega) | assumption | omega | fail)⟩ : rg (u4_14 + 1)), ?_⟩
            exact ih_14 _ _ _ (show (20001 - (u4_14 + 1) : Int) < ((m_14 : Nat) : Int) from by ((first | omega | (simp only [st_s] <;> omega) | assumption | omega | fail))) hT (show τ15.1 3 = σ.1 3 from by first | exact W3 | omega) (show τ15.1 5 = σ.1 5 from by first | exact W5 | omega) (show τ15.1 9 = σ.1 9 from by first | exact W9 | omega) G8 G10 G12 G13 G14 G15 G16 G17 G18 G19 G20 G21 G22 G25 G26 G27 G28 (show -1 ≤ (u3_14 + 1) from by (first | omega | (simp only [st_s] <;> omega) | assumption | omega | fail)) (show (u3_14 + 1) ≤ n2 from by (first | omega | (simp only [st_s] <;> omega) | assumption | omega | fail)) (show σ.2.1 25 n1 ≤ (u4_14 + 1) from by (first | omega | (simp only [st_s] <;> omega) | assumption | omega | fail)) (show (u4_14 + 1) ≤ σ.2.1 25 n1 + σ.2.1 26 n1 from by (first | omega | (simp only [st_s] <;> omega) | assumption | omega | fail)) (show (τ15.1 35) = 0 from by (first | omega | (simp only [st_s] <;> omega) | assumption | omega | fail)) (show n_at (pP (u4_14 + 1)) (pS (u4_14 + 1)) (pN (u4_14 + 1)) (pF (u4_14 + 1)) (pM (u4_14 + 1)) (pG (u4_14 + 1)) τ15 from by (first | exact n_at_0 (by (rw [e_x5]; first | exact z2 | (rw [g25_τ3]; exact z2))) (by (rw [e_x5]; first | exact z3 | (rw [g25_τ3]; exact z3))) (by omega) (by omega) (by omega) (by omega) | exact at15 | exact i53_6 | fail)) (show (u3_14 + 1) + 1 = n_rn (σ.2.1 25 n1) ((u4_14 + 1) - σ.2.1 25 n1) (σ.2.1 27) from by (first | omega | (rw [n_rn_0 (by omega)]; omega) | (rw [n_rn_0 (by omega)]) | fail)) (show pS (u4_14 + 1) = ca (σ.2.1 28) (u4_14 + 1) - ca (σ.2.1 28) (σ.2.1 25 n1) from by (first | omega | (rw [e_x5]; omega) | (rw [e_x5, g25_τ3]; omega) | fail))
          ·
            exact l_53 ((1001 - 0 : Int).toNat + 1) _ _ _ _ (show (1001 - 0 : Int) < (((1001 - 0 : Int).toNat + 1 : Nat) : Int) from by ((first | omega | (simp only [st_s] <;> omega) | assumption | omega | fail))) hT (show τ15.1 3 = σ.1 3 from by first | exact W3 | omega) (show τ15.1 5 = σ.1 5 from by first | exact W5 | omega) (show τ15.1 9 = σ.1 9 from by first | exact W9 | omega) G8 G10 G12 G13 G14 G15 G16 G17 G18 G19 G20 G21 G22 G25 G26 G27 G28 (show 0 ≤ (u3_14 + 1) from by (first | omega | (simp only [st_s] <;> omega) | assumption | omega | fail)) (show (u3_14 + 1) = n2 from by (first | omega | (simp only [st_s] <;> omega) | assumption | omega | fail)) (show σ.2.1 25 n1 ≤ u4_14 from by (first | omega | (simp only [st_s] <;> omega) | assumption | omega | fail)) (show u4_14 < σ.2.1 25 n1 + σ.2.1 26 n1 from by (first | omega | (simp only [st_s] <;> omega) | assumption | omega | fail)) (show (τ15.1 35) = 0 from by (first | omega | (simp only [st_s] <;> omega) | assumption | omega | fail)) (show n_at (pP (u4_14 + 1)) (pS (u4_14 + 1)) (pN (u4_14 + 1)) (pF (u4_14 + 1)) (pM (u4_14 + 1)) (pG (u4_14 + 1)) τ15 from by (first | exact at15 | exact n_at_h i53_6 hf_τ28 rfl rfl | fail)) (show (u3_14 + 1) + 1 = n_rn (σ.2.1 25 n1) ((u4_14 + 1) - σ.2.1 25 n1) (σ.2.1 27) from by (first | omega | (simp only [st_s] <;> omega) | assumption | omega | fail)) (show pS (u4_14 + 1) = ca (σ.2.1 28) (u4_14 + 1) - ca (σ.2.1 28) (σ.2.1 25 n1) from by (first | omega | (simp only [st_s] <;> omega) | assumption | omega | fail)) (show 0 ≤ 0 ∧ 0 ≤ 1000 from by (first | omega | (simp only [st_s] <;> omega) | assumption | omega | fail)) (show 1 ≤ pP (u4_14 + 1) from by (first | omega | (simp only [st_s] <;> omega) | assumption | omega | fail)) (show u4_14 + (m_14 : Int) ≥ 20001 from by (first | omega | (simp only [st_s] <;> omega) | assumption | omega | fail))
  refine ⟨_, K_X13_beginSteps hT, ?_⟩
  intro τ3 hn_τ3 hf_τ3 hq
  obtain ⟨hT, q1_1, q1_2, q1_3, q1_4, q1_5⟩ := hq
  replace q1_1 : (τ3.1 30) = 0 := q1_1
  replace q1_2 : (τ3.1 31) = 0 := q1_2
  replace q1_3 : (τ3.1 32) = 0 := q1_3
  replace q1_4 : (τ3.1 33) = 0 := q1_4
  replace q1_5 : (τ3.1 35) = 0 := q1_5
  have w3_τ3 : τ3.1 3 = σ.1 3 := hf_τ3.1 3 (by decide)
  have w5_τ3 : τ3.1 5 = σ.1 5 := hf_τ3.1 5 (by decide)
  have w9_τ3 : τ3.1 9 = σ.1 9 := hf_τ3.1 9 (by decide)
  have g8_τ3 : τ3.2.1 8 = σ.2.1 8 := hf_τ3.2.1 8 (by decide)
  have g10_τ3 : τ3.2.1 10 = σ.2.1 10 := hf_τ3.2.1 10 (by decide)
  have g12_τ3 : τ3.2.1 12 = σ.2.1 12 := hf_τ3.2.1 12 (by decide)
  have g13_τ3 : τ3.2.1 13 = σ.2.1 13 := hf_τ3.2.1 13 (by decide)
  have g14_τ3 : τ3.2.1 14 = σ.2.1 14 := hf_τ3.2.1 14 (by decide)
  have g15_τ3 : τ3.2.1 15 = σ.2.1 15 := hf_τ3.2.1 15 (by decide)
  have g16_τ3 : τ3.2.1 16 = σ.2.1 16 := hf_τ3.2.1 16 (by decide)
  have g17_τ3 : τ3.2.1 17 = σ.2.1 17 := hf_τ3.2.1 17 (by decide)
  have g18_τ3 : τ3.2.1 18 = σ.2.1 18 := hf_τ3.2.1 18 (by decide)
  have g19_τ3 : τ3.2.1 19 = σ.2.1 19 := hf_τ3.2.1 19 (by decide)
  have g20_τ3 : τ3.2.1 20 = σ.2.1 20 := hf_τ3.2.1 20 (by decide)
  have g21_τ3 : τ3.2.1 21 = σ.2.1 21 := hf_τ3.2.1 21 (by decide)
  have g22_τ3 : τ3.2.1 22 = σ.2.1 22 := hf_τ3.2.1 22 (by decide)
  have g25_τ3 : τ3.2.1 25 = σ.2.1 25 := hf_τ3.2.1 25 (by decide)
  have g26_τ3 : τ3.2.1 26 = σ.2.1 26 := hf_τ3.2.1 26 (by decide)
  have g27_τ3 : τ3.2.1 27 = σ.2.1 27 := hf_τ3.2.1 27 (by decide)
  have g28_τ3 : τ3.2.1 28 = σ.2.1 28 := hf_τ3.2.1 28 (by decide)
  have g40_τ3 : τ3.2.1 40 = σ.2.1 40 := hf_τ3.2.1 40 (by decide)
  have g41_τ3 : τ3.2.1 41 = σ.2.1 41 := hf_τ3.2.1 41 (by decide)
  have g43_τ3 : τ3.2.1 43 = σ.2.1 43 := hf_τ3.2.1 43 (by decide)
  have g44_τ3 : τ3.2.1 44 = σ.2.1 44 := hf_τ3.2.1 44 (by decide)
  have g45_τ3 : τ3.2.1 45 = σ.2.1 45 := hf_τ3.2.1 45 (by decide)
  have g47_τ3 : τ3.2.1 47 = σ.2.1 47 := hf_τ3.2.1 47 (by decide)
  have W3 : τ3.1 3 = σ.1 3 := by first | exact w3_τ3.trans W3 | omega
  have W5 : τ3.1 5 = σ.1 5 := by first | exact w5_τ3.trans W5 | omega
  have W9 : τ3.1 9 = σ.1 9 := by first | exact w9_τ3.trans W9 | omega
  have G8 : τ3.2.1 8 = σ.2.1 8 := (g8_τ3).trans G8
  have G10 : τ3.2.1 10 = σ.2.1 10 := (g10_τ3).trans G10
  have G12 : τ3.2.1 12 = σ.2.1 12 := (g12_τ3).trans G12
  have G13 : τ3.2.1 13 = σ.2.1 13 := (g13_τ3).trans G13
  have G14 : τ3.2.1 14 = σ.2.1 14 := (g14_τ3).trans G14
  have G15 : τ3.2.1 15 = σ.2.1 15 := (g15_τ3).trans G15
  have G16 : τ3.2.1 16 = σ.2.1 16 := (g16_τ3).trans G16
  have G17 : τ3.2.1 17 = σ.2.1 17 := (g17_τ3).trans G17
  have G18 : τ3.2.1 18 = σ.2.1 18 := (g18_τ3).trans G18
  have G19 : τ3.2.1 19 = σ.2.1 19 := (g19_τ3).trans G19
  have G20 : τ3.2.1 20 = σ.2.1 20 := (g20_τ3).trans G20
  have G21 : τ3.2.1 21 = σ.2.1 21 := (g21_τ3).trans G21
  have G22 : τ3.2.1 22 = σ.2.1 22 := (g22_τ3).trans G22
  have G25 : τ3.2.1 25 = σ.2.1 25 := (g25_τ3).trans G25
  have G26 : τ3.2.1 26 = σ.2.1 26 := (g26_τ3).trans G26
  have G27 : τ3.2.1 27 = σ.2.1 27 := (g27_τ3).trans G27
  have G28 : τ3.2.1 28 = σ.2.1 28 := (g28_τ3).trans G28
  have PA : J_pa (τ3.2.1 21) (τ3.2.1 22) := by rw [show (J_pa (τ3.2.1 21) (τ3.2.1 22)) = (J_pa (σ.2.1 21) (σ.2.1 22)) from by rw [g21_τ3, g22_τ3]]; exact PA
  have A8 : ∀ j, 0 ≤ τ3.2.1 8 j ∧ τ3.2.1 8 j ≤ 1 := fun j => hT.2 8 j
  have A10 : ∀ j, (-1) ≤ τ3.2.1 10 j ∧ τ3.2.1 10 j ≤ 999 := fun j => hT.2 10 j
  have A12 : ∀ j, 0 ≤ τ3.2.1 12 j ∧ τ3.2.1 12 j ≤ 1 := fun j => hT.2 12 j
  have A13 : ∀ j, 0 ≤ τ3.2.1 13 j ∧ τ3.2.1 13 j ≤ 4 := fun j => hT.2 13 j
  have A14 : ∀ j, 0 ≤ τ3.2.1 14 j ∧ τ3.2.1 14 j ≤ 30000 := fun j => hT.2 14 j
  have A15 : ∀ j, 0 ≤ τ3.2.1 15 j ∧ τ3.2.1 15 j ≤ 300 := fun j => hT.2 15 j
  have A16 : ∀ j, 0 ≤ τ3.2.1 16 j ∧ τ3.2.1 16 j ≤ 999 := fun j => hT.2 16 j
  have A17 : ∀ j, (-1) ≤ τ3.2.1 17 j ∧ τ3.2.1 17 j ≤ 1499 := fun j => hT.2 17 j
  have A18 : ∀ j, 0 ≤ τ3.2.1 18 j ∧ τ3.2.1 18 j ≤ 90000 := fun j => hT.2 18 j
  have A19 : ∀ j, 0 ≤ τ3.2.1 19 j ∧ τ3.2.1 19 j ≤ 60 := fun j => hT.2 19 j
  have A20 : ∀ j, 0 ≤ τ3.2.1 20 j ∧ τ3.2.1 20 j ≤ 1499 := fun j => hT.2 20 j
  have A21 : ∀ j, 0 ≤ τ3.2.1 21 j ∧ τ3.2.1 21 j ≤ 20000 := fun j => hT.2 21 j
  have A22 : ∀ j, 0 ≤ τ3.2.1 22 j ∧ τ3.2.1 22 j ≤ 20000 := fun j => hT.2 22 j
  have A25 : ∀ j, 0 ≤ τ3.2.1 25 j ∧ τ3.2.1 25 j ≤ 20000 := fun j => hT.2 25 j
  have A26 : ∀ j, 0 ≤ τ3.2.1 26 j ∧ τ3.2.1 26 j ≤ 20000 := fun j => hT.2 26 j
  have A27 : ∀ j, (-300) ≤ τ3.2.1 27 j ∧ τ3.2.1 27 j ≤ 1499 := fun j => hT.2 27 j
  have A28 : ∀ j, 0 ≤ τ3.2.1 28 j ∧ τ3.2.1 28 j ≤ 1 := fun j => hT.2 28 j
  have A40 : ∀ j, 0 ≤ τ3.2.1 40 j ∧ τ3.2.1 40 j ≤ 40000 := fun j => hT.2 40 j
  have A41 : ∀ j, 0 ≤ τ3.2.1 41 j ∧ τ3.2.1 41 j ≤ 1000 := fun j => hT.2 41 j
  have A43 : ∀ j, 0 ≤ τ3.2.1 43 j ∧ τ3.2.1 43 j ≤ 999 := fun j => hT.2 43 j
  have A44 : ∀ j, 0 ≤ τ3.2.1 44 j ∧ τ3.2.1 44 j ≤ 40000 := fun j => hT.2 44 j
  have A45 : ∀ j, 0 ≤ τ3.2.1 45 j ∧ τ3.2.1 45 j ≤ 1000 := fun j => hT.2 45 j
  have A47 : ∀ j, 0 ≤ τ3.2.1 47 j ∧ τ3.2.1 47 j ≤ 999 := fun j => hT.2 47 j
  have v3 : 0 ≤ τ3.1 3 ∧ τ3.1 3 ≤ 1000 := hT.1 3
  have v5 : 0 ≤ τ3.1 5 ∧ τ3.1 5 ≤ 1500 := hT.1 5
  have v9 : 0 ≤ τ3.1 9 ∧ τ3.1 9 ≤ 20000 := hT.1 9
  have v30 : 0 ≤ τ3.1 30 ∧ τ3.1 30 ≤ 200 := hT.1 30
  have v31 : 0 ≤ τ3.1 31 ∧ τ3.1 31 ≤ 40000 := hT.1 31
  have v32 : 0 ≤ τ3.1 32 ∧ τ3.1 32 ≤ 300 := hT.1 32
  have v33 : 0 ≤ τ3.1 33 ∧ τ3.1 33 ≤ 40000 := hT.1 33
  have v35 : 0 ≤ τ3.1 35 ∧ τ3.1 35 ≤ 19 := hT.1 35
  refine ⟨(show 0 ≤ n1 ∧ n1 < 1501 from by (first | omega | (simp only [st_s] <;> omega) | assumption | omega | fail)), ?_⟩
  intro x5 r_x5 e_x5
  have b_x5 : 0 ≤ x5 ∧ x5 ≤ 20000 := by rw [e_x5]; exact hT.2 25 _
  rw [g25_τ3] at e_x5
  exact l_14 ((20001 - x5 : Int).toNat + 1) _ _ _ (show (20001 - x5 : Int) < (((20001 - x5 : Int).toNat + 1 : Nat) : Int) from by ((first | omega | (simp only [st_s] <;> omega) | assumption | omega | fail))) hT (show τ3.1 3 = σ.1 3 from by first | exact W3 | omega) (show τ3.1 5 = σ.1 5 from by first | exact W5 | omega) (show τ3.1 9 = σ.1 9 from by first | exact W9 | omega) G8 G10 G12 G13 G14 G15 G16 G17 G18 G19 G20 G21 G22 G25 G26 G27 G28 (show -1 ≤ (-1) from by (first | omega | (simp only [st_s] <;> omega) | assumption | omega | fail)) (show (-1) ≤ n2 from by (first | omega | (simp only [st_s] <;> omega) | assumption | omega | fail)) (show σ.2.1 25 n1 ≤ x5 from by (first | omega | (simp only [st_s] <;> omega) | assumption | omega | fail)) (show x5 ≤ σ.2.1 25 n1 + σ.2.1 26 n1 from by (first | omega | (simp only [st_s] <;> omega) | assumption | omega | fail)) (show (τ3.1 35) = 0 from by (first | omega | (simp only [st_s] <;> omega) | assumption | omega | fail)) (show n_at (pP x5) (pS x5) (pN x5) (pF x5) (pM x5) (pG x5) τ3 from by (first | exact n_at_0 (by (rw [e_x5]; first | exact z2 | (rw [g25_τ3]; exact z2))) (by (rw [e_x5]; first | exact z3 | (rw [g25_τ3]; exact z3))) (by omega) (by omega) (by omega) (by omega) | exact at15 | exact i53_6 | fail)) (show (-1) + 1 = n_rn (σ.2.1 25 n1) (x5 - σ.2.1 25 n1) (σ.2.1 27) from by (first | omega | (rw [n_rn_0 (by omega)]; omega) | (rw [n_rn_0 (by omega)]) | fail)) (show pS x5 = ca (σ.2.1 28) x5 - ca (σ.2.1 28) (σ.2.1 25 n1) from by (first | omega | (rw [e_x5]; omega) | (rw [e_x5, g25_τ3]; omega) | fail))
