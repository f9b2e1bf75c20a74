-- pure: steps of a proof
theorem n_pu_c {σ υ τ : S0} {b k n x : Int} (h : n_pu (s_v (s_v υ 31 k) 30 b) τ n x) (ek : k = sm (σ.2.1 41) b) (g40 : υ.2.1 40 = σ.2.1 40) (g41 : υ.2.1 41 = σ.2.1 41) (g43 : υ.2.1 43 = σ.2.1 43) : n_ap σ τ b n x := by
  obtain ⟨h1, h2, h3, h4, h5, h6⟩ := h
  have h1 : τ.1 30 = b + 1 := h1
  have h2 : τ.1 31 = k + n := h2
  have h3 : τ.2.1 40 = st (υ.2.1 40) b k := h3
  have h4 : τ.2.1 41 = st (υ.2.1 41) b n := h4
  have h5 : ∀ j : Int, j < k → τ.2.1 43 j = υ.2.1 43 j := h5
  have h6 : 1 ≤ n → τ.2.1 43 k = x := h6
  rw [ek] at h2 h3 h5 h6
  rw [g40] at h3; rw [g41] at h4; rw [g43] at h5
  exact ⟨h1, h2, h3, h4, h5, h6⟩
def n_cd (σ : S0) (a : Int) : Prop := ∀ k : Int, 0 ≤ k → k < σ.2.1 19 a → σ.2.1 13 (σ.2.1 20 (σ.2.1 18 a + k)) = 0 → 1 ≤ σ.2.1 41 (σ.1 30 - σ.2.1 19 a + k) ∧ n_F2 σ (σ.1 30 - σ.2.1 19 a + k) = σ.2.1 16 (σ.2.1 14 (σ.2.1 20 (σ.2.1 18 a + k)))
def n_bz (σ : S0) (a : Int) (bs : Int → Int) : Prop := n_bs a (σ.1 30 - σ.2.1 19 a) (σ.2.1 13) (σ.2.1 14) (σ.2.1 16) (σ.2.1 18) (σ.2.1 19) (σ.2.1 20) (σ.2.1 41) bs
def n_zz (σ : S0) (a : Int) (bs : Int → Int) : Int := n_sz a (σ.2.1 14) (σ.2.1 15) (σ.2.1 16) (σ.2.1 8) bs
def n_lm (σ : S0) (a n : Int) : Prop := σ.1 30 - σ.2.1 19 a < 200 ∧ n ≤ 1000 ∧ sm (σ.2.1 41) (σ.1 30 - σ.2.1 19 a) + σ.1 33 + n ≤ 40000
/-- what an assertion's step does -/
def n_aA (σ τ : S0) (a : Int) : Prop := σ.2.1 19 a ≤ σ.1 30 ∧ n_cd σ a ∧ ∃ bs : Int → Int, n_bz σ a bs ∧ n_lm σ a (n_zz σ a bs) ∧ 1 ≤ n_zz σ a bs ∧ n_ap σ τ (σ.1 30 - σ.2.1 19 a) (n_zz σ a bs) (σ.2.1 16 (σ.2.1 14 a))
/-- when it goes through, unchecked -/
def n_aB (σ : S0) (a : Int) : Prop := σ.2.1 19 a ≤ σ.1 30 ∧ n_cd σ a ∧ ∃ bs : Int → Int, n_bz σ a bs ∧ n_lm σ a (n_zz σ a bs)
def n_mo (σ τ : S0) (w : Int) : Prop := ∃ b n f : Int, n_mk w (σ.1 30) (σ.1 32) b n f (σ.2.1 13) (σ.2.1 14) (σ.2.1 15) (σ.2.1 16) (σ.2.1 8) (σ.2.1 18) (σ.2.1 19) (σ.2.1 20) (σ.2.1 41) (n_F2 σ) (σ.2.1 45) (n_G2 σ) ∧ (b < 200 ∧ n ≤ 1000 ∧ sm (σ.2.1 41) b + sm (σ.2.1 45) (σ.1 32) + n ≤ 40000) ∧ 1 ≤ n ∧ (0 ≤ b ∧ b ≤ σ.1 30) ∧ n_ap σ τ b n f
def n_mi (σ : S0) (w v : Int) : Prop := ∃ b n f : Int, n_mk w (σ.1 30) (σ.1 32) b n f (σ.2.1 13) (σ.2.1 14) (σ.2.1 15) (σ.2.1 16) (σ.2.1 8) (σ.2.1 18) (σ.2.1 19) (σ.2.1 20) (σ.2.1 41) (n_F2 σ) (σ.2.1 45) (n_G2 σ) ∧ n_ok v b n (σ.1 32) (σ.2.1 41) (σ.2.1 45)
def n_dA (σ τ : S0) (w v : Int) : Prop := (∃ b n f : Int, n_mk w (σ.1 30) (σ.1 32) b n f (σ.2.1 13) (σ.2.1 14) (σ.2.1 15) (σ.2.1 16) (σ.2.1 8) (σ.2.1 18) (σ.2.1 19) (σ.2.1 20) (σ.2.1 41) (n_F2 σ) (σ.2.1 45) (n_G2 σ) ∧ n_ok v b n (σ.1 32) (σ.2.1 41) (σ.2.1 45) ∧ n_nx v b n f (σ.1 32) (τ.1 30) (τ.1 32) (σ.2.1 41) (n_F2 σ) (σ.2.1 45) (n_G2 σ) (τ.2.1 41) (n_F2 τ) (τ.2.1 45) (n_G2 τ)) ∧ n_pw (τ.1 30) (τ.1 31) (τ.2.1 40) (τ.2.1 41) ∧ n_pw (τ.1 32) (τ.1 33) (τ.2.1 44) (τ.2.1 45)
theorem n_dA_0 {σ τ : S0} {w v : Int} (m : n_mo σ τ w) (pw : n_pw (σ.1 30) (σ.1 31) (σ.2.1 40) (σ.2.1 41)) (pw2 : n_pw (σ.1 32) (σ.1 33) (σ.2.1 44) (σ.2.1 45)) (w32 : τ.1 32 = σ.1 32) (w33 : τ.1 33 = σ.1 33) (g44 : τ.2.1 44 = σ.2.1 44) (g45 : τ.2.1 45 = σ.2.1 45) (g47 : τ.2.1 47 = σ.2.1 47) (v0 : v = 0) : n_dA σ τ w v := by
  obtain ⟨b, n, f, m1, ⟨m2, m3, m4⟩, m5, ⟨m6, m7⟩, a1, a2, a3, a4, a5, a6⟩ := m
  obtain ⟨r1, r2, r3, r4⟩ := n_row pw m6 m7 m5 a1 a2 a3 a4 a5 a6
  refine ⟨⟨b, n, f, m1, ⟨m2, m3, m4, fun z => absurd v0 z⟩, a1, r2, r3, r4, fun _ => w32, fun z => absurd v0 z, fun j j0 j1 => ?_⟩, r1, by rw [w32, w33, g44, g45]; exact pw2⟩
  unfold n_G2
  rw [g44, g45, g47]; exact ⟨rfl, rfl⟩
theorem n_dA_1 {σ υ τ : S0} {w v : Int} (m : n_mo σ υ w) (pw : n_pw (σ.1 30) (σ.1 31) (σ.2.1 40) (σ.2.1 41)) (pw2 : n_pw (σ.1 32) (σ.1 33) (σ.2.1 44) (σ.2.1 45)) (w32 : υ.1 32 = σ.1 32) (w33 : υ.1 33 = σ.1 33) (g44 : υ.2.1 44 = σ.2.1 44) (g45 : υ.2.1 45 = σ.2.1 45) (g47 : υ.2.1 47 = σ.2.1 47) (v0 : ¬ v = 0) (c : υ.1 31 + υ.1 33 + υ.2.1 41 (υ.1 30 - 1) ≤ 40000) (s : n_sv υ τ (υ.2.1 41 (υ.1 30 - 1)) (υ.2.1 43 (υ.2.1 40 (υ.1 30 - 1)))) (z30 : τ.1 30 = υ.1 30) (z31 : τ.1 31 = υ.1 31) (h40 : τ.2.1 40 = υ.2.1 40) (h41 : τ.2.1 41 = υ.2.1 41) (h43 : τ.2.1 43 = υ.2.1 43) (s0 : 0 ≤ σ.1 32) : n_dA σ τ w v := by
  obtain ⟨b, n, f, m1, ⟨m2, m3, m4⟩, m5, ⟨m6, m7⟩, a1, a2, a3, a4, a5, a6⟩ := m
  obtain ⟨r1, r2, r3, r4⟩ := n_row pw m6 m7 m5 a1 a2 a3 a4 a5 a6
  have eb : υ.1 30 - 1 = b := by omega
  rw [eb] at c s
  rw [r2] at c s
  rw [r3] at s
  obtain ⟨s1, s2, s3, s4, s5, s6⟩ := s
  rw [w32] at s1 s3 s4
  rw [w33, pw2.1] at s2 s3 s5 s6
  rw [g44] at s3
  rw [g45] at s4
  rw [g47] at s5
  obtain ⟨t1, t2, t3, t4⟩ := n_row (x := f) pw2 s0 (Int.le_refl _) m5 s1 s2 s3 s4 s5 s6
  have p1 := pw2.1
  refine ⟨⟨b, n, f, m1, ⟨m2, m3, m4, fun _ => by omega⟩, by omega, by rw [h41]; exact r2, ?_, fun j j0 j1 => ?_, fun z => absurd z v0, fun _ => ⟨s1, t2, t3⟩, fun j j0 j1 => ?_⟩, by rw [z30, z31, h40, h41]; exact r1, t1⟩
  · show τ.2.1 43 (τ.2.1 40 b) = f
    rw [h43, h40]; exact r3
  · show τ.2.1 41 j = σ.2.1 41 j ∧ τ.2.1 43 (τ.2.1 40 j) = σ.2.1 43 (σ.2.1 40 j)
    rw [h41, h43, h40]; exact r4 j j0 j1
  · exact t4 j j0 j1
theorem n_mo_a {σ τ : S0} {w : Int} (h : n_aA σ τ w) (w0 : 0 ≤ w) (k : 2 ≤ σ.2.1 13 w) (pw2 : n_pw (σ.1 32) (σ.1 33) (σ.2.1 44) (σ.2.1 45)) (h0 : 0 ≤ σ.2.1 19 w) : n_mo σ τ w := by
  obtain ⟨h1, h2, bs, h3, ⟨h4, h5, h6⟩, h7, h8⟩ := h
  have p := pw2.1
  have h6 : sm (σ.2.1 41) (σ.1 30 - σ.2.1 19 w) + σ.1 33 + n_sz w (σ.2.1 14) (σ.2.1 15) (σ.2.1 16) (σ.2.1 8) bs ≤ 40000 := h6
  exact ⟨_, _, _, Or.inr (Or.inr ⟨w0, k, h1, rfl, h2, ⟨bs, h3, rfl⟩, rfl⟩), ⟨h4, h5, by omega⟩, h7, ⟨by omega, by omega⟩, h8⟩
theorem n_mo_h {σ τ : S0} {w : Int} (h : n_pu σ τ (σ.2.1 15 w) (σ.2.1 16 (σ.2.1 14 w))) (c : ¬ σ.1 30 = 200 ∧ σ.2.1 15 w ≤ 1000 ∧ σ.1 31 + σ.1 33 + σ.2.1 15 w ≤ 40000) (w0 : 0 ≤ w) (k : σ.2.1 13 w < 2) (t : 1 ≤ σ.2.1 15 w) (pw : n_pw (σ.1 30) (σ.1 31) (σ.2.1 40) (σ.2.1 41)) (pw2 : n_pw (σ.1 32) (σ.1 33) (σ.2.1 44) (σ.2.1 45)) (h0 : 0 ≤ σ.1 30 ∧ σ.1 30 ≤ 200) : n_mo σ τ w := by
  have p := pw2.1
  have q := pw.1
  exact ⟨_, _, _, Or.inr (Or.inl ⟨w0, k, rfl, rfl, rfl⟩), ⟨by omega, by omega, by omega⟩, t, ⟨by omega, by omega⟩, n_pu_ap h pw⟩
theorem n_mo_s {σ τ : S0} {w : Int} (h : n_pu σ τ (σ.2.1 45 (-1 - w)) (σ.2.1 47 (σ.2.1 44 (-1 - w)))) (c : ¬ σ.1 30 = 200 ∧ σ.2.1 45 (-1 - w) ≤ 1000 ∧ σ.1 31 + σ.1 33 + σ.2.1 45 (-1 - w) ≤ 40000) (w0 : w < 0) (k : -1 - w < σ.1 32) (pw : n_pw (σ.1 30) (σ.1 31) (σ.2.1 40) (σ.2.1 41)) (pw2 : n_pw (σ.1 32) (σ.1 33) (σ.2.1 44) (σ.2.1 45)) (h0 : 0 ≤ σ.1 30 ∧ σ.1 30 ≤ 200) : n_mo σ τ w := by
  have p := pw2.1
  have q := pw.1
  have t := (pw2.2 (-1 - w) (by omega) k).2
  exact ⟨_, _, _, Or.inl ⟨w0, k, rfl, rfl, rfl⟩, ⟨by omega, by omega, by omega⟩, t, ⟨by omega, by omega⟩, n_pu_ap h pw⟩
/-- what a step that goes through wants -/
theorem n_mi_a {σ : S0} {w v : Int} (h : n_mi σ w v) (w0 : 0 ≤ w) (k : 2 ≤ σ.2.1 13 w) (pw2 : n_pw (σ.1 32) (σ.1 33) (σ.2.1 44) (σ.2.1 45)) : n_aB σ w := by
  obtain ⟨b, n, f, m, ok⟩ := h
  have p := pw2.1
  rcases m with m | m | ⟨_, _, m3, m4, m5, ⟨bs, m6, m7⟩, m8⟩
  · omega
  · omega
  · rw [m4] at m5 m6
    obtain ⟨o1, o2, o3, _⟩ := ok
    refine ⟨m3, m5, bs, m6, by omega, ?_, ?_⟩
    · show n_sz w (σ.2.1 14) (σ.2.1 15) (σ.2.1 16) (σ.2.1 8) bs ≤ 1000
      omega
    · show sm (σ.2.1 41) (σ.1 30 - σ.2.1 19 w) + σ.1 33 + n_sz w (σ.2.1 14) (σ.2.1 15) (σ.2.1 16) (σ.2.1 8) bs ≤ 40000
      rw [← m4, ← m7]; omega
theorem n_mi_h {σ : S0} {w v : Int} (h : n_mi σ w v) (w0 : 0 ≤ w) (k : σ.2.1 13 w < 2) (pw : n_pw (σ.1 30) (σ.1 31) (σ.2.1 40) (σ.2.1 41)) (pw2 : n_pw (σ.1 32) (σ.1 33) (σ.2.1 44) (σ.2.1 45)) : ¬ σ.1 30 = 200 ∧ σ.2.1 15 w ≤ 1000 ∧ σ.1 31 + σ.1 33 + σ.2.1 15 w ≤ 40000 := by
  obtain ⟨b, n, f, m, o1, o2, o3, _⟩ := h
  have p := pw2.1
  have q := pw.1
  rcases m with m | ⟨_, _, m3, m4, _⟩ | m
  · omega
  · rw [m3] at o3; omega
  · omega
theorem n_mi_s {σ : S0} {w v : Int} (h : n_mi σ w v) (w0 : w < 0) (pw : n_pw (σ.1 30) (σ.1 31) (σ.2.1 40) (σ.2.1 41)) (pw2 : n_pw (σ.1 32) (σ.1 33) (σ.2.1 44) (σ.2.1 45)) : ¬ σ.1 30 = 200 ∧ σ.2.1 45 (-1 - w) ≤ 1000 ∧ σ.1 31 + σ.1 33 + σ.2.1 45 (-1 - w) ≤ 40000 := by
  obtain ⟨b, n, f, m, o1, o2, o3, _⟩ := h
  have p := pw2.1
  have q := pw.1
  rcases m with ⟨_, _, m3, m4, _⟩ | m | m
  · rw [m3] at o3; omega
  · omega
  · omega
/-- what saves its row wants -/
theorem n_mi_v {σ υ : S0} {w v : Int} (h : n_mi σ w v) (m : n_mo σ υ w) (pw : n_pw (σ.1 30) (σ.1 31) (σ.2.1 40) (σ.2.1 41)) (pw2 : n_pw (σ.1 32) (σ.1 33) (σ.2.1 44) (σ.2.1 45)) (w33 : υ.1 33 = σ.1 33) (v0 : ¬ v = 0) (un : 0 ≤ w → 2 ≤ σ.2.1 13 w → n_A w (σ.1 3) (σ.2.1 8) (σ.2.1 10) (σ.2.1 12) (σ.2.1 13) (σ.2.1 14) (σ.2.1 15) (σ.2.1 16) (σ.2.1 17) ∧ n_B w (σ.2.1 8) (σ.2.1 13) (σ.2.1 14) (σ.2.1 15) (σ.2.1 16) (σ.2.1 17) (σ.2.1 18) (σ.2.1 19) (σ.2.1 20)) : υ.1 31 + υ.1 33 + υ.2.1 41 (υ.1 30 - 1) ≤ 40000 := by
  obtain ⟨b, n, f, m1, o1, o2, o3, o4⟩ := h
  obtain ⟨b', n', f', m1', ⟨m2, m3, m4⟩, m5, ⟨m6, m7⟩, a1, a2, a3, a4, a5, a6⟩ := m
  have p := pw2.1
  have e : b' = b ∧ n' = n := by
    rcases m1 with x | x | ⟨x1, x2, x3, x4, x5, ⟨bs, x6, x7⟩, x8⟩
    · rcases m1' with y | y | y
      · omega
      · omega
      · omega
    · rcases m1' with y | y | y
      · omega
      · omega
      · omega
    · rcases m1' with y | y | ⟨y1, y2, y3, y4, y5, ⟨bs', y6, y7⟩, y8⟩
      · omega
      · omega
      · obtain ⟨hA, hB⟩ := un x1 x2
        refine ⟨by omega, ?_⟩
        rw [y4, ← x4] at y6
        rw [x7, y7]
        exact n_sz_u hA hB y6 x6
  obtain ⟨r1, r2, r3, r4⟩ := n_row pw m6 m7 m5 a1 a2 a3 a4 a5 a6
  rw [show υ.1 30 - 1 = b' by omega, r2, a2, e.1, e.2]
  have := o4 v0
  omega
set_option maxHeartbeats 8000000 in
theorem K3_X13_applyStep {n1 : Int} {n2 : Int} {n3 : Int} {σ : S0} (hT : m_T σ) (p1 : 0 ≤ n1) (p2 : n1 < 1500) (p3 : 0 ≤ n2) (p4 : n2 ≤ 20000) (p5 : 0 ≤ n3) (p6 : n3 ≤ 1) (p7 : σ.2.1 21 n1 + σ.2.1 22 n1 ≤ 20000) (p8 : n_pw (σ.1 30) (σ.1 31) (σ.2.1 40) (σ.2.1 41)) (p9 : n_A n1 (σ.1 3) (σ.2.1 8) (σ.2.1 10) (σ.2.1 12) (σ.2.1 13) (σ.2.1 14) (σ.2.1 15) (σ.2.1 16) (σ.2.1 17)) (p10 : n_B n1 (σ.2.1 8) (σ.2.1 13) (σ.2.1 14) (σ.2.1 15) (σ.2.1 16) (σ.2.1 17) (σ.2.1 18) (σ.2.1 19) (σ.2.1 20)) : W_X13_applyStep n1 n2 n3 σ (fun (τ : S0) => (m_T τ) ∧ ((σ.1 35) = 0 → (τ.1 35) = 0 → 1 ≤ (τ.1 30)) ∧ (¬ (σ.1 35) = 0 → (τ.1 35) = (σ.1 35)) ∧ ((σ.1 35) = 0 → (τ.1 35) = 0 → n_aA σ τ n1) ∧ (n3 = 0 → (σ.1 35) = 0 → n_aB σ n1 → (τ.1 35) = 0)) := by
  have A8 : ∀ j, 0 ≤ σ.2.1 8 j ∧ σ.2.1 8 j ≤ 1 := fun j => hT.2 8 j
  have A13 : ∀ j, 0 ≤ σ.2.1 13 j ∧ σ.2.1 13 j ≤ 4 := fun j => hT.2 13 j
  have A14 : ∀ j, 0 ≤ σ.2.1 14 j ∧ σ.2.1 14 j ≤ 30000 := fun j => hT.2 14 j
  have A15 : ∀ j, 0 ≤ σ.2.1 15 j ∧ σ.2.1 15 j ≤ 300 := fun j => hT.2 15 j
  have A16 : ∀ j, 0 ≤ σ.2.1 16 j ∧ σ.2.1 16 j ≤ 999 := fun j => hT.2 16 j
  have A17 : ∀ j, (-1) ≤ σ.2.1 17 j ∧ σ.2.1 17 j ≤ 1499 := fun j => hT.2 17 j
  have A18 : ∀ j, 0 ≤ σ.2.1 18 j ∧ σ.2.1 18 j ≤ 90000 := fun j => hT.2 18 j
  have A19 : ∀ j, 0 ≤ σ.2.1 19 j ∧ σ.2.1 19 j ≤ 60 := fun j => hT.2 19 j
  have A20 : ∀ j, 0 ≤ σ.2.1 20 j ∧ σ.2.1 20 j ≤ 1499 := fun j => hT.2 20 j
  have A21 : ∀ j, 0 ≤ σ.2.1 21 j ∧ σ.2.1 21 j ≤ 20000 := fun j => hT.2 21 j
  have A22 : ∀ j, 0 ≤ σ.2.1 22 j ∧ σ.2.1 22 j ≤ 20000 := fun j => hT.2 22 j
  have A40 : ∀ j, 0 ≤ σ.2.1 40 j ∧ σ.2.1 40 j ≤ 40000 := fun j => hT.2 40 j
  have A41 : ∀ j, 0 ≤ σ.2.1 41 j ∧ σ.2.1 41 j ≤ 1000 := fun j => hT.2 41 j
  have A43 : ∀ j, 0 ≤ σ.2.1 43 j ∧ σ.2.1 43 j ≤ 999 := fun j => hT.2 43 j
  have A48 : ∀ j, 0 ≤ σ.2.1 48 j ∧ σ.2.1 48 j ≤ 40001 := fun j => hT.2 48 j
  have A49 : ∀ j, 0 ≤ σ.2.1 49 j ∧ σ.2.1 49 j ≤ 1000 := fun j => hT.2 49 j
  have A50 : ∀ j, 0 ≤ σ.2.1 50 j ∧ σ.2.1 50 j ≤ 999 := fun j => hT.2 50 j
  have v3 : 0 ≤ σ.1 3 ∧ σ.1 3 ≤ 1000 := hT.1 3
  have v30 : 0 ≤ σ.1 30 ∧ σ.1 30 ≤ 200 := hT.1 30
  have v31 : 0 ≤ σ.1 31 ∧ σ.1 31 ≤ 40000 := hT.1 31
  have v33 : 0 ≤ σ.1 33 ∧ σ.1 33 ≤ 40000 := hT.1 33
  have v34 : 0 ≤ σ.1 34 ∧ σ.1 34 ≤ 1001 := hT.1 34
  have v35 : 0 ≤ σ.1 35 ∧ σ.1 35 ≤ 19 := hT.1 35
  have W3 : σ.1 3 = σ.1 3 := rfl
  have W33 : σ.1 33 = σ.1 33 := rfl
  have G8 : σ.2.1 8 = σ.2.1 8 := rfl
  have G13 : σ.2.1 13 = σ.2.1 13 := rfl
  have G14 : σ.2.1 14 = σ.2.1 14 := rfl
  have G15 : σ.2.1 15 = σ.2.1 15 := rfl
  have G16 : σ.2.1 16 = σ.2.1 16 := rfl
  have G17 : σ.2.1 17 = σ.2.1 17 := rfl
  have G18 : σ.2.1 18 = σ.2.1 18 := rfl
  have G19 : σ.2.1 19 = σ.2.1 19 := rfl
  have G20 : σ.2.1 20 = σ.2.1 20 := rfl
  have G21 : σ.2.1 21 = σ.2.1 21 := rfl
  have G22 : σ.2.1 22 = σ.2.1 22 := rfl
  intro P36 P117 P202 P294 P350 P375 h36 h117 h202 h294 h350 h375
  have l_294 : ∀ (m_294 : Nat) (u4_294 : Int) (u5_294 : Int) (u6_294 : Int) (τ_294 : S0), 20002 - u6_294 < (m_294 : Int) → (m_T τ_294) → (τ_294.1 3 = σ.1 3) → (τ_294.1 33 = σ.1 33) → (τ_294.2.1 8 = σ.2.1 8) → (τ_294.2.1 13 = σ.2.1 13) → (τ_294.2.1 14 = σ.2.1 14) → (τ_294.2.1 15 = σ.2.1 15) → (τ_294.2.1 16 = σ.2.1 16) → (τ_294.2.1 17 = σ.2.1 17) → (τ_294.2.1 18 = σ.2.1 18) → (τ_294.2.1 19 = σ.2.1 19) → (τ_294.2.1 20 = σ.2.1 20) → (τ_294.2.1 21 = σ.2.1 21) → (τ_294.2.1 22 = σ.2.1 22) → (0 ≤ u4_294) → (u4_294 ≤ 60) → (0 ≤ u5_294) → (u5_294 + u4_294 ≤ 200) → (0 ≤ u6_294) → ((τ_294.1 35) = (σ.1 35)) → (u6_294 ≤ 20001) → (u4_294 = σ.2.1 19 n1 ∧ u5_294 = (σ.1 30) - σ.2.1 19 n1) → (n_fl2 n1 u5_294 u4_294 (σ.2.1 13) (σ.2.1 14) (σ.2.1 16) (σ.2.1 18) (σ.2.1 20) (σ.2.1 41) (n_F2 σ) (τ_294.2.1 49)) → (τ_294.2.1 40 = σ.2.1 40 ∧ τ_294.2.1 41 = σ.2.1 41 ∧ τ_294.2.1 43 = σ.2.1 43) → ((τ_294.1 30) = (σ.1 30) ∧ (τ_294.1 31) = (σ.1 31)) → P294 n1 n2 n3 u4_294 u5_294 u6_294 τ_294 := by
    intro m_294
    induction m_294 with
    | zero =>
      intro u4_294 u5_294 u6_294 τ_294 hm hT W3 W33 G8 G13 G14 G15 G16 G17 G18 G19 G20 G21 G22 i294_1 i294_2 i294_3 i294_4 i294_5 i294_6 i294_7 i294_8 i294_9 i294_10 i294_11
      have A8 : ∀ j, 0 ≤ τ_294.2.1 8 j ∧ τ_294.2.1 8 j ≤ 1 := fun j => hT.2 8 j
      have A13 : ∀ j, 0 ≤ τ_294.2.1 13 j ∧ τ_294.2.1 13 j ≤ 4 := fun j => hT.2 13 j
      have A14 : ∀ j, 0 ≤ τ_294.2.1 14 j ∧ τ_294.2.1 14 j ≤ 30000 := fun j => hT.2 14 j
      have A15 : ∀ j, 0 ≤ τ_294.2.1 15 j ∧ τ_294.2.1 15 j ≤ 300 := fun j => hT.2 15 j
      have A16 : ∀ j, 0 ≤ τ_294.2.1 16 j ∧ τ_294.2.1 16 j ≤ 999 := fun j => hT.2 16 j
      have A17 : ∀ j, (-1) ≤ τ_294.2.1 17 j ∧ τ_294.2.1 17 j ≤ 1499 := fun j => hT.2 17 j
      have A18 : ∀ j, 0 ≤ τ_294.2.1 18 j ∧ τ_294.2.1 18 j ≤ 90000 := fun j => hT.2 18 j
      have A19 : ∀ j, 0 ≤ τ_294.2.1 19 j ∧ τ_294.2.1 19 j ≤ 60 := fun j => hT.2 19 j
      have A20 : ∀ j, 0 ≤ τ_294.2.1 20 j ∧ τ_294.2.1 20 j ≤ 1499 := fun j => hT.2 20 j
      have A21 : ∀ j, 0 ≤ τ_294.2.1 21 j ∧ τ_294.2.1 21 j ≤ 20000 := fun j => hT.2 21 j
      have A22 : ∀ j, 0 ≤ τ_294.2.1 22 j ∧ τ_294.2.1 22 j ≤ 20000 := fun j => hT.2 22 j
      have A40 : ∀ j, 0 ≤ τ_294.2.1 40 j ∧ τ_294.2.1 40 j ≤ 40000 := fun j => hT.2 40 j
      have A41 : ∀ j, 0 ≤ τ_294.2.1 41 j ∧ τ_294.2.1 41 j ≤ 1000 := fun j => hT.2 41 j
      have A43 : ∀ j, 0 ≤ τ_294.2.1 43 j ∧ τ_294.2.1 43 j ≤ 999 := fun j => hT.2 43 j
      have A48 : ∀ j, 0 ≤ τ_294.2.1 48 j ∧ τ_294.2.1 48 j ≤ 40001 := fun j => hT.2 48 j
      have A49 : ∀ j, 0 ≤ τ_294.2.1 49 j ∧ τ_294.2.1 49 j ≤ 1000 := fun j => hT.2 49 j
      have A50 : ∀ j, 0 ≤ τ_294.2.1 50 j ∧ τ_294.2.1 50 j ≤ 999 := fun j => hT.2 50 j
      have v3 : 0 ≤ τ_294.1 3 ∧ τ_294.1 3 ≤ 1000 := hT.1 3
      have v30 : 0 ≤ τ_294.1 30 ∧ τ_294.1 30 ≤ 200 := hT.1 30
      have v31 : 0 ≤ τ_294.1 31 ∧ τ_294.1 31 ≤ 40000 := hT.1 31
      have v33 : 0 ≤ τ_294.1 33 ∧ τ_294.1 33 ≤ 40000 := hT.1 33
      have v34 : 0 ≤ τ_294.1 34 ∧ τ_294.1 34 ≤ 1001 := hT.1 34
      have v35 : 0 ≤ τ_294.1 35 ∧ τ_294.1 35 ≤ 19 := hT.1 35
      exfalso; (first | omega | (simp only [st_s] <;> omega) | assumption | omega | fail)
    | succ m_294 ih_294 =>
      intro u4_294 u5_294 u6_294 τ_294 hm_294 hT W3 W33 G8 G13 G14 G15 G16 G17 G18 G19 G20 G21 G22 i294_1 i294_2 i294_3 i294_4 i294_5 i294_6 i294_7 i294_8 i294_9 i294_10 i294_11
      have A8 : ∀ j, 0 ≤ τ_294.2.1 8 j ∧ τ_294.2.1 8 j ≤ 1 := fun j => hT.2 8 j
      have A13 : ∀ j, 0 ≤ τ_294.2.1 13 j ∧ τ_294.2.1 13 j ≤ 4 := fun j => hT.2 13 j
      have A14 : ∀ j, 0 ≤ τ_294.2.1 14 j ∧ τ_294.2.1 14 j ≤ 30000 := fun j => hT.2 14 j
      have A15 : ∀ j, 0 ≤ τ_294.2.1 15 j ∧ τ_294.2.1 15 j ≤ 300 := fun j => hT.2 15 j
      have A16 : ∀ j, 0 ≤ τ_294.2.1 16 j ∧ τ_294.2.1 16 j ≤ 999 := fun j => hT.2 16 j
      have A17 : ∀ j, (-1) ≤ τ_294.2.1 17 j ∧ τ_294.2.1 17 j ≤ 1499 := fun j => hT.2 17 j
      have A18 : ∀ j, 0 ≤ τ_294.2.1 18 j ∧ τ_294.2.1 18 j ≤ 90000 := fun j => hT.2 18 j
      have A19 : ∀ j, 0 ≤ τ_294.2.1 19 j ∧ τ_294.2.1 19 j ≤ 60 := fun j => hT.2 19 j
      have A20 : ∀ j, 0 ≤ τ_294.2.1 20 j ∧ τ_294.2.1 20 j ≤ 1499 := fun j => hT.2 20 j
      have A21 : ∀ j, 0 ≤ τ_294.2.1 21 j ∧ τ_294.2.1 21 j ≤ 20000 := fun j => hT.2 21 j
      have A22 : ∀ j, 0 ≤ τ_294.2.1 22 j ∧ τ_294.2.1 22 j ≤ 20000 := fun j => hT.2 22 j
      have A40 : ∀ j, 0 ≤ τ_294.2.1 40 j ∧ τ_294.2.1 40 j ≤ 40000 := fun j => hT.2 40 j
      have A41 : ∀ j, 0 ≤ τ_294.2.1 41 j ∧ τ_294.2.1 41 j ≤ 1000 := fun j => hT.2 41 j
      have A43 : ∀ j, 0 ≤ τ_294.2.1 43 j ∧ τ_294.2.1 43 j ≤ 999 := fun j => hT.2 43 j
      have A48 : ∀ j, 0 ≤ τ_294.2.1 48 j ∧ τ_294.2.1 48 j ≤ 40001 := fun j => hT.2 48 j
      have A49 : ∀ j, 0 ≤ τ_294.2.1 49 j ∧ τ_294.2.1 49 j ≤ 1000 := fun j => hT.2 49 j
      have A50 : ∀ j, 0 ≤ τ_294.2.1 50 j ∧ τ_294.2.1 50 j ≤ 999 := fun j => hT.2 50 j
      have v3 : 0 ≤ τ_294.1 3 ∧ τ_294.1 3 ≤ 1000 := hT.1 3
      have v30 : 0 ≤ τ_294.1 30 ∧ τ_294.1 30 ≤ 200 := hT.1 30
      have v31 : 0 ≤ τ_294.1 31 ∧ τ_294.1 31 ≤ 40000 := hT.1 31
      have v33 : 0 ≤ τ_294.1 33 ∧ τ_294.1 33 ≤ 40000 := hT.1 33
      have v34 : 0 ≤ τ_294.1 34 ∧ τ_294.1 34 ≤ 1001 := hT.1 34
      have v35 : 0 ≤ τ_294.1 35 ∧ τ_294.1 35 ≤ 19 := hT.1 35
      have hT294 := hT
      refine h294 n1 n2 n3 u4_294 u5_294 u6_294 τ_294 ?_
      refine ⟨(show 0 ≤ n1 ∧ n1 < 1501 from by (first | omega | (simp only [st_s] <;> omega) | assumption | omega | fail)), ?_⟩
      intro x75 r_x75 e_x75
      have b_x75 : 0 ≤ x75 ∧ x75 ≤ 20000 := by rw [e_x75]; exact hT.2 21 _
      intro x76 r_x76 e_x76
      have b_x76 : 0 ≤ x76 ∧ x76 ≤ 20000 := by rw [e_x76]; exact hT.2 22 _
      refine ⟨(⟨by (first | omega | (simp only [st_s] <;> omega) | assumption | omega | fail), by (first | omega | (simp only [st_s] <;> omega) | assumption | omega | fail)⟩ : rg (x75 + x76)), ?_⟩
      refine ⟨fun c78 => ?_, fun c78 => ?_⟩
      ·
        refine h350 _ _ _ _ _ ?_
        have oo8 := G8
        have oo14 := G14
        have oo15 := G15
        have oo16 := G16
        refine ⟨_, K3_X13_replace hT (show 0 ≤ n1 from by (first | omega | (simp only [st_s] <;> omega) | assumption | omega | fail)) (show n1 < 1500 from by (first | omega | (simp only [st_s] <;> omega) | assumption | omega | fail)), ?_⟩
        intro τ93 hn_τ93 hf_τ93 hq
        obtain ⟨hT, q91_1, q91_2, q91_3⟩ := hq
        replace q91_1 : 0 ≤ (τ93.1 34) := q91_1
        replace q91_2 : (((τ93.1 34) = n_sz n1 (τ_294.2.1 14) (τ_294.2.1 15) (τ_294.2.1 16) (τ_294.2.1 8) (τ_294.2.1 49) ∧ (τ93.1 34) ≤ 1001) ∨ ((τ93.1 34) = 1001 ∧ 1001 ≤ n_sz n1 (τ_294.2.1 14) (τ_294.2.1 15) (τ_294.2.1 16) (τ_294.2.1 8) (τ_294.2.1 49))) := q91_2
        replace q91_3 : 1 ≤ τ_294.2.1 15 n1 → τ_294.2.1 8 (τ_294.2.1 16 (τ_294.2.1 14 n1)) = 0 → τ93.2.1 50 0 = τ_294.2.1 16 (τ_294.2.1 14 n1) ∧ 1 ≤ (τ93.1 34) := q91_3
        have w3_τ93 : τ93.1 3 = τ_294.1 3 := hf_τ93.1 3 (by decide)
        have w30_τ93 : τ93.1 30 = τ_294.1 30 := hf_τ93.1 30 (by decide)
        have w31_τ93 : τ93.1 31 = τ_294.1 31 := hf_τ93.1 31 (by decide)
        have w33_τ93 : τ93.1 33 = τ_294.1 33 := hf_τ93.1 33 (by decide)
        have w35_τ93 : τ93.1 35 = τ_294.1 35 := hf_τ93.1 35 (by decide)
        have g8_τ93 : τ93.2.1 8 = τ_294.2.1 8 := hf_τ93.2.1 8 (by decide)
        have g13_τ93 : τ93.2.1 13 = τ_294.2.1 13 := hf_τ93.2.1 13 (by decide)
        have g14_τ93 : τ93.2.1 14 = τ_294.2.1 14 := hf_τ93.2.1 14 (by decide)
        have g15_τ93 : τ93.2.1 15 = τ_294.2.1 15 := hf_τ93.2.1 15 (by decide)
        have g16_τ93 : τ93.2.1 16 = τ_294.2.1 16 := hf_τ93.2.1 16 (by decide)
        have g17_τ93 : τ93.2.1 17 = τ_294.2.1 17 := hf_τ93.2.1 17 (by decide)
        have g18_τ93 : τ93.2.1 18 = τ_294.2.1 18 := hf_τ93.2.1 18 (by decide)
        have g19_τ93 : τ93.2.1 19 = τ_294.2.1 19 := hf_τ93.2.1 19 (by decide)
        have g20_τ93 : τ93.2.1 20 = τ_294.2.1 20 := hf_τ93.2.1 20 (by decide)
        have g21_τ93 : τ93.2.1 21 = τ_294.2.1 21 := hf_τ93.2.1 21 (by decide)
        have g22_τ93 : τ93.2.1 22 = τ_294.2.1 22 := hf_τ93.2.1 22 (by decide)
        have g40_τ93 : τ93.2.1 40 = τ_294.2.1 40 := hf_τ93.2.1 40 (by decide)
        have g41_τ93 : τ93.2.1 41 = τ_294.2.1 41 := hf_τ93.2.1 41 (by decide)
        have g43_τ93 : τ93.2.1 43 = τ_294.2.1 43 := hf_τ93.2.1 43 (by decide)
        have g48_τ93 : τ93.2.1 48 = τ_294.2.1 48 := hf_τ93.2.1 48 (by decide)
        have g49_τ93 : τ93.2.1 49 = τ_294.2.1 49 := hf_τ93.2.1 49 (by decide)
        have W3 : τ93.1 3 = σ.1 3 := by first | exact w3_τ93.trans W3 | omega
        have W33 : τ93.1 33 = σ.1 33 := by first | exact w33_τ93.trans W33 | omega
        have G8 : τ93.2.1 8 = σ.2.1 8 := (g8_τ93).trans G8
        have G13 : τ93.2.1 13 = σ.2.1 13 := (g13_τ93).trans G13
        have G14 : τ93.2.1 14 = σ.2.1 14 := (g14_τ93).trans G14
        have G15 : τ93.2.1 15 = σ.2.1 15 := (g15_τ93).trans G15
        have G16 : τ93.2.1 16 = σ.2.1 16 := (g16_τ93).trans G16
        have G17 : τ93.2.1 17 = σ.2.1 17 := (g17_τ93).trans G17
        have G18 : τ93.2.1 18 = σ.2.1 18 := (g18_τ93).trans G18
        have G19 : τ93.2.1 19 = σ.2.1 19 := (g19_τ93).trans G19
        have G20 : τ93.2.1 20 = σ.2.1 20 := (g20_τ93).trans G20
        have G21 : τ93.2.1 21 = σ.2.1 21 := (g21_τ93).trans G21
        have G22 : τ93.2.1 22 = σ.2.1 22 := (g22_τ93).trans G22
        have A8 : ∀ j, 0 ≤ τ93.2.1 8 j ∧ τ93.2.1 8 j ≤ 1 := fun j => hT.2 8 j
        have A13 : ∀ j, 0 ≤ τ93.2.1 13 j ∧ τ93.2.1 13 j ≤ 4 := fun j => hT.2 13 j
        have A14 : ∀ j, 0 ≤ τ93.2.1 14 j ∧ τ93.2.1 14 j ≤ 30000 := fun j => hT.2 14 j
        have A15 : ∀ j, 0 ≤ τ93.2.1 15 j ∧ τ93.2.1 15 j ≤ 300 := fun j => hT.2 15 j
        have A16 : ∀ j, 0 ≤ τ93.2.1 16 j ∧ τ93.2.1 16 j ≤ 999 := fun j => hT.2 16 j
        have A17 : ∀ j, (-1) ≤ τ93.2.1 17 j ∧ τ93.2.1 17 j ≤ 1499 := fun j => hT.2 17 j
        have A18 : ∀ j, 0 ≤ τ93.2.1 18 j ∧ τ93.2.1 18 j ≤ 90000 := fun j => hT.2 18 j
        have A19 : ∀ j, 0 ≤ τ93.2.1 19 j ∧ τ93.2.1 19 j ≤ 60 := fun j => hT.2 19 j
        have A20 : ∀ j, 0 ≤ τ93.2.1 20 j ∧ τ93.2.1 20 j ≤ 1499 := fun j => hT.2 20 j
        have A21 : ∀ j, 0 ≤ τ93.2.1 21 j ∧ τ93.2.1 21 j ≤ 20000 := fun j => hT.2 21 j
        have A22 : ∀ j, 0 ≤ τ93.2.1 22 j ∧ τ93.2.1 22 j ≤ 20000 := fun j => hT.2 22 j
        have A40 : ∀ j, 0 ≤ τ93.2.1 40 j ∧ τ93.2.1 40 j ≤ 40000 := fun j => hT.2 40 j
        have A41 : ∀ j, 0 ≤ τ93.2.1 41 j ∧ τ93.2.1 41 j ≤ 1000 := fun j => hT.2 41 j
        have A43 : ∀ j, 0 ≤ τ93.2.1 43 j ∧ τ93.2.1 43 j ≤ 999 := fun j => hT.2 43 j
        have A48 : ∀ j, 0 ≤ τ93.2.1 48 j ∧ τ93.2.1 48 j ≤ 40001 := fun j => hT.2 48 j
        have A49 : ∀ j, 0 ≤ τ93.2.1 49 j ∧ τ93.2.1 49 j ≤ 1000 := fun j => hT.2 49 j
        have A50 : ∀ j, 0 ≤ τ93.2.1 50 j ∧ τ93.2.1 50 j ≤ 999 := fun j => hT.2 50 j
        have v3 : 0 ≤ τ93.1 3 ∧ τ93.1 3 ≤ 1000 := hT.1 3
        have v30 : 0 ≤ τ93.1 30 ∧ τ93.1 30 ≤ 200 := hT.1 30
        have v31 : 0 ≤ τ93.1 31 ∧ τ93.1 31 ≤ 40000 := hT.1 31
        have v33 : 0 ≤ τ93.1 33 ∧ τ93.1 33 ≤ 40000 := hT.1 33
        have v34 : 0 ≤ τ93.1 34 ∧ τ93.1 34 ≤ 1001 := hT.1 34
        have v35 : 0 ≤ τ93.1 35 ∧ τ93.1 35 ≤ 19 := hT.1 35
        have ts1 := p9.1.1
        have q2b := q91_2
        have q3b := q91_3
        rw [oo8, oo14, oo15, oo16] at q2b
        rw [oo8, oo14, oo15, oo16] at q3b
        have q3c := q3b (by omega) p9.1.2.2.1
        have bz : n_bz σ n1 (τ_294.2.1 49) := (by have w := i294_9; rw [i294_8.1] at w; have v := n_fl2_b w; rw [i294_8.2] at v; exact v)
        have nz : 1 ≤ n_zz σ n1 (τ_294.2.1 49) := n_sz_1 p9 (fun v => (hT294.2 49 v).1)
        have q2c : (τ93.1 34 = n_zz σ n1 (τ_294.2.1 49) ∧ τ93.1 34 ≤ 1001) ∨ (τ93.1 34 = 1001 ∧ 1001 ≤ n_zz σ n1 (τ_294.2.1 49)) := q2b
        refine ⟨fun c94 => ?_, fun c94 => ?_⟩
        ·
          refine ⟨(show 0 ≤ u5_294 ∧ u5_294 < 202 from by (first | omega | (simp only [st_s] <;> omega) | assumption | omega | fail)), ?_⟩
          intro x96 r_x96 e_x96
          have b_x96 : 0 ≤ x96 ∧ x96 ≤ 40000 := by rw [e_x96]; exact hT.2 40 _
          refine h375 _ _ _ _ ?_
          replace hT := mT_v (i := 31) hT (show 0 ≤ x96 ∧ x96 ≤ 40000 from by (first | omega | (simp only [st_s] <;> omega) | assumption | omega | fail))
          replace hT := mT_v (i := 30) hT (show 0 ≤ u5_294 ∧ u5_294 ≤ 200 from by (first | omega | (simp only [st_s] <;> omega) | assumption | omega | fail))
          have ek : x96 = sm (σ.2.1 41) u5_294 := by first | (rw [e_x96, g40_τ93, i294_10.1]; exact (p8.2 u5_294 (by omega) (by omega)).1) | (rw [show u5_294 = σ.1 30 from by omega, ← p8.1]; omega)
          refine ⟨_, K3_X13_pushRow_q53 hT (show 0 ≤ (0 : Int) from by (first | omega | (simp only [st_s] <;> omega) | assumption | omega | fail)) (show (0 : Int) ≤ 0 from by (first | omega | (simp only [st_s] <;> omega) | assumption | omega | fail)) (show 0 ≤ (τ93.1 34) from by (first | omega | (simp only [st_s] <;> omega) | assumption | omega | fail)) (show 0 ≤ n2 from by (first | omega | (simp only [st_s] <;> omega) | assumption | omega | fail)) (show n2 ≤ 20000 from by (first | omega | (simp only [st_s] <;> omega) | assumption | omega | fail)) (show (τ93.1 34) ≤ 1001 from by (first | omega | (simp only [st_s] <;> omega) | assumption | omega | fail)), ?_⟩
          intro τ99 hn_τ99 hf_τ99 hq
          obtain ⟨hT, q97_1, q97_2, q97_3, q97_4⟩ := hq
          replace q97_1 : (τ93.1 35) = 0 → (τ99.1 35) = 0 → (τ99.1 30) = (u5_294) + 1 ∧ 1 ≤ (τ99.1 30) := q97_1
          replace q97_2 : ¬ (τ93.1 35) = 0 → (τ99.1 35) = (τ93.1 35) := q97_2
          replace q97_3 : (τ93.1 35) = 0 → (τ99.1 35) = 0 → (¬ (u5_294) = 200 ∧ (τ93.1 34) ≤ 1000 ∧ (x96) + (τ93.1 33) + (τ93.1 34) ≤ 40000) ∧ n_pu (s_v (s_v τ93 31 x96) 30 u5_294) τ99 (τ93.1 34) (τ93.2.1 50 (0 : Int)) := q97_3
          replace q97_4 : (τ93.1 35) = 0 → (¬ (u5_294) = 200 ∧ (τ93.1 34) ≤ 1000 ∧ (x96) + (τ93.1 33) + (τ93.1 34) ≤ 40000) → (τ99.1 35) = 0 := q97_4
          have w3_τ99 : τ99.1 3 = τ93.1 3 := hf_τ99.1 3 (by decide)
          have w33_τ99 : τ99.1 33 = τ93.1 33 := hf_τ99.1 33 (by decide)
          have w34_τ99 : τ99.1 34 = τ93.1 34 := hf_τ99.1 34 (by decide)
          have g8_τ99 : τ99.2.1 8 = τ93.2.1 8 := hf_τ99.2.1 8 (by decide)
          have g13_τ99 : τ99.2.1 13 = τ93.2.1 13 := hf_τ99.2.1 13 (by decide)
          have g14_τ99 : τ99.2.1 14 = τ93.2.1 14 := hf_τ99.2.1 14 (by decide)
          have g15_τ99 : τ99.2.1 15 = τ93.2.1 15 := hf_τ99.2.1 15 (by decide)
          have g16_τ99 : τ99.2.1 16 = τ93.2.1 16 := hf_τ99.2.1 16 (by decide)
          have g17_τ99 : τ99.2.1 17 = τ93.2.1 17 := hf_τ99.2.1 17 (by decide)
          have g18_τ99 : τ99.2.1 18 = τ93.2.1 18 := hf_τ99.2.1 18 (by decide)
          have g19_τ99 : τ99.2.1 19 = τ93.2.1 19 := hf_τ99.2.1 19 (by decide)
          have g20_τ99 : τ99.2.1 20 = τ93.2.1 20 := hf_τ99.2.1 20 (by decide)
          have g21_τ99 : τ99.2.1 21 = τ93.2.1 21 := hf_τ99.2.1 21 (by decide)
          have g22_τ99 : τ99.2.1 22 = τ93.2.1 22 := hf_τ99.2.1 22 (by decide)
          have g48_τ99 : τ99.2.1 48 = τ93.2.1 48 := hf_τ99.2.1 48 (by decide)
          have g49_τ99 : τ99.2.1 49 = τ93.2.1 49 := hf_τ99.2.1 49 (by decide)
          have g50_τ99 : τ99.2.1 50 = τ93.2.1 50 := hf_τ99.2.1 50 (by decide)
          have W3 : τ99.1 3 = σ.1 3 := by first | exact w3_τ99.trans W3 | omega
          have W33 : τ99.1 33 = σ.1 33 := by first | exact w33_τ99.trans W33 | omega
          have G8 : τ99.2.1 8 = σ.2.1 8 := (g8_τ99).trans G8
          have G13 : τ99.2.1 13 = σ.2.1 13 := (g13_τ99).trans G13
          have G14 : τ99.2.1 14 = σ.2.1 14 := (g14_τ99).trans G14
          have G15 : τ99.2.1 15 = σ.2.1 15 := (g15_τ99).trans G15
          have G16 : τ99.2.1 16 = σ.2.1 16 := (g16_τ99).trans G16
          have G17 : τ99.2.1 17 = σ.2.1 17 := (g17_τ99).trans G17
          have G18 : τ99.2.1 18 = σ.2.1 18 := (g18_τ99).trans G18
          have G19 : τ99.2.1 19 = σ.2.1 19 := (g19_τ99).trans G19
          have G20 : τ99.2.1 20 = σ.2.1 20 := (g20_τ99).trans G20
          have G21 : τ99.2.1 21 = σ.2.1 21 := (g21_τ99).trans G21
          have G22 : τ99.2.1 22 = σ.2.1 22 := (g22_τ99).trans G22
          have A8 : ∀ j, 0 ≤ τ99.2.1 8 j ∧ τ99.2.1 8 j ≤ 1 := fun j => hT.2 8 j
          have A13 : ∀ j, 0 ≤ τ99.2.1 13 j ∧ τ99.2.1 13 j ≤ 4 := fun j => hT.2 13 j
          have A14 : ∀ j, 0 ≤ τ99.2.1 14 j ∧ τ99.2.1 14 j ≤ 30000 := fun j => hT.2 14 j
          have A15 : ∀ j, 0 ≤ τ99.2.1 15 j ∧ τ99.2.1 15 j ≤ 300 := fun j => hT.2 15 j
          have A16 : ∀ j, 0 ≤ τ99.2.1 16 j ∧ τ99.2.1 16 j ≤ 999 := fun j => hT.2 16 j
          have A17 : ∀ j, (-1) ≤ τ99.2.1 17 j ∧ τ99.2.1 17 j ≤ 1499 := fun j => hT.2 17 j
          have A18 : ∀ j, 0 ≤ τ99.2.1 18 j ∧ τ99.2.1 18 j ≤ 90000 := fun j => hT.2 18 j
          have A19 : ∀ j, 0 ≤ τ99.2.1 19 j ∧ τ99.2.1 19 j ≤ 60 := fun j => hT.2 19 j
          have A20 : ∀ j, 0 ≤ τ99.2.1 20 j ∧ τ99.2.1 20 j ≤ 1499 := fun j => hT.2 20 j
          have A21 : ∀ j, 0 ≤ τ99.2.1 21 j ∧ τ99.2.1 21 j ≤ 20000 := fun j => hT.2 21 j
          have A22 : ∀ j, 0 ≤ τ99.2.1 22 j ∧ τ99.2.1 22 j ≤ 20000 := fun j => hT.2 22 j
          have A40 : ∀ j, 0 ≤ τ99.2.1 40 j ∧ τ99.2.1 40 j ≤ 40000 := fun j => hT.2 40 j
          have A41 : ∀ j, 0 ≤ τ99.2.1 41 j ∧ τ99.2.1 41 j ≤ 1000 := fun j => hT.2 41 j
          have A43 : ∀ j, 0 ≤ τ99.2.1 43 j ∧ τ99.2.1 43 j ≤ 999 := fun j => hT.2 43 j
          have A48 : ∀ j, 0 ≤ τ99.2.1 48 j ∧ τ99.2.1 48 j ≤ 40001 := fun j => hT.2 48 j
          have A49 : ∀ j, 0 ≤ τ99.2.1 49 j ∧ τ99.2.1 49 j ≤ 1000 := fun j => hT.2 49 j
          have A50 : ∀ j, 0 ≤ τ99.2.1 50 j ∧ τ99.2.1 50 j ≤ 999 := fun j => hT.2 50 j
          have v3 : 0 ≤ τ99.1 3 ∧ τ99.1 3 ≤ 1000 := hT.1 3
          have v30 : 0 ≤ τ99.1 30 ∧ τ99.1 30 ≤ 200 := hT.1 30
          have v31 : 0 ≤ τ99.1 31 ∧ τ99.1 31 ≤ 40000 := hT.1 31
          have v33 : 0 ≤ τ99.1 33 ∧ τ99.1 33 ≤ 40000 := hT.1 33
          have v34 : 0 ≤ τ99.1 34 ∧ τ99.1 34 ≤ 1001 := hT.1 34
          have v35 : 0 ≤ τ99.1 35 ∧ τ99.1 35 ≤ 19 := hT.1 35
          have pu := q97_3
          have ap : τ99.1 35 = 0 → n_ap σ τ99 u5_294 (τ93.1 34) (τ93.2.1 50 0) := fun z => n_pu_c (pu (by first | (show τ93.1 35 = 0; omega) | omega) z).2 ek (by rw [g40_τ93, i294_10.1]) (by rw [g41_τ93, i294_10.2.1]) (by rw [g43_τ93, i294_10.2.2])
          exact ⟨hT, (show (σ.1 35) = 0 → (τ99.1 35) = 0 → 1 ≤ (τ99.1 30) from by (first | omega | (simp only [st_s] <;> omega) | assumption | omega | fail)), (show ¬ (σ.1 35) = 0 → (τ99.1 35) = (σ.1 35) from by (first | omega | (simp only [st_s] <;> omega) | assumption | omega | fail)), (show (σ.1 35) = 0 → (τ99.1 35) = 0 → n_aA σ τ99 n1 from by (first | (intro _ z; exfalso; omega) | (intro y z; have o := (pu (by first | (show τ93.1 35 = 0; omega) | omega) z).1; have o1 : ¬ u5_294 = 200 := o.1; have o3 := o.2.2; rw [ek] at o3; have o3 : sm (σ.2.1 41) u5_294 + τ93.1 33 + τ93.1 34 ≤ 40000 := o3; have e := q2c.resolve_right (by omega); have f := ap z; rw [e.1, q3c.1] at f; have u := i294_8; rw [u.2] at f o3 o1; exact ⟨by omega, fun k k0 k1 q => (by have w := (i294_9 k k0 (by omega) q).1; rw [u.2] at w; exact w), _, bz, ⟨by omega, by rw [← e.1]; omega, by rw [← e.1]; omega⟩, nz, f⟩) | fail)), (show n3 = 0 → (σ.1 35) = 0 → n_aB σ n1 → (τ99.1 35) = 0 from by (first | (intro _ _ h; exfalso; omega) | (intro _ _ h; exfalso; have u := i36_8; have w := h.2.1 u6_36 (by omega) (by omega) (by rw [← e_x14]; assumption); rw [← u.2] at w; first | omega | (have w2 : σ.2.1 43 (σ.2.1 40 (u5_36 + u6_36)) = _ := w.2; rw [← e_x22, ← e_x25] at w2; omega)) | (intro _ _ h; have hh := h.1; exfalso; omega) | (intro y1 y2 h; have q9 := h; obtain ⟨b1, b2, bs, b3, b4, b5, b6⟩ := q9; have eq : n_zz σ n1 (τ_294.2.1 49) = n_zz σ n1 bs := n_sz_u p9 p10 bz b3; have u := i294_8; rw [← eq] at b5 b6; rw [← u.2] at b4 b6; have e := q2c.resolve_right (by omega); exact q97_4 (by first | (show τ93.1 35 = 0; omega) | omega) ⟨(show ¬ u5_294 = 200 from by omega), by omega, by (rw [ek]; show sm (σ.2.1 41) u5_294 + τ93.1 33 + τ93.1 34 ≤ 40000; omega)⟩) | fail))⟩
        ·
          refine h375 _ _ _ _ ?_
          replace hT := mT_v (i := 31) hT (show 0 ≤ (τ93.1 31) ∧ (τ93.1 31) ≤ 40000 from by (first | omega | (simp only [st_s] <;> omega) | assumption | omega | fail))
          replace hT := mT_v (i := 30) hT (show 0 ≤ u5_294 ∧ u5_294 ≤ 200 from by (first | omega | (simp only [st_s] <;> omega) | assumption | omega | fail))
          have ek : (τ93.1 31) = sm (σ.2.1 41) u5_294 := by first | (rw [e_x96, g40_τ93, i294_10.1]; exact (p8.2 u5_294 (by omega) (by omega)).1) | (rw [show u5_294 = σ.1 30 from by omega, ← p8.1]; omega)
          refine ⟨_, K3_X13_pushRow_q53 hT (show 0 ≤ (0 : Int) from by (first | omega | (simp only [st_s] <;> omega) | assumption | omega | fail)) (show (0 : Int) ≤ 0 from by (first | omega | (simp only [st_s] <;> omega) | assumption | omega | fail)) (show 0 ≤ (τ93.1 34) from by (first | omega | (simp only [st_s] <;> omega) | assumption | omega | fail)) (show 0 ≤ n2 from by (first | omega | (simp only [st_s] <;> omega) | assumption | omega | fail)) (show n2 ≤ 20000 from by (first | omega | (simp only [st_s] <;> omega) | assumption | omega | fail)) (show (τ93.1 34) ≤ 1001 from by (first | omega | (simp only [st_s] <;> omega) | assumption | omega | fail)), ?_⟩
          intro τ99 hn_τ99 hf_τ99 hq
          obtain ⟨hT, q97_1, q97_2, q97_3, q97_4⟩ := hq
          replace q97_1 : (τ93.1 35) = 0 → (τ99.1 35) = 0 → (τ99.1 30) = (u5_294) + 1 ∧ 1 ≤ (τ99.1 30) := q97_1
          replace q97_2 : ¬ (τ93.1 35) = 0 → (τ99.1 35) = (τ93.1 35) := q97_2
          replace q97_3 : (τ93.1 35) = 0 → (τ99.1 35) = 0 → (¬ (u5_294) = 200 ∧ (τ93.1 34) ≤ 1000 ∧ ((τ93.1 31)) + (τ93.1 33) + (τ93.1 34) ≤ 40000) ∧ n_pu (s_v (s_v τ93 31 (τ93.1 31)) 30 u5_294) τ99 (τ93.1 34) (τ93.2.1 50 (0 : Int)) := q97_3
          replace q97_4 : (τ93.1 35) = 0 → (¬ (u5_294) = 200 ∧ (τ93.1 34) ≤ 1000 ∧ ((τ93.1 31)) + (τ93.1 33) + (τ93.1 34) ≤ 40000) → (τ99.1 35) = 0 := q97_4
          have w3_τ99 : τ99.1 3 = τ93.1 3 := hf_τ99.1 3 (by decide)
          have w33_τ99 : τ99.1 33 = τ93.1 33 := hf_τ99.1 33 (by decide)
          have w34_τ99 : τ99.1 34 = τ93.1 34 := hf_τ99.1 34 (by decide)
          have g8_τ99 : τ99.2.1 8 = τ93.2.1 8 := hf_τ99.2.1 8 (by decide)
          have g13_τ99 : τ99.2.1 13 = τ93.2.1 13 := hf_τ99.2.1 13 (by decide)
          have g14_τ99 : τ99.2.1 14 = τ93.2.1 14 := hf_τ99.2.1 14 (by decide)
          have g15_τ99 : τ99.2.1 15 = τ93.2.1 15 := hf_τ99.2.1 15 (by decide)
          have g16_τ99 : τ99.2.1 16 = τ93.2.1 16 := hf_τ99.2.1 16 (by decide)
          have g17_τ99 : τ99.2.1 17 = τ93.2.1 17 := hf_τ99.2.1 17 (by decide)
          have g18_τ99 : τ99.2.1 18 = τ93.2.1 18 := hf_τ99.2.1 18 (by decide)
          have g19_τ99 : τ99.2.1 19 = τ93.2.1 19 := hf_τ99.2.1 19 (by decide)
          have g20_τ99 : τ99.2.1 20 = τ93.2.1 20 := hf_τ99.2.1 20 (by decide)
          have g21_τ99 : τ99.2.1 21 = τ93.2.1 21 := hf_τ99.2.1 21 (by decide)
          have g22_τ99 : τ99.2.1 22 = τ93.2.1 22 := hf_τ99.2.1 22 (by decide)
          have g48_τ99 : τ99.2.1 48 = τ93.2.1 48 := hf_τ99.2.1 48 (by decide)
          have g49_τ99 : τ99.2.1 49 = τ93.2.1 49 := hf_τ99.2.1 49 (by decide)
          have g50_τ99 : τ99.2.1 50 = τ93.2.1 50 := hf_τ99.2.1 50 (by decide)
          have W3 : τ99.1 3 = σ.1 3 := by first | exact w3_τ99.trans W3 | omega
          have W33 : τ99.1 33 = σ.1 33 := by first | exact w33_τ99.trans W33 | omega
          have G8 : τ99.2.1 8 = σ.2.1 8 := (g8_τ99).trans G8
          have G13 : τ99.2.1 13 = σ.2.1 13 := (g13_τ99).trans G13
          have G14 : τ99.2.1 14 = σ.2.1 14 := (g14_τ99).trans G14
          have G15 : τ99.2.1 15 = σ.2.1 15 := (g15_τ99).trans G15
          have G16 : τ99.2.1 16 = σ.2.1 16 := (g16_τ99).trans G16
          have G17 : τ99.2.1 17 = σ.2.1 17 := (g17_τ99).trans G17
          have G18 : τ99.2.1 18 = σ.2.1 18 := (g18_τ99).trans G18
          have G19 : τ99.2.1 19 = σ.2.1 19 := (g19_τ99).trans G19
          have G20 : τ99.2.1 20 = σ.2.1 20 := (g20_τ99).trans G20
          have G21 : τ99.2.1 21 = σ.2.1 21 := (g21_τ99).trans G21
          have G22 : τ99.2.1 22 = σ.2.1 22 := (g22_τ99).trans G22
          have A8 : ∀ j, 0 ≤ τ99.2.1 8 j ∧ τ99.2.1 8 j ≤ 1 := fun j => hT.2 8 j
          have A13 : ∀ j, 0 ≤ τ99.2.1 13 j ∧ τ99.2.1 13 j ≤ 4 := fun j => hT.2 13 j
          have A14 : ∀ j, 0 ≤ τ99.2.1 14 j ∧ τ99.2.1 14 j ≤ 30000 := fun j => hT.2 14 j
          have A15 : ∀ j, 0 ≤ τ99.2.1 15 j ∧ τ99.2.1 15 j ≤ 300 := fun j => hT.2 15 j
          have A16 : ∀ j, 0 ≤ τ99.2.1 16 j ∧ τ99.2.1 16 j ≤ 999 := fun j => hT.2 16 j
          have A17 : ∀ j, (-1) ≤ τ99.2.1 17 j ∧ τ99.2.1 17 j ≤ 1499 := fun j => hT.2 17 j
          have A18 : ∀ j, 0 ≤ τ99.2.1 18 j ∧ τ99.2.1 18 j ≤ 90000 := fun j => hT.2 18 j
          have A19 : ∀ j, 0 ≤ τ99.2.1 19 j ∧ τ99.2.1 19 j ≤ 60 := fun j => hT.2 19 j
          have A20 : ∀ j, 0 ≤ τ99.2.1 20 j ∧ τ99.2.1 20 j ≤ 1499 := fun j => hT.2 20 j
          have A21 : ∀ j, 0 ≤ τ99.2.1 21 j ∧ τ99.2.1 21 j ≤ 20000 := fun j => hT.2 21 j
          have A22 : ∀ j, 0 ≤ τ99.2.1 22 j ∧ τ99.2.1 22 j ≤ 20000 := fun j => hT.2 22 j
          have A40 : ∀ j, 0 ≤ τ99.2.1 40 j ∧ τ99.2.1 40 j ≤ 40000 := fun j => hT.2 40 j
          have A41 : ∀ j, 0 ≤ τ99.2.1 41 j ∧ τ99.2.1 41 j ≤ 1000 := fun j => hT.2 41 j
          have A43 : ∀ j, 0 ≤ τ99.2.1 43 j ∧ τ99.2.1 43 j ≤ 999 := fun j => hT.2 43 j
          have A48 : ∀ j, 0 ≤ τ99.2.1 48 j ∧ τ99.2.1 48 j ≤ 40001 := fun j => hT.2 48 j
          have A49 : ∀ j, 0 ≤ τ99.2.1 49 j ∧ τ99.2.1 49 j ≤ 1000 := fun j => hT.2 49 j
          have A50 : ∀ j, 0 ≤ τ99.2.1 50 j ∧ τ99.2.1 50 j ≤ 999 := fun j => hT.2 50 j
          have v3 : 0 ≤ τ99.1 3 ∧ τ99.1 3 ≤ 1000 := hT.1 3
          have v30 : 0 ≤ τ99.1 30 ∧ τ99.1 30 ≤ 200 := hT.1 30
          have v31 : 0 ≤ τ99.1 31 ∧ τ99.1 31 ≤ 40000 := hT.1 31
          have v33 : 0 ≤ τ99.1 33 ∧ τ99.1 33 ≤ 40000 := hT.1 33
          have v34 : 0 ≤ τ99.1 34 ∧ τ99.1 34 ≤ 1001 := hT.1 34
          have v35 : 0 ≤ τ99.1 35 ∧ τ99.1 35 ≤ 19 := hT.1 35
          have pu := q97_3
          have ap : τ99.1 35 = 0 → n_ap σ τ99 u5_294 (τ93.1 34) (τ93.2.1 50 0) := fun z => n_pu_c (pu (by first | (show τ93.1 35 = 0; omega) | omega) z).2 ek (by rw [g40_τ93, i294_10.1]) (by rw [g41_τ93, i294_10.2.1]) (by rw [g43_τ93, i294_10.2.2])
          exact ⟨hT, (show (σ.1 35) = 0 → (τ99.1 35) = 0 → 1 ≤ (τ99.1 30) from by (first | omega | (simp only [st_s] <;> omega) | assumption | omega | fail)), (show ¬ (σ.1 35) = 0 → (τ99.1 35) = (σ.1 35) from by (first | omega | (simp only [st_s] <;> omega) | assumption | omega | fail)), (show (σ.1 35) = 0 → (τ99.1 35) = 0 → n_aA σ τ99 n1 from by (first | (intro _ z; exfalso; omega) | (intro y z; have o := (pu (by first | (show τ93.1 35 = 0; omega) | omega) z).1; have o1 : ¬ u5_294 = 200 := o.1; have o3 := o.2.2; rw [ek] at o3; have o3 : sm (σ.2.1 41) u5_294 + τ93.1 33 + τ93.1 34 ≤ 40000 := o3; have e := q2c.resolve_right (by omega); have f := ap z; rw [e.1, q3c.1] at f; have u := i294_8; rw [u.2] at f o3 o1; exact ⟨by omega, fun k k0 k1 q => (by have w := (i294_9 k k0 (by omega) q).1; rw [u.2] at w; exact w), _, bz, ⟨by omega, by rw [← e.1]; omega, by rw [← e.1]; omega⟩, nz, f⟩) | fail)), (show n3 = 0 → (σ.1 35) = 0 → n_aB σ n1 → (τ99.1 35) = 0 from by (first | (intro _ _ h; exfalso; omega) | (intro _ _ h; exfalso; have u := i36_8; have w := h.2.1 u6_36 (by omega) (by omega) (by rw [← e_x14]; assumption); rw [← u.2] at w; first | omega | (have w2 : σ.2.1 43 (σ.2.1 40 (u5_36 + u6_36)) = _ := w.2; rw [← e_x22, ← e_x25] at w2; omega)) | (intro _ _ h; have hh := h.1; exfalso; omega) | (intro y1 y2 h; have q9 := h; obtain ⟨b1, b2, bs, b3, b4, b5, b6⟩ := q9; have eq : n_zz σ n1 (τ_294.2.1 49) = n_zz σ n1 bs := n_sz_u p9 p10 bz b3; have u := i294_8; rw [← eq] at b5 b6; rw [← u.2] at b4 b6; have e := q2c.resolve_right (by omega); exact q97_4 (by first | (show τ93.1 35 = 0; omega) | omega) ⟨(show ¬ u5_294 = 200 from by omega), by omega, by (rw [ek]; show sm (σ.2.1 41) u5_294 + τ93.1 33 + τ93.1 34 ≤ 40000; omega)⟩) | fail))⟩
      ·
        refine ⟨fun c79 => ?_, fun c79 => ?_⟩
        ·
          refine h350 _ _ _ _ _ ?_
          have oo8 := G8
          have oo14 := G14
          have oo15 := G15
          have oo16 := G16
          refine ⟨_, K3_X13_replace hT (show 0 ≤ n1 from by (first | omega | (simp only [st_s] <;> omega) | assumption | omega | fail)) (show n1 < 1500 from by (first | omega | (simp only [st_s] <;> omega) | assumption | omega | fail)), ?_⟩
          intro τ93 hn_τ93 hf_τ93 hq
          obtain ⟨hT, q91_1, q91_2, q91_3⟩ := hq
          replace q91_1 : 0 ≤ (τ93.1 34) := q91_1
          replace q91_2 : (((τ93.1 34) = n_sz n1 (τ_294.2.1 14) (τ_294.2.1 15) (τ_294.2.1 16) (τ_294.2.1 8) (τ_294.2.1 49) ∧ (τ93.1 34) ≤ 1001) ∨ ((τ93.1 34) = 1001 ∧ 1001 ≤ n_sz n1 (τ_294.2.1 14) (τ_294.2.1 15) (τ_294.2.1 16) (τ_294.2.1 8) (τ_294.2.1 49))) := q91_2
          replace q91_3 : 1 ≤ τ_294.2.1 15 n1 → τ_294.2.1 8 (τ_294.2.1 16 (τ_294.2.1 14 n1)) = 0 → τ93.2.1 50 0 = τ_294.2.1 16 (τ_294.2.1 14 n1) ∧ 1 ≤ (τ93.1 34) := q91_3
          have w3_τ93 : τ93.1 3 = τ_294.1 3 := hf_τ93.1 3 (by decide)
          have w30_τ93 : τ93.1 30 = τ_294.1 30 := hf_τ93.1 30 (by decide)
          have w31_τ93 : τ93.1 31 = τ_294.1 31 := hf_τ93.1 31 (by decide)
          have w33_τ93 : τ93.1 33 = τ_294.1 33 := hf_τ93.1 33 (by decide)
          have w35_τ93 : τ93.1 35 = τ_294.1 35 := hf_τ93.1 35 (by decide)
          have g8_τ93 : τ93.2.1 8 = τ_294.2.1 8 := hf_τ93.2.1 8 (by decide)
          have g13_τ93 : τ93.2.1 13 = τ_294.2.1 13 := hf_τ93.2.1 13 (by decide)
          have g14_τ93 : τ93.2.1 14 = τ_294.2.1 14 := hf_τ93.2.1 14 (by decide)
          have g15_τ93 : τ93.2.1 15 = τ_294.2.1 15 := hf_τ93.2.1 15 (by decide)
          have g16_τ93 : τ93.2.1 16 = τ_294.2.1 16 := hf_τ93.2.1 16 (by decide)
          have g17_τ93 : τ93.2.1 17 = τ_294.2.1 17 := hf_τ93.2.1 17 (by decide)
          have g18_τ93 : τ93.2.1 18 = τ_294.2.1 18 := hf_τ93.2.1 18 (by decide)
          have g19_τ93 : τ93.2.1 19 = τ_294.2.1 19 := hf_τ93.2.1 19 (by decide)
          have g20_τ93 : τ93.2.1 20 = τ_294.2.1 20 := hf_τ93.2.1 20 (by decide)
          have g21_τ93 : τ93.2.1 21 = τ_294.2.1 21 := hf_τ93.2.1 21 (by decide)
          have g22_τ93 : τ93.2.1 22 = τ_294.2.1 22 := hf_τ93.2.1 22 (by decide)
          have g40_τ93 : τ93.2.1 40 = τ_294.2.1 40 := hf_τ93.2.1 40 (by decide)
          have g41_τ93 : τ93.2.1 41 = τ_294.2.1 41 := hf_τ93.2.1 41 (by decide)
          have g43_τ93 : τ93.2.1 43 = τ_294.2.1 43 := hf_τ93.2.1 43 (by decide)
          have g48_τ93 : τ93.2.1 48 = τ_294.2.1 48 := hf_τ93.2.1 48 (by decide)
          have g49_τ93 : τ93.2.1 49 = τ_294.2.1 49 := hf_τ93.2.1 49 (by decide)
          have W3 : τ93.1 3 = σ.1 3 := by first | exact w3_τ93.trans W3 | omega
          have W33 : τ93.1 33 = σ.1 33 := by first | exact w33_τ93.trans W33 | omega
          have G8 : τ93.2.1 8 = σ.2.1 8 := (g8_τ93).trans G8
          have G13 : τ93.2.1 13 = σ.2.1 13 := (g13_τ93).trans G13
          have G14 : τ93.2.1 14 = σ.2.1 14 := (g14_τ93).trans G14
          have G15 : τ93.2.1 15 = σ.2.1 15 := (g15_τ93).trans G15
          have G16 : τ93.2.1 16 = σ.2.1 16 := (g16_τ93).trans G16
          have G17 : τ93.2.1 17 = σ.2.1 17 := (g17_τ93).trans G17
          have G18 : τ93.2.1 18 = σ.2.1 18 := (g18_τ93).trans G18
          have G19 : τ93.2.1 19 = σ.2.1 19 := (g19_τ93).trans G19
          have G20 : τ93.2.1 20 = σ.2.1 20 := (g20_τ93).trans G20
          have G21 : τ93.2.1 21 = σ.2.1 21 := (g21_τ93).trans G21
          have G22 : τ93.2.1 22 = σ.2.1 22 := (g22_τ93).trans G22
          have A8 : ∀ j, 0 ≤ τ93.2.1 8 j ∧ τ93.2.1 8 j ≤ 1 := fun j => hT.2 8 j
          have A13 : ∀ j, 0 ≤ τ93.2.1 13 j ∧ τ93.2.1 13 j ≤ 4 := fun j => hT.2 13 j
          have A14 : ∀ j, 0 ≤ τ93.2.1 14 j ∧ τ93.2.1 14 j ≤ 30000 := fun j => hT.2 14 j
          have A15 : ∀ j, 0 ≤ τ93.2.1 15 j ∧ τ93.2.1 15 j ≤ 300 := fun j => hT.2 15 j
          have A16 : ∀ j, 0 ≤ τ93.2.1 16 j ∧ τ93.2.1 16 j ≤ 999 := fun j => hT.2 16 j
          have A17 : ∀ j, (-1) ≤ τ93.2.1 17 j ∧ τ93.2.1 17 j ≤ 1499 := fun j => hT.2 17 j
          have A18 : ∀ j, 0 ≤ τ93.2.1 18 j ∧ τ93.2.1 18 j ≤ 90000 := fun j => hT.2 18 j
          have A19 : ∀ j, 0 ≤ τ93.2.1 19 j ∧ τ93.2.1 19 j ≤ 60 := fun j => hT.2 19 j
          have A20 : ∀ j, 0 ≤ τ93.2.1 20 j ∧ τ93.2.1 20 j ≤ 1499 := fun j => hT.2 20 j
          have A21 : ∀ j, 0 ≤ τ93.2.1 21 j ∧ τ93.2.1 21 j ≤ 20000 := fun j => hT.2 21 j
          have A22 : ∀ j, 0 ≤ τ93.2.1 22 j ∧ τ93.2.1 22 j ≤ 20000 := fun j => hT.2 22 j
          have A40 : ∀ j, 0 ≤ τ93.2.1 40 j ∧ τ93.2.1 40 j ≤ 40000 := fun j => hT.2 40 j
          have A41 : ∀ j, 0 ≤ τ93.2.1 41 j ∧ τ93.2.1 41 j ≤ 1000 := fun j => hT.2 41 j
          have A43 : ∀ j, 0 ≤ τ93.2.1 43 j ∧ τ93.2.1 43 j ≤ 999 := fun j => hT.2 43 j
          have A48 : ∀ j, 0 ≤ τ93.2.1 48 j ∧ τ93.2.1 48 j ≤ 40001 := fun j => hT.2 48 j
          have A49 : ∀ j, 0 ≤ τ93.2.1 49 j ∧ τ93.2.1 49 j ≤ 1000 := fun j => hT.2 49 j
          have A50 : ∀ j, 0 ≤ τ93.2.1 50 j ∧ τ93.2.1 50 j ≤ 999 := fun j => hT.2 50 j
          have v3 : 0 ≤ τ93.1 3 ∧ τ93.1 3 ≤ 1000 := hT.1 3
          have v30 : 0 ≤ τ93.1 30 ∧ τ93.1 30 ≤ 200 := hT.1 30
          have v31 : 0 ≤ τ93.1 31 ∧ τ93.1 31 ≤ 40000 := hT.1 31
          have v33 : 0 ≤ τ93.1 33 ∧ τ93.1 33 ≤ 40000 := hT.1 33
          have v34 : 0 ≤ τ93.1 34 ∧ τ93.1 34 ≤ 1001 := hT.1 34
          have v35 : 0 ≤ τ93.1 35 ∧ τ93.1 35 ≤ 19 := hT.1 35
          have ts1 := p9.1.1
          have q2b := q91_2
          have q3b := q91_3
          rw [oo8, oo14, oo15, oo16] at q2b
          rw [oo8, oo14, oo15, oo16] at q3b
          have q3c := q3b (by omega) p9.1.2.2.1
          have bz : n_bz σ n1 (τ_294.2.1 49) := (by have w := i294_9; rw [i294_8.1] at w; have v := n_fl2_b w; rw [i294_8.2] at v; exact v)
          have nz : 1 ≤ n_zz σ n1 (τ_294.2.1 49) := n_sz_1 p9 (fun v => (hT294.2 49 v).1)
          have q2c : (τ93.1 34 = n_zz σ n1 (τ_294.2.1 49) ∧ τ93.1 34 ≤ 1001) ∨ (τ93.1 34 = 1001 ∧ 1001 ≤ n_zz σ n1 (τ_294.2.1 49)) := q2b
          refine ⟨fun c94 => ?_, fun c94 => ?_⟩
          ·
            refine ⟨(show 0 ≤ u5_294 ∧ u5_294 < 202 from by (first | omega | (simp only [st_s] <;> omega) | assumption | omega | fail)), ?_⟩
            intro x96 r_x96 e_x96
            have b_x96 : 0 ≤ x96 ∧ x96 ≤ 40000 := by rw [e_x96]; exact hT.2 40 _
            refine h375 _ _ _ _ ?_
            replace hT := mT_v (i := 31) hT (show 0 ≤ x96 ∧ x96 ≤ 40000 from by (first | omega | (simp only [st_s] <;> omega) | assumption | omega | fail))
            replace hT := mT_v (i := 30) hT (show 0 ≤ u5_294 ∧ u5_294 ≤ 200 from by (first | omega | (simp only [st_s] <;> omega) | assumption | omega | fail))
            have ek : x96 = sm (σ.2.1 41) u5_294 := by first | (rw [e_x96, g40_τ93, i294_10.1]; exact (p8.2 u5_294 (by omega) (by omega)).1) | (rw [show u5_294 = σ.1 30 from by omega, ← p8.1]; omega)
            refine ⟨_, K3_X13_pushRow_q53 hT (show 0 ≤ (0 : Int) from by (first | omega | (simp only [st_s] <;> omega) | assumption | omega | fail)) (show (0 : Int) ≤ 0 from by (first | omega | (simp only [st_s] <;> omega) | assumption | omega | fail)) (show 0 ≤ (τ93.1 34) from by (first | omega | (simp only [st_s] <;> omega) | assumption | omega | fail)) (show 0 ≤ n2 from by (first | omega | (simp only [st_s] <;> omega) | assumption | omega | fail)) (show n2 ≤ 20000 from by (first | omega | (simp only [st_s] <;> omega) | assumption | omega | fail)) (show (τ93.1 34) ≤ 1001 from by (first | omega | (simp only [st_s] <;> omega) | assumption | omega | fail)), ?_⟩
            intro τ99 hn_τ99 hf_τ99 hq
            obtain ⟨hT, q97_1, q97_2, q97_3, q97_4⟩ := hq
            replace q97_1 : (τ93.1 35) = 0 → (τ99.1 35) = 0 → (τ99.1 30) = (u5_294) + 1 ∧ 1 ≤ (τ99.1 30) := q97_1
            replace q97_2 : ¬ (τ93.1 35) = 0 → (τ99.1 35) = (τ93.1 35) := q97_2
            replace q97_3 : (τ93.1 35) = 0 → (τ99.1 35) = 0 → (¬ (u5_294) = 200 ∧ (τ93.1 34) ≤ 1000 ∧ (x96) + (τ93.1 33) + (τ93.1 34) ≤ 40000) ∧ n_pu (s_v (s_v τ93 31 x96) 30 u5_294) τ99 (τ93.1 34) (τ93.2.1 50 (0 : Int)) := q97_3
            replace q97_4 : (τ93.1 35) = 0 → (¬ (u5_294) = 200 ∧ (τ93.1 34) ≤ 1000 ∧ (x96) + (τ93.1 33) + (τ93.1 34) ≤ 40000) → (τ99.1 35) = 0 := q97_4
            have w3_τ99 : τ99.1 3 = τ93.1 3 := hf_τ99.1 3 (by decide)
            have w33_τ99 : τ99.1 33 = τ93.1 33 := hf_τ99.1 33 (by decide)
            have w34_τ99 : τ99.1 34 = τ93.1 34 := hf_τ99.1 34 (by decide)
            have g8_τ99 : τ99.2.1 8 = τ93.2.1 8 := hf_τ99.2.1 8 (by decide)
            have g13_τ99 : τ99.2.1 13 = τ93.2.1 13 := hf_τ99.2.1 13 (by decide)
            have g14_τ99 : τ99.2.1 14 = τ93.2.1 14 := hf_τ99.2.1 14 (by decide)
            have g15_τ99 : τ99.2.1 15 = τ93.2.1 15 := hf_τ99.2.1 15 (by decide)
            have g16_τ99 : τ99.2.1 16 = τ93.2.1 16 := hf_τ99.2.1 16 (by decide)
            have g17_τ99 : τ99.2.1 17 = τ93.2.1 17 := hf_τ99.2.1 17 (by decide)
            have g18_τ99 : τ99.2.1 18 = τ93.2.1 18 := hf_τ99.2.1 18 (by decide)
            have g19_τ99 : τ99.2.1 19 = τ93.2.1 19 := hf_τ99.2.1 19 (by decide)
            have g20_τ99 : τ99.2.1 20 = τ93.2.1 20 := hf_τ99.2.1 20 (by decide)
            have g21_τ99 : τ99.2.1 21 = τ93.2.1 21 := hf_τ99.2.1 21 (by decide)
            have g22_τ99 : τ99.2.1 22 = τ93.2.1 22 := hf_τ99.2.1 22 (by decide)
            have g48_τ99 : τ99.2.1 48 = τ93.2.1 48 := hf_τ99.2.1 48 (by decide)
            have g49_τ99 : τ99.2.1 49 = τ93.2.1 49 := hf_τ99.2.1 49 (by decide)
            have g50_τ99 : τ99.2.1 50 = τ93.2.1 50 := hf_τ99.2.1 50 (by decide)
            have W3 : τ99.1 3 = σ.1 3 := by first | exact w3_τ99.trans W3 | omega
            have W33 : τ99.1 33 = σ.1 33 := by first | exact w33_τ99.trans W33 | omega
            have G8 : τ99.2.1 8 = σ.2.1 8 := (g8_τ99).trans G8
            have G13 : τ99.2.1 13 = σ.2.1 13 := (g13_τ99).trans G13
            have G14 : τ99.2.1 14 = σ.2.1 14 := (g14_τ99).trans G14
            have G15 : τ99.2.1 15 = σ.2.1 15 := (g15_τ99).trans G15
            have G16 : τ99.2.1 16 = σ.2.1 16 := (g16_τ99).trans G16
            have G17 : τ99.2.1 17 = σ.2.1 17 := (g17_τ99).trans G17
            have G18 : τ99.2.1 18 = σ.2.1 18 := (g18_τ99).trans G18
            have G19 : τ99.2.1 19 = σ.2.1 19 := (g19_τ99).trans G19
            have G20 : τ99.2.1 20 = σ.2.1 20 := (g20_τ99).trans G20
            have G21 : τ99.2.1 21 = σ.2.1 21 := (g21_τ99).trans G21
            have G22 : τ99.2.1 22 = σ.2.1 22 := (g22_τ99).trans G22
            have A8 : ∀ j, 0 ≤ τ99.2.1 8 j ∧ τ99.2.1 8 j ≤ 1 := fun j => hT.2 8 j
            have A13 : ∀ j, 0 ≤ τ99.2.1 13 j ∧ τ99.2.1 13 j ≤ 4 := fun j => hT.2 13 j
            have A14 : ∀ j, 0 ≤ τ99.2.1 14 j ∧ τ99.2.1 14 j ≤ 30000 := fun j => hT.2 14 j
            have A15 : ∀ j, 0 ≤ τ99.2.1 15 j ∧ τ99.2.1 15 j ≤ 300 := fun j => hT.2 15 j
            have A16 : ∀ j, 0 ≤ τ99.2.1 16 j ∧ τ99.2.1 16 j ≤ 999 := fun j => hT.2 16 j
            have A17 : ∀ j, (-1) ≤ τ99.2.1 17 j ∧ τ99.2.1 17 j ≤ 1499 := fun j => hT.2 17 j
            have A18 : ∀ j, 0 ≤ τ99.2.1 18 j ∧ τ99.2.1 18 j ≤ 90000 := fun j => hT.2 18 j
            have A19 : ∀ j, 0 ≤ τ99.2.1 19 j ∧ τ99.2.1 19 j ≤ 60 := fun j => hT.2 19 j
            have A20 : ∀ j, 0 ≤ τ99.2.1 20 j ∧ τ99.2.1 20 j ≤ 1499 := fun j => hT.2 20 j
            have A21 : ∀ j, 0 ≤ τ99.2.1 21 j ∧ τ99.2.1 21 j ≤ 20000 := fun j => hT.2 21 j
            have A22 : ∀ j, 0 ≤ τ99.2.1 22 j ∧ τ99.2.1 22 j ≤ 20000 := fun j => hT.2 22 j
            have A40 : ∀ j, 0 ≤ τ99.2.1 40 j ∧ τ99.2.1 40 j ≤ 40000 := fun j => hT.2 40 j
            have A41 : ∀ j, 0 ≤ τ99.2.1 41 j ∧ τ99.2.1 41 j ≤ 1000 := fun j => hT.2 41 j
            have A43 : ∀ j, 0 ≤ τ99.2.1 43 j ∧ τ99.2.1 43 j ≤ 999 := fun j => hT.2 43 j
            have A48 : ∀ j, 0 ≤ τ99.2.1 48 j ∧ τ99.2.1 48 j ≤ 40001 := fun j => hT.2 48 j
            have A49 : ∀ j, 0 ≤ τ99.2.1 49 j ∧ τ99.2.1 49 j ≤ 1000 := fun j => hT.2 49 j
            have A50 : ∀ j, 0 ≤ τ99.2.1 50 j ∧ τ99.2.1 50 j ≤ 999 := fun j => hT.2 50 j
            have v3 : 0 ≤ τ99.1 3 ∧ τ99.1 3 ≤ 1000 := hT.1 3
            have v30 : 0 ≤ τ99.1 30 ∧ τ99.1 30 ≤ 200 := hT.1 30
            have v31 : 0 ≤ τ99.1 31 ∧ τ99.1 31 ≤ 40000 := hT.1 31
            have v33 : 0 ≤ τ99.1 33 ∧ τ99.1 33 ≤ 40000 := hT.1 33
            have v34 : 0 ≤ τ99.1 34 ∧ τ99.1 34 ≤ 1001 := hT.1 34
            have v35 : 0 ≤ τ99.1 35 ∧ τ99.1 35 ≤ 19 := hT.1 35
            have pu := q97_3
            have ap : τ99.1 35 = 0 → n_ap σ τ99 u5_294 (τ93.1 34) (τ93.2.1 50 0) := fun z => n_pu_c (pu (by first | (show τ93.1 35 = 0; omega) | omega) z).2 ek (by rw [g40_τ93, i294_10.1]) (by rw [g41_τ93, i294_10.2.1]) (by rw [g43_τ93, i294_10.2.2])
            exact ⟨hT, (show (σ.1 35) = 0 → (τ99.1 35) = 0 → 1 ≤ (τ99.1 30) from by (first | omega | (simp only [st_s] <;> omega) | assumption | omega | fail)), (show ¬ (σ.1 35) = 0 → (τ99.1 35) = (σ.1 35) from by (first | omega | (simp only [st_s] <;> omega) | assumption | omega | fail)), (show (σ.1 35) = 0 → (τ99.1 35) = 0 → n_aA σ τ99 n1 from by (first | (intro _ z; exfalso; omega) | (intro y z; have o := (pu (by first | (show τ93.1 35 = 0; omega) | omega) z).1; have o1 : ¬ u5_294 = 200 := o.1; have o3 := o.2.2; rw [ek] at o3; have o3 : sm (σ.2.1 41) u5_294 + τ93.1 33 + τ93.1 34 ≤ 40000 := o3; have e := q2c.resolve_right (by omega); have f := ap z; rw [e.1, q3c.1] at f; have u := i294_8; rw [u.2] at f o3 o1; exact ⟨by omega, fun k k0 k1 q => (by have w := (i294_9 k k0 (by omega) q).1; rw [u.2] at w; exact w), _, bz, ⟨by omega, by rw [← e.1]; omega, by rw [← e.1]; omega⟩, nz, f⟩) | fail)), (show n3 = 0 → (σ.1 35) = 0 → n_aB σ n1 → (τ99.1 35) = 0 from by (first | (intro _ _ h; exfalso; omega) | (intro _ _ h; exfalso; have u := i36_8; have w := h.2.1 u6_36 (by omega) (by omega) (by rw [← e_x14]; assumption); rw [← u.2] at w; first | omega | (have w2 : σ.2.1 43 (σ.2.1 40 (u5_36 + u6_36)) = _ := w.2; rw [← e_x22, ← e_x25] at w2; omega)) | (intro _ _ h; have hh := h.1; exfalso; omega) | (intro y1 y2 h; have q9 := h; obtain ⟨b1, b2, bs, b3, b4, b5, b6⟩ := q9; have eq : n_zz σ n1 (τ_294.2.1 49) = n_zz σ n1 bs := n_sz_u p9 p10 bz b3; have u := i294_8; rw [← eq] at b5 b6; rw [← u.2] at b4 b6; have e := q2c.resolve_right (by omega); exact q97_4 (by first | (show τ93.1 35 = 0; omega) | omega) ⟨(show ¬ u5_294 = 200 from by omega), by omega, by (rw [ek]; show sm (σ.2.1 41) u5_294 + τ93.1 33 + τ93.1 34 ≤ 40000; omega)⟩) | fail))⟩
          ·
            refine h375 _ _ _ _ ?_
            replace hT := mT_v (i := 31) hT (show 0 ≤ (τ93.1 31) ∧ (τ93.1 31) ≤ 40000 from by (first | omega | (simp only [st_s] <;> omega) | assumption | omega | fail))
            replace hT := mT_v (i := 30) hT (show 0 ≤ u5_294 ∧ u5_294 ≤ 200 from by (first | omega | (simp only [st_s] <;> omega) | assumption | omega | fail))
            have ek : (τ93.1 31) = sm (σ.2.1 41) u5_294 := by first | (rw [e_x96, g40_τ93, i294_10.1]; exact (p8.2 u5_294 (by omega) (by omega)).1) | (rw [show u5_294 = σ.1 30 from by omega, ← p8.1]; omega)
            refine ⟨_, K3_X13_pushRow_q53 hT (show 0 ≤ (0 : Int) from by (first | omega | (simp only [st_s] <;> omega) | assumption | omega | fail)) (show (0 : Int) ≤ 0 from by (first | omega | (simp only [st_s] <;> omega) | assumption | omega | fail)) (show 0 ≤ (τ93.1 34) from by (first | omega | (simp only [st_s] <;> omega) | assumption | omega | fail)) (show 0 ≤ n2 from by (first | omega | (simp only [st_s] <;> omega) | assumption | omega | fail)) (show n2 ≤ 20000 from by (first | omega | (simp only [st_s] <;> omega) | assumption | omega | fail)) (show (τ93.1 34) ≤ 1001 from by (first | omega | (simp only [st_s] <;> omega) | assumption | omega | fail)), ?_⟩
            intro τ99 hn_τ99 hf_τ99 hq
            obtain ⟨hT, q97_1, q97_2, q97_3, q97_4⟩ := hq
            replace q97_1 : (τ93.1 35) = 0 → (τ99.1 35) = 0 → (τ99.1 30) = (u5_294) + 1 ∧ 1 ≤ (τ99.1 30) := q97_1
            replace q97_2 : ¬ (τ93.1 35) = 0 → (τ99.1 35) = (τ93.1 35) := q97_2
            replace q97_3 : (τ93.1 35) = 0 → (τ99.1 35) = 0 → (¬ (u5_294) = 200 ∧ (τ93.1 34) ≤ 1000 ∧ ((τ93.1 31)) + (τ93.1 33) + (τ93.1 34) ≤ 40000) ∧ n_pu (s_v (s_v τ93 31 (τ93.1 31)) 30 u5_294) τ99 (τ93.1 34) (τ93.2.1 50 (0 : Int)) := q97_3
            replace q97_4 : (τ93.1 35) = 0 → (¬ (u5_294) = 200 ∧ (τ93.1 34) ≤ 1000 ∧ ((τ93.1 31)) + (τ93.1 33) + (τ93.1 34) ≤ 40000) → (τ99.1 35) = 0 := q97_4
            have w3_τ99 : τ99.1 3 = τ93.1 3 := hf_τ99.1 3 (by decide)
            have w33_τ99 : τ99.1 33 = τ93.1 33 := hf_τ99.1 33 (by decide)
            have w34_τ99 : τ99.1 34 = τ93.1 34 := hf_τ99.1 34 (by decide)
            have g8_τ99 : τ99.2.1 8 = τ93.2.1 8 := hf_τ99.2.1 8 (by decide)
            have g13_τ99 : τ99.2.1 13 = τ93.2.1 13 := hf_τ99.2.1 13 (by decide)
            have g14_τ99 : τ99.2.1 14 = τ93.2.1 14 := hf_τ99.2.1 14 (by decide)
            have g15_τ99 : τ99.2.1 15 = τ93.2.1 15 := hf_τ99.2.1 15 (by decide)
            have g16_τ99 : τ99.2.1 16 = τ93.2.1 16 := hf_τ99.2.1 16 (by decide)
            have g17_τ99 : τ99.2.1 17 = τ93.2.1 17 := hf_τ99.2.1 17 (by decide)
            have g18_τ99 : τ99.2.1 18 = τ93.2.1 18 := hf_τ99.2.1 18 (by decide)
            have g19_τ99 : τ99.2.1 19 = τ93.2.1 19 := hf_τ99.2.1 19 (by decide)
            have g20_τ99 : τ99.2.1 20 = τ93.2.1 20 := hf_τ99.2.1 20 (by decide)
            have g21_τ99 : τ99.2.1 21 = τ93.2.1 21 := hf_τ99.2.1 21 (by decide)
            have g22_τ99 : τ99.2.1 22 = τ93.2.1 22 := hf_τ99.2.1 22 (by decide)
            have g48_τ99 : τ99.2.1 48 = τ93.2.1 48 := hf_τ99.2.1 48 (by decide)
            have g49_τ99 : τ99.2.1 49 = τ93.2.1 49 := hf_τ99.2.1 49 (by decide)
            have g50_τ99 : τ99.2.1 50 = τ93.2.1 50 := hf_τ99.2.1 50 (by decide)
            have W3 : τ99.1 3 = σ.1 3 := by first | exact w3_τ99.trans W3 | omega
            have W33 : τ99.1 33 = σ.1 33 := by first | exact w33_τ99.trans W33 | omega
            have G8 : τ99.2.1 8 = σ.2.1 8 := (g8_τ99).trans G8
            have G13 : τ99.2.1 13 = σ.2.1 13 := (g13_τ99).trans G13
            have G14 : τ99.2.1 14 = σ.2.1 14 := (g14_τ99).trans G14
            have G15 : τ99.2.1 15 = σ.2.1 15 := (g15_τ99).trans G15
            have G16 : τ99.2.1 16 = σ.2.1 16 := (g16_τ99).trans G16
            have G17 : τ99.2.1 17 = σ.2.1 17 := (g17_τ99).trans G17
            have G18 : τ99.2.1 18 = σ.2.1 18 := (g18_τ99).trans G18
            have G19 : τ99.2.1 19 = σ.2.1 19 := (g19_τ99).trans G19
            have G20 : τ99.2.1 20 = σ.2.1 20 := (g20_τ99).trans G20
            have G21 : τ99.2.1 21 = σ.2.1 21 := (g21_τ99).trans G21
            have G22 : τ99.2.1 22 = σ.2.1 22 := (g22_τ99).trans G22
            have A8 : ∀ j, 0 ≤ τ99.2.1 8 j ∧ τ99.2.1 8 j ≤ 1 := fun j => hT.2 8 j
            have A13 : ∀ j, 0 ≤ τ99.2.1 13 j ∧ τ99.2.1 13 j ≤ 4 := fun j => hT.2 13 j
            have A14 : ∀ j, 0 ≤ τ99.2.1 14 j ∧ τ99.2.1 14 j ≤ 30000 := fun j => hT.2 14 j
            have A15 : ∀ j, 0 ≤ τ99.2.1 15 j ∧ τ99.2.1 15 j ≤ 300 := fun j => hT.2 15 j
            have A16 : ∀ j, 0 ≤ τ99.2.1 16 j ∧ τ99.2.1 16 j ≤ 999 := fun j => hT.2 16 j
            have A17 : ∀ j, (-1) ≤ τ99.2.1 17 j ∧ τ99.2.1 17 j ≤ 1499 := fun j => hT.2 17 j
            have A18 : ∀ j, 0 ≤ τ99.2.1 18 j ∧ τ99.2.1 18 j ≤ 90000 := fun j => hT.2 18 j
            have A19 : ∀ j, 0 ≤ τ99.2.1 19 j ∧ τ99.2.1 19 j ≤ 60 := fun j => hT.2 19 j
            have A20 : ∀ j, 0 ≤ τ99.2.1 20 j ∧ τ99.2.1 20 j ≤ 1499 := fun j => hT.2 20 j
            have A21 : ∀ j, 0 ≤ τ99.2.1 21 j ∧ τ99.2.1 21 j ≤ 20000 := fun j => hT.2 21 j
            have A22 : ∀ j, 0 ≤ τ99.2.1 22 j ∧ τ99.2.1 22 j ≤ 20000 := fun j => hT.2 22 j
            have A40 : ∀ j, 0 ≤ τ99.2.1 40 j ∧ τ99.2.1 40 j ≤ 40000 := fun j => hT.2 40 j
            have A41 : ∀ j, 0 ≤ τ99.2.1 41 j ∧ τ99.2.1 41 j ≤ 1000 := fun j => hT.2 41 j
            have A43 : ∀ j, 0 ≤ τ99.2.1 43 j ∧ τ99.2.1 43 j ≤ 999 := fun j => hT.2 43 j
            have A48 : ∀ j, 0 ≤ τ99.2.1 48 j ∧ τ99.2.1 48 j ≤ 40001 := fun j => hT.2 48 j
            have A49 : ∀ j, 0 ≤ τ99.2.1 49 j ∧ τ99.2.1 49 j ≤ 1000 := fun j => hT.2 49 j
            have A50 : ∀ j, 0 ≤ τ99.2.1 50 j ∧ τ99.2.1 50 j ≤ 999 := fun j => hT.2 50 j
            have v3 : 0 ≤ τ99.1 3 ∧ τ99.1 3 ≤ 1000 := hT.1 3
            have v30 : 0 ≤ τ99.1 30 ∧ τ99.1 30 ≤ 200 := hT.1 30
            have v31 : 0 ≤ τ99.1 31 ∧ τ99.1 31 ≤ 40000 := hT.1 31
            have v33 : 0 ≤ τ99.1 33 ∧ τ99.1 33 ≤ 40000 := hT.1 33
            have v34 : 0 ≤ τ99.1 34 ∧ τ99.1 34 ≤ 1001 := hT.1 34
            have v35 : 0 ≤ τ99.1 35 ∧ τ99.1 35 ≤ 19 := hT.1 35
            have pu := q97_3
            have ap : τ99.1 35 = 0 → n_ap σ τ99 u5_294 (τ93.1 34) (τ93.2.1 50 0) := fun z => n_pu_c (pu (by first | (show τ93.1 35 = 0; omega) | omega) z).2 ek (by rw [g40_τ93, i294_10.1]) (by rw [g41_τ93, i294_10.2.1]) (by rw [g43_τ93, i294_10.2.2])
            exact ⟨hT, (show (σ.1 35) = 0 → (τ99.1 35) = 0 → 1 ≤ (τ99.1 30) from by (first | omega | (simp only [st_s] <;> omega) | assumption | omega | fail)), (show ¬ (σ.1 35) = 0 → (τ99.1 35) = (σ.1 35) from by (first | omega | (simp only [st_s] <;> omega) | assumption | omega | fail)), (show (σ.1 35) = 0 → (τ99.1 35) = 0 → n_aA σ τ99 n1 from by (first | (intro _ z; exfalso; omega) | (intro y z; have o := (pu (by first | (show τ93.1 35 = 0; omega) | omega) z).1; have o1 : ¬ u5_294 = 200 := o.1; have o3 := o.2.2; rw [ek] at o3; have o3 : sm (σ.2.1 41) u5_294 + τ93.1 33 + τ93.1 34 ≤ 40000 := o3; have e := q2c.resolve_right (by omega); have f := ap z; rw [e.1, q3c.1] at f; have u := i294_8; rw [u.2] at f o3 o1; exact ⟨by omega, fun k k0 k1 q => (by have w := (i294_9 k k0 (by omega) q).1; rw [u.2] at w; exact w), _, bz, ⟨by omega, by rw [← e.1]; omega, by rw [← e.1]; omega⟩, nz, f⟩) | fail)), (show n3 = 0 → (σ.1 35) = 0 → n_aB σ n1 → (τ99.1 35) = 0 from by (first | (intro _ _ h; exfalso; omega) | (intro _ _ h; exfalso; have u := i36_8; have w := h.2.1 u6_36 (by omega) (by omega) (by rw [← e_x14]; assumption); rw [← u.2] at w; first | omega | (have w2 : σ.2.1 43 (σ.2.1 40 (u5_36 + u6_36)) = _ := w.2; rw [← e_x22, ← e_x25] at w2; omega)) | (intro _ _ h; have hh := h.1; exfalso; omega) | (intro y1 y2 h; have q9 := h; obtain ⟨b1, b2, bs, b3, b4, b5, b6⟩ := q9; have eq : n_zz σ n1 (τ_294.2.1 49) = n_zz σ n1 bs := n_sz_u p9 p10 bz b3; have u := i294_8; rw [← eq] at b5 b6; rw [← u.2] at b4 b6; have e := q2c.resolve_right (by omega); exact q97_4 (by first | (show τ93.1 35 = 0; omega) | omega) ⟨(show ¬ u5_294 = 200 from by omega), by omega, by (rw [ek]; show sm (σ.2.1 41) u5_294 + τ93.1 33 + τ93.1 34 ≤ 40000; omega)⟩) | fail))⟩
        ·
          rw [G21] at e_x75
          rw [G22] at e_x76
          refine ⟨(show 0 ≤ u6_294 ∧ u6_294 < 20000 from by (first | omega | (simp only [st_s] <;> omega) | assumption | omega | fail)), ?_⟩
          intro x81 r_x81 e_x81
          have b_x81 : 0 ≤ x81 ∧ x81 ≤ 999 := by rw [e_x81]; exact hT.2 23 _
          intro x82 r_x82 e_x82
          have b_x82 : 0 ≤ x82 ∧ x82 ≤ 999 := by rw [e_x82]; exact hT.2 24 _
          refine ⟨_, K_X13_areKept hT (show 0 ≤ x81 from by (first | omega | (simp only [st_s] <;> omega) | assumption | omega | fail)) (show x81 < 1000 from by (first | omega | (simp only [st_s] <;> omega) | assumption | omega | fail)) (show 0 ≤ x82 from by (first | omega | (simp only [st_s] <;> omega) | assumption | omega | fail)) (show x82 < 1000 from by (first | omega | (simp only [st_s] <;> omega) | assumption | omega | fail)), ?_⟩
          intro x84 r_x84 hq
          have q83_1 := hq
          replace q83_1 : 0 ≤ x84 ∧ x84 ≤ 1 := q83_1
          refine ⟨fun c86 => ?_, fun c86 => ?_⟩
          ·
            refine ⟨(⟨by (first | omega | (simp only [st_s] <;> omega) | assumption | omega | fail), by (first | omega | (simp only [st_s] <;> omega) | assumption | omega | fail)⟩ : rg (u6_294 + 1)), ?_⟩
            exact ih_294 _ _ _ _ (show (20002 - (u6_294 + 1) : Int) < ((m_294 : Nat) : Int) from by ((first | omega | (simp only [st_s] <;> omega) | assumption | omega | fail))) hT (show τ_294.1 3 = σ.1 3 from by first | exact W3 | omega) (show τ_294.1 33 = σ.1 33 from by first | exact W33 | omega) G8 G13 G14 G15 G16 G17 G18 G19 G20 G21 G22 (show 0 ≤ u4_294 from by (first | omega | (simp only [st_s] <;> omega) | assumption | omega | fail)) (show u4_294 ≤ 60 from by (first | omega | (simp only [st_s] <;> omega) | assumption | omega | fail)) (show 0 ≤ u5_294 from by (first | omega | (simp only [st_s] <;> omega) | assumption | omega | fail)) (show u5_294 + u4_294 ≤ 200 from by (first | omega | (simp only [st_s] <;> omega) | assumption | omega | fail)) (show 0 ≤ (u6_294 + 1) from by (first | omega | (simp only [st_s] <;> omega) | assumption | omega | fail)) (show (τ_294.1 35) = (σ.1 35) from by (first | omega | (simp only [st_s] <;> omega) | assumption | omega | fail)) (show (u6_294 + 1) ≤ 20001 from by (first | omega | (simp only [st_s] <;> omega) | assumption | omega | fail)) (show u4_294 = σ.2.1 19 n1 ∧ u5_294 = (σ.1 30) - σ.2.1 19 n1 from by (first | exact i202_8 | exact i294_8 | fail)) (show n_fl2 n1 u5_294 u4_294 (σ.2.1 13) (σ.2.1 14) (σ.2.1 16) (σ.2.1 18) (σ.2.1 20) (σ.2.1 41) (n_F2 σ) (τ_294.2.1 49) from by (first | exact i202_9 | exact i294_9 | fail)) (show τ_294.2.1 40 = σ.2.1 40 ∧ τ_294.2.1 41 = σ.2.1 41 ∧ τ_294.2.1 43 = σ.2.1 43 from by (first | exact i202_10 | exact i294_10 | fail)) (show (τ_294.1 30) = (σ.1 30) ∧ (τ_294.1 31) = (σ.1 31) from by (first | exact i202_11 | exact i294_11 | fail))
          ·
            refine ⟨_, K_X13_wrong hT (show 1 ≤ (17 : Int) from by (first | omega | (simp only [st_s] <;> omega) | assumption | omega | fail)) (show (17 : Int) ≤ 19 from by (first | omega | (simp only [st_s] <;> omega) | assumption | omega | fail)), ?_⟩
            intro τ90 hn_τ90 hf_τ90 hq
            obtain ⟨hT, q88_1, q88_2⟩ := hq
            replace q88_1 : ¬ (τ90.1 35) = 0 := q88_1
            replace q88_2 : ¬ (τ_294.1 35) = 0 → (τ90.1 35) = (τ_294.1 35) := q88_2
            have w3_τ90 : τ90.1 3 = τ_294.1 3 := hf_τ90.1 3 (by decide)
            have w30_τ90 : τ90.1 30 = τ_294.1 30 := hf_τ90.1 30 (by decide)
            have w31_τ90 : τ90.1 31 = τ_294.1 31 := hf_τ90.1 31 (by decide)
            have w33_τ90 : τ90.1 33 = τ_294.1 33 := hf_τ90.1 33 (by decide)
            have w34_τ90 : τ90.1 34 = τ_294.1 34 := hf_τ90.1 34 (by decide)
            have g8_τ90 : τ90.2.1 8 = τ_294.2.1 8 := hf_τ90.2.1 8 (by decide)
            have g13_τ90 : τ90.2.1 13 = τ_294.2.1 13 := hf_τ90.2.1 13 (by decide)
            have g14_τ90 : τ90.2.1 14 = τ_294.2.1 14 := hf_τ90.2.1 14 (by decide)
            have g15_τ90 : τ90.2.1 15 = τ_294.2.1 15 := hf_τ90.2.1 15 (by decide)
            have g16_τ90 : τ90.2.1 16 = τ_294.2.1 16 := hf_τ90.2.1 16 (by decide)
            have g17_τ90 : τ90.2.1 17 = τ_294.2.1 17 := hf_τ90.2.1 17 (by decide)
            have g18_τ90 : τ90.2.1 18 = τ_294.2.1 18 := hf_τ90.2.1 18 (by decide)
            have g19_τ90 : τ90.2.1 19 = τ_294.2.1 19 := hf_τ90.2.1 19 (by decide)
            have g20_τ90 : τ90.2.1 20 = τ_294.2.1 20 := hf_τ90.2.1 20 (by decide)
            have g21_τ90 : τ90.2.1 21 = τ_294.2.1 21 := hf_τ90.2.1 21 (by decide)
            have g22_τ90 : τ90.2.1 22 = τ_294.2.1 22 := hf_τ90.2.1 22 (by decide)
            have g40_τ90 : τ90.2.1 40 = τ_294.2.1 40 := hf_τ90.2.1 40 (by decide)
            have g41_τ90 : τ90.2.1 41 = τ_294.2.1 41 := hf_τ90.2.1 41 (by decide)
            have g43_τ90 : τ90.2.1 43 = τ_294.2.1 43 := hf_τ90.2.1 43 (by decide)
            have g48_τ90 : τ90.2.1 48 = τ_294.2.1 48 := hf_τ90.2.1 48 (by decide)
            have g49_τ90 : τ90.2.1 49 = τ_294.2.1 49 := hf_τ90.2.1 49 (by decide)
            have g50_τ90 : τ90.2.1 50 = τ_294.2.1 50 := hf_τ90.2.1 50 (by decide)
            have W3 : τ90.1 3 = σ.1 3 := by first | exact w3_τ90.trans W3 | omega
            have W33 : τ90.1 33 = σ.1 33 := by first | exact w33_τ90.trans W33 | omega
            have G8 : τ90.2.1 8 = σ.2.1 8 := (g8_τ90).trans G8
            have G13 : τ90.2.1 13 = σ.2.1 13 := (g13_τ90).trans G13
            have G14 : τ90.2.1 14 = σ.2.1 14 := (g14_τ90).trans G14
            have G15 : τ90.2.1 15 = σ.2.1 15 := (g15_τ90).trans G15
            have G16 : τ90.2.1 16 = σ.2.1 16 := (g16_τ90).trans G16
            have G17 : τ90.2.1 17 = σ.2.1 17 := (g17_τ90).trans G17
            have G18 : τ90.2.1 18 = σ.2.1 18 := (g18_τ90).trans G18
            have G19 : τ90.2.1 19 = σ.2.1 19 := (g19_τ90).trans G19
            have G20 : τ90.2.1 20 = σ.2.1 20 := (g20_τ90).trans G20
            have G21 : τ90.2.1 21 = σ.2.1 21 := (g21_τ90).trans G21
            have G22 : τ90.2.1 22 = σ.2.1 22 := (g22_τ90).trans G22
            have A8 : ∀ j, 0 ≤ τ90.2.1 8 j ∧ τ90.2.1 8 j ≤ 1 := fun j => hT.2 8 j
            have A13 : ∀ j, 0 ≤ τ90.2.1 13 j ∧ τ90.2.1 13 j ≤ 4 := fun j => hT.2 13 j
            have A14 : ∀ j, 0 ≤ τ90.2.1 14 j ∧ τ90.2.1 14 j ≤ 30000 := fun j => hT.2 14 j
            have A15 : ∀ j, 0 ≤ τ90.2.1 15 j ∧ τ90.2.1 15 j ≤ 300 := fun j => hT.2 15 j
            have A16 : ∀ j, 0 ≤ τ90.2.1 16 j ∧ τ90.2.1 16 j ≤ 999 := fun j => hT.2 16 j
            have A17 : ∀ j, (-1) ≤ τ90.2.1 17 j ∧ τ90.2.1 17 j ≤ 1499 := fun j => hT.2 17 j
            have A18 : ∀ j, 0 ≤ τ90.2.1 18 j ∧ τ90.2.1 18 j ≤ 90000 := fun j => hT.2 18 j
            have A19 : ∀ j, 0 ≤ τ90.2.1 19 j ∧ τ90.2.1 19 j ≤ 60 := fun j => hT.2 19 j
            have A20 : ∀ j, 0 ≤ τ90.2.1 20 j ∧ τ90.2.1 20 j ≤ 1499 := fun j => hT.2 20 j
            have A21 : ∀ j, 0 ≤ τ90.2.1 21 j ∧ τ90.2.1 21 j ≤ 20000 := fun j => hT.2 21 j
            have A22 : ∀ j, 0 ≤ τ90.2.1 22 j ∧ τ90.2.1 22 j ≤ 20000 := fun j => hT.2 22 j
            have A40 : ∀ j, 0 ≤ τ90.2.1 40 j ∧ τ90.2.1 40 j ≤ 40000 := fun j => hT.2 40 j
            have A41 : ∀ j, 0 ≤ τ90.2.1 41 j ∧ τ90.2.1 41 j ≤ 1000 := fun j => hT.2 41 j
            have A43 : ∀ j, 0 ≤ τ90.2.1 43 j ∧ τ90.2.1 43 j ≤ 999 := fun j => hT.2 43 j
            have A48 : ∀ j, 0 ≤ τ90.2.1 48 j ∧ τ90.2.1 48 j ≤ 40001 := fun j => hT.2 48 j
            have A49 : ∀ j, 0 ≤ τ90.2.1 49 j ∧ τ90.2.1 49 j ≤ 1000 := fun j => hT.2 49 j
            have A50 : ∀ j, 0 ≤ τ90.2.1 50 j ∧ τ90.2.1 50 j ≤ 999 := fun j => hT.2 50 j
            have v3 : 0 ≤ τ90.1 3 ∧ τ90.1 3 ≤ 1000 := hT.1 3
            have v30 : 0 ≤ τ90.1 30 ∧ τ90.1 30 ≤ 200 := hT.1 30
            have v31 : 0 ≤ τ90.1 31 ∧ τ90.1 31 ≤ 40000 := hT.1 31
            have v33 : 0 ≤ τ90.1 33 ∧ τ90.1 33 ≤ 40000 := hT.1 33
            have v34 : 0 ≤ τ90.1 34 ∧ τ90.1 34 ≤ 1001 := hT.1 34
            have v35 : 0 ≤ τ90.1 35 ∧ τ90.1 35 ≤ 19 := hT.1 35
            exact ⟨hT, (show (σ.1 35) = 0 → (τ90.1 35) = 0 → 1 ≤ (τ90.1 30) from by (first | omega | (simp only [st_s] <;> omega) | assumption | omega | fail)), (show ¬ (σ.1 35) = 0 → (τ90.1 35) = (σ.1 35) from by (first | omega | (simp only [st_s] <;> omega) | assumption | omega | fail)), (show (σ.1 35) = 0 → (τ90.1 35) = 0 → n_aA σ τ90 n1 from by (first | (intro _ z; exfalso; omega) | (intro y z; have o := (pu (by first | (show τ93.1 35 = 0; omega) | omega) z).1; have o1 : ¬ u5_294 = 200 := o.1; have o3 := o.2.2; rw [ek] at o3; have o3 : sm (σ.2.1 41) u5_294 + τ93.1 33 + τ93.1 34 ≤ 40000 := o3; have e := q2c.resolve_right (by omega); have f := ap z; rw [e.1, q3c.1] at f; have u := i294_8; rw [u.2] at f o3 o1; exact ⟨by omega, fun k k0 k1 q => (by have w := (i294_9 k k0 (by omega) q).1; rw [u.2] at w; exact w), _, bz, ⟨by omega, by rw [← e.1]; omega, by rw [← e.1]; omega⟩, nz, f⟩) | fail)), (show n3 = 0 → (σ.1 35) = 0 → n_aB σ n1 → (τ90.1 35) = 0 from by (first | (intro _ _ h; exfalso; omega) | (intro _ _ h; exfalso; have u := i36_8; have w := h.2.1 u6_36 (by omega) (by omega) (by rw [← e_x14]; assumption); rw [← u.2] at w; first | omega | (have w2 : σ.2.1 43 (σ.2.1 40 (u5_36 + u6_36)) = _ := w.2; rw [← e_x22, ← e_x25] at w2; omega)) | (intro _ _ h; have hh := h.1; exfalso; omega) | (intro y1 y2 h; have q9 := h; obtain ⟨b1, b2, bs, b3, b4, b5, b6⟩ := q9; have eq : n_zz σ n1 (τ_294.2.1 49) = n_zz σ n1 bs := n_sz_u p9 p10 bz b3; have u := i294_8; rw [← eq] at b5 b6; rw [← u.2] at b4 b6; have e := q2c.resolve_right (by omega); exact q97_4 (by first | (show τ93.1 35 = 0; omega) | omega) ⟨(show ¬ u5_294 = 200 from by omega), by omega, by (rw [ek]; show sm (σ.2.1 41) u5_294 + τ93.1 33 + τ93.1 34 ≤ 40000; omega)⟩) | fail))⟩
  have l_202 : ∀ (m_202 : Nat) (u4_202 : Int) (u5_202 : Int) (u6_202 : Int) (τ_202 : S0), 61 - u6_202 < (m_202 : Int) → (m_T τ_202) → (τ_202.1 3 = σ.1 3) → (τ_202.1 33 = σ.1 33) → (τ_202.2.1 8 = σ.2.1 8) → (τ_202.2.1 13 = σ.2.1 13) → (τ_202.2.1 14 = σ.2.1 14) → (τ_202.2.1 15 = σ.2.1 15) → (τ_202.2.1 16 = σ.2.1 16) → (τ_202.2.1 17 = σ.2.1 17) → (τ_202.2.1 18 = σ.2.1 18) → (τ_202.2.1 19 = σ.2.1 19) → (τ_202.2.1 20 = σ.2.1 20) → (τ_202.2.1 21 = σ.2.1 21) → (τ_202.2.1 22 = σ.2.1 22) → (0 ≤ u4_202) → (u4_202 ≤ 60) → (0 ≤ u5_202) → (u5_202 + u4_202 ≤ 200) → (0 ≤ u6_202) → (u6_202 ≤ u4_202) → ((τ_202.1 35) = (σ.1 35)) → (u4_202 = σ.2.1 19 n1 ∧ u5_202 = (σ.1 30) - σ.2.1 19 n1) → (n_fl2 n1 u5_202 u4_202 (σ.2.1 13) (σ.2.1 14) (σ.2.1 16) (σ.2.1 18) (σ.2.1 20) (σ.2.1 41) (n_F2 σ) (τ_202.2.1 49)) → (τ_202.2.1 40 = σ.2.1 40 ∧ τ_202.2.1 41 = σ.2.1 41 ∧ τ_202.2.1 43 = σ.2.1 43) → ((τ_202.1 30) = (σ.1 30) ∧ (τ_202.1 31) = (σ.1 31)) → P202 n1 n2 n3 u4_202 u5_202 u6_202 τ_202 := by
    intro m_202
    induction m_202 with
    | zero =>
      intro u4_202 u5_202 u6_202 τ_202 hm hT W3 W33 G8 G13 G14 G15 G16 G17 G18 G19 G20 G21 G22 i202_1 i202_2 i202_3 i202_4 i202_5 i202_6 i202_7 i202_8 i202_9 i202_10 i202_11
      have A8 : ∀ j, 0 ≤ τ_202.2.1 8 j ∧ τ_202.2.1 8 j ≤ 1 := fun j => hT.2 8 j
      have A13 : ∀ j, 0 ≤ τ_202.2.1 13 j ∧ τ_202.2.1 13 j ≤ 4 := fun j => hT.2 13 j
      have A14 : ∀ j, 0 ≤ τ_202.2.1 14 j ∧ τ_202.2.1 14 j ≤ 30000 := fun j => hT.2 14 j
      have A15 : ∀ j, 0 ≤ τ_202.2.1 15 j ∧ τ_202.2.1 15 j ≤ 300 := fun j => hT.2 15 j
      have A16 : ∀ j, 0 ≤ τ_202.2.1 16 j ∧ τ_202.2.1 16 j ≤ 999 := fun j => hT.2 16 j
      have A17 : ∀ j, (-1) ≤ τ_202.2.1 17 j ∧ τ_202.2.1 17 j ≤ 1499 := fun j => hT.2 17 j
      have A18 : ∀ j, 0 ≤ τ_202.2.1 18 j ∧ τ_202.2.1 18 j ≤ 90000 := fun j => hT.2 18 j
      have A19 : ∀ j, 0 ≤ τ_202.2.1 19 j ∧ τ_202.2.1 19 j ≤ 60 := fun j => hT.2 19 j
      have A20 : ∀ j, 0 ≤ τ_202.2.1 20 j ∧ τ_202.2.1 20 j ≤ 1499 := fun j => hT.2 20 j
      have A21 : ∀ j, 0 ≤ τ_202.2.1 21 j ∧ τ_202.2.1 21 j ≤ 20000 := fun j => hT.2 21 j
      have A22 : ∀ j, 0 ≤ τ_202.2.1 22 j ∧ τ_202.2.1 22 j ≤ 20000 := fun j => hT.2 22 j
      have A40 : ∀ j, 0 ≤ τ_202.2.1 40 j ∧ τ_202.2.1 40 j ≤ 40000 := fun j => hT.2 40 j
      have A41 : ∀ j, 0 ≤ τ_202.2.1 41 j ∧ τ_202.2.1 41 j ≤ 1000 := fun j => hT.2 41 j
      have A43 : ∀ j, 0 ≤ τ_202.2.1 43 j ∧ τ_202.2.1 43 j ≤ 999 := fun j => hT.2 43 j
      have A48 : ∀ j, 0 ≤ τ_202.2.1 48 j ∧ τ_202.2.1 48 j ≤ 40001 := fun j => hT.2 48 j
      have A49 : ∀ j, 0 ≤ τ_202.2.1 49 j ∧ τ_202.2.1 49 j ≤ 1000 := fun j => hT.2 49 j
      have A50 : ∀ j, 0 ≤ τ_202.2.1 50 j ∧ τ_202.2.1 50 j ≤ 999 := fun j => hT.2 50 j
      have v3 : 0 ≤ τ_202.1 3 ∧ τ_202.1 3 ≤ 1000 := hT.1 3
      have v30 : 0 ≤ τ_202.1 30 ∧ τ_202.1 30 ≤ 200 := hT.1 30
      have v31 : 0 ≤ τ_202.1 31 ∧ τ_202.1 31 ≤ 40000 := hT.1 31
      have v33 : 0 ≤ τ_202.1 33 ∧ τ_202.1 33 ≤ 40000 := hT.1 33
      have v34 : 0 ≤ τ_202.1 34 ∧ τ_202.1 34 ≤ 1001 := hT.1 34
      have v35 : 0 ≤ τ_202.1 35 ∧ τ_202.1 35 ≤ 19 := hT.1 35
      exfalso; (first | omega | (simp only [st_s] <;> omega) | assumption | omega | fail)
    | succ m_202 ih_202 =>
      intro u4_202 u5_202 u6_202 τ_202 hm_202 hT W3 W33 G8 G13 G14 G15 G16 G17 G18 G19 G20 G21 G22 i202_1 i202_2 i202_3 i202_4 i202_5 i202_6 i202_7 i202_8 i202_9 i202_10 i202_11
      have A8 : ∀ j, 0 ≤ τ_202.2.1 8 j ∧ τ_202.2.1 8 j ≤ 1 := fun j => hT.2 8 j
      have A13 : ∀ j, 0 ≤ τ_202.2.1 13 j ∧ τ_202.2.1 13 j ≤ 4 := fun j => hT.2 13 j
      have A14 : ∀ j, 0 ≤ τ_202.2.1 14 j ∧ τ_202.2.1 14 j ≤ 30000 := fun j => hT.2 14 j
      have A15 : ∀ j, 0 ≤ τ_202.2.1 15 j ∧ τ_202.2.1 15 j ≤ 300 := fun j => hT.2 15 j
      have A16 : ∀ j, 0 ≤ τ_202.2.1 16 j ∧ τ_202.2.1 16 j ≤ 999 := fun j => hT.2 16 j
      have A17 : ∀ j, (-1) ≤ τ_202.2.1 17 j ∧ τ_202.2.1 17 j ≤ 1499 := fun j => hT.2 17 j
      have A18 : ∀ j, 0 ≤ τ_202.2.1 18 j ∧ τ_202.2.1 18 j ≤ 90000 := fun j => hT.2 18 j
      have A19 : ∀ j, 0 ≤ τ_202.2.1 19 j ∧ τ_202.2.1 19 j ≤ 60 := fun j => hT.2 19 j
      have A20 : ∀ j, 0 ≤ τ_202.2.1 20 j ∧ τ_202.2.1 20 j ≤ 1499 := fun j => hT.2 20 j
      have A21 : ∀ j, 0 ≤ τ_202.2.1 21 j ∧ τ_202.2.1 21 j ≤ 20000 := fun j => hT.2 21 j
      have A22 : ∀ j, 0 ≤ τ_202.2.1 22 j ∧ τ_202.2.1 22 j ≤ 20000 := fun j => hT.2 22 j
      have A40 : ∀ j, 0 ≤ τ_202.2.1 40 j ∧ τ_202.2.1 40 j ≤ 40000 := fun j => hT.2 40 j
      have A41 : ∀ j, 0 ≤ τ_202.2.1 41 j ∧ τ_202.2.1 41 j ≤ 1000 := fun j => hT.2 41 j
      have A43 : ∀ j, 0 ≤ τ_202.2.1 43 j ∧ τ_202.2.1 43 j ≤ 999 := fun j => hT.2 43 j
      have A48 : ∀ j, 0 ≤ τ_202.2.1 48 j ∧ τ_202.2.1 48 j ≤ 40001 := fun j => hT.2 48 j
      have A49 : ∀ j, 0 ≤ τ_202.2.1 49 j ∧ τ_202.2.1 49 j ≤ 1000 := fun j => hT.2 49 j
      have A50 : ∀ j, 0 ≤ τ_202.2.1 50 j ∧ τ_202.2.1 50 j ≤ 999 := fun j => hT.2 50 j
      have v3 : 0 ≤ τ_202.1 3 ∧ τ_202.1 3 ≤ 1000 := hT.1 3
      have v30 : 0 ≤ τ_202.1 30 ∧ τ_202.1 30 ≤ 200 := hT.1 30
      have v31 : 0 ≤ τ_202.1 31 ∧ τ_202.1 31 ≤ 40000 := hT.1 31
      have v33 : 0 ≤ τ_202.1 33 ∧ τ_202.1 33 ≤ 40000 := hT.1 33
      have v34 : 0 ≤ τ_202.1 34 ∧ τ_202.1 34 ≤ 1001 := hT.1 34
      have v35 : 0 ≤ τ_202.1 35 ∧ τ_202.1 35 ≤ 19 := hT.1 35
      refine h202 n1 n2 n3 u4_202 u5_202 u6_202 τ_202 ?_
      refine ⟨fun c27 => ?_, fun c27 => ?_⟩
      ·
        refine ⟨(show 0 ≤ n1 ∧ n1 < 1501 from by (first | omega | (simp only [st_s] <;> omega) | assumption | omega | fail)), ?_⟩
        intro x29 r_x29 e_x29
        have b_x29 : 0 ≤ x29 ∧ x29 ≤ 20000 := by rw [e_x29]; exact hT.2 21 _
        exact l_294 ((20002 - x29 : Int).toNat + 1) _ _ _ _ (show (20002 - x29 : Int) < (((20002 - x29 : Int).toNat + 1 : Nat) : Int) from by ((first | omega | (simp only [st_s] <;> omega) | assumption | omega | fail))) hT (show τ_202.1 3 = σ.1 3 from by first | exact W3 | omega) (show τ_202.1 33 = σ.1 33 from by first | exact W33 | omega) G8 G13 G14 G15 G16 G17 G18 G19 G20 G21 G22 (show 0 ≤ u4_202 from by (first | omega | (simp only [st_s] <;> omega) | assumption | omega | fail)) (show u4_202 ≤ 60 from by (first | omega | (simp only [st_s] <;> omega) | assumption | omega | fail)) (show 0 ≤ u5_202 from by (first | omega | (simp only [st_s] <;> omega) | assumption | omega | fail)) (show u5_202 + u4_202 ≤ 200 from by (first | omega | (simp only [st_s] <;> omega) | assumption | omega | fail)) (show 0 ≤ x29 from by (first | omega | (simp only [st_s] <;> omega) | assumption | omega | fail)) (show (τ_202.1 35) = (σ.1 35) from by (first | omega | (simp only [st_s] <;> omega) | assumption | omega | fail)) (show x29 ≤ 20001 from by (first | omega | (simp only [st_s] <;> omega) | assumption | omega | fail)) (show u4_202 = σ.2.1 19 n1 ∧ u5_202 = (σ.1 30) - σ.2.1 19 n1 from by (first | exact i202_8 | exact i294_8 | fail)) (show n_fl2 n1 u5_202 u4_202 (σ.2.1 13) (σ.2.1 14) (σ.2.1 16) (σ.2.1 18) (σ.2.1 20) (σ.2.1 41) (n_F2 σ) (τ_202.2.1 49) from by (first | exact i202_9 | exact i294_9 | fail)) (show τ_202.2.1 40 = σ.2.1 40 ∧ τ_202.2.1 41 = σ.2.1 41 ∧ τ_202.2.1 43 = σ.2.1 43 from by (first | exact i202_10 | exact i294_10 | fail)) (show (τ_202.1 30) = (σ.1 30) ∧ (τ_202.1 31) = (σ.1 31) from by (first | exact i202_11 | exact i294_11 | fail))
      ·
        refine ⟨fun c30 => ?_, fun c30 => ?_⟩
        ·
          refine ⟨(show 0 ≤ n1 ∧ n1 < 1501 from by (first | omega | (simp only [st_s] <;> omega) | assumption | omega | fail)), ?_⟩
          intro x32 r_x32 e_x32
          have b_x32 : 0 ≤ x32 ∧ x32 ≤ 20000 := by rw [e_x32]; exact hT.2 21 _
          exact l_294 ((20002 - x32 : Int).toNat + 1) _ _ _ _ (show (20002 - x32 : Int) < (((20002 - x32 : Int).toNat + 1 : Nat) : Int) from by ((first | omega | (simp only [st_s] <;> omega) | assumption | omega | fail))) hT (show τ_202.1 3 = σ.1 3 from by first | exact W3 | omega) (show τ_202.1 33 = σ.1 33 from by first | exact W33 | omega) G8 G13 G14 G15 G16 G17 G18 G19 G20 G21 G22 (show 0 ≤ u4_202 from by (first | omega | (simp only [st_s] <;> omega) | assumption | omega | fail)) (show u4_202 ≤ 60 from by (first | omega | (simp only [st_s] <;> omega) | assumption | omega | fail)) (show 0 ≤ u5_202 from by (first | omega | (simp only [st_s] <;> omega) | assumption | omega | fail)) (show u5_202 + u4_202 ≤ 200 from by (first | omega | (simp only [st_s] <;> omega) | assumption | omega | fail)) (show 0 ≤ x32 from by (first | omega | (simp only [st_s] <;> omega) | assumption | omega | fail)) (show (τ_202.1 35) = (σ.1 35) from by (first | omega | (simp only [st_s] <;> omega) | assumption | omega | fail)) (show x32 ≤ 20001 from by (first | omega | (simp only [st_s] <;> omega) | assumption | omega | fail)) (show u4_202 = σ.2.1 19 n1 ∧ u5_202 = (σ.1 30) - σ.2.1 19 n1 from by (first | exact i202_8 | exact i294_8 | fail)) (show n_fl2 n1 u5_202 u4_202 (σ.2.1 13) (σ.2.1 14) (σ.2.1 16) (σ.2.1 18) (σ.2.1 20) (σ.2.1 41) (n_F2 σ) (τ_202.2.1 49) from by (first | exact i202_9 | exact i294_9 | fail)) (show τ_202.2.1 40 = σ.2.1 40 ∧ τ_202.2.1 41 = σ.2.1 41 ∧ τ_202.2.1 43 = σ.2.1 43 from by (first | exact i202_10 | exact i294_10 | fail)) (show (τ_202.1 30) = (σ.1 30) ∧ (τ_202.1 31) = (σ.1 31) from by (first | exact i202_11 | exact i294_11 | fail))
        ·
          refine ⟨(show 0 ≤ n1 ∧ n1 < 1501 from by (first | omega | (simp only [st_s] <;> omega) | assumption | omega | fail)), ?_⟩
          intro x34 r_x34 e_x34
          have b_x34 : 0 ≤ x34 ∧ x34 ≤ 90000 := by rw [e_x34]; exact hT.2 18 _
          refine ⟨(show 0 ≤ (x34 + u6_202) ∧ (x34 + u6_202) < 90100 from by (first | omega | (simp only [st_s] <;> omega) | assumption | omega | fail)), ?_⟩
          intro x36 r_x36 e_x36
          have b_x36 : 0 ≤ x36 ∧ x36 ≤ 1499 := by rw [e_x36]; exact hT.2 20 _
          refine ⟨(show 0 ≤ x36 ∧ x36 < 1501 from by (first | omega | (simp only [st_s] <;> omega) | assumption | omega | fail)), ?_⟩
          intro x38 r_x38 e_x38
          have b_x38 : 0 ≤ x38 ∧ x38 ≤ 4 := by rw [e_x38]; exact hT.2 13 _
          refine ⟨fun c39 => ?_, fun c39 => ?_⟩
          ·
            refine ⟨(⟨by (first | omega | (simp only [st_s] <;> omega) | assumption | omega | fail), by (first | omega | (simp only [st_s] <;> omega) | assumption | omega | fail)⟩ : rg (u6_202 + 1)), ?_⟩
            exact ih_202 _ _ _ _ (show (61 - (u6_202 + 1) : Int) < ((m_202 : Nat) : Int) from by ((first | omega | (simp only [st_s] <;> omega) | assumption | omega | fail))) hT (show τ_202.1 3 = σ.1 3 from by first | exact W3 | omega) (show τ_202.1 33 = σ.1 33 from by first | exact W33 | omega) G8 G13 G14 G15 G16 G17 G18 G19 G20 G21 G22 (show 0 ≤ u4_202 from by (first | omega | (simp only [st_s] <;> omega) | assumption | omega | fail)) (show u4_202 ≤ 60 from by (first | omega | (simp only [st_s] <;> omega) | assumption | omega | fail)) (show 0 ≤ u5_202 from by (first | omega | (simp only [st_s] <;> omega) | assumption | omega | fail)) (show u5_202 + u4_202 ≤ 200 from by (first | omega | (simp only [st_s] <;> omega) | assumption | omega | fail)) (show 0 ≤ (u6_202 + 1) from by (first | omega | (simp only [st_s] <;> omega) | assumption | omega | fail)) (show (u6_202 + 1) ≤ u4_202 from by (first | omega | (simp only [st_s] <;> omega) | assumption | omega | fail)) (show (τ_202.1 35) = (σ.1 35) from by (first | omega | (simp only [st_s] <;> omega) | assumption | omega | fail)) (show u4_202 = σ.2.1 19 n1 ∧ u5_202 = (σ.1 30) - σ.2.1 19 n1 from by (first | exact i36_8 | exact i202_8 | fail)) (show n_fl2 n1 u5_202 u4_202 (σ.2.1 13) (σ.2.1 14) (σ.2.1 16) (σ.2.1 18) (σ.2.1 20) (σ.2.1 41) (n_F2 σ) (τ_202.2.1 49) from by (first | exact i202_9 | (rw [g49_τ43]; exact i202_9) | (have w := i36_9; rw [show u6_36 = u4_36 from by omega] at w; exact w) | fail)) (show τ_202.2.1 40 = σ.2.1 40 ∧ τ_202.2.1 41 = σ.2.1 41 ∧ τ_202.2.1 43 = σ.2.1 43 from by (first | exact i202_10 | exact i36_10 | (rw [g40_τ43, g41_τ43, g43_τ43]; exact i202_10) | fail)) (show (τ_202.1 30) = (σ.1 30) ∧ (τ_202.1 31) = (σ.1 31) from by (first | exact i202_11 | exact i36_11 | omega | fail))
          ·
            refine ⟨_, K3_X13_replace hT (show 0 ≤ x36 from by (first | omega | (simp only [st_s] <;> omega) | assumption | omega | fail)) (show x36 < 1500 from by (first | omega | (simp only [st_s] <;> omega) | assumption | omega | fail)), ?_⟩
            intro τ43 hn_τ43 hf_τ43 hq
            obtain ⟨hT, q41_1, q41_2, q41_3⟩ := hq
            replace q41_1 : 0 ≤ (τ43.1 34) := q41_1
            replace q41_2 : (((τ43.1 34) = n_sz x36 (τ_202.2.1 14) (τ_202.2.1 15) (τ_202.2.1 16) (τ_202.2.1 8) (τ_202.2.1 49) ∧ (τ43.1 34) ≤ 1001) ∨ ((τ43.1 34) = 1001 ∧ 1001 ≤ n_sz x36 (τ_202.2.1 14) (τ_202.2.1 15) (τ_202.2.1 16) (τ_202.2.1 8) (τ_202.2.1 49))) := q41_2
            replace q41_3 : 1 ≤ τ_202.2.1 15 x36 → τ_202.2.1 8 (τ_202.2.1 16 (τ_202.2.1 14 x36)) = 0 → τ43.2.1 50 0 = τ_202.2.1 16 (τ_202.2.1 14 x36) ∧ 1 ≤ (τ43.1 34) := q41_3
            have w3_τ43 : τ43.1 3 = τ_202.1 3 := hf_τ43.1 3 (by decide)
            have w30_τ43 : τ43.1 30 = τ_202.1 30 := hf_τ43.1 30 (by decide)
            have w31_τ43 : τ43.1 31 = τ_202.1 31 := hf_τ43.1 31 (by decide)
            have w33_τ43 : τ43.1 33 = τ_202.1 33 := hf_τ43.1 33 (by decide)
            have w35_τ43 : τ43.1 35 = τ_202.1 35 := hf_τ43.1 35 (by decide)
            have g8_τ43 : τ43.2.1 8 = τ_202.2.1 8 := hf_τ43.2.1 8 (by decide)
            have g13_τ43 : τ43.2.1 13 = τ_202.2.1 13 := hf_τ43.2.1 13 (by decide)
            have g14_τ43 : τ43.2.1 14 = τ_202.2.1 14 := hf_τ43.2.1 14 (by decide)
            have g15_τ43 : τ43.2.1 15 = τ_202.2.1 15 := hf_τ43.2.1 15 (by decide)
            have g16_τ43 : τ43.2.1 16 = τ_202.2.1 16 := hf_τ43.2.1 16 (by decide)
            have g17_τ43 : τ43.2.1 17 = τ_202.2.1 17 := hf_τ43.2.1 17 (by decide)
            have g18_τ43 : τ43.2.1 18 = τ_202.2.1 18 := hf_τ43.2.1 18 (by decide)
            have g19_τ43 : τ43.2.1 19 = τ_202.2.1 19 := hf_τ43.2.1 19 (by decide)
            have g20_τ43 : τ43.2.1 20 = τ_202.2.1 20 := hf_τ43.2.1 20 (by decide)
            have g21_τ43 : τ43.2.1 21 = τ_202.2.1 21 := hf_τ43.2.1 21 (by decide)
            have g22_τ43 : τ43.2.1 22 = τ_202.2.1 22 := hf_τ43.2.1 22 (by decide)
            have g40_τ43 : τ43.2.1 40 = τ_202.2.1 40 := hf_τ43.2.1 40 (by decide)
            have g41_τ43 : τ43.2.1 41 = τ_202.2.1 41 := hf_τ43.2.1 41 (by decide)
            have g43_τ43 : τ43.2.1 43 = τ_202.2.1 43 := hf_τ43.2.1 43 (by decide)
            have g48_τ43 : τ43.2.1 48 = τ_202.2.1 48 := hf_τ43.2.1 48 (by decide)
            have g49_τ43 : τ43.2.1 49 = τ_202.2.1 49 := hf_τ43.2.1 49 (by decide)
            have W3 : τ43.1 3 = σ.1 3 := by first | exact w3_τ43.trans W3 | omega
            have W33 : τ43.1 33 = σ.1 33 := by first | exact w33_τ43.trans W33 | omega
            have G8 : τ43.2.1 8 = σ.2.1 8 := (g8_τ43).trans G8
            have G13 : τ43.2.1 13 = σ.2.1 13 := (g13_τ43).trans G13
            have G14 : τ43.2.1 14 = σ.2.1 14 := (g14_τ43).trans G14
            have G15 : τ43.2.1 15 = σ.2.1 15 := (g15_τ43).trans G15
            have G16 : τ43.2.1 16 = σ.2.1 16 := (g16_τ43).trans G16
            have G17 : τ43.2.1 17 = σ.2.1 17 := (g17_τ43).trans G17
            have G18 : τ43.2.1 18 = σ.2.1 18 := (g18_τ43).trans G18
            have G19 : τ43.2.1 19 = σ.2.1 19 := (g19_τ43).trans G19
            have G20 : τ43.2.1 20 = σ.2.1 20 := (g20_τ43).trans G20
            have G21 : τ43.2.1 21 = σ.2.1 21 := (g21_τ43).trans G21
            have G22 : τ43.2.1 22 = σ.2.1 22 := (g22_τ43).trans G22
            have A8 : ∀ j, 0 ≤ τ43.2.1 8 j ∧ τ43.2.1 8 j ≤ 1 := fun j => hT.2 8 j
            have A13 : ∀ j, 0 ≤ τ43.2.1 13 j ∧ τ43.2.1 13 j ≤ 4 := fun j => hT.2 13 j
            have A14 : ∀ j, 0 ≤ τ43.2.1 14 j ∧ τ43.2.1 14 j ≤ 30000 := fun j => hT.2 14 j
            have A15 : ∀ j, 0 ≤ τ43.2.1 15 j ∧ τ43.2.1 15 j ≤ 300 := fun j => hT.2 15 j
            have A16 : ∀ j, 0 ≤ τ43.2.1 16 j ∧ τ43.2.1 16 j ≤ 999 := fun j => hT.2 16 j
            have A17 : ∀ j, (-1) ≤ τ43.2.1 17 j ∧ τ43.2.1 17 j ≤ 1499 := fun j => hT.2 17 j
            have A18 : ∀ j, 0 ≤ τ43.2.1 18 j ∧ τ43.2.1 18 j ≤ 90000 := fun j => hT.2 18 j
            have A19 : ∀ j, 0 ≤ τ43.2.1 19 j ∧ τ43.2.1 19 j ≤ 60 := fun j => hT.2 19 j
            have A20 : ∀ j, 0 ≤ τ43.2.1 20 j ∧ τ43.2.1 20 j ≤ 1499 := fun j => hT.2 20 j
            have A21 : ∀ j, 0 ≤ τ43.2.1 21 j ∧ τ43.2.1 21 j ≤ 20000 := fun j => hT.2 21 j
            have A22 : ∀ j, 0 ≤ τ43.2.1 22 j ∧ τ43.2.1 22 j ≤ 20000 := fun j => hT.2 22 j
            have A40 : ∀ j, 0 ≤ τ43.2.1 40 j ∧ τ43.2.1 40 j ≤ 40000 := fun j => hT.2 40 j
            have A41 : ∀ j, 0 ≤ τ43.2.1 41 j ∧ τ43.2.1 41 j ≤ 1000 := fun j => hT.2 41 j
            have A43 : ∀ j, 0 ≤ τ43.2.1 43 j ∧ τ43.2.1 43 j ≤ 999 := fun j => hT.2 43 j
            have A48 : ∀ j, 0 ≤ τ43.2.1 48 j ∧ τ43.2.1 48 j ≤ 40001 := fun j => hT.2 48 j
            have A49 : ∀ j, 0 ≤ τ43.2.1 49 j ∧ τ43.2.1 49 j ≤ 1000 := fun j => hT.2 49 j
            have A50 : ∀ j, 0 ≤ τ43.2.1 50 j ∧ τ43.2.1 50 j ≤ 999 := fun j => hT.2 50 j
            have v3 : 0 ≤ τ43.1 3 ∧ τ43.1 3 ≤ 1000 := hT.1 3
            have v30 : 0 ≤ τ43.1 30 ∧ τ43.1 30 ≤ 200 := hT.1 30
            have v31 : 0 ≤ τ43.1 31 ∧ τ43.1 31 ≤ 40000 := hT.1 31
            have v33 : 0 ≤ τ43.1 33 ∧ τ43.1 33 ≤ 40000 := hT.1 33
            have v34 : 0 ≤ τ43.1 34 ∧ τ43.1 34 ≤ 1001 := hT.1 34
            have v35 : 0 ≤ τ43.1 35 ∧ τ43.1 35 ≤ 19 := hT.1 35
            refine ⟨(show 0 ≤ (u5_202 + u6_202) ∧ (u5_202 + u6_202) < 202 from by (first | omega | (simp only [st_s] <;> omega) | assumption | omega | fail)), ?_⟩
            intro x45 r_x45 e_x45
            have b_x45 : 0 ≤ x45 ∧ x45 ≤ 40000 := by rw [e_x45]; exact hT.2 40 _
            intro x46 r_x46 e_x46
            have b_x46 : 0 ≤ x46 ∧ x46 ≤ 1000 := by rw [e_x46]; exact hT.2 41 _
            refine ⟨_, K_X13_isMade hT (show 0 ≤ x45 from by (first | omega | (simp only [st_s] <;> omega) | assumption | omega | fail)) (show x45 ≤ 40000 from by (first | omega | (simp only [st_s] <;> omega) | assumption | omega | fail)), ?_⟩
            intro x48 r_x48 hq
            have q47_1 := hq
            replace q47_1 : 0 ≤ x48 ∧ x48 ≤ 1 := q47_1
            refine ⟨fun c50 => ?_, fun c50 => ?_⟩
            ·
              refine ⟨(⟨by (first | omega | (simp only [st_s] <;> omega) | assumption | omega | fail), by (first | omega | (simp only [st_s] <;> omega) | assumption | omega | fail)⟩ : rg (u6_202 + 1)), ?_⟩
              exact ih_202 _ _ _ _ (show (61 - (u6_202 + 1) : Int) < ((m_202 : Nat) : Int) from by ((first | omega | (simp only [st_s] <;> omega) | assumption | omega | fail))) hT (show τ43.1 3 = σ.1 3 from by first | exact W3 | omega) (show τ43.1 33 = σ.1 33 from by first | exact W33 | omega) G8 G13 G14 G15 G16 G17 G18 G19 G20 G21 G22 (show 0 ≤ u4_202 from by (first | omega | (simp only [st_s] <;> omega) | assumption | omega | fail)) (show u4_202 ≤ 60 from by (first | omega | (simp only [st_s] <;> omega) | assumption | omega | fail)) (show 0 ≤ u5_202 from by (first | omega | (simp only [st_s] <;> omega) | assumption | omega | fail)) (show u5_202 + u4_202 ≤ 200 from by (first | omega | (simp only [st_s] <;> omega) | assumption | omega | fail)) (show 0 ≤ (u6_202 + 1) from by (first | omega | (simp only [st_s] <;> omega) | assumption | omega | fail)) (show (u6_202 + 1) ≤ u4_202 from by (first | omega | (simp only [st_s] <;> omega) | assumption | omega | fail)) (show (τ43.1 35) = (σ.1 35) from by (first | omega | (simp only [st_s] <;> omega) | assumption | omega | fail)) (show u4_202 = σ.2.1 19 n1 ∧ u5_202 = (σ.1 30) - σ.2.1 19 n1 from by (first | exact i36_8 | exact i202_8 | fail)) (show n_fl2 n1 u5_202 u4_202 (σ.2.1 13) (σ.2.1 14) (σ.2.1 16) (σ.2.1 18) (σ.2.1 20) (σ.2.1 41) (n_F2 σ) (τ43.2.1 49) from by (first | exact i202_9 | (rw [g49_τ43]; exact i202_9) | (have w := i36_9; rw [show u6_36 = u4_36 from by omega] at w; exact w) | fail)) (show τ43.2.1 40 = σ.2.1 40 ∧ τ43.2.1 41 = σ.2.1 41 ∧ τ43.2.1 43 = σ.2.1 43 from by (first | exact i202_10 | exact i36_10 | (rw [g40_τ43, g41_τ43, g43_τ43]; exact i202_10) | fail)) (show (τ43.1 30) = (σ.1 30) ∧ (τ43.1 31) = (σ.1 31) from by (first | exact i202_11 | exact i36_11 | omega | fail))
            ·
              refine ⟨_, K_X13_wrong hT (show 1 ≤ (16 : Int) from by (first | omega | (simp only [st_s] <;> omega) | assumption | omega | fail)) (show (16 : Int) ≤ 19 from by (first | omega | (simp only [st_s] <;> omega) | assumption | omega | fail)), ?_⟩
              intro τ54 hn_τ54 hf_τ54 hq
              obtain ⟨hT, q52_1, q52_2⟩ := hq
              replace q52_1 : ¬ (τ54.1 35) = 0 := q52_1
              replace q52_2 : ¬ (τ43.1 35) = 0 → (τ54.1 35) = (τ43.1 35) := q52_2
              have w3_τ54 : τ54.1 3 = τ43.1 3 := hf_τ54.1 3 (by decide)
              have w30_τ54 : τ54.1 30 = τ43.1 30 := hf_τ54.1 30 (by decide)
              have w31_τ54 : τ54.1 31 = τ43.1 31 := hf_τ54.1 31 (by decide)
              have w33_τ54 : τ54.1 33 = τ43.1 33 := hf_τ54.1 33 (by decide)
              have w34_τ54 : τ54.1 34 = τ43.1 34 := hf_τ54.1 34 (by decide)
              have g8_τ54 : τ54.2.1 8 = τ43.2.1 8 := hf_τ54.2.1 8 (by decide)
              have g13_τ54 : τ54.2.1 13 = τ43.2.1 13 := hf_τ54.2.1 13 (by decide)
              have g14_τ54 : τ54.2.1 14 = τ43.2.1 14 := hf_τ54.2.1 14 (by decide)
              have g15_τ54 : τ54.2.1 15 = τ43.2.1 15 := hf_τ54.2.1 15 (by decide)
              have g16_τ54 : τ54.2.1 16 = τ43.2.1 16 := hf_τ54.2.1 16 (by decide)
              have g17_τ54 : τ54.2.1 17 = τ43.2.1 17 := hf_τ54.2.1 17 (by decide)
              have g18_τ54 : τ54.2.1 18 = τ43.2.1 18 := hf_τ54.2.1 18 (by decide)
              have g19_τ54 : τ54.2.1 19 = τ43.2.1 19 := hf_τ54.2.1 19 (by decide)
              have g20_τ54 : τ54.2.1 20 = τ43.2.1 20 := hf_τ54.2.1 20 (by decide)
              have g21_τ54 : τ54.2.1 21 = τ43.2.1 21 := hf_τ54.2.1 21 (by decide)
              have g22_τ54 : τ54.2.1 22 = τ43.2.1 22 := hf_τ54.2.1 22 (by decide)
              have g40_τ54 : τ54.2.1 40 = τ43.2.1 40 := hf_τ54.2.1 40 (by decide)
              have g41_τ54 : τ54.2.1 41 = τ43.2.1 41 := hf_τ54.2.1 41 (by decide)
              have g43_τ54 : τ54.2.1 43 = τ43.2.1 43 := hf_τ54.2.1 43 (by decide)
              have g48_τ54 : τ54.2.1 48 = τ43.2.1 48 := hf_τ54.2.1 48 (by decide)
              have g49_τ54 : τ54.2.1 49 = τ43.2.1 49 := hf_τ54.2.1 49 (by decide)
              have g50_τ54 : τ54.2.1 50 = τ43.2.1 50 := hf_τ54.2.1 50 (by decide)
              have W3 : τ54.1 3 = σ.1 3 := by first | exact w3_τ54.trans W3 | omega
              have W33 : τ54.1 33 = σ.1 33 := by first | exact w33_τ54.trans W33 | omega
              have G8 : τ54.2.1 8 = σ.2.1 8 := (g8_τ54).trans G8
              have G13 : τ54.2.1 13 = σ.2.1 13 := (g13_τ54).trans G13
              have G14 : τ54.2.1 14 = σ.2.1 14 := (g14_τ54).trans G14
              have G15 : τ54.2.1 15 = σ.2.1 15 := (g15_τ54).trans G15
              have G16 : τ54.2.1 16 = σ.2.1 16 := (g16_τ54).trans G16
              have G17 : τ54.2.1 17 = σ.2.1 17 := (g17_τ54).trans G17
              have G18 : τ54.2.1 18 = σ.2.1 18 := (g18_τ54).trans G18
              have G19 : τ54.2.1 19 = σ.2.1 19 := (g19_τ54).trans G19
              have G20 : τ54.2.1 20 = σ.2.1 20 := (g20_τ54).trans G20
              have G21 : τ54.2.1 21 = σ.2.1 21 := (g21_τ54).trans G21
              have G22 : τ54.2.1 22 = σ.2.1 22 := (g22_τ54).trans G22
              have A8 : ∀ j, 0 ≤ τ54.2.1 8 j ∧ τ54.2.1 8 j ≤ 1 := fun j => hT.2 8 j
              have A13 : ∀ j, 0 ≤ τ54.2.1 13 j ∧ τ54.2.1 13 j ≤ 4 := fun j => hT.2 13 j
              have A14 : ∀ j, 0 ≤ τ54.2.1 14 j ∧ τ54.2.1 14 j ≤ 30000 := fun j => hT.2 14 j
              have A15 : ∀ j, 0 ≤ τ54.2.1 15 j ∧ τ54.2.1 15 j ≤ 300 := fun j => hT.2 15 j
              have A16 : ∀ j, 0 ≤ τ54.2.1 16 j ∧ τ54.2.1 16 j ≤ 999 := fun j => hT.2 16 j
              have A17 : ∀ j, (-1) ≤ τ54.2.1 17 j ∧ τ54.2.1 17 j ≤ 1499 := fun j => hT.2 17 j
              have A18 : ∀ j, 0 ≤ τ54.2.1 18 j ∧ τ54.2.1 18 j ≤ 90000 := fun j => hT.2 18 j
              have A19 : ∀ j, 0 ≤ τ54.2.1 19 j ∧ τ54.2.1 19 j ≤ 60 := fun j => hT.2 19 j
              have A20 : ∀ j, 0 ≤ τ54.2.1 20 j ∧ τ54.2.1 20 j ≤ 1499 := fun j => hT.2 20 j
              have A21 : ∀ j, 0 ≤ τ54.2.1 21 j ∧ τ54.2.1 21 j ≤ 20000 := fun j => hT.2 21 j
              have A22 : ∀ j, 0 ≤ τ54.2.1 22 j ∧ τ54.2.1 22 j ≤ 20000 := fun j => hT.2 22 j
              have A40 : ∀ j, 0 ≤ τ54.2.1 40 j ∧ τ54.2.1 40 j ≤ 40000 := fun j => hT.2 40 j
              have A41 : ∀ j, 0 ≤ τ54.2.1 41 j ∧ τ54.2.1 41 j ≤ 1000 := fun j => hT.2 41 j
              have A43 : ∀ j, 0 ≤ τ54.2.1 43 j ∧ τ54.2.1 43 j ≤ 999 := fun j => hT.2 43 j
              have A48 : ∀ j, 0 ≤ τ54.2.1 48 j ∧ τ54.2.1 48 j ≤ 40001 := fun j => hT.2 48 j
              have A49 : ∀ j, 0 ≤ τ54.2.1 49 j ∧ τ54.2.1 49 j ≤ 1000 := fun j => hT.2 49 j
              have A50 : ∀ j, 0 ≤ τ54.2.1 50 j ∧ τ54.2.1 50 j ≤ 999 := fun j => hT.2 50 j
              have v3 : 0 ≤ τ54.1 3 ∧ τ54.1 3 ≤ 1000 := hT.1 3
              have v30 : 0 ≤ τ54.1 30 ∧ τ54.1 30 ≤ 200 := hT.1 30
              have v31 : 0 ≤ τ54.1 31 ∧ τ54.1 31 ≤ 40000 := hT.1 31
              have v33 : 0 ≤ τ54.1 33 ∧ τ54.1 33 ≤ 40000 := hT.1 33
              have v34 : 0 ≤ τ54.1 34 ∧ τ54.1 34 ≤ 1001 := hT.1 34
              have v35 : 0 ≤ τ54.1 35 ∧ τ54.1 35 ≤ 19 := hT.1 35
              exact ⟨hT, (show (σ.1 35) = 0 → (τ54.1 35) = 0 → 1 ≤ (τ54.1 30) from by (first | omega | (simp only [st_s] <;> omega) | assumption | omega | fail)), (show ¬ (σ.1 35) = 0 → (τ54.1 35) = (σ.1 35) from by (first | omega | (simp only [st_s] <;> omega) | assumption | omega | fail)), (show (σ.1 35) = 0 → (τ54.1 35) = 0 → n_aA σ τ54 n1 from by (first | (intro _ z; exfalso; omega) | (intro y z; have o := (pu (by first | (show τ93.1 35 = 0; omega) | omega) z).1; have o1 : ¬ u5_294 = 200 := o.1; have o3 := o.2.2; rw [ek] at o3; have o3 : sm (σ.2.1 41) u5_294 + τ93.1 33 + τ93.1 34 ≤ 40000 := o3; have e := q2c.resolve_right (by omega); have f := ap z; rw [e.1, q3c.1] at f; have u := i294_8; rw [u.2] at f o3 o1; exact ⟨by omega, fun k k0 k1 q => (by have w := (i294_9 k k0 (by omega) q).1; rw [u.2] at w; exact w), _, bz, ⟨by omega, by rw [← e.1]; omega, by rw [← e.1]; omega⟩, nz, f⟩) | fail)), (show n3 = 0 → (σ.1 35) = 0 → n_aB σ n1 → (τ54.1 35) = 0 from by (first | (intro _ _ h; exfalso; omega) | (intro _ _ h; exfalso; have u := i36_8; have w := h.2.1 u6_36 (by omega) (by omega) (by rw [← e_x14]; assumption); rw [← u.2] at w; first | omega | (have w2 : σ.2.1 43 (σ.2.1 40 (u5_36 + u6_36)) = _ := w.2; rw [← e_x22, ← e_x25] at w2; omega)) | (intro _ _ h; have hh := h.1; exfalso; omega) | (intro y1 y2 h; have q9 := h; obtain ⟨b1, b2, bs, b3, b4, b5, b6⟩ := q9; have eq : n_zz σ n1 (τ_294.2.1 49) = n_zz σ n1 bs := n_sz_u p9 p10 bz b3; have u := i294_8; rw [← eq] at b5 b6; rw [← u.2] at b4 b6; have e := q2c.resolve_right (by omega); exact q97_4 (by first | (show τ93.1 35 = 0; omega) | omega) ⟨(show ¬ u5_294 = 200 from by omega), by omega, by (rw [ek]; show sm (σ.2.1 41) u5_294 + τ93.1 33 + τ93.1 34 ≤ 40000; omega)⟩) | fail))⟩
  have l_36 : ∀ (m_36 : Nat) (u4_36 : Int) (u5_36 : Int) (u6_36 : Int) (τ_36 : S0), 61 - u6_36 < (m_36 : Int) → (m_T τ_36) → (τ_36.1 3 = σ.1 3) → (τ_36.1 33 = σ.1 33) → (τ_36.2.1 8 = σ.2.1 8) → (τ_36.2.1 13 = σ.2.1 13) → (τ_36.2.1 14 = σ.2.1 14) → (τ_36.2.1 15 = σ.2.1 15) → (τ_36.2.1 16 = σ.2.1 16) → (τ_36.2.1 17 = σ.2.1 17) → (τ_36.2.1 18 = σ.2.1 18) → (τ_36.2.1 19 = σ.2.1 19) → (τ_36.2.1 20 = σ.2.1 20) → (τ_36.2.1 21 = σ.2.1 21) → (τ_36.2.1 22 = σ.2.1 22) → (0 ≤ u4_36) → (u4_36 ≤ 60) → (0 ≤ u5_36) → (u5_36 + u4_36 ≤ 200) → (0 ≤ u6_36) → (u6_36 ≤ u4_36) → ((τ_36.1 35) = (σ.1 35)) → (u4_36 = σ.2.1 19 n1 ∧ u5_36 = (σ.1 30) - σ.2.1 19 n1) → (n_fl2 n1 u5_36 u6_36 (σ.2.1 13) (σ.2.1 14) (σ.2.1 16) (σ.2.1 18) (σ.2.1 20) (σ.2.1 41) (n_F2 σ) (τ_36.2.1 49)) → (τ_36.2.1 40 = σ.2.1 40 ∧ τ_36.2.1 41 = σ.2.1 41 ∧ τ_36.2.1 43 = σ.2.1 43) → ((τ_36.1 30) = (σ.1 30) ∧ (τ_36.1 31) = (σ.1 31)) → P36 n1 n2 n3 u4_36 u5_36 u6_36 τ_36 := by
    intro m_36
    induction m_36 with
    | zero =>
      intro u4_36 u5_36 u6_36 τ_36 hm hT W3 W33 G8 G13 G14 G15 G16 G17 G18 G19 G20 G21 G22 i36_1 i36_2 i36_3 i36_4 i36_5 i36_6 i36_7 i36_8 i36_9 i36_10 i36_11
      have A8 : ∀ j, 0 ≤ τ_36.2.1 8 j ∧ τ_36.2.1 8 j ≤ 1 := fun j => hT.2 8 j
      have A13 : ∀ j, 0 ≤ τ_36.2.1 13 j ∧ τ_36.2.1 13 j ≤ 4 := fun j => hT.2 13 j
      have A14 : ∀ j, 0 ≤ τ_36.2.1 14 j ∧ τ_36.2.1 14 j ≤ 30000 := fun j => hT.2 14 j
      have A15 : ∀ j, 0 ≤ τ_36.2.1 15 j ∧ τ_36.2.1 15 j ≤ 300 := fun j => hT.2 15 j
      have A16 : ∀ j, 0 ≤ τ_36.2.1 16 j ∧ τ_36.2.1 16 j ≤ 999 := fun j => hT.2 16 j
      have A17 : ∀ j, (-1) ≤ τ_36.2.1 17 j ∧ τ_36.2.1 17 j ≤ 1499 := fun j => hT.2 17 j
      have A18 : ∀ j, 0 ≤ τ_36.2.1 18 j ∧ τ_36.2.1 18 j ≤ 90000 := fun j => hT.2 18 j
      have A19 : ∀ j, 0 ≤ τ_36.2.1 19 j ∧ τ_36.2.1 19 j ≤ 60 := fun j => hT.2 19 j
      have A20 : ∀ j, 0 ≤ τ_36.2.1 20 j ∧ τ_36.2.1 20 j ≤ 1499 := fun j => hT.2 20 j
      have A21 : ∀ j, 0 ≤ τ_36.2.1 21 j ∧ τ_36.2.1 21 j ≤ 20000 := fun j => hT.2 21 j
      have A22 : ∀ j, 0 ≤ τ_36.2.1 22 j ∧ τ_36.2.1 22 j ≤ 20000 := fun j => hT.2 22 j
      have A40 : ∀ j, 0 ≤ τ_36.2.1 40 j ∧ τ_36.2.1 40 j ≤ 40000 := fun j => hT.2 40 j
      have A41 : ∀ j, 0 ≤ τ_36.2.1 41 j ∧ τ_36.2.1 41 j ≤ 1000 := fun j => hT.2 41 j
      have A43 : ∀ j, 0 ≤ τ_36.2.1 43 j ∧ τ_36.2.1 43 j ≤ 999 := fun j => hT.2 43 j
      have A48 : ∀ j, 0 ≤ τ_36.2.1 48 j ∧ τ_36.2.1 48 j ≤ 40001 := fun j => hT.2 48 j
      have A49 : ∀ j, 0 ≤ τ_36.2.1 49 j ∧ τ_36.2.1 49 j ≤ 1000 := fun j => hT.2 49 j
      have A50 : ∀ j, 0 ≤ τ_36.2.1 50 j ∧ τ_36.2.1 50 j ≤ 999 := fun j => hT.2 50 j
      have v3 : 0 ≤ τ_36.1 3 ∧ τ_36.1 3 ≤ 1000 := hT.1 3
      have v30 : 0 ≤ τ_36.1 30 ∧ τ_36.1 30 ≤ 200 := hT.1 30
      have v31 : 0 ≤ τ_36.1 31 ∧ τ_36.1 31 ≤ 40000 := hT.1 31
      have v33 : 0 ≤ τ_36.1 33 ∧ τ_36.1 33 ≤ 40000 := hT.1 33
      have v34 : 0 ≤ τ_36.1 34 ∧ τ_36.1 34 ≤ 1001 := hT.1 34
      have v35 : 0 ≤ τ_36.1 35 ∧ τ_36.1 35 ≤ 19 := hT.1 35
      exfalso; (first | omega | (simp only [st_s] <;> omega) | assumption | omega | fail)
    | succ m_36 ih_36 =>
      intro u4_36 u5_36 u6_36 τ_36 hm_36 hT W3 W33 G8 G13 G14 G15 G16 G17 G18 G19 G20 G21 G22 i36_1 i36_2 i36_3 i36_4 i36_5 i36_6 i36_7 i36_8 i36_9 i36_10 i36_11
      have A8 : ∀ j, 0 ≤ τ_36.2.1 8 j ∧ τ_36.2.1 8 j ≤ 1 := fun j => hT.2 8 j
      have A13 : ∀ j, 0 ≤ τ_36.2.1 13 j ∧ τ_36.2.1 13 j ≤ 4 := fun j => hT.2 13 j
      have A14 : ∀ j, 0 ≤ τ_36.2.1 14 j ∧ τ_36.2.1 14 j ≤ 30000 := fun j => hT.2 14 j
      have A15 : ∀ j, 0 ≤ τ_36.2.1 15 j ∧ τ_36.2.1 15 j ≤ 300 := fun j => hT.2 15 j
      have A16 : ∀ j, 0 ≤ τ_36.2.1 16 j ∧ τ_36.2.1 16 j ≤ 999 := fun j => hT.2 16 j
      have A17 : ∀ j, (-1) ≤ τ_36.2.1 17 j ∧ τ_36.2.1 17 j ≤ 1499 := fun j => hT.2 17 j
      have A18 : ∀ j, 0 ≤ τ_36.2.1 18 j ∧ τ_36.2.1 18 j ≤ 90000 := fun j => hT.2 18 j
      have A19 : ∀ j, 0 ≤ τ_36.2.1 19 j ∧ τ_36.2.1 19 j ≤ 60 := fun j => hT.2 19 j
      have A20 : ∀ j, 0 ≤ τ_36.2.1 20 j ∧ τ_36.2.1 20 j ≤ 1499 := fun j => hT.2 20 j
      have A21 : ∀ j, 0 ≤ τ_36.2.1 21 j ∧ τ_36.2.1 21 j ≤ 20000 := fun j => hT.2 21 j
      have A22 : ∀ j, 0 ≤ τ_36.2.1 22 j ∧ τ_36.2.1 22 j ≤ 20000 := fun j => hT.2 22 j
      have A40 : ∀ j, 0 ≤ τ_36.2.1 40 j ∧ τ_36.2.1 40 j ≤ 40000 := fun j => hT.2 40 j
      have A41 : ∀ j, 0 ≤ τ_36.2.1 41 j ∧ τ_36.2.1 41 j ≤ 1000 := fun j => hT.2 41 j
      have A43 : ∀ j, 0 ≤ τ_36.2.1 43 j ∧ τ_36.2.1 43 j ≤ 999 := fun j => hT.2 43 j
      have A48 : ∀ j, 0 ≤ τ_36.2.1 48 j ∧ τ_36.2.1 48 j ≤ 40001 := fun j => hT.2 48 j
      have A49 : ∀ j, 0 ≤ τ_36.2.1 49 j ∧ τ_36.2.1 49 j ≤ 1000 := fun j => hT.2 49 j
      have A50 : ∀ j, 0 ≤ τ_36.2.1 50 j ∧ τ_36.2.1 50 j ≤ 999 := fun j => hT.2 50 j
      have v3 : 0 ≤ τ_36.1 3 ∧ τ_36.1 3 ≤ 1000 := hT.1 3
      have v30 : 0 ≤ τ_36.1 30 ∧ τ_36.1 30 ≤ 200 := hT.1 30
      have v31 : 0 ≤ τ_36.1 31 ∧ τ_36.1 31 ≤ 40000 := hT.1 31
      have v33 : 0 ≤ τ_36.1 33 ∧ τ_36.1 33 ≤ 40000 := hT.1 33
      have v34 : 0 ≤ τ_36.1 34 ∧ τ_36.1 34 ≤ 1001 := hT.1 34
      have v35 : 0 ≤ τ_36.1 35 ∧ τ_36.1 35 ≤ 19 := hT.1 35
      refine h36 n1 n2 n3 u4_36 u5_36 u6_36 τ_36 ?_
      refine ⟨fun c8 => ?_, fun c8 => ?_⟩
      ·
        exact l_202 ((61 - 0 : Int).toNat + 1) _ _ _ _ (show (61 - 0 : Int) < (((61 - 0 : Int).toNat + 1 : Nat) : Int) from by ((first | omega | (simp only [st_s] <;> omega) | assumption | omega | fail))) hT (show τ_36.1 3 = σ.1 3 from by first | exact W3 | omega) (show τ_36.1 33 = σ.1 33 from by first | exact W33 | omega) G8 G13 G14 G15 G16 G17 G18 G19 G20 G21 G22 (show 0 ≤ u4_36 from by (first | omega | (simp only [st_s] <;> omega) | assumption | omega | fail)) (show u4_36 ≤ 60 from by (first | omega | (simp only [st_s] <;> omega) | assumption | omega | fail)) (show 0 ≤ u5_36 from by (first | omega | (simp only [st_s] <;> omega) | assumption | omega | fail)) (show u5_36 + u4_36 ≤ 200 from by (first | omega | (simp only [st_s] <;> omega) | assumption | omega | fail)) (show 0 ≤ 0 from by (first | omega | (simp only [st_s] <;> omega) | assumption | omega | fail)) (show 0 ≤ u4_36 from by (first | omega | (simp only [st_s] <;> omega) | assumption | omega | fail)) (show (τ_36.1 35) = (σ.1 35) from by (first | omega | (simp only [st_s] <;> omega) | assumption | omega | fail)) (show u4_36 = σ.2.1 19 n1 ∧ u5_36 = (σ.1 30) - σ.2.1 19 n1 from by (first | exact i36_8 | exact i202_8 | fail)) (show n_fl2 n1 u5_36 u4_36 (σ.2.1 13) (σ.2.1 14) (σ.2.1 16) (σ.2.1 18) (σ.2.1 20) (σ.2.1 41) (n_F2 σ) (τ_36.2.1 49) from by (first | exact i202_9 | (rw [g49_τ43]; exact i202_9) | (have w := i36_9; rw [show u6_36 = u4_36 from by omega] at w; exact w) | fail)) (show τ_36.2.1 40 = σ.2.1 40 ∧ τ_36.2.1 41 = σ.2.1 41 ∧ τ_36.2.1 43 = σ.2.1 43 from by (first | exact i202_10 | exact i36_10 | (rw [g40_τ43, g41_τ43, g43_τ43]; exact i202_10) | fail)) (show (τ_36.1 30) = (σ.1 30) ∧ (τ_36.1 31) = (σ.1 31) from by (first | exact i202_11 | exact i36_11 | omega | fail))
      ·
        refine ⟨(show 0 ≤ n1 ∧ n1 < 1501 from by (first | omega | (simp only [st_s] <;> omega) | assumption | omega | fail)), ?_⟩
        intro x10 r_x10 e_x10
        have b_x10 : 0 ≤ x10 ∧ x10 ≤ 90000 := by rw [e_x10]; exact hT.2 18 _
        rw [G18] at e_x10
        refine ⟨(show 0 ≤ (x10 + u6_36) ∧ (x10 + u6_36) < 90100 from by (first | omega | (simp only [st_s] <;> omega) | assumption | omega | fail)), ?_⟩
        intro x12 r_x12 e_x12
        have b_x12 : 0 ≤ x12 ∧ x12 ≤ 1499 := by rw [e_x12]; exact hT.2 20 _
        rw [G20, e_x10] at e_x12
        refine ⟨(show 0 ≤ x12 ∧ x12 < 1501 from by (first | omega | (simp only [st_s] <;> omega) | assumption | omega | fail)), ?_⟩
        intro x14 r_x14 e_x14
        have b_x14 : 0 ≤ x14 ∧ x14 ≤ 4 := by rw [e_x14]; exact hT.2 13 _
        rw [G13, e_x12] at e_x14
        refine ⟨fun c15 => ?_, fun c15 => ?_⟩
        ·
          refine ⟨(⟨by (first | omega | (simp only [st_s] <;> omega) | assumption | omega | fail), by (first | omega | (simp only [st_s] <;> omega) | assumption | omega | fail)⟩ : rg (u6_36 + 1)), ?_⟩
          exact ih_36 _ _ _ _ (show (61 - (u6_36 + 1) : Int) < ((m_36 : Nat) : Int) from by ((first | omega | (simp only [st_s] <;> omega) | assumption | omega | fail))) hT (show τ_36.1 3 = σ.1 3 from by first | exact W3 | omega) (show τ_36.1 33 = σ.1 33 from by first | exact W33 | omega) G8 G13 G14 G15 G16 G17 G18 G19 G20 G21 G22 (show 0 ≤ u4_36 from by (first | omega | (simp only [st_s] <;> omega) | assumption | omega | fail)) (show u4_36 ≤ 60 from by (first | omega | (simp only [st_s] <;> omega) | assumption | omega | fail)) (show 0 ≤ u5_36 from by (first | omega | (simp only [st_s] <;> omega) | assumption | omega | fail)) (show u5_36 + u4_36 ≤ 200 from by (first | omega | (simp only [st_s] <;> omega) | assumption | omega | fail)) (show 0 ≤ (u6_36 + 1) from by (first | omega | (simp only [st_s] <;> omega) | assumption | omega | fail)) (show (u6_36 + 1) ≤ u4_36 from by (first | omega | (simp only [st_s] <;> omega) | assumption | omega | fail)) (show (τ_36.1 35) = (σ.1 35) from by (first | omega | (simp only [st_s] <;> omega) | assumption | omega | fail)) (show u4_36 = σ.2.1 19 n1 ∧ u5_36 = (σ.1 30) - σ.2.1 19 n1 from by (first | exact ⟨by omega, by omega⟩ | exact ⟨e_x2, by rw [e_x2]⟩ | exact i36_8 | fail)) (show n_fl2 n1 u5_36 (u6_36 + 1) (σ.2.1 13) (σ.2.1 14) (σ.2.1 16) (σ.2.1 18) (σ.2.1 20) (σ.2.1 41) (n_F2 σ) (τ_36.2.1 49) from by (first | (intro k a b; exfalso; omega) | exact n_fl2_n i36_9 (by rw [← e_x14]; assumption) | exact n_fl2_a i36_9 p10 (by omega) (by rw [← e_x14]; assumption) ⟨by rw [← e_x18]; omega, by (show σ.2.1 43 (σ.2.1 40 (u5_36 + u6_36)) = _; rw [← e_x22, ← e_x25]; assumption)⟩ e_x66 (by rw [e_x67]) | fail)) (show τ_36.2.1 40 = σ.2.1 40 ∧ τ_36.2.1 41 = σ.2.1 41 ∧ τ_36.2.1 43 = σ.2.1 43 from by (first | exact ⟨rfl, rfl, rfl⟩ | exact i36_10 | fail)) (show (τ_36.1 30) = (σ.1 30) ∧ (τ_36.1 31) = (σ.1 31) from by (first | exact ⟨rfl, rfl⟩ | exact i36_11 | fail))
        ·
          refine ⟨(show 0 ≤ (u5_36 + u6_36) ∧ (u5_36 + u6_36) < 202 from by (first | omega | (simp only [st_s] <;> omega) | assumption | omega | fail)), ?_⟩
          intro x18 r_x18 e_x18
          have b_x18 : 0 ≤ x18 ∧ x18 ≤ 1000 := by rw [e_x18]; exact hT.2 41 _
          rw [i36_10.2.1] at e_x18
          refine ⟨fun c19 => ?_, fun c19 => ?_⟩
          ·
            refine h117 _ _ _ _ _ _ _ _ _ ?_
            refine ⟨fun c55 => ?_, fun c55 => ?_⟩
            ·
              refine ⟨(show 0 ≤ x12 ∧ x12 < 1501 from by (first | omega | (simp only [st_s] <;> omega) | assumption | omega | fail)), ?_⟩
              intro x57 r_x57 e_x57
              have b_x57 : 0 ≤ x57 ∧ x57 ≤ 30000 := by rw [e_x57]; exact hT.2 14 _
              rw [G14, e_x12] at e_x57
              refine ⟨(show 0 ≤ (x57 + 1) ∧ (x57 + 1) < 30400 from by (first | omega | (simp only [st_s] <;> omega) | assumption | omega | fail)), ?_⟩
              intro x59 r_x59 e_x59
              have b_x59 : 0 ≤ x59 ∧ x59 ≤ 999 := by rw [e_x59]; exact hT.2 16 _
              rw [G16, e_x57] at e_x59
              refine ⟨(show 0 ≤ (u5_36 + u6_36) ∧ (u5_36 + u6_36) < 202 from by (first | omega | (simp only [st_s] <;> omega) | assumption | omega | fail)), ?_⟩
              intro x61 r_x61 e_x61
              have b_x61 : 0 ≤ x61 ∧ x61 ≤ 40000 := by rw [e_x61]; exact hT.2 40 _
              refine ⟨(show 0 ≤ x59 ∧ x59 < 1001 from by (first | omega | (simp only [st_s] <;> omega) | assumption | omega | fail)), ?_⟩
              refine ⟨(⟨by (first | omega | (simp only [st_s] <;> omega) | assumption | omega | fail), by (first | omega | (simp only [st_s] <;> omega) | assumption | omega | fail)⟩ : rg (x61 + 1)), ?_⟩
              replace hT := mT_a (k := 48) (j := x59) hT (show (0 : Int) ≤ (x61 + 1) ∧ (x61 + 1) ≤ 40001 from by (first | omega | (simp only [st_s] <;> omega) | assumption | omega | fail))
              intro x64 r_x64 e_x64
              have b_x64 : 0 ≤ x64 ∧ x64 ≤ 30000 := by rw [e_x64]; exact hT.2 14 _
              rw [G14, e_x12] at e_x64
              refine ⟨(show 0 ≤ (x64 + 1) ∧ (x64 + 1) < 30400 from by (first | omega | (simp only [st_s] <;> omega) | assumption | omega | fail)), ?_⟩
              intro x66 r_x66 e_x66
              have b_x66 : 0 ≤ x66 ∧ x66 ≤ 999 := by rw [e_x66]; exact hT.2 16 _
              rw [G16, e_x64] at e_x66
              intro x67 r_x67 e_x67
              have b_x67 : 0 ≤ x67 ∧ x67 ≤ 1000 := by rw [e_x67]; exact hT.2 41 _
              rw [i36_10.2.1] at e_x67
              refine ⟨(show 0 ≤ x66 ∧ x66 < 1001 from by (first | omega | (simp only [st_s] <;> omega) | assumption | omega | fail)), ?_⟩
              refine ⟨(⟨by (first | omega | (simp only [st_s] <;> omega) | assumption | omega | fail), by (first | omega | (simp only [st_s] <;> omega) | assumption | omega | fail)⟩ : rg (x67 - 1)), ?_⟩
              replace hT := mT_a (k := 49) (j := x66) hT (show (0 : Int) ≤ (x67 - 1) ∧ (x67 - 1) ≤ 1000 from by (first | omega | (simp only [st_s] <;> omega) | assumption | omega | fail))
              refine ⟨(⟨by (first | omega | (simp only [st_s] <;> omega) | assumption | omega | fail), by (first | omega | (simp only [st_s] <;> omega) | assumption | omega | fail)⟩ : rg (u6_36 + 1)), ?_⟩
              exact ih_36 _ _ _ _ (show (61 - (u6_36 + 1) : Int) < ((m_36 : Nat) : Int) from by ((first | omega | (simp only [st_s] <;> omega) | assumption | omega | fail))) hT (show τ_36.1 3 = σ.1 3 from by first | exact W3 | omega) (show τ_36.1 33 = σ.1 33 from by first | exact W33 | omega) G8 G13 G14 G15 G16 G17 G18 G19 G20 G21 G22 (show 0 ≤ u4_36 from by (first | omega | (simp only [st_s] <;> omega) | assumption | omega | fail)) (show u4_36 ≤ 60 from by (first | omega | (simp only [st_s] <;> omega) | assumption | omega | fail)) (show 0 ≤ u5_36 from by (first | omega | (simp only [st_s] <;> omega) | assumption | omega | fail)) (show u5_36 + u4_36 ≤ 200 from by (first | omega | (simp only [st_s] <;> omega) | assumption | omega | fail)) (show 0 ≤ (u6_36 + 1) from by (first | omega | (simp only [st_s] <;> omega) | assumption | omega | fail)) (show (u6_36 + 1) ≤ u4_36 from by (first | omega | (simp only [st_s] <;> omega) | assumption | omega | fail)) (show (τ_36.1 35) = (σ.1 35) from by (first | omega | (simp only [st_s] <;> omega) | assumption | omega | fail)) (show u4_36 = σ.2.1 19 n1 ∧ u5_36 = (σ.1 30) - σ.2.1 19 n1 from by (first | exact ⟨by omega, by omega⟩ | exact ⟨e_x2, by rw [e_x2]⟩ | exact i36_8 | fail)) (show n_fl2 n1 u5_36 (u6_36 + 1) (σ.2.1 13) (σ.2.1 14) (σ.2.1 16) (σ.2.1 18) (σ.2.1 20) (σ.2.1 41) (n_F2 σ) ((st (τ_36.2.1 49) x66 (x67 - 1))) from by (first | (intro k a b; exfalso; omega) | exact n_fl2_n i36_9 (by rw [← e_x14]; assumption) | exact n_fl2_a i36_9 p10 (by omega) (by rw [← e_x14]; assumption) ⟨by rw [← e_x18]; omega, by (show σ.2.1 43 (σ.2.1 40 (u5_36 + u6_36)) = _; rw [← e_x22, ← e_x25]; assumption)⟩ e_x66 (by rw [e_x67]) | fail)) (show τ_36.2.1 40 = σ.2.1 40 ∧ τ_36.2.1 41 = σ.2.1 41 ∧ τ_36.2.1 43 = σ.2.1 43 from by (first | exact ⟨rfl, rfl, rfl⟩ | exact i36_10 | fail)) (show (τ_36.1 30) = (σ.1 30) ∧ (τ_36.1 31) = (σ.1 31) from by (first | exact ⟨rfl, rfl⟩ | exact i36_11 | fail))
            ·
              refine ⟨_, K_X13_wrong hT (show 1 ≤ (16 : Int) from by (first | omega | (simp only [st_s] <;> omega) | assumption | omega | fail)) (show (16 : Int) ≤ 19 from by (first | omega | (simp only [st_s] <;> omega) | assumption | omega | fail)), ?_⟩
              intro τ73 hn_τ73 hf_τ73 hq
              obtain ⟨hT, q71_1, q71_2⟩ := hq
              replace q71_1 : ¬ (τ73.1 35) = 0 := q71_1
              replace q71_2 : ¬ (τ_36.1 35) = 0 → (τ73.1 35) = (τ_36.1 35) := q71_2
              have w3_τ73 : τ73.1 3 = τ_36.1 3 := hf_τ73.1 3 (by decide)
              have w30_τ73 : τ73.1 30 = τ_36.1 30 := hf_τ73.1 30 (by decide)
              have w31_τ73 : τ73.1 31 = τ_36.1 31 := hf_τ73.1 31 (by decide)
              have w33_τ73 : τ73.1 33 = τ_36.1 33 := hf_τ73.1 33 (by decide)
              have w34_τ73 : τ73.1 34 = τ_36.1 34 := hf_τ73.1 34 (by decide)
              have g8_τ73 : τ73.2.1 8 = τ_36.2.1 8 := hf_τ73.2.1 8 (by decide)
              have g13_τ73 : τ73.2.1 13 = τ_36.2.1 13 := hf_τ73.2.1 13 (by decide)
              have g14_τ73 : τ73.2.1 14 = τ_36.2.1 14 := hf_τ73.2.1 14 (by decide)
              have g15_τ73 : τ73.2.1 15 = τ_36.2.1 15 := hf_τ73.2.1 15 (by decide)
              have g16_τ73 : τ73.2.1 16 = τ_36.2.1 16 := hf_τ73.2.1 16 (by decide)
              have g17_τ73 : τ73.2.1 17 = τ_36.2.1 17 := hf_τ73.2.1 17 (by decide)
              have g18_τ73 : τ73.2.1 18 = τ_36.2.1 18 := hf_τ73.2.1 18 (by decide)
              have g19_τ73 : τ73.2.1 19 = τ_36.2.1 19 := hf_τ73.2.1 19 (by decide)
              have g20_τ73 : τ73.2.1 20 = τ_36.2.1 20 := hf_τ73.2.1 20 (by decide)
              have g21_τ73 : τ73.2.1 21 = τ_36.2.1 21 := hf_τ73.2.1 21 (by decide)
              have g22_τ73 : τ73.2.1 22 = τ_36.2.1 22 := hf_τ73.2.1 22 (by decide)
              have g40_τ73 : τ73.2.1 40 = τ_36.2.1 40 := hf_τ73.2.1 40 (by decide)
              have g41_τ73 : τ73.2.1 41 = τ_36.2.1 41 := hf_τ73.2.1 41 (by decide)
              have g43_τ73 : τ73.2.1 43 = τ_36.2.1 43 := hf_τ73.2.1 43 (by decide)
              have g48_τ73 : τ73.2.1 48 = τ_36.2.1 48 := hf_τ73.2.1 48 (by decide)
              have g49_τ73 : τ73.2.1 49 = τ_36.2.1 49 := hf_τ73.2.1 49 (by decide)
              have g50_τ73 : τ73.2.1 50 = τ_36.2.1 50 := hf_τ73.2.1 50 (by decide)
              have W3 : τ73.1 3 = σ.1 3 := by first | exact w3_τ73.trans W3 | omega
              have W33 : τ73.1 33 = σ.1 33 := by first | exact w33_τ73.trans W33 | omega
              have G8 : τ73.2.1 8 = σ.2.1 8 := (g8_τ73).trans G8
              have G13 : τ73.2.1 13 = σ.2.1 13 := (g13_τ73).trans G13
              have G14 : τ73.2.1 14 = σ.2.1 14 := (g14_τ73).trans G14
              have G15 : τ73.2.1 15 = σ.2.1 15 := (g15_τ73).trans G15
              have G16 : τ73.2.1 16 = σ.2.1 16 := (g16_τ73).trans G16
              have G17 : τ73.2.1 17 = σ.2.1 17 := (g17_τ73).trans G17
              have G18 : τ73.2.1 18 = σ.2.1 18 := (g18_τ73).trans G18
              have G19 : τ73.2.1 19 = σ.2.1 19 := (g19_τ73).trans G19
              have G20 : τ73.2.1 20 = σ.2.1 20 := (g20_τ73).trans G20
              have G21 : τ73.2.1 21 = σ.2.1 21 := (g21_τ73).trans G21
              have G22 : τ73.2.1 22 = σ.2.1 22 := (g22_τ73).trans G22
              have A8 : ∀ j, 0 ≤ τ73.2.1 8 j ∧ τ73.2.1 8 j ≤ 1 := fun j => hT.2 8 j
              have A13 : ∀ j, 0 ≤ τ73.2.1 13 j ∧ τ73.2.1 13 j ≤ 4 := fun j => hT.2 13 j
              have A14 : ∀ j, 0 ≤ τ73.2.1 14 j ∧ τ73.2.1 14 j ≤ 30000 := fun j => hT.2 14 j
              have A15 : ∀ j, 0 ≤ τ73.2.1 15 j ∧ τ73.2.1 15 j ≤ 300 := fun j => hT.2 15 j
              have A16 : ∀ j, 0 ≤ τ73.2.1 16 j ∧ τ73.2.1 16 j ≤ 999 := fun j => hT.2 16 j
              have A17 : ∀ j, (-1) ≤ τ73.2.1 17 j ∧ τ73.2.1 17 j ≤ 1499 := fun j => hT.2 17 j
              have A18 : ∀ j, 0 ≤ τ73.2.1 18 j ∧ τ73.2.1 18 j ≤ 90000 := fun j => hT.2 18 j
              have A19 : ∀ j, 0 ≤ τ73.2.1 19 j ∧ τ73.2.1 19 j ≤ 60 := fun j => hT.2 19 j
              have A20 : ∀ j, 0 ≤ τ73.2.1 20 j ∧ τ73.2.1 20 j ≤ 1499 := fun j => hT.2 20 j
              have A21 : ∀ j, 0 ≤ τ73.2.1 21 j ∧ τ73.2.1 21 j ≤ 20000 := fun j => hT.2 21 j
              have A22 : ∀ j, 0 ≤ τ73.2.1 22 j ∧ τ73.2.1 22 j ≤ 20000 := fun j => hT.2 22 j
              have A40 : ∀ j, 0 ≤ τ73.2.1 40 j ∧ τ73.2.1 40 j ≤ 40000 := fun j => hT.2 40 j
              have A41 : ∀ j, 0 ≤ τ73.2.1 41 j ∧ τ73.2.1 41 j ≤ 1000 := fun j => hT.2 41 j
              have A43 : ∀ j, 0 ≤ τ73.2.1 43 j ∧ τ73.2.1 43 j ≤ 999 := fun j => hT.2 43 j
              have A48 : ∀ j, 0 ≤ τ73.2.1 48 j ∧ τ73.2.1 48 j ≤ 40001 := fun j => hT.2 48 j
              have A49 : ∀ j, 0 ≤ τ73.2.1 49 j ∧ τ73.2.1 49 j ≤ 1000 := fun j => hT.2 49 j
              have A50 : ∀ j, 0 ≤ τ73.2.1 50 j ∧ τ73.2.1 50 j ≤ 999 := fun j => hT.2 50 j
              have v3 : 0 ≤ τ73.1 3 ∧ τ73.1 3 ≤ 1000 := hT.1 3
              have v30 : 0 ≤ τ73.1 30 ∧ τ73.1 30 ≤ 200 := hT.1 30
              have v31 : 0 ≤ τ73.1 31 ∧ τ73.1 31 ≤ 40000 := hT.1 31
              have v33 : 0 ≤ τ73.1 33 ∧ τ73.1 33 ≤ 40000 := hT.1 33
              have v34 : 0 ≤ τ73.1 34 ∧ τ73.1 34 ≤ 1001 := hT.1 34
              have v35 : 0 ≤ τ73.1 35 ∧ τ73.1 35 ≤ 19 := hT.1 35
              exact ⟨hT, (show (σ.1 35) = 0 → (τ73.1 35) = 0 → 1 ≤ (τ73.1 30) from by (first | omega | (simp only [st_s] <;> omega) | assumption | omega | fail)), (show ¬ (σ.1 35) = 0 → (τ73.1 35) = (σ.1 35) from by (first | omega | (simp only [st_s] <;> omega) | assumption | omega | fail)), (show (σ.1 35) = 0 → (τ73.1 35) = 0 → n_aA σ τ73 n1 from by (first | (intro _ z; exfalso; omega) | (intro y z; have o := (pu (by first | (show τ93.1 35 = 0; omega) | omega) z).1; have o1 : ¬ u5_294 = 200 := o.1; have o3 := o.2.2; rw [ek] at o3; have o3 : sm (σ.2.1 41) u5_294 + τ93.1 33 + τ93.1 34 ≤ 40000 := o3; have e := q2c.resolve_right (by omega); have f := ap z; rw [e.1, q3c.1] at f; have u := i294_8; rw [u.2] at f o3 o1; exact ⟨by omega, fun k k0 k1 q => (by have w := (i294_9 k k0 (by omega) q).1; rw [u.2] at w; exact w), _, bz, ⟨by omega, by rw [← e.1]; omega, by rw [← e.1]; omega⟩, nz, f⟩) | fail)), (show n3 = 0 → (σ.1 35) = 0 → n_aB σ n1 → (τ73.1 35) = 0 from by (first | (intro _ _ h; exfalso; omega) | (intro _ _ h; exfalso; have u := i36_8; have w := h.2.1 u6_36 (by omega) (by omega) (by rw [← e_x14]; assumption); rw [← u.2] at w; first | omega | (have w2 : σ.2.1 43 (σ.2.1 40 (u5_36 + u6_36)) = _ := w.2; rw [← e_x22, ← e_x25] at w2; omega)) | (intro _ _ h; have hh := h.1; exfalso; omega) | (intro y1 y2 h; have q9 := h; obtain ⟨b1, b2, bs, b3, b4, b5, b6⟩ := q9; have eq : n_zz σ n1 (τ_294.2.1 49) = n_zz σ n1 bs := n_sz_u p9 p10 bz b3; have u := i294_8; rw [← eq] at b5 b6; rw [← u.2] at b4 b6; have e := q2c.resolve_right (by omega); exact q97_4 (by first | (show τ93.1 35 = 0; omega) | omega) ⟨(show ¬ u5_294 = 200 from by omega), by omega, by (rw [ek]; show sm (σ.2.1 41) u5_294 + τ93.1 33 + τ93.1 34 ≤ 40000; omega)⟩) | fail))⟩
          ·
            intro x20 r_x20 e_x20
            have b_x20 : 0 ≤ x20 ∧ x20 ≤ 40000 := by rw [e_x20]; exact hT.2 40 _
            rw [i36_10.1] at e_x20
            refine ⟨(show 0 ≤ x20 ∧ x20 < 42000 from by (first | omega | (simp only [st_s] <;> omega) | assumption | omega | fail)), ?_⟩
            intro x22 r_x22 e_x22
            have b_x22 : 0 ≤ x22 ∧ x22 ≤ 999 := by rw [e_x22]; exact hT.2 43 _
            rw [i36_10.2.2, e_x20] at e_x22
            intro x23 r_x23 e_x23
            have b_x23 : 0 ≤ x23 ∧ x23 ≤ 30000 := by rw [e_x23]; exact hT.2 14 _
            rw [G14, e_x12] at e_x23
            refine ⟨(show 0 ≤ x23 ∧ x23 < 30400 from by (first | omega | (simp only [st_s] <;> omega) | assumption | omega | fail)), ?_⟩
            intro x25 r_x25 e_x25
            have b_x25 : 0 ≤ x25 ∧ x25 ≤ 999 := by rw [e_x25]; exact hT.2 16 _
            rw [G16, e_x23] at e_x25
            refine ⟨fun c26 => ?_, fun c26 => ?_⟩
            ·
              refine h117 _ _ _ _ _ _ _ _ _ ?_
              refine ⟨fun c55 => ?_, fun c55 => ?_⟩
              ·
                refine ⟨(show 0 ≤ x12 ∧ x12 < 1501 from by (first | omega | (simp only [st_s] <;> omega) | assumption | omega | fail)), ?_⟩
                intro x57 r_x57 e_x57
                have b_x57 : 0 ≤ x57 ∧ x57 ≤ 30000 := by rw [e_x57]; exact hT.2 14 _
                rw [G14, e_x12] at e_x57
                refine ⟨(show 0 ≤ (x57 + 1) ∧ (x57 + 1) < 30400 from by (first | omega | (simp only [st_s] <;> omega) | assumption | omega | fail)), ?_⟩
                intro x59 r_x59 e_x59
                have b_x59 : 0 ≤ x59 ∧ x59 ≤ 999 := by rw [e_x59]; exact hT.2 16 _
                rw [G16, e_x57] at e_x59
                refine ⟨(show 0 ≤ (u5_36 + u6_36) ∧ (u5_36 + u6_36) < 202 from by (first | omega | (simp only [st_s] <;> omega) | assumption | omega | fail)), ?_⟩
                intro x61 r_x61 e_x61
                have b_x61 : 0 ≤ x61 ∧ x61 ≤ 40000 := by rw [e_x61]; exact hT.2 40 _
                refine ⟨(show 0 ≤ x59 ∧ x59 < 1001 from by (first | omega | (simp only [st_s] <;> omega) | assumption | omega | fail)), ?_⟩
                refine ⟨(⟨by (first | omega | (simp only [st_s] <;> omega) | assumption | omega | fail), by (first | omega | (simp only [st_s] <;> omega) | assumption | omega | fail)⟩ : rg (x61 + 1)), ?_⟩
                replace hT := mT_a (k := 48) (j := x59) hT (show (0 : Int) ≤ (x61 + 1) ∧ (x61 + 1) ≤ 40001 from by (first | omega | (simp only [st_s] <;> omega) | assumption | omega | fail))
                intro x64 r_x64 e_x64
                have b_x64 : 0 ≤ x64 ∧ x64 ≤ 30000 := by rw [e_x64]; exact hT.2 14 _
                rw [G14, e_x12] at e_x64
                refine ⟨(show 0 ≤ (x64 + 1) ∧ (x64 + 1) < 30400 from by (first | omega | (simp only [st_s] <;> omega) | assumption | omega | fail)), ?_⟩
                intro x66 r_x66 e_x66
                have b_x66 : 0 ≤ x66 ∧ x66 ≤ 999 := by rw [e_x66]; exact hT.2 16 _
                rw [G16, e_x64] at e_x66
                intro x67 r_x67 e_x67
                have b_x67 : 0 ≤ x67 ∧ x67 ≤ 1000 := by rw [e_x67]; exact hT.2 41 _
                rw [i36_10.2.1] at e_x67
                refine ⟨(show 0 ≤ x66 ∧ x66 < 1001 from by (first | omega | (simp only [st_s] <;> omega) | assumption | omega | fail)), ?_⟩
                refine ⟨(⟨by (first | omega | (simp only [st_s] <;> omega) | assumption | omega | fail), by (first | omega | (simp only [st_s] <;> omega) | assumption | omega | fail)⟩ : rg (x67 - 1)), ?_⟩
                replace hT := mT_a (k := 49) (j := x66) hT (show (0 : Int) ≤ (x67 - 1) ∧ (x67 - 1) ≤ 1000 from by (first | omega | (simp only [st_s] <;> omega) | assumption | omega | fail))
                refine ⟨(⟨by (first | omega | (simp only [st_s] <;> omega) | assumption | omega | fail), by (first | omega | (simp only [st_s] <;> omega) | assumption | omega | fail)⟩ : rg (u6_36 + 1)), ?_⟩
                exact ih_36 _ _ _ _ (show (61 - (u6_36 + 1) : Int) < ((m_36 : Nat) : Int) from by ((first | omega | (simp only [st_s] <;> omega) | assumption | omega | fail))) hT (show τ_36.1 3 = σ.1 3 from by first | exact W3 | omega) (show τ_36.1 33 = σ.1 33 from by first | exact W33 | omega) G8 G13 G14 G15 G16 G17 G18 G19 G20 G21 G22 (show 0 ≤ u4_36 from by (first | omega | (simp only [st_s] <;> omega) | assumption | omega | fail)) (show u4_36 ≤ 60 from by (first | omega | (simp only [st_s] <;> omega) | assumption | omega | fail)) (show 0 ≤ u5_36 from by (first | omega | (simp only [st_s] <;> omega) | assumption | omega | fail)) (show u5_36 + u4_36 ≤ 200 from by (first | omega | (simp only [st_s] <;> omega) | assumption | omega | fail)) (show 0 ≤ (u6_36 + 1) from by (first | omega | (simp only [st_s] <;> omega) | assumption | omega | fail)) (show (u6_36 + 1) ≤ u4_36 from by (first | omega | (simp only [st_s] <;> omega) | assumption | omega | fail)) (show (τ_36.1 35) = (σ.1 35) from by (first | omega | (simp only [st_s] <;> omega) | assumption | omega | fail)) (show u4_36 = σ.2.1 19 n1 ∧ u5_36 = (σ.1 30) - σ.2.1 19 n1 from by (first | exact ⟨by omega, by omega⟩ | exact ⟨e_x2, by rw [e_x2]⟩ | exact i36_8 | fail)) (show n_fl2 n1 u5_36 (u6_36 + 1) (σ.2.1 13) (σ.2.1 14) (σ.2.1 16) (σ.2.1 18) (σ.2.1 20) (σ.2.1 41) (n_F2 σ) ((st (τ_36.2.1 49) x66 (x67 - 1))) from by (first | (intro k a b; exfalso; omega) | exact n_fl2_n i36_9 (by rw [← e_x14]; assumption) | exact n_fl2_a i36_9 p10 (by omega) (by rw [← e_x14]; assumption) ⟨by rw [← e_x18]; omega, by (show σ.2.1 43 (σ.2.1 40 (u5_36 + u6_36)) = _; rw [← e_x22, ← e_x25]; assumption)⟩ e_x66 (by rw [e_x67]) | fail)) (show τ_36.2.1 40 = σ.2.1 40 ∧ τ_36.2.1 41 = σ.2.1 41 ∧ τ_36.2.1 43 = σ.2.1 43 from by (first | exact ⟨rfl, rfl, rfl⟩ | exact i36_10 | fail)) (show (τ_36.1 30) = (σ.1 30) ∧ (τ_36.1 31) = (σ.1 31) from by (first | exact ⟨rfl, rfl⟩ | exact i36_11 | fail))
              ·
                refine ⟨_, K_X13_wrong hT (show 1 ≤ (16 : Int) from by (first | omega | (simp only [st_s] <;> omega) | assumption | omega | fail)) (show (16 : Int) ≤ 19 from by (first | omega | (simp only [st_s] <;> omega) | assumption | omega | fail)), ?_⟩
                intro τ73 hn_τ73 hf_τ73 hq
                obtain ⟨hT, q71_1, q71_2⟩ := hq
                replace q71_1 : ¬ (τ73.1 35) = 0 := q71_1
                replace q71_2 : ¬ (τ_36.1 35) = 0 → (τ73.1 35) = (τ_36.1 35) := q71_2
                have w3_τ73 : τ73.1 3 = τ_36.1 3 := hf_τ73.1 3 (by decide)
                have w30_τ73 : τ73.1 30 = τ_36.1 30 := hf_τ73.1 30 (by decide)
                have w31_τ73 : τ73.1 31 = τ_36.1 31 := hf_τ73.1 31 (by decide)
                have w33_τ73 : τ73.1 33 = τ_36.1 33 := hf_τ73.1 33 (by decide)
                have w34_τ73 : τ73.1 34 = τ_36.1 34 := hf_τ73.1 34 (by decide)
                have g8_τ73 : τ73.2.1 8 = τ_36.2.1 8 := hf_τ73.2.1 8 (by decide)
                have g13_τ73 : τ73.2.1 13 = τ_36.2.1 13 := hf_τ73.2.1 13 (by decide)
                have g14_τ73 : τ73.2.1 14 = τ_36.2.1 14 := hf_τ73.2.1 14 (by decide)
                have g15_τ73 : τ73.2.1 15 = τ_36.2.1 15 := hf_τ73.2.1 15 (by decide)
                have g16_τ73 : τ73.2.1 16 = τ_36.2.1 16 := hf_τ73.2.1 16 (by decide)
                have g17_τ73 : τ73.2.1 17 = τ_36.2.1 17 := hf_τ73.2.1 17 (by decide)
                have g18_τ73 : τ73.2.1 18 = τ_36.2.1 18 := hf_τ73.2.1 18 (by decide)
                have g19_τ73 : τ73.2.1 19 = τ_36.2.1 19 := hf_τ73.2.1 19 (by decide)
                have g20_τ73 : τ73.2.1 20 = τ_36.2.1 20 := hf_τ73.2.1 20 (by decide)
                have g21_τ73 : τ73.2.1 21 = τ_36.2.1 21 := hf_τ73.2.1 21 (by decide)
                have g22_τ73 : τ73.2.1 22 = τ_36.2.1 22 := hf_τ73.2.1 22 (by decide)
                have g40_τ73 : τ73.2.1 40 = τ_36.2.1 40 := hf_τ73.2.1 40 (by decide)
                have g41_τ73 : τ73.2.1 41 = τ_36.2.1 41 := hf_τ73.2.1 41 (by decide)
                have g43_τ73 : τ73.2.1 43 = τ_36.2.1 43 := hf_τ73.2.1 43 (by decide)
                have g48_τ73 : τ73.2.1 48 = τ_36.2.1 48 := hf_τ73.2.1 48 (by decide)
                have g49_τ73 : τ73.2.1 49 = τ_36.2.1 49 := hf_τ73.2.1 49 (by decide)
                have g50_τ73 : τ73.2.1 50 = τ_36.2.1 50 := hf_τ73.2.1 50 (by decide)
                have W3 : τ73.1 3 = σ.1 3 := by first | exact w3_τ73.trans W3 | omega
                have W33 : τ73.1 33 = σ.1 33 := by first | exact w33_τ73.trans W33 | omega
                have G8 : τ73.2.1 8 = σ.2.1 8 := (g8_τ73).trans G8
                have G13 : τ73.2.1 13 = σ.2.1 13 := (g13_τ73).trans G13
                have G14 : τ73.2.1 14 = σ.2.1 14 := (g14_τ73).trans G14
                have G15 : τ73.2.1 15 = σ.2.1 15 := (g15_τ73).trans G15
                have G16 : τ73.2.1 16 = σ.2.1 16 := (g16_τ73).trans G16
                have G17 : τ73.2.1 17 = σ.2.1 17 := (g17_τ73).trans G17
                have G18 : τ73.2.1 18 = σ.2.1 18 := (g18_τ73).trans G18
                have G19 : τ73.2.1 19 = σ.2.1 19 := (g19_τ73).trans G19
                have G20 : τ73.2.1 20 = σ.2.1 20 := (g20_τ73).trans G20
                have G21 : τ73.2.1 21 = σ.2.1 21 := (g21_τ73).trans G21
                have G22 : τ73.2.1 22 = σ.2.1 22 := (g22_τ73).trans G22
                have A8 : ∀ j, 0 ≤ τ73.2.1 8 j ∧ τ73.2.1 8 j ≤ 1 := fun j => hT.2 8 j
                have A13 : ∀ j, 0 ≤ τ73.2.1 13 j ∧ τ73.2.1 13 j ≤ 4 := fun j => hT.2 13 j
                have A14 : ∀ j, 0 ≤ τ73.2.1 14 j ∧ τ73.2.1 14 j ≤ 30000 := fun j => hT.2 14 j
                have A15 : ∀ j, 0 ≤ τ73.2.1 15 j ∧ τ73.2.1 15 j ≤ 300 := fun j => hT.2 15 j
                have A16 : ∀ j, 0 ≤ τ73.2.1 16 j ∧ τ73.2.1 16 j ≤ 999 := fun j => hT.2 16 j
                have A17 : ∀ j, (-1) ≤ τ73.2.1 17 j ∧ τ73.2.1 17 j ≤ 1499 := fun j => hT.2 17 j
                have A18 : ∀ j, 0 ≤ τ73.2.1 18 j ∧ τ73.2.1 18 j ≤ 90000 := fun j => hT.2 18 j
                have A19 : ∀ j, 0 ≤ τ73.2.1 19 j ∧ τ73.2.1 19 j ≤ 60 := fun j => hT.2 19 j
                have A20 : ∀ j, 0 ≤ τ73.2.1 20 j ∧ τ73.2.1 20 j ≤ 1499 := fun j => hT.2 20 j
                have A21 : ∀ j, 0 ≤ τ73.2.1 21 j ∧ τ73.2.1 21 j ≤ 20000 := fun j => hT.2 21 j
                have A22 : ∀ j, 0 ≤ τ73.2.1 22 j ∧ τ73.2.1 22 j ≤ 20000 := fun j => hT.2 22 j
                have A40 : ∀ j, 0 ≤ τ73.2.1 40 j ∧ τ73.2.1 40 j ≤ 40000 := fun j => hT.2 40 j
                have A41 : ∀ j, 0 ≤ τ73.2.1 41 j ∧ τ73.2.1 41 j ≤ 1000 := fun j => hT.2 41 j
                have A43 : ∀ j, 0 ≤ τ73.2.1 43 j ∧ τ73.2.1 43 j ≤ 999 := fun j => hT.2 43 j
                have A48 : ∀ j, 0 ≤ τ73.2.1 48 j ∧ τ73.2.1 48 j ≤ 40001 := fun j => hT.2 48 j
                have A49 : ∀ j, 0 ≤ τ73.2.1 49 j ∧ τ73.2.1 49 j ≤ 1000 := fun j => hT.2 49 j
                have A50 : ∀ j, 0 ≤ τ73.2.1 50 j ∧ τ73.2.1 50 j ≤ 999 := fun j => hT.2 50 j
                have v3 : 0 ≤ τ73.1 3 ∧ τ73.1 3 ≤ 1000 := hT.1 3
                have v30 : 0 ≤ τ73.1 30 ∧ τ73.1 30 ≤ 200 := hT.1 30
                have v31 : 0 ≤ τ73.1 31 ∧ τ73.1 31 ≤ 40000 := hT.1 31
                have v33 : 0 ≤ τ73.1 33 ∧ τ73.1 33 ≤ 40000 := hT.1 33
                have v34 : 0 ≤ τ73.1 34 ∧ τ73.1 34 ≤ 1001 := hT.1 34
                have v35 : 0 ≤ τ73.1 35 ∧ τ73.1 35 ≤ 19 := hT.1 35
                exact ⟨hT, (show (σ.1 35) = 0 → (τ73.1 35) = 0 → 1 ≤ (τ73.1 30) from by (first | omega | (simp only [st_s] <;> omega) | assumption | omega | fail)), (show ¬ (σ.1 35) = 0 → (τ73.1 35) = (σ.1 35) from by (first | omega | (simp only [st_s] <;> omega) | assumption | omega | fail)), (show (σ.1 35) = 0 → (τ73.1 35) = 0 → n_aA σ τ73 n1 from by (first | (intro _ z; exfalso; omega) | (intro y z; have o := (pu (by first | (show τ93.1 35 = 0; omega) | omega) z).1; have o1 : ¬ u5_294 = 200 := o.1; have o3 := o.2.2; rw [ek] at o3; have o3 : sm (σ.2.1 41) u5_294 + τ93.1 33 + τ93.1 34 ≤ 40000 := o3; have e := q2c.resolve_right (by omega); have f := ap z; rw [e.1, q3c.1] at f; have u := i294_8; rw [u.2] at f o3 o1; exact ⟨by omega, fun k k0 k1 q => (by have w := (i294_9 k k0 (by omega) q).1; rw [u.2] at w; exact w), _, bz, ⟨by omega, by rw [← e.1]; omega, by rw [← e.1]; omega⟩, nz, f⟩) | fail)), (show n3 = 0 → (σ.1 35) = 0 → n_aB σ n1 → (τ73.1 35) = 0 from by (first | (intro _ _ h; exfalso; omega) | (intro _ _ h; exfalso; have u := i36_8; have w := h.2.1 u6_36 (by omega) (by omega) (by rw [← e_x14]; assumption); rw [← u.2] at w; first | omega | (have w2 : σ.2.1 43 (σ.2.1 40 (u5_36 + u6_36)) = _ := w.2; rw [← e_x22, ← e_x25] at w2; omega)) | (intro _ _ h; have hh := h.1; exfalso; omega) | (intro y1 y2 h; have q9 := h; obtain ⟨b1, b2, bs, b3, b4, b5, b6⟩ := q9; have eq : n_zz σ n1 (τ_294.2.1 49) = n_zz σ n1 bs := n_sz_u p9 p10 bz b3; have u := i294_8; rw [← eq] at b5 b6; rw [← u.2] at b4 b6; have e := q2c.resolve_right (by omega); exact q97_4 (by first | (show τ93.1 35 = 0; omega) | omega) ⟨(show ¬ u5_294 = 200 from by omega), by omega, by (rw [ek]; show sm (σ.2.1 41) u5_294 + τ93.1 33 + τ93.1 34 ≤ 40000; omega)⟩) | fail))⟩
            ·
              refine h117 _ _ _ _ _ _ _ _ _ ?_
              refine ⟨fun c55 => ?_, fun c55 => ?_⟩
              ·
                refine ⟨(show 0 ≤ x12 ∧ x12 < 1501 from by (first | omega | (simp only [st_s] <;> omega) | assumption | omega | fail)), ?_⟩
                intro x57 r_x57 e_x57
                have b_x57 : 0 ≤ x57 ∧ x57 ≤ 30000 := by rw [e_x57]; exact hT.2 14 _
                rw [G14, e_x12] at e_x57
                refine ⟨(show 0 ≤ (x57 + 1) ∧ (x57 + 1) < 30400 from by (first | omega | (simp only [st_s] <;> omega) | assumption | omega | fail)), ?_⟩
                intro x59 r_x59 e_x59
                have b_x59 : 0 ≤ x59 ∧ x59 ≤ 999 := by rw [e_x59]; exact hT.2 16 _
                rw [G16, e_x57] at e_x59
                refine ⟨(show 0 ≤ (u5_36 + u6_36) ∧ (u5_36 + u6_36) < 202 from by (first | omega | (simp only [st_s] <;> omega) | assumption | omega | fail)), ?_⟩
                intro x61 r_x61 e_x61
                have b_x61 : 0 ≤ x61 ∧ x61 ≤ 40000 := by rw [e_x61]; exact hT.2 40 _
                refine ⟨(show 0 ≤ x59 ∧ x59 < 1001 from by (first | omega | (simp only [st_s] <;> omega) | assumption | omega | fail)), ?_⟩
                refine ⟨(⟨by (first | omega | (simp only [st_s] <;> omega) | assumption | omega | fail), by (first | omega | (simp only [st_s] <;> omega) | assumption | omega | fail)⟩ : rg (x61 + 1)), ?_⟩
                replace hT := mT_a (k := 48) (j := x59) hT (show (0 : Int) ≤ (x61 + 1) ∧ (x61 + 1) ≤ 40001 from by (first | omega | (simp only [st_s] <;> omega) | assumption | omega | fail))
                intro x64 r_x64 e_x64
                have b_x64 : 0 ≤ x64 ∧ x64 ≤ 30000 := by rw [e_x64]; exact hT.2 14 _
                rw [G14, e_x12] at e_x64
                refine ⟨(show 0 ≤ (x64 + 1) ∧ (x64 + 1) < 30400 from by (first | omega | (simp only [st_s] <;> omega) | assumption | omega | fail)), ?_⟩
                intro x66 r_x66 e_x66
                have b_x66 : 0 ≤ x66 ∧ x66 ≤ 999 := by rw [e_x66]; exact hT.2 16 _
                rw [G16, e_x64] at e_x66
                intro x67 r_x67 e_x67
                have b_x67 : 0 ≤ x67 ∧ x67 ≤ 1000 := by rw [e_x67]; exact hT.2 41 _
                rw [i36_10.2.1] at e_x67
                refine ⟨(show 0 ≤ x66 ∧ x66 < 1001 from by (first | omega | (simp only [st_s] <;> omega) | assumption | omega | fail)), ?_⟩
                refine ⟨(⟨by (first | omega | (simp only [st_s] <;> omega) | assumption | omega | fail), by (first | omega | (simp only [st_s] <;> omega) | assumption | omega | fail)⟩ : rg (x67 - 1)), ?_⟩
                replace hT := mT_a (k := 49) (j := x66) hT (show (0 : Int) ≤ (x67 - 1) ∧ (x67 - 1) ≤ 1000 from by (first | omega | (simp only [st_s] <;> omega) | assumption | omega | fail))
                refine ⟨(⟨by (first | omega | (simp only [st_s] <;> omega) | assumption | omega | fail), by (first | omega | (simp only [st_s] <;> omega) | assumption | omega | fail)⟩ : rg (u6_36 + 1)), ?_⟩
                exact ih_36 _ _ _ _ (show (61 - (u6_36 + 1) : Int) < ((m_36 : Nat) : Int) from by ((first | omega | (simp only [st_s] <;> omega) | assumption | omega | fail))) hT (show τ_36.1 3 = σ.1 3 from by first | exact W3 | omega) (show τ_36.1 33 = σ.1 33 from by first | exact W33 | omega) G8 G13 G14 G15 G16 G17 G18 G19 G20 G21 G22 (show 0 ≤ u4_36 from by (first | omega | (simp only [st_s] <;> omega) | assumption | omega | fail)) (show u4_36 ≤ 60 from by (first | omega | (simp only [st_s] <;> omega) | assumption | omega | fail)) (show 0 ≤ u5_36 from by (first | omega | (simp only [st_s] <;> omega) | assumption | omega | fail)) (show u5_36 + u4_36 ≤ 200 from by (first | omega | (simp only [st_s] <;> omega) | assumption | omega | fail)) (show 0 ≤ (u6_36 + 1) from by (first | omega | (simp only [st_s] <;> omega) | assumption | omega | fail)) (show (u6_36 + 1) ≤ u4_36 from by (first | omega | (simp only [st_s] <;> omega) | assumption | omega | fail)) (show (τ_36.1 35) = (σ.1 35) from by (first | omega | (simp only [st_s] <;> omega) | assumption | omega | fail)) (show u4_36 = σ.2.1 19 n1 ∧ u5_36 = (σ.1 30) - σ.2.1 19 n1 from by (first | exact ⟨by omega, by omega⟩ | exact ⟨e_x2, by rw [e_x2]⟩ | exact i36_8 | fail)) (show n_fl2 n1 u5_36 (u6_36 + 1) (σ.2.1 13) (σ.2.1 14) (σ.2.1 16) (σ.2.1 18) (σ.2.1 20) (σ.2.1 41) (n_F2 σ) ((st (τ_36.2.1 49) x66 (x67 - 1))) from by (first | (intro k a b; exfalso; omega) | exact n_fl2_n i36_9 (by rw [← e_x14]; assumption) | exact n_fl2_a i36_9 p10 (by omega) (by rw [← e_x14]; assumption) ⟨by rw [← e_x18]; omega, by (show σ.2.1 43 (σ.2.1 40 (u5_36 + u6_36)) = _; rw [← e_x22, ← e_x25]; assumption)⟩ e_x66 (by rw [e_x67]) | fail)) (show τ_36.2.1 40 = σ.2.1 40 ∧ τ_36.2.1 41 = σ.2.1 41 ∧ τ_36.2.1 43 = σ.2.1 43 from by (first | exact ⟨rfl, rfl, rfl⟩ | exact i36_10 | fail)) (show (τ_36.1 30) = (σ.1 30) ∧ (τ_36.1 31) = (σ.1 31) from by (first | exact ⟨rfl, rfl⟩ | exact i36_11 | fail))
              ·
                refine ⟨_, K_X13_wrong hT (show 1 ≤ (16 : Int) from by (first | omega | (simp only [st_s] <;> omega) | assumption | omega | fail)) (show (16 : Int) ≤ 19 from by (first | omega | (simp only [st_s] <;> omega) | assumption | omega | fail)), ?_⟩
                intro τ73 hn_τ73 hf_τ73 hq
                obtain ⟨hT, q71_1, q71_2⟩ := hq
                replace q71_1 : ¬ (τ73.1 35) = 0 := q71_1
                replace q71_2 : ¬ (τ_36.1 35) = 0 → (τ73.1 35) = (τ_36.1 35) := q71_2
                have w3_τ73 : τ73.1 3 = τ_36.1 3 := hf_τ73.1 3 (by decide)
                have w30_τ73 : τ73.1 30 = τ_36.1 30 := hf_τ73.1 30 (by decide)
                have w31_τ73 : τ73.1 31 = τ_36.1 31 := hf_τ73.1 31 (by decide)
                have w33_τ73 : τ73.1 33 = τ_36.1 33 := hf_τ73.1 33 (by decide)
                have w34_τ73 : τ73.1 34 = τ_36.1 34 := hf_τ73.1 34 (by decide)
                have g8_τ73 : τ73.2.1 8 = τ_36.2.1 8 := hf_τ73.2.1 8 (by decide)
                have g13_τ73 : τ73.2.1 13 = τ_36.2.1 13 := hf_τ73.2.1 13 (by decide)
                have g14_τ73 : τ73.2.1 14 = τ_36.2.1 14 := hf_τ73.2.1 14 (by decide)
                have g15_τ73 : τ73.2.1 15 = τ_36.2.1 15 := hf_τ73.2.1 15 (by decide)
                have g16_τ73 : τ73.2.1 16 = τ_36.2.1 16 := hf_τ73.2.1 16 (by decide)
                have g17_τ73 : τ73.2.1 17 = τ_36.2.1 17 := hf_τ73.2.1 17 (by decide)
                have g18_τ73 : τ73.2.1 18 = τ_36.2.1 18 := hf_τ73.2.1 18 (by decide)
                have g19_τ73 : τ73.2.1 19 = τ_36.2.1 19 := hf_τ73.2.1 19 (by decide)
                have g20_τ73 : τ73.2.1 20 = τ_36.2.1 20 := hf_τ73.2.1 20 (by decide)
                have g21_τ73 : τ73.2.1 21 = τ_36.2.1 21 := hf_τ73.2.1 21 (by decide)
                have g22_τ73 : τ73.2.1 22 = τ_36.2.1 22 := hf_τ73.2.1 22 (by decide)
                have g40_τ73 : τ73.2.1 40 = τ_36.2.1 40 := hf_τ73.2.1 40 (by decide)
                have g41_τ73 : τ73.2.1 41 = τ_36.2.1 41 := hf_τ73.2.1 41 (by decide)
                have g43_τ73 : τ73.2.1 43 = τ_36.2.1 43 := hf_τ73.2.1 43 (by decide)
                have g48_τ73 : τ73.2.1 48 = τ_36.2.1 48 := hf_τ73.2.1 48 (by decide)
                have g49_τ73 : τ73.2.1 49 = τ_36.2.1 49 := hf_τ73.2.1 49 (by decide)
                have g50_τ73 : τ73.2.1 50 = τ_36.2.1 50 := hf_τ73.2.1 50 (by decide)
                have W3 : τ73.1 3 = σ.1 3 := by first | exact w3_τ73.trans W3 | omega
                have W33 : τ73.1 33 = σ.1 33 := by first | exact w33_τ73.trans W33 | omega
                have G8 : τ73.2.1 8 = σ.2.1 8 := (g8_τ73).trans G8
                have G13 : τ73.2.1 13 = σ.2.1 13 := (g13_τ73).trans G13
                have G14 : τ73.2.1 14 = σ.2.1 14 := (g14_τ73).trans G14
                have G15 : τ73.2.1 15 = σ.2.1 15 := (g15_τ73).trans G15
                have G16 : τ73.2.1 16 = σ.2.1 16 := (g16_τ73).trans G16
                have G17 : τ73.2.1 17 = σ.2.1 17 := (g17_τ73).trans G17
                have G18 : τ73.2.1 18 = σ.2.1 18 := (g18_τ73).trans G18
                have G19 : τ73.2.1 19 = σ.2.1 19 := (g19_τ73).trans G19
                have G20 : τ73.2.1 20 = σ.2.1 20 := (g20_τ73).trans G20
                have G21 : τ73.2.1 21 = σ.2.1 21 := (g21_τ73).trans G21
                have G22 : τ73.2.1 22 = σ.2.1 22 := (g22_τ73).trans G22
                have A8 : ∀ j, 0 ≤ τ73.2.1 8 j ∧ τ73.2.1 8 j ≤ 1 := fun j => hT.2 8 j
                have A13 : ∀ j, 0 ≤ τ73.2.1 13 j ∧ τ73.2.1 13 j ≤ 4 := fun j => hT.2 13 j
                have A14 : ∀ j, 0 ≤ τ73.2.1 14 j ∧ τ73.2.1 14 j ≤ 30000 := fun j => hT.2 14 j
                have A15 : ∀ j, 0 ≤ τ73.2.1 15 j ∧ τ73.2.1 15 j ≤ 300 := fun j => hT.2 15 j
                have A16 : ∀ j, 0 ≤ τ73.2.1 16 j ∧ τ73.2.1 16 j ≤ 999 := fun j => hT.2 16 j
                have A17 : ∀ j, (-1) ≤ τ73.2.1 17 j ∧ τ73.2.1 17 j ≤ 1499 := fun j => hT.2 17 j
                have A18 : ∀ j, 0 ≤ τ73.2.1 18 j ∧ τ73.2.1 18 j ≤ 90000 := fun j => hT.2 18 j
                have A19 : ∀ j, 0 ≤ τ73.2.1 19 j ∧ τ73.2.1 19 j ≤ 60 := fun j => hT.2 19 j
                have A20 : ∀ j, 0 ≤ τ73.2.1 20 j ∧ τ73.2.1 20 j ≤ 1499 := fun j => hT.2 20 j
                have A21 : ∀ j, 0 ≤ τ73.2.1 21 j ∧ τ73.2.1 21 j ≤ 20000 := fun j => hT.2 21 j
                have A22 : ∀ j, 0 ≤ τ73.2.1 22 j ∧ τ73.2.1 22 j ≤ 20000 := fun j => hT.2 22 j
                have A40 : ∀ j, 0 ≤ τ73.2.1 40 j ∧ τ73.2.1 40 j ≤ 40000 := fun j => hT.2 40 j
                have A41 : ∀ j, 0 ≤ τ73.2.1 41 j ∧ τ73.2.1 41 j ≤ 1000 := fun j => hT.2 41 j
                have A43 : ∀ j, 0 ≤ τ73.2.1 43 j ∧ τ73.2.1 43 j ≤ 999 := fun j => hT.2 43 j
                have A48 : ∀ j, 0 ≤ τ73.2.1 48 j ∧ τ73.2.1 48 j ≤ 40001 := fun j => hT.2 48 j
                have A49 : ∀ j, 0 ≤ τ73.2.1 49 j ∧ τ73.2.1 49 j ≤ 1000 := fun j => hT.2 49 j
                have A50 : ∀ j, 0 ≤ τ73.2.1 50 j ∧ τ73.2.1 50 j ≤ 999 := fun j => hT.2 50 j
                have v3 : 0 ≤ τ73.1 3 ∧ τ73.1 3 ≤ 1000 := hT.1 3
                have v30 : 0 ≤ τ73.1 30 ∧ τ73.1 30 ≤ 200 := hT.1 30
                have v31 : 0 ≤ τ73.1 31 ∧ τ73.1 31 ≤ 40000 := hT.1 31
                have v33 : 0 ≤ τ73.1 33 ∧ τ73.1 33 ≤ 40000 := hT.1 33
                have v34 : 0 ≤ τ73.1 34 ∧ τ73.1 34 ≤ 1001 := hT.1 34
                have v35 : 0 ≤ τ73.1 35 ∧ τ73.1 35 ≤ 19 := hT.1 35
                exact ⟨hT, (show (σ.1 35) = 0 → (τ73.1 35) = 0 → 1 ≤ (τ73.1 30) from by (first | omega | (simp only [st_s] <;> omega) | assumption | omega | fail)), (show ¬ (σ.1 35) = 0 → (τ73.1 35) = (σ.1 35) from by (first | omega | (simp only [st_s] <;> omega) | assumption | omega | fail)), (show (σ.1 35) = 0 → (τ73.1 35) = 0 → n_aA σ τ73 n1 from by (first | (intro _ z; exfalso; omega) | (intro y z; have o := (pu (by first | (show τ93.1 35 = 0; omega) | omega) z).1; have o1 : ¬ u5_294 = 200 := o.1; have o3 := o.2.2; rw [ek] at o3; have o3 : sm (σ.2.1 41) u5_294 + τ93.1 33 + τ93.1 34 ≤ 40000 := o3; have e := q2c.resolve_right (by omega); have f := ap z; rw [e.1, q3c.1] at f; have u := i294_8; rw [u.2] at f o3 o1; exact ⟨by omega, fun k k0 k1 q => (by have w := (i294_9 k k0 (by omega) q).1; rw [u.2] at w; exact w), _, bz, ⟨by omega, by rw [← e.1]; omega, by rw [← e.1]; omega⟩, nz, f⟩) | fail)), (show n3 = 0 → (σ.1 35) = 0 → n_aB σ n1 → (τ73.1 35) = 0 from by (first | (intro _ _ h; exfalso; omega) | (intro _ _ h; exfalso; have u := i36_8; have w := h.2.1 u6_36 (by omega) (by omega) (by rw [← e_x14]; assumption); rw [← u.2] at w; first | omega | (have w2 : σ.2.1 43 (σ.2.1 40 (u5_36 + u6_36)) = _ := w.2; rw [← e_x22, ← e_x25] at w2; omega)) | (intro _ _ h; have hh := h.1; exfalso; omega) | (intro y1 y2 h; have q9 := h; obtain ⟨b1, b2, bs, b3, b4, b5, b6⟩ := q9; have eq : n_zz σ n1 (τ_294.2.1 49) = n_zz σ n1 bs := n_sz_u p9 p10 bz b3; have u := i294_8; rw [← eq] at b5 b6; rw [← u.2] at b4 b6; have e := q2c.resolve_right (by omega); exact q97_4 (by first | (show τ93.1 35 = 0; omega) | omega) ⟨(show ¬ u5_294 = 200 from by omega), by omega, by (rw [ek]; show sm (σ.2.1 41) u5_294 + τ93.1 33 + τ93.1 34 ≤ 40000; omega)⟩) | fail))⟩
  refine ⟨(show 0 ≤ n1 ∧ n1 < 1501 from by (first | omega | (simp only [st_s] <;> omega) | assumption | omega | fail)), ?_⟩
  intro x2 r_x2 e_x2
  have b_x2 : 0 ≤ x2 ∧ x2 ≤ 60 := by rw [e_x2]; exact hT.2 19 _
  refine ⟨fun c3 => ?_, fun c3 => ?_⟩
  ·
    refine ⟨(⟨by (first | omega | (simp only [st_s] <;> omega) | assumption | omega | fail), by (first | omega | (simp only [st_s] <;> omega) | assumption | omega | fail)⟩ : rg (σ.1 30 - x2)), ?_⟩
    exact l_36 ((61 - 0 : Int).toNat + 1) _ _ _ _ (show (61 - 0 : Int) < (((61 - 0 : Int).toNat + 1 : Nat) : Int) from by ((first | omega | (simp only [st_s] <;> omega) | assumption | omega | fail))) hT (show σ.1 3 = σ.1 3 from by first | exact W3 | omega) (show σ.1 33 = σ.1 33 from by first | exact W33 | omega) G8 G13 G14 G15 G16 G17 G18 G19 G20 G21 G22 (show 0 ≤ x2 from by (first | omega | (simp only [st_s] <;> omega) | assumption | omega | fail)) (show x2 ≤ 60 from by (first | omega | (simp only [st_s] <;> omega) | assumption | omega | fail)) (show 0 ≤ (σ.1 30 - x2) from by (first | omega | (simp only [st_s] <;> omega) | assumption | omega | fail)) (show (σ.1 30 - x2) + x2 ≤ 200 from by (first | omega | (simp only [st_s] <;> omega) | assumption | omega | fail)) (show 0 ≤ 0 from by (first | omega | (simp only [st_s] <;> omega) | assumption | omega | fail)) (show 0 ≤ x2 from by (first | omega | (simp only [st_s] <;> omega) | assumption | omega | fail)) (show (σ.1 35) = (σ.1 35) from by (first | omega | (simp only [st_s] <;> omega) | assumption | omega | fail)) (show x2 = σ.2.1 19 n1 ∧ (σ.1 30 - x2) = (σ.1 30) - σ.2.1 19 n1 from by (first | exact ⟨by omega, by omega⟩ | exact ⟨e_x2, by rw [e_x2]⟩ | exact i36_8 | fail)) (show n_fl2 n1 (σ.1 30 - x2) 0 (σ.2.1 13) (σ.2.1 14) (σ.2.1 16) (σ.2.1 18) (σ.2.1 20) (σ.2.1 41) (n_F2 σ) (σ.2.1 49) from by (first | (intro k a b; exfalso; omega) | exact n_fl2_n i36_9 (by rw [← e_x14]; assumption) | exact n_fl2_a i36_9 p10 (by omega) (by rw [← e_x14]; assumption) ⟨by rw [← e_x18]; omega, by (show σ.2.1 43 (σ.2.1 40 (u5_36 + u6_36)) = _; rw [← e_x22, ← e_x25]; assumption)⟩ e_x66 (by rw [e_x67]) | fail)) (show σ.2.1 40 = σ.2.1 40 ∧ σ.2.1 41 = σ.2.1 41 ∧ σ.2.1 43 = σ.2.1 43 from by (first | exact ⟨rfl, rfl, rfl⟩ | exact i36_10 | fail)) (show (σ.1 30) = (σ.1 30) ∧ (σ.1 31) = (σ.1 31) from by (first | exact ⟨rfl, rfl⟩ | exact i36_11 | fail))
  ·
    refine ⟨_, K_X13_wrong hT (show 1 ≤ (15 : Int) from by (first | omega | (simp only [st_s] <;> omega) | assumption | omega | fail)) (show (15 : Int) ≤ 19 from by (first | omega | (simp only [st_s] <;> omega) | assumption | omega | fail)), ?_⟩
    intro τ7 hn_τ7 hf_τ7 hq
    obtain ⟨hT, q5_1, q5_2⟩ := hq
    replace q5_1 : ¬ (τ7.1 35) = 0 := q5_1
    replace q5_2 : ¬ (σ.1 35) = 0 → (τ7.1 35) = (σ.1 35) := q5_2
    have w3_τ7 : τ7.1 3 = σ.1 3 := hf_τ7.1 3 (by decide)
    have w30_τ7 : τ7.1 30 = σ.1 30 := hf_τ7.1 30 (by decide)
    have w31_τ7 : τ7.1 31 = σ.1 31 := hf_τ7.1 31 (by decide)
    have w33_τ7 : τ7.1 33 = σ.1 33 := hf_τ7.1 33 (by decide)
    have w34_τ7 : τ7.1 34 = σ.1 34 := hf_τ7.1 34 (by decide)
    have g8_τ7 : τ7.2.1 8 = σ.2.1 8 := hf_τ7.2.1 8 (by decide)
    have g13_τ7 : τ7.2.1 13 = σ.2.1 13 := hf_τ7.2.1 13 (by decide)
    have g14_τ7 : τ7.2.1 14 = σ.2.1 14 := hf_τ7.2.1 14 (by decide)
    have g15_τ7 : τ7.2.1 15 = σ.2.1 15 := hf_τ7.2.1 15 (by decide)
    have g16_τ7 : τ7.2.1 16 = σ.2.1 16 := hf_τ7.2.1 16 (by decide)
    have g17_τ7 : τ7.2.1 17 = σ.2.1 17 := hf_τ7.2.1 17 (by decide)
    have g18_τ7 : τ7.2.1 18 = σ.2.1 18 := hf_τ7.2.1 18 (by decide)
    have g19_τ7 : τ7.2.1 19 = σ.2.1 19 := hf_τ7.2.1 19 (by decide)
    have g20_τ7 : τ7.2.1 20 = σ.2.1 20 := hf_τ7.2.1 20 (by decide)
    have g21_τ7 : τ7.2.1 21 = σ.2.1 21 := hf_τ7.2.1 21 (by decide)
    have g22_τ7 : τ7.2.1 22 = σ.2.1 22 := hf_τ7.2.1 22 (by decide)
    have g40_τ7 : τ7.2.1 40 = σ.2.1 40 := hf_τ7.2.1 40 (by decide)
    have g41_τ7 : τ7.2.1 41 = σ.2.1 41 := hf_τ7.2.1 41 (by decide)
    have g43_τ7 : τ7.2.1 43 = σ.2.1 43 := hf_τ7.2.1 43 (by decide)
    have g48_τ7 : τ7.2.1 48 = σ.2.1 48 := hf_τ7.2.1 48 (by decide)
    have g49_τ7 : τ7.2.1 49 = σ.2.1 49 := hf_τ7.2.1 49 (by decide)
    have g50_τ7 : τ7.2.1 50 = σ.2.1 50 := hf_τ7.2.1 50 (by decide)
    have W3 : τ7.1 3 = σ.1 3 := by first | exact w3_τ7.trans W3 | omega
    have W33 : τ7.1 33 = σ.1 33 := by first | exact w33_τ7.trans W33 | omega
    have G8 : τ7.2.1 8 = σ.2.1 8 := (g8_τ7).trans G8
    have G13 : τ7.2.1 13 = σ.2.1 13 := (g13_τ7).trans G13
    have G14 : τ7.2.1 14 = σ.2.1 14 := (g14_τ7).trans G14
    have G15 : τ7.2.1 15 = σ.2.1 15 := (g15_τ7).trans G15
    have G16 : τ7.2.1 16 = σ.2.1 16 := (g16_τ7).trans G16
    have G17 : τ7.2.1 17 = σ.2.1 17 := (g17_τ7).trans G17
    have G18 : τ7.2.1 18 = σ.2.1 18 := (g18_τ7).trans G18
    have G19 : τ7.2.1 19 = σ.2.1 19 := (g19_τ7).trans G19
    have G20 : τ7.2.1 20 = σ.2.1 20 := (g20_τ7).trans G20
    have G21 : τ7.2.1 21 = σ.2.1 21 := (g21_τ7).trans G21
    have G22 : τ7.2.1 22 = σ.2.1 22 := (g22_τ7).trans G22
    have A8 : ∀ j, 0 ≤ τ7.2.1 8 j ∧ τ7.2.1 8 j ≤ 1 := fun j => hT.2 8 j
    have A13 : ∀ j, 0 ≤ τ7.2.1 13 j ∧ τ7.2.1 13 j ≤ 4 := fun j => hT.2 13 j
    have A14 : ∀ j, 0 ≤ τ7.2.1 14 j ∧ τ7.2.1 14 j ≤ 30000 := fun j => hT.2 14 j
    have A15 : ∀ j, 0 ≤ τ7.2.1 15 j ∧ τ7.2.1 15 j ≤ 300 := fun j => hT.2 15 j
    have A16 : ∀ j, 0 ≤ τ7.2.1 16 j ∧ τ7.2.1 16 j ≤ 999 := fun j => hT.2 16 j
    have A17 : ∀ j, (-1) ≤ τ7.2.1 17 j ∧ τ7.2.1 17 j ≤ 1499 := fun j => hT.2 17 j
    have A18 : ∀ j, 0 ≤ τ7.2.1 18 j ∧ τ7.2.1 18 j ≤ 90000 := fun j => hT.2 18 j
    have A19 : ∀ j, 0 ≤ τ7.2.1 19 j ∧ τ7.2.1 19 j ≤ 60 := fun j => hT.2 19 j
    have A20 : ∀ j, 0 ≤ τ7.2.1 20 j ∧ τ7.2.1 20 j ≤ 1499 := fun j => hT.2 20 j
    have A21 : ∀ j, 0 ≤ τ7.2.1 21 j ∧ τ7.2.1 21 j ≤ 20000 := fun j => hT.2 21 j
    have A22 : ∀ j, 0 ≤ τ7.2.1 22 j ∧ τ7.2.1 22 j ≤ 20000 := fun j => hT.2 22 j
    have A40 : ∀ j, 0 ≤ τ7.2.1 40 j ∧ τ7.2.1 40 j ≤ 40000 := fun j => hT.2 40 j
    have A41 : ∀ j, 0 ≤ τ7.2.1 41 j ∧ τ7.2.1 41 j ≤ 1000 := fun j => hT.2 41 j
    have A43 : ∀ j, 0 ≤ τ7.2.1 43 j ∧ τ7.2.1 43 j ≤ 999 := fun j => hT.2 43 j
    have A48 : ∀ j, 0 ≤ τ7.2.1 48 j ∧ τ7.2.1 48 j ≤ 40001 := fun j => hT.2 48 j
    have A49 : ∀ j, 0 ≤ τ7.2.1 49 j ∧ τ7.2.1 49 j ≤ 1000 := fun j => hT.2 49 j
    have A50 : ∀ j, 0 ≤ τ7.2.1 50 j ∧ τ7.2.1 50 j ≤ 999 := fun j => hT.2 50 j
    have v3 : 0 ≤ τ7.1 3 ∧ τ7.1 3 ≤ 1000 := hT.1 3
    have v30 : 0 ≤ τ7.1 30 ∧ τ7.1 30 ≤ 200 := hT.1 30
    have v31 : 0 ≤ τ7.1 31 ∧ τ7.1 31 ≤ 40000 := hT.1 31
    have v33 : 0 ≤ τ7.1 33 ∧ τ7.1 33 ≤ 40000 := hT.1 33
    have v34 : 0 ≤ τ7.1 34 ∧ τ7.1 34 ≤ 1001 := hT.1 34
    have v35 : 0 ≤ τ7.1 35 ∧ τ7.1 35 ≤ 19 := hT.1 35
    exact ⟨hT, (show (σ.1 35) = 0 → (τ7.1 35) = 0 → 1 ≤ (τ7.1 30) from by (first | omega | (simp only [st_s] <;> omega) | assumption | omega | fail)), (show ¬ (σ.1 35) = 0 → (τ7.1 35) = (σ.1 35) from by (first | omega | (simp only [st_s] <;> omega) | assumption | omega | fail)), (show (σ.1 35) = 0 → (τ7.1 35) = 0 → n_aA σ τ7 n1 from by (first | (intro _ z; exfalso; omega) | (intro y z; have o := (pu (by first | (show τ93.1 35 = 0; omega) | omega) z).1; have o1 : ¬ u5_294 = 200 := o.1; have o3 := o.2.2; rw [ek] at o3; have o3 : sm (σ.2.1 41) u5_294 + τ93.1 33 + τ93.1 34 ≤ 40000 := o3; have e := q2c.resolve_right (by omega); have f := ap z; rw [e.1, q3c.1] at f; have u := i294_8; rw [u.2] at f o3 o1; exact ⟨by omega, fun k k0 k1 q => (by have w := (i294_9 k k0 (by omega) q).1; rw [u.2] at w; exact w), _, bz, ⟨by omega, by rw [← e.1]; omega, by rw [← e.1]; omega⟩, nz, f⟩) | fail)), (show n3 = 0 → (σ.1 35) = 0 → n_aB σ n1 → (τ7.1 35) = 0 from by (first | (intro _ _ h; exfalso; omega) | (intro _ _ h; exfalso; have u := i36_8; have w := h.2.1 u6_36 (by omega) (by omega) (by rw [← e_x14]; assumption); rw [← u.2] at w; first | omega | (have w2 : σ.2.1 43 (σ.2.1 40 (u5_36 + u6_36)) = _ := w.2; rw [← e_x22, ← e_x25] at w2; omega)) | (intro _ _ h; have hh := h.1; exfalso; omega) | (intro y1 y2 h; have q9 := h; obtain ⟨b1, b2, bs, b3, b4, b5, b6⟩ := q9; have eq : n_zz σ n1 (τ_294.2.1 49) = n_zz σ n1 bs := n_sz_u p9 p10 bz b3; have u := i294_8; rw [← eq] at b5 b6; rw [← u.2] at b4 b6; have e := q2c.resolve_right (by omega); exact q97_4 (by first | (show τ93.1 35 = 0; omega) | omega) ⟨(show ¬ u5_294 = 200 from by omega), by omega, by (rw [ek]; show sm (σ.2.1 41) u5_294 + τ93.1 33 + τ93.1 34 ≤ 40000; omega)⟩) | fail))⟩
