-- pure: the rules of the grammar
/-- nodes: each stands below an earlier one; chains of those that stand below the same one -/
def g_tr (nd : Int) (fc sb ky aC aS par : Int → Int) : Prop :=
  (∀ c : Int, 1 ≤ c → c < nd → 0 ≤ par c ∧ par c < c ∧ sb c < c ∧ (0 < sb c → par (sb c) = par c) ∧ ∀ d : Int, sb c < d → d < c → 1 ≤ d → par d ≠ par c) ∧
  (∀ n : Int, 0 ≤ n → n < nd → fc n < nd ∧ (0 < fc n → par (fc n) = n) ∧ ∀ d : Int, fc n < d → d < nd → 1 ≤ d → par d ≠ n) ∧
  (∀ s : Int, 0 ≤ s → 0 < aC s → aC s < nd ∧ par (aC s) = 0 ∧ ky (aC s) = s) ∧
  (∀ k : Int, 0 ≤ k → 0 < aS k → aS k < nd ∧ par (aS k) = 0 ∧ ky (aS k) = -1 - k) ∧
  (∀ c : Int, 1 ≤ c → c < nd → par c = 0 → (0 ≤ ky c → aC (ky c) = c) ∧ (ky c < 0 → aS (-1 - ky c) = c)) ∧
  (∀ n : Int, nd ≤ n → n ≤ 30000 → fc n = 0) ∧ ∀ c : Int, nd ≤ c → par c = -1
/-- the search among those that stand below n1 for the key n2 -/
def g_cf (nd n1 n2 u t : Int) (ky par : Int → Int) : Prop := u < nd ∧ (0 < u → par u = n1 ∧ u + t < nd) ∧ ∀ d : Int, u < d → d < nd → 1 ≤ d → par d = n1 → ky d ≠ n2
theorem g_cf0 {nd n1 n2 : Int} {fc sb ky aC aS par : Int → Int} (h : g_tr nd fc sb ky aC aS par) (a : 0 ≤ n1) (b : n1 < nd) : g_cf nd n1 n2 (fc n1) 0 ky par := by
  obtain ⟨x, y, z⟩ := h.2.1 n1 a b
  exact ⟨x, fun q => ⟨y q, by omega⟩, fun d d0 d1 d2 e => absurd e (z d d0 d1 d2)⟩
theorem g_cf_s {nd n1 n2 u t : Int} {fc sb ky aC aS par : Int → Int} (h : g_tr nd fc sb ky aC aS par) (c : g_cf nd n1 n2 u t ky par) (u0 : 0 < u) (k : ky u ≠ n2) : g_cf nd n1 n2 (sb u) (t + 1) ky par := by
  obtain ⟨c1, c2, c3⟩ := c
  obtain ⟨p1, p2, p3, p4, p5⟩ := h.1 u (by omega) c1
  have w := c2 u0
  refine ⟨by omega, fun q => ⟨(p4 q).trans w.1, by omega⟩, fun d d0 d1 d2 e => ?_⟩
  rcases (by omega : d < u ∨ d = u ∨ u < d) with y | y | y
  · exact absurd (e.trans w.1.symm) (p5 d d0 y d2)
  · rw [y]; exact k
  · exact c3 d y d1 d2 e
/-- what the search for a node gives -/
def g_ch (nd nd' n1 n2 n3 x : Int) (ky bn ky' bn' par par' : Int → Int) : Prop := (nd ≤ nd' ∧ nd' ≤ nd + 1) ∧ (1 ≤ x ∧ x < nd') ∧ par' x = n1 ∧ ky' x = n2 ∧ ((x < nd ∧ nd' = nd) ∨ (x = nd ∧ bn' x = n3)) ∧ ∀ c : Int, c < nd → par' c = par c ∧ ky' c = ky c ∧ bn' c = bn c
theorem g_ch0 {nd n1 n2 n3 x : Int} {ky bn par : Int → Int} (x0 : 0 < x) (x1 : x < nd) (p : par x = n1) (k : ky x = n2) : g_ch nd nd n1 n2 n3 x ky bn ky bn par par := ⟨by omega, by omega, p, k, Or.inl ⟨x1, rfl⟩, fun _ _ => ⟨rfl, rfl, rfl⟩⟩
/-- a new node -/
theorem g_tr_n {nd n1 n2 : Int} {fc sb ky aC aS aC' aS' par : Int → Int} (h : g_tr nd fc sb ky aC aS par) (n0 : 0 ≤ n1) (n1' : n1 < nd) (n4 : nd ≤ 30000) (no : ∀ d : Int, 0 < d → d < nd → 1 ≤ d → par d = n1 → ky d ≠ n2)
    (eC : (n1 = 0 ∧ 0 ≤ n2 ∧ aC' = st aC n2 nd) ∨ (¬ (n1 = 0 ∧ 0 ≤ n2) ∧ aC' = aC)) (eS : (n1 = 0 ∧ n2 < 0 ∧ aS' = st aS (-1 - n2) nd) ∨ (¬ (n1 = 0 ∧ n2 < 0) ∧ aS' = aS)) :
    g_tr (nd + 1) (st fc n1 nd) (st sb nd (fc n1)) (st ky nd n2) aC' aS' (st par nd n1) := by
  obtain ⟨h1, h2, h3, h4, h5, h6, h7⟩ := h
  have po : ∀ c : Int, c < nd → st par nd n1 c = par c := fun c hc => st_n _ _ (show c ≠ nd from by omega)
  have ko : ∀ c : Int, c < nd → st ky nd n2 c = ky c := fun c hc => st_n _ _ (show c ≠ nd from by omega)
  have pn : st par nd n1 nd = n1 := st_s _ _ _
  have kn : st ky nd n2 nd = n2 := st_s _ _ _
  obtain ⟨f1, f2, f3⟩ := h2 n1 n0 n1'
  refine ⟨fun c c0 c1 => ?_, fun n a b => ?_, fun s s0 s1 => ?_, fun k k0 k1 => ?_, fun c c0 c1 c2 => ?_, fun n a b => by rw [st_n _ _ (show n ≠ n1 from by omega)]; exact h6 n (by omega) b, fun c hc => by rw [st_n _ _ (show c ≠ nd from by omega)]; exact h7 c (by omega)⟩
  · by_cases z : c = nd
    · rw [z, pn, st_s]
      refine ⟨n0, n1', f1, fun q => by rw [po _ f1]; exact f2 q, fun d d0 d1 d2 => by rw [po d d1]; exact f3 d d0 d1 d2⟩
    · obtain ⟨p1, p2, p3, p4, p5⟩ := h1 c c0 (by omega)
      rw [po c (by omega), st_n _ _ z]
      exact ⟨p1, p2, p3, fun q => by rw [po _ (by omega)]; exact p4 q, fun d d0 d1 d2 => by rw [po d (by omega)]; exact p5 d d0 d1 d2⟩
  · by_cases z : n = n1
    · rw [z, st_s]
      exact ⟨by omega, fun _ => pn, fun d d0 d1 d2 => by omega⟩
    · rw [st_n _ _ z]
      by_cases y : n = nd
      · -- a node that is new has none below it
        have f0 := h6 nd (Int.le_refl _) n4
        rw [y, f0]
        refine ⟨by omega, fun q => by omega, fun d d0 d1 d2 => ?_⟩
        by_cases w : d = nd
        · rw [w, pn]; omega
        · rw [po d (by omega)]; have := (h1 d d2 (by omega)).2.1; omega
      · obtain ⟨q1, q2, q3⟩ := h2 n a (by omega)
        refine ⟨by omega, fun q => by rw [po _ q1]; exact q2 q, fun d d0 d1 d2 => ?_⟩
        by_cases w : d = nd
        · rw [w, pn]; exact fun q => z q.symm
        · rw [po d (by omega)]; exact q3 d d0 (by omega) d2
  · rcases eC with ⟨e1, e2, e3⟩ | ⟨e1, e2⟩
    · rw [e3] at s1 ⊢
      by_cases z : s = n2
      · rw [z, st_s, pn, kn]; exact ⟨by omega, e1, rfl⟩
      · rw [st_n _ _ z] at s1 ⊢
        have w := h3 s s0 s1
        rw [po _ w.1, ko _ w.1]; exact ⟨by omega, w.2⟩
    · rw [e2] at s1 ⊢
      have w := h3 s s0 s1
      rw [po _ w.1, ko _ w.1]; exact ⟨by omega, w.2⟩
  · rcases eS with ⟨e1, e2, e3⟩ | ⟨e1, e2⟩
    · rw [e3] at k1 ⊢
      by_cases z : k = -1 - n2
      · rw [z, st_s, pn, kn]; exact ⟨by omega, e1, by omega⟩
      · rw [st_n _ _ z] at k1 ⊢
        have w := h4 k k0 k1
        rw [po _ w.1, ko _ w.1]; exact ⟨by omega, w.2⟩
    · rw [e2] at k1 ⊢
      have w := h4 k k0 k1
      rw [po _ w.1, ko _ w.1]; exact ⟨by omega, w.2⟩
  · by_cases z : c = nd
    · rw [z, pn] at c2
      rw [z, kn]
      refine ⟨fun q => ?_, fun q => ?_⟩
      · rcases eC with ⟨e1, e2, e3⟩ | ⟨e1, e2⟩
        · rw [e3, st_s]
        · exact absurd ⟨c2, q⟩ e1
      · rcases eS with ⟨e1, e2, e3⟩ | ⟨e1, e2⟩
        · rw [e3, st_s]
        · exact absurd ⟨c2, q⟩ e1
    · rw [po c (by omega)] at c2
      rw [ko c (by omega)]
      have w := h5 c c0 (by omega) c2
      refine ⟨fun q => ?_, fun q => ?_⟩
      · rcases eC with ⟨e1, e2, e3⟩ | ⟨e1, e2⟩
        · rw [e3, st_n _ _ (no c (by omega) (by omega) c0 (by omega))]; exact w.1 q
        · rw [e2]; exact w.1 q
      · rcases eS with ⟨e1, e2, e3⟩ | ⟨e1, e2⟩
        · rw [e3, st_n _ _ (show -1 - ky c ≠ -1 - n2 from by have := no c (by omega) (by omega) c0 (by omega); omega)]; exact w.2 q
        · rw [e2]; exact w.2 q
theorem g_ch_n {nd n1 n2 n3 : Int} {ky bn par : Int → Int} (n0 : 1 ≤ nd) : g_ch nd (nd + 1) n1 n2 n3 nd ky bn (st ky nd n2) (st bn nd n3) par (st par nd n1) :=
  ⟨by omega, by omega, st_s _ _ _, st_s _ _ _, Or.inr ⟨rfl, st_s _ _ _⟩, fun c hc => ⟨st_n _ _ (show c ≠ nd from by omega), st_n _ _ (show c ≠ nd from by omega), st_n _ _ (show c ≠ nd from by omega)⟩⟩
set_option maxHeartbeats 4000000 in
theorem K_X8_child {n1 : Int} {n2 : Int} {n3 : Int} {σ : S0} (hT : c_T σ) (p1 : 0 ≤ n1) (p2 : n1 < (σ.1 45)) (p3 : -100 ≤ n2) (p4 : n2 < 1000) (p5 : 0 ≤ n3) (p6 : n3 < 1500) (p7 : (σ.1 45) ≤ 30000) : W_X8_child n1 n2 n3 σ (fun (x : Int) (τ : S0) => (c_T τ) ∧ (0 ≤ x ∧ x ≤ 30000) ∧ ((τ.1 45) ≤ (σ.1 45) + 1 ∧ (σ.1 45) ≤ (τ.1 45)) ∧ (∀ par : Int → Int, g_tr (σ.1 45) (σ.2.1 67) (σ.2.1 68) (σ.2.1 69) (σ.2.1 73) (σ.2.1 74) par → ∃ par2 : Int → Int, g_tr (τ.1 45) (τ.2.1 67) (τ.2.1 68) (τ.2.1 69) (τ.2.1 73) (τ.2.1 74) par2 ∧ g_ch (σ.1 45) (τ.1 45) n1 n2 n3 x (σ.2.1 69) (σ.2.1 70) (τ.2.1 69) (τ.2.1 70) par par2)) := by
  have A67 : ∀ j, 0 ≤ σ.2.1 67 j ∧ σ.2.1 67 j ≤ 30000 := fun j => hT.2 67 j
  have A68 : ∀ j, 0 ≤ σ.2.1 68 j ∧ σ.2.1 68 j ≤ 30000 := fun j => hT.2 68 j
  have A69 : ∀ j, (-100) ≤ σ.2.1 69 j ∧ σ.2.1 69 j ≤ 999 := fun j => hT.2 69 j
  have A70 : ∀ j, 0 ≤ σ.2.1 70 j ∧ σ.2.1 70 j ≤ 1499 := fun j => hT.2 70 j
  have A73 : ∀ j, 0 ≤ σ.2.1 73 j ∧ σ.2.1 73 j ≤ 30000 := fun j => hT.2 73 j
  have A74 : ∀ j, 0 ≤ σ.2.1 74 j ∧ σ.2.1 74 j ≤ 30000 := fun j => hT.2 74 j
  have v45 : 1 ≤ σ.1 45 ∧ σ.1 45 ≤ 30001 := hT.1 45
  intro P11 P51 P127 P141 h11 h51 h127 h141
  have l_11 : ∀ (m_11 : Nat) (u4_11 : Int) (u5_11 : Int) (τ_11 : S0), 30002 - u5_11 < (m_11 : Int) → (c_T τ_11) → (0 ≤ u4_11 ∧ u4_11 ≤ 30000) → (0 ≤ u5_11 ∧ u5_11 ≤ 30001) → ((τ_11.1 45) = (σ.1 45)) → (τ_11.2.1 67 = σ.2.1 67 ∧ τ_11.2.1 68 = σ.2.1 68 ∧ τ_11.2.1 69 = σ.2.1 69 ∧ τ_11.2.1 70 = σ.2.1 70) → (τ_11.2.1 73 = σ.2.1 73 ∧ τ_11.2.1 74 = σ.2.1 74) → (∀ par : Int → Int, g_tr (σ.1 45) (σ.2.1 67) (σ.2.1 68) (σ.2.1 69) (σ.2.1 73) (σ.2.1 74) par → g_cf (σ.1 45) n1 n2 u4_11 u5_11 (σ.2.1 69) par) → P11 n1 n2 n3 u4_11 u5_11 τ_11 := by
    intro m_11
    induction m_11 with
    | zero =>
      intro u4_11 u5_11 τ_11 hm hT i11_1 i11_2 i11_3 i11_4 i11_5 i11_6
      have A67 : ∀ j, 0 ≤ τ_11.2.1 67 j ∧ τ_11.2.1 67 j ≤ 30000 := fun j => hT.2 67 j
      have A68 : ∀ j, 0 ≤ τ_11.2.1 68 j ∧ τ_11.2.1 68 j ≤ 30000 := fun j => hT.2 68 j
      have A69 : ∀ j, (-100) ≤ τ_11.2.1 69 j ∧ τ_11.2.1 69 j ≤ 999 := fun j => hT.2 69 j
      have A70 : ∀ j, 0 ≤ τ_11.2.1 70 j ∧ τ_11.2.1 70 j ≤ 1499 := fun j => hT.2 70 j
      have A73 : ∀ j, 0 ≤ τ_11.2.1 73 j ∧ τ_11.2.1 73 j ≤ 30000 := fun j => hT.2 73 j
      have A74 : ∀ j, 0 ≤ τ_11.2.1 74 j ∧ τ_11.2.1 74 j ≤ 30000 := fun j => hT.2 74 j
      have v45 : 1 ≤ τ_11.1 45 ∧ τ_11.1 45 ≤ 30001 := hT.1 45
      exfalso; (first | omega | (simp only [st_s] <;> omega) | assumption | omega | fail)
    | succ m_11 ih_11 =>
      intro u4_11 u5_11 τ_11 hm_11 hT i11_1 i11_2 i11_3 i11_4 i11_5 i11_6
      have A67 : ∀ j, 0 ≤ τ_11.2.1 67 j ∧ τ_11.2.1 67 j ≤ 30000 := fun j => hT.2 67 j
      have A68 : ∀ j, 0 ≤ τ_11.2.1 68 j ∧ τ_11.2.1 68 j ≤ 30000 := fun j => hT.2 68 j
      have A69 : ∀ j, (-100) ≤ τ_11.2.1 69 j ∧ τ_11.2.1 69 j ≤ 999 := fun j => hT.2 69 j
      have A70 : ∀ j, 0 ≤ τ_11.2.1 70 j ∧ τ_11.2.1 70 j ≤ 1499 := fun j => hT.2 70 j
      have A73 : ∀ j, 0 ≤ τ_11.2.1 73 j ∧ τ_11.2.1 73 j ≤ 30000 := fun j => hT.2 73 j
      have A74 : ∀ j, 0 ≤ τ_11.2.1 74 j ∧ τ_11.2.1 74 j ≤ 30000 := fun j => hT.2 74 j
      have v45 : 1 ≤ τ_11.1 45 ∧ τ_11.1 45 ≤ 30001 := hT.1 45
      refine h11 n1 n2 n3 u4_11 u5_11 τ_11 ?_
      refine ⟨fun c3 => ?_, fun c3 => ?_⟩
      ·
        refine h51 _ _ _ _ _ ?_
        refine ⟨fun c10 => ?_, fun c10 => ?_⟩
        ·
          refine ⟨(show 0 ≤ n1 ∧ n1 < 30001 from by (first | omega | (simp only [st_s] <;> omega) | assumption | omega | fail)), ?_⟩
          intro x12 r_x12 e_x12
          have b_x12 : 0 ≤ x12 ∧ x12 ≤ 30000 := by rw [e_x12]; exact hT.2 67 _
          refine ⟨(show 0 ≤ τ_11.1 45 ∧ τ_11.1 45 < 30001 from by (first | omega | (simp only [st_s] <;> omega) | assumption | omega | fail)), ?_⟩
          replace hT := cT_a (k := 68) (j := (τ_11.1 45)) hT (show (0 : Int) ≤ x12 ∧ x12 ≤ 30000 from by (first | omega | (simp only [st_s] <;> omega) | assumption | omega | fail))
          replace hT := cT_a (k := 67) (j := n1) hT (show (0 : Int) ≤ (τ_11.1 45) ∧ (τ_11.1 45) ≤ 30000 from by (first | omega | (simp only [st_s] <;> omega) | assumption | omega | fail))
          replace hT := cT_a (k := 69) (j := (τ_11.1 45)) hT (show (-100 : Int) ≤ n2 ∧ n2 ≤ 999 from by (first | omega | (simp only [st_s] <;> omega) | assumption | omega | fail))
          replace hT := cT_a (k := 70) (j := (τ_11.1 45)) hT (show (0 : Int) ≤ n3 ∧ n3 ≤ 1499 from by (first | omega | (simp only [st_s] <;> omega) | assumption | omega | fail))
          refine ⟨fun c14 => ?_, fun c14 => ?_⟩
          ·
            obtain ⟨τ_127, e_τ_127⟩ : ∃ z : S0, z = s_a (s_a (s_a (s_a τ_11 68 (τ_11.1 45) x12) 67 n1 (τ_11.1 45)) 69 (τ_11.1 45) n2) 70 (τ_11.1 45) n3 := ⟨_, rfl⟩
            rw [← e_τ_127]
            replace hT : c_T τ_127 := by rw [e_τ_127]; exact hT
            have w45_τ_127 : τ_127.1 45 = τ_11.1 45 := by rw [e_τ_127]; rfl
            have g67_τ_127 : τ_127.2.1 67 = (st (τ_11.2.1 67) n1 (τ_11.1 45)) := by rw [e_τ_127]; rfl
            have g68_τ_127 : τ_127.2.1 68 = (st (τ_11.2.1 68) (τ_11.1 45) x12) := by rw [e_τ_127]; rfl
            have g69_τ_127 : τ_127.2.1 69 = (st (τ_11.2.1 69) (τ_11.1 45) n2) := by rw [e_τ_127]; rfl
            have g70_τ_127 : τ_127.2.1 70 = (st (τ_11.2.1 70) (τ_11.1 45) n3) := by rw [e_τ_127]; rfl
            have g73_τ_127 : τ_127.2.1 73 = τ_11.2.1 73 := by rw [e_τ_127]; rfl
            have g74_τ_127 : τ_127.2.1 74 = τ_11.2.1 74 := by rw [e_τ_127]; rfl
            have A67 : ∀ j, 0 ≤ τ_127.2.1 67 j ∧ τ_127.2.1 67 j ≤ 30000 := fun j => hT.2 67 j
            have A68 : ∀ j, 0 ≤ τ_127.2.1 68 j ∧ τ_127.2.1 68 j ≤ 30000 := fun j => hT.2 68 j
            have A69 : ∀ j, (-100) ≤ τ_127.2.1 69 j ∧ τ_127.2.1 69 j ≤ 999 := fun j => hT.2 69 j
            have A70 : ∀ j, 0 ≤ τ_127.2.1 70 j ∧ τ_127.2.1 70 j ≤ 1499 := fun j => hT.2 70 j
            have A73 : ∀ j, 0 ≤ τ_127.2.1 73 j ∧ τ_127.2.1 73 j ≤ 30000 := fun j => hT.2 73 j
            have A74 : ∀ j, 0 ≤ τ_127.2.1 74 j ∧ τ_127.2.1 74 j ≤ 30000 := fun j => hT.2 74 j
            have v45 : 1 ≤ τ_127.1 45 ∧ τ_127.1 45 ≤ 30001 := hT.1 45
            refine h127 _ _ _ ?_
            refine ⟨fun c17 => ?_, fun c17 => ?_⟩
            ·
              refine h141 _ ?_
              refine ⟨(⟨by (first | omega | (simp only [st_s] <;> omega) | assumption | omega | fail), by (first | omega | (simp only [st_s] <;> omega) | assumption | omega | fail)⟩ : rg (τ_127.1 45 + 1)), ?_⟩
              replace hT := cT_v (i := 45) hT (show 1 ≤ (τ_127.1 45 + 1) ∧ (τ_127.1 45 + 1) ≤ 30001 from by (first | omega | (simp only [st_s] <;> omega) | assumption | omega | fail))
              refine ⟨(⟨by (first | omega | (simp only [st_s] <;> omega) | assumption | omega | fail), by (first | omega | (simp only [st_s] <;> omega) | assumption | omega | fail)⟩ : rg ((τ_127.1 45 + 1) - 1)), ?_⟩
              exact ⟨hT, (show 0 ≤ ((τ_127.1 45 + 1) - 1) ∧ ((τ_127.1 45 + 1) - 1) ≤ 30000 from by (first | omega | (simp only [st_s] <;> omega) | assumption | omega | fail)), (show ((τ_127.1 45 + 1)) ≤ (σ.1 45) + 1 ∧ (σ.1 45) ≤ ((τ_127.1 45 + 1)) from by (first | omega | (simp only [st_s] <;> omega) | assumption | omega | fail)), (show ∀ par : Int → Int, g_tr (σ.1 45) (σ.2.1 67) (σ.2.1 68) (σ.2.1 69) (σ.2.1 73) (σ.2.1 74) par → ∃ par2 : Int → Int, g_tr ((τ_127.1 45 + 1)) (τ_127.2.1 67) (τ_127.2.1 68) (τ_127.2.1 69) (τ_127.2.1 73) (τ_127.2.1 74) par2 ∧ g_ch (σ.1 45) ((τ_127.1 45 + 1)) n1 n2 n3 ((τ_127.1 45 + 1) - 1) (σ.2.1 69) (σ.2.1 70) (τ_127.2.1 69) (τ_127.2.1 70) par par2 from by (first | (intro par h; have cf := i11_6 par h; refine ⟨par, ?_, ?_⟩; (rw [i11_3, i11_4.1, i11_4.2.1, i11_4.2.2.1, i11_5.1, i11_5.2]; exact h); (rw [i11_3, i11_4.2.2.1, i11_4.2.2.2]; exact g_ch0 (by omega) cf.1 (cf.2.1 (by omega)).1 (by first | (exfalso; have := (cf.2.1 (by omega)).2; omega) | (rw [← i11_4.2.2.1, ← e_x6]; assumption)))) | (intro par h; have cf := i11_6 par h; refine ⟨st par (σ.1 45) n1, ?_, ?_⟩; (simp only [w45_τ_127, g67_τ_127, g68_τ_127, g69_τ_127, g70_τ_127, g73_τ_127, g74_τ_127, e_x12, i11_3, i11_4.1, i11_4.2.1, i11_4.2.2.1, i11_4.2.2.2, i11_5.1, i11_5.2, Int.add_sub_cancel]; exact g_tr_n h p1 p2 (by omega) (fun d d0 d1 d2 e => cf.2.2 d (by omega) d1 d2 e) (by first | exact Or.inl ⟨by omega, by omega, rfl⟩ | exact Or.inr ⟨by omega, rfl⟩) (by first | exact Or.inl ⟨by omega, by omega, rfl⟩ | exact Or.inr ⟨by omega, rfl⟩)); (simp only [w45_τ_127, g67_τ_127, g68_τ_127, g69_τ_127, g70_τ_127, g73_τ_127, g74_τ_127, e_x12, i11_3, i11_4.1, i11_4.2.1, i11_4.2.2.1, i11_4.2.2.2, i11_5.1, i11_5.2, Int.add_sub_cancel]; exact g_ch_n (by omega))) | (intro par h; have cf := i11_6 par h; refine ⟨st par (σ.1 45) n1, ?_, ?_⟩; (simp only [w45_τ_141, g67_τ_141, g68_τ_141, g69_τ_141, g70_τ_141, g73_τ_141, g74_τ_141, w45_τ_127, g67_τ_127, g68_τ_127, g69_τ_127, g70_τ_127, g73_τ_127, g74_τ_127, e_x12, i11_3, i11_4.1, i11_4.2.1, i11_4.2.2.1, i11_4.2.2.2, i11_5.1, i11_5.2, Int.add_sub_cancel]; exact g_tr_n h p1 p2 (by omega) (fun d d0 d1 d2 e => cf.2.2 d (by omega) d1 d2 e) (by first | exact Or.inl ⟨by omega, by omega, rfl⟩ | exact Or.inr ⟨by omega, rfl⟩) (by first | exact Or.inl ⟨by omega, by omega, rfl⟩ | exact Or.inr ⟨by omega, rfl⟩)); (simp only [w45_τ_141, g67_τ_141, g68_τ_141, g69_τ_141, g70_τ_141, g73_τ_141, g74_τ_141, w45_τ_127, g67_τ_127, g68_τ_127, g69_τ_127, g70_τ_127, g73_τ_127, g74_τ_127, e_x12, i11_3, i11_4.1, i11_4.2.1, i11_4.2.2.1, i11_4.2.2.2, i11_5.1, i11_5.2, Int.add_sub_cancel]; exact g_ch_n (by omega))) | (intro par h; have cf := i11_6 par h; refine ⟨st par (σ.1 45) n1, ?_, ?_⟩; (simp only [w45_τ_141, g67_τ_141, g68_τ_141, g69_τ_141, g70_τ_141, g73_τ_141, g74_τ_141, e_x12, i11_3, i11_4.1, i11_4.2.1, i11_4.2.2.1, i11_4.2.2.2, i11_5.1, i11_5.2, Int.add_sub_cancel]; exact g_tr_n h p1 p2 (by omega) (fun d d0 d1 d2 e => cf.2.2 d (by omega) d1 d2 e) (by first | exact Or.inl ⟨by omega, by omega, rfl⟩ | exact Or.inr ⟨by omega, rfl⟩) (by first | exact Or.inl ⟨by omega, by omega, rfl⟩ | exact Or.inr ⟨by omega, rfl⟩)); (simp only [w45_τ_141, g67_τ_141, g68_τ_141, g69_τ_141, g70_τ_141, g73_τ_141, g74_τ_141, e_x12, i11_3, i11_4.1, i11_4.2.1, i11_4.2.2.1, i11_4.2.2.2, i11_5.1, i11_5.2, Int.add_sub_cancel]; exact g_ch_n (by omega))) | fail))⟩
            ·
              refine ⟨(show 0 ≤ n2 ∧ n2 < 1000 from by (first | omega | (simp only [st_s] <;> omega) | assumption | omega | fail)), ?_⟩
              replace hT := cT_a (k := 73) (j := n2) hT (show (0 : Int) ≤ (τ_127.1 45) ∧ (τ_127.1 45) ≤ 30000 from by (first | omega | (simp only [st_s] <;> omega) | assumption | omega | fail))
              obtain ⟨τ_141, e_τ_141⟩ : ∃ z : S0, z = s_a τ_127 73 n2 (τ_127.1 45) := ⟨_, rfl⟩
              rw [← e_τ_141]
              replace hT : c_T τ_141 := by rw [e_τ_141]; exact hT
              have w45_τ_141 : τ_141.1 45 = τ_127.1 45 := by rw [e_τ_141]; rfl
              have g67_τ_141 : τ_141.2.1 67 = τ_127.2.1 67 := by rw [e_τ_141]; rfl
              have g68_τ_141 : τ_141.2.1 68 = τ_127.2.1 68 := by rw [e_τ_141]; rfl
              have g69_τ_141 : τ_141.2.1 69 = τ_127.2.1 69 := by rw [e_τ_141]; rfl
              have g70_τ_141 : τ_141.2.1 70 = τ_127.2.1 70 := by rw [e_τ_141]; rfl
              have g73_τ_141 : τ_141.2.1 73 = (st (τ_127.2.1 73) n2 (τ_127.1 45)) := by rw [e_τ_141]; rfl
              have g74_τ_141 : τ_141.2.1 74 = τ_127.2.1 74 := by rw [e_τ_141]; rfl
              have A67 : ∀ j, 0 ≤ τ_141.2.1 67 j ∧ τ_141.2.1 67 j ≤ 30000 := fun j => hT.2 67 j
              have A68 : ∀ j, 0 ≤ τ_141.2.1 68 j ∧ τ_141.2.1 68 j ≤ 30000 := fun j => hT.2 68 j
              have A69 : ∀ j, (-100) ≤ τ_141.2.1 69 j ∧ τ_141.2.1 69 j ≤ 999 := fun j => hT.2 69 j
              have A70 : ∀ j, 0 ≤ τ_141.2.1 70 j ∧ τ_141.2.1 70 j ≤ 1499 := fun j => hT.2 70 j
              have A73 : ∀ j, 0 ≤ τ_141.2.1 73 j ∧ τ_141.2.1 73 j ≤ 30000 := fun j => hT.2 73 j
              have A74 : ∀ j, 0 ≤ τ_141.2.1 74 j ∧ τ_141.2.1 74 j ≤ 30000 := fun j => hT.2 74 j
              have v45 : 1 ≤ τ_141.1 45 ∧ τ_141.1 45 ≤ 30001 := hT.1 45
              refine h141 _ ?_
              refine ⟨(⟨by (first | omega | (simp only [st_s] <;> omega) | assumption | omega | fail), by (first | omega | (simp only [st_s] <;> omega) | assumption | omega | fail)⟩ : rg (τ_141.1 45 + 1)), ?_⟩
              replace hT := cT_v (i := 45) hT (show 1 ≤ (τ_141.1 45 + 1) ∧ (τ_141.1 45 + 1) ≤ 30001 from by (first | omega | (simp only [st_s] <;> omega) | assumption | omega | fail))
              refine ⟨(⟨by (first | omega | (simp only [st_s] <;> omega) | assumption | omega | fail), by (first | omega | (simp only [st_s] <;> omega) | assumption | omega | fail)⟩ : rg ((τ_141.1 45 + 1) - 1)), ?_⟩
              exact ⟨hT, (show 0 ≤ ((τ_141.1 45 + 1) - 1) ∧ ((τ_141.1 45 + 1) - 1) ≤ 30000 from by (first | omega | (simp only [st_s] <;> omega) | assumption | omega | fail)), (show ((τ_141.1 45 + 1)) ≤ (σ.1 45) + 1 ∧ (σ.1 45) ≤ ((τ_141.1 45 + 1)) from by (first | omega | (simp only [st_s] <;> omega) | assumption | omega | fail)), (show ∀ par : Int → Int, g_tr (σ.1 45) (σ.2.1 67) (σ.2.1 68) (σ.2.1 69) (σ.2.1 73) (σ.2.1 74) par → ∃ par2 : Int → Int, g_tr ((τ_141.1 45 + 1)) (τ_141.2.1 67) (τ_141.2.1 68) (τ_141.2.1 69) (τ_141.2.1 73) (τ_141.2.1 74) par2 ∧ g_ch (σ.1 45) ((τ_141.1 45 + 1)) n1 n2 n3 ((τ_141.1 45 + 1) - 1) (σ.2.1 69) (σ.2.1 70) (τ_141.2.1 69) (τ_141.2.1 70) par par2 from by (first | (intro par h; have cf := i11_6 par h; refine ⟨par, ?_, ?_⟩; (rw [i11_3, i11_4.1, i11_4.2.1, i11_4.2.2.1, i11_5.1, i11_5.2]; exact h); (rw [i11_3, i11_4.2.2.1, i11_4.2.2.2]; exact g_ch0 (by omega) cf.1 (cf.2.1 (by omega)).1 (by first | (exfalso; have := (cf.2.1 (by omega)).2; omega) | (rw [← i11_4.2.2.1, ← e_x6]; assumption)))) | (intro par h; have cf := i11_6 par h; refine ⟨st par (σ.1 45) n1, ?_, ?_⟩; (simp only [w45_τ_127, g67_τ_127, g68_τ_127, g69_τ_127, g70_τ_127, g73_τ_127, g74_τ_127, e_x12, i11_3, i11_4.1, i11_4.2.1, i11_4.2.2.1, i11_4.2.2.2, i11_5.1, i11_5.2, Int.add_sub_cancel]; exact g_tr_n h p1 p2 (by omega) (fun d d0 d1 d2 e => cf.2.2 d (by omega) d1 d2 e) (by first | exact Or.inl ⟨by omega, by omega, rfl⟩ | exact Or.inr ⟨by omega, rfl⟩) (by first | exact Or.inl ⟨by omega, by omega, rfl⟩ | exact Or.inr ⟨by omega, rfl⟩)); (simp only [w45_τ_127, g67_τ_127, g68_τ_127, g69_τ_127, g70_τ_127, g73_τ_127, g74_τ_127, e_x12, i11_3, i11_4.1, i11_4.2.1, i11_4.2.2.1, i11_4.2.2.2, i11_5.1, i11_5.2, Int.add_sub_cancel]; exact g_ch_n (by omega))) | (intro par h; have cf := i11_6 par h; refine ⟨st par (σ.1 45) n1, ?_, ?_⟩; (simp only [w45_τ_141, g67_τ_141, g68_τ_141, g69_τ_141, g70_τ_141, g73_τ_141, g74_τ_141, w45_τ_127, g67_τ_127, g68_τ_127, g69_τ_127, g70_τ_127, g73_τ_127, g74_τ_127, e_x12, i11_3, i11_4.1, i11_4.2.1, i11_4.2.2.1, i11_4.2.2.2, i11_5.1, i11_5.2, Int.add_sub_cancel]; exact g_tr_n h p1 p2 (by omega) (fun d d0 d1 d2 e => cf.2.2 d (by omega) d1 d2 e) (by first | exact Or.inl ⟨by omega, by omega, rfl⟩ | exact Or.inr ⟨by omega, rfl⟩) (by first | exact Or.inl ⟨by omega, by omega, rfl⟩ | exact Or.inr ⟨by omega, rfl⟩)); (simp only [w45_τ_141, g67_τ_141, g68_τ_141, g69_τ_141, g70_τ_141, g73_τ_141, g74_τ_141, w45_τ_127, g67_τ_127, g68_τ_127, g69_τ_127, g70_τ_127, g73_τ_127, g74_τ_127, e_x12, i11_3, i11_4.1, i11_4.2.1, i11_4.2.2.1, i11_4.2.2.2, i11_5.1, i11_5.2, Int.add_sub_cancel]; exact g_ch_n (by omega))) | (intro par h; have cf := i11_6 par h; refine ⟨st par (σ.1 45) n1, ?_, ?_⟩; (simp only [w45_τ_141, g67_τ_141, g68_τ_141, g69_τ_141, g70_τ_141, g73_τ_141, g74_τ_141, e_x12, i11_3, i11_4.1, i11_4.2.1, i11_4.2.2.1, i11_4.2.2.2, i11_5.1, i11_5.2, Int.add_sub_cancel]; exact g_tr_n h p1 p2 (by omega) (fun d d0 d1 d2 e => cf.2.2 d (by omega) d1 d2 e) (by first | exact Or.inl ⟨by omega, by omega, rfl⟩ | exact Or.inr ⟨by omega, rfl⟩) (by first | exact Or.inl ⟨by omega, by omega, rfl⟩ | exact Or.inr ⟨by omega, rfl⟩)); (simp only [w45_τ_141, g67_τ_141, g68_τ_141, g69_τ_141, g70_τ_141, g73_τ_141, g74_τ_141, e_x12, i11_3, i11_4.1, i11_4.2.1, i11_4.2.2.1, i11_4.2.2.2, i11_5.1, i11_5.2, Int.add_sub_cancel]; exact g_ch_n (by omega))) | fail))⟩
          ·
            refine ⟨fun c15 => ?_, fun c15 => ?_⟩
            ·
              obtain ⟨τ_127, e_τ_127⟩ : ∃ z : S0, z = s_a (s_a (s_a (s_a τ_11 68 (τ_11.1 45) x12) 67 n1 (τ_11.1 45)) 69 (τ_11.1 45) n2) 70 (τ_11.1 45) n3 := ⟨_, rfl⟩
              rw [← e_τ_127]
              replace hT : c_T τ_127 := by rw [e_τ_127]; exact hT
              have w45_τ_127 : τ_127.1 45 = τ_11.1 45 := by rw [e_τ_127]; rfl
              have g67_τ_127 : τ_127.2.1 67 = (st (τ_11.2.1 67) n1 (τ_11.1 45)) := by rw [e_τ_127]; rfl
              have g68_τ_127 : τ_127.2.1 68 = (st (τ_11.2.1 68) (τ_11.1 45) x12) := by rw [e_τ_127]; rfl
              have g69_τ_127 : τ_127.2.1 69 = (st (τ_11.2.1 69) (τ_11.1 45) n2) := by rw [e_τ_127]; rfl
              have g70_τ_127 : τ_127.2.1 70 = (st (τ_11.2.1 70) (τ_11.1 45) n3) := by rw [e_τ_127]; rfl
              have g73_τ_127 : τ_127.2.1 73 = τ_11.2.1 73 := by rw [e_τ_127]; rfl
              have g74_τ_127 : τ_127.2.1 74 = τ_11.2.1 74 := by rw [e_τ_127]; rfl
              have A67 : ∀ j, 0 ≤ τ_127.2.1 67 j ∧ τ_127.2.1 67 j ≤ 30000 := fun j => hT.2 67 j
              have A68 : ∀ j, 0 ≤ τ_127.2.1 68 j ∧ τ_127.2.1 68 j ≤ 30000 := fun j => hT.2 68 j
              have A69 : ∀ j, (-100) ≤ τ_127.2.1 69 j ∧ τ_127.2.1 69 j ≤ 999 := fun j => hT.2 69 j
              have A70 : ∀ j, 0 ≤ τ_127.2.1 70 j ∧ τ_127.2.1 70 j ≤ 1499 := fun j => hT.2 70 j
              have A73 : ∀ j, 0 ≤ τ_127.2.1 73 j ∧ τ_127.2.1 73 j ≤ 30000 := fun j => hT.2 73 j
              have A74 : ∀ j, 0 ≤ τ_127.2.1 74 j ∧ τ_127.2.1 74 j ≤ 30000 := fun j => hT.2 74 j
              have v45 : 1 ≤ τ_127.1 45 ∧ τ_127.1 45 ≤ 30001 := hT.1 45
              refine h127 _ _ _ ?_
              refine ⟨fun c17 => ?_, fun c17 => ?_⟩
              ·
                refine h141 _ ?_
                refine ⟨(⟨by (first | omega | (simp only [st_s] <;> omega) | assumption | omega | fail), by (first | omega | (simp only [st_s] <;> omega) | assumption | omega | fail)⟩ : rg (τ_127.1 45 + 1)), ?_⟩
                replace hT := cT_v (i := 45) hT (show 1 ≤ (τ_127.1 45 + 1) ∧ (τ_127.1 45 + 1) ≤ 30001 from by (first | omega | (simp only [st_s] <;> omega) | assumption | omega | fail))
                refine ⟨(⟨by (first | omega | (simp only [st_s] <;> omega) | assumption | omega | fail), by (first | omega | (simp only [st_s] <;> omega) | assumption | omega | fail)⟩ : rg ((τ_127.1 45 + 1) - 1)), ?_⟩
                exact ⟨hT, (show 0 ≤ ((τ_127.1 45 + 1) - 1) ∧ ((τ_127.1 45 + 1) - 1) ≤ 30000 from by (first | omega | (simp only [st_s] <;> omega) | assumption | omega | fail)), (show ((τ_127.1 45 + 1)) ≤ (σ.1 45) + 1 ∧ (σ.1 45) ≤ ((τ_127.1 45 + 1)) from by (first | omega | (simp only [st_s] <;> omega) | assumption | omega | fail)), (show ∀ par : Int → Int, g_tr (σ.1 45) (σ.2.1 67) (σ.2.1 68) (σ.2.1 69) (σ.2.1 73) (σ.2.1 74) par → ∃ par2 : Int → Int, g_tr ((τ_127.1 45 + 1)) (τ_127.2.1 67) (τ_127.2.1 68) (τ_127.2.1 69) (τ_127.2.1 73) (τ_127.2.1 74) par2 ∧ g_ch (σ.1 45) ((τ_127.1 45 + 1)) n1 n2 n3 ((τ_127.1 45 + 1) - 1) (σ.2.1 69) (σ.2.1 70) (τ_127.2.1 69) (τ_127.2.1 70) par par2 from by (first | (intro par h; have cf := i11_6 par h; refine ⟨par, ?_, ?_⟩; (rw [i11_3, i11_4.1, i11_4.2.1, i11_4.2.2.1, i11_5.1, i11_5.2]; exact h); (rw [i11_3, i11_4.2.2.1, i11_4.2.2.2]; exact g_ch0 (by omega) cf.1 (cf.2.1 (by omega)).1 (by first | (exfalso; have := (cf.2.1 (by omega)).2; omega) | (rw [← i11_4.2.2.1, ← e_x6]; assumption)))) | (intro par h; have cf := i11_6 par h; refine ⟨st par (σ.1 45) n1, ?_, ?_⟩; (simp only [w45_τ_127, g67_τ_127, g68_τ_127, g69_τ_127, g70_τ_127, g73_τ_127, g74_τ_127, e_x12, i11_3, i11_4.1, i11_4.2.1, i11_4.2.2.1, i11_4.2.2.2, i11_5.1, i11_5.2, Int.add_sub_cancel]; exact g_tr_n h p1 p2 (by omega) (fun d d0 d1 d2 e => cf.2.2 d (by omega) d1 d2 e) (by first | exact Or.inl ⟨by omega, by omega, rfl⟩ | exact Or.inr ⟨by omega, rfl⟩) (by first | exact Or.inl ⟨by omega, by omega, rfl⟩ | exact Or.inr ⟨by omega, rfl⟩)); (simp only [w45_τ_127, g67_τ_127, g68_τ_127, g69_τ_127, g70_τ_127, g73_τ_127, g74_τ_127, e_x12, i11_3, i11_4.1, i11_4.2.1, i11_4.2.2.1, i11_4.2.2.2, i11_5.1, i11_5.2, Int.add_sub_cancel]; exact g_ch_n (by omega))) | (intro par h; have cf := i11_6 par h; refine ⟨st par (σ.1 45) n1, ?_, ?_⟩; (simp only [w45_τ_141, g67_τ_141, g68_τ_141, g69_τ_141, g70_τ_141, g73_τ_141, g74_τ_141, w45_τ_127, g67_τ_127, g68_τ_127, g69_τ_127, g70_τ_127, g73_τ_127, g74_τ_127, e_x12, i11_3, i11_4.1, i11_4.2.1, i11_4.2.2.1, i11_4.2.2.2, i11_5.1, i11_5.2, Int.add_sub_cancel]; exact g_tr_n h p1 p2 (by omega) (fun d d0 d1 d2 e => cf.2.2 d (by omega) d1 d2 e) (by first | exact Or.inl ⟨by omega, by omega, rfl⟩ | exact Or.inr ⟨by omega, rfl⟩) (by first | exact Or.inl ⟨by omega, by omega, rfl⟩ | exact Or.inr ⟨by omega, rfl⟩)); (simp only [w45_τ_141, g67_τ_141, g68_τ_141, g69_τ_141, g70_τ_141, g73_τ_141, g74_τ_141, w45_τ_127, g67_τ_127, g68_τ_127, g69_τ_127, g70_τ_127, g73_τ_127, g74_τ_127, e_x12, i11_3, i11_4.1, i11_4.2.1, i11_4.2.2.1, i11_4.2.2.2, i11_5.1, i11_5.2, Int.add_sub_cancel]; exact g_ch_n (by omega))) | (intro par h; have cf := i11_6 par h; refine ⟨st par (σ.1 45) n1, ?_, ?_⟩; (simp only [w45_τ_141, g67_τ_141, g68_τ_141, g69_τ_141, g70_τ_141, g73_τ_141, g74_τ_141, e_x12, i11_3, i11_4.1, i11_4.2.1, i11_4.2.2.1, i11_4.2.2.2, i11_5.1, i11_5.2, Int.add_sub_cancel]; exact g_tr_n h p1 p2 (by omega) (fun d d0 d1 d2 e => cf.2.2 d (by omega) d1 d2 e) (by first | exact Or.inl ⟨by omega, by omega, rfl⟩ | exact Or.inr ⟨by omega, rfl⟩) (by first | exact Or.inl ⟨by omega, by omega, rfl⟩ | exact Or.inr ⟨by omega, rfl⟩)); (simp only [w45_τ_141, g67_τ_141, g68_τ_141, g69_τ_141, g70_τ_141, g73_τ_141, g74_τ_141, e_x12, i11_3, i11_4.1, i11_4.2.1, i11_4.2.2.1, i11_4.2.2.2, i11_5.1, i11_5.2, Int.add_sub_cancel]; exact g_ch_n (by omega))) | fail))⟩
              ·
                refine ⟨(show 0 ≤ n2 ∧ n2 < 1000 from by (first | omega | (simp only [st_s] <;> omega) | assumption | omega | fail)), ?_⟩
                replace hT := cT_a (k := 73) (j := n2) hT (show (0 : Int) ≤ (τ_127.1 45) ∧ (τ_127.1 45) ≤ 30000 from by (first | omega | (simp only [st_s] <;> omega) | assumption | omega | fail))
                obtain ⟨τ_141, e_τ_141⟩ : ∃ z : S0, z = s_a τ_127 73 n2 (τ_127.1 45) := ⟨_, rfl⟩
                rw [← e_τ_141]
                replace hT : c_T τ_141 := by rw [e_τ_141]; exact hT
                have w45_τ_141 : τ_141.1 45 = τ_127.1 45 := by rw [e_τ_141]; rfl
                have g67_τ_141 : τ_141.2.1 67 = τ_127.2.1 67 := by rw [e_τ_141]; rfl
                have g68_τ_141 : τ_141.2.1 68 = τ_127.2.1 68 := by rw [e_τ_141]; rfl
                have g69_τ_141 : τ_141.2.1 69 = τ_127.2.1 69 := by rw [e_τ_141]; rfl
                have g70_τ_141 : τ_141.2.1 70 = τ_127.2.1 70 := by rw [e_τ_141]; rfl
                have g73_τ_141 : τ_141.2.1 73 = (st (τ_127.2.1 73) n2 (τ_127.1 45)) := by rw [e_τ_141]; rfl
                have g74_τ_141 : τ_141.2.1 74 = τ_127.2.1 74 := by rw [e_τ_141]; rfl
                have A67 : ∀ j, 0 ≤ τ_141.2.1 67 j ∧ τ_141.2.1 67 j ≤ 30000 := fun j => hT.2 67 j
                have A68 : ∀ j, 0 ≤ τ_141.2.1 68 j ∧ τ_141.2.1 68 j ≤ 30000 := fun j => hT.2 68 j
                have A69 : ∀ j, (-100) ≤ τ_141.2.1 69 j ∧ τ_141.2.1 69 j ≤ 999 := fun j => hT.2 69 j
                have A70 : ∀ j, 0 ≤ τ_141.2.1 70 j ∧ τ_141.2.1 70 j ≤ 1499 := fun j => hT.2 70 j
                have A73 : ∀ j, 0 ≤ τ_141.2.1 73 j ∧ τ_141.2.1 73 j ≤ 30000 := fun j => hT.2 73 j
                have A74 : ∀ j, 0 ≤ τ_141.2.1 74 j ∧ τ_141.2.1 74 j ≤ 30000 := fun j => hT.2 74 j
                have v45 : 1 ≤ τ_141.1 45 ∧ τ_141.1 45 ≤ 30001 := hT.1 45
                refine h141 _ ?_
                refine ⟨(⟨by (first | omega | (simp only [st_s] <;> omega) | assumption | omega | fail), by (first | omega | (simp only [st_s] <;> omega) | assumption | omega | fail)⟩ : rg (τ_141.1 45 + 1)), ?_⟩
                replace hT := cT_v (i := 45) hT (show 1 ≤ (τ_141.1 45 + 1) ∧ (τ_141.1 45 + 1) ≤ 30001 from by (first | omega | (simp only [st_s] <;> omega) | assumption | omega | fail))
                refine ⟨(⟨by (first | omega | (simp only [st_s] <;> omega) | assumption | omega | fail), by (first | omega | (simp only [st_s] <;> omega) | assumption | omega | fail)⟩ : rg ((τ_141.1 45 + 1) - 1)), ?_⟩
                exact ⟨hT, (show 0 ≤ ((τ_141.1 45 + 1) - 1) ∧ ((τ_141.1 45 + 1) - 1) ≤ 30000 from by (first | omega | (simp only [st_s] <;> omega) | assumption | omega | fail)), (show ((τ_141.1 45 + 1)) ≤ (σ.1 45) + 1 ∧ (σ.1 45) ≤ ((τ_141.1 45 + 1)) from by (first | omega | (simp only [st_s] <;> omega) | assumption | omega | fail)), (show ∀ par : Int → Int, g_tr (σ.1 45) (σ.2.1 67) (σ.2.1 68) (σ.2.1 69) (σ.2.1 73) (σ.2.1 74) par → ∃ par2 : Int → Int, g_tr ((τ_141.1 45 + 1)) (τ_141.2.1 67) (τ_141.2.1 68) (τ_141.2.1 69) (τ_141.2.1 73) (τ_141.2.1 74) par2 ∧ g_ch (σ.1 45) ((τ_141.1 45 + 1)) n1 n2 n3 ((τ_141.1 45 + 1) - 1) (σ.2.1 69) (σ.2.1 70) (τ_141.2.1 69) (τ_141.2.1 70) par par2 from by (first | (intro par h; have cf := i11_6 par h; refine ⟨par, ?_, ?_⟩; (rw [i11_3, i11_4.1, i11_4.2.1, i11_4.2.2.1, i11_5.1, i11_5.2]; exact h); (rw [i11_3, i11_4.2.2.1, i11_4.2.2.2]; exact g_ch0 (by omega) cf.1 (cf.2.1 (by omega)).1 (by first | (exfalso; have := (cf.2.1 (by omega)).2; omega) | (rw [← i11_4.2.2.1, ← e_x6]; assumption)))) | (intro par h; have cf := i11_6 par h; refine ⟨st par (σ.1 45) n1, ?_, ?_⟩; (simp only [w45_τ_127, g67_τ_127, g68_τ_127, g69_τ_127, g70_τ_127, g73_τ_127, g74_τ_127, e_x12, i11_3, i11_4.1, i11_4.2.1, i11_4.2.2.1, i11_4.2.2.2, i11_5.1, i11_5.2, Int.add_sub_cancel]; exact g_tr_n h p1 p2 (by omega) (fun d d0 d1 d2 e => cf.2.2 d (by omega) d1 d2 e) (by first | exact Or.inl ⟨by omega, by omega, rfl⟩ | exact Or.inr ⟨by omega, rfl⟩) (by first | exact Or.inl ⟨by omega, by omega, rfl⟩ | exact Or.inr ⟨by omega, rfl⟩)); (simp only [w45_τ_127, g67_τ_127, g68_τ_127, g69_τ_127, g70_τ_127, g73_τ_127, g74_τ_127, e_x12, i11_3, i11_4.1, i11_4.2.1, i11_4.2.2.1, i11_4.2.2.2, i11_5.1, i11_5.2, Int.add_sub_cancel]; exact g_ch_n (by omega))) | (intro par h; have cf := i11_6 par h; refine ⟨st par (σ.1 45) n1, ?_, ?_⟩; (simp only [w45_τ_141, g67_τ_141, g68_τ_141, g69_τ_141, g70_τ_141, g73_τ_141, g74_τ_141, w45_τ_127, g67_τ_127, g68_τ_127, g69_τ_127, g70_τ_127, g73_τ_127, g74_τ_127, e_x12, i11_3, i11_4.1, i11_4.2.1, i11_4.2.2.1, i11_4.2.2.2, i11_5.1, i11_5.2, Int.add_sub_cancel]; exact g_tr_n h p1 p2 (by omega) (fun d d0 d1 d2 e => cf.2.2 d (by omega) d1 d2 e) (by first | exact Or.inl ⟨by omega, by omega, rfl⟩ | exact Or.inr ⟨by omega, rfl⟩) (by first | exact Or.inl ⟨by omega, by omega, rfl⟩ | exact Or.inr ⟨by omega, rfl⟩)); (simp only [w45_τ_141, g67_τ_141, g68_τ_141, g69_τ_141, g70_τ_141, g73_τ_141, g74_τ_141, w45_τ_127, g67_τ_127, g68_τ_127, g69_τ_127, g70_τ_127, g73_τ_127, g74_τ_127, e_x12, i11_3, i11_4.1, i11_4.2.1, i11_4.2.2.1, i11_4.2.2.2, i11_5.1, i11_5.2, Int.add_sub_cancel]; exact g_ch_n (by omega))) | (intro par h; have cf := i11_6 par h; refine ⟨st par (σ.1 45) n1, ?_, ?_⟩; (simp only [w45_τ_141, g67_τ_141, g68_τ_141, g69_τ_141, g70_τ_141, g73_τ_141, g74_τ_141, e_x12, i11_3, i11_4.1, i11_4.2.1, i11_4.2.2.1, i11_4.2.2.2, i11_5.1, i11_5.2, Int.add_sub_cancel]; exact g_tr_n h p1 p2 (by omega) (fun d d0 d1 d2 e => cf.2.2 d (by omega) d1 d2 e) (by first | exact Or.inl ⟨by omega, by omega, rfl⟩ | exact Or.inr ⟨by omega, rfl⟩) (by first | exact Or.inl ⟨by omega, by omega, rfl⟩ | exact Or.inr ⟨by omega, rfl⟩)); (simp only [w45_τ_141, g67_τ_141, g68_τ_141, g69_τ_141, g70_τ_141, g73_τ_141, g74_τ_141, e_x12, i11_3, i11_4.1, i11_4.2.1, i11_4.2.2.1, i11_4.2.2.2, i11_5.1, i11_5.2, Int.add_sub_cancel]; exact g_ch_n (by omega))) | fail))⟩
            ·
              refine ⟨(show 0 ≤ (-1 - n2) ∧ (-1 - n2) < 100 from by (first | omega | (simp only [st_s] <;> omega) | assumption | omega | fail)), ?_⟩
              replace hT := cT_a (k := 74) (j := (-1 - n2)) hT (show (0 : Int) ≤ (τ_11.1 45) ∧ (τ_11.1 45) ≤ 30000 from by (first | omega | (simp only [st_s] <;> omega) | assumption | omega | fail))
              obtain ⟨τ_141, e_τ_141⟩ : ∃ z : S0, z = s_a (s_a (s_a (s_a (s_a τ_11 68 (τ_11.1 45) x12) 67 n1 (τ_11.1 45)) 69 (τ_11.1 45) n2) 70 (τ_11.1 45) n3) 74 (-1 - n2) (τ_11.1 45) := ⟨_, rfl⟩
              rw [← e_τ_141]
              replace hT : c_T τ_141 := by rw [e_τ_141]; exact hT
              have w45_τ_141 : τ_141.1 45 = τ_11.1 45 := by rw [e_τ_141]; rfl
              have g67_τ_141 : τ_141.2.1 67 = (st (τ_11.2.1 67) n1 (τ_11.1 45)) := by rw [e_τ_141]; rfl
              have g68_τ_141 : τ_141.2.1 68 = (st (τ_11.2.1 68) (τ_11.1 45) x12) := by rw [e_τ_141]; rfl
              have g69_τ_141 : τ_141.2.1 69 = (st (τ_11.2.1 69) (τ_11.1 45) n2) := by rw [e_τ_141]; rfl
              have g70_τ_141 : τ_141.2.1 70 = (st (τ_11.2.1 70) (τ_11.1 45) n3) := by rw [e_τ_141]; rfl
              have g73_τ_141 : τ_141.2.1 73 = τ_11.2.1 73 := by rw [e_τ_141]; rfl
              have g74_τ_141 : τ_141.2.1 74 = (st (τ_11.2.1 74) (-1 - n2) (τ_11.1 45)) := by rw [e_τ_141]; rfl
              have A67 : ∀ j, 0 ≤ τ_141.2.1 67 j ∧ τ_141.2.1 67 j ≤ 30000 := fun j => hT.2 67 j
              have A68 : ∀ j, 0 ≤ τ_141.2.1 68 j ∧ τ_141.2.1 68 j ≤ 30000 := fun j => hT.2 68 j
              have A69 : ∀ j, (-100) ≤ τ_141.2.1 69 j ∧ τ_141.2.1 69 j ≤ 999 := fun j => hT.2 69 j
              have A70 : ∀ j, 0 ≤ τ_141.2.1 70 j ∧ τ_141.2.1 70 j ≤ 1499 := fun j => hT.2 70 j
              have A73 : ∀ j, 0 ≤ τ_141.2.1 73 j ∧ τ_141.2.1 73 j ≤ 30000 := fun j => hT.2 73 j
              have A74 : ∀ j, 0 ≤ τ_141.2.1 74 j ∧ τ_141.2.1 74 j ≤ 30000 := fun j => hT.2 74 j
              have v45 : 1 ≤ τ_141.1 45 ∧ τ_141.1 45 ≤ 30001 := hT.1 45
              refine h141 _ ?_
              refine ⟨(⟨by (first | omega | (simp only [st_s] <;> omega) | assumption | omega | fail), by (first | omega | (simp only [st_s] <;> omega) | assumption | omega | fail)⟩ : rg (τ_141.1 45 + 1)), ?_⟩
              replace hT := cT_v (i := 45) hT (show 1 ≤ (τ_141.1 45 + 1) ∧ (τ_141.1 45 + 1) ≤ 30001 from by (first | omega | (simp only [st_s] <;> omega) | assumption | omega | fail))
              refine ⟨(⟨by (first | omega | (simp only [st_s] <;> omega) | assumption | omega | fail), by (first | omega | (simp only [st_s] <;> omega) | assumption | omega | fail)⟩ : rg ((τ_141.1 45 + 1) - 1)), ?_⟩
              exact ⟨hT, (show 0 ≤ ((τ_141.1 45 + 1) - 1) ∧ ((τ_141.1 45 + 1) - 1) ≤ 30000 from by (first | omega | (simp only [st_s] <;> omega) | assumption | omega | fail)), (show ((τ_141.1 45 + 1)) ≤ (σ.1 45) + 1 ∧ (σ.1 45) ≤ ((τ_141.1 45 + 1)) from by (first | omega | (simp only [st_s] <;> omega) | assumption | omega | fail)), (show ∀ par : Int → Int, g_tr (σ.1 45) (σ.2.1 67) (σ.2.1 68) (σ.2.1 69) (σ.2.1 73) (σ.2.1 74) par → ∃ par2 : Int → Int, g_tr ((τ_141.1 45 + 1)) (τ_141.2.1 67) (τ_141.2.1 68) (τ_141.2.1 69) (τ_141.2.1 73) (τ_141.2.1 74) par2 ∧ g_ch (σ.1 45) ((τ_141.1 45 + 1)) n1 n2 n3 ((τ_141.1 45 + 1) - 1) (σ.2.1 69) (σ.2.1 70) (τ_141.2.1 69) (τ_141.2.1 70) par par2 from by (first | (intro par h; have cf := i11_6 par h; refine ⟨par, ?_, ?_⟩; (rw [i11_3, i11_4.1, i11_4.2.1, i11_4.2.2.1, i11_5.1, i11_5.2]; exact h); (rw [i11_3, i11_4.2.2.1, i11_4.2.2.2]; exact g_ch0 (by omega) cf.1 (cf.2.1 (by omega)).1 (by first | (exfalso; have := (cf.2.1 (by omega)).2; omega) | (rw [← i11_4.2.2.1, ← e_x6]; assumption)))) | (intro par h; have cf := i11_6 par h; refine ⟨st par (σ.1 45) n1, ?_, ?_⟩; (simp only [w45_τ_127, g67_τ_127, g68_τ_127, g69_τ_127, g70_τ_127, g73_τ_127, g74_τ_127, e_x12, i11_3, i11_4.1, i11_4.2.1, i11_4.2.2.1, i11_4.2.2.2, i11_5.1, i11_5.2, Int.add_sub_cancel]; exact g_tr_n h p1 p2 (by omega) (fun d d0 d1 d2 e => cf.2.2 d (by omega) d1 d2 e) (by first | exact Or.inl ⟨by omega, by omega, rfl⟩ | exact Or.inr ⟨by omega, rfl⟩) (by first | exact Or.inl ⟨by omega, by omega, rfl⟩ | exact Or.inr ⟨by omega, rfl⟩)); (simp only [w45_τ_127, g67_τ_127, g68_τ_127, g69_τ_127, g70_τ_127, g73_τ_127, g74_τ_127, e_x12, i11_3, i11_4.1, i11_4.2.1, i11_4.2.2.1, i11_4.2.2.2, i11_5.1, i11_5.2, Int.add_sub_cancel]; exact g_ch_n (by omega))) | (intro par h; have cf := i11_6 par h; refine ⟨st par (σ.1 45) n1, ?_, ?_⟩; (simp only [w45_τ_141, g67_τ_141, g68_τ_141, g69_τ_141, g70_τ_141, g73_τ_141, g74_τ_141, w45_τ_127, g67_τ_127, g68_τ_127, g69_τ_127, g70_τ_127, g73_τ_127, g74_τ_127, e_x12, i11_3, i11_4.1, i11_4.2.1, i11_4.2.2.1, i11_4.2.2.2, i11_5.1, i11_5.2, Int.add_sub_cancel]; exact g_tr_n h p1 p2 (by omega) (fun d d0 d1 d2 e => cf.2.2 d (by omega) d1 d2 e) (by first | exact Or.inl ⟨by omega, by omega, rfl⟩ | exact Or.inr ⟨by omega, rfl⟩) (by first | exact Or.inl ⟨by omega, by omega, rfl⟩ | exact Or.inr ⟨by omega, rfl⟩)); (simp only [w45_τ_141, g67_τ_141, g68_τ_141, g69_τ_141, g70_τ_141, g73_τ_141, g74_τ_141, w45_τ_127, g67_τ_127, g68_τ_127, g69_τ_127, g70_τ_127, g73_τ_127, g74_τ_127, e_x12, i11_3, i11_4.1, i11_4.2.1, i11_4.2.2.1, i11_4.2.2.2, i11_5.1, i11_5.2, Int.add_sub_cancel]; exact g_ch_n (by omega))) | (intro par h; have cf := i11_6 par h; refine ⟨st par (σ.1 45) n1, ?_, ?_⟩; (simp only [w45_τ_141, g67_τ_141, g68_τ_141, g69_τ_141, g70_τ_141, g73_τ_141, g74_τ_141, e_x12, i11_3, i11_4.1, i11_4.2.1, i11_4.2.2.1, i11_4.2.2.2, i11_5.1, i11_5.2, Int.add_sub_cancel]; exact g_tr_n h p1 p2 (by omega) (fun d d0 d1 d2 e => cf.2.2 d (by omega) d1 d2 e) (by first | exact Or.inl ⟨by omega, by omega, rfl⟩ | exact Or.inr ⟨by omega, rfl⟩) (by first | exact Or.inl ⟨by omega, by omega, rfl⟩ | exact Or.inr ⟨by omega, rfl⟩)); (simp only [w45_τ_141, g67_τ_141, g68_τ_141, g69_τ_141, g70_τ_141, g73_τ_141, g74_τ_141, e_x12, i11_3, i11_4.1, i11_4.2.1, i11_4.2.2.1, i11_4.2.2.2, i11_5.1, i11_5.2, Int.add_sub_cancel]; exact g_ch_n (by omega))) | fail))⟩
        ·
          exact ⟨hT, (show 0 ≤ u4_11 ∧ u4_11 ≤ 30000 from by (first | omega | (simp only [st_s] <;> omega) | assumption | omega | fail)), (show (τ_11.1 45) ≤ (σ.1 45) + 1 ∧ (σ.1 45) ≤ (τ_11.1 45) from by (first | omega | (simp only [st_s] <;> omega) | assumption | omega | fail)), (show ∀ par : Int → Int, g_tr (σ.1 45) (σ.2.1 67) (σ.2.1 68) (σ.2.1 69) (σ.2.1 73) (σ.2.1 74) par → ∃ par2 : Int → Int, g_tr (τ_11.1 45) (τ_11.2.1 67) (τ_11.2.1 68) (τ_11.2.1 69) (τ_11.2.1 73) (τ_11.2.1 74) par2 ∧ g_ch (σ.1 45) (τ_11.1 45) n1 n2 n3 u4_11 (σ.2.1 69) (σ.2.1 70) (τ_11.2.1 69) (τ_11.2.1 70) par par2 from by (first | (intro par h; have cf := i11_6 par h; refine ⟨par, ?_, ?_⟩; (rw [i11_3, i11_4.1, i11_4.2.1, i11_4.2.2.1, i11_5.1, i11_5.2]; exact h); (rw [i11_3, i11_4.2.2.1, i11_4.2.2.2]; exact g_ch0 (by omega) cf.1 (cf.2.1 (by omega)).1 (by first | (exfalso; have := (cf.2.1 (by omega)).2; omega) | (rw [← i11_4.2.2.1, ← e_x6]; assumption)))) | (intro par h; have cf := i11_6 par h; refine ⟨st par (σ.1 45) n1, ?_, ?_⟩; (simp only [w45_τ_127, g67_τ_127, g68_τ_127, g69_τ_127, g70_τ_127, g73_τ_127, g74_τ_127, e_x12, i11_3, i11_4.1, i11_4.2.1, i11_4.2.2.1, i11_4.2.2.2, i11_5.1, i11_5.2, Int.add_sub_cancel]; exact g_tr_n h p1 p2 (by omega) (fun d d0 d1 d2 e => cf.2.2 d (by omega) d1 d2 e) (by first | exact Or.inl ⟨by omega, by omega, rfl⟩ | exact Or.inr ⟨by omega, rfl⟩) (by first | exact Or.inl ⟨by omega, by omega, rfl⟩ | exact Or.inr ⟨by omega, rfl⟩)); (simp only [w45_τ_127, g67_τ_127, g68_τ_127, g69_τ_127, g70_τ_127, g73_τ_127, g74_τ_127, e_x12, i11_3, i11_4.1, i11_4.2.1, i11_4.2.2.1, i11_4.2.2.2, i11_5.1, i11_5.2, Int.add_sub_cancel]; exact g_ch_n (by omega))) | (intro par h; have cf := i11_6 par h; refine ⟨st par (σ.1 45) n1, ?_, ?_⟩; (simp only [w45_τ_141, g67_τ_141, g68_τ_141, g69_τ_141, g70_τ_141, g73_τ_141, g74_τ_141, w45_τ_127, g67_τ_127, g68_τ_127, g69_τ_127, g70_τ_127, g73_τ_127, g74_τ_127, e_x12, i11_3, i11_4.1, i11_4.2.1, i11_4.2.2.1, i11_4.2.2.2, i11_5.1, i11_5.2, Int.add_sub_cancel]; exact g_tr_n h p1 p2 (by omega) (fun d d0 d1 d2 e => cf.2.2 d (by omega) d1 d2 e) (by first | exact Or.inl ⟨by omega, by omega, rfl⟩ | exact Or.inr ⟨by omega, rfl⟩) (by first | exact Or.inl ⟨by omega, by omega, rfl⟩ | exact Or.inr ⟨by omega, rfl⟩)); (simp only [w45_τ_141, g67_τ_141, g68_τ_141, g69_τ_141, g70_τ_141, g73_τ_141, g74_τ_141, w45_τ_127, g67_τ_127, g68_τ_127, g69_τ_127, g70_τ_127, g73_τ_127, g74_τ_127, e_x12, i11_3, i11_4.1, i11_4.2.1, i11_4.2.2.1, i11_4.2.2.2, i11_5.1, i11_5.2, Int.add_sub_cancel]; exact g_ch_n (by omega))) | (intro par h; have cf := i11_6 par h; refine ⟨st par (σ.1 45) n1, ?_, ?_⟩; (simp only [w45_τ_141, g67_τ_141, g68_τ_141, g69_τ_141, g70_τ_141, g73_τ_141, g74_τ_141, e_x12, i11_3, i11_4.1, i11_4.2.1, i11_4.2.2.1, i11_4.2.2.2, i11_5.1, i11_5.2, Int.add_sub_cancel]; exact g_tr_n h p1 p2 (by omega) (fun d d0 d1 d2 e => cf.2.2 d (by omega) d1 d2 e) (by first | exact Or.inl ⟨by omega, by omega, rfl⟩ | exact Or.inr ⟨by omega, rfl⟩) (by first | exact Or.inl ⟨by omega, by omega, rfl⟩ | exact Or.inr ⟨by omega, rfl⟩)); (simp only [w45_τ_141, g67_τ_141, g68_τ_141, g69_τ_141, g70_τ_141, g73_τ_141, g74_τ_141, e_x12, i11_3, i11_4.1, i11_4.2.1, i11_4.2.2.1, i11_4.2.2.2, i11_5.1, i11_5.2, Int.add_sub_cancel]; exact g_ch_n (by omega))) | fail))⟩
      ·
        refine ⟨fun c4 => ?_, fun c4 => ?_⟩
        ·
          refine h51 _ _ _ _ _ ?_
          refine ⟨fun c10 => ?_, fun c10 => ?_⟩
          ·
            refine ⟨(show 0 ≤ n1 ∧ n1 < 30001 from by (first | omega | (simp only [st_s] <;> omega) | assumption | omega | fail)), ?_⟩
            intro x12 r_x12 e_x12
            have b_x12 : 0 ≤ x12 ∧ x12 ≤ 30000 := by rw [e_x12]; exact hT.2 67 _
            refine ⟨(show 0 ≤ τ_11.1 45 ∧ τ_11.1 45 < 30001 from by (first | omega | (simp only [st_s] <;> omega) | assumption | omega | fail)), ?_⟩
            replace hT := cT_a (k := 68) (j := (τ_11.1 45)) hT (show (0 : Int) ≤ x12 ∧ x12 ≤ 30000 from by (first | omega | (simp only [st_s] <;> omega) | assumption | omega | fail))
            replace hT := cT_a (k := 67) (j := n1) hT (show (0 : Int) ≤ (τ_11.1 45) ∧ (τ_11.1 45) ≤ 30000 from by (first | omega | (simp only [st_s] <;> omega) | assumption | omega | fail))
            replace hT := cT_a (k := 69) (j := (τ_11.1 45)) hT (show (-100 : Int) ≤ n2 ∧ n2 ≤ 999 from by (first | omega | (simp only [st_s] <;> omega) | assumption | omega | fail))
            replace hT := cT_a (k := 70) (j := (τ_11.1 45)) hT (show (0 : Int) ≤ n3 ∧ n3 ≤ 1499 from by (first | omega | (simp only [st_s] <;> omega) | assumption | omega | fail))
            refine ⟨fun c14 => ?_, fun c14 => ?_⟩
            ·
              obtain ⟨τ_127, e_τ_127⟩ : ∃ z : S0, z = s_a (s_a (s_a (s_a τ_11 68 (τ_11.1 45) x12) 67 n1 (τ_11.1 45)) 69 (τ_11.1 45) n2) 70 (τ_11.1 45) n3 := ⟨_, rfl⟩
              rw [← e_τ_127]
              replace hT : c_T τ_127 := by rw [e_τ_127]; exact hT
              have w45_τ_127 : τ_127.1 45 = τ_11.1 45 := by rw [e_τ_127]; rfl
              have g67_τ_127 : τ_127.2.1 67 = (st (τ_11.2.1 67) n1 (τ_11.1 45)) := by rw [e_τ_127]; rfl
              have g68_τ_127 : τ_127.2.1 68 = (st (τ_11.2.1 68) (τ_11.1 45) x12) := by rw [e_τ_127]; rfl
              have g69_τ_127 : τ_127.2.1 69 = (st (τ_11.2.1 69) (τ_11.1 45) n2) := by rw [e_τ_127]; rfl
              have g70_τ_127 : τ_127.2.1 70 = (st (τ_11.2.1 70) (τ_11.1 45) n3) := by rw [e_τ_127]; rfl
              have g73_τ_127 : τ_127.2.1 73 = τ_11.2.1 73 := by rw [e_τ_127]; rfl
              have g74_τ_127 : τ_127.2.1 74 = τ_11.2.1 74 := by rw [e_τ_127]; rfl
              have A67 : ∀ j, 0 ≤ τ_127.2.1 67 j ∧ τ_127.2.1 67 j ≤ 30000 := fun j => hT.2 67 j
              have A68 : ∀ j, 0 ≤ τ_127.2.1 68 j ∧ τ_127.2.1 68 j ≤ 30000 := fun j => hT.2 68 j
              have A69 : ∀ j, (-100) ≤ τ_127.2.1 69 j ∧ τ_127.2.1 69 j ≤ 999 := fun j => hT.2 69 j
              have A70 : ∀ j, 0 ≤ τ_127.2.1 70 j ∧ τ_127.2.1 70 j ≤ 1499 := fun j => hT.2 70 j
              have A73 : ∀ j, 0 ≤ τ_127.2.1 73 j ∧ τ_127.2.1 73 j ≤ 30000 := fun j => hT.2 73 j
              have A74 : ∀ j, 0 ≤ τ_127.2.1 74 j ∧ τ_127.2.1 74 j ≤ 30000 := fun j => hT.2 74 j
              have v45 : 1 ≤ τ_127.1 45 ∧ τ_127.1 45 ≤ 30001 := hT.1 45
              refine h127 _ _ _ ?_
              refine ⟨fun c17 => ?_, fun c17 => ?_⟩
              ·
                refine h141 _ ?_
                refine ⟨(⟨by (first | omega | (simp only [st_s] <;> omega) | assumption | omega | fail), by (first | omega | (simp only [st_s] <;> omega) | assumption | omega | fail)⟩ : rg (τ_127.1 45 + 1)), ?_⟩
                replace hT := cT_v (i := 45) hT (show 1 ≤ (τ_127.1 45 + 1) ∧ (τ_127.1 45 + 1) ≤ 30001 from by (first | omega | (simp only [st_s] <;> omega) | assumption | omega | fail))
                refine ⟨(⟨by (first | omega | (simp only [st_s] <;> omega) | assumption | omega | fail), by (first | omega | (simp only [st_s] <;> omega) | assumption | omega | fail)⟩ : rg ((τ_127.1 45 + 1) - 1)), ?_⟩
                exact ⟨hT, (show 0 ≤ ((τ_127.1 45 + 1) - 1) ∧ ((τ_127.1 45 + 1) - 1) ≤ 30000 from by (first | omega | (simp only [st_s] <;> omega) | assumption | omega | fail)), (show ((τ_127.1 45 + 1)) ≤ (σ.1 45) + 1 ∧ (σ.1 45) ≤ ((τ_127.1 45 + 1)) from by (first | omega | (simp only [st_s] <;> omega) | assumption | omega | fail)), (show ∀ par : Int → Int, g_tr (σ.1 45) (σ.2.1 67) (σ.2.1 68) (σ.2.1 69) (σ.2.1 73) (σ.2.1 74) par → ∃ par2 : Int → Int, g_tr ((τ_127.1 45 + 1)) (τ_127.2.1 67) (τ_127.2.1 68) (τ_127.2.1 69) (τ_127.2.1 73) (τ_127.2.1 74) par2 ∧ g_ch (σ.1 45) ((τ_127.1 45 + 1)) n1 n2 n3 ((τ_127.1 45 + 1) - 1) (σ.2.1 69) (σ.2.1 70) (τ_127.2.1 69) (τ_127.2.1 70) par par2 from by (first | (intro par h; have cf := i11_6 par h; refine ⟨par, ?_, ?_⟩; (rw [i11_3, i11_4.1, i11_4.2.1, i11_4.2.2.1, i11_5.1, i11_5.2]; exact h); (rw [i11_3, i11_4.2.2.1, i11_4.2.2.2]; exact g_ch0 (by omega) cf.1 (cf.2.1 (by omega)).1 (by first | (exfalso; have := (cf.2.1 (by omega)).2; omega) | (rw [← i11_4.2.2.1, ← e_x6]; assumption)))) | (intro par h; have cf := i11_6 par h; refine ⟨st par (σ.1 45) n1, ?_, ?_⟩; (simp only [w45_τ_127, g67_τ_127, g68_τ_127, g69_τ_127, g70_τ_127, g73_τ_127, g74_τ_127, e_x12, i11_3, i11_4.1, i11_4.2.1, i11_4.2.2.1, i11_4.2.2.2, i11_5.1, i11_5.2, Int.add_sub_cancel]; exact g_tr_n h p1 p2 (by omega) (fun d d0 d1 d2 e => cf.2.2 d (by omega) d1 d2 e) (by first | exact Or.inl ⟨by omega, by omega, rfl⟩ | exact Or.inr ⟨by omega, rfl⟩) (by first | exact Or.inl ⟨by omega, by omega, rfl⟩ | exact Or.inr ⟨by omega, rfl⟩)); (simp only [w45_τ_127, g67_τ_127, g68_τ_127, g69_τ_127, g70_τ_127, g73_τ_127, g74_τ_127, e_x12, i11_3, i11_4.1, i11_4.2.1, i11_4.2.2.1, i11_4.2.2.2, i11_5.1, i11_5.2, Int.add_sub_cancel]; exact g_ch_n (by omega))) | (intro par h; have cf := i11_6 par h; refine ⟨st par (σ.1 45) n1, ?_, ?_⟩; (simp only [w45_τ_141, g67_τ_141, g68_τ_141, g69_τ_141, g70_τ_141, g73_τ_141, g74_τ_141, w45_τ_127, g67_τ_127, g68_τ_127, g69_τ_127, g70_τ_127, g73_τ_127, g74_τ_127, e_x12, i11_3, i11_4.1, i11_4.2.1, i11_4.2.2.1, i11_4.2.2.2, i11_5.1, i11_5.2, Int.add_sub_cancel]; exact g_tr_n h p1 p2 (by omega) (fun d d0 d1 d2 e => cf.2.2 d (by omega) d1 d2 e) (by first | exact Or.inl ⟨by omega, by omega, rfl⟩ | exact Or.inr ⟨by omega, rfl⟩) (by first | exact Or.inl ⟨by omega, by omega, rfl⟩ | exact Or.inr ⟨by omega, rfl⟩)); (simp only [w45_τ_141, g67_τ_141, g68_τ_141, g69_τ_141, g70_τ_141, g73_τ_141, g74_τ_141, w45_τ_127, g67_τ_127, g68_τ_127, g69_τ_127, g70_τ_127, g73_τ_127, g74_τ_127, e_x12, i11_3, i11_4.1, i11_4.2.1, i11_4.2.2.1, i11_4.2.2.2, i11_5.1, i11_5.2, Int.add_sub_cancel]; exact g_ch_n (by omega))) | (intro par h; have cf := i11_6 par h; refine ⟨st par (σ.1 45) n1, ?_, ?_⟩; (simp only [w45_τ_141, g67_τ_141, g68_τ_141, g69_τ_141, g70_τ_141, g73_τ_141, g74_τ_141, e_x12, i11_3, i11_4.1, i11_4.2.1, i11_4.2.2.1, i11_4.2.2.2, i11_5.1, i11_5.2, Int.add_sub_cancel]; exact g_tr_n h p1 p2 (by omega) (fun d d0 d1 d2 e => cf.2.2 d (by omega) d1 d2 e) (by first | exact Or.inl ⟨by omega, by omega, rfl⟩ | exact Or.inr ⟨by omega, rfl⟩) (by first | exact Or.inl ⟨by omega, by omega, rfl⟩ | exact Or.inr ⟨by omega, rfl⟩)); (simp only [w45_τ_141, g67_τ_141, g68_τ_141, g69_τ_141, g70_τ_141, g73_τ_141, g74_τ_141, e_x12, i11_3, i11_4.1, i11_4.2.1, i11_4.2.2.1, i11_4.2.2.2, i11_5.1, i11_5.2, Int.add_sub_cancel]; exact g_ch_n (by omega))) | fail))⟩
              ·
                refine ⟨(show 0 ≤ n2 ∧ n2 < 1000 from by (first | omega | (simp only [st_s] <;> omega) | assumption | omega | fail)), ?_⟩
                replace hT := cT_a (k := 73) (j := n2) hT (show (0 : Int) ≤ (τ_127.1 45) ∧ (τ_127.1 45) ≤ 30000 from by (first | omega | (simp only [st_s] <;> omega) | assumption | omega | fail))
                obtain ⟨τ_141, e_τ_141⟩ : ∃ z : S0, z = s_a τ_127 73 n2 (τ_127.1 45) := ⟨_, rfl⟩
                rw [← e_τ_141]
                replace hT : c_T τ_141 := by rw [e_τ_141]; exact hT
                have w45_τ_141 : τ_141.1 45 = τ_127.1 45 := by rw [e_τ_141]; rfl
                have g67_τ_141 : τ_141.2.1 67 = τ_127.2.1 67 := by rw [e_τ_141]; rfl
                have g68_τ_141 : τ_141.2.1 68 = τ_127.2.1 68 := by rw [e_τ_141]; rfl
                have g69_τ_141 : τ_141.2.1 69 = τ_127.2.1 69 := by rw [e_τ_141]; rfl
                have g70_τ_141 : τ_141.2.1 70 = τ_127.2.1 70 := by rw [e_τ_141]; rfl
                have g73_τ_141 : τ_141.2.1 73 = (st (τ_127.2.1 73) n2 (τ_127.1 45)) := by rw [e_τ_141]; rfl
                have g74_τ_141 : τ_141.2.1 74 = τ_127.2.1 74 := by rw [e_τ_141]; rfl
                have A67 : ∀ j, 0 ≤ τ_141.2.1 67 j ∧ τ_141.2.1 67 j ≤ 30000 := fun j => hT.2 67 j
                have A68 : ∀ j, 0 ≤ τ_141.2.1 68 j ∧ τ_141.2.1 68 j ≤ 30000 := fun j => hT.2 68 j
                have A69 : ∀ j, (-100) ≤ τ_141.2.1 69 j ∧ τ_141.2.1 69 j ≤ 999 := fun j => hT.2 69 j
                have A70 : ∀ j, 0 ≤ τ_141.2.1 70 j ∧ τ_141.2.1 70 j ≤ 1499 := fun j => hT.2 70 j
                have A73 : ∀ j, 0 ≤ τ_141.2.1 73 j ∧ τ_141.2.1 73 j ≤ 30000 := fun j => hT.2 73 j
                have A74 : ∀ j, 0 ≤ τ_141.2.1 74 j ∧ τ_141.2.1 74 j ≤ 30000 := fun j => hT.2 74 j
                have v45 : 1 ≤ τ_141.1 45 ∧ τ_141.1 45 ≤ 30001 := hT.1 45
                refine h141 _ ?_
                refine ⟨(⟨by (first | omega | (simp only [st_s] <;> omega) | assumption | omega | fail), by (first | omega | (simp only [st_s] <;> omega) | assumption | omega | fail)⟩ : rg (τ_141.1 45 + 1)), ?_⟩
                replace hT := cT_v (i := 45) hT (show 1 ≤ (τ_141.1 45 + 1) ∧ (τ_141.1 45 + 1) ≤ 30001 from by (first | omega | (simp only [st_s] <;> omega) | assumption | omega | fail))
                refine ⟨(⟨by (first | omega | (simp only [st_s] <;> omega) | assumption | omega | fail), by (first | omega | (simp only [st_s] <;> omega) | assumption | omega | fail)⟩ : rg ((τ_141.1 45 + 1) - 1)), ?_⟩
                exact ⟨hT, (show 0 ≤ ((τ_141.1 45 + 1) - 1) ∧ ((τ_141.1 45 + 1) - 1) ≤ 30000 from by (first | omega | (simp only [st_s] <;> omega) | assumption | omega | fail)), (show ((τ_141.1 45 + 1)) ≤ (σ.1 45) + 1 ∧ (σ.1 45) ≤ ((τ_141.1 45 + 1)) from by (first | omega | (simp only [st_s] <;> omega) | assumption | omega | fail)), (show ∀ par : Int → Int, g_tr (σ.1 45) (σ.2.1 67) (σ.2.1 68) (σ.2.1 69) (σ.2.1 73) (σ.2.1 74) par → ∃ par2 : Int → Int, g_tr ((τ_141.1 45 + 1)) (τ_141.2.1 67) (τ_141.2.1 68) (τ_141.2.1 69) (τ_141.2.1 73) (τ_141.2.1 74) par2 ∧ g_ch (σ.1 45) ((τ_141.1 45 + 1)) n1 n2 n3 ((τ_141.1 45 + 1) - 1) (σ.2.1 69) (σ.2.1 70) (τ_141.2.1 69) (τ_141.2.1 70) par par2 from by (first | (intro par h; have cf := i11_6 par h; refine ⟨par, ?_, ?_⟩; (rw [i11_3, i11_4.1, i11_4.2.1, i11_4.2.2.1, i11_5.1, i11_5.2]; exact h); (rw [i11_3, i11_4.2.2.1, i11_4.2.2.2]; exact g_ch0 (by omega) cf.1 (cf.2.1 (by omega)).1 (by first | (exfalso; have := (cf.2.1 (by omega)).2; omega) | (rw [← i11_4.2.2.1, ← e_x6]; assumption)))) | (intro par h; have cf := i11_6 par h; refine ⟨st par (σ.1 45) n1, ?_, ?_⟩; (simp only [w45_τ_127, g67_τ_127, g68_τ_127, g69_τ_127, g70_τ_127, g73_τ_127, g74_τ_127, e_x12, i11_3, i11_4.1, i11_4.2.1, i11_4.2.2.1, i11_4.2.2.2, i11_5.1, i11_5.2, Int.add_sub_cancel]; exact g_tr_n h p1 p2 (by omega) (fun d d0 d1 d2 e => cf.2.2 d (by omega) d1 d2 e) (by first | exact Or.inl ⟨by omega, by omega, rfl⟩ | exact Or.inr ⟨by omega, rfl⟩) (by first | exact Or.inl ⟨by omega, by omega, rfl⟩ | exact Or.inr ⟨by omega, rfl⟩)); (simp only [w45_τ_127, g67_τ_127, g68_τ_127, g69_τ_127, g70_τ_127, g73_τ_127, g74_τ_127, e_x12, i11_3, i11_4.1, i11_4.2.1, i11_4.2.2.1, i11_4.2.2.2, i11_5.1, i11_5.2, Int.add_sub_cancel]; exact g_ch_n (by omega))) | (intro par h; have cf := i11_6 par h; refine ⟨st par (σ.1 45) n1, ?_, ?_⟩; (simp only [w45_τ_141, g67_τ_141, g68_τ_141, g69_τ_141, g70_τ_141, g73_τ_141, g74_τ_141, w45_τ_127, g67_τ_127, g68_τ_127, g69_τ_127, g70_τ_127, g73_τ_127, g74_τ_127, e_x12, i11_3, i11_4.1, i11_4.2.1, i11_4.2.2.1, i11_4.2.2.2, i11_5.1, i11_5.2, Int.add_sub_cancel]; exact g_tr_n h p1 p2 (by omega) (fun d d0 d1 d2 e => cf.2.2 d (by omega) d1 d2 e) (by first | exact Or.inl ⟨by omega, by omega, rfl⟩ | exact Or.inr ⟨by omega, rfl⟩) (by first | exact Or.inl ⟨by omega, by omega, rfl⟩ | exact Or.inr ⟨by omega, rfl⟩)); (simp only [w45_τ_141, g67_τ_141, g68_τ_141, g69_τ_141, g70_τ_141, g73_τ_141, g74_τ_141, w45_τ_127, g67_τ_127, g68_τ_127, g69_τ_127, g70_τ_127, g73_τ_127, g74_τ_127, e_x12, i11_3, i11_4.1, i11_4.2.1, i11_4.2.2.1, i11_4.2.2.2, i11_5.1, i11_5.2, Int.add_sub_cancel]; exact g_ch_n (by omega))) | (intro par h; have cf := i11_6 par h; refine ⟨st par (σ.1 45) n1, ?_, ?_⟩; (simp only [w45_τ_141, g67_τ_141, g68_τ_141, g69_τ_141, g70_τ_141, g73_τ_141, g74_τ_141, e_x12, i11_3, i11_4.1, i11_4.2.1, i11_4.2.2.1, i11_4.2.2.2, i11_5.1, i11_5.2, Int.add_sub_cancel]; exact g_tr_n h p1 p2 (by omega) (fun d d0 d1 d2 e => cf.2.2 d (by omega) d1 d2 e) (by first | exact Or.inl ⟨by omega, by omega, rfl⟩ | exact Or.inr ⟨by omega, rfl⟩) (by first | exact Or.inl ⟨by omega, by omega, rfl⟩ | exact Or.inr ⟨by omega, rfl⟩)); (simp only [w45_τ_141, g67_τ_141, g68_τ_141, g69_τ_141, g70_τ_141, g73_τ_141, g74_τ_141, e_x12, i11_3, i11_4.1, i11_4.2.1, i11_4.2.2.1, i11_4.2.2.2, i11_5.1, i11_5.2, Int.add_sub_cancel]; exact g_ch_n (by omega))) | fail))⟩
            ·
              refine ⟨fun c15 => ?_, fun c15 => ?_⟩
              ·
                obtain ⟨τ_127, e_τ_127⟩ : ∃ z : S0, z = s_a (s_a (s_a (s_a τ_11 68 (τ_11.1 45) x12) 67 n1 (τ_11.1 45)) 69 (τ_11.1 45) n2) 70 (τ_11.1 45) n3 := ⟨_, rfl⟩
                rw [← e_τ_127]
                replace hT : c_T τ_127 := by rw [e_τ_127]; exact hT
                have w45_τ_127 : τ_127.1 45 = τ_11.1 45 := by rw [e_τ_127]; rfl
                have g67_τ_127 : τ_127.2.1 67 = (st (τ_11.2.1 67) n1 (τ_11.1 45)) := by rw [e_τ_127]; rfl
                have g68_τ_127 : τ_127.2.1 68 = (st (τ_11.2.1 68) (τ_11.1 45) x12) := by rw [e_τ_127]; rfl
                have g69_τ_127 : τ_127.2.1 69 = (st (τ_11.2.1 69) (τ_11.1 45) n2) := by rw [e_τ_127]; rfl
                have g70_τ_127 : τ_127.2.1 70 = (st (τ_11.2.1 70) (τ_11.1 45) n3) := by rw [e_τ_127]; rfl
                have g73_τ_127 : τ_127.2.1 73 = τ_11.2.1 73 := by rw [e_τ_127]; rfl
                have g74_τ_127 : τ_127.2.1 74 = τ_11.2.1 74 := by rw [e_τ_127]; rfl
                have A67 : ∀ j, 0 ≤ τ_127.2.1 67 j ∧ τ_127.2.1 67 j ≤ 30000 := fun j => hT.2 67 j
                have A68 : ∀ j, 0 ≤ τ_127.2.1 68 j ∧ τ_127.2.1 68 j ≤ 30000 := fun j => hT.2 68 j
                have A69 : ∀ j, (-100) ≤ τ_127.2.1 69 j ∧ τ_127.2.1 69 j ≤ 999 := fun j => hT.2 69 j
                have A70 : ∀ j, 0 ≤ τ_127.2.1 70 j ∧ τ_127.2.1 70 j ≤ 1499 := fun j => hT.2 70 j
                have A73 : ∀ j, 0 ≤ τ_127.2.1 73 j ∧ τ_127.2.1 73 j ≤ 30000 := fun j => hT.2 73 j
                have A74 : ∀ j, 0 ≤ τ_127.2.1 74 j ∧ τ_127.2.1 74 j ≤ 30000 := fun j => hT.2 74 j
                have v45 : 1 ≤ τ_127.1 45 ∧ τ_127.1 45 ≤ 30001 := hT.1 45
                refine h127 _ _ _ ?_
                refine ⟨fun c17 => ?_, fun c17 => ?_⟩
                ·
                  refine h141 _ ?_
                  refine ⟨(⟨by (first | omega | (simp only [st_s] <;> omega) | assumption | omega | fail), by (first | omega | (simp only [st_s] <;> omega) | assumption | omega | fail)⟩ : rg (τ_127.1 45 + 1)), ?_⟩
                  replace hT := cT_v (i := 45) hT (show 1 ≤ (τ_127.1 45 + 1) ∧ (τ_127.1 45 + 1) ≤ 30001 from by (first | omega | (simp only [st_s] <;> omega) | assumption | omega | fail))
                  refine ⟨(⟨by (first | omega | (simp only [st_s] <;> omega) | assumption | omega | fail), by (first | omega | (simp only [st_s] <;> omega) | assumption | omega | fail)⟩ : rg ((τ_127.1 45 + 1) - 1)), ?_⟩
                  exact ⟨hT, (show 0 ≤ ((τ_127.1 45 + 1) - 1) ∧ ((τ_127.1 45 + 1) - 1) ≤ 30000 from by (first | omega | (simp only [st_s] <;> omega) | assumption | omega | fail)), (show ((τ_127.1 45 + 1)) ≤ (σ.1 45) + 1 ∧ (σ.1 45) ≤ ((τ_127.1 45 + 1)) from by (first | omega | (simp only [st_s] <;> omega) | assumption | omega | fail)), (show ∀ par : Int → Int, g_tr (σ.1 45) (σ.2.1 67) (σ.2.1 68) (σ.2.1 69) (σ.2.1 73) (σ.2.1 74) par → ∃ par2 : Int → Int, g_tr ((τ_127.1 45 + 1)) (τ_127.2.1 67) (τ_127.2.1 68) (τ_127.2.1 69) (τ_127.2.1 73) (τ_127.2.1 74) par2 ∧ g_ch (σ.1 45) ((τ_127.1 45 + 1)) n1 n2 n3 ((τ_127.1 45 + 1) - 1) (σ.2.1 69) (σ.2.1 70) (τ_127.2.1 69) (τ_127.2.1 70) par par2 from by (first | (intro par h; have cf := i11_6 par h; refine ⟨par, ?_, ?_⟩; (rw [i11_3, i11_4.1, i11_4.2.1, i11_4.2.2.1, i11_5.1, i11_5.2]; exact h); (rw [i11_3, i11_4.2.2.1, i11_4.2.2.2]; exact g_ch0 (by omega) cf.1 (cf.2.1 (by omega)).1 (by first | (exfalso; have := (cf.2.1 (by omega)).2; omega) | (rw [← i11_4.2.2.1, ← e_x6]; assumption)))) | (intro par h; have cf := i11_6 par h; refine ⟨st par (σ.1 45) n1, ?_, ?_⟩; (simp only [w45_τ_127, g67_τ_127, g68_τ_127, g69_τ_127, g70_τ_127, g73_τ_127, g74_τ_127, e_x12, i11_3, i11_4.1, i11_4.2.1, i11_4.2.2.1, i11_4.2.2.2, i11_5.1, i11_5.2, Int.add_sub_cancel]; exact g_tr_n h p1 p2 (by omega) (fun d d0 d1 d2 e => cf.2.2 d (by omega) d1 d2 e) (by first | exact Or.inl ⟨by omega, by omega, rfl⟩ | exact Or.inr ⟨by omega, rfl⟩) (by first | exact Or.inl ⟨by omega, by omega, rfl⟩ | exact Or.inr ⟨by omega, rfl⟩)); (simp only [w45_τ_127, g67_τ_127, g68_τ_127, g69_τ_127, g70_τ_127, g73_τ_127, g74_τ_127, e_x12, i11_3, i11_4.1, i11_4.2.1, i11_4.2.2.1, i11_4.2.2.2, i11_5.1, i11_5.2, Int.add_sub_cancel]; exact g_ch_n (by omega))) | (intro par h; have cf := i11_6 par h; refine ⟨st par (σ.1 45) n1, ?_, ?_⟩; (simp only [w45_τ_141, g67_τ_141, g68_τ_141, g69_τ_141, g70_τ_141, g73_τ_141, g74_τ_141, w45_τ_127, g67_τ_127, g68_τ_127, g69_τ_127, g70_τ_127, g73_τ_127, g74_τ_127, e_x12, i11_3, i11_4.1, i11_4.2.1, i11_4.2.2.1, i11_4.2.2.2, i11_5.1, i11_5.2, Int.add_sub_cancel]; exact g_tr_n h p1 p2 (by omega) (fun d d0 d1 d2 e => cf.2.2 d (by omega) d1 d2 e) (by first | exact Or.inl ⟨by omega, by omega, rfl⟩ | exact Or.inr ⟨by omega, rfl⟩) (by first | exact Or.inl ⟨by omega, by omega, rfl⟩ | exact Or.inr ⟨by omega, rfl⟩)); (simp only [w45_τ_141, g67_τ_141, g68_τ_141, g69_τ_141, g70_τ_141, g73_τ_141, g74_τ_141, w45_τ_127, g67_τ_127, g68_τ_127, g69_τ_127, g70_τ_127, g73_τ_127, g74_τ_127, e_x12, i11_3, i11_4.1, i11_4.2.1, i11_4.2.2.1, i11_4.2.2.2, i11_5.1, i11_5.2, Int.add_sub_cancel]; exact g_ch_n (by omega))) | (intro par h; have cf := i11_6 par h; refine ⟨st par (σ.1 45) n1, ?_, ?_⟩; (simp only [w45_τ_141, g67_τ_141, g68_τ_141, g69_τ_141, g70_τ_141, g73_τ_141, g74_τ_141, e_x12, i11_3, i11_4.1, i11_4.2.1, i11_4.2.2.1, i11_4.2.2.2, i11_5.1, i11_5.2, Int.add_sub_cancel]; exact g_tr_n h p1 p2 (by omega) (fun d d0 d1 d2 e => cf.2.2 d (by omega) d1 d2 e) (by first | exact Or.inl ⟨by omega, by omega, rfl⟩ | exact Or.inr ⟨by omega, rfl⟩) (by first | exact Or.inl ⟨by omega, by omega, rfl⟩ | exact Or.inr ⟨by omega, rfl⟩)); (simp only [w45_τ_141, g67_τ_141, g68_τ_141, g69_τ_141, g70_τ_141, g73_τ_141, g74_τ_141, e_x12, i11_3, i11_4.1, i11_4.2.1, i11_4.2.2.1, i11_4.2.2.2, i11_5.1, i11_5.2, Int.add_sub_cancel]; exact g_ch_n (by omega))) | fail))⟩
                ·
                  refine ⟨(show 0 ≤ n2 ∧ n2 < 1000 from by (first | omega | (simp only [st_s] <;> omega) | assumption | omega | fail)), ?_⟩
                  replace hT := cT_a (k := 73) (j := n2) hT (show (0 : Int) ≤ (τ_127.1 45) ∧ (τ_127.1 45) ≤ 30000 from by (first | omega | (simp only [st_s] <;> omega) | assumption | omega | fail))
                  obtain ⟨τ_141, e_τ_141⟩ : ∃ z : S0, z = s_a τ_127 73 n2 (τ_127.1 45) := ⟨_, rfl⟩
                  rw [← e_τ_141]
                  replace hT : c_T τ_141 := by rw [e_τ_141]; exact hT
                  have w45_τ_141 : τ_141.1 45 = τ_127.1 45 := by rw [e_τ_141]; rfl
                  have g67_τ_141 : τ_141.2.1 67 = τ_127.2.1 67 := by rw [e_τ_141]; rfl
                  have g68_τ_141 : τ_141.2.1 68 = τ_127.2.1 68 := by rw [e_τ_141]; rfl
                  have g69_τ_141 : τ_141.2.1 69 = τ_127.2.1 69 := by rw [e_τ_141]; rfl
                  have g70_τ_141 : τ_141.2.1 70 = τ_127.2.1 70 := by rw [e_τ_141]; rfl
                  have g73_τ_141 : τ_141.2.1 73 = (st (τ_127.2.1 73) n2 (τ_127.1 45)) := by rw [e_τ_141]; rfl
                  have g74_τ_141 : τ_141.2.1 74 = τ_127.2.1 74 := by rw [e_τ_141]; rfl
                  have A67 : ∀ j, 0 ≤ τ_141.2.1 67 j ∧ τ_141.2.1 67 j ≤ 30000 := fun j => hT.2 67 j
                  have A68 : ∀ j, 0 ≤ τ_141.2.1 68 j ∧ τ_141.2.1 68 j ≤ 30000 := fun j => hT.2 68 j
                  have A69 : ∀ j, (-100) ≤ τ_141.2.1 69 j ∧ τ_141.2.1 69 j ≤ 999 := fun j => hT.2 69 j
                  have A70 : ∀ j, 0 ≤ τ_141.2.1 70 j ∧ τ_141.2.1 70 j ≤ 1499 := fun j => hT.2 70 j
                  have A73 : ∀ j, 0 ≤ τ_141.2.1 73 j ∧ τ_141.2.1 73 j ≤ 30000 := fun j => hT.2 73 j
                  have A74 : ∀ j, 0 ≤ τ_141.2.1 74 j ∧ τ_141.2.1 74 j ≤ 30000 := fun j => hT.2 74 j
                  have v45 : 1 ≤ τ_141.1 45 ∧ τ_141.1 45 ≤ 30001 := hT.1 45
                  refine h141 _ ?_
                  refine ⟨(⟨by (first | omega | (simp only [st_s] <;> omega) | assumption | omega | fail), by (first | omega | (simp only [st_s] <;> omega) | assumption | omega | fail)⟩ : rg (τ_141.1 45 + 1)), ?_⟩
                  replace hT := cT_v (i := 45) hT (show 1 ≤ (τ_141.1 45 + 1) ∧ (τ_141.1 45 + 1) ≤ 30001 from by (first | omega | (simp only [st_s] <;> omega) | assumption | omega | fail))
                  refine ⟨(⟨by (first | omega | (simp only [st_s] <;> omega) | assumption | omega | fail), by (first | omega | (simp only [st_s] <;> omega) | assumption | omega | fail)⟩ : rg ((τ_141.1 45 + 1) - 1)), ?_⟩
                  exact ⟨hT, (show 0 ≤ ((τ_141.1 45 + 1) - 1) ∧ ((τ_141.1 45 + 1) - 1) ≤ 30000 from by (first | omega | (simp only [st_s] <;> omega) | assumption | omega | fail)), (show ((τ_141.1 45 + 1)) ≤ (σ.1 45) + 1 ∧ (σ.1 45) ≤ ((τ_141.1 45 + 1)) from by (first | omega | (simp only [st_s] <;> omega) | assumption | omega | fail)), (show ∀ par : Int → Int, g_tr (σ.1 45) (σ.2.1 67) (σ.2.1 68) (σ.2.1 69) (σ.2.1 73) (σ.2.1 74) par → ∃ par2 : Int → Int, g_tr ((τ_141.1 45 + 1)) (τ_141.2.1 67) (τ_141.2.1 68) (τ_141.2.1 69) (τ_141.2.1 73) (τ_141.2.1 74) par2 ∧ g_ch (σ.1 45) ((τ_141.1 45 + 1)) n1 n2 n3 ((τ_141.1 45 + 1) - 1) (σ.2.1 69) (σ.2.1 70) (τ_141.2.1 69) (τ_141.2.1 70) par par2 from by (first | (intro par h; have cf := i11_6 par h; refine ⟨par, ?_, ?_⟩; (rw [i11_3, i11_4.1, i11_4.2.1, i11_4.2.2.1, i11_5.1, i11_5.2]; exact h); (rw [i11_3, i11_4.2.2.1, i11_4.2.2.2]; exact g_ch0 (by omega) cf.1 (cf.2.1 (by omega)).1 (by first | (exfalso; have := (cf.2.1 (by omega)).2; omega) | (rw [← i11_4.2.2.1, ← e_x6]; assumption)))) | (intro par h; have cf := i11_6 par h; refine ⟨st par (σ.1 45) n1, ?_, ?_⟩; (simp only [w45_τ_127, g67_τ_127, g68_τ_127, g69_τ_127, g70_τ_127, g73_τ_127, g74_τ_127, e_x12, i11_3, i11_4.1, i11_4.2.1, i11_4.2.2.1, i11_4.2.2.2, i11_5.1, i11_5.2, Int.add_sub_cancel]; exact g_tr_n h p1 p2 (by omega) (fun d d0 d1 d2 e => cf.2.2 d (by omega) d1 d2 e) (by first | exact Or.inl ⟨by omega, by omega, rfl⟩ | exact Or.inr ⟨by omega, rfl⟩) (by first | exact Or.inl ⟨by omega, by omega, rfl⟩ | exact Or.inr ⟨by omega, rfl⟩)); (simp only [w45_τ_127, g67_τ_127, g68_τ_127, g69_τ_127, g70_τ_127, g73_τ_127, g74_τ_127, e_x12, i11_3, i11_4.1, i11_4.2.1, i11_4.2.2.1, i11_4.2.2.2, i11_5.1, i11_5.2, Int.add_sub_cancel]; exact g_ch_n (by omega))) | (intro par h; have cf := i11_6 par h; refine ⟨st par (σ.1 45) n1, ?_, ?_⟩; (simp only [w45_τ_141, g67_τ_141, g68_τ_141, g69_τ_141, g70_τ_141, g73_τ_141, g74_τ_141, w45_τ_127, g67_τ_127, g68_τ_127, g69_τ_127, g70_τ_127, g73_τ_127, g74_τ_127, e_x12, i11_3, i11_4.1, i11_4.2.1, i11_4.2.2.1, i11_4.2.2.2, i11_5.1, i11_5.2, Int.add_sub_cancel]; exact g_tr_n h p1 p2 (by omega) (fun d d0 d1 d2 e => cf.2.2 d (by omega) d1 d2 e) (by first | exact Or.inl ⟨by omega, by omega, rfl⟩ | exact Or.inr ⟨by omega, rfl⟩) (by first | exact Or.inl ⟨by omega, by omega, rfl⟩ | exact Or.inr ⟨by omega, rfl⟩)); (simp only [w45_τ_141, g67_τ_141, g68_τ_141, g69_τ_141, g70_τ_141, g73_τ_141, g74_τ_141, w45_τ_127, g67_τ_127, g68_τ_127, g69_τ_127, g70_τ_127, g73_τ_127, g74_τ_127, e_x12, i11_3, i11_4.1, i11_4.2.1, i11_4.2.2.1, i11_4.2.2.2, i11_5.1, i11_5.2, Int.add_sub_cancel]; exact g_ch_n (by omega))) | (intro par h; have cf := i11_6 par h; refine ⟨st par (σ.1 45) n1, ?_, ?_⟩; (simp only [w45_τ_141, g67_τ_141, g68_τ_141, g69_τ_141, g70_τ_141, g73_τ_141, g74_τ_141, e_x12, i11_3, i11_4.1, i11_4.2.1, i11_4.2.2.1, i11_4.2.2.2, i11_5.1, i11_5.2, Int.add_sub_cancel]; exact g_tr_n h p1 p2 (by omega) (fun d d0 d1 d2 e => cf.2.2 d (by omega) d1 d2 e) (by first | exact Or.inl ⟨by omega, by omega, rfl⟩ | exact Or.inr ⟨by omega, rfl⟩) (by first | exact Or.inl ⟨by omega, by omega, rfl⟩ | exact Or.inr ⟨by omega, rfl⟩)); (simp only [w45_τ_141, g67_τ_141, g68_τ_141, g69_τ_141, g70_τ_141, g73_τ_141, g74_τ_141, e_x12, i11_3, i11_4.1, i11_4.2.1, i11_4.2.2.1, i11_4.2.2.2, i11_5.1, i11_5.2, Int.add_sub_cancel]; exact g_ch_n (by omega))) | fail))⟩
              ·
                refine ⟨(show 0 ≤ (-1 - n2) ∧ (-1 - n2) < 100 from by (first | omega | (simp only [st_s] <;> omega) | assumption | omega | fail)), ?_⟩
                replace hT := cT_a (k := 74) (j := (-1 - n2)) hT (show (0 : Int) ≤ (τ_11.1 45) ∧ (τ_11.1 45) ≤ 30000 from by (first | omega | (simp only [st_s] <;> omega) | assumption | omega | fail))
                obtain ⟨τ_141, e_τ_141⟩ : ∃ z : S0, z = s_a (s_a (s_a (s_a (s_a τ_11 68 (τ_11.1 45) x12) 67 n1 (τ_11.1 45)) 69 (τ_11.1 45) n2) 70 (τ_11.1 45) n3) 74 (-1 - n2) (τ_11.1 45) := ⟨_, rfl⟩
                rw [← e_τ_141]
                replace hT : c_T τ_141 := by rw [e_τ_141]; exact hT
                have w45_τ_141 : τ_141.1 45 = τ_11.1 45 := by rw [e_τ_141]; rfl
                have g67_τ_141 : τ_141.2.1 67 = (st (τ_11.2.1 67) n1 (τ_11.1 45)) := by rw [e_τ_141]; rfl
                have g68_τ_141 : τ_141.2.1 68 = (st (τ_11.2.1 68) (τ_11.1 45) x12) := by rw [e_τ_141]; rfl
                have g69_τ_141 : τ_141.2.1 69 = (st (τ_11.2.1 69) (τ_11.1 45) n2) := by rw [e_τ_141]; rfl
                have g70_τ_141 : τ_141.2.1 70 = (st (τ_11.2.1 70) (τ_11.1 45) n3) := by rw [e_τ_141]; rfl
                have g73_τ_141 : τ_141.2.1 73 = τ_11.2.1 73 := by rw [e_τ_141]; rfl
                have g74_τ_141 : τ_141.2.1 74 = (st (τ_11.2.1 74) (-1 - n2) (τ_11.1 45)) := by rw [e_τ_141]; rfl
                have A67 : ∀ j, 0 ≤ τ_141.2.1 67 j ∧ τ_141.2.1 67 j ≤ 30000 := fun j => hT.2 67 j
                have A68 : ∀ j, 0 ≤ τ_141.2.1 68 j ∧ τ_141.2.1 68 j ≤ 30000 := fun j => hT.2 68 j
                have A69 : ∀ j, (-100) ≤ τ_141.2.1 69 j ∧ τ_141.2.1 69 j ≤ 999 := fun j => hT.2 69 j
                have A70 : ∀ j, 0 ≤ τ_141.2.1 70 j ∧ τ_141.2.1 70 j ≤ 1499 := fun j => hT.2 70 j
                have A73 : ∀ j, 0 ≤ τ_141.2.1 73 j ∧ τ_141.2.1 73 j ≤ 30000 := fun j => hT.2 73 j
                have A74 : ∀ j, 0 ≤ τ_141.2.1 74 j ∧ τ_141.2.1 74 j ≤ 30000 := fun j => hT.2 74 j
                have v45 : 1 ≤ τ_141.1 45 ∧ τ_141.1 45 ≤ 30001 := hT.1 45
                refine h141 _ ?_
                refine ⟨(⟨by (first | omega | (simp only [st_s] <;> omega) | assumption | omega | fail), by (first | omega | (simp only [st_s] <;> omega) | assumption | omega | fail)⟩ : rg (τ_141.1 45 + 1)), ?_⟩
                replace hT := cT_v (i := 45) hT (show 1 ≤ (τ_141.1 45 + 1) ∧ (τ_141.1 45 + 1) ≤ 30001 from by (first | omega | (simp only [st_s] <;> omega) | assumption | omega | fail))
                refine ⟨(⟨by (first | omega | (simp only [st_s] <;> omega) | assumption | omega | fail), by (first | omega | (simp only [st_s] <;> omega) | assumption | omega | fail)⟩ : rg ((τ_141.1 45 + 1) - 1)), ?_⟩
                exact ⟨hT, (show 0 ≤ ((τ_141.1 45 + 1) - 1) ∧ ((τ_141.1 45 + 1) - 1) ≤ 30000 from by (first | omega | (simp only [st_s] <;> omega) | assumption | omega | fail)), (show ((τ_141.1 45 + 1)) ≤ (σ.1 45) + 1 ∧ (σ.1 45) ≤ ((τ_141.1 45 + 1)) from by (first | omega | (simp only [st_s] <;> omega) | assumption | omega | fail)), (show ∀ par : Int → Int, g_tr (σ.1 45) (σ.2.1 67) (σ.2.1 68) (σ.2.1 69) (σ.2.1 73) (σ.2.1 74) par → ∃ par2 : Int → Int, g_tr ((τ_141.1 45 + 1)) (τ_141.2.1 67) (τ_141.2.1 68) (τ_141.2.1 69) (τ_141.2.1 73) (τ_141.2.1 74) par2 ∧ g_ch (σ.1 45) ((τ_141.1 45 + 1)) n1 n2 n3 ((τ_141.1 45 + 1) - 1) (σ.2.1 69) (σ.2.1 70) (τ_141.2.1 69) (τ_141.2.1 70) par par2 from by (first | (intro par h; have cf := i11_6 par h; refine ⟨par, ?_, ?_⟩; (rw [i11_3, i11_4.1, i11_4.2.1, i11_4.2.2.1, i11_5.1, i11_5.2]; exact h); (rw [i11_3, i11_4.2.2.1, i11_4.2.2.2]; exact g_ch0 (by omega) cf.1 (cf.2.1 (by omega)).1 (by first | (exfalso; have := (cf.2.1 (by omega)).2; omega) | (rw [← i11_4.2.2.1, ← e_x6]; assumption)))) | (intro par h; have cf := i11_6 par h; refine ⟨st par (σ.1 45) n1, ?_, ?_⟩; (simp only [w45_τ_127, g67_τ_127, g68_τ_127, g69_τ_127, g70_τ_127, g73_τ_127, g74_τ_127, e_x12, i11_3, i11_4.1, i11_4.2.1, i11_4.2.2.1, i11_4.2.2.2, i11_5.1, i11_5.2, Int.add_sub_cancel]; exact g_tr_n h p1 p2 (by omega) (fun d d0 d1 d2 e => cf.2.2 d (by omega) d1 d2 e) (by first | exact Or.inl ⟨by omega, by omega, rfl⟩ | exact Or.inr ⟨by omega, rfl⟩) (by first | exact Or.inl ⟨by omega, by omega, rfl⟩ | exact Or.inr ⟨by omega, rfl⟩)); (simp only [w45_τ_127, g67_τ_127, g68_τ_127, g69_τ_127, g70_τ_127, g73_τ_127, g74_τ_127, e_x12, i11_3, i11_4.1, i11_4.2.1, i11_4.2.2.1, i11_4.2.2.2, i11_5.1, i11_5.2, Int.add_sub_cancel]; exact g_ch_n (by omega))) | (intro par h; have cf := i11_6 par h; refine ⟨st par (σ.1 45) n1, ?_, ?_⟩; (simp only [w45_τ_141, g67_τ_141, g68_τ_141, g69_τ_141, g70_τ_141, g73_τ_141, g74_τ_141, w45_τ_127, g67_τ_127, g68_τ_127, g69_τ_127, g70_τ_127, g73_τ_127, g74_τ_127, e_x12, i11_3, i11_4.1, i11_4.2.1, i11_4.2.2.1, i11_4.2.2.2, i11_5.1, i11_5.2, Int.add_sub_cancel]; exact g_tr_n h p1 p2 (by omega) (fun d d0 d1 d2 e => cf.2.2 d (by omega) d1 d2 e) (by first | exact Or.inl ⟨by omega, by omega, rfl⟩ | exact Or.inr ⟨by omega, rfl⟩) (by first | exact Or.inl ⟨by omega, by omega, rfl⟩ | exact Or.inr ⟨by omega, rfl⟩)); (simp only [w45_τ_141, g67_τ_141, g68_τ_141, g69_τ_141, g70_τ_141, g73_τ_141, g74_τ_141, w45_τ_127, g67_τ_127, g68_τ_127, g69_τ_127, g70_τ_127, g73_τ_127, g74_τ_127, e_x12, i11_3, i11_4.1, i11_4.2.1, i11_4.2.2.1, i11_4.2.2.2, i11_5.1, i11_5.2, Int.add_sub_cancel]; exact g_ch_n (by omega))) | (intro par h; have cf := i11_6 par h; refine ⟨st par (σ.1 45) n1, ?_, ?_⟩; (simp only [w45_τ_141, g67_τ_141, g68_τ_141, g69_τ_141, g70_τ_141, g73_τ_141, g74_τ_141, e_x12, i11_3, i11_4.1, i11_4.2.1, i11_4.2.2.1, i11_4.2.2.2, i11_5.1, i11_5.2, Int.add_sub_cancel]; exact g_tr_n h p1 p2 (by omega) (fun d d0 d1 d2 e => cf.2.2 d (by omega) d1 d2 e) (by first | exact Or.inl ⟨by omega, by omega, rfl⟩ | exact Or.inr ⟨by omega, rfl⟩) (by first | exact Or.inl ⟨by omega, by omega, rfl⟩ | exact Or.inr ⟨by omega, rfl⟩)); (simp only [w45_τ_141, g67_τ_141, g68_τ_141, g69_τ_141, g70_τ_141, g73_τ_141, g74_τ_141, e_x12, i11_3, i11_4.1, i11_4.2.1, i11_4.2.2.1, i11_4.2.2.2, i11_5.1, i11_5.2, Int.add_sub_cancel]; exact g_ch_n (by omega))) | fail))⟩
          ·
            exact ⟨hT, (show 0 ≤ u4_11 ∧ u4_11 ≤ 30000 from by (first | omega | (simp only [st_s] <;> omega) | assumption | omega | fail)), (show (τ_11.1 45) ≤ (σ.1 45) + 1 ∧ (σ.1 45) ≤ (τ_11.1 45) from by (first | omega | (simp only [st_s] <;> omega) | assumption | omega | fail)), (show ∀ par : Int → Int, g_tr (σ.1 45) (σ.2.1 67) (σ.2.1 68) (σ.2.1 69) (σ.2.1 73) (σ.2.1 74) par → ∃ par2 : Int → Int, g_tr (τ_11.1 45) (τ_11.2.1 67) (τ_11.2.1 68) (τ_11.2.1 69) (τ_11.2.1 73) (τ_11.2.1 74) par2 ∧ g_ch (σ.1 45) (τ_11.1 45) n1 n2 n3 u4_11 (σ.2.1 69) (σ.2.1 70) (τ_11.2.1 69) (τ_11.2.1 70) par par2 from by (first | (intro par h; have cf := i11_6 par h; refine ⟨par, ?_, ?_⟩; (rw [i11_3, i11_4.1, i11_4.2.1, i11_4.2.2.1, i11_5.1, i11_5.2]; exact h); (rw [i11_3, i11_4.2.2.1, i11_4.2.2.2]; exact g_ch0 (by omega) cf.1 (cf.2.1 (by omega)).1 (by first | (exfalso; have := (cf.2.1 (by omega)).2; omega) | (rw [← i11_4.2.2.1, ← e_x6]; assumption)))) | (intro par h; have cf := i11_6 par h; refine ⟨st par (σ.1 45) n1, ?_, ?_⟩; (simp only [w45_τ_127, g67_τ_127, g68_τ_127, g69_τ_127, g70_τ_127, g73_τ_127, g74_τ_127, e_x12, i11_3, i11_4.1, i11_4.2.1, i11_4.2.2.1, i11_4.2.2.2, i11_5.1, i11_5.2, Int.add_sub_cancel]; exact g_tr_n h p1 p2 (by omega) (fun d d0 d1 d2 e => cf.2.2 d (by omega) d1 d2 e) (by first | exact Or.inl ⟨by omega, by omega, rfl⟩ | exact Or.inr ⟨by omega, rfl⟩) (by first | exact Or.inl ⟨by omega, by omega, rfl⟩ | exact Or.inr ⟨by omega, rfl⟩)); (simp only [w45_τ_127, g67_τ_127, g68_τ_127, g69_τ_127, g70_τ_127, g73_τ_127, g74_τ_127, e_x12, i11_3, i11_4.1, i11_4.2.1, i11_4.2.2.1, i11_4.2.2.2, i11_5.1, i11_5.2, Int.add_sub_cancel]; exact g_ch_n (by omega))) | (intro par h; have cf := i11_6 par h; refine ⟨st par (σ.1 45) n1, ?_, ?_⟩; (simp only [w45_τ_141, g67_τ_141, g68_τ_141, g69_τ_141, g70_τ_141, g73_τ_141, g74_τ_141, w45_τ_127, g67_τ_127, g68_τ_127, g69_τ_127, g70_τ_127, g73_τ_127, g74_τ_127, e_x12, i11_3, i11_4.1, i11_4.2.1, i11_4.2.2.1, i11_4.2.2.2, i11_5.1, i11_5.2, Int.add_sub_cancel]; exact g_tr_n h p1 p2 (by omega) (fun d d0 d1 d2 e => cf.2.2 d (by omega) d1 d2 e) (by first | exact Or.inl ⟨by omega, by omega, rfl⟩ | exact Or.inr ⟨by omega, rfl⟩) (by first | exact Or.inl ⟨by omega, by omega, rfl⟩ | exact Or.inr ⟨by omega, rfl⟩)); (simp only [w45_τ_141, g67_τ_141, g68_τ_141, g69_τ_141, g70_τ_141, g73_τ_141, g74_τ_141, w45_τ_127, g67_τ_127, g68_τ_127, g69_τ_127, g70_τ_127, g73_τ_127, g74_τ_127, e_x12, i11_3, i11_4.1, i11_4.2.1, i11_4.2.2.1, i11_4.2.2.2, i11_5.1, i11_5.2, Int.add_sub_cancel]; exact g_ch_n (by omega))) | (intro par h; have cf := i11_6 par h; refine ⟨st par (σ.1 45) n1, ?_, ?_⟩; (simp only [w45_τ_141, g67_τ_141, g68_τ_141, g69_τ_141, g70_τ_141, g73_τ_141, g74_τ_141, e_x12, i11_3, i11_4.1, i11_4.2.1, i11_4.2.2.1, i11_4.2.2.2, i11_5.1, i11_5.2, Int.add_sub_cancel]; exact g_tr_n h p1 p2 (by omega) (fun d d0 d1 d2 e => cf.2.2 d (by omega) d1 d2 e) (by first | exact Or.inl ⟨by omega, by omega, rfl⟩ | exact Or.inr ⟨by omega, rfl⟩) (by first | exact Or.inl ⟨by omega, by omega, rfl⟩ | exact Or.inr ⟨by omega, rfl⟩)); (simp only [w45_τ_141, g67_τ_141, g68_τ_141, g69_τ_141, g70_τ_141, g73_τ_141, g74_τ_141, e_x12, i11_3, i11_4.1, i11_4.2.1, i11_4.2.2.1, i11_4.2.2.2, i11_5.1, i11_5.2, Int.add_sub_cancel]; exact g_ch_n (by omega))) | fail))⟩
        ·
          refine ⟨(show 0 ≤ u4_11 ∧ u4_11 < 30001 from by (first | omega | (simp only [st_s] <;> omega) | assumption | omega | fail)), ?_⟩
          intro x6 r_x6 e_x6
          have b_x6 : (-100) ≤ x6 ∧ x6 ≤ 999 := by rw [e_x6]; exact hT.2 69 _
          refine ⟨fun c7 => ?_, fun c7 => ?_⟩
          ·
            refine h51 _ _ _ _ _ ?_
            refine ⟨fun c10 => ?_, fun c10 => ?_⟩
            ·
              refine ⟨(show 0 ≤ n1 ∧ n1 < 30001 from by (first | omega | (simp only [st_s] <;> omega) | assumption | omega | fail)), ?_⟩
              intro x12 r_x12 e_x12
              have b_x12 : 0 ≤ x12 ∧ x12 ≤ 30000 := by rw [e_x12]; exact hT.2 67 _
              refine ⟨(show 0 ≤ τ_11.1 45 ∧ τ_11.1 45 < 30001 from by (first | omega | (simp only [st_s] <;> omega) | assumption | omega | fail)), ?_⟩
              replace hT := cT_a (k := 68) (j := (τ_11.1 45)) hT (show (0 : Int) ≤ x12 ∧ x12 ≤ 30000 from by (first | omega | (simp only [st_s] <;> omega) | assumption | omega | fail))
              replace hT := cT_a (k := 67) (j := n1) hT (show (0 : Int) ≤ (τ_11.1 45) ∧ (τ_11.1 45) ≤ 30000 from by (first | omega | (simp only [st_s] <;> omega) | assumption | omega | fail))
              replace hT := cT_a (k := 69) (j := (τ_11.1 45)) hT (show (-100 : Int) ≤ n2 ∧ n2 ≤ 999 from by (first | omega | (simp only [st_s] <;> omega) | assumption | omega | fail))
              replace hT := cT_a (k := 70) (j := (τ_11.1 45)) hT (show (0 : Int) ≤ n3 ∧ n3 ≤ 1499 from by (first | omega | (simp only [st_s] <;> omega) | assumption | omega | fail))
              refine ⟨fun c14 => ?_, fun c14 => ?_⟩
              ·
                obtain ⟨τ_127, e_τ_127⟩ : ∃ z : S0, z = s_a (s_a (s_a (s_a τ_11 68 (τ_11.1 45) x12) 67 n1 (τ_11.1 45)) 69 (τ_11.1 45) n2) 70 (τ_11.1 45) n3 := ⟨_, rfl⟩
                rw [← e_τ_127]
                replace hT : c_T τ_127 := by rw [e_τ_127]; exact hT
                have w45_τ_127 : τ_127.1 45 = τ_11.1 45 := by rw [e_τ_127]; rfl
                have g67_τ_127 : τ_127.2.1 67 = (st (τ_11.2.1 67) n1 (τ_11.1 45)) := by rw [e_τ_127]; rfl
                have g68_τ_127 : τ_127.2.1 68 = (st (τ_11.2.1 68) (τ_11.1 45) x12) := by rw [e_τ_127]; rfl
                have g69_τ_127 : τ_127.2.1 69 = (st (τ_11.2.1 69) (τ_11.1 45) n2) := by rw [e_τ_127]; rfl
                have g70_τ_127 : τ_127.2.1 70 = (st (τ_11.2.1 70) (τ_11.1 45) n3) := by rw [e_τ_127]; rfl
                have g73_τ_127 : τ_127.2.1 73 = τ_11.2.1 73 := by rw [e_τ_127]; rfl
                have g74_τ_127 : τ_127.2.1 74 = τ_11.2.1 74 := by rw [e_τ_127]; rfl
                have A67 : ∀ j, 0 ≤ τ_127.2.1 67 j ∧ τ_127.2.1 67 j ≤ 30000 := fun j => hT.2 67 j
                have A68 : ∀ j, 0 ≤ τ_127.2.1 68 j ∧ τ_127.2.1 68 j ≤ 30000 := fun j => hT.2 68 j
                have A69 : ∀ j, (-100) ≤ τ_127.2.1 69 j ∧ τ_127.2.1 69 j ≤ 999 := fun j => hT.2 69 j
                have A70 : ∀ j, 0 ≤ τ_127.2.1 70 j ∧ τ_127.2.1 70 j ≤ 1499 := fun j => hT.2 70 j
                have A73 : ∀ j, 0 ≤ τ_127.2.1 73 j ∧ τ_127.2.1 73 j ≤ 30000 := fun j => hT.2 73 j
                have A74 : ∀ j, 0 ≤ τ_127.2.1 74 j ∧ τ_127.2.1 74 j ≤ 30000 := fun j => hT.2 74 j
                have v45 : 1 ≤ τ_127.1 45 ∧ τ_127.1 45 ≤ 30001 := hT.1 45
                refine h127 _ _ _ ?_
                refine ⟨fun c17 => ?_, fun c17 => ?_⟩
                ·
                  refine h141 _ ?_
                  refine ⟨(⟨by (first | omega | (simp only [st_s] <;> omega) | assumption | omega | fail), by (first | omega | (simp only [st_s] <;> omega) | assumption | omega | fail)⟩ : rg (τ_127.1 45 + 1)), ?_⟩
                  replace hT := cT_v (i := 45) hT (show 1 ≤ (τ_127.1 45 + 1) ∧ (τ_127.1 45 + 1) ≤ 30001 from by (first | omega | (simp only [st_s] <;> omega) | assumption | omega | fail))
                  refine ⟨(⟨by (first | omega | (simp only [st_s] <;> omega) | assumption | omega | fail), by (first | omega | (simp only [st_s] <;> omega) | assumption | omega | fail)⟩ : rg ((τ_127.1 45 + 1) - 1)), ?_⟩
                  exact ⟨hT, (show 0 ≤ ((τ_127.1 45 + 1) - 1) ∧ ((τ_127.1 45 + 1) - 1) ≤ 30000 from by (first | omega | (simp only [st_s] <;> omega) | assumption | omega | fail)), (show ((τ_127.1 45 + 1)) ≤ (σ.1 45) + 1 ∧ (σ.1 45) ≤ ((τ_127.1 45 + 1)) from by (first | omega | (simp only [st_s] <;> omega) | assumption | omega | fail)), (show ∀ par : Int → Int, g_tr (σ.1 45) (σ.2.1 67) (σ.2.1 68) (σ.2.1 69) (σ.2.1 73) (σ.2.1 74) par → ∃ par2 : Int → Int, g_tr ((τ_127.1 45 + 1)) (τ_127.2.1 67) (τ_127.2.1 68) (τ_127.2.1 69) (τ_127.2.1 73) (τ_127.2.1 74) par2 ∧ g_ch (σ.1 45) ((τ_127.1 45 + 1)) n1 n2 n3 ((τ_127.1 45 + 1) - 1) (σ.2.1 69) (σ.2.1 70) (τ_127.2.1 69) (τ_127.2.1 70) par par2 from by (first | (intro par h; have cf := i11_6 par h; refine ⟨par, ?_, ?_⟩; (rw [i11_3, i11_4.1, i11_4.2.1, i11_4.2.2.1, i11_5.1, i11_5.2]; exact h); (rw [i11_3, i11_4.2.2.1, i11_4.2.2.2]; exact g_ch0 (by omega) cf.1 (cf.2.1 (by omega)).1 (by first | (exfalso; have := (cf.2.1 (by omega)).2; omega) | (rw [← i11_4.2.2.1, ← e_x6]; assumption)))) | (intro par h; have cf := i11_6 par h; refine ⟨st par (σ.1 45) n1, ?_, ?_⟩; (simp only [w45_τ_127, g67_τ_127, g68_τ_127, g69_τ_127, g70_τ_127, g73_τ_127, g74_τ_127, e_x12, i11_3, i11_4.1, i11_4.2.1, i11_4.2.2.1, i11_4.2.2.2, i11_5.1, i11_5.2, Int.add_sub_cancel]; exact g_tr_n h p1 p2 (by omega) (fun d d0 d1 d2 e => cf.2.2 d (by omega) d1 d2 e) (by first | exact Or.inl ⟨by omega, by omega, rfl⟩ | exact Or.inr ⟨by omega, rfl⟩) (by first | exact Or.inl ⟨by omega, by omega, rfl⟩ | exact Or.inr ⟨by omega, rfl⟩)); (simp only [w45_τ_127, g67_τ_127, g68_τ_127, g69_τ_127, g70_τ_127, g73_τ_127, g74_τ_127, e_x12, i11_3, i11_4.1, i11_4.2.1, i11_4.2.2.1, i11_4.2.2.2, i11_5.1, i11_5.2, Int.add_sub_cancel]; exact g_ch_n (by omega))) | (intro par h; have cf := i11_6 par h; refine ⟨st par (σ.1 45) n1, ?_, ?_⟩; (simp only [w45_τ_141, g67_τ_141, g68_τ_141, g69_τ_141, g70_τ_141, g73_τ_141, g74_τ_141, w45_τ_127, g67_τ_127, g68_τ_127, g69_τ_127, g70_τ_127, g73_τ_127, g74_τ_127, e_x12, i11_3, i11_4.1, i11_4.2.1, i11_4.2.2.1, i11_4.2.2.2, i11_5.1, i11_5.2, Int.add_sub_cancel]; exact g_tr_n h p1 p2 (by omega) (fun d d0 d1 d2 e => cf.2.2 d (by omega) d1 d2 e) (by first | exact Or.inl ⟨by omega, by omega, rfl⟩ | exact Or.inr ⟨by omega, rfl⟩) (by first | exact Or.inl ⟨by omega, by omega, rfl⟩ | exact Or.inr ⟨by omega, rfl⟩)); (simp only [w45_τ_141, g67_τ_141, g68_τ_141, g69_τ_141, g70_τ_141, g73_τ_141, g74_τ_141, w45_τ_127, g67_τ_127, g68_τ_127, g69_τ_127, g70_τ_127, g73_τ_127, g74_τ_127, e_x12, i11_3, i11_4.1, i11_4.2.1, i11_4.2.2.1, i11_4.2.2.2, i11_5.1, i11_5.2, Int.add_sub_cancel]; exact g_ch_n (by omega))) | (intro par h; have cf := i11_6 par h; refine ⟨st par (σ.1 45) n1, ?_, ?_⟩; (simp only [w45_τ_141, g67_τ_141, g68_τ_141, g69_τ_141, g70_τ_141, g73_τ_141, g74_τ_141, e_x12, i11_3, i11_4.1, i11_4.2.1, i11_4.2.2.1, i11_4.2.2.2, i11_5.1, i11_5.2, Int.add_sub_cancel]; exact g_tr_n h p1 p2 (by omega) (fun d d0 d1 d2 e => cf.2.2 d (by omega) d1 d2 e) (by first | exact Or.inl ⟨by omega, by omega, rfl⟩ | exact Or.inr ⟨by omega, rfl⟩) (by first | exact Or.inl ⟨by omega, by omega, rfl⟩ | exact Or.inr ⟨by omega, rfl⟩)); (simp only [w45_τ_141, g67_τ_141, g68_τ_141, g69_τ_141, g70_τ_141, g73_τ_141, g74_τ_141, e_x12, i11_3, i11_4.1, i11_4.2.1, i11_4.2.2.1, i11_4.2.2.2, i11_5.1, i11_5.2, Int.add_sub_cancel]; exact g_ch_n (by omega))) | fail))⟩
                ·
                  refine ⟨(show 0 ≤ n2 ∧ n2 < 1000 from by (first | omega | (simp only [st_s] <;> omega) | assumption | omega | fail)), ?_⟩
                  replace hT := cT_a (k := 73) (j := n2) hT (show (0 : Int) ≤ (τ_127.1 45) ∧ (τ_127.1 45) ≤ 30000 from by (first | omega | (simp only [st_s] <;> omega) | assumption | omega | fail))
                  obtain ⟨τ_141, e_τ_141⟩ : ∃ z : S0, z = s_a τ_127 73 n2 (τ_127.1 45) := ⟨_, rfl⟩
                  rw [← e_τ_141]
                  replace hT : c_T τ_141 := by rw [e_τ_141]; exact hT
                  have w45_τ_141 : τ_141.1 45 = τ_127.1 45 := by rw [e_τ_141]; rfl
                  have g67_τ_141 : τ_141.2.1 67 = τ_127.2.1 67 := by rw [e_τ_141]; rfl
                  have g68_τ_141 : τ_141.2.1 68 = τ_127.2.1 68 := by rw [e_τ_141]; rfl
                  have g69_τ_141 : τ_141.2.1 69 = τ_127.2.1 69 := by rw [e_τ_141]; rfl
                  have g70_τ_141 : τ_141.2.1 70 = τ_127.2.1 70 := by rw [e_τ_141]; rfl
                  have g73_τ_141 : τ_141.2.1 73 = (st (τ_127.2.1 73) n2 (τ_127.1 45)) := by rw [e_τ_141]; rfl
                  have g74_τ_141 : τ_141.2.1 74 = τ_127.2.1 74 := by rw [e_τ_141]; rfl
                  have A67 : ∀ j, 0 ≤ τ_141.2.1 67 j ∧ τ_141.2.1 67 j ≤ 30000 := fun j => hT.2 67 j
                  have A68 : ∀ j, 0 ≤ τ_141.2.1 68 j ∧ τ_141.2.1 68 j ≤ 30000 := fun j => hT.2 68 j
                  have A69 : ∀ j, (-100) ≤ τ_141.2.1 69 j ∧ τ_141.2.1 69 j ≤ 999 := fun j => hT.2 69 j
                  have A70 : ∀ j, 0 ≤ τ_141.2.1 70 j ∧ τ_141.2.1 70 j ≤ 1499 := fun j => hT.2 70 j
                  have A73 : ∀ j, 0 ≤ τ_141.2.1 73 j ∧ τ_141.2.1 73 j ≤ 30000 := fun j => hT.2 73 j
                  have A74 : ∀ j, 0 ≤ τ_141.2.1 74 j ∧ τ_141.2.1 74 j ≤ 30000 := fun j => hT.2 74 j
                  have v45 : 1 ≤ τ_141.1 45 ∧ τ_141.1 45 ≤ 30001 := hT.1 45
                  refine h141 _ ?_
                  refine ⟨(⟨by (first | omega | (simp only [st_s] <;> omega) | assumption | omega | fail), by (first | omega | (simp only [st_s] <;> omega) | assumption | omega | fail)⟩ : rg (τ_141.1 45 + 1)), ?_⟩
                  replace hT := cT_v (i := 45) hT (show 1 ≤ (τ_141.1 45 + 1) ∧ (τ_141.1 45 + 1) ≤ 30001 from by (first | omega | (simp only [st_s] <;> omega) | assumption | omega | fail))
                  refine ⟨(⟨by (first | omega | (simp only [st_s] <;> omega) | assumption | omega | fail), by (first | omega | (simp only [st_s] <;> omega) | assumption | omega | fail)⟩ : rg ((τ_141.1 45 + 1) - 1)), ?_⟩
                  exact ⟨hT, (show 0 ≤ ((τ_141.1 45 + 1) - 1) ∧ ((τ_141.1 45 + 1) - 1) ≤ 30000 from by (first | omega | (simp only [st_s] <;> omega) | assumption | omega | fail)), (show ((τ_141.1 45 + 1)) ≤ (σ.1 45) + 1 ∧ (σ.1 45) ≤ ((τ_141.1 45 + 1)) from by (first | omega | (simp only [st_s] <;> omega) | assumption | omega | fail)), (show ∀ par : Int → Int, g_tr (σ.1 45) (σ.2.1 67) (σ.2.1 68) (σ.2.1 69) (σ.2.1 73) (σ.2.1 74) par → ∃ par2 : Int → Int, g_tr ((τ_141.1 45 + 1)) (τ_141.2.1 67) (τ_141.2.1 68) (τ_141.2.1 69) (τ_141.2.1 73) (τ_141.2.1 74) par2 ∧ g_ch (σ.1 45) ((τ_141.1 45 + 1)) n1 n2 n3 ((τ_141.1 45 + 1) - 1) (σ.2.1 69) (σ.2.1 70) (τ_141.2.1 69) (τ_141.2.1 70) par par2 from by (first | (intro par h; have cf := i11_6 par h; refine ⟨par, ?_, ?_⟩; (rw [i11_3, i11_4.1, i11_4.2.1, i11_4.2.2.1, i11_5.1, i11_5.2]; exact h); (rw [i11_3, i11_4.2.2.1, i11_4.2.2.2]; exact g_ch0 (by omega) cf.1 (cf.2.1 (by omega)).1 (by first | (exfalso; have := (cf.2.1 (by omega)).2; omega) | (rw [← i11_4.2.2.1, ← e_x6]; assumption)))) | (intro par h; have cf := i11_6 par h; refine ⟨st par (σ.1 45) n1, ?_, ?_⟩; (simp only [w45_τ_127, g67_τ_127, g68_τ_127, g69_τ_127, g70_τ_127, g73_τ_127, g74_τ_127, e_x12, i11_3, i11_4.1, i11_4.2.1, i11_4.2.2.1, i11_4.2.2.2, i11_5.1, i11_5.2, Int.add_sub_cancel]; exact g_tr_n h p1 p2 (by omega) (fun d d0 d1 d2 e => cf.2.2 d (by omega) d1 d2 e) (by first | exact Or.inl ⟨by omega, by omega, rfl⟩ | exact Or.inr ⟨by omega, rfl⟩) (by first | exact Or.inl ⟨by omega, by omega, rfl⟩ | exact Or.inr ⟨by omega, rfl⟩)); (simp only [w45_τ_127, g67_τ_127, g68_τ_127, g69_τ_127, g70_τ_127, g73_τ_127, g74_τ_127, e_x12, i11_3, i11_4.1, i11_4.2.1, i11_4.2.2.1, i11_4.2.2.2, i11_5.1, i11_5.2, Int.add_sub_cancel]; exact g_ch_n (by omega))) | (intro par h; have cf := i11_6 par h; refine ⟨st par (σ.1 45) n1, ?_, ?_⟩; (simp only [w45_τ_141, g67_τ_141, g68_τ_141, g69_τ_141, g70_τ_141, g73_τ_141, g74_τ_141, w45_τ_127, g67_τ_127, g68_τ_127, g69_τ_127, g70_τ_127, g73_τ_127, g74_τ_127, e_x12, i11_3, i11_4.1, i11_4.2.1, i11_4.2.2.1, i11_4.2.2.2, i11_5.1, i11_5.2, Int.add_sub_cancel]; exact g_tr_n h p1 p2 (by omega) (fun d d0 d1 d2 e => cf.2.2 d (by omega) d1 d2 e) (by first | exact Or.inl ⟨by omega, by omega, rfl⟩ | exact Or.inr ⟨by omega, rfl⟩) (by first | exact Or.inl ⟨by omega, by omega, rfl⟩ | exact Or.inr ⟨by omega, rfl⟩)); (simp only [w45_τ_141, g67_τ_141, g68_τ_141, g69_τ_141, g70_τ_141, g73_τ_141, g74_τ_141, w45_τ_127, g67_τ_127, g68_τ_127, g69_τ_127, g70_τ_127, g73_τ_127, g74_τ_127, e_x12, i11_3, i11_4.1, i11_4.2.1, i11_4.2.2.1, i11_4.2.2.2, i11_5.1, i11_5.2, Int.add_sub_cancel]; exact g_ch_n (by omega))) | (intro par h; have cf := i11_6 par h; refine ⟨st par (σ.1 45) n1, ?_, ?_⟩; (simp only [w45_τ_141, g67_τ_141, g68_τ_141, g69_τ_141, g70_τ_141, g73_τ_141, g74_τ_141, e_x12, i11_3, i11_4.1, i11_4.2.1, i11_4.2.2.1, i11_4.2.2.2, i11_5.1, i11_5.2, Int.add_sub_cancel]; exact g_tr_n h p1 p2 (by omega) (fun d d0 d1 d2 e => cf.2.2 d (by omega) d1 d2 e) (by first | exact Or.inl ⟨by omega, by omega, rfl⟩ | exact Or.inr ⟨by omega, rfl⟩) (by first | exact Or.inl ⟨by omega, by omega, rfl⟩ | exact Or.inr ⟨by omega, rfl⟩)); (simp only [w45_τ_141, g67_τ_141, g68_τ_141, g69_τ_141, g70_τ_141, g73_τ_141, g74_τ_141, e_x12, i11_3, i11_4.1, i11_4.2.1, i11_4.2.2.1, i11_4.2.2.2, i11_5.1, i11_5.2, Int.add_sub_cancel]; exact g_ch_n (by omega))) | fail))⟩
              ·
                refine ⟨fun c15 => ?_, fun c15 => ?_⟩
                ·
                  obtain ⟨τ_127, e_τ_127⟩ : ∃ z : S0, z = s_a (s_a (s_a (s_a τ_11 68 (τ_11.1 45) x12) 67 n1 (τ_11.1 45)) 69 (τ_11.1 45) n2) 70 (τ_11.1 45) n3 := ⟨_, rfl⟩
                  rw [← e_τ_127]
                  replace hT : c_T τ_127 := by rw [e_τ_127]; exact hT
                  have w45_τ_127 : τ_127.1 45 = τ_11.1 45 := by rw [e_τ_127]; rfl
                  have g67_τ_127 : τ_127.2.1 67 = (st (τ_11.2.1 67) n1 (τ_11.1 45)) := by rw [e_τ_127]; rfl
                  have g68_τ_127 : τ_127.2.1 68 = (st (τ_11.2.1 68) (τ_11.1 45) x12) := by rw [e_τ_127]; rfl
                  have g69_τ_127 : τ_127.2.1 69 = (st (τ_11.2.1 69) (τ_11.1 45) n2) := by rw [e_τ_127]; rfl
                  have g70_τ_127 : τ_127.2.1 70 = (st (τ_11.2.1 70) (τ_11.1 45) n3) := by rw [e_τ_127]; rfl
                  have g73_τ_127 : τ_127.2.1 73 = τ_11.2.1 73 := by rw [e_τ_127]; rfl
                  have g74_τ_127 : τ_127.2.1 74 = τ_11.2.1 74 := by rw [e_τ_127]; rfl
                  have A67 : ∀ j, 0 ≤ τ_127.2.1 67 j ∧ τ_127.2.1 67 j ≤ 30000 := fun j => hT.2 67 j
                  have A68 : ∀ j, 0 ≤ τ_127.2.1 68 j ∧ τ_127.2.1 68 j ≤ 30000 := fun j => hT.2 68 j
                  have A69 : ∀ j, (-100) ≤ τ_127.2.1 69 j ∧ τ_127.2.1 69 j ≤ 999 := fun j => hT.2 69 j
                  have A70 : ∀ j, 0 ≤ τ_127.2.1 70 j ∧ τ_127.2.1 70 j ≤ 1499 := fun j => hT.2 70 j
                  have A73 : ∀ j, 0 ≤ τ_127.2.1 73 j ∧ τ_127.2.1 73 j ≤ 30000 := fun j => hT.2 73 j
                  have A74 : ∀ j, 0 ≤ τ_127.2.1 74 j ∧ τ_127.2.1 74 j ≤ 30000 := fun j => hT.2 74 j
                  have v45 : 1 ≤ τ_127.1 45 ∧ τ_127.1 45 ≤ 30001 := hT.1 45
                  refine h127 _ _ _ ?_
                  refine ⟨fun c17 => ?_, fun c17 => ?_⟩
                  ·
                    refine h141 _ ?_
                    refine ⟨(⟨by (first | omega | (simp only [st_s] <;> omega) | assumption | omega | fail), by (first | omega | (simp only [st_s] <;> omega) | assumption | omega | fail)⟩ : rg (τ_127.1 45 + 1)), ?_⟩
                    replace hT := cT_v (i := 45) hT (show 1 ≤ (τ_127.1 45 + 1) ∧ (τ_127.1 45 + 1) ≤ 30001 from by (first | omega | (simp only [st_s] <;> omega) | assumption | omega | fail))
                    refine ⟨(⟨by (first | omega | (simp only [st_s] <;> omega) | assumption | omega | fail), by (first | omega | (simp only [st_s] <;> omega) | assumption | omega | fail)⟩ : rg ((τ_127.1 45 + 1) - 1)), ?_⟩
                    exact ⟨hT, (show 0 ≤ ((τ_127.1 45 + 1) - 1) ∧ ((τ_127.1 45 + 1) - 1) ≤ 30000 from by (first | omega | (simp only [st_s] <;> omega) | assumption | omega | fail)), (show ((τ_127.1 45 + 1)) ≤ (σ.1 45) + 1 ∧ (σ.1 45) ≤ ((τ_127.1 45 + 1)) from by (first | omega | (simp only [st_s] <;> omega) | assumption | omega | fail)), (show ∀ par : Int → Int, g_tr (σ.1 45) (σ.2.1 67) (σ.2.1 68) (σ.2.1 69) (σ.2.1 73) (σ.2.1 74) par → ∃ par2 : Int → Int, g_tr ((τ_127.1 45 + 1)) (τ_127.2.1 67) (τ_127.2.1 68) (τ_127.2.1 69) (τ_127.2.1 73) (τ_127.2.1 74) par2 ∧ g_ch (σ.1 45) ((τ_127.1 45 + 1)) n1 n2 n3 ((τ_127.1 45 + 1) - 1) (σ.2.1 69) (σ.2.1 70) (τ_127.2.1 69) (τ_127.2.1 70) par par2 from by (first | (intro par h; have cf := i11_6 par h; refine ⟨par, ?_, ?_⟩; (rw [i11_3, i11_4.1, i11_4.2.1, i11_4.2.2.1, i11_5.1, i11_5.2]; exact h); (rw [i11_3, i11_4.2.2.1, i11_4.2.2.2]; exact g_ch0 (by omega) cf.1 (cf.2.1 (by omega)).1 (by first | (exfalso; have := (cf.2.1 (by omega)).2; omega) | (rw [← i11_4.2.2.1, ← e_x6]; assumption)))) | (intro par h; have cf := i11_6 par h; refine ⟨st par (σ.1 45) n1, ?_, ?_⟩; (simp only [w45_τ_127, g67_τ_127, g68_τ_127, g69_τ_127, g70_τ_127, g73_τ_127, g74_τ_127, e_x12, i11_3, i11_4.1, i11_4.2.1, i11_4.2.2.1, i11_4.2.2.2, i11_5.1, i11_5.2, Int.add_sub_cancel]; exact g_tr_n h p1 p2 (by omega) (fun d d0 d1 d2 e => cf.2.2 d (by omega) d1 d2 e) (by first | exact Or.inl ⟨by omega, by omega, rfl⟩ | exact Or.inr ⟨by omega, rfl⟩) (by first | exact Or.inl ⟨by omega, by omega, rfl⟩ | exact Or.inr ⟨by omega, rfl⟩)); (simp only [w45_τ_127, g67_τ_127, g68_τ_127, g69_τ_127, g70_τ_127, g73_τ_127, g74_τ_127, e_x12, i11_3, i11_4.1, i11_4.2.1, i11_4.2.2.1, i11_4.2.2.2, i11_5.1, i11_5.2, Int.add_sub_cancel]; exact g_ch_n (by omega))) | (intro par h; have cf := i11_6 par h; refine ⟨st par (σ.1 45) n1, ?_, ?_⟩; (simp only [w45_τ_141, g67_τ_141, g68_τ_141, g69_τ_141, g70_τ_141, g73_τ_141, g74_τ_141, w45_τ_127, g67_τ_127, g68_τ_127, g69_τ_127, g70_τ_127, g73_τ_127, g74_τ_127, e_x12, i11_3, i11_4.1, i11_4.2.1, i11_4.2.2.1, i11_4.2.2.2, i11_5.1, i11_5.2, Int.add_sub_cancel]; exact g_tr_n h p1 p2 (by omega) (fun d d0 d1 d2 e => cf.2.2 d (by omega) d1 d2 e) (by first | exact Or.inl ⟨by omega, by omega, rfl⟩ | exact Or.inr ⟨by omega, rfl⟩) (by first | exact Or.inl ⟨by omega, by omega, rfl⟩ | exact Or.inr ⟨by omega, rfl⟩)); (simp only [w45_τ_141, g67_τ_141, g68_τ_141, g69_τ_141, g70_τ_141, g73_τ_141, g74_τ_141, w45_τ_127, g67_τ_127, g68_τ_127, g69_τ_127, g70_τ_127, g73_τ_127, g74_τ_127, e_x12, i11_3, i11_4.1, i11_4.2.1, i11_4.2.2.1, i11_4.2.2.2, i11_5.1, i11_5.2, Int.add_sub_cancel]; exact g_ch_n (by omega))) | (intro par h; have cf := i11_6 par h; refine ⟨st par (σ.1 45) n1, ?_, ?_⟩; (simp only [w45_τ_141, g67_τ_141, g68_τ_141, g69_τ_141, g70_τ_141, g73_τ_141, g74_τ_141, e_x12, i11_3, i11_4.1, i11_4.2.1, i11_4.2.2.1, i11_4.2.2.2, i11_5.1, i11_5.2, Int.add_sub_cancel]; exact g_tr_n h p1 p2 (by omega) (fun d d0 d1 d2 e => cf.2.2 d (by omega) d1 d2 e) (by first | exact Or.inl ⟨by omega, by omega, rfl⟩ | exact Or.inr ⟨by omega, rfl⟩) (by first | exact Or.inl ⟨by omega, by omega, rfl⟩ | exact Or.inr ⟨by omega, rfl⟩)); (simp only [w45_τ_141, g67_τ_141, g68_τ_141, g69_τ_141, g70_τ_141, g73_τ_141, g74_τ_141, e_x12, i11_3, i11_4.1, i11_4.2.1, i11_4.2.2.1, i11_4.2.2.2, i11_5.1, i11_5.2, Int.add_sub_cancel]; exact g_ch_n (by omega))) | fail))⟩
                  ·
                    refine ⟨(show 0 ≤ n2 ∧ n2 < 1000 from by (first | omega | (simp only [st_s] <;> omega) | assumption | omega | fail)), ?_⟩
                    replace hT := cT_a (k := 73) (j := n2) hT (show (0 : Int) ≤ (τ_127.1 45) ∧ (τ_127.1 45) ≤ 30000 from by (first | omega | (simp only [st_s] <;> omega) | assumption | omega | fail))
                    obtain ⟨τ_141, e_τ_141⟩ : ∃ z : S0, z = s_a τ_127 73 n2 (τ_127.1 45) := ⟨_, rfl⟩
                    rw [← e_τ_141]
                    replace hT : c_T τ_141 := by rw [e_τ_141]; exact hT
                    have w45_τ_141 : τ_141.1 45 = τ_127.1 45 := by rw [e_τ_141]; rfl
                    have g67_τ_141 : τ_141.2.1 67 = τ_127.2.1 67 := by rw [e_τ_141]; rfl
                    have g68_τ_141 : τ_141.2.1 68 = τ_127.2.1 68 := by rw [e_τ_141]; rfl
                    have g69_τ_141 : τ_141.2.1 69 = τ_127.2.1 69 := by rw [e_τ_141]; rfl
                    have g70_τ_141 : τ_141.2.1 70 = τ_127.2.1 70 := by rw [e_τ_141]; rfl
                    have g73_τ_141 : τ_141.2.1 73 = (st (τ_127.2.1 73) n2 (τ_127.1 45)) := by rw [e_τ_141]; rfl
                    have g74_τ_141 : τ_141.2.1 74 = τ_127.2.1 74 := by rw [e_τ_141]; rfl
                    have A67 : ∀ j, 0 ≤ τ_141.2.1 67 j ∧ τ_141.2.1 67 j ≤ 30000 := fun j => hT.2 67 j
                    have A68 : ∀ j, 0 ≤ τ_141.2.1 68 j ∧ τ_141.2.1 68 j ≤ 30000 := fun j => hT.2 68 j
                    have A69 : ∀ j, (-100) ≤ τ_141.2.1 69 j ∧ τ_141.2.1 69 j ≤ 999 := fun j => hT.2 69 j
                    have A70 : ∀ j, 0 ≤ τ_141.2.1 70 j ∧ τ_141.2.1 70 j ≤ 1499 := fun j => hT.2 70 j
                    have A73 : ∀ j, 0 ≤ τ_141.2.1 73 j ∧ τ_141.2.1 73 j ≤ 30000 := fun j => hT.2 73 j
                    have A74 : ∀ j, 0 ≤ τ_141.2.1 74 j ∧ τ_141.2.1 74 j ≤ 30000 := fun j => hT.2 74 j
                    have v45 : 1 ≤ τ_141.1 45 ∧ τ_141.1 45 ≤ 30001 := hT.1 45
                    refine h141 _ ?_
                    refine ⟨(⟨by (first | omega | (simp only [st_s] <;> omega) | assumption | omega | fail), by (first | omega | (simp only [st_s] <;> omega) | assumption | omega | fail)⟩ : rg (τ_141.1 45 + 1)), ?_⟩
                    replace hT := cT_v (i := 45) hT (show 1 ≤ (τ_141.1 45 + 1) ∧ (τ_141.1 45 + 1) ≤ 30001 from by (first | omega | (simp only [st_s] <;> omega) | assumption | omega | fail))
                    refine ⟨(⟨by (first | omega | (simp only [st_s] <;> omega) | assumption | omega | fail), by (first | omega | (simp only [st_s] <;> omega) | assumption | omega | fail)⟩ : rg ((τ_141.1 45 + 1) - 1)), ?_⟩
                    exact ⟨hT, (show 0 ≤ ((τ_141.1 45 + 1) - 1) ∧ ((τ_141.1 45 + 1) - 1) ≤ 30000 from by (first | omega | (simp only [st_s] <;> omega) | assumption | omega | fail)), (show ((τ_141.1 45 + 1)) ≤ (σ.1 45) + 1 ∧ (σ.1 45) ≤ ((τ_141.1 45 + 1)) from by (first | omega | (simp only [st_s] <;> omega) | assumption | omega | fail)), (show ∀ par : Int → Int, g_tr (σ.1 45) (σ.2.1 67) (σ.2.1 68) (σ.2.1 69) (σ.2.1 73) (σ.2.1 74) par → ∃ par2 : Int → Int, g_tr ((τ_141.1 45 + 1)) (τ_141.2.1 67) (τ_141.2.1 68) (τ_141.2.1 69) (τ_141.2.1 73) (τ_141.2.1 74) par2 ∧ g_ch (σ.1 45) ((τ_141.1 45 + 1)) n1 n2 n3 ((τ_141.1 45 + 1) - 1) (σ.2.1 69) (σ.2.1 70) (τ_141.2.1 69) (τ_141.2.1 70) par par2 from by (first | (intro par h; have cf := i11_6 par h; refine ⟨par, ?_, ?_⟩; (rw [i11_3, i11_4.1, i11_4.2.1, i11_4.2.2.1, i11_5.1, i11_5.2]; exact h); (rw [i11_3, i11_4.2.2.1, i11_4.2.2.2]; exact g_ch0 (by omega) cf.1 (cf.2.1 (by omega)).1 (by first | (exfalso; have := (cf.2.1 (by omega)).2; omega) | (rw [← i11_4.2.2.1, ← e_x6]; assumption)))) | (intro par h; have cf := i11_6 par h; refine ⟨st par (σ.1 45) n1, ?_, ?_⟩; (simp only [w45_τ_127, g67_τ_127, g68_τ_127, g69_τ_127, g70_τ_127, g73_τ_127, g74_τ_127, e_x12, i11_3, i11_4.1, i11_4.2.1, i11_4.2.2.1, i11_4.2.2.2, i11_5.1, i11_5.2, Int.add_sub_cancel]; exact g_tr_n h p1 p2 (by omega) (fun d d0 d1 d2 e => cf.2.2 d (by omega) d1 d2 e) (by first | exact Or.inl ⟨by omega, by omega, rfl⟩ | exact Or.inr ⟨by omega, rfl⟩) (by first | exact Or.inl ⟨by omega, by omega, rfl⟩ | exact Or.inr ⟨by omega, rfl⟩)); (simp only [w45_τ_127, g67_τ_127, g68_τ_127, g69_τ_127, g70_τ_127, g73_τ_127, g74_τ_127, e_x12, i11_3, i11_4.1, i11_4.2.1, i11_4.2.2.1, i11_4.2.2.2, i11_5.1, i11_5.2, Int.add_sub_cancel]; exact g_ch_n (by omega))) | (intro par h; have cf := i11_6 par h; refine ⟨st par (σ.1 45) n1, ?_, ?_⟩; (simp only [w45_τ_141, g67_τ_141, g68_τ_141, g69_τ_141, g70_τ_141, g73_τ_141, g74_τ_141, w45_τ_127, g67_τ_127, g68_τ_127, g69_τ_127, g70_τ_127, g73_τ_127, g74_τ_127, e_x12, i11_3, i11_4.1, i11_4.2.1, i11_4.2.2.1, i11_4.2.2.2, i11_5.1, i11_5.2, Int.add_sub_cancel]; exact g_tr_n h p1 p2 (by omega) (fun d d0 d1 d2 e => cf.2.2 d (by omega) d1 d2 e) (by first | exact Or.inl ⟨by omega, by omega, rfl⟩ | exact Or.inr ⟨by omega, rfl⟩) (by first | exact Or.inl ⟨by omega, by omega, rfl⟩ | exact Or.inr ⟨by omega, rfl⟩)); (simp only [w45_τ_141, g67_τ_141, g68_τ_141, g69_τ_141, g70_τ_141, g73_τ_141, g74_τ_141, w45_τ_127, g67_τ_127, g68_τ_127, g69_τ_127, g70_τ_127, g73_τ_127, g74_τ_127, e_x12, i11_3, i11_4.1, i11_4.2.1, i11_4.2.2.1, i11_4.2.2.2, i11_5.1, i11_5.2, Int.add_sub_cancel]; exact g_ch_n (by omega))) | (intro par h; have cf := i11_6 par h; refine ⟨st par (σ.1 45) n1, ?_, ?_⟩; (simp only [w45_τ_141, g67_τ_141, g68_τ_141, g69_τ_141, g70_τ_141, g73_τ_141, g74_τ_141, e_x12, i11_3, i11_4.1, i11_4.2.1, i11_4.2.2.1, i11_4.2.2.2, i11_5.1, i11_5.2, Int.add_sub_cancel]; exact g_tr_n h p1 p2 (by omega) (fun d d0 d1 d2 e => cf.2.2 d (by omega) d1 d2 e) (by first | exact Or.inl ⟨by omega, by omega, rfl⟩ | exact Or.inr ⟨by omega, rfl⟩) (by first | exact Or.inl ⟨by omega, by omega, rfl⟩ | exact Or.inr ⟨by omega, rfl⟩)); (simp only [w45_τ_141, g67_τ_141, g68_τ_141, g69_τ_141, g70_τ_141, g73_τ_141, g74_τ_141, e_x12, i11_3, i11_4.1, i11_4.2.1, i11_4.2.2.1, i11_4.2.2.2, i11_5.1, i11_5.2, Int.add_sub_cancel]; exact g_ch_n (by omega))) | fail))⟩
                ·
                  refine ⟨(show 0 ≤ (-1 - n2) ∧ (-1 - n2) < 100 from by (first | omega | (simp only [st_s] <;> omega) | assumption | omega | fail)), ?_⟩
                  replace hT := cT_a (k := 74) (j := (-1 - n2)) hT (show (0 : Int) ≤ (τ_11.1 45) ∧ (τ_11.1 45) ≤ 30000 from by (first | omega | (simp only [st_s] <;> omega) | assumption | omega | fail))
                  obtain ⟨τ_141, e_τ_141⟩ : ∃ z : S0, z = s_a (s_a (s_a (s_a (s_a τ_11 68 (τ_11.1 45) x12) 67 n1 (τ_11.1 45)) 69 (τ_11.1 45) n2) 70 (τ_11.1 45) n3) 74 (-1 - n2) (τ_11.1 45) := ⟨_, rfl⟩
                  rw [← e_τ_141]
                  replace hT : c_T τ_141 := by rw [e_τ_141]; exact hT
                  have w45_τ_141 : τ_141.1 45 = τ_11.1 45 := by rw [e_τ_141]; rfl
                  have g67_τ_141 : τ_141.2.1 67 = (st (τ_11.2.1 67) n1 (τ_11.1 45)) := by rw [e_τ_141]; rfl
                  have g68_τ_141 : τ_141.2.1 68 = (st (τ_11.2.1 68) (τ_11.1 45) x12) := by rw [e_τ_141]; rfl
                  have g69_τ_141 : τ_141.2.1 69 = (st (τ_11.2.1 69) (τ_11.1 45) n2) := by rw [e_τ_141]; rfl
                  have g70_τ_141 : τ_141.2.1 70 = (st (τ_11.2.1 70) (τ_11.1 45) n3) := by rw [e_τ_141]; rfl
                  have g73_τ_141 : τ_141.2.1 73 = τ_11.2.1 73 := by rw [e_τ_141]; rfl
                  have g74_τ_141 : τ_141.2.1 74 = (st (τ_11.2.1 74) (-1 - n2) (τ_11.1 45)) := by rw [e_τ_141]; rfl
                  have A67 : ∀ j, 0 ≤ τ_141.2.1 67 j ∧ τ_141.2.1 67 j ≤ 30000 := fun j => hT.2 67 j
                  have A68 : ∀ j, 0 ≤ τ_141.2.1 68 j ∧ τ_141.2.1 68 j ≤ 30000 := fun j => hT.2 68 j
                  have A69 : ∀ j, (-100) ≤ τ_141.2.1 69 j ∧ τ_141.2.1 69 j ≤ 999 := fun j => hT.2 69 j
                  have A70 : ∀ j, 0 ≤ τ_141.2.1 70 j ∧ τ_141.2.1 70 j ≤ 1499 := fun j => hT.2 70 j
                  have A73 : ∀ j, 0 ≤ τ_141.2.1 73 j ∧ τ_141.2.1 73 j ≤ 30000 := fun j => hT.2 73 j
                  have A74 : ∀ j, 0 ≤ τ_141.2.1 74 j ∧ τ_141.2.1 74 j ≤ 30000 := fun j => hT.2 74 j
                  have v45 : 1 ≤ τ_141.1 45 ∧ τ_141.1 45 ≤ 30001 := hT.1 45
                  refine h141 _ ?_
                  refine ⟨(⟨by (first | omega | (simp only [st_s] <;> omega) | assumption | omega | fail), by (first | omega | (simp only [st_s] <;> omega) | assumption | omega | fail)⟩ : rg (τ_141.1 45 + 1)), ?_⟩
                  replace hT := cT_v (i := 45) hT (show 1 ≤ (τ_141.1 45 + 1) ∧ (τ_141.1 45 + 1) ≤ 30001 from by (first | omega | (simp only [st_s] <;> omega) | assumption | omega | fail))
                  refine ⟨(⟨by (first | omega | (simp only [st_s] <;> omega) | assumption | omega | fail), by (first | omega | (simp only [st_s] <;> omega) | assumption | omega | fail)⟩ : rg ((τ_141.1 45 + 1) - 1)), ?_⟩
                  exact ⟨hT, (show 0 ≤ ((τ_141.1 45 + 1) - 1) ∧ ((τ_141.1 45 + 1) - 1) ≤ 30000 from by (first | omega | (simp only [st_s] <;> omega) | assumption | omega | fail)), (show ((τ_141.1 45 + 1)) ≤ (σ.1 45) + 1 ∧ (σ.1 45) ≤ ((τ_141.1 45 + 1)) from by (first | omega | (simp only [st_s] <;> omega) | assumption | omega | fail)), (show ∀ par : Int → Int, g_tr (σ.1 45) (σ.2.1 67) (σ.2.1 68) (σ.2.1 69) (σ.2.1 73) (σ.2.1 74) par → ∃ par2 : Int → Int, g_tr ((τ_141.1 45 + 1)) (τ_141.2.1 67) (τ_141.2.1 68) (τ_141.2.1 69) (τ_141.2.1 73) (τ_141.2.1 74) par2 ∧ g_ch (σ.1 45) ((τ_141.1 45 + 1)) n1 n2 n3 ((τ_141.1 45 + 1) - 1) (σ.2.1 69) (σ.2.1 70) (τ_141.2.1 69) (τ_141.2.1 70) par par2 from by (first | (intro par h; have cf := i11_6 par h; refine ⟨par, ?_, ?_⟩; (rw [i11_3, i11_4.1, i11_4.2.1, i11_4.2.2.1, i11_5.1, i11_5.2]; exact h); (rw [i11_3, i11_4.2.2.1, i11_4.2.2.2]; exact g_ch0 (by omega) cf.1 (cf.2.1 (by omega)).1 (by first | (exfalso; have := (cf.2.1 (by omega)).2; omega) | (rw [← i11_4.2.2.1, ← e_x6]; assumption)))) | (intro par h; have cf := i11_6 par h; refine ⟨st par (σ.1 45) n1, ?_, ?_⟩; (simp only [w45_τ_127, g67_τ_127, g68_τ_127, g69_τ_127, g70_τ_127, g73_τ_127, g74_τ_127, e_x12, i11_3, i11_4.1, i11_4.2.1, i11_4.2.2.1, i11_4.2.2.2, i11_5.1, i11_5.2, Int.add_sub_cancel]; exact g_tr_n h p1 p2 (by omega) (fun d d0 d1 d2 e => cf.2.2 d (by omega) d1 d2 e) (by first | exact Or.inl ⟨by omega, by omega, rfl⟩ | exact Or.inr ⟨by omega, rfl⟩) (by first | exact Or.inl ⟨by omega, by omega, rfl⟩ | exact Or.inr ⟨by omega, rfl⟩)); (simp only [w45_τ_127, g67_τ_127, g68_τ_127, g69_τ_127, g70_τ_127, g73_τ_127, g74_τ_127, e_x12, i11_3, i11_4.1, i11_4.2.1, i11_4.2.2.1, i11_4.2.2.2, i11_5.1, i11_5.2, Int.add_sub_cancel]; exact g_ch_n (by omega))) | (intro par h; have cf := i11_6 par h; refine ⟨st par (σ.1 45) n1, ?_, ?_⟩; (simp only [w45_τ_141, g67_τ_141, g68_τ_141, g69_τ_141, g70_τ_141, g73_τ_141, g74_τ_141, w45_τ_127, g67_τ_127, g68_τ_127, g69_τ_127, g70_τ_127, g73_τ_127, g74_τ_127, e_x12, i11_3, i11_4.1, i11_4.2.1, i11_4.2.2.1, i11_4.2.2.2, i11_5.1, i11_5.2, Int.add_sub_cancel]; exact g_tr_n h p1 p2 (by omega) (fun d d0 d1 d2 e => cf.2.2 d (by omega) d1 d2 e) (by first | exact Or.inl ⟨by omega, by omega, rfl⟩ | exact Or.inr ⟨by omega, rfl⟩) (by first | exact Or.inl ⟨by omega, by omega, rfl⟩ | exact Or.inr ⟨by omega, rfl⟩)); (simp only [w45_τ_141, g67_τ_141, g68_τ_141, g69_τ_141, g70_τ_141, g73_τ_141, g74_τ_141, w45_τ_127, g67_τ_127, g68_τ_127, g69_τ_127, g70_τ_127, g73_τ_127, g74_τ_127, e_x12, i11_3, i11_4.1, i11_4.2.1, i11_4.2.2.1, i11_4.2.2.2, i11_5.1, i11_5.2, Int.add_sub_cancel]; exact g_ch_n (by omega))) | (intro par h; have cf := i11_6 par h; refine ⟨st par (σ.1 45) n1, ?_, ?_⟩; (simp only [w45_τ_141, g67_τ_141, g68_τ_141, g69_τ_141, g70_τ_141, g73_τ_141, g74_τ_141, e_x12, i11_3, i11_4.1, i11_4.2.1, i11_4.2.2.1, i11_4.2.2.2, i11_5.1, i11_5.2, Int.add_sub_cancel]; exact g_tr_n h p1 p2 (by omega) (fun d d0 d1 d2 e => cf.2.2 d (by omega) d1 d2 e) (by first | exact Or.inl ⟨by omega, by omega, rfl⟩ | exact Or.inr ⟨by omega, rfl⟩) (by first | exact Or.inl ⟨by omega, by omega, rfl⟩ | exact Or.inr ⟨by omega, rfl⟩)); (simp only [w45_τ_141, g67_τ_141, g68_τ_141, g69_τ_141, g70_τ_141, g73_τ_141, g74_τ_141, e_x12, i11_3, i11_4.1, i11_4.2.1, i11_4.2.2.1, i11_4.2.2.2, i11_5.1, i11_5.2, Int.add_sub_cancel]; exact g_ch_n (by omega))) | fail))⟩
            ·
              exact ⟨hT, (show 0 ≤ u4_11 ∧ u4_11 ≤ 30000 from by (first | omega | (simp only [st_s] <;> omega) | assumption | omega | fail)), (show (τ_11.1 45) ≤ (σ.1 45) + 1 ∧ (σ.1 45) ≤ (τ_11.1 45) from by (first | omega | (simp only [st_s] <;> omega) | assumption | omega | fail)), (show ∀ par : Int → Int, g_tr (σ.1 45) (σ.2.1 67) (σ.2.1 68) (σ.2.1 69) (σ.2.1 73) (σ.2.1 74) par → ∃ par2 : Int → Int, g_tr (τ_11.1 45) (τ_11.2.1 67) (τ_11.2.1 68) (τ_11.2.1 69) (τ_11.2.1 73) (τ_11.2.1 74) par2 ∧ g_ch (σ.1 45) (τ_11.1 45) n1 n2 n3 u4_11 (σ.2.1 69) (σ.2.1 70) (τ_11.2.1 69) (τ_11.2.1 70) par par2 from by (first | (intro par h; have cf := i11_6 par h; refine ⟨par, ?_, ?_⟩; (rw [i11_3, i11_4.1, i11_4.2.1, i11_4.2.2.1, i11_5.1, i11_5.2]; exact h); (rw [i11_3, i11_4.2.2.1, i11_4.2.2.2]; exact g_ch0 (by omega) cf.1 (cf.2.1 (by omega)).1 (by first | (exfalso; have := (cf.2.1 (by omega)).2; omega) | (rw [← i11_4.2.2.1, ← e_x6]; assumption)))) | (intro par h; have cf := i11_6 par h; refine ⟨st par (σ.1 45) n1, ?_, ?_⟩; (simp only [w45_τ_127, g67_τ_127, g68_τ_127, g69_τ_127, g70_τ_127, g73_τ_127, g74_τ_127, e_x12, i11_3, i11_4.1, i11_4.2.1, i11_4.2.2.1, i11_4.2.2.2, i11_5.1, i11_5.2, Int.add_sub_cancel]; exact g_tr_n h p1 p2 (by omega) (fun d d0 d1 d2 e => cf.2.2 d (by omega) d1 d2 e) (by first | exact Or.inl ⟨by omega, by omega, rfl⟩ | exact Or.inr ⟨by omega, rfl⟩) (by first | exact Or.inl ⟨by omega, by omega, rfl⟩ | exact Or.inr ⟨by omega, rfl⟩)); (simp only [w45_τ_127, g67_τ_127, g68_τ_127, g69_τ_127, g70_τ_127, g73_τ_127, g74_τ_127, e_x12, i11_3, i11_4.1, i11_4.2.1, i11_4.2.2.1, i11_4.2.2.2, i11_5.1, i11_5.2, Int.add_sub_cancel]; exact g_ch_n (by omega))) | (intro par h; have cf := i11_6 par h; refine ⟨st par (σ.1 45) n1, ?_, ?_⟩; (simp only [w45_τ_141, g67_τ_141, g68_τ_141, g69_τ_141, g70_τ_141, g73_τ_141, g74_τ_141, w45_τ_127, g67_τ_127, g68_τ_127, g69_τ_127, g70_τ_127, g73_τ_127, g74_τ_127, e_x12, i11_3, i11_4.1, i11_4.2.1, i11_4.2.2.1, i11_4.2.2.2, i11_5.1, i11_5.2, Int.add_sub_cancel]; exact g_tr_n h p1 p2 (by omega) (fun d d0 d1 d2 e => cf.2.2 d (by omega) d1 d2 e) (by first | exact Or.inl ⟨by omega, by omega, rfl⟩ | exact Or.inr ⟨by omega, rfl⟩) (by first | exact Or.inl ⟨by omega, by omega, rfl⟩ | exact Or.inr ⟨by omega, rfl⟩)); (simp only [w45_τ_141, g67_τ_141, g68_τ_141, g69_τ_141, g70_τ_141, g73_τ_141, g74_τ_141, w45_τ_127, g67_τ_127, g68_τ_127, g69_τ_127, g70_τ_127, g73_τ_127, g74_τ_127, e_x12, i11_3, i11_4.1, i11_4.2.1, i11_4.2.2.1, i11_4.2.2.2, i11_5.1, i11_5.2, Int.add_sub_cancel]; exact g_ch_n (by omega))) | (intro par h; have cf := i11_6 par h; refine ⟨st par (σ.1 45) n1, ?_, ?_⟩; (simp only [w45_τ_141, g67_τ_141, g68_τ_141, g69_τ_141, g70_τ_141, g73_τ_141, g74_τ_141, e_x12, i11_3, i11_4.1, i11_4.2.1, i11_4.2.2.1, i11_4.2.2.2, i11_5.1, i11_5.2, Int.add_sub_cancel]; exact g_tr_n h p1 p2 (by omega) (fun d d0 d1 d2 e => cf.2.2 d (by omega) d1 d2 e) (by first | exact Or.inl ⟨by omega, by omega, rfl⟩ | exact Or.inr ⟨by omega, rfl⟩) (by first | exact Or.inl ⟨by omega, by omega, rfl⟩ | exact Or.inr ⟨by omega, rfl⟩)); (simp only [w45_τ_141, g67_τ_141, g68_τ_141, g69_τ_141, g70_τ_141, g73_τ_141, g74_τ_141, e_x12, i11_3, i11_4.1, i11_4.2.1, i11_4.2.2.1, i11_4.2.2.2, i11_5.1, i11_5.2, Int.add_sub_cancel]; exact g_ch_n (by omega))) | fail))⟩
          ·
            intro x8 r_x8 e_x8
            have b_x8 : 0 ≤ x8 ∧ x8 ≤ 30000 := by rw [e_x8]; exact hT.2 68 _
            refine ⟨(⟨by (first | omega | (simp only [st_s] <;> omega) | assumption | omega | fail), by (first | omega | (simp only [st_s] <;> omega) | assumption | omega | fail)⟩ : rg (u5_11 + 1)), ?_⟩
            exact ih_11 _ _ _ (show (30002 - (u5_11 + 1) : Int) < ((m_11 : Nat) : Int) from by ((first | omega | (simp only [st_s] <;> omega) | assumption | omega | fail))) hT (show 0 ≤ x8 ∧ x8 ≤ 30000 from by (first | omega | (simp only [st_s] <;> omega) | assumption | omega | fail)) (show 0 ≤ (u5_11 + 1) ∧ (u5_11 + 1) ≤ 30001 from by (first | omega | (simp only [st_s] <;> omega) | assumption | omega | fail)) (show (τ_11.1 45) = (σ.1 45) from by (first | omega | (simp only [st_s] <;> omega) | assumption | omega | fail)) (show τ_11.2.1 67 = σ.2.1 67 ∧ τ_11.2.1 68 = σ.2.1 68 ∧ τ_11.2.1 69 = σ.2.1 69 ∧ τ_11.2.1 70 = σ.2.1 70 from by (first | exact i11_4 | exact ⟨rfl, rfl, rfl, rfl⟩ | fail)) (show τ_11.2.1 73 = σ.2.1 73 ∧ τ_11.2.1 74 = σ.2.1 74 from by (first | exact i11_5 | exact ⟨rfl, rfl⟩ | fail)) (show ∀ par : Int → Int, g_tr (σ.1 45) (σ.2.1 67) (σ.2.1 68) (σ.2.1 69) (σ.2.1 73) (σ.2.1 74) par → g_cf (σ.1 45) n1 n2 x8 (u5_11 + 1) (σ.2.1 69) par from by (first | (intro par h; rw [e_x2]; exact g_cf0 h (by omega) (by omega)) | (intro par h; have w := g_cf_s h (i11_6 par h) (by omega) (by rw [← i11_4.2.2.1, ← e_x6]; assumption); rw [← i11_4.2.1, ← e_x8] at w; exact w) | fail))
  refine ⟨(show 0 ≤ n1 ∧ n1 < 30001 from by (first | omega | (simp only [st_s] <;> omega) | assumption | omega | fail)), ?_⟩
  intro x2 r_x2 e_x2
  have b_x2 : 0 ≤ x2 ∧ x2 ≤ 30000 := by rw [e_x2]; exact hT.2 67 _
  exact l_11 ((30002 - 0 : Int).toNat + 1) _ _ _ (show (30002 - 0 : Int) < (((30002 - 0 : Int).toNat + 1 : Nat) : Int) from by ((first | omega | (simp only [st_s] <;> omega) | assumption | omega | fail))) hT (show 0 ≤ x2 ∧ x2 ≤ 30000 from by (first | omega | (simp only [st_s] <;> omega) | assumption | omega | fail)) (show 0 ≤ 0 ∧ 0 ≤ 30001 from by (first | omega | (simp only [st_s] <;> omega) | assumption | omega | fail)) (show (σ.1 45) = (σ.1 45) from by (first | omega | (simp only [st_s] <;> omega) | assumption | omega | fail)) (show σ.2.1 67 = σ.2.1 67 ∧ σ.2.1 68 = σ.2.1 68 ∧ σ.2.1 69 = σ.2.1 69 ∧ σ.2.1 70 = σ.2.1 70 from by (first | exact i11_4 | exact ⟨rfl, rfl, rfl, rfl⟩ | fail)) (show σ.2.1 73 = σ.2.1 73 ∧ σ.2.1 74 = σ.2.1 74 from by (first | exact i11_5 | exact ⟨rfl, rfl⟩ | fail)) (show ∀ par : Int → Int, g_tr (σ.1 45) (σ.2.1 67) (σ.2.1 68) (σ.2.1 69) (σ.2.1 73) (σ.2.1 74) par → g_cf (σ.1 45) n1 n2 x2 0 (σ.2.1 69) par from by (first | (intro par h; rw [e_x2]; exact g_cf0 h (by omega) (by omega)) | (intro par h; have w := g_cf_s h (i11_6 par h) (by omega) (by rw [← i11_4.2.2.1, ← e_x6]; assumption); rw [← i11_4.2.1, ← e_x8] at w; exact w) | fail))
