-- pure: a proof is gone through once more
/-- rows stand one behind the other -/
def n_pw (h top : Int) (at_ sz : Int → Int) : Prop := top = sm sz h ∧ ∀ j : Int, 0 ≤ j → j < h → at_ j = sm sz j ∧ 1 ≤ sz j
def n_F2 (σ : S0) : Int → Int := fun j => σ.2.1 43 (σ.2.1 40 j)
def n_G2 (σ : S0) : Int → Int := fun j => σ.2.1 47 (σ.2.1 44 j)
/-- a row is put at a place of the pile -/
def n_ap (σ τ : S0) (b n x : Int) : Prop := τ.1 30 = b + 1 ∧ τ.1 31 = sm (σ.2.1 41) b + n ∧ τ.2.1 40 = st (σ.2.1 40) b (sm (σ.2.1 41) b) ∧ τ.2.1 41 = st (σ.2.1 41) b n ∧ (∀ j : Int, j < sm (σ.2.1 41) b → τ.2.1 43 j = σ.2.1 43 j) ∧ (1 ≤ n → τ.2.1 43 (sm (σ.2.1 41) b) = x)
def n_pu (σ τ : S0) (n x : Int) : Prop := τ.1 30 = σ.1 30 + 1 ∧ τ.1 31 = σ.1 31 + n ∧ τ.2.1 40 = st (σ.2.1 40) (σ.1 30) (σ.1 31) ∧ τ.2.1 41 = st (σ.2.1 41) (σ.1 30) n ∧ (∀ j : Int, j < σ.1 31 → τ.2.1 43 j = σ.2.1 43 j) ∧ (1 ≤ n → τ.2.1 43 (σ.1 31) = x)
theorem n_pu_ap {σ τ : S0} {n x : Int} (h : n_pu σ τ n x) (w : n_pw (σ.1 30) (σ.1 31) (σ.2.1 40) (σ.2.1 41)) : n_ap σ τ (σ.1 30) n x := by
  unfold n_pu at h
  rw [w.1] at h
  exact h
def n_sv (σ τ : S0) (n x : Int) : Prop := τ.1 32 = σ.1 32 + 1 ∧ τ.1 33 = σ.1 33 + n ∧ τ.2.1 44 = st (σ.2.1 44) (σ.1 32) (σ.1 33) ∧ τ.2.1 45 = st (σ.2.1 45) (σ.1 32) n ∧ (∀ j : Int, j < σ.1 33 → τ.2.1 47 j = σ.2.1 47 j) ∧ (1 ≤ n → τ.2.1 47 (σ.1 33) = x)
theorem sm_st {f : Int → Int} {b n j : Int} (h : j ≤ b) : sm (st f b n) j = sm f j := sm_x (fun e a c => st_n _ _ (by omega))
theorem sm_lt1 {f : Int → Int} {h i j : Int} (p : ∀ k : Int, 0 ≤ k → k < h → 1 ≤ f k) (i0 : 0 ≤ i) (ij : i < j) (jh : j ≤ h) : sm f i + 1 ≤ sm f j := by
  have a := sm_m (g := f) (n := i + 1) (m := j) (fun e e0 e1 => by have := p e e0 (by omega); omega) (by omega) (by omega)
  rw [sm_s _ i0] at a
  have := p i i0 (by omega)
  omega
/-- one array of rows, a row put at place b -/
theorem n_row {h top b n x h' top' : Int} {at_ sz sy at' sz' sy' : Int → Int} (w : n_pw h top at_ sz) (b0 : 0 ≤ b) (b1 : b ≤ h) (n1 : 1 ≤ n) (e1 : h' = b + 1) (e2 : top' = sm sz b + n) (e3 : at' = st at_ b (sm sz b)) (e4 : sz' = st sz b n) (e5 : ∀ j : Int, j < sm sz b → sy' j = sy j) (e6 : 1 ≤ n → sy' (sm sz b) = x) : n_pw h' top' at' sz' ∧ sz' b = n ∧ sy' (at' b) = x ∧ ∀ j : Int, 0 ≤ j → j < b → sz' j = sz j ∧ sy' (at' j) = sy (at_ j) := by
  obtain ⟨w1, w2⟩ := w
  rw [e1, e2, e3, e4]
  refine ⟨⟨?_, fun j j0 j1 => ?_⟩, st_s _ _ _, by rw [st_s]; exact e6 n1, fun j j0 j1 => ?_⟩
  · rw [sm_s _ b0, sm_st (Int.le_refl _), st_s]
  · rw [sm_st (by omega)]
    by_cases z : j = b
    · rw [z, st_s, st_s]; exact ⟨rfl, n1⟩
    · rw [st_n _ _ z, st_n _ _ z]; exact w2 j j0 (by omega)
  · rw [st_n _ _ (by omega), st_n _ _ (by omega)]
    have a := (w2 j j0 (by omega)).1
    have c := sm_lt1 (f := sz) (h := h) (fun k k0 k1 => (w2 k k0 k1).2) j0 j1 b1
    exact ⟨rfl, e5 _ (by omega)⟩
/-- all variables of an assertion are those of its frame -/
theorem n_sz_u {w b sy : Int} {iv ty bg kd ta ts tx fl ha hs hy N bs bs' : Int → Int} (hA : n_A w sy iv ty bg kd ta ts tx fl) (hB : n_B w iv kd ta ts tx fl ha hs hy) (h : n_bs w b kd ta tx ha hs hy N bs) (h' : n_bs w b kd ta tx ha hs hy N bs') : n_sz w ta ts tx iv bs = n_sz w ta ts tx iv bs' := by
  unfold n_sz
  refine sm_x (fun q q0 q1 => ?_)
  show (if iv (tx (ta w + q)) = 0 then (1 : Int) else bs (tx (ta w + q))) = (if iv (tx (ta w + q)) = 0 then (1 : Int) else bs' (tx (ta w + q)))
  by_cases z : iv (tx (ta w + q)) = 0
  · rw [if_pos z, if_pos z]
  · rw [if_neg z, if_neg z]
    have p := (hA.2.2 (ta w + q) (by omega) (by omega)).2
    rcases p with ⟨y, _⟩ | ⟨_, _, _, y1, y2⟩
    · exact absurd y z
    · obtain ⟨k, k0, k1, k2⟩ := hB.2.1 (ta w + q) (by omega) (by omega) z
      have a := h k k0 k1 (by rw [k2]; exact y1)
      have c := h' k k0 k1 (by rw [k2]; exact y1)
      rw [k2, y2] at a c
      rw [a, c]
theorem n_sz_1 {w sy : Int} {iv ty bg kd ta ts tx fl bs : Int → Int} (hA : n_A w sy iv ty bg kd ta ts tx fl) (b0 : ∀ v, 0 ≤ bs v) : 1 ≤ n_sz w ta ts tx iv bs := by
  unfold n_sz
  have g : ∀ e : Int, 0 ≤ e → e < ts w → 0 ≤ (fun j => if iv (tx (ta w + j)) = 0 then (1 : Int) else bs (tx (ta w + j))) e := fun e _ _ => by
    show 0 ≤ (if iv (tx (ta w + e)) = 0 then (1 : Int) else bs (tx (ta w + e)))
    by_cases z : iv (tx (ta w + e)) = 0
    · rw [if_pos z]; omega
    · rw [if_neg z]; exact b0 _
  have a := sm_m (n := 1) (m := ts w) g (by omega) hA.1.1
  have c : sm (fun j => if iv (tx (ta w + j)) = 0 then (1 : Int) else bs (tx (ta w + j))) 1 = 1 := by
    rw [show (1 : Int) = 0 + 1 from rfl, sm_s _ (Int.le_refl _), sm_0]
    show 0 + (if iv (tx (ta w + 0)) = 0 then (1 : Int) else bs (tx (ta w + 0))) = 0 + 1
    rw [show ta w + 0 = ta w by omega, if_pos hA.1.2.2.1]
  omega
/-- floating hypotheses of an assertion fit the rows, and what their variables become is noted -/
def n_fl2 (w b u : Int) (kd ta tx ha hy N F bs : Int → Int) : Prop := ∀ k : Int, 0 ≤ k → k < u → kd (hy (ha w + k)) = 0 → (1 ≤ N (b + k) ∧ F (b + k) = tx (ta (hy (ha w + k)))) ∧ bs (tx (ta (hy (ha w + k)) + 1)) = N (b + k) - 1
theorem n_fl2_n {w b u : Int} {kd ta tx ha hy N F bs : Int → Int} (h : n_fl2 w b u kd ta tx ha hy N F bs) (z : ¬ kd (hy (ha w + u)) = 0) : n_fl2 w b (u + 1) kd ta tx ha hy N F bs := fun k k0 k1 q => by
  rcases (by omega : k < u ∨ k = u) with y | y
  · exact h k k0 y q
  · rw [y] at q; exact absurd q z
theorem n_fl2_a {w b u v x : Int} {iv kd ta ts tx fl ha hs hy N F bs : Int → Int} (h : n_fl2 w b u kd ta tx ha hy N F bs) (hB : n_B w iv kd ta ts tx fl ha hs hy) (u1 : u < hs w) (z : kd (hy (ha w + u)) = 0) (f : 1 ≤ N (b + u) ∧ F (b + u) = tx (ta (hy (ha w + u)))) (ev : v = tx (ta (hy (ha w + u)) + 1)) (ex : x = N (b + u) - 1) : n_fl2 w b (u + 1) kd ta tx ha hy N F (st bs v x) := fun k k0 k1 q => by
  rcases (by omega : k < u ∨ k = u) with y | y
  · have a := h k k0 y q
    have c := hB.2.2.2 u k k0 y u1 q z
    rw [st_n _ _ (show tx (ta (hy (ha w + k)) + 1) ≠ v from by rw [ev]; exact c)]
    exact a
  · rw [y, ← ev, st_s]; exact ⟨f, ex⟩
theorem n_fl2_b {w b : Int} {kd ta tx ha hs hy N F bs : Int → Int} (h : n_fl2 w b (hs w) kd ta tx ha hy N F bs) : n_bs w b kd ta tx ha hs hy N bs := fun k k0 k1 z => (h k k0 k1 z).2
set_option maxHeartbeats 4000000 in
theorem K3_X13_replace {n1 : Int} {σ : S0} (hT : m_T σ) (p1 : 0 ≤ n1) (p2 : n1 < 1500) : W_X13_replace n1 σ (fun (τ : S0) => (m_T τ) ∧ (0 ≤ (τ.1 34)) ∧ ((((τ.1 34) = n_sz n1 (σ.2.1 14) (σ.2.1 15) (σ.2.1 16) (σ.2.1 8) (σ.2.1 49) ∧ (τ.1 34) ≤ 1001) ∨ ((τ.1 34) = 1001 ∧ 1001 ≤ n_sz n1 (σ.2.1 14) (σ.2.1 15) (σ.2.1 16) (σ.2.1 8) (σ.2.1 49)))) ∧ (1 ≤ σ.2.1 15 n1 → σ.2.1 8 (σ.2.1 16 (σ.2.1 14 n1)) = 0 → τ.2.1 50 0 = σ.2.1 16 (σ.2.1 14 n1) ∧ 1 ≤ (τ.1 34))) := by
  have A8 : ∀ j, 0 ≤ σ.2.1 8 j ∧ σ.2.1 8 j ≤ 1 := fun j => hT.2 8 j
  have A14 : ∀ j, 0 ≤ σ.2.1 14 j ∧ σ.2.1 14 j ≤ 30000 := fun j => hT.2 14 j
  have A15 : ∀ j, 0 ≤ σ.2.1 15 j ∧ σ.2.1 15 j ≤ 300 := fun j => hT.2 15 j
  have A16 : ∀ j, 0 ≤ σ.2.1 16 j ∧ σ.2.1 16 j ≤ 999 := fun j => hT.2 16 j
  have A48 : ∀ j, 0 ≤ σ.2.1 48 j ∧ σ.2.1 48 j ≤ 40001 := fun j => hT.2 48 j
  have A49 : ∀ j, 0 ≤ σ.2.1 49 j ∧ σ.2.1 49 j ≤ 1000 := fun j => hT.2 49 j
  have A50 : ∀ j, 0 ≤ σ.2.1 50 j ∧ σ.2.1 50 j ≤ 999 := fun j => hT.2 50 j
  have v34 : 0 ≤ σ.1 34 ∧ σ.1 34 ≤ 1001 := hT.1 34
  have G8 : σ.2.1 8 = σ.2.1 8 := rfl
  have G14 : σ.2.1 14 = σ.2.1 14 := rfl
  have G15 : σ.2.1 15 = σ.2.1 15 := rfl
  have G16 : σ.2.1 16 = σ.2.1 16 := rfl
  have G48 : σ.2.1 48 = σ.2.1 48 := rfl
  have G49 : σ.2.1 49 = σ.2.1 49 := rfl
  intro P12 P60 P112 h12 h60 h112
  have l_12 : ∀ (m_12 : Nat) (u2_12 : Int) (τ_12 : S0), 30301 - u2_12 < (m_12 : Int) → (m_T τ_12) → (τ_12.2.1 8 = σ.2.1 8) → (τ_12.2.1 14 = σ.2.1 14) → (τ_12.2.1 15 = σ.2.1 15) → (τ_12.2.1 16 = σ.2.1 16) → (τ_12.2.1 48 = σ.2.1 48) → (τ_12.2.1 49 = σ.2.1 49) → (0 ≤ u2_12) → (u2_12 ≤ 30300) → (σ.2.1 14 n1 ≤ u2_12) → (((τ_12.1 34) = sm (fun j => if σ.2.1 8 (σ.2.1 16 (σ.2.1 14 n1 + j)) = 0 then 1 else σ.2.1 49 (σ.2.1 16 (σ.2.1 14 n1 + j))) (u2_12 - σ.2.1 14 n1) + 0 ∧ (τ_12.1 34) ≤ 1001) ∨ ((τ_12.1 34) = 1001 ∧ 1001 ≤ sm (fun j => if σ.2.1 8 (σ.2.1 16 (σ.2.1 14 n1 + j)) = 0 then 1 else σ.2.1 49 (σ.2.1 16 (σ.2.1 14 n1 + j))) (u2_12 - σ.2.1 14 n1) + 0)) → (σ.2.1 14 n1 < u2_12 → σ.2.1 8 (σ.2.1 16 (σ.2.1 14 n1)) = 0 → τ_12.2.1 50 0 = σ.2.1 16 (σ.2.1 14 n1) ∧ 1 ≤ (τ_12.1 34)) → (u2_12 = σ.2.1 14 n1 ∨ u2_12 ≤ σ.2.1 14 n1 + σ.2.1 15 n1) → P12 n1 u2_12 τ_12 := by
    intro m_12
    induction m_12 with
    | zero =>
      intro u2_12 τ_12 hm hT G8 G14 G15 G16 G48 G49 i12_1 i12_2 i12_3 i12_4 i12_5 i12_6
      have A8 : ∀ j, 0 ≤ τ_12.2.1 8 j ∧ τ_12.2.1 8 j ≤ 1 := fun j => hT.2 8 j
      have A14 : ∀ j, 0 ≤ τ_12.2.1 14 j ∧ τ_12.2.1 14 j ≤ 30000 := fun j => hT.2 14 j
      have A15 : ∀ j, 0 ≤ τ_12.2.1 15 j ∧ τ_12.2.1 15 j ≤ 300 := fun j => hT.2 15 j
      have A16 : ∀ j, 0 ≤ τ_12.2.1 16 j ∧ τ_12.2.1 16 j ≤ 999 := fun j => hT.2 16 j
      have A48 : ∀ j, 0 ≤ τ_12.2.1 48 j ∧ τ_12.2.1 48 j ≤ 40001 := fun j => hT.2 48 j
      have A49 : ∀ j, 0 ≤ τ_12.2.1 49 j ∧ τ_12.2.1 49 j ≤ 1000 := fun j => hT.2 49 j
      have A50 : ∀ j, 0 ≤ τ_12.2.1 50 j ∧ τ_12.2.1 50 j ≤ 999 := fun j => hT.2 50 j
      have v34 : 0 ≤ τ_12.1 34 ∧ τ_12.1 34 ≤ 1001 := hT.1 34
      exfalso; (first | omega | (simp only [st_s] <;> omega) | assumption | omega | fail)
    | succ m_12 ih_12 =>
      intro u2_12 τ_12 hm_12 hT G8 G14 G15 G16 G48 G49 i12_1 i12_2 i12_3 i12_4 i12_5 i12_6
      have A8 : ∀ j, 0 ≤ τ_12.2.1 8 j ∧ τ_12.2.1 8 j ≤ 1 := fun j => hT.2 8 j
      have A14 : ∀ j, 0 ≤ τ_12.2.1 14 j ∧ τ_12.2.1 14 j ≤ 30000 := fun j => hT.2 14 j
      have A15 : ∀ j, 0 ≤ τ_12.2.1 15 j ∧ τ_12.2.1 15 j ≤ 300 := fun j => hT.2 15 j
      have A16 : ∀ j, 0 ≤ τ_12.2.1 16 j ∧ τ_12.2.1 16 j ≤ 999 := fun j => hT.2 16 j
      have A48 : ∀ j, 0 ≤ τ_12.2.1 48 j ∧ τ_12.2.1 48 j ≤ 40001 := fun j => hT.2 48 j
      have A49 : ∀ j, 0 ≤ τ_12.2.1 49 j ∧ τ_12.2.1 49 j ≤ 1000 := fun j => hT.2 49 j
      have A50 : ∀ j, 0 ≤ τ_12.2.1 50 j ∧ τ_12.2.1 50 j ≤ 999 := fun j => hT.2 50 j
      have v34 : 0 ≤ τ_12.1 34 ∧ τ_12.1 34 ≤ 1001 := hT.1 34
      have l_60 : ∀ (m_60 : Nat) (u2_60 : Int) (u3_60 : Int) (u4_60 : Int) (u5_60 : Int) (τ_60 : S0), u4_60 - u5_60 + 1 < (m_60 : Int) → (m_T τ_60) → (τ_60.2.1 8 = σ.2.1 8) → (τ_60.2.1 14 = σ.2.1 14) → (τ_60.2.1 15 = σ.2.1 15) → (τ_60.2.1 16 = σ.2.1 16) → (τ_60.2.1 48 = σ.2.1 48) → (τ_60.2.1 49 = σ.2.1 49) → (0 ≤ u2_60) → (u2_60 < 30300) → (0 ≤ u3_60) → (u3_60 < 1000) → (0 ≤ u4_60) → (u4_60 ≤ 1000) → (0 ≤ u5_60) → (u5_60 ≤ u4_60) → (u2_60 + (m_12 : Int) ≥ 30301) → (σ.2.1 14 n1 ≤ u2_60) → (u3_60 = σ.2.1 16 u2_60) → (u4_60 = (if σ.2.1 8 u3_60 = 0 then 1 else σ.2.1 49 u3_60)) → (((τ_60.1 34) = sm (fun j => if σ.2.1 8 (σ.2.1 16 (σ.2.1 14 n1 + j)) = 0 then 1 else σ.2.1 49 (σ.2.1 16 (σ.2.1 14 n1 + j))) (u2_60 - σ.2.1 14 n1) + u5_60 ∧ (τ_60.1 34) ≤ 1001) ∨ ((τ_60.1 34) = 1001 ∧ 1001 ≤ sm (fun j => if σ.2.1 8 (σ.2.1 16 (σ.2.1 14 n1 + j)) = 0 then 1 else σ.2.1 49 (σ.2.1 16 (σ.2.1 14 n1 + j))) (u2_60 - σ.2.1 14 n1) + u5_60)) → (σ.2.1 14 n1 < u2_60 ∨ 1 ≤ u5_60 → σ.2.1 8 (σ.2.1 16 (σ.2.1 14 n1)) = 0 → τ_60.2.1 50 0 = σ.2.1 16 (σ.2.1 14 n1) ∧ 1 ≤ (τ_60.1 34)) → (u2_60 < σ.2.1 14 n1 + σ.2.1 15 n1) → P60 n1 u2_60 u3_60 u4_60 u5_60 τ_60 := by
        intro m_60
        induction m_60 with
        | zero =>
          intro u2_60 u3_60 u4_60 u5_60 τ_60 hm hT G8 G14 G15 G16 G48 G49 i60_1 i60_2 i60_3 i60_4 i60_5 i60_6 i60_7 i60_8 i60_9 i60_10 i60_11 i60_12 i60_13 i60_14 i60_15
          have A8 : ∀ j, 0 ≤ τ_60.2.1 8 j ∧ τ_60.2.1 8 j ≤ 1 := fun j => hT.2 8 j
          have A14 : ∀ j, 0 ≤ τ_60.2.1 14 j ∧ τ_60.2.1 14 j ≤ 30000 := fun j => hT.2 14 j
          have A15 : ∀ j, 0 ≤ τ_60.2.1 15 j ∧ τ_60.2.1 15 j ≤ 300 := fun j => hT.2 15 j
          have A16 : ∀ j, 0 ≤ τ_60.2.1 16 j ∧ τ_60.2.1 16 j ≤ 999 := fun j => hT.2 16 j
          have A48 : ∀ j, 0 ≤ τ_60.2.1 48 j ∧ τ_60.2.1 48 j ≤ 40001 := fun j => hT.2 48 j
          have A49 : ∀ j, 0 ≤ τ_60.2.1 49 j ∧ τ_60.2.1 49 j ≤ 1000 := fun j => hT.2 49 j
          have A50 : ∀ j, 0 ≤ τ_60.2.1 50 j ∧ τ_60.2.1 50 j ≤ 999 := fun j => hT.2 50 j
          have v34 : 0 ≤ τ_60.1 34 ∧ τ_60.1 34 ≤ 1001 := hT.1 34
          exfalso; (first | omega | (simp only [st_s] <;> omega) | assumption | omega | fail)
        | succ m_60 ih_60 =>
          intro u2_60 u3_60 u4_60 u5_60 τ_60 hm_60 hT G8 G14 G15 G16 G48 G49 i60_1 i60_2 i60_3 i60_4 i60_5 i60_6 i60_7 i60_8 i60_9 i60_10 i60_11 i60_12 i60_13 i60_14 i60_15
          have A8 : ∀ j, 0 ≤ τ_60.2.1 8 j ∧ τ_60.2.1 8 j ≤ 1 := fun j => hT.2 8 j
          have A14 : ∀ j, 0 ≤ τ_60.2.1 14 j ∧ τ_60.2.1 14 j ≤ 30000 := fun j => hT.2 14 j
          have A15 : ∀ j, 0 ≤ τ_60.2.1 15 j ∧ τ_60.2.1 15 j ≤ 300 := fun j => hT.2 15 j
          have A16 : ∀ j, 0 ≤ τ_60.2.1 16 j ∧ τ_60.2.1 16 j ≤ 999 := fun j => hT.2 16 j
          have A48 : ∀ j, 0 ≤ τ_60.2.1 48 j ∧ τ_60.2.1 48 j ≤ 40001 := fun j => hT.2 48 j
          have A49 : ∀ j, 0 ≤ τ_60.2.1 49 j ∧ τ_60.2.1 49 j ≤ 1000 := fun j => hT.2 49 j
          have A50 : ∀ j, 0 ≤ τ_60.2.1 50 j ∧ τ_60.2.1 50 j ≤ 999 := fun j => hT.2 50 j
          have v34 : 0 ≤ τ_60.1 34 ∧ τ_60.1 34 ≤ 1001 := hT.1 34
          have sS := sm_s (fun j => if σ.2.1 8 (σ.2.1 16 (σ.2.1 14 n1 + j)) = 0 then 1 else σ.2.1 49 (σ.2.1 16 (σ.2.1 14 n1 + j))) (n := u2_60 - σ.2.1 14 n1) (by omega)
          rw [show u2_60 - σ.2.1 14 n1 + 1 = u2_60 + 1 - σ.2.1 14 n1 from by omega] at sS
          have sT : sm (fun j => if σ.2.1 8 (σ.2.1 16 (σ.2.1 14 n1 + j)) = 0 then 1 else σ.2.1 49 (σ.2.1 16 (σ.2.1 14 n1 + j))) (u2_60 + 1 - σ.2.1 14 n1) = sm (fun j => if σ.2.1 8 (σ.2.1 16 (σ.2.1 14 n1 + j)) = 0 then 1 else σ.2.1 49 (σ.2.1 16 (σ.2.1 14 n1 + j))) (u2_60 - σ.2.1 14 n1) + u4_60 := by (rw [sS]; show _ + (if σ.2.1 8 (σ.2.1 16 (σ.2.1 14 n1 + (u2_60 - σ.2.1 14 n1))) = 0 then (1 : Int) else σ.2.1 49 (σ.2.1 16 (σ.2.1 14 n1 + (u2_60 - σ.2.1 14 n1)))) = _; rw [show σ.2.1 14 n1 + (u2_60 - σ.2.1 14 n1) = u2_60 from by omega, ← i60_11, ← i60_12])
          refine h60 n1 u2_60 u3_60 u4_60 u5_60 τ_60 ?_
          refine ⟨fun c14 => ?_, fun c14 => ?_⟩
          ·
            refine ⟨(⟨by (first | omega | (simp only [st_s] <;> omega) | assumption | omega | fail), by (first | omega | (simp only [st_s] <;> omega) | assumption | omega | fail)⟩ : rg (u2_60 + 1)), ?_⟩
            exact ih_12 _ _ (show (30301 - (u2_60 + 1) : Int) < ((m_12 : Nat) : Int) from by ((first | omega | (simp only [st_s] <;> omega) | assumption | omega | fail))) hT G8 G14 G15 G16 G48 G49 (show 0 ≤ (u2_60 + 1) from by (first | omega | (simp only [st_s] <;> omega) | assumption | omega | fail)) (show (u2_60 + 1) ≤ 30300 from by (first | omega | (simp only [st_s] <;> omega) | assumption | omega | fail)) (show σ.2.1 14 n1 ≤ (u2_60 + 1) from by (first | omega | (simp only [st_s] <;> omega) | assumption | omega | fail)) (show (((τ_60.1 34) = sm (fun j => if σ.2.1 8 (σ.2.1 16 (σ.2.1 14 n1 + j)) = 0 then 1 else σ.2.1 49 (σ.2.1 16 (σ.2.1 14 n1 + j))) ((u2_60 + 1) - σ.2.1 14 n1) + 0 ∧ (τ_60.1 34) ≤ 1001) ∨ ((τ_60.1 34) = 1001 ∧ 1001 ≤ sm (fun j => if σ.2.1 8 (σ.2.1 16 (σ.2.1 14 n1 + j)) = 0 then 1 else σ.2.1 49 (σ.2.1 16 (σ.2.1 14 n1 + j))) ((u2_60 + 1) - σ.2.1 14 n1) + 0)) from by (first | (rw [show x2 - σ.2.1 14 n1 = 0 from by omega, sm_0]; exact Or.inl ⟨rfl, by show (0 : Int) ≤ 1001; decide⟩) | (rw [sT]; omega) | fail)) (show σ.2.1 14 n1 < (u2_60 + 1) → σ.2.1 8 (σ.2.1 16 (σ.2.1 14 n1)) = 0 → τ_60.2.1 50 0 = σ.2.1 16 (σ.2.1 14 n1) ∧ 1 ≤ (τ_60.1 34) from by (first | (intro z; exfalso; omega) | (intro _ z; exact i60_14 (by by_cases y : σ.2.1 14 n1 < u2_60; exact Or.inl y; (refine Or.inr ?_; have w : u3_60 = σ.2.1 16 (σ.2.1 14 n1) := (by rw [i60_11, show u2_60 = σ.2.1 14 n1 from by omega]); have v := i60_12; rw [w, if_pos z] at v; have s0 : sm (fun j => if σ.2.1 8 (σ.2.1 16 (σ.2.1 14 n1 + j)) = 0 then 1 else σ.2.1 49 (σ.2.1 16 (σ.2.1 14 n1 + j))) (u2_60 - σ.2.1 14 n1) = 0 := (by rw [show u2_60 - σ.2.1 14 n1 = 0 from by omega, sm_0]); omega)) z) | fail)) (show (u2_60 + 1) = σ.2.1 14 n1 ∨ (u2_60 + 1) ≤ σ.2.1 14 n1 + σ.2.1 15 n1 from by (first | omega | (simp only [st_s] <;> omega) | assumption | omega | fail))
          ·
            refine ⟨fun c16 => ?_, fun c16 => ?_⟩
            ·
              refine ⟨(⟨by (first | omega | (simp only [st_s] <;> omega) | assumption | omega | fail), by (first | omega | (simp only [st_s] <;> omega) | assumption | omega | fail)⟩ : rg (u2_60 + 1)), ?_⟩
              exact ih_12 _ _ (show (30301 - (u2_60 + 1) : Int) < ((m_12 : Nat) : Int) from by ((first | omega | (simp only [st_s] <;> omega) | assumption | omega | fail))) hT G8 G14 G15 G16 G48 G49 (show 0 ≤ (u2_60 + 1) from by (first | omega | (simp only [st_s] <;> omega) | assumption | omega | fail)) (show (u2_60 + 1) ≤ 30300 from by (first | omega | (simp only [st_s] <;> omega) | assumption | omega | fail)) (show σ.2.1 14 n1 ≤ (u2_60 + 1) from by (first | omega | (simp only [st_s] <;> omega) | assumption | omega | fail)) (show (((τ_60.1 34) = sm (fun j => if σ.2.1 8 (σ.2.1 16 (σ.2.1 14 n1 + j)) = 0 then 1 else σ.2.1 49 (σ.2.1 16 (σ.2.1 14 n1 + j))) ((u2_60 + 1) - σ.2.1 14 n1) + 0 ∧ (τ_60.1 34) ≤ 1001) ∨ ((τ_60.1 34) = 1001 ∧ 1001 ≤ sm (fun j => if σ.2.1 8 (σ.2.1 16 (σ.2.1 14 n1 + j)) = 0 then 1 else σ.2.1 49 (σ.2.1 16 (σ.2.1 14 n1 + j))) ((u2_60 + 1) - σ.2.1 14 n1) + 0)) from by (first | (rw [show x2 - σ.2.1 14 n1 = 0 from by omega, sm_0]; exact Or.inl ⟨rfl, by show (0 : Int) ≤ 1001; decide⟩) | (rw [sT]; omega) | fail)) (show σ.2.1 14 n1 < (u2_60 + 1) → σ.2.1 8 (σ.2.1 16 (σ.2.1 14 n1)) = 0 → τ_60.2.1 50 0 = σ.2.1 16 (σ.2.1 14 n1) ∧ 1 ≤ (τ_60.1 34) from by (first | (intro z; exfalso; omega) | (intro _ z; exact i60_14 (by by_cases y : σ.2.1 14 n1 < u2_60; exact Or.inl y; (refine Or.inr ?_; have w : u3_60 = σ.2.1 16 (σ.2.1 14 n1) := (by rw [i60_11, show u2_60 = σ.2.1 14 n1 from by omega]); have v := i60_12; rw [w, if_pos z] at v; have s0 : sm (fun j => if σ.2.1 8 (σ.2.1 16 (σ.2.1 14 n1 + j)) = 0 then 1 else σ.2.1 49 (σ.2.1 16 (σ.2.1 14 n1 + j))) (u2_60 - σ.2.1 14 n1) = 0 := (by rw [show u2_60 - σ.2.1 14 n1 = 0 from by omega, sm_0]); omega)) z) | fail)) (show (u2_60 + 1) = σ.2.1 14 n1 ∨ (u2_60 + 1) ≤ σ.2.1 14 n1 + σ.2.1 15 n1 from by (first | omega | (simp only [st_s] <;> omega) | assumption | omega | fail))
            ·
              refine ⟨(show 0 ≤ u3_60 ∧ u3_60 < 1001 from by (first | omega | (simp only [st_s] <;> omega) | assumption | omega | fail)), ?_⟩
              intro x19 r_x19 e_x19
              have b_x19 : 0 ≤ x19 ∧ x19 ≤ 1 := by rw [e_x19]; exact hT.2 8 _
              refine ⟨fun c20 => ?_, fun c20 => ?_⟩
              ·
                refine h112 _ _ _ _ _ _ _ _ ?_
                refine ⟨(show 0 ≤ (τ_60.1 34) ∧ (τ_60.1 34) < 1002 from by (first | omega | (simp only [st_s] <;> omega) | assumption | omega | fail)), ?_⟩
                replace hT := mT_a (k := 50) (j := (τ_60.1 34)) hT (show (0 : Int) ≤ u3_60 ∧ u3_60 ≤ 999 from by (first | omega | (simp only [st_s] <;> omega) | assumption | omega | fail))
                refine ⟨(⟨by (first | omega | (simp only [st_s] <;> omega) | assumption | omega | fail), by (first | omega | (simp only [st_s] <;> omega) | assumption | omega | fail)⟩ : rg (τ_60.1 34 + 1)), ?_⟩
                replace hT := mT_v (i := 34) hT (show 0 ≤ (τ_60.1 34 + 1) ∧ (τ_60.1 34 + 1) ≤ 1001 from by (first | omega | (simp only [st_s] <;> omega) | assumption | omega | fail))
                refine ⟨(⟨by (first | omega | (simp only [st_s] <;> omega) | assumption | omega | fail), by (first | omega | (simp only [st_s] <;> omega) | assumption | omega | fail)⟩ : rg (u5_60 + 1)), ?_⟩
                exact ih_60 _ _ _ _ _ (show (u4_60 - (u5_60 + 1) + 1 : Int) < ((m_60 : Nat) : Int) from by ((first | omega | (simp only [st_s] <;> omega) | assumption | omega | fail))) hT G8 G14 G15 G16 G48 G49 (show 0 ≤ u2_60 from by (first | omega | (simp only [st_s] <;> omega) | assumption | omega | fail)) (show u2_60 < 30300 from by (first | omega | (simp only [st_s] <;> omega) | assumption | omega | fail)) (show 0 ≤ u3_60 from by (first | omega | (simp only [st_s] <;> omega) | assumption | omega | fail)) (show u3_60 < 1000 from by (first | omega | (simp only [st_s] <;> omega) | assumption | omega | fail)) (show 0 ≤ u4_60 from by (first | omega | (simp only [st_s] <;> omega) | assumption | omega | fail)) (show u4_60 ≤ 1000 from by (first | omega | (simp only [st_s] <;> omega) | assumption | omega | fail)) (show 0 ≤ (u5_60 + 1) from by (first | omega | (simp only [st_s] <;> omega) | assumption | omega | fail)) (show (u5_60 + 1) ≤ u4_60 from by (first | omega | (simp only [st_s] <;> omega) | assumption | omega | fail)) (show u2_60 + (m_12 : Int) ≥ 30301 from by (first | omega | (simp only [st_s] <;> omega) | assumption | omega | fail)) (show σ.2.1 14 n1 ≤ u2_60 from by (first | omega | (simp only [st_s] <;> omega) | assumption | omega | fail)) (show u3_60 = σ.2.1 16 u2_60 from by (first | omega | (simp only [st_s] <;> omega) | assumption | omega | fail)) (show u4_60 = (if σ.2.1 8 u3_60 = 0 then 1 else σ.2.1 49 u3_60) from by (first | (rw [if_pos (by rw [← e_x11]; assumption)]) | (rw [if_neg (by rw [← e_x11]; assumption)]; exact e_x13) | exact i60_12 | fail)) (show ((((τ_60.1 34 + 1)) = sm (fun j => if σ.2.1 8 (σ.2.1 16 (σ.2.1 14 n1 + j)) = 0 then 1 else σ.2.1 49 (σ.2.1 16 (σ.2.1 14 n1 + j))) (u2_60 - σ.2.1 14 n1) + (u5_60 + 1) ∧ ((τ_60.1 34 + 1)) ≤ 1001) ∨ (((τ_60.1 34 + 1)) = 1001 ∧ 1001 ≤ sm (fun j => if σ.2.1 8 (σ.2.1 16 (σ.2.1 14 n1 + j)) = 0 then 1 else σ.2.1 49 (σ.2.1 16 (σ.2.1 14 n1 + j))) (u2_60 - σ.2.1 14 n1) + (u5_60 + 1))) from by (first | omega | (simp only [st_s] <;> omega) | assumption | omega | fail)) (show σ.2.1 14 n1 < u2_60 ∨ 1 ≤ (u5_60 + 1) → σ.2.1 8 (σ.2.1 16 (σ.2.1 14 n1)) = 0 → (st (τ_60.2.1 50) (τ_60.1 34) u3_60) 0 = σ.2.1 16 (σ.2.1 14 n1) ∧ 1 ≤ ((τ_60.1 34 + 1)) from by (first | (intro y z; exact i12_5 (by omega) z) | (intro y z; by_cases q : τ_60.1 34 = 0; (have q5 : ¬ (σ.2.1 14 n1 < u2_60 ∨ 1 ≤ u5_60) := fun v => (by have w := (i60_14 v z).2; omega); have w : u3_60 = σ.2.1 16 (σ.2.1 14 n1) := (by rw [i60_11, show u2_60 = σ.2.1 14 n1 from by omega]); rw [q, st_s]; first | exact ⟨w, by omega⟩ | (exfalso; rw [w] at e_x19; rw [G8] at e_x19; omega)); (rw [st_n _ _ (by omega)]; have v : σ.2.1 14 n1 < u2_60 ∨ 1 ≤ u5_60 := (by by_cases v : σ.2.1 14 n1 < u2_60; exact Or.inl v; (refine Or.inr ?_; have s0 : sm (fun j => if σ.2.1 8 (σ.2.1 16 (σ.2.1 14 n1 + j)) = 0 then 1 else σ.2.1 49 (σ.2.1 16 (σ.2.1 14 n1 + j))) (u2_60 - σ.2.1 14 n1) = 0 := (by rw [show u2_60 - σ.2.1 14 n1 = 0 from by omega, sm_0]); omega)); have w := i60_14 v z; exact ⟨w.1, by omega⟩)) | fail)) (show u2_60 < σ.2.1 14 n1 + σ.2.1 15 n1 from by (first | omega | (simp only [st_s] <;> omega) | assumption | omega | fail))
              ·
                intro x21 r_x21 e_x21
                have b_x21 : 0 ≤ x21 ∧ x21 ≤ 40001 := by rw [e_x21]; exact hT.2 48 _
                refine ⟨(show 0 ≤ (x21 + u5_60) ∧ (x21 + u5_60) < 42000 from by (first | omega | (simp only [st_s] <;> omega) | assumption | omega | fail)), ?_⟩
                intro x23 r_x23 e_x23
                have b_x23 : 0 ≤ x23 ∧ x23 ≤ 999 := by rw [e_x23]; exact hT.2 43 _
                refine h112 _ _ _ _ _ _ _ _ ?_
                refine ⟨(show 0 ≤ (τ_60.1 34) ∧ (τ_60.1 34) < 1002 from by (first | omega | (simp only [st_s] <;> omega) | assumption | omega | fail)), ?_⟩
                replace hT := mT_a (k := 50) (j := (τ_60.1 34)) hT (show (0 : Int) ≤ x23 ∧ x23 ≤ 999 from by (first | omega | (simp only [st_s] <;> omega) | assumption | omega | fail))
                refine ⟨(⟨by (first | omega | (simp only [st_s] <;> omega) | assumption | omega | fail), by (first | omega | (simp only [st_s] <;> omega) | assumption | omega | fail)⟩ : rg (τ_60.1 34 + 1)), ?_⟩
                replace hT := mT_v (i := 34) hT (show 0 ≤ (τ_60.1 34 + 1) ∧ (τ_60.1 34 + 1) ≤ 1001 from by (first | omega | (simp only [st_s] <;> omega) | assumption | omega | fail))
                refine ⟨(⟨by (first | omega | (simp only [st_s] <;> omega) | assumption | omega | fail), by (first | omega | (simp only [st_s] <;> omega) | assumption | omega | fail)⟩ : rg (u5_60 + 1)), ?_⟩
                exact ih_60 _ _ _ _ _ (show (u4_60 - (u5_60 + 1) + 1 : Int) < ((m_60 : Nat) : Int) from by ((first | omega | (simp only [st_s] <;> omega) | assumption | omega | fail))) hT G8 G14 G15 G16 G48 G49 (show 0 ≤ u2_60 from by (first | omega | (simp only [st_s] <;> omega) | assumption | omega | fail)) (show u2_60 < 30300 from by (first | omega | (simp only [st_s] <;> omega) | assumption | omega | fail)) (show 0 ≤ u3_60 from by (first | omega | (simp only [st_s] <;> omega) | assumption | omega | fail)) (show u3_60 < 1000 from by (first | omega | (simp only [st_s] <;> omega) | assumption | omega | fail)) (show 0 ≤ u4_60 from by (first | omega | (simp only [st_s] <;> omega) | assumption | omega | fail)) (show u4_60 ≤ 1000 from by (first | omega | (simp only [st_s] <;> omega) | assumption | omega | fail)) (show 0 ≤ (u5_60 + 1) from by (first | omega | (simp only [st_s] <;> omega) | assumption | omega | fail)) (show (u5_60 + 1) ≤ u4_60 from by (first | omega | (simp only [st_s] <;> omega) | assumption | omega | fail)) (show u2_60 + (m_12 : Int) ≥ 30301 from by (first | omega | (simp only [st_s] <;> omega) | assumption | omega | fail)) (show σ.2.1 14 n1 ≤ u2_60 from by (first | omega | (simp only [st_s] <;> omega) | assumption | omega | fail)) (show u3_60 = σ.2.1 16 u2_60 from by (first | omega | (simp only [st_s] <;> omega) | assumption | omega | fail)) (show u4_60 = (if σ.2.1 8 u3_60 = 0 then 1 else σ.2.1 49 u3_60) from by (first | (rw [if_pos (by rw [← e_x11]; assumption)]) | (rw [if_neg (by rw [← e_x11]; assumption)]; exact e_x13) | exact i60_12 | fail)) (show ((((τ_60.1 34 + 1)) = sm (fun j => if σ.2.1 8 (σ.2.1 16 (σ.2.1 14 n1 + j)) = 0 then 1 else σ.2.1 49 (σ.2.1 16 (σ.2.1 14 n1 + j))) (u2_60 - σ.2.1 14 n1) + (u5_60 + 1) ∧ ((τ_60.1 34 + 1)) ≤ 1001) ∨ (((τ_60.1 34 + 1)) = 1001 ∧ 1001 ≤ sm (fun j => if σ.2.1 8 (σ.2.1 16 (σ.2.1 14 n1 + j)) = 0 then 1 else σ.2.1 49 (σ.2.1 16 (σ.2.1 14 n1 + j))) (u2_60 - σ.2.1 14 n1) + (u5_60 + 1))) from by (first | omega | (simp only [st_s] <;> omega) | assumption | omega | fail)) (show σ.2.1 14 n1 < u2_60 ∨ 1 ≤ (u5_60 + 1) → σ.2.1 8 (σ.2.1 16 (σ.2.1 14 n1)) = 0 → (st (τ_60.2.1 50) (τ_60.1 34) x23) 0 = σ.2.1 16 (σ.2.1 14 n1) ∧ 1 ≤ ((τ_60.1 34 + 1)) from by (first | (intro y z; exact i12_5 (by omega) z) | (intro y z; by_cases q : τ_60.1 34 = 0; (have q5 : ¬ (σ.2.1 14 n1 < u2_60 ∨ 1 ≤ u5_60) := fun v => (by have w := (i60_14 v z).2; omega); have w : u3_60 = σ.2.1 16 (σ.2.1 14 n1) := (by rw [i60_11, show u2_60 = σ.2.1 14 n1 from by omega]); rw [q, st_s]; first | exact ⟨w, by omega⟩ | (exfalso; rw [w] at e_x19; rw [G8] at e_x19; omega)); (rw [st_n _ _ (by omega)]; have v : σ.2.1 14 n1 < u2_60 ∨ 1 ≤ u5_60 := (by by_cases v : σ.2.1 14 n1 < u2_60; exact Or.inl v; (refine Or.inr ?_; have s0 : sm (fun j => if σ.2.1 8 (σ.2.1 16 (σ.2.1 14 n1 + j)) = 0 then 1 else σ.2.1 49 (σ.2.1 16 (σ.2.1 14 n1 + j))) (u2_60 - σ.2.1 14 n1) = 0 := (by rw [show u2_60 - σ.2.1 14 n1 = 0 from by omega, sm_0]); omega)); have w := i60_14 v z; exact ⟨w.1, by omega⟩)) | fail)) (show u2_60 < σ.2.1 14 n1 + σ.2.1 15 n1 from by (first | omega | (simp only [st_s] <;> omega) | assumption | omega | fail))
      refine h12 n1 u2_12 τ_12 ?_
      refine ⟨(show 0 ≤ n1 ∧ n1 < 1501 from by (first | omega | (simp only [st_s] <;> omega) | assumption | omega | fail)), ?_⟩
      intro x4 r_x4 e_x4
      have b_x4 : 0 ≤ x4 ∧ x4 ≤ 30000 := by rw [e_x4]; exact hT.2 14 _
      rw [G14] at e_x4
      intro x5 r_x5 e_x5
      have b_x5 : 0 ≤ x5 ∧ x5 ≤ 300 := by rw [e_x5]; exact hT.2 15 _
      rw [G15] at e_x5
      refine ⟨(⟨by (first | omega | (simp only [st_s] <;> omega) | assumption | omega | fail), by (first | omega | (simp only [st_s] <;> omega) | assumption | omega | fail)⟩ : rg (x4 + x5)), ?_⟩
      refine ⟨fun c7 => ?_, fun c7 => ?_⟩
      ·
        exact ⟨hT, (show 0 ≤ (τ_12.1 34) from by (first | omega | (simp only [st_s] <;> omega) | assumption | omega | fail)), (show (((τ_12.1 34) = n_sz n1 (σ.2.1 14) (σ.2.1 15) (σ.2.1 16) (σ.2.1 8) (σ.2.1 49) ∧ (τ_12.1 34) ≤ 1001) ∨ ((τ_12.1 34) = 1001 ∧ 1001 ≤ n_sz n1 (σ.2.1 14) (σ.2.1 15) (σ.2.1 16) (σ.2.1 8) (σ.2.1 49))) from by (unfold n_sz; first | (rw [show u2_12 - σ.2.1 14 n1 = σ.2.1 15 n1 from by omega] at i12_4; omega))), (show 1 ≤ σ.2.1 15 n1 → σ.2.1 8 (σ.2.1 16 (σ.2.1 14 n1)) = 0 → τ_12.2.1 50 0 = σ.2.1 16 (σ.2.1 14 n1) ∧ 1 ≤ (τ_12.1 34) from by (intro z y; exact i12_5 (by omega) y))⟩
      ·
        refine ⟨(show 0 ≤ u2_12 ∧ u2_12 < 30400 from by (first | omega | (simp only [st_s] <;> omega) | assumption | omega | fail)), ?_⟩
        intro x9 r_x9 e_x9
        have b_x9 : 0 ≤ x9 ∧ x9 ≤ 999 := by rw [e_x9]; exact hT.2 16 _
        rw [G16] at e_x9
        refine ⟨(show 0 ≤ x9 ∧ x9 < 1001 from by (first | omega | (simp only [st_s] <;> omega) | assumption | omega | fail)), ?_⟩
        intro x11 r_x11 e_x11
        have b_x11 : 0 ≤ x11 ∧ x11 ≤ 1 := by rw [e_x11]; exact hT.2 8 _
        rw [G8] at e_x11
        refine ⟨fun c12 => ?_, fun c12 => ?_⟩
        ·
          exact l_60 ((1 - 0 + 1 : Int).toNat + 1) _ _ _ _ _ (show (1 - 0 + 1 : Int) < (((1 - 0 + 1 : Int).toNat + 1 : Nat) : Int) from by ((first | omega | (simp only [st_s] <;> omega) | assumption | omega | fail))) hT G8 G14 G15 G16 G48 G49 (show 0 ≤ u2_12 from by (first | omega | (simp only [st_s] <;> omega) | assumption | omega | fail)) (show u2_12 < 30300 from by (first | omega | (simp only [st_s] <;> omega) | assumption | omega | fail)) (show 0 ≤ x9 from by (first | omega | (simp only [st_s] <;> omega) | assumption | omega | fail)) (show x9 < 1000 from by (first | omega | (simp only [st_s] <;> omega) | assumption | omega | fail)) (show 0 ≤ 1 from by (first | omega | (simp only [st_s] <;> omega) | assumption | omega | fail)) (show 1 ≤ 1000 from by (first | omega | (simp only [st_s] <;> omega) | assumption | omega | fail)) (show 0 ≤ 0 from by (first | omega | (simp only [st_s] <;> omega) | assumption | omega | fail)) (show 0 ≤ 1 from by (first | omega | (simp only [st_s] <;> omega) | assumption | omega | fail)) (show u2_12 + (m_12 : Int) ≥ 30301 from by (first | omega | (simp only [st_s] <;> omega) | assumption | omega | fail)) (show σ.2.1 14 n1 ≤ u2_12 from by (first | omega | (simp only [st_s] <;> omega) | assumption | omega | fail)) (show x9 = σ.2.1 16 u2_12 from by (first | omega | (simp only [st_s] <;> omega) | assumption | omega | fail)) (show 1 = (if σ.2.1 8 x9 = 0 then 1 else σ.2.1 49 x9) from by (first | (rw [if_pos (by rw [← e_x11]; assumption)]) | (rw [if_neg (by rw [← e_x11]; assumption)]; exact e_x13) | exact i60_12 | fail)) (show (((τ_12.1 34) = sm (fun j => if σ.2.1 8 (σ.2.1 16 (σ.2.1 14 n1 + j)) = 0 then 1 else σ.2.1 49 (σ.2.1 16 (σ.2.1 14 n1 + j))) (u2_12 - σ.2.1 14 n1) + 0 ∧ (τ_12.1 34) ≤ 1001) ∨ ((τ_12.1 34) = 1001 ∧ 1001 ≤ sm (fun j => if σ.2.1 8 (σ.2.1 16 (σ.2.1 14 n1 + j)) = 0 then 1 else σ.2.1 49 (σ.2.1 16 (σ.2.1 14 n1 + j))) (u2_12 - σ.2.1 14 n1) + 0)) from by (first | omega | (simp only [st_s] <;> omega) | assumption | omega | fail)) (show σ.2.1 14 n1 < u2_12 ∨ 1 ≤ 0 → σ.2.1 8 (σ.2.1 16 (σ.2.1 14 n1)) = 0 → τ_12.2.1 50 0 = σ.2.1 16 (σ.2.1 14 n1) ∧ 1 ≤ (τ_12.1 34) from by (first | (intro y z; exact i12_5 (by omega) z) | (intro y z; by_cases q : τ_60.1 34 = 0; (have q5 : ¬ (σ.2.1 14 n1 < u2_60 ∨ 1 ≤ u5_60) := fun v => (by have w := (i60_14 v z).2; omega); have w : u3_60 = σ.2.1 16 (σ.2.1 14 n1) := (by rw [i60_11, show u2_60 = σ.2.1 14 n1 from by omega]); rw [q, st_s]; first | exact ⟨w, by omega⟩ | (exfalso; rw [w] at e_x19; rw [G8] at e_x19; omega)); (rw [st_n _ _ (by omega)]; have v : σ.2.1 14 n1 < u2_60 ∨ 1 ≤ u5_60 := (by by_cases v : σ.2.1 14 n1 < u2_60; exact Or.inl v; (refine Or.inr ?_; have s0 : sm (fun j => if σ.2.1 8 (σ.2.1 16 (σ.2.1 14 n1 + j)) = 0 then 1 else σ.2.1 49 (σ.2.1 16 (σ.2.1 14 n1 + j))) (u2_60 - σ.2.1 14 n1) = 0 := (by rw [show u2_60 - σ.2.1 14 n1 = 0 from by omega, sm_0]); omega)); have w := i60_14 v z; exact ⟨w.1, by omega⟩)) | fail)) (show u2_12 < σ.2.1 14 n1 + σ.2.1 15 n1 from by (first | omega | (simp only [st_s] <;> omega) | assumption | omega | fail))
        ·
          intro x13 r_x13 e_x13
          have b_x13 : 0 ≤ x13 ∧ x13 ≤ 1000 := by rw [e_x13]; exact hT.2 49 _
          rw [G49] at e_x13
          exact l_60 ((x13 - 0 + 1 : Int).toNat + 1) _ _ _ _ _ (show (x13 - 0 + 1 : Int) < (((x13 - 0 + 1 : Int).toNat + 1 : Nat) : Int) from by ((first | omega | (simp only [st_s] <;> omega) | assumption | omega | fail))) hT G8 G14 G15 G16 G48 G49 (show 0 ≤ u2_12 from by (first | omega | (simp only [st_s] <;> omega) | assumption | omega | fail)) (show u2_12 < 30300 from by (first | omega | (simp only [st_s] <;> omega) | assumption | omega | fail)) (show 0 ≤ x9 from by (first | omega | (simp only [st_s] <;> omega) | assumption | omega | fail)) (show x9 < 1000 from by (first | omega | (simp only [st_s] <;> omega) | assumption | omega | fail)) (show 0 ≤ x13 from by (first | omega | (simp only [st_s] <;> omega) | assumption | omega | fail)) (show x13 ≤ 1000 from by (first | omega | (simp only [st_s] <;> omega) | assumption | omega | fail)) (show 0 ≤ 0 from by (first | omega | (simp only [st_s] <;> omega) | assumption | omega | fail)) (show 0 ≤ x13 from by (first | omega | (simp only [st_s] <;> omega) | assumption | omega | fail)) (show u2_12 + (m_12 : Int) ≥ 30301 from by (first | omega | (simp only [st_s] <;> omega) | assumption | omega | fail)) (show σ.2.1 14 n1 ≤ u2_12 from by (first | omega | (simp only [st_s] <;> omega) | assumption | omega | fail)) (show x9 = σ.2.1 16 u2_12 from by (first | omega | (simp only [st_s] <;> omega) | assumption | omega | fail)) (show x13 = (if σ.2.1 8 x9 = 0 then 1 else σ.2.1 49 x9) from by (first | (rw [if_pos (by rw [← e_x11]; assumption)]) | (rw [if_neg (by rw [← e_x11]; assumption)]; exact e_x13) | exact i60_12 | fail)) (show (((τ_12.1 34) = sm (fun j => if σ.2.1 8 (σ.2.1 16 (σ.2.1 14 n1 + j)) = 0 then 1 else σ.2.1 49 (σ.2.1 16 (σ.2.1 14 n1 + j))) (u2_12 - σ.2.1 14 n1) + 0 ∧ (τ_12.1 34) ≤ 1001) ∨ ((τ_12.1 34) = 1001 ∧ 1001 ≤ sm (fun j => if σ.2.1 8 (σ.2.1 16 (σ.2.1 14 n1 + j)) = 0 then 1 else σ.2.1 49 (σ.2.1 16 (σ.2.1 14 n1 + j))) (u2_12 - σ.2.1 14 n1) + 0)) from by (first | omega | (simp only [st_s] <;> omega) | assumption | omega | fail)) (show σ.2.1 14 n1 < u2_12 ∨ 1 ≤ 0 → σ.2.1 8 (σ.2.1 16 (σ.2.1 14 n1)) = 0 → τ_12.2.1 50 0 = σ.2.1 16 (σ.2.1 14 n1) ∧ 1 ≤ (τ_12.1 34) from by (first | (intro y z; exact i12_5 (by omega) z) | (intro y z; by_cases q : τ_60.1 34 = 0; (have q5 : ¬ (σ.2.1 14 n1 < u2_60 ∨ 1 ≤ u5_60) := fun v => (by have w := (i60_14 v z).2; omega); have w : u3_60 = σ.2.1 16 (σ.2.1 14 n1) := (by rw [i60_11, show u2_60 = σ.2.1 14 n1 from by omega]); rw [q, st_s]; first | exact ⟨w, by omega⟩ | (exfalso; rw [w] at e_x19; rw [G8] at e_x19; omega)); (rw [st_n _ _ (by omega)]; have v : σ.2.1 14 n1 < u2_60 ∨ 1 ≤ u5_60 := (by by_cases v : σ.2.1 14 n1 < u2_60; exact Or.inl v; (refine Or.inr ?_; have s0 : sm (fun j => if σ.2.1 8 (σ.2.1 16 (σ.2.1 14 n1 + j)) = 0 then 1 else σ.2.1 49 (σ.2.1 16 (σ.2.1 14 n1 + j))) (u2_60 - σ.2.1 14 n1) = 0 := (by rw [show u2_60 - σ.2.1 14 n1 = 0 from by omega, sm_0]); omega)); have w := i60_14 v z; exact ⟨w.1, by omega⟩)) | fail)) (show u2_12 < σ.2.1 14 n1 + σ.2.1 15 n1 from by (first | omega | (simp only [st_s] <;> omega) | assumption | omega | fail))
  replace hT := mT_v (i := 34) hT (show (0 : Int) ≤ 0 ∧ 0 ≤ 1001 from by (first | omega | (simp only [st_s] <;> omega) | assumption | omega | fail))
  refine ⟨(show 0 ≤ n1 ∧ n1 < 1501 from by (first | omega | (simp only [st_s] <;> omega) | assumption | omega | fail)), ?_⟩
  intro x2 r_x2 e_x2
  have b_x2 : 0 ≤ x2 ∧ x2 ≤ 30000 := by rw [e_x2]; exact hT.2 14 _
  exact l_12 ((30301 - x2 : Int).toNat + 1) _ _ (show (30301 - x2 : Int) < (((30301 - x2 : Int).toNat + 1 : Nat) : Int) from by ((first | omega | (simp only [st_s] <;> omega) | assumption | omega | fail))) hT G8 G14 G15 G16 G48 G49 (show 0 ≤ x2 from by (first | omega | (simp only [st_s] <;> omega) | assumption | omega | fail)) (show x2 ≤ 30300 from by (first | omega | (simp only [st_s] <;> omega) | assumption | omega | fail)) (show σ.2.1 14 n1 ≤ x2 from by (first | omega | (simp only [st_s] <;> omega) | assumption | omega | fail)) (show ((((0 : Int)) = sm (fun j => if σ.2.1 8 (σ.2.1 16 (σ.2.1 14 n1 + j)) = 0 then 1 else σ.2.1 49 (σ.2.1 16 (σ.2.1 14 n1 + j))) (x2 - σ.2.1 14 n1) + 0 ∧ ((0 : Int)) ≤ 1001) ∨ (((0 : Int)) = 1001 ∧ 1001 ≤ sm (fun j => if σ.2.1 8 (σ.2.1 16 (σ.2.1 14 n1 + j)) = 0 then 1 else σ.2.1 49 (σ.2.1 16 (σ.2.1 14 n1 + j))) (x2 - σ.2.1 14 n1) + 0)) from by (first | (rw [show x2 - σ.2.1 14 n1 = 0 from by omega, sm_0]; exact Or.inl ⟨rfl, by show (0 : Int) ≤ 1001; decide⟩) | (rw [sT]; omega) | fail)) (show σ.2.1 14 n1 < x2 → σ.2.1 8 (σ.2.1 16 (σ.2.1 14 n1)) = 0 → σ.2.1 50 0 = σ.2.1 16 (σ.2.1 14 n1) ∧ 1 ≤ ((0 : Int)) from by (first | (intro z; exfalso; omega) | (intro _ z; exact i60_14 (by by_cases y : σ.2.1 14 n1 < u2_60; exact Or.inl y; (refine Or.inr ?_; have w : u3_60 = σ.2.1 16 (σ.2.1 14 n1) := (by rw [i60_11, show u2_60 = σ.2.1 14 n1 from by omega]); have v := i60_12; rw [w, if_pos z] at v; have s0 : sm (fun j => if σ.2.1 8 (σ.2.1 16 (σ.2.1 14 n1 + j)) = 0 then 1 else σ.2.1 49 (σ.2.1 16 (σ.2.1 14 n1 + j))) (u2_60 - σ.2.1 14 n1) = 0 := (by rw [show u2_60 - σ.2.1 14 n1 = 0 from by omega, sm_0]); omega)) z) | fail)) (show x2 = σ.2.1 14 n1 ∨ x2 ≤ σ.2.1 14 n1 + σ.2.1 15 n1 from by (first | omega | (simp only [st_s] <;> omega) | assumption | omega | fail))
set_option maxHeartbeats 1000000 in
theorem K3_X13_pushRow_q53 {n2 : Int} {n3 : Int} {n4 : Int} {σ : S0} (hT : m_T σ) (p1 : 0 ≤ n2) (p2 : n2 ≤ 0) (p3 : 0 ≤ n3) (p4 : 0 ≤ n4) (p5 : n4 ≤ 20000) (p6 : n3 ≤ 1001) : W_X13_pushRow_q53 n2 n3 n4 σ (fun (τ : S0) => (m_T τ) ∧ ((σ.1 35) = 0 → (τ.1 35) = 0 → (τ.1 30) = (σ.1 30) + 1 ∧ 1 ≤ (τ.1 30)) ∧ (¬ (σ.1 35) = 0 → (τ.1 35) = (σ.1 35)) ∧ ((σ.1 35) = 0 → (τ.1 35) = 0 → (¬ (σ.1 30) = 200 ∧ n3 ≤ 1000 ∧ (σ.1 31) + (σ.1 33) + n3 ≤ 40000) ∧ n_pu σ τ n3 (σ.2.1 50 n2)) ∧ ((σ.1 35) = 0 → (¬ (σ.1 30) = 200 ∧ n3 ≤ 1000 ∧ (σ.1 31) + (σ.1 33) + n3 ≤ 40000) → (τ.1 35) = 0)) := by
  have A40 : ∀ j, 0 ≤ σ.2.1 40 j ∧ σ.2.1 40 j ≤ 40000 := fun j => hT.2 40 j
  have A41 : ∀ j, 0 ≤ σ.2.1 41 j ∧ σ.2.1 41 j ≤ 1000 := fun j => hT.2 41 j
  have A43 : ∀ j, 0 ≤ σ.2.1 43 j ∧ σ.2.1 43 j ≤ 999 := fun j => hT.2 43 j
  have A50 : ∀ j, 0 ≤ σ.2.1 50 j ∧ σ.2.1 50 j ≤ 999 := fun j => hT.2 50 j
  have v30 : 0 ≤ σ.1 30 ∧ σ.1 30 ≤ 200 := hT.1 30
  have v31 : 0 ≤ σ.1 31 ∧ σ.1 31 ≤ 40000 := hT.1 31
  have v33 : 0 ≤ σ.1 33 ∧ σ.1 33 ≤ 40000 := hT.1 33
  have v35 : 0 ≤ σ.1 35 ∧ σ.1 35 ≤ 19 := hT.1 35
  have a43_31 : 0 ≤ σ.2.1 43 (σ.1 31) ∧ σ.2.1 43 (σ.1 31) ≤ 999 := hT.2 43 _
  have W33 : σ.1 33 = σ.1 33 := rfl
  have G50 : σ.2.1 50 = σ.2.1 50 := rfl
  intro P34 P43 h34 h43
  have l_43 : ∀ (m_43 : Nat) (u5_43 : Int) (τ_43 : S0), n3 - u5_43 + 1 < (m_43 : Int) → (m_T τ_43) → (τ_43.1 33 = σ.1 33) → (τ_43.2.1 50 = σ.2.1 50) → (n3 ≤ 1000) → ((τ_43.1 30) = (σ.1 30)) → ((τ_43.1 31) = (σ.1 31)) → ((τ_43.1 35) = (σ.1 35)) → ((τ_43.1 31) + (τ_43.1 33) + n3 ≤ 40000) → (¬ (τ_43.1 30) = 200) → (0 ≤ u5_43) → (u5_43 ≤ n3) → (∀ j : Int, j < (σ.1 31) → τ_43.2.1 43 j = σ.2.1 43 j) → (1 ≤ u5_43 → τ_43.2.1 43 (σ.1 31) = σ.2.1 50 n2) → (τ_43.2.1 40 = σ.2.1 40 ∧ τ_43.2.1 41 = σ.2.1 41) → P43 n2 n3 n4 u5_43 τ_43 := by
    intro m_43
    induction m_43 with
    | zero =>
      intro u5_43 τ_43 hm hT W33 G50 i43_1 i43_2 i43_3 i43_4 i43_5 i43_6 i43_7 i43_8 i43_9 i43_10 i43_11
      have A40 : ∀ j, 0 ≤ τ_43.2.1 40 j ∧ τ_43.2.1 40 j ≤ 40000 := fun j => hT.2 40 j
      have A41 : ∀ j, 0 ≤ τ_43.2.1 41 j ∧ τ_43.2.1 41 j ≤ 1000 := fun j => hT.2 41 j
      have A43 : ∀ j, 0 ≤ τ_43.2.1 43 j ∧ τ_43.2.1 43 j ≤ 999 := fun j => hT.2 43 j
      have A50 : ∀ j, 0 ≤ τ_43.2.1 50 j ∧ τ_43.2.1 50 j ≤ 999 := fun j => hT.2 50 j
      have v30 : 0 ≤ τ_43.1 30 ∧ τ_43.1 30 ≤ 200 := hT.1 30
      have v31 : 0 ≤ τ_43.1 31 ∧ τ_43.1 31 ≤ 40000 := hT.1 31
      have v33 : 0 ≤ τ_43.1 33 ∧ τ_43.1 33 ≤ 40000 := hT.1 33
      have v35 : 0 ≤ τ_43.1 35 ∧ τ_43.1 35 ≤ 19 := hT.1 35
      have a43_31 : 0 ≤ τ_43.2.1 43 (τ_43.1 31) ∧ τ_43.2.1 43 (τ_43.1 31) ≤ 999 := hT.2 43 _
      exfalso; (first | omega | (simp only [st_s] <;> omega) | assumption | omega | fail)
    | succ m_43 ih_43 =>
      intro u5_43 τ_43 hm_43 hT W33 G50 i43_1 i43_2 i43_3 i43_4 i43_5 i43_6 i43_7 i43_8 i43_9 i43_10 i43_11
      have A40 : ∀ j, 0 ≤ τ_43.2.1 40 j ∧ τ_43.2.1 40 j ≤ 40000 := fun j => hT.2 40 j
      have A41 : ∀ j, 0 ≤ τ_43.2.1 41 j ∧ τ_43.2.1 41 j ≤ 1000 := fun j => hT.2 41 j
      have A43 : ∀ j, 0 ≤ τ_43.2.1 43 j ∧ τ_43.2.1 43 j ≤ 999 := fun j => hT.2 43 j
      have A50 : ∀ j, 0 ≤ τ_43.2.1 50 j ∧ τ_43.2.1 50 j ≤ 999 := fun j => hT.2 50 j
      have v30 : 0 ≤ τ_43.1 30 ∧ τ_43.1 30 ≤ 200 := hT.1 30
      have v31 : 0 ≤ τ_43.1 31 ∧ τ_43.1 31 ≤ 40000 := hT.1 31
      have v33 : 0 ≤ τ_43.1 33 ∧ τ_43.1 33 ≤ 40000 := hT.1 33
      have v35 : 0 ≤ τ_43.1 35 ∧ τ_43.1 35 ≤ 19 := hT.1 35
      have a43_31 : 0 ≤ τ_43.2.1 43 (τ_43.1 31) ∧ τ_43.2.1 43 (τ_43.1 31) ≤ 999 := hT.2 43 _
      refine h43 n2 n3 n4 u5_43 τ_43 ?_
      refine ⟨fun c8 => ?_, fun c8 => ?_⟩
      ·
        refine ⟨(show 0 ≤ τ_43.1 30 ∧ τ_43.1 30 < 202 from by (first | omega | (simp only [st_s] <;> omega) | assumption | omega | fail)), ?_⟩
        replace hT := mT_a (k := 40) (j := (τ_43.1 30)) hT (show (0 : Int) ≤ (τ_43.1 31) ∧ (τ_43.1 31) ≤ 40000 from by (first | omega | (simp only [st_s] <;> omega) | assumption | omega | fail))
        replace hT := mT_a (k := 41) (j := (τ_43.1 30)) hT (show (0 : Int) ≤ n3 ∧ n3 ≤ 1000 from by (first | omega | (simp only [st_s] <;> omega) | assumption | omega | fail))
        replace hT := mT_a (k := 42) (j := (τ_43.1 30)) hT (show (0 : Int) ≤ n4 ∧ n4 ≤ 20000 from by (first | omega | (simp only [st_s] <;> omega) | assumption | omega | fail))
        refine ⟨(⟨by (first | omega | (simp only [st_s] <;> omega) | assumption | omega | fail), by (first | omega | (simp only [st_s] <;> omega) | assumption | omega | fail)⟩ : rg (τ_43.1 31 + n3)), ?_⟩
        replace hT := mT_v (i := 31) hT (show 0 ≤ (τ_43.1 31 + n3) ∧ (τ_43.1 31 + n3) ≤ 40000 from by (first | omega | (simp only [st_s] <;> omega) | assumption | omega | fail))
        refine ⟨(⟨by (first | omega | (simp only [st_s] <;> omega) | assumption | omega | fail), by (first | omega | (simp only [st_s] <;> omega) | assumption | omega | fail)⟩ : rg (τ_43.1 30 + 1)), ?_⟩
        replace hT := mT_v (i := 30) hT (show 0 ≤ (τ_43.1 30 + 1) ∧ (τ_43.1 30 + 1) ≤ 200 from by (first | omega | (simp only [st_s] <;> omega) | assumption | omega | fail))
        exact ⟨hT, (show (σ.1 35) = 0 → (τ_43.1 35) = 0 → ((τ_43.1 30 + 1)) = (σ.1 30) + 1 ∧ 1 ≤ ((τ_43.1 30 + 1)) from by (first | omega | (simp only [st_s] <;> omega) | assumption | omega | fail)), (show ¬ (σ.1 35) = 0 → (τ_43.1 35) = (σ.1 35) from by (first | omega | (simp only [st_s] <;> omega) | assumption | omega | fail)), (show (σ.1 35) = 0 → (τ_43.1 35) = 0 → (¬ (σ.1 30) = 200 ∧ n3 ≤ 1000 ∧ (σ.1 31) + (σ.1 33) + n3 ≤ 40000) ∧ n_pu σ (s_v (s_v (s_a (s_a (s_a τ_43 40 (τ_43.1 30) (τ_43.1 31)) 41 (τ_43.1 30) n3) 42 (τ_43.1 30) n4) 31 (τ_43.1 31 + n3)) 30 (τ_43.1 30 + 1)) n3 (σ.2.1 50 n2) from by (first | (intro _ z; exfalso; omega) | (intro _ _; refine ⟨⟨by omega, by omega, by omega⟩, (show τ_43.1 30 + 1 = σ.1 30 + 1 from by omega), (show τ_43.1 31 + n3 = σ.1 31 + n3 from by omega), ?_, ?_, i43_9, fun z => i43_10 (by omega)⟩; (rw [show τ_43.1 30 = σ.1 30 from by omega, show τ_43.1 31 = σ.1 31 from by omega]; show st (τ_43.2.1 40) _ _ = _; rw [i43_11.1]); (rw [show τ_43.1 30 = σ.1 30 from by omega]; show st (τ_43.2.1 41) _ _ = _; rw [i43_11.2])) | fail)), (show (σ.1 35) = 0 → (¬ (σ.1 30) = 200 ∧ n3 ≤ 1000 ∧ (σ.1 31) + (σ.1 33) + n3 ≤ 40000) → (τ_43.1 35) = 0 from by (first | (intro _ h; exfalso; omega) | (intro _ _; omega) | fail))⟩
      ·
        refine ⟨(show 0 ≤ (n2 + u5_43) ∧ (n2 + u5_43) < 1002 from by (first | omega | (simp only [st_s] <;> omega) | assumption | omega | fail)), ?_⟩
        intro x13 r_x13 e_x13
        have b_x13 : 0 ≤ x13 ∧ x13 ≤ 999 := by rw [e_x13]; exact hT.2 50 _
        refine ⟨(show 0 ≤ (τ_43.1 31 + u5_43) ∧ (τ_43.1 31 + u5_43) < 42000 from by (first | omega | (simp only [st_s] <;> omega) | assumption | omega | fail)), ?_⟩
        replace hT := mT_a (k := 43) (j := (τ_43.1 31 + u5_43)) hT (show (0 : Int) ≤ x13 ∧ x13 ≤ 999 from by (first | omega | (simp only [st_s] <;> omega) | assumption | omega | fail))
        refine ⟨(⟨by (first | omega | (simp only [st_s] <;> omega) | assumption | omega | fail), by (first | omega | (simp only [st_s] <;> omega) | assumption | omega | fail)⟩ : rg (u5_43 + 1)), ?_⟩
        exact ih_43 _ _ (show (n3 - (u5_43 + 1) + 1 : Int) < ((m_43 : Nat) : Int) from by ((first | omega | (simp only [st_s] <;> omega) | assumption | omega | fail))) hT (show τ_43.1 33 = σ.1 33 from by first | exact W33 | omega) G50 (show n3 ≤ 1000 from by (first | omega | (simp only [st_s] <;> omega) | assumption | omega | fail)) (show (τ_43.1 30) = (σ.1 30) from by (first | omega | (simp only [st_s] <;> omega) | assumption | omega | fail)) (show (τ_43.1 31) = (σ.1 31) from by (first | omega | (simp only [st_s] <;> omega) | assumption | omega | fail)) (show (τ_43.1 35) = (σ.1 35) from by (first | omega | (simp only [st_s] <;> omega) | assumption | omega | fail)) (show (τ_43.1 31) + (τ_43.1 33) + n3 ≤ 40000 from by (first | omega | (simp only [st_s] <;> omega) | assumption | omega | fail)) (show ¬ (τ_43.1 30) = 200 from by (first | omega | (simp only [st_s] <;> omega) | assumption | omega | fail)) (show 0 ≤ (u5_43 + 1) from by (first | omega | (simp only [st_s] <;> omega) | assumption | omega | fail)) (show (u5_43 + 1) ≤ n3 from by (first | omega | (simp only [st_s] <;> omega) | assumption | omega | fail)) (show ∀ j : Int, j < (σ.1 31) → (st (τ_43.2.1 43) (τ_43.1 31 + u5_43) x13) j = σ.2.1 43 j from by (first | (intro j _; rfl) | (intro j hj; rw [st_n _ _ (by omega)]; exact i43_9 j hj) | fail)) (show 1 ≤ (u5_43 + 1) → (st (τ_43.2.1 43) (τ_43.1 31 + u5_43) x13) (σ.1 31) = σ.2.1 50 n2 from by (first | (intro z; exfalso; omega) | (intro _; by_cases z : u5_43 = 0; (rw [z, show τ_43.1 31 + 0 = σ.1 31 from by omega, st_s, e_x13, z, show n2 + 0 = n2 from by omega, G50]); (rw [st_n _ _ (by omega)]; exact i43_10 (by omega))) | fail)) (show τ_43.2.1 40 = σ.2.1 40 ∧ τ_43.2.1 41 = σ.2.1 41 from by (first | exact ⟨rfl, rfl⟩ | exact i43_11 | fail))
  refine ⟨fun c1 => ?_, fun c1 => ?_⟩
  ·
    refine h34 _ ?_
    refine ⟨_, K_X13_wrong hT (show 1 ≤ (5 : Int) from by (first | omega | (simp only [st_s] <;> omega) | assumption | omega | fail)) (show (5 : Int) ≤ 19 from by (first | omega | (simp only [st_s] <;> omega) | assumption | omega | fail)), ?_⟩
    intro τ7 hn_τ7 hf_τ7 hq
    obtain ⟨hT, q5_1, q5_2⟩ := hq
    replace q5_1 : ¬ (τ7.1 35) = 0 := q5_1
    replace q5_2 : ¬ (σ.1 35) = 0 → (τ7.1 35) = (σ.1 35) := q5_2
    have w30_τ7 : τ7.1 30 = σ.1 30 := hf_τ7.1 30 (by decide)
    have w31_τ7 : τ7.1 31 = σ.1 31 := hf_τ7.1 31 (by decide)
    have w33_τ7 : τ7.1 33 = σ.1 33 := hf_τ7.1 33 (by decide)
    have g40_τ7 : τ7.2.1 40 = σ.2.1 40 := hf_τ7.2.1 40 (by decide)
    have g41_τ7 : τ7.2.1 41 = σ.2.1 41 := hf_τ7.2.1 41 (by decide)
    have g43_τ7 : τ7.2.1 43 = σ.2.1 43 := hf_τ7.2.1 43 (by decide)
    have g50_τ7 : τ7.2.1 50 = σ.2.1 50 := hf_τ7.2.1 50 (by decide)
    have W33 : τ7.1 33 = σ.1 33 := by first | exact w33_τ7.trans W33 | omega
    have G50 : τ7.2.1 50 = σ.2.1 50 := (g50_τ7).trans G50
    have y43_31_τ7 : τ7.2.1 43 (τ7.1 31) = (σ.2.1 43) (σ.1 31) := by rw [g43_τ7, w31_τ7]
    have A40 : ∀ j, 0 ≤ τ7.2.1 40 j ∧ τ7.2.1 40 j ≤ 40000 := fun j => hT.2 40 j
    have A41 : ∀ j, 0 ≤ τ7.2.1 41 j ∧ τ7.2.1 41 j ≤ 1000 := fun j => hT.2 41 j
    have A43 : ∀ j, 0 ≤ τ7.2.1 43 j ∧ τ7.2.1 43 j ≤ 999 := fun j => hT.2 43 j
    have A50 : ∀ j, 0 ≤ τ7.2.1 50 j ∧ τ7.2.1 50 j ≤ 999 := fun j => hT.2 50 j
    have v30 : 0 ≤ τ7.1 30 ∧ τ7.1 30 ≤ 200 := hT.1 30
    have v31 : 0 ≤ τ7.1 31 ∧ τ7.1 31 ≤ 40000 := hT.1 31
    have v33 : 0 ≤ τ7.1 33 ∧ τ7.1 33 ≤ 40000 := hT.1 33
    have v35 : 0 ≤ τ7.1 35 ∧ τ7.1 35 ≤ 19 := hT.1 35
    have a43_31 : 0 ≤ τ7.2.1 43 (τ7.1 31) ∧ τ7.2.1 43 (τ7.1 31) ≤ 999 := hT.2 43 _
    exact ⟨hT, (show (σ.1 35) = 0 → (τ7.1 35) = 0 → (τ7.1 30) = (σ.1 30) + 1 ∧ 1 ≤ (τ7.1 30) from by (first | omega | (simp only [st_s] <;> omega) | assumption | omega | fail)), (show ¬ (σ.1 35) = 0 → (τ7.1 35) = (σ.1 35) from by (first | omega | (simp only [st_s] <;> omega) | assumption | omega | fail)), (show (σ.1 35) = 0 → (τ7.1 35) = 0 → (¬ (σ.1 30) = 200 ∧ n3 ≤ 1000 ∧ (σ.1 31) + (σ.1 33) + n3 ≤ 40000) ∧ n_pu σ τ7 n3 (σ.2.1 50 n2) from by (first | (intro _ z; exfalso; omega) | (intro _ _; refine ⟨⟨by omega, by omega, by omega⟩, (show τ_43.1 30 + 1 = σ.1 30 + 1 from by omega), (show τ_43.1 31 + n3 = σ.1 31 + n3 from by omega), ?_, ?_, i43_9, fun z => i43_10 (by omega)⟩; (rw [show τ_43.1 30 = σ.1 30 from by omega, show τ_43.1 31 = σ.1 31 from by omega]; show st (τ_43.2.1 40) _ _ = _; rw [i43_11.1]); (rw [show τ_43.1 30 = σ.1 30 from by omega]; show st (τ_43.2.1 41) _ _ = _; rw [i43_11.2])) | fail)), (show (σ.1 35) = 0 → (¬ (σ.1 30) = 200 ∧ n3 ≤ 1000 ∧ (σ.1 31) + (σ.1 33) + n3 ≤ 40000) → (τ7.1 35) = 0 from by (first | (intro _ h; exfalso; omega) | (intro _ _; omega) | fail))⟩
  ·
    refine ⟨fun c2 => ?_, fun c2 => ?_⟩
    ·
      refine h34 _ ?_
      refine ⟨_, K_X13_wrong hT (show 1 ≤ (5 : Int) from by (first | omega | (simp only [st_s] <;> omega) | assumption | omega | fail)) (show (5 : Int) ≤ 19 from by (first | omega | (simp only [st_s] <;> omega) | assumption | omega | fail)), ?_⟩
      intro τ7 hn_τ7 hf_τ7 hq
      obtain ⟨hT, q5_1, q5_2⟩ := hq
      replace q5_1 : ¬ (τ7.1 35) = 0 := q5_1
      replace q5_2 : ¬ (σ.1 35) = 0 → (τ7.1 35) = (σ.1 35) := q5_2
      have w30_τ7 : τ7.1 30 = σ.1 30 := hf_τ7.1 30 (by decide)
      have w31_τ7 : τ7.1 31 = σ.1 31 := hf_τ7.1 31 (by decide)
      have w33_τ7 : τ7.1 33 = σ.1 33 := hf_τ7.1 33 (by decide)
      have g40_τ7 : τ7.2.1 40 = σ.2.1 40 := hf_τ7.2.1 40 (by decide)
      have g41_τ7 : τ7.2.1 41 = σ.2.1 41 := hf_τ7.2.1 41 (by decide)
      have g43_τ7 : τ7.2.1 43 = σ.2.1 43 := hf_τ7.2.1 43 (by decide)
      have g50_τ7 : τ7.2.1 50 = σ.2.1 50 := hf_τ7.2.1 50 (by decide)
      have W33 : τ7.1 33 = σ.1 33 := by first | exact w33_τ7.trans W33 | omega
      have G50 : τ7.2.1 50 = σ.2.1 50 := (g50_τ7).trans G50
      have y43_31_τ7 : τ7.2.1 43 (τ7.1 31) = (σ.2.1 43) (σ.1 31) := by rw [g43_τ7, w31_τ7]
      have A40 : ∀ j, 0 ≤ τ7.2.1 40 j ∧ τ7.2.1 40 j ≤ 40000 := fun j => hT.2 40 j
      have A41 : ∀ j, 0 ≤ τ7.2.1 41 j ∧ τ7.2.1 41 j ≤ 1000 := fun j => hT.2 41 j
      have A43 : ∀ j, 0 ≤ τ7.2.1 43 j ∧ τ7.2.1 43 j ≤ 999 := fun j => hT.2 43 j
      have A50 : ∀ j, 0 ≤ τ7.2.1 50 j ∧ τ7.2.1 50 j ≤ 999 := fun j => hT.2 50 j
      have v30 : 0 ≤ τ7.1 30 ∧ τ7.1 30 ≤ 200 := hT.1 30
      have v31 : 0 ≤ τ7.1 31 ∧ τ7.1 31 ≤ 40000 := hT.1 31
      have v33 : 0 ≤ τ7.1 33 ∧ τ7.1 33 ≤ 40000 := hT.1 33
      have v35 : 0 ≤ τ7.1 35 ∧ τ7.1 35 ≤ 19 := hT.1 35
      have a43_31 : 0 ≤ τ7.2.1 43 (τ7.1 31) ∧ τ7.2.1 43 (τ7.1 31) ≤ 999 := hT.2 43 _
      exact ⟨hT, (show (σ.1 35) = 0 → (τ7.1 35) = 0 → (τ7.1 30) = (σ.1 30) + 1 ∧ 1 ≤ (τ7.1 30) from by (first | omega | (simp only [st_s] <;> omega) | assumption | omega | fail)), (show ¬ (σ.1 35) = 0 → (τ7.1 35) = (σ.1 35) from by (first | omega | (simp only [st_s] <;> omega) | assumption | omega | fail)), (show (σ.1 35) = 0 → (τ7.1 35) = 0 → (¬ (σ.1 30) = 200 ∧ n3 ≤ 1000 ∧ (σ.1 31) + (σ.1 33) + n3 ≤ 40000) ∧ n_pu σ τ7 n3 (σ.2.1 50 n2) from by (first | (intro _ z; exfalso; omega) | (intro _ _; refine ⟨⟨by omega, by omega, by omega⟩, (show τ_43.1 30 + 1 = σ.1 30 + 1 from by omega), (show τ_43.1 31 + n3 = σ.1 31 + n3 from by omega), ?_, ?_, i43_9, fun z => i43_10 (by omega)⟩; (rw [show τ_43.1 30 = σ.1 30 from by omega, show τ_43.1 31 = σ.1 31 from by omega]; show st (τ_43.2.1 40) _ _ = _; rw [i43_11.1]); (rw [show τ_43.1 30 = σ.1 30 from by omega]; show st (τ_43.2.1 41) _ _ = _; rw [i43_11.2])) | fail)), (show (σ.1 35) = 0 → (¬ (σ.1 30) = 200 ∧ n3 ≤ 1000 ∧ (σ.1 31) + (σ.1 33) + n3 ≤ 40000) → (τ7.1 35) = 0 from by (first | (intro _ h; exfalso; omega) | (intro _ _; omega) | fail))⟩
    ·
      refine ⟨(⟨by (first | omega | (simp only [st_s] <;> omega) | assumption | omega | fail), by (first | omega | (simp only [st_s] <;> omega) | assumption | omega | fail)⟩ : rg ((σ.1 31 + σ.1 33) + n3)), ?_⟩
      refine ⟨fun c4 => ?_, fun c4 => ?_⟩
      ·
        exact l_43 ((n3 - 0 + 1 : Int).toNat + 1) _ _ (show (n3 - 0 + 1 : Int) < (((n3 - 0 + 1 : Int).toNat + 1 : Nat) : Int) from by ((first | omega | (simp only [st_s] <;> omega) | assumption | omega | fail))) hT (show σ.1 33 = σ.1 33 from by first | exact W33 | omega) G50 (show n3 ≤ 1000 from by (first | omega | (simp only [st_s] <;> omega) | assumption | omega | fail)) (show (σ.1 30) = (σ.1 30) from by (first | omega | (simp only [st_s] <;> omega) | assumption | omega | fail)) (show (σ.1 31) = (σ.1 31) from by (first | omega | (simp only [st_s] <;> omega) | assumption | omega | fail)) (show (σ.1 35) = (σ.1 35) from by (first | omega | (simp only [st_s] <;> omega) | assumption | omega | fail)) (show (σ.1 31) + (σ.1 33) + n3 ≤ 40000 from by (first | omega | (simp only [st_s] <;> omega) | assumption | omega | fail)) (show ¬ (σ.1 30) = 200 from by (first | omega | (simp only [st_s] <;> omega) | assumption | omega | fail)) (show 0 ≤ 0 from by (first | omega | (simp only [st_s] <;> omega) | assumption | omega | fail)) (show 0 ≤ n3 from by (first | omega | (simp only [st_s] <;> omega) | assumption | omega | fail)) (show ∀ j : Int, j < (σ.1 31) → σ.2.1 43 j = σ.2.1 43 j from by (first | (intro j _; rfl) | (intro j hj; rw [st_n _ _ (by omega)]; exact i43_9 j hj) | fail)) (show 1 ≤ 0 → σ.2.1 43 (σ.1 31) = σ.2.1 50 n2 from by (first | (intro z; exfalso; omega) | (intro _; by_cases z : u5_43 = 0; (rw [z, show τ_43.1 31 + 0 = σ.1 31 from by omega, st_s, e_x13, z, show n2 + 0 = n2 from by omega, G50]); (rw [st_n _ _ (by omega)]; exact i43_10 (by omega))) | fail)) (show σ.2.1 40 = σ.2.1 40 ∧ σ.2.1 41 = σ.2.1 41 from by (first | exact ⟨rfl, rfl⟩ | exact i43_11 | fail))
      ·
        refine h34 _ ?_
        refine ⟨_, K_X13_wrong hT (show 1 ≤ (5 : Int) from by (first | omega | (simp only [st_s] <;> omega) | assumption | omega | fail)) (show (5 : Int) ≤ 19 from by (first | omega | (simp only [st_s] <;> omega) | assumption | omega | fail)), ?_⟩
        intro τ7 hn_τ7 hf_τ7 hq
        obtain ⟨hT, q5_1, q5_2⟩ := hq
        replace q5_1 : ¬ (τ7.1 35) = 0 := q5_1
        replace q5_2 : ¬ (σ.1 35) = 0 → (τ7.1 35) = (σ.1 35) := q5_2
        have w30_τ7 : τ7.1 30 = σ.1 30 := hf_τ7.1 30 (by decide)
        have w31_τ7 : τ7.1 31 = σ.1 31 := hf_τ7.1 31 (by decide)
        have w33_τ7 : τ7.1 33 = σ.1 33 := hf_τ7.1 33 (by decide)
        have g40_τ7 : τ7.2.1 40 = σ.2.1 40 := hf_τ7.2.1 40 (by decide)
        have g41_τ7 : τ7.2.1 41 = σ.2.1 41 := hf_τ7.2.1 41 (by decide)
        have g43_τ7 : τ7.2.1 43 = σ.2.1 43 := hf_τ7.2.1 43 (by decide)
        have g50_τ7 : τ7.2.1 50 = σ.2.1 50 := hf_τ7.2.1 50 (by decide)
        have W33 : τ7.1 33 = σ.1 33 := by first | exact w33_τ7.trans W33 | omega
        have G50 : τ7.2.1 50 = σ.2.1 50 := (g50_τ7).trans G50
        have y43_31_τ7 : τ7.2.1 43 (τ7.1 31) = (σ.2.1 43) (σ.1 31) := by rw [g43_τ7, w31_τ7]
        have A40 : ∀ j, 0 ≤ τ7.2.1 40 j ∧ τ7.2.1 40 j ≤ 40000 := fun j => hT.2 40 j
        have A41 : ∀ j, 0 ≤ τ7.2.1 41 j ∧ τ7.2.1 41 j ≤ 1000 := fun j => hT.2 41 j
        have A43 : ∀ j, 0 ≤ τ7.2.1 43 j ∧ τ7.2.1 43 j ≤ 999 := fun j => hT.2 43 j
        have A50 : ∀ j, 0 ≤ τ7.2.1 50 j ∧ τ7.2.1 50 j ≤ 999 := fun j => hT.2 50 j
        have v30 : 0 ≤ τ7.1 30 ∧ τ7.1 30 ≤ 200 := hT.1 30
        have v31 : 0 ≤ τ7.1 31 ∧ τ7.1 31 ≤ 40000 := hT.1 31
        have v33 : 0 ≤ τ7.1 33 ∧ τ7.1 33 ≤ 40000 := hT.1 33
        have v35 : 0 ≤ τ7.1 35 ∧ τ7.1 35 ≤ 19 := hT.1 35
        have a43_31 : 0 ≤ τ7.2.1 43 (τ7.1 31) ∧ τ7.2.1 43 (τ7.1 31) ≤ 999 := hT.2 43 _
        exact ⟨hT, (show (σ.1 35) = 0 → (τ7.1 35) = 0 → (τ7.1 30) = (σ.1 30) + 1 ∧ 1 ≤ (τ7.1 30) from by (first | omega | (simp only [st_s] <;> omega) | assumption | omega | fail)), (show ¬ (σ.1 35) = 0 → (τ7.1 35) = (σ.1 35) from by (first | omega | (simp only [st_s] <;> omega) | assumption | omega | fail)), (show (σ.1 35) = 0 → (τ7.1 35) = 0 → (¬ (σ.1 30) = 200 ∧ n3 ≤ 1000 ∧ (σ.1 31) + (σ.1 33) + n3 ≤ 40000) ∧ n_pu σ τ7 n3 (σ.2.1 50 n2) from by (first | (intro _ z; exfalso; omega) | (intro _ _; refine ⟨⟨by omega, by omega, by omega⟩, (show τ_43.1 30 + 1 = σ.1 30 + 1 from by omega), (show τ_43.1 31 + n3 = σ.1 31 + n3 from by omega), ?_, ?_, i43_9, fun z => i43_10 (by omega)⟩; (rw [show τ_43.1 30 = σ.1 30 from by omega, show τ_43.1 31 = σ.1 31 from by omega]; show st (τ_43.2.1 40) _ _ = _; rw [i43_11.1]); (rw [show τ_43.1 30 = σ.1 30 from by omega]; show st (τ_43.2.1 41) _ _ = _; rw [i43_11.2])) | fail)), (show (σ.1 35) = 0 → (¬ (σ.1 30) = 200 ∧ n3 ≤ 1000 ∧ (σ.1 31) + (σ.1 33) + n3 ≤ 40000) → (τ7.1 35) = 0 from by (first | (intro _ h; exfalso; omega) | (intro _ _; omega) | fail))⟩
set_option maxHeartbeats 1000000 in
theorem K3_X13_pushRow_q17 {n2 : Int} {n3 : Int} {n4 : Int} {σ : S0} (hT : m_T σ) (p1 : 0 ≤ n2) (p2 : n2 ≤ 30000) (p3 : 0 ≤ n3) (p4 : 0 ≤ n4) (p5 : n4 ≤ 20000) (p6 : n3 ≤ 300) : W_X13_pushRow_q17 n2 n3 n4 σ (fun (τ : S0) => (m_T τ) ∧ ((σ.1 35) = 0 → (τ.1 35) = 0 → (τ.1 30) = (σ.1 30) + 1 ∧ 1 ≤ (τ.1 30)) ∧ (¬ (σ.1 35) = 0 → (τ.1 35) = (σ.1 35)) ∧ ((σ.1 35) = 0 → (τ.1 35) = 0 → (¬ (σ.1 30) = 200 ∧ n3 ≤ 1000 ∧ (σ.1 31) + (σ.1 33) + n3 ≤ 40000) ∧ n_pu σ τ n3 (σ.2.1 16 n2)) ∧ ((σ.1 35) = 0 → (¬ (σ.1 30) = 200 ∧ n3 ≤ 1000 ∧ (σ.1 31) + (σ.1 33) + n3 ≤ 40000) → (τ.1 35) = 0)) := by
  have A16 : ∀ j, 0 ≤ σ.2.1 16 j ∧ σ.2.1 16 j ≤ 999 := fun j => hT.2 16 j
  have A40 : ∀ j, 0 ≤ σ.2.1 40 j ∧ σ.2.1 40 j ≤ 40000 := fun j => hT.2 40 j
  have A41 : ∀ j, 0 ≤ σ.2.1 41 j ∧ σ.2.1 41 j ≤ 1000 := fun j => hT.2 41 j
  have A43 : ∀ j, 0 ≤ σ.2.1 43 j ∧ σ.2.1 43 j ≤ 999 := fun j => hT.2 43 j
  have v30 : 0 ≤ σ.1 30 ∧ σ.1 30 ≤ 200 := hT.1 30
  have v31 : 0 ≤ σ.1 31 ∧ σ.1 31 ≤ 40000 := hT.1 31
  have v33 : 0 ≤ σ.1 33 ∧ σ.1 33 ≤ 40000 := hT.1 33
  have v35 : 0 ≤ σ.1 35 ∧ σ.1 35 ≤ 19 := hT.1 35
  have a43_31 : 0 ≤ σ.2.1 43 (σ.1 31) ∧ σ.2.1 43 (σ.1 31) ≤ 999 := hT.2 43 _
  have W33 : σ.1 33 = σ.1 33 := rfl
  have G16 : σ.2.1 16 = σ.2.1 16 := rfl
  intro P34 P43 h34 h43
  have l_43 : ∀ (m_43 : Nat) (u5_43 : Int) (τ_43 : S0), n3 - u5_43 + 1 < (m_43 : Int) → (m_T τ_43) → (τ_43.1 33 = σ.1 33) → (τ_43.2.1 16 = σ.2.1 16) → (n3 ≤ 1000) → ((τ_43.1 30) = (σ.1 30)) → ((τ_43.1 31) = (σ.1 31)) → ((τ_43.1 35) = (σ.1 35)) → ((τ_43.1 31) + (τ_43.1 33) + n3 ≤ 40000) → (¬ (τ_43.1 30) = 200) → (0 ≤ u5_43) → (u5_43 ≤ n3) → (∀ j : Int, j < (σ.1 31) → τ_43.2.1 43 j = σ.2.1 43 j) → (1 ≤ u5_43 → τ_43.2.1 43 (σ.1 31) = σ.2.1 16 n2) → (τ_43.2.1 40 = σ.2.1 40 ∧ τ_43.2.1 41 = σ.2.1 41) → P43 n2 n3 n4 u5_43 τ_43 := by
    intro m_43
    induction m_43 with
    | zero =>
      intro u5_43 τ_43 hm hT W33 G16 i43_1 i43_2 i43_3 i43_4 i43_5 i43_6 i43_7 i43_8 i43_9 i43_10 i43_11
      have A16 : ∀ j, 0 ≤ τ_43.2.1 16 j ∧ τ_43.2.1 16 j ≤ 999 := fun j => hT.2 16 j
      have A40 : ∀ j, 0 ≤ τ_43.2.1 40 j ∧ τ_43.2.1 40 j ≤ 40000 := fun j => hT.2 40 j
      have A41 : ∀ j, 0 ≤ τ_43.2.1 41 j ∧ τ_43.2.1 41 j ≤ 1000 := fun j => hT.2 41 j
      have A43 : ∀ j, 0 ≤ τ_43.2.1 43 j ∧ τ_43.2.1 43 j ≤ 999 := fun j => hT.2 43 j
      have v30 : 0 ≤ τ_43.1 30 ∧ τ_43.1 30 ≤ 200 := hT.1 30
      have v31 : 0 ≤ τ_43.1 31 ∧ τ_43.1 31 ≤ 40000 := hT.1 31
      have v33 : 0 ≤ τ_43.1 33 ∧ τ_43.1 33 ≤ 40000 := hT.1 33
      have v35 : 0 ≤ τ_43.1 35 ∧ τ_43.1 35 ≤ 19 := hT.1 35
      have a43_31 : 0 ≤ τ_43.2.1 43 (τ_43.1 31) ∧ τ_43.2.1 43 (τ_43.1 31) ≤ 999 := hT.2 43 _
      exfalso; (first | omega | (simp only [st_s] <;> omega) | assumption | omega | fail)
    | succ m_43 ih_43 =>
      intro u5_43 τ_43 hm_43 hT W33 G16 i43_1 i43_2 i43_3 i43_4 i43_5 i43_6 i43_7 i43_8 i43_9 i43_10 i43_11
      have A16 : ∀ j, 0 ≤ τ_43.2.1 16 j ∧ τ_43.2.1 16 j ≤ 999 := fun j => hT.2 16 j
      have A40 : ∀ j, 0 ≤ τ_43.2.1 40 j ∧ τ_43.2.1 40 j ≤ 40000 := fun j => hT.2 40 j
      have A41 : ∀ j, 0 ≤ τ_43.2.1 41 j ∧ τ_43.2.1 41 j ≤ 1000 := fun j => hT.2 41 j
      have A43 : ∀ j, 0 ≤ τ_43.2.1 43 j ∧ τ_43.2.1 43 j ≤ 999 := fun j => hT.2 43 j
      have v30 : 0 ≤ τ_43.1 30 ∧ τ_43.1 30 ≤ 200 := hT.1 30
      have v31 : 0 ≤ τ_43.1 31 ∧ τ_43.1 31 ≤ 40000 := hT.1 31
      have v33 : 0 ≤ τ_43.1 33 ∧ τ_43.1 33 ≤ 40000 := hT.1 33
      have v35 : 0 ≤ τ_43.1 35 ∧ τ_43.1 35 ≤ 19 := hT.1 35
      have a43_31 : 0 ≤ τ_43.2.1 43 (τ_43.1 31) ∧ τ_43.2.1 43 (τ_43.1 31) ≤ 999 := hT.2 43 _
      refine h43 n2 n3 n4 u5_43 τ_43 ?_
      refine ⟨fun c8 => ?_, fun c8 => ?_⟩
      ·
        refine ⟨(show 0 ≤ τ_43.1 30 ∧ τ_43.1 30 < 202 from by (first | omega | (simp only [st_s] <;> omega) | assumption | omega | fail)), ?_⟩
        replace hT := mT_a (k := 40) (j := (τ_43.1 30)) hT (show (0 : Int) ≤ (τ_43.1 31) ∧ (τ_43.1 31) ≤ 40000 from by (first | omega | (simp only [st_s] <;> omega) | assumption | omega | fail))
        replace hT := mT_a (k := 41) (j := (τ_43.1 30)) hT (show (0 : Int) ≤ n3 ∧ n3 ≤ 1000 from by (first | omega | (simp only [st_s] <;> omega) | assumption | omega | fail))
        replace hT := mT_a (k := 42) (j := (τ_43.1 30)) hT (show (0 : Int) ≤ n4 ∧ n4 ≤ 20000 from by (first | omega | (simp only [st_s] <;> omega) | assumption | omega | fail))
        refine ⟨(⟨by (first | omega | (simp only [st_s] <;> omega) | assumption | omega | fail), by (first | omega | (simp only [st_s] <;> omega) | assumption | omega | fail)⟩ : rg (τ_43.1 31 + n3)), ?_⟩
        replace hT := mT_v (i := 31) hT (show 0 ≤ (τ_43.1 31 + n3) ∧ (τ_43.1 31 + n3) ≤ 40000 from by (first | omega | (simp only [st_s] <;> omega) | assumption | omega | fail))
        refine ⟨(⟨by (first | omega | (simp only [st_s] <;> omega) | assumption | omega | fail), by (first | omega | (simp only [st_s] <;> omega) | assumption | omega | fail)⟩ : rg (τ_43.1 30 + 1)), ?_⟩
        replace hT := mT_v (i := 30) hT (show 0 ≤ (τ_43.1 30 + 1) ∧ (τ_43.1 30 + 1) ≤ 200 from by (first | omega | (simp only [st_s] <;> omega) | assumption | omega | fail))
        exact ⟨hT, (show (σ.1 35) = 0 → (τ_43.1 35) = 0 → ((τ_43.1 30 + 1)) = (σ.1 30) + 1 ∧ 1 ≤ ((τ_43.1 30 + 1)) from by (first | omega | (simp only [st_s] <;> omega) | assumption | omega | fail)), (show ¬ (σ.1 35) = 0 → (τ_43.1 35) = (σ.1 35) from by (first | omega | (simp only [st_s] <;> omega) | assumption | omega | fail)), (show (σ.1 35) = 0 → (τ_43.1 35) = 0 → (¬ (σ.1 30) = 200 ∧ n3 ≤ 1000 ∧ (σ.1 31) + (σ.1 33) + n3 ≤ 40000) ∧ n_pu σ (s_v (s_v (s_a (s_a (s_a τ_43 40 (τ_43.1 30) (τ_43.1 31)) 41 (τ_43.1 30) n3) 42 (τ_43.1 30) n4) 31 (τ_43.1 31 + n3)) 30 (τ_43.1 30 + 1)) n3 (σ.2.1 16 n2) from by (first | (intro _ z; exfalso; omega) | (intro _ _; refine ⟨⟨by omega, by omega, by omega⟩, (show τ_43.1 30 + 1 = σ.1 30 + 1 from by omega), (show τ_43.1 31 + n3 = σ.1 31 + n3 from by omega), ?_, ?_, i43_9, fun z => i43_10 (by omega)⟩; (rw [show τ_43.1 30 = σ.1 30 from by omega, show τ_43.1 31 = σ.1 31 from by omega]; show st (τ_43.2.1 40) _ _ = _; rw [i43_11.1]); (rw [show τ_43.1 30 = σ.1 30 from by omega]; show st (τ_43.2.1 41) _ _ = _; rw [i43_11.2])) | fail)), (show (σ.1 35) = 0 → (¬ (σ.1 30) = 200 ∧ n3 ≤ 1000 ∧ (σ.1 31) + (σ.1 33) + n3 ≤ 40000) → (τ_43.1 35) = 0 from by (first | (intro _ h; exfalso; omega) | (intro _ _; omega) | fail))⟩
      ·
        refine ⟨(show 0 ≤ (n2 + u5_43) ∧ (n2 + u5_43) < 30400 from by (first | omega | (simp only [st_s] <;> omega) | assumption | omega | fail)), ?_⟩
        intro x13 r_x13 e_x13
        have b_x13 : 0 ≤ x13 ∧ x13 ≤ 999 := by rw [e_x13]; exact hT.2 16 _
        refine ⟨(show 0 ≤ (τ_43.1 31 + u5_43) ∧ (τ_43.1 31 + u5_43) < 42000 from by (first | omega | (simp only [st_s] <;> omega) | assumption | omega | fail)), ?_⟩
        replace hT := mT_a (k := 43) (j := (τ_43.1 31 + u5_43)) hT (show (0 : Int) ≤ x13 ∧ x13 ≤ 999 from by (first | omega | (simp only [st_s] <;> omega) | assumption | omega | fail))
        refine ⟨(⟨by (first | omega | (simp only [st_s] <;> omega) | assumption | omega | fail), by (first | omega | (simp only [st_s] <;> omega) | assumption | omega | fail)⟩ : rg (u5_43 + 1)), ?_⟩
        exact ih_43 _ _ (show (n3 - (u5_43 + 1) + 1 : Int) < ((m_43 : Nat) : Int) from by ((first | omega | (simp only [st_s] <;> omega) | assumption | omega | fail))) hT (show τ_43.1 33 = σ.1 33 from by first | exact W33 | omega) G16 (show n3 ≤ 1000 from by (first | omega | (simp only [st_s] <;> omega) | assumption | omega | fail)) (show (τ_43.1 30) = (σ.1 30) from by (first | omega | (simp only [st_s] <;> omega) | assumption | omega | fail)) (show (τ_43.1 31) = (σ.1 31) from by (first | omega | (simp only [st_s] <;> omega) | assumption | omega | fail)) (show (τ_43.1 35) = (σ.1 35) from by (first | omega | (simp only [st_s] <;> omega) | assumption | omega | fail)) (show (τ_43.1 31) + (τ_43.1 33) + n3 ≤ 40000 from by (first | omega | (simp only [st_s] <;> omega) | assumption | omega | fail)) (show ¬ (τ_43.1 30) = 200 from by (first | omega | (simp only [st_s] <;> omega) | assumption | omega | fail)) (show 0 ≤ (u5_43 + 1) from by (first | omega | (simp only [st_s] <;> omega) | assumption | omega | fail)) (show (u5_43 + 1) ≤ n3 from by (first | omega | (simp only [st_s] <;> omega) | assumption | omega | fail)) (show ∀ j : Int, j < (σ.1 31) → (st (τ_43.2.1 43) (τ_43.1 31 + u5_43) x13) j = σ.2.1 43 j from by (first | (intro j _; rfl) | (intro j hj; rw [st_n _ _ (by omega)]; exact i43_9 j hj) | fail)) (show 1 ≤ (u5_43 + 1) → (st (τ_43.2.1 43) (τ_43.1 31 + u5_43) x13) (σ.1 31) = σ.2.1 16 n2 from by (first | (intro z; exfalso; omega) | (intro _; by_cases z : u5_43 = 0; (rw [z, show τ_43.1 31 + 0 = σ.1 31 from by omega, st_s, e_x13, z, show n2 + 0 = n2 from by omega, G16]); (rw [st_n _ _ (by omega)]; exact i43_10 (by omega))) | fail)) (show τ_43.2.1 40 = σ.2.1 40 ∧ τ_43.2.1 41 = σ.2.1 41 from by (first | exact ⟨rfl, rfl⟩ | exact i43_11 | fail))
  refine ⟨fun c1 => ?_, fun c1 => ?_⟩
  ·
    refine h34 _ ?_
    refine ⟨_, K_X13_wrong hT (show 1 ≤ (5 : Int) from by (first | omega | (simp only [st_s] <;> omega) | assumption | omega | fail)) (show (5 : Int) ≤ 19 from by (first | omega | (simp only [st_s] <;> omega) | assumption | omega | fail)), ?_⟩
    intro τ7 hn_τ7 hf_τ7 hq
    obtain ⟨hT, q5_1, q5_2⟩ := hq
    replace q5_1 : ¬ (τ7.1 35) = 0 := q5_1
    replace q5_2 : ¬ (σ.1 35) = 0 → (τ7.1 35) = (σ.1 35) := q5_2
    have w30_τ7 : τ7.1 30 = σ.1 30 := hf_τ7.1 30 (by decide)
    have w31_τ7 : τ7.1 31 = σ.1 31 := hf_τ7.1 31 (by decide)
    have w33_τ7 : τ7.1 33 = σ.1 33 := hf_τ7.1 33 (by decide)
    have g16_τ7 : τ7.2.1 16 = σ.2.1 16 := hf_τ7.2.1 16 (by decide)
    have g40_τ7 : τ7.2.1 40 = σ.2.1 40 := hf_τ7.2.1 40 (by decide)
    have g41_τ7 : τ7.2.1 41 = σ.2.1 41 := hf_τ7.2.1 41 (by decide)
    have g43_τ7 : τ7.2.1 43 = σ.2.1 43 := hf_τ7.2.1 43 (by decide)
    have W33 : τ7.1 33 = σ.1 33 := by first | exact w33_τ7.trans W33 | omega
    have G16 : τ7.2.1 16 = σ.2.1 16 := (g16_τ7).trans G16
    have y43_31_τ7 : τ7.2.1 43 (τ7.1 31) = (σ.2.1 43) (σ.1 31) := by rw [g43_τ7, w31_τ7]
    have A16 : ∀ j, 0 ≤ τ7.2.1 16 j ∧ τ7.2.1 16 j ≤ 999 := fun j => hT.2 16 j
    have A40 : ∀ j, 0 ≤ τ7.2.1 40 j ∧ τ7.2.1 40 j ≤ 40000 := fun j => hT.2 40 j
    have A41 : ∀ j, 0 ≤ τ7.2.1 41 j ∧ τ7.2.1 41 j ≤ 1000 := fun j => hT.2 41 j
    have A43 : ∀ j, 0 ≤ τ7.2.1 43 j ∧ τ7.2.1 43 j ≤ 999 := fun j => hT.2 43 j
    have v30 : 0 ≤ τ7.1 30 ∧ τ7.1 30 ≤ 200 := hT.1 30
    have v31 : 0 ≤ τ7.1 31 ∧ τ7.1 31 ≤ 40000 := hT.1 31
    have v33 : 0 ≤ τ7.1 33 ∧ τ7.1 33 ≤ 40000 := hT.1 33
    have v35 : 0 ≤ τ7.1 35 ∧ τ7.1 35 ≤ 19 := hT.1 35
    have a43_31 : 0 ≤ τ7.2.1 43 (τ7.1 31) ∧ τ7.2.1 43 (τ7.1 31) ≤ 999 := hT.2 43 _
    exact ⟨hT, (show (σ.1 35) = 0 → (τ7.1 35) = 0 → (τ7.1 30) = (σ.1 30) + 1 ∧ 1 ≤ (τ7.1 30) from by (first | omega | (simp only [st_s] <;> omega) | assumption | omega | fail)), (show ¬ (σ.1 35) = 0 → (τ7.1 35) = (σ.1 35) from by (first | omega | (simp only [st_s] <;> omega) | assumption | omega | fail)), (show (σ.1 35) = 0 → (τ7.1 35) = 0 → (¬ (σ.1 30) = 200 ∧ n3 ≤ 1000 ∧ (σ.1 31) + (σ.1 33) + n3 ≤ 40000) ∧ n_pu σ τ7 n3 (σ.2.1 16 n2) from by (first | (intro _ z; exfalso; omega) | (intro _ _; refine ⟨⟨by omega, by omega, by omega⟩, (show τ_43.1 30 + 1 = σ.1 30 + 1 from by omega), (show τ_43.1 31 + n3 = σ.1 31 + n3 from by omega), ?_, ?_, i43_9, fun z => i43_10 (by omega)⟩; (rw [show τ_43.1 30 = σ.1 30 from by omega, show τ_43.1 31 = σ.1 31 from by omega]; show st (τ_43.2.1 40) _ _ = _; rw [i43_11.1]); (rw [show τ_43.1 30 = σ.1 30 from by omega]; show st (τ_43.2.1 41) _ _ = _; rw [i43_11.2])) | fail)), (show (σ.1 35) = 0 → (¬ (σ.1 30) = 200 ∧ n3 ≤ 1000 ∧ (σ.1 31) + (σ.1 33) + n3 ≤ 40000) → (τ7.1 35) = 0 from by (first | (intro _ h; exfalso; omega) | (intro _ _; omega) | fail))⟩
  ·
    refine ⟨fun c2 => ?_, fun c2 => ?_⟩
    ·
      refine h34 _ ?_
      refine ⟨_, K_X13_wrong hT (show 1 ≤ (5 : Int) from by (first | omega | (simp only [st_s] <;> omega) | assumption | omega | fail)) (show (5 : Int) ≤ 19 from by (first | omega | (simp only [st_s] <;> omega) | assumption | omega | fail)), ?_⟩
      intro τ7 hn_τ7 hf_τ7 hq
      obtain ⟨hT, q5_1, q5_2⟩ := hq
      replace q5_1 : ¬ (τ7.1 35) = 0 := q5_1
      replace q5_2 : ¬ (σ.1 35) = 0 → (τ7.1 35) = (σ.1 35) := q5_2
      have w30_τ7 : τ7.1 30 = σ.1 30 := hf_τ7.1 30 (by decide)
      have w31_τ7 : τ7.1 31 = σ.1 31 := hf_τ7.1 31 (by decide)
      have w33_τ7 : τ7.1 33 = σ.1 33 := hf_τ7.1 33 (by decide)
      have g16_τ7 : τ7.2.1 16 = σ.2.1 16 := hf_τ7.2.1 16 (by decide)
      have g40_τ7 : τ7.2.1 40 = σ.2.1 40 := hf_τ7.2.1 40 (by decide)
      have g41_τ7 : τ7.2.1 41 = σ.2.1 41 := hf_τ7.2.1 41 (by decide)
      have g43_τ7 : τ7.2.1 43 = σ.2.1 43 := hf_τ7.2.1 43 (by decide)
      have W33 : τ7.1 33 = σ.1 33 := by first | exact w33_τ7.trans W33 | omega
      have G16 : τ7.2.1 16 = σ.2.1 16 := (g16_τ7).trans G16
      have y43_31_τ7 : τ7.2.1 43 (τ7.1 31) = (σ.2.1 43) (σ.1 31) := by rw [g43_τ7, w31_τ7]
      have A16 : ∀ j, 0 ≤ τ7.2.1 16 j ∧ τ7.2.1 16 j ≤ 999 := fun j => hT.2 16 j
      have A40 : ∀ j, 0 ≤ τ7.2.1 40 j ∧ τ7.2.1 40 j ≤ 40000 := fun j => hT.2 40 j
      have A41 : ∀ j, 0 ≤ τ7.2.1 41 j ∧ τ7.2.1 41 j ≤ 1000 := fun j => hT.2 41 j
      have A43 : ∀ j, 0 ≤ τ7.2.1 43 j ∧ τ7.2.1 43 j ≤ 999 := fun j => hT.2 43 j
      have v30 : 0 ≤ τ7.1 30 ∧ τ7.1 30 ≤ 200 := hT.1 30
      have v31 : 0 ≤ τ7.1 31 ∧ τ7.1 31 ≤ 40000 := hT.1 31
      have v33 : 0 ≤ τ7.1 33 ∧ τ7.1 33 ≤ 40000 := hT.1 33
      have v35 : 0 ≤ τ7.1 35 ∧ τ7.1 35 ≤ 19 := hT.1 35
      have a43_31 : 0 ≤ τ7.2.1 43 (τ7.1 31) ∧ τ7.2.1 43 (τ7.1 31) ≤ 999 := hT.2 43 _
      exact ⟨hT, (show (σ.1 35) = 0 → (τ7.1 35) = 0 → (τ7.1 30) = (σ.1 30) + 1 ∧ 1 ≤ (τ7.1 30) from by (first | omega | (simp only [st_s] <;> omega) | assumption | omega | fail)), (show ¬ (σ.1 35) = 0 → (τ7.1 35) = (σ.1 35) from by (first | omega | (simp only [st_s] <;> omega) | assumption | omega | fail)), (show (σ.1 35) = 0 → (τ7.1 35) = 0 → (¬ (σ.1 30) = 200 ∧ n3 ≤ 1000 ∧ (σ.1 31) + (σ.1 33) + n3 ≤ 40000) ∧ n_pu σ τ7 n3 (σ.2.1 16 n2) from by (first | (intro _ z; exfalso; omega) | (intro _ _; refine ⟨⟨by omega, by omega, by omega⟩, (show τ_43.1 30 + 1 = σ.1 30 + 1 from by omega), (show τ_43.1 31 + n3 = σ.1 31 + n3 from by omega), ?_, ?_, i43_9, fun z => i43_10 (by omega)⟩; (rw [show τ_43.1 30 = σ.1 30 from by omega, show τ_43.1 31 = σ.1 31 from by omega]; show st (τ_43.2.1 40) _ _ = _; rw [i43_11.1]); (rw [show τ_43.1 30 = σ.1 30 from by omega]; show st (τ_43.2.1 41) _ _ = _; rw [i43_11.2])) | fail)), (show (σ.1 35) = 0 → (¬ (σ.1 30) = 200 ∧ n3 ≤ 1000 ∧ (σ.1 31) + (σ.1 33) + n3 ≤ 40000) → (τ7.1 35) = 0 from by (first | (intro _ h; exfalso; omega) | (intro _ _; omega) | fail))⟩
    ·
      refine ⟨(⟨by (first | omega | (simp only [st_s] <;> omega) | assumption | omega | fail), by (first | omega | (simp only [st_s] <;> omega) | assumption | omega | fail)⟩ : rg ((σ.1 31 + σ.1 33) + n3)), ?_⟩
      refine ⟨fun c4 => ?_, fun c4 => ?_⟩
      ·
        exact l_43 ((n3 - 0 + 1 : Int).toNat + 1) _ _ (show (n3 - 0 + 1 : Int) < (((n3 - 0 + 1 : Int).toNat + 1 : Nat) : Int) from by ((first | omega | (simp only [st_s] <;> omega) | assumption | omega | fail))) hT (show σ.1 33 = σ.1 33 from by first | exact W33 | omega) G16 (show n3 ≤ 1000 from by (first | omega | (simp only [st_s] <;> omega) | assumption | omega | fail)) (show (σ.1 30) = (σ.1 30) from by (first | omega | (simp only [st_s] <;> omega) | assumption | omega | fail)) (show (σ.1 31) = (σ.1 31) from by (first | omega | (simp only [st_s] <;> omega) | assumption | omega | fail)) (show (σ.1 35) = (σ.1 35) from by (first | omega | (simp only [st_s] <;> omega) | assumption | omega | fail)) (show (σ.1 31) + (σ.1 33) + n3 ≤ 40000 from by (first | omega | (simp only [st_s] <;> omega) | assumption | omega | fail)) (show ¬ (σ.1 30) = 200 from by (first | omega | (simp only [st_s] <;> omega) | assumption | omega | fail)) (show 0 ≤ 0 from by (first | omega | (simp only [st_s] <;> omega) | assumption | omega | fail)) (show 0 ≤ n3 from by (first | omega | (simp only [st_s] <;> omega) | assumption | omega | fail)) (show ∀ j : Int, j < (σ.1 31) → σ.2.1 43 j = σ.2.1 43 j from by (first | (intro j _; rfl) | (intro j hj; rw [st_n _ _ (by omega)]; exact i43_9 j hj) | fail)) (show 1 ≤ 0 → σ.2.1 43 (σ.1 31) = σ.2.1 16 n2 from by (first | (intro z; exfalso; omega) | (intro _; by_cases z : u5_43 = 0; (rw [z, show τ_43.1 31 + 0 = σ.1 31 from by omega, st_s, e_x13, z, show n2 + 0 = n2 from by omega, G16]); (rw [st_n _ _ (by omega)]; exact i43_10 (by omega))) | fail)) (show σ.2.1 40 = σ.2.1 40 ∧ σ.2.1 41 = σ.2.1 41 from by (first | exact ⟨rfl, rfl⟩ | exact i43_11 | fail))
      ·
        refine h34 _ ?_
        refine ⟨_, K_X13_wrong hT (show 1 ≤ (5 : Int) from by (first | omega | (simp only [st_s] <;> omega) | assumption | omega | fail)) (show (5 : Int) ≤ 19 from by (first | omega | (simp only [st_s] <;> omega) | assumption | omega | fail)), ?_⟩
        intro τ7 hn_τ7 hf_τ7 hq
        obtain ⟨hT, q5_1, q5_2⟩ := hq
        replace q5_1 : ¬ (τ7.1 35) = 0 := q5_1
        replace q5_2 : ¬ (σ.1 35) = 0 → (τ7.1 35) = (σ.1 35) := q5_2
        have w30_τ7 : τ7.1 30 = σ.1 30 := hf_τ7.1 30 (by decide)
        have w31_τ7 : τ7.1 31 = σ.1 31 := hf_τ7.1 31 (by decide)
        have w33_τ7 : τ7.1 33 = σ.1 33 := hf_τ7.1 33 (by decide)
        have g16_τ7 : τ7.2.1 16 = σ.2.1 16 := hf_τ7.2.1 16 (by decide)
        have g40_τ7 : τ7.2.1 40 = σ.2.1 40 := hf_τ7.2.1 40 (by decide)
        have g41_τ7 : τ7.2.1 41 = σ.2.1 41 := hf_τ7.2.1 41 (by decide)
        have g43_τ7 : τ7.2.1 43 = σ.2.1 43 := hf_τ7.2.1 43 (by decide)
        have W33 : τ7.1 33 = σ.1 33 := by first | exact w33_τ7.trans W33 | omega
        have G16 : τ7.2.1 16 = σ.2.1 16 := (g16_τ7).trans G16
        have y43_31_τ7 : τ7.2.1 43 (τ7.1 31) = (σ.2.1 43) (σ.1 31) := by rw [g43_τ7, w31_τ7]
        have A16 : ∀ j, 0 ≤ τ7.2.1 16 j ∧ τ7.2.1 16 j ≤ 999 := fun j => hT.2 16 j
        have A40 : ∀ j, 0 ≤ τ7.2.1 40 j ∧ τ7.2.1 40 j ≤ 40000 := fun j => hT.2 40 j
        have A41 : ∀ j, 0 ≤ τ7.2.1 41 j ∧ τ7.2.1 41 j ≤ 1000 := fun j => hT.2 41 j
        have A43 : ∀ j, 0 ≤ τ7.2.1 43 j ∧ τ7.2.1 43 j ≤ 999 := fun j => hT.2 43 j
        have v30 : 0 ≤ τ7.1 30 ∧ τ7.1 30 ≤ 200 := hT.1 30
        have v31 : 0 ≤ τ7.1 31 ∧ τ7.1 31 ≤ 40000 := hT.1 31
        have v33 : 0 ≤ τ7.1 33 ∧ τ7.1 33 ≤ 40000 := hT.1 33
        have v35 : 0 ≤ τ7.1 35 ∧ τ7.1 35 ≤ 19 := hT.1 35
        have a43_31 : 0 ≤ τ7.2.1 43 (τ7.1 31) ∧ τ7.2.1 43 (τ7.1 31) ≤ 999 := hT.2 43 _
        exact ⟨hT, (show (σ.1 35) = 0 → (τ7.1 35) = 0 → (τ7.1 30) = (σ.1 30) + 1 ∧ 1 ≤ (τ7.1 30) from by (first | omega | (simp only [st_s] <;> omega) | assumption | omega | fail)), (show ¬ (σ.1 35) = 0 → (τ7.1 35) = (σ.1 35) from by (first | omega | (simp only [st_s] <;> omega) | assumption | omega | fail)), (show (σ.1 35) = 0 → (τ7.1 35) = 0 → (¬ (σ.1 30) = 200 ∧ n3 ≤ 1000 ∧ (σ.1 31) + (σ.1 33) + n3 ≤ 40000) ∧ n_pu σ τ7 n3 (σ.2.1 16 n2) from by (first | (intro _ z; exfalso; omega) | (intro _ _; refine ⟨⟨by omega, by omega, by omega⟩, (show τ_43.1 30 + 1 = σ.1 30 + 1 from by omega), (show τ_43.1 31 + n3 = σ.1 31 + n3 from by omega), ?_, ?_, i43_9, fun z => i43_10 (by omega)⟩; (rw [show τ_43.1 30 = σ.1 30 from by omega, show τ_43.1 31 = σ.1 31 from by omega]; show st (τ_43.2.1 40) _ _ = _; rw [i43_11.1]); (rw [show τ_43.1 30 = σ.1 30 from by omega]; show st (τ_43.2.1 41) _ _ = _; rw [i43_11.2])) | fail)), (show (σ.1 35) = 0 → (¬ (σ.1 30) = 200 ∧ n3 ≤ 1000 ∧ (σ.1 31) + (σ.1 33) + n3 ≤ 40000) → (τ7.1 35) = 0 from by (first | (intro _ h; exfalso; omega) | (intro _ _; omega) | fail))⟩
set_option maxHeartbeats 1000000 in
theorem K3_X13_pushRow_q50 {n2 : Int} {n3 : Int} {n4 : Int} {σ : S0} (hT : m_T σ) (p1 : 0 ≤ n2) (p2 : n2 ≤ 40000) (p3 : 0 ≤ n3) (p4 : 0 ≤ n4) (p5 : n4 ≤ 20000) (p6 : n3 ≤ 1000) : W_X13_pushRow_q50 n2 n3 n4 σ (fun (τ : S0) => (m_T τ) ∧ ((σ.1 35) = 0 → (τ.1 35) = 0 → (τ.1 30) = (σ.1 30) + 1 ∧ 1 ≤ (τ.1 30)) ∧ (¬ (σ.1 35) = 0 → (τ.1 35) = (σ.1 35)) ∧ ((σ.1 35) = 0 → (τ.1 35) = 0 → (¬ (σ.1 30) = 200 ∧ n3 ≤ 1000 ∧ (σ.1 31) + (σ.1 33) + n3 ≤ 40000) ∧ n_pu σ τ n3 (σ.2.1 47 n2)) ∧ ((σ.1 35) = 0 → (¬ (σ.1 30) = 200 ∧ n3 ≤ 1000 ∧ (σ.1 31) + (σ.1 33) + n3 ≤ 40000) → (τ.1 35) = 0)) := by
  have A40 : ∀ j, 0 ≤ σ.2.1 40 j ∧ σ.2.1 40 j ≤ 40000 := fun j => hT.2 40 j
  have A41 : ∀ j, 0 ≤ σ.2.1 41 j ∧ σ.2.1 41 j ≤ 1000 := fun j => hT.2 41 j
  have A43 : ∀ j, 0 ≤ σ.2.1 43 j ∧ σ.2.1 43 j ≤ 999 := fun j => hT.2 43 j
  have A47 : ∀ j, 0 ≤ σ.2.1 47 j ∧ σ.2.1 47 j ≤ 999 := fun j => hT.2 47 j
  have v30 : 0 ≤ σ.1 30 ∧ σ.1 30 ≤ 200 := hT.1 30
  have v31 : 0 ≤ σ.1 31 ∧ σ.1 31 ≤ 40000 := hT.1 31
  have v33 : 0 ≤ σ.1 33 ∧ σ.1 33 ≤ 40000 := hT.1 33
  have v35 : 0 ≤ σ.1 35 ∧ σ.1 35 ≤ 19 := hT.1 35
  have a43_31 : 0 ≤ σ.2.1 43 (σ.1 31) ∧ σ.2.1 43 (σ.1 31) ≤ 999 := hT.2 43 _
  have W33 : σ.1 33 = σ.1 33 := rfl
  have G47 : σ.2.1 47 = σ.2.1 47 := rfl
  intro P34 P43 h34 h43
  have l_43 : ∀ (m_43 : Nat) (u5_43 : Int) (τ_43 : S0), n3 - u5_43 + 1 < (m_43 : Int) → (m_T τ_43) → (τ_43.1 33 = σ.1 33) → (τ_43.2.1 47 = σ.2.1 47) → (n3 ≤ 1000) → ((τ_43.1 30) = (σ.1 30)) → ((τ_43.1 31) = (σ.1 31)) → ((τ_43.1 35) = (σ.1 35)) → ((τ_43.1 31) + (τ_43.1 33) + n3 ≤ 40000) → (¬ (τ_43.1 30) = 200) → (0 ≤ u5_43) → (u5_43 ≤ n3) → (∀ j : Int, j < (σ.1 31) → τ_43.2.1 43 j = σ.2.1 43 j) → (1 ≤ u5_43 → τ_43.2.1 43 (σ.1 31) = σ.2.1 47 n2) → (τ_43.2.1 40 = σ.2.1 40 ∧ τ_43.2.1 41 = σ.2.1 41) → P43 n2 n3 n4 u5_43 τ_43 := by
    intro m_43
    induction m_43 with
    | zero =>
      intro u5_43 τ_43 hm hT W33 G47 i43_1 i43_2 i43_3 i43_4 i43_5 i43_6 i43_7 i43_8 i43_9 i43_10 i43_11
      have A40 : ∀ j, 0 ≤ τ_43.2.1 40 j ∧ τ_43.2.1 40 j ≤ 40000 := fun j => hT.2 40 j
      have A41 : ∀ j, 0 ≤ τ_43.2.1 41 j ∧ τ_43.2.1 41 j ≤ 1000 := fun j => hT.2 41 j
      have A43 : ∀ j, 0 ≤ τ_43.2.1 43 j ∧ τ_43.2.1 43 j ≤ 999 := fun j => hT.2 43 j
      have A47 : ∀ j, 0 ≤ τ_43.2.1 47 j ∧ τ_43.2.1 47 j ≤ 999 := fun j => hT.2 47 j
      have v30 : 0 ≤ τ_43.1 30 ∧ τ_43.1 30 ≤ 200 := hT.1 30
      have v31 : 0 ≤ τ_43.1 31 ∧ τ_43.1 31 ≤ 40000 := hT.1 31
      have v33 : 0 ≤ τ_43.1 33 ∧ τ_43.1 33 ≤ 40000 := hT.1 33
      have v35 : 0 ≤ τ_43.1 35 ∧ τ_43.1 35 ≤ 19 := hT.1 35
      have a43_31 : 0 ≤ τ_43.2.1 43 (τ_43.1 31) ∧ τ_43.2.1 43 (τ_43.1 31) ≤ 999 := hT.2 43 _
      exfalso; (first | omega | (simp only [st_s] <;> omega) | assumption | omega | fail)
    | succ m_43 ih_43 =>
      intro u5_43 τ_43 hm_43 hT W33 G47 i43_1 i43_2 i43_3 i43_4 i43_5 i43_6 i43_7 i43_8 i43_9 i43_10 i43_11
      have A40 : ∀ j, 0 ≤ τ_43.2.1 40 j ∧ τ_43.2.1 40 j ≤ 40000 := fun j => hT.2 40 j
      have A41 : ∀ j, 0 ≤ τ_43.2.1 41 j ∧ τ_43.2.1 41 j ≤ 1000 := fun j => hT.2 41 j
      have A43 : ∀ j, 0 ≤ τ_43.2.1 43 j ∧ τ_43.2.1 43 j ≤ 999 := fun j => hT.2 43 j
      have A47 : ∀ j, 0 ≤ τ_43.2.1 47 j ∧ τ_43.2.1 47 j ≤ 999 := fun j => hT.2 47 j
      have v30 : 0 ≤ τ_43.1 30 ∧ τ_43.1 30 ≤ 200 := hT.1 30
      have v31 : 0 ≤ τ_43.1 31 ∧ τ_43.1 31 ≤ 40000 := hT.1 31
      have v33 : 0 ≤ τ_43.1 33 ∧ τ_43.1 33 ≤ 40000 := hT.1 33
      have v35 : 0 ≤ τ_43.1 35 ∧ τ_43.1 35 ≤ 19 := hT.1 35
      have a43_31 : 0 ≤ τ_43.2.1 43 (τ_43.1 31) ∧ τ_43.2.1 43 (τ_43.1 31) ≤ 999 := hT.2 43 _
      refine h43 n2 n3 n4 u5_43 τ_43 ?_
      refine ⟨fun c8 => ?_, fun c8 => ?_⟩
      ·
        refine ⟨(show 0 ≤ τ_43.1 30 ∧ τ_43.1 30 < 202 from by (first | omega | (simp only [st_s] <;> omega) | assumption | omega | fail)), ?_⟩
        replace hT := mT_a (k := 40) (j := (τ_43.1 30)) hT (show (0 : Int) ≤ (τ_43.1 31) ∧ (τ_43.1 31) ≤ 40000 from by (first | omega | (simp only [st_s] <;> omega) | assumption | omega | fail))
        replace hT := mT_a (k := 41) (j := (τ_43.1 30)) hT (show (0 : Int) ≤ n3 ∧ n3 ≤ 1000 from by (first | omega | (simp only [st_s] <;> omega) | assumption | omega | fail))
        replace hT := mT_a (k := 42) (j := (τ_43.1 30)) hT (show (0 : Int) ≤ n4 ∧ n4 ≤ 20000 from by (first | omega | (simp only [st_s] <;> omega) | assumption | omega | fail))
        refine ⟨(⟨by (first | omega | (simp only [st_s] <;> omega) | assumption | omega | fail), by (first | omega | (simp only [st_s] <;> omega) | assumption | omega | fail)⟩ : rg (τ_43.1 31 + n3)), ?_⟩
        replace hT := mT_v (i := 31) hT (show 0 ≤ (τ_43.1 31 + n3) ∧ (τ_43.1 31 + n3) ≤ 40000 from by (first | omega | (simp only [st_s] <;> omega) | assumption | omega | fail))
        refine ⟨(⟨by (first | omega | (simp only [st_s] <;> omega) | assumption | omega | fail), by (first | omega | (simp only [st_s] <;> omega) | assumption | omega | fail)⟩ : rg (τ_43.1 30 + 1)), ?_⟩
        replace hT := mT_v (i := 30) hT (show 0 ≤ (τ_43.1 30 + 1) ∧ (τ_43.1 30 + 1) ≤ 200 from by (first | omega | (simp only [st_s] <;> omega) | assumption | omega | fail))
        exact ⟨hT, (show (σ.1 35) = 0 → (τ_43.1 35) = 0 → ((τ_43.1 30 + 1)) = (σ.1 30) + 1 ∧ 1 ≤ ((τ_43.1 30 + 1)) from by (first | omega | (simp only [st_s] <;> omega) | assumption | omega | fail)), (show ¬ (σ.1 35) = 0 → (τ_43.1 35) = (σ.1 35) from by (first | omega | (simp only [st_s] <;> omega) | assumption | omega | fail)), (show (σ.1 35) = 0 → (τ_43.1 35) = 0 → (¬ (σ.1 30) = 200 ∧ n3 ≤ 1000 ∧ (σ.1 31) + (σ.1 33) + n3 ≤ 40000) ∧ n_pu σ (s_v (s_v (s_a (s_a (s_a τ_43 40 (τ_43.1 30) (τ_43.1 31)) 41 (τ_43.1 30) n3) 42 (τ_43.1 30) n4) 31 (τ_43.1 31 + n3)) 30 (τ_43.1 30 + 1)) n3 (σ.2.1 47 n2) from by (first | (intro _ z; exfalso; omega) | (intro _ _; refine ⟨⟨by omega, by omega, by omega⟩, (show τ_43.1 30 + 1 = σ.1 30 + 1 from by omega), (show τ_43.1 31 + n3 = σ.1 31 + n3 from by omega), ?_, ?_, i43_9, fun z => i43_10 (by omega)⟩; (rw [show τ_43.1 30 = σ.1 30 from by omega, show τ_43.1 31 = σ.1 31 from by omega]; show st (τ_43.2.1 40) _ _ = _; rw [i43_11.1]); (rw [show τ_43.1 30 = σ.1 30 from by omega]; show st (τ_43.2.1 41) _ _ = _; rw [i43_11.2])) | fail)), (show (σ.1 35) = 0 → (¬ (σ.1 30) = 200 ∧ n3 ≤ 1000 ∧ (σ.1 31) + (σ.1 33) + n3 ≤ 40000) → (τ_43.1 35) = 0 from by (first | (intro _ h; exfalso; omega) | (intro _ _; omega) | fail))⟩
      ·
        refine ⟨(show 0 ≤ (n2 + u5_43) ∧ (n2 + u5_43) < 42000 from by (first | omega | (simp only [st_s] <;> omega) | assumption | omega | fail)), ?_⟩
        intro x13 r_x13 e_x13
        have b_x13 : 0 ≤ x13 ∧ x13 ≤ 999 := by rw [e_x13]; exact hT.2 47 _
        refine ⟨(show 0 ≤ (τ_43.1 31 + u5_43) ∧ (τ_43.1 31 + u5_43) < 42000 from by (first | omega | (simp only [st_s] <;> omega) | assumption | omega | fail)), ?_⟩
        replace hT := mT_a (k := 43) (j := (τ_43.1 31 + u5_43)) hT (show (0 : Int) ≤ x13 ∧ x13 ≤ 999 from by (first | omega | (simp only [st_s] <;> omega) | assumption | omega | fail))
        refine ⟨(⟨by (first | omega | (simp only [st_s] <;> omega) | assumption | omega | fail), by (first | omega | (simp only [st_s] <;> omega) | assumption | omega | fail)⟩ : rg (u5_43 + 1)), ?_⟩
        exact ih_43 _ _ (show (n3 - (u5_43 + 1) + 1 : Int) < ((m_43 : Nat) : Int) from by ((first | omega | (simp only [st_s] <;> omega) | assumption | omega | fail))) hT (show τ_43.1 33 = σ.1 33 from by first | exact W33 | omega) G47 (show n3 ≤ 1000 from by (first | omega | (simp only [st_s] <;> omega) | assumption | omega | fail)) (show (τ_43.1 30) = (σ.1 30) from by (first | omega | (simp only [st_s] <;> omega) | assumption | omega | fail)) (show (τ_43.1 31) = (σ.1 31) from by (first | omega | (simp only [st_s] <;> omega) | assumption | omega | fail)) (show (τ_43.1 35) = (σ.1 35) from by (first | omega | (simp only [st_s] <;> omega) | assumption | omega | fail)) (show (τ_43.1 31) + (τ_43.1 33) + n3 ≤ 40000 from by (first | omega | (simp only [st_s] <;> omega) | assumption | omega | fail)) (show ¬ (τ_43.1 30) = 200 from by (first | omega | (simp only [st_s] <;> omega) | assumption | omega | fail)) (show 0 ≤ (u5_43 + 1) from by (first | omega | (simp only [st_s] <;> omega) | assumption | omega | fail)) (show (u5_43 + 1) ≤ n3 from by (first | omega | (simp only [st_s] <;> omega) | assumption | omega | fail)) (show ∀ j : Int, j < (σ.1 31) → (st (τ_43.2.1 43) (τ_43.1 31 + u5_43) x13) j = σ.2.1 43 j from by (first | (intro j _; rfl) | (intro j hj; rw [st_n _ _ (by omega)]; exact i43_9 j hj) | fail)) (show 1 ≤ (u5_43 + 1) → (st (τ_43.2.1 43) (τ_43.1 31 + u5_43) x13) (σ.1 31) = σ.2.1 47 n2 from by (first | (intro z; exfalso; omega) | (intro _; by_cases z : u5_43 = 0; (rw [z, show τ_43.1 31 + 0 = σ.1 31 from by omega, st_s, e_x13, z, show n2 + 0 = n2 from by omega, G47]); (rw [st_n _ _ (by omega)]; exact i43_10 (by omega))) | fail)) (show τ_43.2.1 40 = σ.2.1 40 ∧ τ_43.2.1 41 = σ.2.1 41 from by (first | exact ⟨rfl, rfl⟩ | exact i43_11 | fail))
  refine ⟨fun c1 => ?_, fun c1 => ?_⟩
  ·
    refine h34 _ ?_
    refine ⟨_, K_X13_wrong hT (show 1 ≤ (5 : Int) from by (first | omega | (simp only [st_s] <;> omega) | assumption | omega | fail)) (show (5 : Int) ≤ 19 from by (first | omega | (simp only [st_s] <;> omega) | assumption | omega | fail)), ?_⟩
    intro τ7 hn_τ7 hf_τ7 hq
    obtain ⟨hT, q5_1, q5_2⟩ := hq
    replace q5_1 : ¬ (τ7.1 35) = 0 := q5_1
    replace q5_2 : ¬ (σ.1 35) = 0 → (τ7.1 35) = (σ.1 35) := q5_2
    have w30_τ7 : τ7.1 30 = σ.1 30 := hf_τ7.1 30 (by decide)
    have w31_τ7 : τ7.1 31 = σ.1 31 := hf_τ7.1 31 (by decide)
    have w33_τ7 : τ7.1 33 = σ.1 33 := hf_τ7.1 33 (by decide)
    have g40_τ7 : τ7.2.1 40 = σ.2.1 40 := hf_τ7.2.1 40 (by decide)
    have g41_τ7 : τ7.2.1 41 = σ.2.1 41 := hf_τ7.2.1 41 (by decide)
    have g43_τ7 : τ7.2.1 43 = σ.2.1 43 := hf_τ7.2.1 43 (by decide)
    have g47_τ7 : τ7.2.1 47 = σ.2.1 47 := hf_τ7.2.1 47 (by decide)
    have W33 : τ7.1 33 = σ.1 33 := by first | exact w33_τ7.trans W33 | omega
    have G47 : τ7.2.1 47 = σ.2.1 47 := (g47_τ7).trans G47
    have y43_31_τ7 : τ7.2.1 43 (τ7.1 31) = (σ.2.1 43) (σ.1 31) := by rw [g43_τ7, w31_τ7]
    have A40 : ∀ j, 0 ≤ τ7.2.1 40 j ∧ τ7.2.1 40 j ≤ 40000 := fun j => hT.2 40 j
    have A41 : ∀ j, 0 ≤ τ7.2.1 41 j ∧ τ7.2.1 41 j ≤ 1000 := fun j => hT.2 41 j
    have A43 : ∀ j, 0 ≤ τ7.2.1 43 j ∧ τ7.2.1 43 j ≤ 999 := fun j => hT.2 43 j
    have A47 : ∀ j, 0 ≤ τ7.2.1 47 j ∧ τ7.2.1 47 j ≤ 999 := fun j => hT.2 47 j
    have v30 : 0 ≤ τ7.1 30 ∧ τ7.1 30 ≤ 200 := hT.1 30
    have v31 : 0 ≤ τ7.1 31 ∧ τ7.1 31 ≤ 40000 := hT.1 31
    have v33 : 0 ≤ τ7.1 33 ∧ τ7.1 33 ≤ 40000 := hT.1 33
    have v35 : 0 ≤ τ7.1 35 ∧ τ7.1 35 ≤ 19 := hT.1 35
    have a43_31 : 0 ≤ τ7.2.1 43 (τ7.1 31) ∧ τ7.2.1 43 (τ7.1 31) ≤ 999 := hT.2 43 _
    exact ⟨hT, (show (σ.1 35) = 0 → (τ7.1 35) = 0 → (τ7.1 30) = (σ.1 30) + 1 ∧ 1 ≤ (τ7.1 30) from by (first | omega | (simp only [st_s] <;> omega) | assumption | omega | fail)), (show ¬ (σ.1 35) = 0 → (τ7.1 35) = (σ.1 35) from by (first | omega | (simp only [st_s] <;> omega) | assumption | omega | fail)), (show (σ.1 35) = 0 → (τ7.1 35) = 0 → (¬ (σ.1 30) = 200 ∧ n3 ≤ 1000 ∧ (σ.1 31) + (σ.1 33) + n3 ≤ 40000) ∧ n_pu σ τ7 n3 (σ.2.1 47 n2) from by (first | (intro _ z; exfalso; omega) | (intro _ _; refine ⟨⟨by omega, by omega, by omega⟩, (show τ_43.1 30 + 1 = σ.1 30 + 1 from by omega), (show τ_43.1 31 + n3 = σ.1 31 + n3 from by omega), ?_, ?_, i43_9, fun z => i43_10 (by omega)⟩; (rw [show τ_43.1 30 = σ.1 30 from by omega, show τ_43.1 31 = σ.1 31 from by omega]; show st (τ_43.2.1 40) _ _ = _; rw [i43_11.1]); (rw [show τ_43.1 30 = σ.1 30 from by omega]; show st (τ_43.2.1 41) _ _ = _; rw [i43_11.2])) | fail)), (show (σ.1 35) = 0 → (¬ (σ.1 30) = 200 ∧ n3 ≤ 1000 ∧ (σ.1 31) + (σ.1 33) + n3 ≤ 40000) → (τ7.1 35) = 0 from by (first | (intro _ h; exfalso; omega) | (intro _ _; omega) | fail))⟩
  ·
    refine ⟨fun c2 => ?_, fun c2 => ?_⟩
    ·
      refine h34 _ ?_
      refine ⟨_, K_X13_wrong hT (show 1 ≤ (5 : Int) from by (first | omega | (simp only [st_s] <;> omega) | assumption | omega | fail)) (show (5 : Int) ≤ 19 from by (first | omega | (simp only [st_s] <;> omega) | assumption | omega | fail)), ?_⟩
      intro τ7 hn_τ7 hf_τ7 hq
      obtain ⟨hT, q5_1, q5_2⟩ := hq
      replace q5_1 : ¬ (τ7.1 35) = 0 := q5_1
      replace q5_2 : ¬ (σ.1 35) = 0 → (τ7.1 35) = (σ.1 35) := q5_2
      have w30_τ7 : τ7.1 30 = σ.1 30 := hf_τ7.1 30 (by decide)
      have w31_τ7 : τ7.1 31 = σ.1 31 := hf_τ7.1 31 (by decide)
      have w33_τ7 : τ7.1 33 = σ.1 33 := hf_τ7.1 33 (by decide)
      have g40_τ7 : τ7.2.1 40 = σ.2.1 40 := hf_τ7.2.1 40 (by decide)
      have g41_τ7 : τ7.2.1 41 = σ.2.1 41 := hf_τ7.2.1 41 (by decide)
      have g43_τ7 : τ7.2.1 43 = σ.2.1 43 := hf_τ7.2.1 43 (by decide)
      have g47_τ7 : τ7.2.1 47 = σ.2.1 47 := hf_τ7.2.1 47 (by decide)
      have W33 : τ7.1 33 = σ.1 33 := by first | exact w33_τ7.trans W33 | omega
      have G47 : τ7.2.1 47 = σ.2.1 47 := (g47_τ7).trans G47
      have y43_31_τ7 : τ7.2.1 43 (τ7.1 31) = (σ.2.1 43) (σ.1 31) := by rw [g43_τ7, w31_τ7]
      have A40 : ∀ j, 0 ≤ τ7.2.1 40 j ∧ τ7.2.1 40 j ≤ 40000 := fun j => hT.2 40 j
      have A41 : ∀ j, 0 ≤ τ7.2.1 41 j ∧ τ7.2.1 41 j ≤ 1000 := fun j => hT.2 41 j
      have A43 : ∀ j, 0 ≤ τ7.2.1 43 j ∧ τ7.2.1 43 j ≤ 999 := fun j => hT.2 43 j
      have A47 : ∀ j, 0 ≤ τ7.2.1 47 j ∧ τ7.2.1 47 j ≤ 999 := fun j => hT.2 47 j
      have v30 : 0 ≤ τ7.1 30 ∧ τ7.1 30 ≤ 200 := hT.1 30
      have v31 : 0 ≤ τ7.1 31 ∧ τ7.1 31 ≤ 40000 := hT.1 31
      have v33 : 0 ≤ τ7.1 33 ∧ τ7.1 33 ≤ 40000 := hT.1 33
      have v35 : 0 ≤ τ7.1 35 ∧ τ7.1 35 ≤ 19 := hT.1 35
      have a43_31 : 0 ≤ τ7.2.1 43 (τ7.1 31) ∧ τ7.2.1 43 (τ7.1 31) ≤ 999 := hT.2 43 _
      exact ⟨hT, (show (σ.1 35) = 0 → (τ7.1 35) = 0 → (τ7.1 30) = (σ.1 30) + 1 ∧ 1 ≤ (τ7.1 30) from by (first | omega | (simp only [st_s] <;> omega) | assumption | omega | fail)), (show ¬ (σ.1 35) = 0 → (τ7.1 35) = (σ.1 35) from by (first | omega | (simp only [st_s] <;> omega) | assumption | omega | fail)), (show (σ.1 35) = 0 → (τ7.1 35) = 0 → (¬ (σ.1 30) = 200 ∧ n3 ≤ 1000 ∧ (σ.1 31) + (σ.1 33) + n3 ≤ 40000) ∧ n_pu σ τ7 n3 (σ.2.1 47 n2) from by (first | (intro _ z; exfalso; omega) | (intro _ _; refine ⟨⟨by omega, by omega, by omega⟩, (show τ_43.1 30 + 1 = σ.1 30 + 1 from by omega), (show τ_43.1 31 + n3 = σ.1 31 + n3 from by omega), ?_, ?_, i43_9, fun z => i43_10 (by omega)⟩; (rw [show τ_43.1 30 = σ.1 30 from by omega, show τ_43.1 31 = σ.1 31 from by omega]; show st (τ_43.2.1 40) _ _ = _; rw [i43_11.1]); (rw [show τ_43.1 30 = σ.1 30 from by omega]; show st (τ_43.2.1 41) _ _ = _; rw [i43_11.2])) | fail)), (show (σ.1 35) = 0 → (¬ (σ.1 30) = 200 ∧ n3 ≤ 1000 ∧ (σ.1 31) + (σ.1 33) + n3 ≤ 40000) → (τ7.1 35) = 0 from by (first | (intro _ h; exfalso; omega) | (intro _ _; omega) | fail))⟩
    ·
      refine ⟨(⟨by (first | omega | (simp only [st_s] <;> omega) | assumption | omega | fail), by (first | omega | (simp only [st_s] <;> omega) | assumption | omega | fail)⟩ : rg ((σ.1 31 + σ.1 33) + n3)), ?_⟩
      refine ⟨fun c4 => ?_, fun c4 => ?_⟩
      ·
        exact l_43 ((n3 - 0 + 1 : Int).toNat + 1) _ _ (show (n3 - 0 + 1 : Int) < (((n3 - 0 + 1 : Int).toNat + 1 : Nat) : Int) from by ((first | omega | (simp only [st_s] <;> omega) | assumption | omega | fail))) hT (show σ.1 33 = σ.1 33 from by first | exact W33 | omega) G47 (show n3 ≤ 1000 from by (first | omega | (simp only [st_s] <;> omega) | assumption | omega | fail)) (show (σ.1 30) = (σ.1 30) from by (first | omega | (simp only [st_s] <;> omega) | assumption | omega | fail)) (show (σ.1 31) = (σ.1 31) from by (first | omega | (simp only [st_s] <;> omega) | assumption | omega | fail)) (show (σ.1 35) = (σ.1 35) from by (first | omega | (simp only [st_s] <;> omega) | assumption | omega | fail)) (show (σ.1 31) + (σ.1 33) + n3 ≤ 40000 from by (first | omega | (simp only [st_s] <;> omega) | assumption | omega | fail)) (show ¬ (σ.1 30) = 200 from by (first | omega | (simp only [st_s] <;> omega) | assumption | omega | fail)) (show 0 ≤ 0 from by (first | omega | (simp only [st_s] <;> omega) | assumption | omega | fail)) (show 0 ≤ n3 from by (first | omega | (simp only [st_s] <;> omega) | assumption | omega | fail)) (show ∀ j : Int, j < (σ.1 31) → σ.2.1 43 j = σ.2.1 43 j from by (first | (intro j _; rfl) | (intro j hj; rw [st_n _ _ (by omega)]; exact i43_9 j hj) | fail)) (show 1 ≤ 0 → σ.2.1 43 (σ.1 31) = σ.2.1 47 n2 from by (first | (intro z; exfalso; omega) | (intro _; by_cases z : u5_43 = 0; (rw [z, show τ_43.1 31 + 0 = σ.1 31 from by omega, st_s, e_x13, z, show n2 + 0 = n2 from by omega, G47]); (rw [st_n _ _ (by omega)]; exact i43_10 (by omega))) | fail)) (show σ.2.1 40 = σ.2.1 40 ∧ σ.2.1 41 = σ.2.1 41 from by (first | exact ⟨rfl, rfl⟩ | exact i43_11 | fail))
      ·
        refine h34 _ ?_
        refine ⟨_, K_X13_wrong hT (show 1 ≤ (5 : Int) from by (first | omega | (simp only [st_s] <;> omega) | assumption | omega | fail)) (show (5 : Int) ≤ 19 from by (first | omega | (simp only [st_s] <;> omega) | assumption | omega | fail)), ?_⟩
        intro τ7 hn_τ7 hf_τ7 hq
        obtain ⟨hT, q5_1, q5_2⟩ := hq
        replace q5_1 : ¬ (τ7.1 35) = 0 := q5_1
        replace q5_2 : ¬ (σ.1 35) = 0 → (τ7.1 35) = (σ.1 35) := q5_2
        have w30_τ7 : τ7.1 30 = σ.1 30 := hf_τ7.1 30 (by decide)
        have w31_τ7 : τ7.1 31 = σ.1 31 := hf_τ7.1 31 (by decide)
        have w33_τ7 : τ7.1 33 = σ.1 33 := hf_τ7.1 33 (by decide)
        have g40_τ7 : τ7.2.1 40 = σ.2.1 40 := hf_τ7.2.1 40 (by decide)
        have g41_τ7 : τ7.2.1 41 = σ.2.1 41 := hf_τ7.2.1 41 (by decide)
        have g43_τ7 : τ7.2.1 43 = σ.2.1 43 := hf_τ7.2.1 43 (by decide)
        have g47_τ7 : τ7.2.1 47 = σ.2.1 47 := hf_τ7.2.1 47 (by decide)
        have W33 : τ7.1 33 = σ.1 33 := by first | exact w33_τ7.trans W33 | omega
        have G47 : τ7.2.1 47 = σ.2.1 47 := (g47_τ7).trans G47
        have y43_31_τ7 : τ7.2.1 43 (τ7.1 31) = (σ.2.1 43) (σ.1 31) := by rw [g43_τ7, w31_τ7]
        have A40 : ∀ j, 0 ≤ τ7.2.1 40 j ∧ τ7.2.1 40 j ≤ 40000 := fun j => hT.2 40 j
        have A41 : ∀ j, 0 ≤ τ7.2.1 41 j ∧ τ7.2.1 41 j ≤ 1000 := fun j => hT.2 41 j
        have A43 : ∀ j, 0 ≤ τ7.2.1 43 j ∧ τ7.2.1 43 j ≤ 999 := fun j => hT.2 43 j
        have A47 : ∀ j, 0 ≤ τ7.2.1 47 j ∧ τ7.2.1 47 j ≤ 999 := fun j => hT.2 47 j
        have v30 : 0 ≤ τ7.1 30 ∧ τ7.1 30 ≤ 200 := hT.1 30
        have v31 : 0 ≤ τ7.1 31 ∧ τ7.1 31 ≤ 40000 := hT.1 31
        have v33 : 0 ≤ τ7.1 33 ∧ τ7.1 33 ≤ 40000 := hT.1 33
        have v35 : 0 ≤ τ7.1 35 ∧ τ7.1 35 ≤ 19 := hT.1 35
        have a43_31 : 0 ≤ τ7.2.1 43 (τ7.1 31) ∧ τ7.2.1 43 (τ7.1 31) ≤ 999 := hT.2 43 _
        exact ⟨hT, (show (σ.1 35) = 0 → (τ7.1 35) = 0 → (τ7.1 30) = (σ.1 30) + 1 ∧ 1 ≤ (τ7.1 30) from by (first | omega | (simp only [st_s] <;> omega) | assumption | omega | fail)), (show ¬ (σ.1 35) = 0 → (τ7.1 35) = (σ.1 35) from by (first | omega | (simp only [st_s] <;> omega) | assumption | omega | fail)), (show (σ.1 35) = 0 → (τ7.1 35) = 0 → (¬ (σ.1 30) = 200 ∧ n3 ≤ 1000 ∧ (σ.1 31) + (σ.1 33) + n3 ≤ 40000) ∧ n_pu σ τ7 n3 (σ.2.1 47 n2) from by (first | (intro _ z; exfalso; omega) | (intro _ _; refine ⟨⟨by omega, by omega, by omega⟩, (show τ_43.1 30 + 1 = σ.1 30 + 1 from by omega), (show τ_43.1 31 + n3 = σ.1 31 + n3 from by omega), ?_, ?_, i43_9, fun z => i43_10 (by omega)⟩; (rw [show τ_43.1 30 = σ.1 30 from by omega, show τ_43.1 31 = σ.1 31 from by omega]; show st (τ_43.2.1 40) _ _ = _; rw [i43_11.1]); (rw [show τ_43.1 30 = σ.1 30 from by omega]; show st (τ_43.2.1 41) _ _ = _; rw [i43_11.2])) | fail)), (show (σ.1 35) = 0 → (¬ (σ.1 30) = 200 ∧ n3 ≤ 1000 ∧ (σ.1 31) + (σ.1 33) + n3 ≤ 40000) → (τ7.1 35) = 0 from by (first | (intro _ h; exfalso; omega) | (intro _ _; omega) | fail))⟩
set_option maxHeartbeats 1000000 in
theorem K3_X13_saveTop {σ : S0} (hT : m_T σ) (p1 : 1 ≤ (σ.1 30)) (p2 : (σ.1 32) < 300) : W_X13_saveTop σ (fun (τ : S0) => (m_T τ) ∧ (¬ (σ.1 35) = 0 → (τ.1 35) = (σ.1 35)) ∧ ((τ.1 32) ≤ (σ.1 32) + 1) ∧ ((σ.1 35) = 0 → (τ.1 35) = 0 → (σ.1 31) + (σ.1 33) + σ.2.1 41 ((σ.1 30) - 1) ≤ 40000 ∧ n_sv σ τ (σ.2.1 41 ((σ.1 30) - 1)) (σ.2.1 43 (σ.2.1 40 ((σ.1 30) - 1)))) ∧ ((σ.1 35) = 0 → (σ.1 31) + (σ.1 33) + σ.2.1 41 ((σ.1 30) - 1) ≤ 40000 → (τ.1 35) = 0)) := by
  have A40 : ∀ j, 0 ≤ σ.2.1 40 j ∧ σ.2.1 40 j ≤ 40000 := fun j => hT.2 40 j
  have A41 : ∀ j, 0 ≤ σ.2.1 41 j ∧ σ.2.1 41 j ≤ 1000 := fun j => hT.2 41 j
  have A43 : ∀ j, 0 ≤ σ.2.1 43 j ∧ σ.2.1 43 j ≤ 999 := fun j => hT.2 43 j
  have A44 : ∀ j, 0 ≤ σ.2.1 44 j ∧ σ.2.1 44 j ≤ 40000 := fun j => hT.2 44 j
  have A45 : ∀ j, 0 ≤ σ.2.1 45 j ∧ σ.2.1 45 j ≤ 1000 := fun j => hT.2 45 j
  have A47 : ∀ j, 0 ≤ σ.2.1 47 j ∧ σ.2.1 47 j ≤ 999 := fun j => hT.2 47 j
  have v30 : 0 ≤ σ.1 30 ∧ σ.1 30 ≤ 200 := hT.1 30
  have v31 : 0 ≤ σ.1 31 ∧ σ.1 31 ≤ 40000 := hT.1 31
  have v32 : 0 ≤ σ.1 32 ∧ σ.1 32 ≤ 300 := hT.1 32
  have v33 : 0 ≤ σ.1 33 ∧ σ.1 33 ≤ 40000 := hT.1 33
  have v35 : 0 ≤ σ.1 35 ∧ σ.1 35 ≤ 19 := hT.1 35
  have a47_33 : 0 ≤ σ.2.1 47 (σ.1 33) ∧ σ.2.1 47 (σ.1 33) ≤ 999 := hT.2 47 _
  have W30 : σ.1 30 = σ.1 30 := rfl
  have W31 : σ.1 31 = σ.1 31 := rfl
  have G40 : σ.2.1 40 = σ.2.1 40 := rfl
  have G41 : σ.2.1 41 = σ.2.1 41 := rfl
  have G43 : σ.2.1 43 = σ.2.1 43 := rfl
  intro P37 h37
  have l_37 : ∀ (m_37 : Nat) (u1_37 : Int) (u2_37 : Int) (τ_37 : S0), 1001 - u2_37 < (m_37 : Int) → (m_T τ_37) → (τ_37.1 30 = σ.1 30) → (τ_37.1 31 = σ.1 31) → (τ_37.2.1 40 = σ.2.1 40) → (τ_37.2.1 41 = σ.2.1 41) → (τ_37.2.1 43 = σ.2.1 43) → (0 ≤ u1_37) → (u1_37 ≤ 1000) → ((τ_37.1 31) + (τ_37.1 33) + u1_37 ≤ 40000) → ((τ_37.1 32) = (σ.1 32)) → ((τ_37.1 33) = (σ.1 33)) → ((τ_37.1 35) = (σ.1 35)) → (0 ≤ u2_37) → (u2_37 ≤ u1_37) → (u1_37 = σ.2.1 41 ((σ.1 30) - 1)) → (∀ j : Int, j < (σ.1 33) → τ_37.2.1 47 j = σ.2.1 47 j) → (1 ≤ u2_37 → τ_37.2.1 47 (σ.1 33) = σ.2.1 43 (σ.2.1 40 ((σ.1 30) - 1))) → (τ_37.2.1 44 = σ.2.1 44 ∧ τ_37.2.1 45 = σ.2.1 45) → P37 u1_37 u2_37 τ_37 := by
    intro m_37
    induction m_37 with
    | zero =>
      intro u1_37 u2_37 τ_37 hm hT W30 W31 G40 G41 G43 i37_1 i37_2 i37_3 i37_4 i37_5 i37_6 i37_7 i37_8 i37_9 i37_10 i37_11 i37_12
      have A40 : ∀ j, 0 ≤ τ_37.2.1 40 j ∧ τ_37.2.1 40 j ≤ 40000 := fun j => hT.2 40 j
      have A41 : ∀ j, 0 ≤ τ_37.2.1 41 j ∧ τ_37.2.1 41 j ≤ 1000 := fun j => hT.2 41 j
      have A43 : ∀ j, 0 ≤ τ_37.2.1 43 j ∧ τ_37.2.1 43 j ≤ 999 := fun j => hT.2 43 j
      have A44 : ∀ j, 0 ≤ τ_37.2.1 44 j ∧ τ_37.2.1 44 j ≤ 40000 := fun j => hT.2 44 j
      have A45 : ∀ j, 0 ≤ τ_37.2.1 45 j ∧ τ_37.2.1 45 j ≤ 1000 := fun j => hT.2 45 j
      have A47 : ∀ j, 0 ≤ τ_37.2.1 47 j ∧ τ_37.2.1 47 j ≤ 999 := fun j => hT.2 47 j
      have v30 : 0 ≤ τ_37.1 30 ∧ τ_37.1 30 ≤ 200 := hT.1 30
      have v31 : 0 ≤ τ_37.1 31 ∧ τ_37.1 31 ≤ 40000 := hT.1 31
      have v32 : 0 ≤ τ_37.1 32 ∧ τ_37.1 32 ≤ 300 := hT.1 32
      have v33 : 0 ≤ τ_37.1 33 ∧ τ_37.1 33 ≤ 40000 := hT.1 33
      have v35 : 0 ≤ τ_37.1 35 ∧ τ_37.1 35 ≤ 19 := hT.1 35
      have a47_33 : 0 ≤ τ_37.2.1 47 (τ_37.1 33) ∧ τ_37.2.1 47 (τ_37.1 33) ≤ 999 := hT.2 47 _
      exfalso; (first | omega | (simp only [st_s] <;> omega) | assumption | omega | fail)
    | succ m_37 ih_37 =>
      intro u1_37 u2_37 τ_37 hm_37 hT W30 W31 G40 G41 G43 i37_1 i37_2 i37_3 i37_4 i37_5 i37_6 i37_7 i37_8 i37_9 i37_10 i37_11 i37_12
      have A40 : ∀ j, 0 ≤ τ_37.2.1 40 j ∧ τ_37.2.1 40 j ≤ 40000 := fun j => hT.2 40 j
      have A41 : ∀ j, 0 ≤ τ_37.2.1 41 j ∧ τ_37.2.1 41 j ≤ 1000 := fun j => hT.2 41 j
      have A43 : ∀ j, 0 ≤ τ_37.2.1 43 j ∧ τ_37.2.1 43 j ≤ 999 := fun j => hT.2 43 j
      have A44 : ∀ j, 0 ≤ τ_37.2.1 44 j ∧ τ_37.2.1 44 j ≤ 40000 := fun j => hT.2 44 j
      have A45 : ∀ j, 0 ≤ τ_37.2.1 45 j ∧ τ_37.2.1 45 j ≤ 1000 := fun j => hT.2 45 j
      have A47 : ∀ j, 0 ≤ τ_37.2.1 47 j ∧ τ_37.2.1 47 j ≤ 999 := fun j => hT.2 47 j
      have v30 : 0 ≤ τ_37.1 30 ∧ τ_37.1 30 ≤ 200 := hT.1 30
      have v31 : 0 ≤ τ_37.1 31 ∧ τ_37.1 31 ≤ 40000 := hT.1 31
      have v32 : 0 ≤ τ_37.1 32 ∧ τ_37.1 32 ≤ 300 := hT.1 32
      have v33 : 0 ≤ τ_37.1 33 ∧ τ_37.1 33 ≤ 40000 := hT.1 33
      have v35 : 0 ≤ τ_37.1 35 ∧ τ_37.1 35 ≤ 19 := hT.1 35
      have a47_33 : 0 ≤ τ_37.2.1 47 (τ_37.1 33) ∧ τ_37.2.1 47 (τ_37.1 33) ≤ 999 := hT.2 47 _
      refine h37 u1_37 u2_37 τ_37 ?_
      refine ⟨fun c8 => ?_, fun c8 => ?_⟩
      ·
        refine ⟨(show 0 ≤ τ_37.1 32 ∧ τ_37.1 32 < 300 from by (first | omega | (simp only [st_s] <;> omega) | assumption | omega | fail)), ?_⟩
        replace hT := mT_a (k := 44) (j := (τ_37.1 32)) hT (show (0 : Int) ≤ (τ_37.1 33) ∧ (τ_37.1 33) ≤ 40000 from by (first | omega | (simp only [st_s] <;> omega) | assumption | omega | fail))
        replace hT := mT_a (k := 45) (j := (τ_37.1 32)) hT (show (0 : Int) ≤ u1_37 ∧ u1_37 ≤ 1000 from by (first | omega | (simp only [st_s] <;> omega) | assumption | omega | fail))
        refine ⟨(show 0 ≤ (τ_37.1 30 - 1) ∧ (τ_37.1 30 - 1) < 202 from by (first | omega | (simp only [st_s] <;> omega) | assumption | omega | fail)), ?_⟩
        intro x11 r_x11 e_x11
        have b_x11 : 0 ≤ x11 ∧ x11 ≤ 20000 := by rw [e_x11]; exact hT.2 42 _
        replace hT := mT_a (k := 46) (j := (τ_37.1 32)) hT (show (0 : Int) ≤ x11 ∧ x11 ≤ 20000 from by (first | omega | (simp only [st_s] <;> omega) | assumption | omega | fail))
        refine ⟨(⟨by (first | omega | (simp only [st_s] <;> omega) | assumption | omega | fail), by (first | omega | (simp only [st_s] <;> omega) | assumption | omega | fail)⟩ : rg (τ_37.1 33 + u1_37)), ?_⟩
        replace hT := mT_v (i := 33) hT (show 0 ≤ (τ_37.1 33 + u1_37) ∧ (τ_37.1 33 + u1_37) ≤ 40000 from by (first | omega | (simp only [st_s] <;> omega) | assumption | omega | fail))
        refine ⟨(⟨by (first | omega | (simp only [st_s] <;> omega) | assumption | omega | fail), by (first | omega | (simp only [st_s] <;> omega) | assumption | omega | fail)⟩ : rg (τ_37.1 32 + 1)), ?_⟩
        replace hT := mT_v (i := 32) hT (show 0 ≤ (τ_37.1 32 + 1) ∧ (τ_37.1 32 + 1) ≤ 300 from by (first | omega | (simp only [st_s] <;> omega) | assumption | omega | fail))
        exact ⟨hT, (show ¬ (σ.1 35) = 0 → (τ_37.1 35) = (σ.1 35) from by (first | omega | (simp only [st_s] <;> omega) | assumption | omega | fail)), (show ((τ_37.1 32 + 1)) ≤ (σ.1 32) + 1 from by (first | omega | (simp only [st_s] <;> omega) | assumption | omega | fail)), (show (σ.1 35) = 0 → (τ_37.1 35) = 0 → (σ.1 31) + (σ.1 33) + σ.2.1 41 ((σ.1 30) - 1) ≤ 40000 ∧ n_sv σ (s_v (s_v (s_a (s_a (s_a τ_37 44 (τ_37.1 32) (τ_37.1 33)) 45 (τ_37.1 32) u1_37) 46 (τ_37.1 32) x11) 33 (τ_37.1 33 + u1_37)) 32 (τ_37.1 32 + 1)) (σ.2.1 41 ((σ.1 30) - 1)) (σ.2.1 43 (σ.2.1 40 ((σ.1 30) - 1))) from by (first | (intro _ z; exfalso; omega) | (intro _ _; rw [← i37_9]; refine ⟨by omega, (show τ_37.1 32 + 1 = σ.1 32 + 1 from by omega), (show τ_37.1 33 + u1_37 = σ.1 33 + u1_37 from by omega), ?_, ?_, i37_10, fun z => i37_11 (by omega)⟩; (show st (τ_37.2.1 44) (τ_37.1 32) (τ_37.1 33) = _; rw [i37_12.1, show τ_37.1 32 = σ.1 32 from by omega, show τ_37.1 33 = σ.1 33 from by omega]); (show st (τ_37.2.1 45) (τ_37.1 32) u1_37 = _; rw [i37_12.2, show τ_37.1 32 = σ.1 32 from by omega])) | fail)), (show (σ.1 35) = 0 → (σ.1 31) + (σ.1 33) + σ.2.1 41 ((σ.1 30) - 1) ≤ 40000 → (τ_37.1 35) = 0 from by (first | (intro _ h; exfalso; omega) | (intro _ _; omega) | fail))⟩
      ·
        refine ⟨(show 0 ≤ (τ_37.1 30 - 1) ∧ (τ_37.1 30 - 1) < 202 from by (first | omega | (simp only [st_s] <;> omega) | assumption | omega | fail)), ?_⟩
        intro x15 r_x15 e_x15
        have b_x15 : 0 ≤ x15 ∧ x15 ≤ 40000 := by rw [e_x15]; exact hT.2 40 _
        refine ⟨(show 0 ≤ (x15 + u2_37) ∧ (x15 + u2_37) < 42000 from by (first | omega | (simp only [st_s] <;> omega) | assumption | omega | fail)), ?_⟩
        intro x17 r_x17 e_x17
        have b_x17 : 0 ≤ x17 ∧ x17 ≤ 999 := by rw [e_x17]; exact hT.2 43 _
        refine ⟨(show 0 ≤ (τ_37.1 33 + u2_37) ∧ (τ_37.1 33 + u2_37) < 42000 from by (first | omega | (simp only [st_s] <;> omega) | assumption | omega | fail)), ?_⟩
        replace hT := mT_a (k := 47) (j := (τ_37.1 33 + u2_37)) hT (show (0 : Int) ≤ x17 ∧ x17 ≤ 999 from by (first | omega | (simp only [st_s] <;> omega) | assumption | omega | fail))
        refine ⟨(⟨by (first | omega | (simp only [st_s] <;> omega) | assumption | omega | fail), by (first | omega | (simp only [st_s] <;> omega) | assumption | omega | fail)⟩ : rg (u2_37 + 1)), ?_⟩
        exact ih_37 _ _ _ (show (1001 - (u2_37 + 1) : Int) < ((m_37 : Nat) : Int) from by ((first | omega | (simp only [st_s] <;> omega) | assumption | omega | fail))) hT (show τ_37.1 30 = σ.1 30 from by first | exact W30 | omega) (show τ_37.1 31 = σ.1 31 from by first | exact W31 | omega) G40 G41 G43 (show 0 ≤ u1_37 from by (first | omega | (simp only [st_s] <;> omega) | assumption | omega | fail)) (show u1_37 ≤ 1000 from by (first | omega | (simp only [st_s] <;> omega) | assumption | omega | fail)) (show (τ_37.1 31) + (τ_37.1 33) + u1_37 ≤ 40000 from by (first | omega | (simp only [st_s] <;> omega) | assumption | omega | fail)) (show (τ_37.1 32) = (σ.1 32) from by (first | omega | (simp only [st_s] <;> omega) | assumption | omega | fail)) (show (τ_37.1 33) = (σ.1 33) from by (first | omega | (simp only [st_s] <;> omega) | assumption | omega | fail)) (show (τ_37.1 35) = (σ.1 35) from by (first | omega | (simp only [st_s] <;> omega) | assumption | omega | fail)) (show 0 ≤ (u2_37 + 1) from by (first | omega | (simp only [st_s] <;> omega) | assumption | omega | fail)) (show (u2_37 + 1) ≤ u1_37 from by (first | omega | (simp only [st_s] <;> omega) | assumption | omega | fail)) (show u1_37 = σ.2.1 41 ((σ.1 30) - 1) from by (first | exact e_x2 | exact i37_9 | fail)) (show ∀ j : Int, j < (σ.1 33) → (st (τ_37.2.1 47) (τ_37.1 33 + u2_37) x17) j = σ.2.1 47 j from by (first | (intro j _; rfl) | (intro j hj; rw [st_n _ _ (by omega)]; exact i37_10 j hj) | fail)) (show 1 ≤ (u2_37 + 1) → (st (τ_37.2.1 47) (τ_37.1 33 + u2_37) x17) (σ.1 33) = σ.2.1 43 (σ.2.1 40 ((σ.1 30) - 1)) from by (first | (intro z; exfalso; omega) | (intro _; by_cases z : u2_37 = 0; (rw [z, show τ_37.1 33 + 0 = σ.1 33 from by omega, st_s, e_x17, z, e_x15, G43, G40, W30, show σ.2.1 40 (σ.1 30 - 1) + 0 = σ.2.1 40 (σ.1 30 - 1) from by omega]); (rw [st_n _ _ (by omega)]; exact i37_11 (by omega))) | fail)) (show τ_37.2.1 44 = σ.2.1 44 ∧ τ_37.2.1 45 = σ.2.1 45 from by (first | exact ⟨rfl, rfl⟩ | exact i37_12 | fail))
  refine ⟨(show 0 ≤ (σ.1 30 - 1) ∧ (σ.1 30 - 1) < 202 from by (first | omega | (simp only [st_s] <;> omega) | assumption | omega | fail)), ?_⟩
  intro x2 r_x2 e_x2
  have b_x2 : 0 ≤ x2 ∧ x2 ≤ 1000 := by rw [e_x2]; exact hT.2 41 _
  refine ⟨(⟨by (first | omega | (simp only [st_s] <;> omega) | assumption | omega | fail), by (first | omega | (simp only [st_s] <;> omega) | assumption | omega | fail)⟩ : rg ((σ.1 31 + σ.1 33) + x2)), ?_⟩
  refine ⟨fun c4 => ?_, fun c4 => ?_⟩
  ·
    exact l_37 ((1001 - 0 : Int).toNat + 1) _ _ _ (show (1001 - 0 : Int) < (((1001 - 0 : Int).toNat + 1 : Nat) : Int) from by ((first | omega | (simp only [st_s] <;> omega) | assumption | omega | fail))) hT (show σ.1 30 = σ.1 30 from by first | exact W30 | omega) (show σ.1 31 = σ.1 31 from by first | exact W31 | omega) G40 G41 G43 (show 0 ≤ x2 from by (first | omega | (simp only [st_s] <;> omega) | assumption | omega | fail)) (show x2 ≤ 1000 from by (first | omega | (simp only [st_s] <;> omega) | assumption | omega | fail)) (show (σ.1 31) + (σ.1 33) + x2 ≤ 40000 from by (first | omega | (simp only [st_s] <;> omega) | assumption | omega | fail)) (show (σ.1 32) = (σ.1 32) from by (first | omega | (simp only [st_s] <;> omega) | assumption | omega | fail)) (show (σ.1 33) = (σ.1 33) from by (first | omega | (simp only [st_s] <;> omega) | assumption | omega | fail)) (show (σ.1 35) = (σ.1 35) from by (first | omega | (simp only [st_s] <;> omega) | assumption | omega | fail)) (show 0 ≤ 0 from by (first | omega | (simp only [st_s] <;> omega) | assumption | omega | fail)) (show 0 ≤ x2 from by (first | omega | (simp only [st_s] <;> omega) | assumption | omega | fail)) (show x2 = σ.2.1 41 ((σ.1 30) - 1) from by (first | exact e_x2 | exact i37_9 | fail)) (show ∀ j : Int, j < (σ.1 33) → σ.2.1 47 j = σ.2.1 47 j from by (first | (intro j _; rfl) | (intro j hj; rw [st_n _ _ (by omega)]; exact i37_10 j hj) | fail)) (show 1 ≤ 0 → σ.2.1 47 (σ.1 33) = σ.2.1 43 (σ.2.1 40 ((σ.1 30) - 1)) from by (first | (intro z; exfalso; omega) | (intro _; by_cases z : u2_37 = 0; (rw [z, show τ_37.1 33 + 0 = σ.1 33 from by omega, st_s, e_x17, z, e_x15, G43, G40, W30, show σ.2.1 40 (σ.1 30 - 1) + 0 = σ.2.1 40 (σ.1 30 - 1) from by omega]); (rw [st_n _ _ (by omega)]; exact i37_11 (by omega))) | fail)) (show σ.2.1 44 = σ.2.1 44 ∧ σ.2.1 45 = σ.2.1 45 from by (first | exact ⟨rfl, rfl⟩ | exact i37_12 | fail))
  ·
    refine ⟨_, K_X13_wrong hT (show 1 ≤ (5 : Int) from by (first | omega | (simp only [st_s] <;> omega) | assumption | omega | fail)) (show (5 : Int) ≤ 19 from by (first | omega | (simp only [st_s] <;> omega) | assumption | omega | fail)), ?_⟩
    intro τ7 hn_τ7 hf_τ7 hq
    obtain ⟨hT, q5_1, q5_2⟩ := hq
    replace q5_1 : ¬ (τ7.1 35) = 0 := q5_1
    replace q5_2 : ¬ (σ.1 35) = 0 → (τ7.1 35) = (σ.1 35) := q5_2
    have w30_τ7 : τ7.1 30 = σ.1 30 := hf_τ7.1 30 (by decide)
    have w31_τ7 : τ7.1 31 = σ.1 31 := hf_τ7.1 31 (by decide)
    have w32_τ7 : τ7.1 32 = σ.1 32 := hf_τ7.1 32 (by decide)
    have w33_τ7 : τ7.1 33 = σ.1 33 := hf_τ7.1 33 (by decide)
    have g40_τ7 : τ7.2.1 40 = σ.2.1 40 := hf_τ7.2.1 40 (by decide)
    have g41_τ7 : τ7.2.1 41 = σ.2.1 41 := hf_τ7.2.1 41 (by decide)
    have g43_τ7 : τ7.2.1 43 = σ.2.1 43 := hf_τ7.2.1 43 (by decide)
    have g44_τ7 : τ7.2.1 44 = σ.2.1 44 := hf_τ7.2.1 44 (by decide)
    have g45_τ7 : τ7.2.1 45 = σ.2.1 45 := hf_τ7.2.1 45 (by decide)
    have g47_τ7 : τ7.2.1 47 = σ.2.1 47 := hf_τ7.2.1 47 (by decide)
    have W30 : τ7.1 30 = σ.1 30 := by first | exact w30_τ7.trans W30 | omega
    have W31 : τ7.1 31 = σ.1 31 := by first | exact w31_τ7.trans W31 | omega
    have G40 : τ7.2.1 40 = σ.2.1 40 := (g40_τ7).trans G40
    have G41 : τ7.2.1 41 = σ.2.1 41 := (g41_τ7).trans G41
    have G43 : τ7.2.1 43 = σ.2.1 43 := (g43_τ7).trans G43
    have y47_33_τ7 : τ7.2.1 47 (τ7.1 33) = (σ.2.1 47) (σ.1 33) := by rw [g47_τ7, w33_τ7]
    have A40 : ∀ j, 0 ≤ τ7.2.1 40 j ∧ τ7.2.1 40 j ≤ 40000 := fun j => hT.2 40 j
    have A41 : ∀ j, 0 ≤ τ7.2.1 41 j ∧ τ7.2.1 41 j ≤ 1000 := fun j => hT.2 41 j
    have A43 : ∀ j, 0 ≤ τ7.2.1 43 j ∧ τ7.2.1 43 j ≤ 999 := fun j => hT.2 43 j
    have A44 : ∀ j, 0 ≤ τ7.2.1 44 j ∧ τ7.2.1 44 j ≤ 40000 := fun j => hT.2 44 j
    have A45 : ∀ j, 0 ≤ τ7.2.1 45 j ∧ τ7.2.1 45 j ≤ 1000 := fun j => hT.2 45 j
    have A47 : ∀ j, 0 ≤ τ7.2.1 47 j ∧ τ7.2.1 47 j ≤ 999 := fun j => hT.2 47 j
    have v30 : 0 ≤ τ7.1 30 ∧ τ7.1 30 ≤ 200 := hT.1 30
    have v31 : 0 ≤ τ7.1 31 ∧ τ7.1 31 ≤ 40000 := hT.1 31
    have v32 : 0 ≤ τ7.1 32 ∧ τ7.1 32 ≤ 300 := hT.1 32
    have v33 : 0 ≤ τ7.1 33 ∧ τ7.1 33 ≤ 40000 := hT.1 33
    have v35 : 0 ≤ τ7.1 35 ∧ τ7.1 35 ≤ 19 := hT.1 35
    have a47_33 : 0 ≤ τ7.2.1 47 (τ7.1 33) ∧ τ7.2.1 47 (τ7.1 33) ≤ 999 := hT.2 47 _
    exact ⟨hT, (show ¬ (σ.1 35) = 0 → (τ7.1 35) = (σ.1 35) from by (first | omega | (simp only [st_s] <;> omega) | assumption | omega | fail)), (show (τ7.1 32) ≤ (σ.1 32) + 1 from by (first | omega | (simp only [st_s] <;> omega) | assumption | omega | fail)), (show (σ.1 35) = 0 → (τ7.1 35) = 0 → (σ.1 31) + (σ.1 33) + σ.2.1 41 ((σ.1 30) - 1) ≤ 40000 ∧ n_sv σ τ7 (σ.2.1 41 ((σ.1 30) - 1)) (σ.2.1 43 (σ.2.1 40 ((σ.1 30) - 1))) from by (first | (intro _ z; exfalso; omega) | (intro _ _; rw [← i37_9]; refine ⟨by omega, (show τ_37.1 32 + 1 = σ.1 32 + 1 from by omega), (show τ_37.1 33 + u1_37 = σ.1 33 + u1_37 from by omega), ?_, ?_, i37_10, fun z => i37_11 (by omega)⟩; (show st (τ_37.2.1 44) (τ_37.1 32) (τ_37.1 33) = _; rw [i37_12.1, show τ_37.1 32 = σ.1 32 from by omega, show τ_37.1 33 = σ.1 33 from by omega]); (show st (τ_37.2.1 45) (τ_37.1 32) u1_37 = _; rw [i37_12.2, show τ_37.1 32 = σ.1 32 from by omega])) | fail)), (show (σ.1 35) = 0 → (σ.1 31) + (σ.1 33) + σ.2.1 41 ((σ.1 30) - 1) ≤ 40000 → (τ7.1 35) = 0 from by (first | (intro _ h; exfalso; omega) | (intro _ _; omega) | fail))⟩
