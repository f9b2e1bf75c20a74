-- pure: rows of the model's proofs
def n_wd (kd hs : Int → Int) (w : Int) : Int := if 2 ≤ kd w then hs w else 0
/-- a row: what it is, which rows it is made from -/
def n_Y1 (r i c : Int) (kd hs ro fa fr : Int → Int) : Prop := (0 ≤ ro r ∧ ro r < i) ∧ (0 ≤ fa r ∧ fa r + n_wd kd hs (ro r) ≤ c) ∧ ∀ k : Int, 0 ≤ k → k < n_wd kd hs (ro r) → 0 ≤ fr (fa r + k) ∧ fr (fa r + k) < r
def n_Yn (m i c : Int) (kd hs ro fa fr : Int → Int) : Prop := ∀ r : Int, 0 ≤ r → r < m → n_Y1 r i c kd hs ro fa fr
/-- what stands on the rows' pile -/
def n_Yp (m a : Int) (pl : Int → Int) : Prop := ∀ j : Int, 0 ≤ j → j < m → 0 ≤ pl j ∧ pl j < a
theorem n_Yp_a {m a : Int} {pl : Int → Int} (h : n_Yp m a pl) (x : Int) (x0 : 0 ≤ x) (x1 : x < a) : n_Yp (m + 1) a (st pl m x) := fun j j0 j1 => by
  rcases (by omega : j < m ∨ j = m) with q | q
  · rw [st_n _ _ (by omega)]; exact h j j0 q
  · rw [q, st_s]; exact ⟨x0, x1⟩
theorem n_Yp_w {m m' a a' : Int} {pl : Int → Int} (h : n_Yp m a pl) (l : m' ≤ m) (l2 : a ≤ a') : n_Yp m' a' pl := fun j j0 j1 => by
  have := h j j0 (by omega); omega
theorem n_Yn_a {m i c c' : Int} {kd hs ro fa fr : Int → Int} (h : n_Yn m i c kd hs ro fa fr) (g : n_Y1 m i c' kd hs ro fa fr) (l : c ≤ c') : n_Yn (m + 1) i c' kd hs ro fa fr := fun r r0 r1 => by
  rcases (by omega : r < m ∨ r = m) with q | q
  · obtain ⟨a1, ⟨a2, a3⟩, a4⟩ := h r r0 q
    exact ⟨a1, ⟨a2, by omega⟩, a4⟩
  · rw [q]; exact g
theorem n_Yn_s {m i c x y : Int} {kd hs ro fa fr : Int → Int} (h : n_Yn m i c kd hs ro fa fr) : n_Yn m i c kd hs (st ro m x) (st fa m y) fr := fun r r0 r1 => by
  unfold n_Y1
  rw [st_n _ _ (by omega), st_n _ _ (by omega)]; exact h r r0 r1
theorem n_Yn_f {m i c e x : Int} {kd hs ro fa fr : Int → Int} (h : n_Yn m i c kd hs ro fa fr) (l : c ≤ e) : n_Yn m i c kd hs ro fa (st fr e x) := fun r r0 r1 => by
  obtain ⟨a1, ⟨a2, a3⟩, a4⟩ := h r r0 r1
  exact ⟨a1, ⟨a2, a3⟩, fun k k0 k1 => by rw [st_n _ _ (by omega)]; exact a4 k k0 k1⟩
theorem n_Yn_w {m i c c' : Int} {kd hs ro fa fr : Int → Int} (h : n_Yn m i c kd hs ro fa fr) (l : c ≤ c') : n_Yn m i c' kd hs ro fa fr := fun r r0 r1 => by
  obtain ⟨a1, ⟨a2, a3⟩, a4⟩ := h r r0 r1
  exact ⟨a1, ⟨a2, by omega⟩, a4⟩
theorem n_Yn_0 (i c : Int) (kd hs ro fa fr : Int → Int) : n_Yn 0 i c kd hs ro fa fr := fun r r0 r1 => by omega
theorem n_sT_d {i w v P S P' S' : Int} {kd ta ts tx iv ha hs hy N F M G N' F' M' G' : Int → Int} (h : n_sT i w v P S P' S' kd ta ts tx iv ha hs hy N F M G N' F' M' G') (p0 : 0 ≤ P) : (w < i ∧ (¬ v = 0 → 0 ≤ w)) ∧ (w < 0 → -1 - w < S ∧ P' = P + 1) ∧ (0 ≤ w → n_wd kd hs w ≤ P ∧ P' = P - n_wd kd hs w + 1) ∧ P' ≤ 200 ∧ (v = 0 → S' = S) ∧ (¬ v = 0 → S' = S + 1) := by
  obtain ⟨h1, b, n, f, h2, h3, h4⟩ := h
  obtain ⟨o1, _⟩ := h3
  obtain ⟨e1, _, _, _, e5, e6, _⟩ := h4
  refine ⟨h1, fun z => ?_, fun z => ?_, by omega, e5, fun z => (e6 z).1⟩
  · rcases h2 with ⟨_, a2, a3, _⟩ | ⟨a1, _⟩ | ⟨a1, _⟩
    · exact ⟨a2, by omega⟩
    · omega
    · omega
  · unfold n_wd
    rcases h2 with ⟨a1, _⟩ | ⟨_, a2, a3, _⟩ | ⟨_, a2, a3, a4, _⟩
    · omega
    · rw [if_neg (by omega)]; exact ⟨by omega, by omega⟩
    · rw [if_pos a2]; exact ⟨by omega, by omega⟩
/-- how many steps make rows -/
def n_rn (a n : Int) (sw : Int → Int) : Int := sm (fun k => if 0 ≤ sw (a + k) then 1 else 0) n
theorem n_rn_s {a u : Int} {sw : Int → Int} (l : a ≤ u) : (0 ≤ sw u → n_rn a (u + 1 - a) sw = n_rn a (u - a) sw + 1) ∧ (sw u < 0 → n_rn a (u + 1 - a) sw = n_rn a (u - a) sw) := by
  unfold n_rn
  rw [show u + 1 - a = u - a + 1 by omega, sm_s _ (show 0 ≤ u - a by omega)]
  show (0 ≤ sw u → _ + (if 0 ≤ sw (a + (u - a)) then (1 : Int) else 0) = _) ∧ (sw u < 0 → _ + (if 0 ≤ sw (a + (u - a)) then (1 : Int) else 0) = _)
  rw [show a + (u - a) = u by omega]
  exact ⟨fun z => by rw [if_pos z], fun z => by rw [if_neg (by omega)]; omega⟩
theorem n_rn_0 {a n : Int} {sw : Int → Int} (h : n ≤ 0) : n_rn a n sw = 0 := by
  unfold n_rn
  rcases (by omega : n = 0 ∨ n < 0) with q | q
  · rw [q, sm_0]
  · unfold sm; rw [show n.toNat = 0 by omega]; rfl
theorem n_rn_m {a m n : Int} {sw : Int → Int} (h : m ≤ n) (m0 : 0 ≤ m) : n_rn a m sw ≤ n_rn a n sw := sm_m (fun e _ _ => by show (0 : Int) ≤ (if 0 ≤ sw (a + e) then 1 else 0); by_cases z : 0 ≤ sw (a + e); (rw [if_pos z]; omega); (rw [if_neg z]; exact Int.le_refl _)) m0 h
/-- how many rows all rows are made from -/
def n_ws (kd hs ro : Int → Int) (m : Int) : Int := sm (fun r => n_wd kd hs (ro r)) m
theorem n_ws_s {kd hs ro : Int → Int} {m : Int} (h : 0 ≤ m) : n_ws kd hs ro (m + 1) = n_ws kd hs ro m + n_wd kd hs (ro m) := sm_s _ h
theorem n_ws_a {kd hs ro : Int → Int} {m x : Int} : n_ws kd hs (st ro m x) m = n_ws kd hs ro m := sm_x (fun j j0 j1 => by
  show n_wd kd hs (st ro m x j) = n_wd kd hs (ro j)
  rw [st_n _ _ (by omega)])
/-- the rows that are kept -/
def n_Y (σ : S0) : Prop := σ.1 38 = 0 ∨ ((0 < σ.1 38 ∧ σ.1 38 ≤ σ.1 5 ∧ σ.2.1 13 (σ.1 38 - 1) = 3) ∧ (1 ≤ σ.1 36 ∧ σ.1 36 = n_rn (σ.2.1 25 (σ.1 38 - 1)) (σ.2.1 26 (σ.1 38 - 1)) (σ.2.1 27) ∧ n_ws (σ.2.1 13) (σ.2.1 19) (σ.2.1 56) (σ.1 36) ≤ 20000) ∧ n_Yn (σ.1 36) (σ.1 38 - 1) 20000 (σ.2.1 13) (σ.2.1 19) (σ.2.1 56) (σ.2.1 57) (σ.2.1 58))
theorem n_Y_e {σ : S0} {n : Int} (h : n_Y σ) (e : σ.1 38 = n + 1) (n0 : 0 ≤ n) : (1 ≤ σ.1 36 ∧ σ.1 36 = n_rn (σ.2.1 25 n) (σ.2.1 26 n) (σ.2.1 27) ∧ n_ws (σ.2.1 13) (σ.2.1 19) (σ.2.1 56) (σ.1 36) ≤ 20000) ∧ n_Yn (σ.1 36) n 20000 (σ.2.1 13) (σ.2.1 19) (σ.2.1 56) (σ.2.1 57) (σ.2.1 58) := by
  rcases h with h | ⟨_, h2, h3⟩
  · omega
  · rw [show σ.1 38 - 1 = n by omega] at h2 h3; exact ⟨h2, h3⟩
set_option maxHeartbeats 4000000 in
theorem K3_X13_makeRows {n1 : Int} {σ : S0} (hT : m_T σ) (p1 : 0 ≤ n1) (p2 : n1 < σ.1 5) (p3 : σ.2.1 13 n1 = 3) (p4 : n_J σ) (p5 : m_J σ) (p6 : n_Y σ) : W_X13_makeRows n1 σ (fun (τ : S0) => (m_T τ) ∧ ((τ.1 38) = n1 + 1) ∧ (n_Y τ)) := by
  have A13 : ∀ j, 0 ≤ σ.2.1 13 j ∧ σ.2.1 13 j ≤ 4 := fun j => hT.2 13 j
  have A19 : ∀ j, 0 ≤ σ.2.1 19 j ∧ σ.2.1 19 j ≤ 60 := fun j => hT.2 19 j
  have A25 : ∀ j, 0 ≤ σ.2.1 25 j ∧ σ.2.1 25 j ≤ 20000 := fun j => hT.2 25 j
  have A26 : ∀ j, 0 ≤ σ.2.1 26 j ∧ σ.2.1 26 j ≤ 20000 := fun j => hT.2 26 j
  have A27 : ∀ j, (-300) ≤ σ.2.1 27 j ∧ σ.2.1 27 j ≤ 1499 := fun j => hT.2 27 j
  have A28 : ∀ j, 0 ≤ σ.2.1 28 j ∧ σ.2.1 28 j ≤ 1 := fun j => hT.2 28 j
  have A42 : ∀ j, 0 ≤ σ.2.1 42 j ∧ σ.2.1 42 j ≤ 20000 := fun j => hT.2 42 j
  have A46 : ∀ j, 0 ≤ σ.2.1 46 j ∧ σ.2.1 46 j ≤ 20000 := fun j => hT.2 46 j
  have A56 : ∀ j, 0 ≤ σ.2.1 56 j ∧ σ.2.1 56 j ≤ 1499 := fun j => hT.2 56 j
  have A57 : ∀ j, 0 ≤ σ.2.1 57 j ∧ σ.2.1 57 j ≤ 120000 := fun j => hT.2 57 j
  have A58 : ∀ j, 0 ≤ σ.2.1 58 j ∧ σ.2.1 58 j ≤ 20000 := fun j => hT.2 58 j
  have v5 : 0 ≤ σ.1 5 ∧ σ.1 5 ≤ 1500 := hT.1 5
  have v9 : 0 ≤ σ.1 9 ∧ σ.1 9 ≤ 20000 := hT.1 9
  have v30 : 0 ≤ σ.1 30 ∧ σ.1 30 ≤ 200 := hT.1 30
  have v32 : 0 ≤ σ.1 32 ∧ σ.1 32 ≤ 300 := hT.1 32
  have v36 : 0 ≤ σ.1 36 ∧ σ.1 36 ≤ 20000 := hT.1 36
  have v37 : 0 ≤ σ.1 37 ∧ σ.1 37 ≤ 120000 := hT.1 37
  have v38 : 0 ≤ σ.1 38 ∧ σ.1 38 ≤ 1500 := hT.1 38
  have a56_36 : 0 ≤ σ.2.1 56 (σ.1 36) ∧ σ.2.1 56 (σ.1 36) ≤ 1499 := hT.2 56 _
  have a57_36 : 0 ≤ σ.2.1 57 (σ.1 36) ∧ σ.2.1 57 (σ.1 36) ≤ 120000 := hT.2 57 _
  have W5 : σ.1 5 = σ.1 5 := rfl
  have W9 : σ.1 9 = σ.1 9 := rfl
  have G13 : σ.2.1 13 = σ.2.1 13 := rfl
  have G19 : σ.2.1 19 = σ.2.1 19 := rfl
  have G25 : σ.2.1 25 = σ.2.1 25 := rfl
  have G26 : σ.2.1 26 = σ.2.1 26 := rfl
  have G27 : σ.2.1 27 = σ.2.1 27 := rfl
  have G28 : σ.2.1 28 = σ.2.1 28 := rfl
  intro P45 P123 P162 P261 h45 h123 h162 h261
  have jj1 := p4 n1 p1 p2
  have mm1 := p5 n1 p1 p2
  obtain ⟨⟨ma1, ma2, ma3, ma4⟩, ma5, ma6, ma7, ma8⟩ := mm1
  obtain ⟨pP, pS, pN, pF, pM, pG, ⟨z1, z2, z3, z4⟩, zs⟩ := jj1.2.2 p3
  clear ma8 jj1
  have b25 := A25 n1
  have b26 := A26 n1
  have l_45 : ∀ (m_45 : Nat) (u2_45 : Int) (τ_45 : S0), 20001 - u2_45 < (m_45 : Int) → (m_T τ_45) → (τ_45.1 5 = σ.1 5) → (τ_45.1 9 = σ.1 9) → (τ_45.2.1 13 = σ.2.1 13) → (τ_45.2.1 19 = σ.2.1 19) → (τ_45.2.1 25 = σ.2.1 25) → (τ_45.2.1 26 = σ.2.1 26) → (τ_45.2.1 27 = σ.2.1 27) → (τ_45.2.1 28 = σ.2.1 28) → (σ.2.1 25 n1 ≤ u2_45) → (u2_45 ≤ σ.2.1 25 n1 + σ.2.1 26 n1) → ((τ_45.1 30) = pP u2_45) → ((τ_45.1 32) = pS u2_45) → (0 ≤ (τ_45.1 36)) → ((τ_45.1 36) ≤ u2_45 - σ.2.1 25 n1) → ((τ_45.1 37) + (τ_45.1 30) = u2_45 - σ.2.1 25 n1) → ((τ_45.1 30) ≤ 200) → (u2_45 = σ.2.1 25 n1 ∨ 1 ≤ (τ_45.1 36)) → ((τ_45.1 38) = n1 + 1) → (pS u2_45 = ca (σ.2.1 28) u2_45 - ca (σ.2.1 28) (σ.2.1 25 n1)) → (n_Yp (τ_45.1 30) (τ_45.1 36) (τ_45.2.1 42)) → (n_Yp (τ_45.1 32) (τ_45.1 36) (τ_45.2.1 46)) → (n_Yn (τ_45.1 36) n1 (τ_45.1 37) (σ.2.1 13) (σ.2.1 19) (τ_45.2.1 56) (τ_45.2.1 57) (τ_45.2.1 58)) → ((τ_45.1 36) = n_rn (σ.2.1 25 n1) (u2_45 - σ.2.1 25 n1) (σ.2.1 27)) → ((τ_45.1 37) = n_ws (σ.2.1 13) (σ.2.1 19) (τ_45.2.1 56) (τ_45.1 36)) → P45 n1 u2_45 τ_45 := by
    intro m_45
    induction m_45 with
    | zero =>
      intro u2_45 τ_45 hm hT W5 W9 G13 G19 G25 G26 G27 G28 i45_1 i45_2 i45_3 i45_4 i45_5 i45_6 i45_7 i45_8 i45_9 i45_10 i45_11 i45_12 i45_13 i45_14 i45_15 i45_16
      have A13 : ∀ j, 0 ≤ τ_45.2.1 13 j ∧ τ_45.2.1 13 j ≤ 4 := fun j => hT.2 13 j
      have A19 : ∀ j, 0 ≤ τ_45.2.1 19 j ∧ τ_45.2.1 19 j ≤ 60 := fun j => hT.2 19 j
      have A25 : ∀ j, 0 ≤ τ_45.2.1 25 j ∧ τ_45.2.1 25 j ≤ 20000 := fun j => hT.2 25 j
      have A26 : ∀ j, 0 ≤ τ_45.2.1 26 j ∧ τ_45.2.1 26 j ≤ 20000 := fun j => hT.2 26 j
      have A27 : ∀ j, (-300) ≤ τ_45.2.1 27 j ∧ τ_45.2.1 27 j ≤ 1499 := fun j => hT.2 27 j
      have A28 : ∀ j, 0 ≤ τ_45.2.1 28 j ∧ τ_45.2.1 28 j ≤ 1 := fun j => hT.2 28 j
      have A42 : ∀ j, 0 ≤ τ_45.2.1 42 j ∧ τ_45.2.1 42 j ≤ 20000 := fun j => hT.2 42 j
      have A46 : ∀ j, 0 ≤ τ_45.2.1 46 j ∧ τ_45.2.1 46 j ≤ 20000 := fun j => hT.2 46 j
      have A56 : ∀ j, 0 ≤ τ_45.2.1 56 j ∧ τ_45.2.1 56 j ≤ 1499 := fun j => hT.2 56 j
      have A57 : ∀ j, 0 ≤ τ_45.2.1 57 j ∧ τ_45.2.1 57 j ≤ 120000 := fun j => hT.2 57 j
      have A58 : ∀ j, 0 ≤ τ_45.2.1 58 j ∧ τ_45.2.1 58 j ≤ 20000 := fun j => hT.2 58 j
      have v5 : 0 ≤ τ_45.1 5 ∧ τ_45.1 5 ≤ 1500 := hT.1 5
      have v9 : 0 ≤ τ_45.1 9 ∧ τ_45.1 9 ≤ 20000 := hT.1 9
      have v30 : 0 ≤ τ_45.1 30 ∧ τ_45.1 30 ≤ 200 := hT.1 30
      have v32 : 0 ≤ τ_45.1 32 ∧ τ_45.1 32 ≤ 300 := hT.1 32
      have v36 : 0 ≤ τ_45.1 36 ∧ τ_45.1 36 ≤ 20000 := hT.1 36
      have v37 : 0 ≤ τ_45.1 37 ∧ τ_45.1 37 ≤ 120000 := hT.1 37
      have v38 : 0 ≤ τ_45.1 38 ∧ τ_45.1 38 ≤ 1500 := hT.1 38
      have a56_36 : 0 ≤ τ_45.2.1 56 (τ_45.1 36) ∧ τ_45.2.1 56 (τ_45.1 36) ≤ 1499 := hT.2 56 _
      have a57_36 : 0 ≤ τ_45.2.1 57 (τ_45.1 36) ∧ τ_45.2.1 57 (τ_45.1 36) ≤ 120000 := hT.2 57 _
      exfalso; (first | omega | (simp only [st_s] <;> omega) | assumption | omega | fail)
    | succ m_45 ih_45 =>
      intro u2_45 τ_45 hm_45 hT W5 W9 G13 G19 G25 G26 G27 G28 i45_1 i45_2 i45_3 i45_4 i45_5 i45_6 i45_7 i45_8 i45_9 i45_10 i45_11 i45_12 i45_13 i45_14 i45_15 i45_16
      have A13 : ∀ j, 0 ≤ τ_45.2.1 13 j ∧ τ_45.2.1 13 j ≤ 4 := fun j => hT.2 13 j
      have A19 : ∀ j, 0 ≤ τ_45.2.1 19 j ∧ τ_45.2.1 19 j ≤ 60 := fun j => hT.2 19 j
      have A25 : ∀ j, 0 ≤ τ_45.2.1 25 j ∧ τ_45.2.1 25 j ≤ 20000 := fun j => hT.2 25 j
      have A26 : ∀ j, 0 ≤ τ_45.2.1 26 j ∧ τ_45.2.1 26 j ≤ 20000 := fun j => hT.2 26 j
      have A27 : ∀ j, (-300) ≤ τ_45.2.1 27 j ∧ τ_45.2.1 27 j ≤ 1499 := fun j => hT.2 27 j
      have A28 : ∀ j, 0 ≤ τ_45.2.1 28 j ∧ τ_45.2.1 28 j ≤ 1 := fun j => hT.2 28 j
      have A42 : ∀ j, 0 ≤ τ_45.2.1 42 j ∧ τ_45.2.1 42 j ≤ 20000 := fun j => hT.2 42 j
      have A46 : ∀ j, 0 ≤ τ_45.2.1 46 j ∧ τ_45.2.1 46 j ≤ 20000 := fun j => hT.2 46 j
      have A56 : ∀ j, 0 ≤ τ_45.2.1 56 j ∧ τ_45.2.1 56 j ≤ 1499 := fun j => hT.2 56 j
      have A57 : ∀ j, 0 ≤ τ_45.2.1 57 j ∧ τ_45.2.1 57 j ≤ 120000 := fun j => hT.2 57 j
      have A58 : ∀ j, 0 ≤ τ_45.2.1 58 j ∧ τ_45.2.1 58 j ≤ 20000 := fun j => hT.2 58 j
      have v5 : 0 ≤ τ_45.1 5 ∧ τ_45.1 5 ≤ 1500 := hT.1 5
      have v9 : 0 ≤ τ_45.1 9 ∧ τ_45.1 9 ≤ 20000 := hT.1 9
      have v30 : 0 ≤ τ_45.1 30 ∧ τ_45.1 30 ≤ 200 := hT.1 30
      have v32 : 0 ≤ τ_45.1 32 ∧ τ_45.1 32 ≤ 300 := hT.1 32
      have v36 : 0 ≤ τ_45.1 36 ∧ τ_45.1 36 ≤ 20000 := hT.1 36
      have v37 : 0 ≤ τ_45.1 37 ∧ τ_45.1 37 ≤ 120000 := hT.1 37
      have v38 : 0 ≤ τ_45.1 38 ∧ τ_45.1 38 ≤ 1500 := hT.1 38
      have a56_36 : 0 ≤ τ_45.2.1 56 (τ_45.1 36) ∧ τ_45.2.1 56 (τ_45.1 36) ≤ 1499 := hT.2 56 _
      have a57_36 : 0 ≤ τ_45.2.1 57 (τ_45.1 36) ∧ τ_45.2.1 57 (τ_45.1 36) ≤ 120000 := hT.2 57 _
      have l_162 : ∀ (m_162 : Nat) (u2_162 : Int) (u4_162 : Int) (u5_162 : Int) (τ_162 : S0), 61 - u5_162 < (m_162 : Int) → (m_T τ_162) → (τ_162.1 5 = σ.1 5) → (τ_162.1 9 = σ.1 9) → (τ_162.2.1 13 = σ.2.1 13) → (τ_162.2.1 19 = σ.2.1 19) → (τ_162.2.1 25 = σ.2.1 25) → (τ_162.2.1 26 = σ.2.1 26) → (τ_162.2.1 27 = σ.2.1 27) → (τ_162.2.1 28 = σ.2.1 28) → (σ.2.1 25 n1 ≤ u2_162) → (u2_162 < σ.2.1 25 n1 + σ.2.1 26 n1) → (0 ≤ σ.2.1 27 u2_162) → (u4_162 = n_wd (σ.2.1 13) (σ.2.1 19) (σ.2.1 27 u2_162)) → (0 ≤ u5_162) → (u5_162 ≤ u4_162) → (u4_162 ≤ pP u2_162 ∧ u4_162 ≤ 60) → (pP u2_162 ≤ 200) → ((τ_162.1 30) = pP u2_162 - u4_162) → ((τ_162.1 32) = pS u2_162) → (0 ≤ (τ_162.1 36)) → ((τ_162.1 36) ≤ u2_162 - σ.2.1 25 n1) → ((τ_162.1 37) = (u2_162 - σ.2.1 25 n1 - pP u2_162) + u5_162) → (0 ≤ (u2_162 - σ.2.1 25 n1 - pP u2_162)) → ((τ_162.1 38) = n1 + 1) → (pS u2_162 = ca (σ.2.1 28) u2_162 - ca (σ.2.1 28) (σ.2.1 25 n1)) → (τ_162.2.1 56 (τ_162.1 36) = σ.2.1 27 u2_162) → (τ_162.2.1 57 (τ_162.1 36) = (u2_162 - σ.2.1 25 n1 - pP u2_162)) → (∀ k : Int, 0 ≤ k → k < u5_162 → 0 ≤ τ_162.2.1 58 ((u2_162 - σ.2.1 25 n1 - pP u2_162) + k) ∧ τ_162.2.1 58 ((u2_162 - σ.2.1 25 n1 - pP u2_162) + k) < (τ_162.1 36)) → (n_Yp (pP u2_162) (τ_162.1 36) (τ_162.2.1 42)) → (n_Yp (τ_162.1 32) (τ_162.1 36) (τ_162.2.1 46)) → (n_Yn (τ_162.1 36) n1 (u2_162 - σ.2.1 25 n1 - pP u2_162) (σ.2.1 13) (σ.2.1 19) (τ_162.2.1 56) (τ_162.2.1 57) (τ_162.2.1 58)) → ((τ_162.1 36) = n_rn (σ.2.1 25 n1) (u2_162 - σ.2.1 25 n1) (σ.2.1 27)) → ((u2_162 - σ.2.1 25 n1 - pP u2_162) = n_ws (σ.2.1 13) (σ.2.1 19) (τ_162.2.1 56) (τ_162.1 36)) → (u2_162 + (m_45 : Int) ≥ 20001) → P162 n1 u2_162 u4_162 u5_162 τ_162 := by
        intro m_162
        induction m_162 with
        | zero =>
          intro u2_162 u4_162 u5_162 τ_162 hm hT W5 W9 G13 G19 G25 G26 G27 G28 i162_1 i162_2 i162_3 i162_4 i162_5 i162_6 i162_7 i162_8 i162_9 i162_10 i162_11 i162_12 i162_13 i162_14 i162_15 i162_16 i162_17 i162_18 i162_19 i162_20 i162_21 i162_22 i162_23 i162_24 i162_25
          have A13 : ∀ j, 0 ≤ τ_162.2.1 13 j ∧ τ_162.2.1 13 j ≤ 4 := fun j => hT.2 13 j
          have A19 : ∀ j, 0 ≤ τ_162.2.1 19 j ∧ τ_162.2.1 19 j ≤ 60 := fun j => hT.2 19 j
          have A25 : ∀ j, 0 ≤ τ_162.2.1 25 j ∧ τ_162.2.1 25 j ≤ 20000 := fun j => hT.2 25 j
          have A26 : ∀ j, 0 ≤ τ_162.2.1 26 j ∧ τ_162.2.1 26 j ≤ 20000 := fun j => hT.2 26 j
          have A27 : ∀ j, (-300) ≤ τ_162.2.1 27 j ∧ τ_162.2.1 27 j ≤ 1499 := fun j => hT.2 27 j
          have A28 : ∀ j, 0 ≤ τ_162.2.1 28 j ∧ τ_162.2.1 28 j ≤ 1 := fun j => hT.2 28 j
          have A42 : ∀ j, 0 ≤ τ_162.2.1 42 j ∧ τ_162.2.1 42 j ≤ 20000 := fun j => hT.2 42 j
          have A46 : ∀ j, 0 ≤ τ_162.2.1 46 j ∧ τ_162.2.1 46 j ≤ 20000 := fun j => hT.2 46 j
          have A56 : ∀ j, 0 ≤ τ_162.2.1 56 j ∧ τ_162.2.1 56 j ≤ 1499 := fun j => hT.2 56 j
          have A57 : ∀ j, 0 ≤ τ_162.2.1 57 j ∧ τ_162.2.1 57 j ≤ 120000 := fun j => hT.2 57 j
          have A58 : ∀ j, 0 ≤ τ_162.2.1 58 j ∧ τ_162.2.1 58 j ≤ 20000 := fun j => hT.2 58 j
          have v5 : 0 ≤ τ_162.1 5 ∧ τ_162.1 5 ≤ 1500 := hT.1 5
          have v9 : 0 ≤ τ_162.1 9 ∧ τ_162.1 9 ≤ 20000 := hT.1 9
          have v30 : 0 ≤ τ_162.1 30 ∧ τ_162.1 30 ≤ 200 := hT.1 30
          have v32 : 0 ≤ τ_162.1 32 ∧ τ_162.1 32 ≤ 300 := hT.1 32
          have v36 : 0 ≤ τ_162.1 36 ∧ τ_162.1 36 ≤ 20000 := hT.1 36
          have v37 : 0 ≤ τ_162.1 37 ∧ τ_162.1 37 ≤ 120000 := hT.1 37
          have v38 : 0 ≤ τ_162.1 38 ∧ τ_162.1 38 ≤ 1500 := hT.1 38
          have a56_36 : 0 ≤ τ_162.2.1 56 (τ_162.1 36) ∧ τ_162.2.1 56 (τ_162.1 36) ≤ 1499 := hT.2 56 _
          have a57_36 : 0 ≤ τ_162.2.1 57 (τ_162.1 36) ∧ τ_162.2.1 57 (τ_162.1 36) ≤ 120000 := hT.2 57 _
          exfalso; (first | omega | (simp only [st_s] <;> omega) | assumption | omega | fail)
        | succ m_162 ih_162 =>
          intro u2_162 u4_162 u5_162 τ_162 hm_162 hT W5 W9 G13 G19 G25 G26 G27 G28 i162_1 i162_2 i162_3 i162_4 i162_5 i162_6 i162_7 i162_8 i162_9 i162_10 i162_11 i162_12 i162_13 i162_14 i162_15 i162_16 i162_17 i162_18 i162_19 i162_20 i162_21 i162_22 i162_23 i162_24 i162_25
          have A13 : ∀ j, 0 ≤ τ_162.2.1 13 j ∧ τ_162.2.1 13 j ≤ 4 := fun j => hT.2 13 j
          have A19 : ∀ j, 0 ≤ τ_162.2.1 19 j ∧ τ_162.2.1 19 j ≤ 60 := fun j => hT.2 19 j
          have A25 : ∀ j, 0 ≤ τ_162.2.1 25 j ∧ τ_162.2.1 25 j ≤ 20000 := fun j => hT.2 25 j
          have A26 : ∀ j, 0 ≤ τ_162.2.1 26 j ∧ τ_162.2.1 26 j ≤ 20000 := fun j => hT.2 26 j
          have A27 : ∀ j, (-300) ≤ τ_162.2.1 27 j ∧ τ_162.2.1 27 j ≤ 1499 := fun j => hT.2 27 j
          have A28 : ∀ j, 0 ≤ τ_162.2.1 28 j ∧ τ_162.2.1 28 j ≤ 1 := fun j => hT.2 28 j
          have A42 : ∀ j, 0 ≤ τ_162.2.1 42 j ∧ τ_162.2.1 42 j ≤ 20000 := fun j => hT.2 42 j
          have A46 : ∀ j, 0 ≤ τ_162.2.1 46 j ∧ τ_162.2.1 46 j ≤ 20000 := fun j => hT.2 46 j
          have A56 : ∀ j, 0 ≤ τ_162.2.1 56 j ∧ τ_162.2.1 56 j ≤ 1499 := fun j => hT.2 56 j
          have A57 : ∀ j, 0 ≤ τ_162.2.1 57 j ∧ τ_162.2.1 57 j ≤ 120000 := fun j => hT.2 57 j
          have A58 : ∀ j, 0 ≤ τ_162.2.1 58 j ∧ τ_162.2.1 58 j ≤ 20000 := fun j => hT.2 58 j
          have v5 : 0 ≤ τ_162.1 5 ∧ τ_162.1 5 ≤ 1500 := hT.1 5
          have v9 : 0 ≤ τ_162.1 9 ∧ τ_162.1 9 ≤ 20000 := hT.1 9
          have v30 : 0 ≤ τ_162.1 30 ∧ τ_162.1 30 ≤ 200 := hT.1 30
          have v32 : 0 ≤ τ_162.1 32 ∧ τ_162.1 32 ≤ 300 := hT.1 32
          have v36 : 0 ≤ τ_162.1 36 ∧ τ_162.1 36 ≤ 20000 := hT.1 36
          have v37 : 0 ≤ τ_162.1 37 ∧ τ_162.1 37 ≤ 120000 := hT.1 37
          have v38 : 0 ≤ τ_162.1 38 ∧ τ_162.1 38 ≤ 1500 := hT.1 38
          have a56_36 : 0 ≤ τ_162.2.1 56 (τ_162.1 36) ∧ τ_162.2.1 56 (τ_162.1 36) ≤ 1499 := hT.2 56 _
          have a57_36 : 0 ≤ τ_162.2.1 57 (τ_162.1 36) ∧ τ_162.2.1 57 (τ_162.1 36) ≤ 120000 := hT.2 57 _
          refine h162 n1 u2_162 u4_162 u5_162 τ_162 ?_
          refine ⟨fun c24 => ?_, fun c24 => ?_⟩
          ·
            obtain ⟨⟨d1, d0⟩, d2, d3, d4, d5, d6⟩ := n_sT_d (zs u2_162 (by omega) (by omega)) (by omega)
            have cu := ca_u (σ.2.1 28) (n := u2_162) (by omega)
            have cm := ca_m (σ.2.1 28) (n := u2_162 + 1) (m := σ.2.1 25 n1 + σ.2.1 26 n1) (by omega) (by omega)
            have rn := n_rn_s (a := σ.2.1 25 n1) (u := u2_162) (sw := σ.2.1 27) (by omega)
            have y1 : n_Y1 (τ_162.1 36) n1 (τ_162.1 37) (σ.2.1 13) (σ.2.1 19) (τ_162.2.1 56) (τ_162.2.1 57) (τ_162.2.1 58) := by (unfold n_Y1; rw [i162_17, i162_18]; exact ⟨⟨by omega, by omega⟩, ⟨by omega, by omega⟩, fun k k0 k1 => i162_19 k k0 (by omega)⟩)
            have ws : τ_162.1 37 = n_ws (σ.2.1 13) (σ.2.1 19) (τ_162.2.1 56) (τ_162.1 36 + 1) := by (rw [n_ws_s (by omega), ← i162_24, i162_17]; omega)
            refine ⟨(show 0 ≤ τ_162.1 30 ∧ τ_162.1 30 < 202 from by (first | omega | (simp only [st_s] <;> omega) | assumption | omega | fail)), ?_⟩
            replace hT := mT_a (k := 42) (j := (τ_162.1 30)) hT (show (0 : Int) ≤ (τ_162.1 36) ∧ (τ_162.1 36) ≤ 20000 from by (first | omega | (simp only [st_s] <;> omega) | assumption | omega | fail))
            refine ⟨(⟨by (first | omega | (simp only [st_s] <;> omega) | assumption | omega | fail), by (first | omega | (simp only [st_s] <;> omega) | assumption | omega | fail)⟩ : rg (τ_162.1 30 + 1)), ?_⟩
            replace hT := mT_v (i := 30) hT (show 0 ≤ (τ_162.1 30 + 1) ∧ (τ_162.1 30 + 1) ≤ 200 from by (first | omega | (simp only [st_s] <;> omega) | assumption | omega | fail))
            refine ⟨(show 0 ≤ u2_162 ∧ u2_162 < 20001 from by (first | omega | (simp only [st_s] <;> omega) | assumption | omega | fail)), ?_⟩
            intro x28 r_x28 e_x28
            have b_x28 : 0 ≤ x28 ∧ x28 ≤ 1 := by rw [e_x28]; exact hT.2 28 _
            rw [G28] at e_x28
            rw [← e_x28] at cu d0 d5 d6
            refine ⟨fun c29 => ?_, fun c29 => ?_⟩
            ·
              obtain ⟨τ_261, e_τ_261⟩ : ∃ z : S0, z = s_v (s_a τ_162 42 (τ_162.1 30) (τ_162.1 36)) 30 (τ_162.1 30 + 1) := ⟨_, rfl⟩
              rw [← e_τ_261]
              replace hT : m_T τ_261 := by rw [e_τ_261]; exact hT
              have w5_τ_261 : τ_261.1 5 = τ_162.1 5 := by rw [e_τ_261]; rfl
              have w9_τ_261 : τ_261.1 9 = τ_162.1 9 := by rw [e_τ_261]; rfl
              have w30_τ_261 : τ_261.1 30 = (τ_162.1 30 + 1) := by rw [e_τ_261]; rfl
              have w32_τ_261 : τ_261.1 32 = τ_162.1 32 := by rw [e_τ_261]; rfl
              have w36_τ_261 : τ_261.1 36 = τ_162.1 36 := by rw [e_τ_261]; rfl
              have w37_τ_261 : τ_261.1 37 = τ_162.1 37 := by rw [e_τ_261]; rfl
              have w38_τ_261 : τ_261.1 38 = τ_162.1 38 := by rw [e_τ_261]; rfl
              have g13_τ_261 : τ_261.2.1 13 = τ_162.2.1 13 := by rw [e_τ_261]; rfl
              have g19_τ_261 : τ_261.2.1 19 = τ_162.2.1 19 := by rw [e_τ_261]; rfl
              have g25_τ_261 : τ_261.2.1 25 = τ_162.2.1 25 := by rw [e_τ_261]; rfl
              have g26_τ_261 : τ_261.2.1 26 = τ_162.2.1 26 := by rw [e_τ_261]; rfl
              have g27_τ_261 : τ_261.2.1 27 = τ_162.2.1 27 := by rw [e_τ_261]; rfl
              have g28_τ_261 : τ_261.2.1 28 = τ_162.2.1 28 := by rw [e_τ_261]; rfl
              have g42_τ_261 : τ_261.2.1 42 = (st (τ_162.2.1 42) (τ_162.1 30) (τ_162.1 36)) := by rw [e_τ_261]; rfl
              have g46_τ_261 : τ_261.2.1 46 = τ_162.2.1 46 := by rw [e_τ_261]; rfl
              have g56_τ_261 : τ_261.2.1 56 = τ_162.2.1 56 := by rw [e_τ_261]; rfl
              have g57_τ_261 : τ_261.2.1 57 = τ_162.2.1 57 := by rw [e_τ_261]; rfl
              have g58_τ_261 : τ_261.2.1 58 = τ_162.2.1 58 := by rw [e_τ_261]; rfl
              have W5 : τ_261.1 5 = σ.1 5 := by first | exact w5_τ_261.trans W5 | omega
              have W9 : τ_261.1 9 = σ.1 9 := by first | exact w9_τ_261.trans W9 | omega
              have G13 : τ_261.2.1 13 = σ.2.1 13 := (g13_τ_261).trans G13
              have G19 : τ_261.2.1 19 = σ.2.1 19 := (g19_τ_261).trans G19
              have G25 : τ_261.2.1 25 = σ.2.1 25 := (g25_τ_261).trans G25
              have G26 : τ_261.2.1 26 = σ.2.1 26 := (g26_τ_261).trans G26
              have G27 : τ_261.2.1 27 = σ.2.1 27 := (g27_τ_261).trans G27
              have G28 : τ_261.2.1 28 = σ.2.1 28 := (g28_τ_261).trans G28
              have y56_36_τ_261 : τ_261.2.1 56 (τ_261.1 36) = (τ_162.2.1 56) (τ_162.1 36) := by rw [g56_τ_261, w36_τ_261]
              have y57_36_τ_261 : τ_261.2.1 57 (τ_261.1 36) = (τ_162.2.1 57) (τ_162.1 36) := by rw [g57_τ_261, w36_τ_261]
              have A13 : ∀ j, 0 ≤ τ_261.2.1 13 j ∧ τ_261.2.1 13 j ≤ 4 := fun j => hT.2 13 j
              have A19 : ∀ j, 0 ≤ τ_261.2.1 19 j ∧ τ_261.2.1 19 j ≤ 60 := fun j => hT.2 19 j
              have A25 : ∀ j, 0 ≤ τ_261.2.1 25 j ∧ τ_261.2.1 25 j ≤ 20000 := fun j => hT.2 25 j
              have A26 : ∀ j, 0 ≤ τ_261.2.1 26 j ∧ τ_261.2.1 26 j ≤ 20000 := fun j => hT.2 26 j
              have A27 : ∀ j, (-300) ≤ τ_261.2.1 27 j ∧ τ_261.2.1 27 j ≤ 1499 := fun j => hT.2 27 j
              have A28 : ∀ j, 0 ≤ τ_261.2.1 28 j ∧ τ_261.2.1 28 j ≤ 1 := fun j => hT.2 28 j
              have A42 : ∀ j, 0 ≤ τ_261.2.1 42 j ∧ τ_261.2.1 42 j ≤ 20000 := fun j => hT.2 42 j
              have A46 : ∀ j, 0 ≤ τ_261.2.1 46 j ∧ τ_261.2.1 46 j ≤ 20000 := fun j => hT.2 46 j
              have A56 : ∀ j, 0 ≤ τ_261.2.1 56 j ∧ τ_261.2.1 56 j ≤ 1499 := fun j => hT.2 56 j
              have A57 : ∀ j, 0 ≤ τ_261.2.1 57 j ∧ τ_261.2.1 57 j ≤ 120000 := fun j => hT.2 57 j
              have A58 : ∀ j, 0 ≤ τ_261.2.1 58 j ∧ τ_261.2.1 58 j ≤ 20000 := fun j => hT.2 58 j
              have v5 : 0 ≤ τ_261.1 5 ∧ τ_261.1 5 ≤ 1500 := hT.1 5
              have v9 : 0 ≤ τ_261.1 9 ∧ τ_261.1 9 ≤ 20000 := hT.1 9
              have v30 : 0 ≤ τ_261.1 30 ∧ τ_261.1 30 ≤ 200 := hT.1 30
              have v32 : 0 ≤ τ_261.1 32 ∧ τ_261.1 32 ≤ 300 := hT.1 32
              have v36 : 0 ≤ τ_261.1 36 ∧ τ_261.1 36 ≤ 20000 := hT.1 36
              have v37 : 0 ≤ τ_261.1 37 ∧ τ_261.1 37 ≤ 120000 := hT.1 37
              have v38 : 0 ≤ τ_261.1 38 ∧ τ_261.1 38 ≤ 1500 := hT.1 38
              have a56_36 : 0 ≤ τ_261.2.1 56 (τ_261.1 36) ∧ τ_261.2.1 56 (τ_261.1 36) ≤ 1499 := hT.2 56 _
              have a57_36 : 0 ≤ τ_261.2.1 57 (τ_261.1 36) ∧ τ_261.2.1 57 (τ_261.1 36) ≤ 120000 := hT.2 57 _
              refine h261 _ _ _ ?_
              refine ⟨(⟨by (first | omega | (simp only [st_s] <;> omega) | assumption | omega | fail), by (first | omega | (simp only [st_s] <;> omega) | assumption | omega | fail)⟩ : rg (τ_261.1 36 + 1)), ?_⟩
              replace hT := mT_v (i := 36) hT (show 0 ≤ (τ_261.1 36 + 1) ∧ (τ_261.1 36 + 1) ≤ 20000 from by (first | omega | (simp only [st_s] <;> omega) | assumption | omega | fail))
              refine ⟨(⟨by (first | omega | (simp only [st_s] <;> omega) | assumption | omega | fail), by (first | omega | (simp only [st_s] <;> omega) | assumption | omega | fail)⟩ : rg (u2_162 + 1)), ?_⟩
              exact ih_45 _ _ (show (20001 - (u2_162 + 1) : Int) < ((m_45 : Nat) : Int) from by ((first | omega | (simp only [st_s] <;> omega) | assumption | omega | fail))) hT (show τ_261.1 5 = σ.1 5 from by first | exact W5 | omega) (show τ_261.1 9 = σ.1 9 from by first | exact W9 | omega) G13 G19 G25 G26 G27 G28 (show σ.2.1 25 n1 ≤ (u2_162 + 1) from by (first | omega | (rw [e_x4]; omega) | fail)) (show (u2_162 + 1) ≤ σ.2.1 25 n1 + σ.2.1 26 n1 from by (first | omega | (rw [e_x4]; omega) | fail)) (show (τ_261.1 30) = pP (u2_162 + 1) from by (first | omega | (rw [e_x4]; omega) | fail)) (show (τ_261.1 32) = pS (u2_162 + 1) from by (first | omega | (rw [e_x4]; omega) | fail)) (show 0 ≤ ((τ_261.1 36 + 1)) from by (first | omega | (simp only [st_s] <;> omega) | assumption | omega | fail)) (show ((τ_261.1 36 + 1)) ≤ (u2_162 + 1) - σ.2.1 25 n1 from by (first | omega | (simp only [st_s] <;> omega) | assumption | omega | fail)) (show (τ_261.1 37) + (τ_261.1 30) = (u2_162 + 1) - σ.2.1 25 n1 from by (first | omega | (rw [e_x4]; omega) | fail)) (show (τ_261.1 30) ≤ 200 from by (first | omega | (simp only [st_s] <;> omega) | assumption | omega | fail)) (show (u2_162 + 1) = σ.2.1 25 n1 ∨ 1 ≤ ((τ_261.1 36 + 1)) from by (first | omega | (rw [e_x4]; omega) | fail)) (show (τ_261.1 38) = n1 + 1 from by (first | omega | (simp only [st_s] <;> omega) | assumption | omega | fail)) (show pS (u2_162 + 1) = ca (σ.2.1 28) (u2_162 + 1) - ca (σ.2.1 28) (σ.2.1 25 n1) from by (first | omega | (rw [e_x4]; omega) | fail)) (show n_Yp (τ_261.1 30) ((τ_261.1 36 + 1)) (τ_261.2.1 42) from by (first | (intro j j0 j1; exfalso; omega) | exact n_Yp_a i45_12 x18 (by omega) (by omega) | (rw [e_τ_261]; exact n_Yp_a (m := τ_162.1 30) (a := τ_162.1 36 + 1) (n_Yp_w i162_20 (by omega) (by omega)) (τ_162.1 36) (by omega) (by omega)) | fail)) (show n_Yp (τ_261.1 32) ((τ_261.1 36 + 1)) (τ_261.2.1 46) from by (first | (intro j j0 j1; exfalso; omega) | exact i45_13 | (rw [e_τ_261]; exact n_Yp_w (m' := τ_162.1 32) (a' := τ_162.1 36 + 1) i162_21 (by omega) (by omega)) | (rw [e_τ_261]; exact n_Yp_a (m := τ_162.1 32) (a := τ_162.1 36 + 1) (n_Yp_w i162_21 (by omega) (by omega)) (τ_162.1 36) (by omega) (by omega)) | fail)) (show n_Yn ((τ_261.1 36 + 1)) n1 (τ_261.1 37) (σ.2.1 13) (σ.2.1 19) (τ_261.2.1 56) (τ_261.2.1 57) (τ_261.2.1 58) from by (first | exact n_Yn_0 _ _ _ _ _ _ _ | exact i45_14 | (rw [e_τ_261]; exact n_Yn_a i162_22 y1 (show u2_162 - σ.2.1 25 n1 - pP u2_162 ≤ τ_162.1 37 by omega)) | fail)) (show ((τ_261.1 36 + 1)) = n_rn (σ.2.1 25 n1) ((u2_162 + 1) - σ.2.1 25 n1) (σ.2.1 27) from by (first | omega | (rw [e_x4, n_rn_0 (by omega)]) | fail)) (show (τ_261.1 37) = n_ws (σ.2.1 13) (σ.2.1 19) (τ_261.2.1 56) ((τ_261.1 36 + 1)) from by (first | exact (sm_0 _).symm | exact i45_16 | (rw [e_τ_261]; exact ws) | fail))
            ·
              refine ⟨(show 0 ≤ τ_162.1 32 ∧ τ_162.1 32 < 300 from by (first | omega | (simp only [st_s] <;> omega) | assumption | omega | fail)), ?_⟩
              replace hT := mT_a (k := 46) (j := (τ_162.1 32)) hT (show (0 : Int) ≤ (τ_162.1 36) ∧ (τ_162.1 36) ≤ 20000 from by (first | omega | (simp only [st_s] <;> omega) | assumption | omega | fail))
              refine ⟨(⟨by (first | omega | (simp only [st_s] <;> omega) | assumption | omega | fail), by (first | omega | (simp only [st_s] <;> omega) | assumption | omega | fail)⟩ : rg (τ_162.1 32 + 1)), ?_⟩
              replace hT := mT_v (i := 32) hT (show 0 ≤ (τ_162.1 32 + 1) ∧ (τ_162.1 32 + 1) ≤ 300 from by (first | omega | (simp only [st_s] <;> omega) | assumption | omega | fail))
              obtain ⟨τ_261, e_τ_261⟩ : ∃ z : S0, z = s_v (s_a (s_v (s_a τ_162 42 (τ_162.1 30) (τ_162.1 36)) 30 (τ_162.1 30 + 1)) 46 (τ_162.1 32) (τ_162.1 36)) 32 (τ_162.1 32 + 1) := ⟨_, rfl⟩
              rw [← e_τ_261]
              replace hT : m_T τ_261 := by rw [e_τ_261]; exact hT
              have w5_τ_261 : τ_261.1 5 = τ_162.1 5 := by rw [e_τ_261]; rfl
              have w9_τ_261 : τ_261.1 9 = τ_162.1 9 := by rw [e_τ_261]; rfl
              have w30_τ_261 : τ_261.1 30 = (τ_162.1 30 + 1) := by rw [e_τ_261]; rfl
              have w32_τ_261 : τ_261.1 32 = (τ_162.1 32 + 1) := by rw [e_τ_261]; rfl
              have w36_τ_261 : τ_261.1 36 = τ_162.1 36 := by rw [e_τ_261]; rfl
              have w37_τ_261 : τ_261.1 37 = τ_162.1 37 := by rw [e_τ_261]; rfl
              have w38_τ_261 : τ_261.1 38 = τ_162.1 38 := by rw [e_τ_261]; rfl
              have g13_τ_261 : τ_261.2.1 13 = τ_162.2.1 13 := by rw [e_τ_261]; rfl
              have g19_τ_261 : τ_261.2.1 19 = τ_162.2.1 19 := by rw [e_τ_261]; rfl
              have g25_τ_261 : τ_261.2.1 25 = τ_162.2.1 25 := by rw [e_τ_261]; rfl
              have g26_τ_261 : τ_261.2.1 26 = τ_162.2.1 26 := by rw [e_τ_261]; rfl
              have g27_τ_261 : τ_261.2.1 27 = τ_162.2.1 27 := by rw [e_τ_261]; rfl
              have g28_τ_261 : τ_261.2.1 28 = τ_162.2.1 28 := by rw [e_τ_261]; rfl
              have g42_τ_261 : τ_261.2.1 42 = (st (τ_162.2.1 42) (τ_162.1 30) (τ_162.1 36)) := by rw [e_τ_261]; rfl
              have g46_τ_261 : τ_261.2.1 46 = (st (τ_162.2.1 46) (τ_162.1 32) (τ_162.1 36)) := by rw [e_τ_261]; rfl
              have g56_τ_261 : τ_261.2.1 56 = τ_162.2.1 56 := by rw [e_τ_261]; rfl
              have g57_τ_261 : τ_261.2.1 57 = τ_162.2.1 57 := by rw [e_τ_261]; rfl
              have g58_τ_261 : τ_261.2.1 58 = τ_162.2.1 58 := by rw [e_τ_261]; rfl
              have W5 : τ_261.1 5 = σ.1 5 := by first | exact w5_τ_261.trans W5 | omega
              have W9 : τ_261.1 9 = σ.1 9 := by first | exact w9_τ_261.trans W9 | omega
              have G13 : τ_261.2.1 13 = σ.2.1 13 := (g13_τ_261).trans G13
              have G19 : τ_261.2.1 19 = σ.2.1 19 := (g19_τ_261).trans G19
              have G25 : τ_261.2.1 25 = σ.2.1 25 := (g25_τ_261).trans G25
              have G26 : τ_261.2.1 26 = σ.2.1 26 := (g26_τ_261).trans G26
              have G27 : τ_261.2.1 27 = σ.2.1 27 := (g27_τ_261).trans G27
              have G28 : τ_261.2.1 28 = σ.2.1 28 := (g28_τ_261).trans G28
              have y56_36_τ_261 : τ_261.2.1 56 (τ_261.1 36) = (τ_162.2.1 56) (τ_162.1 36) := by rw [g56_τ_261, w36_τ_261]
              have y57_36_τ_261 : τ_261.2.1 57 (τ_261.1 36) = (τ_162.2.1 57) (τ_162.1 36) := by rw [g57_τ_261, w36_τ_261]
              have A13 : ∀ j, 0 ≤ τ_261.2.1 13 j ∧ τ_261.2.1 13 j ≤ 4 := fun j => hT.2 13 j
              have A19 : ∀ j, 0 ≤ τ_261.2.1 19 j ∧ τ_261.2.1 19 j ≤ 60 := fun j => hT.2 19 j
              have A25 : ∀ j, 0 ≤ τ_261.2.1 25 j ∧ τ_261.2.1 25 j ≤ 20000 := fun j => hT.2 25 j
              have A26 : ∀ j, 0 ≤ τ_261.2.1 26 j ∧ τ_261.2.1 26 j ≤ 20000 := fun j => hT.2 26 j
              have A27 : ∀ j, (-300) ≤ τ_261.2.1 27 j ∧ τ_261.2.1 27 j ≤ 1499 := fun j => hT.2 27 j
              have A28 : ∀ j, 0 ≤ τ_261.2.1 28 j ∧ τ_261.2.1 28 j ≤ 1 := fun j => hT.2 28 j
              have A42 : ∀ j, 0 ≤ τ_261.2.1 42 j ∧ τ_261.2.1 42 j ≤ 20000 := fun j => hT.2 42 j
              have A46 : ∀ j, 0 ≤ τ_261.2.1 46 j ∧ τ_261.2.1 46 j ≤ 20000 := fun j => hT.2 46 j
              have A56 : ∀ j, 0 ≤ τ_261.2.1 56 j ∧ τ_261.2.1 56 j ≤ 1499 := fun j => hT.2 56 j
              have A57 : ∀ j, 0 ≤ τ_261.2.1 57 j ∧ τ_261.2.1 57 j ≤ 120000 := fun j => hT.2 57 j
              have A58 : ∀ j, 0 ≤ τ_261.2.1 58 j ∧ τ_261.2.1 58 j ≤ 20000 := fun j => hT.2 58 j
              have v5 : 0 ≤ τ_261.1 5 ∧ τ_261.1 5 ≤ 1500 := hT.1 5
              have v9 : 0 ≤ τ_261.1 9 ∧ τ_261.1 9 ≤ 20000 := hT.1 9
              have v30 : 0 ≤ τ_261.1 30 ∧ τ_261.1 30 ≤ 200 := hT.1 30
              have v32 : 0 ≤ τ_261.1 32 ∧ τ_261.1 32 ≤ 300 := hT.1 32
              have v36 : 0 ≤ τ_261.1 36 ∧ τ_261.1 36 ≤ 20000 := hT.1 36
              have v37 : 0 ≤ τ_261.1 37 ∧ τ_261.1 37 ≤ 120000 := hT.1 37
              have v38 : 0 ≤ τ_261.1 38 ∧ τ_261.1 38 ≤ 1500 := hT.1 38
              have a56_36 : 0 ≤ τ_261.2.1 56 (τ_261.1 36) ∧ τ_261.2.1 56 (τ_261.1 36) ≤ 1499 := hT.2 56 _
              have a57_36 : 0 ≤ τ_261.2.1 57 (τ_261.1 36) ∧ τ_261.2.1 57 (τ_261.1 36) ≤ 120000 := hT.2 57 _
              refine h261 _ _ _ ?_
              refine ⟨(⟨by (first | omega | (simp only [st_s] <;> omega) | assumption | omega | fail), by (first | omega | (simp only [st_s] <;> omega) | assumption | omega | fail)⟩ : rg (τ_261.1 36 + 1)), ?_⟩
              replace hT := mT_v (i := 36) hT (show 0 ≤ (τ_261.1 36 + 1) ∧ (τ_261.1 36 + 1) ≤ 20000 from by (first | omega | (simp only [st_s] <;> omega) | assumption | omega | fail))
              refine ⟨(⟨by (first | omega | (simp only [st_s] <;> omega) | assumption | omega | fail), by (first | omega | (simp only [st_s] <;> omega) | assumption | omega | fail)⟩ : rg (u2_162 + 1)), ?_⟩
              exact ih_45 _ _ (show (20001 - (u2_162 + 1) : Int) < ((m_45 : Nat) : Int) from by ((first | omega | (simp only [st_s] <;> omega) | assumption | omega | fail))) hT (show τ_261.1 5 = σ.1 5 from by first | exact W5 | omega) (show τ_261.1 9 = σ.1 9 from by first | exact W9 | omega) G13 G19 G25 G26 G27 G28 (show σ.2.1 25 n1 ≤ (u2_162 + 1) from by (first | omega | (rw [e_x4]; omega) | fail)) (show (u2_162 + 1) ≤ σ.2.1 25 n1 + σ.2.1 26 n1 from by (first | omega | (rw [e_x4]; omega) | fail)) (show (τ_261.1 30) = pP (u2_162 + 1) from by (first | omega | (rw [e_x4]; omega) | fail)) (show (τ_261.1 32) = pS (u2_162 + 1) from by (first | omega | (rw [e_x4]; omega) | fail)) (show 0 ≤ ((τ_261.1 36 + 1)) from by (first | omega | (simp only [st_s] <;> omega) | assumption | omega | fail)) (show ((τ_261.1 36 + 1)) ≤ (u2_162 + 1) - σ.2.1 25 n1 from by (first | omega | (simp only [st_s] <;> omega) | assumption | omega | fail)) (show (τ_261.1 37) + (τ_261.1 30) = (u2_162 + 1) - σ.2.1 25 n1 from by (first | omega | (rw [e_x4]; omega) | fail)) (show (τ_261.1 30) ≤ 200 from by (first | omega | (simp only [st_s] <;> omega) | assumption | omega | fail)) (show (u2_162 + 1) = σ.2.1 25 n1 ∨ 1 ≤ ((τ_261.1 36 + 1)) from by (first | omega | (rw [e_x4]; omega) | fail)) (show (τ_261.1 38) = n1 + 1 from by (first | omega | (simp only [st_s] <;> omega) | assumption | omega | fail)) (show pS (u2_162 + 1) = ca (σ.2.1 28) (u2_162 + 1) - ca (σ.2.1 28) (σ.2.1 25 n1) from by (first | omega | (rw [e_x4]; omega) | fail)) (show n_Yp (τ_261.1 30) ((τ_261.1 36 + 1)) (τ_261.2.1 42) from by (first | (intro j j0 j1; exfalso; omega) | exact n_Yp_a i45_12 x18 (by omega) (by omega) | (rw [e_τ_261]; exact n_Yp_a (m := τ_162.1 30) (a := τ_162.1 36 + 1) (n_Yp_w i162_20 (by omega) (by omega)) (τ_162.1 36) (by omega) (by omega)) | fail)) (show n_Yp (τ_261.1 32) ((τ_261.1 36 + 1)) (τ_261.2.1 46) from by (first | (intro j j0 j1; exfalso; omega) | exact i45_13 | (rw [e_τ_261]; exact n_Yp_w (m' := τ_162.1 32) (a' := τ_162.1 36 + 1) i162_21 (by omega) (by omega)) | (rw [e_τ_261]; exact n_Yp_a (m := τ_162.1 32) (a := τ_162.1 36 + 1) (n_Yp_w i162_21 (by omega) (by omega)) (τ_162.1 36) (by omega) (by omega)) | fail)) (show n_Yn ((τ_261.1 36 + 1)) n1 (τ_261.1 37) (σ.2.1 13) (σ.2.1 19) (τ_261.2.1 56) (τ_261.2.1 57) (τ_261.2.1 58) from by (first | exact n_Yn_0 _ _ _ _ _ _ _ | exact i45_14 | (rw [e_τ_261]; exact n_Yn_a i162_22 y1 (show u2_162 - σ.2.1 25 n1 - pP u2_162 ≤ τ_162.1 37 by omega)) | fail)) (show ((τ_261.1 36 + 1)) = n_rn (σ.2.1 25 n1) ((u2_162 + 1) - σ.2.1 25 n1) (σ.2.1 27) from by (first | omega | (rw [e_x4, n_rn_0 (by omega)]) | fail)) (show (τ_261.1 37) = n_ws (σ.2.1 13) (σ.2.1 19) (τ_261.2.1 56) ((τ_261.1 36 + 1)) from by (first | exact (sm_0 _).symm | exact i45_16 | (rw [e_τ_261]; exact ws) | fail))
          ·
            refine ⟨(show 0 ≤ (τ_162.1 30 + u5_162) ∧ (τ_162.1 30 + u5_162) < 202 from by (first | omega | (simp only [st_s] <;> omega) | assumption | omega | fail)), ?_⟩
            intro x33 r_x33 e_x33
            have b_x33 : 0 ≤ x33 ∧ x33 ≤ 20000 := by rw [e_x33]; exact hT.2 42 _
            have xx33 := i162_20 (τ_162.1 30 + u5_162) (by omega) (by omega)
            refine ⟨(show 0 ≤ τ_162.1 37 ∧ τ_162.1 37 < 120000 from by (first | omega | (simp only [st_s] <;> omega) | assumption | omega | fail)), ?_⟩
            replace hT := mT_a (k := 58) (j := (τ_162.1 37)) hT (show (0 : Int) ≤ x33 ∧ x33 ≤ 20000 from by (first | omega | (simp only [st_s] <;> omega) | assumption | omega | fail))
            refine ⟨(⟨by (first | omega | (simp only [st_s] <;> omega) | assumption | omega | fail), by (first | omega | (simp only [st_s] <;> omega) | assumption | omega | fail)⟩ : rg (τ_162.1 37 + 1)), ?_⟩
            replace hT := mT_v (i := 37) hT (show 0 ≤ (τ_162.1 37 + 1) ∧ (τ_162.1 37 + 1) ≤ 120000 from by (first | omega | (simp only [st_s] <;> omega) | assumption | omega | fail))
            refine ⟨(⟨by (first | omega | (simp only [st_s] <;> omega) | assumption | omega | fail), by (first | omega | (simp only [st_s] <;> omega) | assumption | omega | fail)⟩ : rg (u5_162 + 1)), ?_⟩
            exact ih_162 _ _ _ _ (show (61 - (u5_162 + 1) : Int) < ((m_162 : Nat) : Int) from by ((first | omega | (simp only [st_s] <;> omega) | assumption | omega | fail))) hT (show τ_162.1 5 = σ.1 5 from by first | exact W5 | omega) (show τ_162.1 9 = σ.1 9 from by first | exact W9 | omega) G13 G19 G25 G26 G27 G28 (show σ.2.1 25 n1 ≤ u2_162 from by (first | omega | (simp only [st_s] <;> omega) | assumption | omega | fail)) (show u2_162 < σ.2.1 25 n1 + σ.2.1 26 n1 from by (first | omega | (simp only [st_s] <;> omega) | assumption | omega | fail)) (show 0 ≤ σ.2.1 27 u2_162 from by (first | omega | (simp only [st_s] <;> omega) | assumption | omega | fail)) (show u4_162 = n_wd (σ.2.1 13) (σ.2.1 19) (σ.2.1 27 u2_162) from by (first | exact wd.symm | omega | fail)) (show 0 ≤ (u5_162 + 1) from by (first | omega | (simp only [st_s] <;> omega) | assumption | omega | fail)) (show (u5_162 + 1) ≤ u4_162 from by (first | omega | (simp only [st_s] <;> omega) | assumption | omega | fail)) (show u4_162 ≤ pP u2_162 ∧ u4_162 ≤ 60 from by (first | omega | (simp only [st_s] <;> omega) | assumption | omega | fail)) (show pP u2_162 ≤ 200 from by (first | omega | (simp only [st_s] <;> omega) | assumption | omega | fail)) (show (τ_162.1 30) = pP u2_162 - u4_162 from by (first | omega | (simp only [st_s] <;> omega) | assumption | omega | fail)) (show (τ_162.1 32) = pS u2_162 from by (first | omega | (simp only [st_s] <;> omega) | assumption | omega | fail)) (show 0 ≤ (τ_162.1 36) from by (first | omega | (simp only [st_s] <;> omega) | assumption | omega | fail)) (show (τ_162.1 36) ≤ u2_162 - σ.2.1 25 n1 from by (first | omega | (simp only [st_s] <;> omega) | assumption | omega | fail)) (show ((τ_162.1 37 + 1)) = (u2_162 - σ.2.1 25 n1 - pP u2_162) + (u5_162 + 1) from by (first | omega | (simp only [st_s] <;> omega) | assumption | omega | fail)) (show 0 ≤ (u2_162 - σ.2.1 25 n1 - pP u2_162) from by (first | omega | (simp only [st_s] <;> omega) | assumption | omega | fail)) (show (τ_162.1 38) = n1 + 1 from by (first | omega | (simp only [st_s] <;> omega) | assumption | omega | fail)) (show pS u2_162 = ca (σ.2.1 28) u2_162 - ca (σ.2.1 28) (σ.2.1 25 n1) from by (first | omega | (simp only [st_s] <;> omega) | assumption | omega | fail)) (show τ_162.2.1 56 (τ_162.1 36) = σ.2.1 27 u2_162 from by (first | (rw [st_s]; exact e_x11) | exact i162_17 | fail)) (show τ_162.2.1 57 (τ_162.1 36) = (u2_162 - σ.2.1 25 n1 - pP u2_162) from by (first | exact i162_18 | (rw [st_s]; omega) | fail)) (show ∀ k : Int, 0 ≤ k → k < (u5_162 + 1) → 0 ≤ (st (τ_162.2.1 58) (τ_162.1 37) x33) ((u2_162 - σ.2.1 25 n1 - pP u2_162) + k) ∧ (st (τ_162.2.1 58) (τ_162.1 37) x33) ((u2_162 - σ.2.1 25 n1 - pP u2_162) + k) < (τ_162.1 36) from by (first | (intro k a b; exfalso; omega) | (intro k a b; rcases (by omega : k < u5_162 ∨ k = u5_162) with q | q; (rw [st_n _ _ (by omega)]; exact i162_19 k a q); (rw [show u2_162 - σ.2.1 25 n1 - pP u2_162 + k = τ_162.1 37 from by omega, st_s]; omega)) | fail)) (show n_Yp (pP u2_162) (τ_162.1 36) (τ_162.2.1 42) from by (first | exact i162_20 | exact n_Yp_w i45_12 (by omega) (by omega) | fail)) (show n_Yp (τ_162.1 32) (τ_162.1 36) (τ_162.2.1 46) from by (first | exact i162_21 | exact i45_13 | fail)) (show n_Yn (τ_162.1 36) n1 (u2_162 - σ.2.1 25 n1 - pP u2_162) (σ.2.1 13) (σ.2.1 19) (τ_162.2.1 56) (τ_162.2.1 57) ((st (τ_162.2.1 58) (τ_162.1 37) x33)) from by (first | exact n_Yn_f i162_22 (by omega) | (rw [show u2_45 - σ.2.1 25 n1 - pP u2_45 = τ_45.1 37 from by omega]; exact n_Yn_s i45_14) | fail)) (show (τ_162.1 36) = n_rn (σ.2.1 25 n1) (u2_162 - σ.2.1 25 n1) (σ.2.1 27) from by (first | omega | assumption | fail)) (show (u2_162 - σ.2.1 25 n1 - pP u2_162) = n_ws (σ.2.1 13) (σ.2.1 19) (τ_162.2.1 56) (τ_162.1 36) from by (first | exact i162_24 | (rw [n_ws_a]; omega) | fail)) (show u2_162 + (m_45 : Int) ≥ 20001 from by (first | omega | (simp only [st_s] <;> omega) | assumption | omega | fail))
      refine h45 n1 u2_45 τ_45 ?_
      refine ⟨(show 0 ≤ n1 ∧ n1 < 1501 from by (first | omega | (simp only [st_s] <;> omega) | assumption | omega | fail)), ?_⟩
      intro x6 r_x6 e_x6
      have b_x6 : 0 ≤ x6 ∧ x6 ≤ 20000 := by rw [e_x6]; exact hT.2 25 _
      rw [G25] at e_x6
      intro x7 r_x7 e_x7
      have b_x7 : 0 ≤ x7 ∧ x7 ≤ 20000 := by rw [e_x7]; exact hT.2 26 _
      rw [G26] at e_x7
      refine ⟨(⟨by (first | omega | (simp only [st_s] <;> omega) | assumption | omega | fail), by (first | omega | (simp only [st_s] <;> omega) | assumption | omega | fail)⟩ : rg (x6 + x7)), ?_⟩
      refine ⟨fun c9 => ?_, fun c9 => ?_⟩
      ·
        exact ⟨hT, (show (τ_45.1 38) = n1 + 1 from by (first | omega | (simp only [st_s] <;> omega) | assumption | omega | fail)), (show n_Y τ_45 from by (first | exact p6 | (refine Or.inr ⟨⟨by omega, by omega, ?_⟩, ⟨by omega, ?_, ?_⟩, ?_⟩; (rw [show τ_45.1 38 - 1 = n1 from by omega, G13]; exact p3); (rw [show τ_45.1 38 - 1 = n1 from by omega, G25, G26, G27, show σ.2.1 26 n1 = u2_45 - σ.2.1 25 n1 from by omega]; exact i45_15); (rw [G13, G19, ← i45_16]; omega); (rw [show τ_45.1 38 - 1 = n1 from by omega, G13, G19]; exact n_Yn_w i45_14 (by omega))) | fail))⟩
      ·
        obtain ⟨⟨d1, d0⟩, d2, d3, d4, d5, d6⟩ := n_sT_d (zs u2_45 (by omega) (by omega)) (by omega)
        have cu := ca_u (σ.2.1 28) (n := u2_45) (by omega)
        have cm := ca_m (σ.2.1 28) (n := u2_45 + 1) (m := σ.2.1 25 n1 + σ.2.1 26 n1) (by omega) (by omega)
        have rn := n_rn_s (a := σ.2.1 25 n1) (u := u2_45) (sw := σ.2.1 27) (by omega)
        refine ⟨(show 0 ≤ u2_45 ∧ u2_45 < 20001 from by (first | omega | (simp only [st_s] <;> omega) | assumption | omega | fail)), ?_⟩
        intro x11 r_x11 e_x11
        have b_x11 : (-300) ≤ x11 ∧ x11 ≤ 1499 := by rw [e_x11]; exact hT.2 27 _
        rw [G27] at e_x11
        rw [← e_x11] at d0 d2 d3 rn
        refine ⟨fun c12 => ?_, fun c12 => ?_⟩
        ·
          refine ⟨(show 0 ≤ x11 ∧ x11 < 1501 from by (first | omega | (simp only [st_s] <;> omega) | assumption | omega | fail)), ?_⟩
          intro x14 r_x14 e_x14
          have b_x14 : 0 ≤ x14 ∧ x14 ≤ 4 := by rw [e_x14]; exact hT.2 13 _
          rw [G13] at e_x14
          refine ⟨fun c15 => ?_, fun c15 => ?_⟩
          ·
            intro x16 r_x16 e_x16
            have b_x16 : 0 ≤ x16 ∧ x16 ≤ 60 := by rw [e_x16]; exact hT.2 19 _
            rw [G19] at e_x16
            refine h123 _ _ _ _ _ ?_
            have wd : n_wd (σ.2.1 13) (σ.2.1 19) (σ.2.1 27 u2_45) = (x16 : Int) := by (unfold n_wd; rw [← e_x11]; first | (rw [if_pos (by rw [← e_x14]; assumption)]; exact e_x16.symm) | (rw [if_neg (by rw [← e_x14]; omega)]))
            have wd2 := wd
            rw [← e_x11] at wd2
            refine ⟨(show 0 ≤ τ_45.1 36 ∧ τ_45.1 36 < 20001 from by (first | omega | (simp only [st_s] <;> omega) | assumption | omega | fail)), ?_⟩
            replace hT := mT_a (k := 56) (j := (τ_45.1 36)) hT (show (0 : Int) ≤ x11 ∧ x11 ≤ 1499 from by (first | omega | (simp only [st_s] <;> omega) | assumption | omega | fail))
            replace hT := mT_a (k := 57) (j := (τ_45.1 36)) hT (show (0 : Int) ≤ (τ_45.1 37) ∧ (τ_45.1 37) ≤ 120000 from by (first | omega | (simp only [st_s] <;> omega) | assumption | omega | fail))
            refine ⟨(⟨by (first | omega | (simp only [st_s] <;> omega) | assumption | omega | fail), by (first | omega | (simp only [st_s] <;> omega) | assumption | omega | fail)⟩ : rg (τ_45.1 30 - x16)), ?_⟩
            replace hT := mT_v (i := 30) hT (show 0 ≤ (τ_45.1 30 - x16) ∧ (τ_45.1 30 - x16) ≤ 200 from by (first | omega | (simp only [st_s] <;> omega) | assumption | omega | fail))
            exact l_162 ((61 - 0 : Int).toNat + 1) _ _ _ _ (show (61 - 0 : Int) < (((61 - 0 : Int).toNat + 1 : Nat) : Int) from by ((first | omega | (simp only [st_s] <;> omega) | assumption | omega | fail))) hT (show τ_45.1 5 = σ.1 5 from by first | exact W5 | omega) (show τ_45.1 9 = σ.1 9 from by first | exact W9 | omega) G13 G19 G25 G26 G27 G28 (show σ.2.1 25 n1 ≤ u2_45 from by (first | omega | (simp only [st_s] <;> omega) | assumption | omega | fail)) (show u2_45 < σ.2.1 25 n1 + σ.2.1 26 n1 from by (first | omega | (simp only [st_s] <;> omega) | assumption | omega | fail)) (show 0 ≤ σ.2.1 27 u2_45 from by (first | omega | (simp only [st_s] <;> omega) | assumption | omega | fail)) (show x16 = n_wd (σ.2.1 13) (σ.2.1 19) (σ.2.1 27 u2_45) from by (first | exact wd.symm | omega | fail)) (show 0 ≤ 0 from by (first | omega | (simp only [st_s] <;> omega) | assumption | omega | fail)) (show 0 ≤ x16 from by (first | omega | (simp only [st_s] <;> omega) | assumption | omega | fail)) (show x16 ≤ pP u2_45 ∧ x16 ≤ 60 from by (first | omega | (simp only [st_s] <;> omega) | assumption | omega | fail)) (show pP u2_45 ≤ 200 from by (first | omega | (simp only [st_s] <;> omega) | assumption | omega | fail)) (show ((τ_45.1 30 - x16)) = pP u2_45 - x16 from by (first | omega | (simp only [st_s] <;> omega) | assumption | omega | fail)) (show (τ_45.1 32) = pS u2_45 from by (first | omega | (simp only [st_s] <;> omega) | assumption | omega | fail)) (show 0 ≤ (τ_45.1 36) from by (first | omega | (simp only [st_s] <;> omega) | assumption | omega | fail)) (show (τ_45.1 36) ≤ u2_45 - σ.2.1 25 n1 from by (first | omega | (simp only [st_s] <;> omega) | assumption | omega | fail)) (show (τ_45.1 37) = (u2_45 - σ.2.1 25 n1 - pP u2_45) + 0 from by (first | omega | (simp only [st_s] <;> omega) | assumption | omega | fail)) (show 0 ≤ (u2_45 - σ.2.1 25 n1 - pP u2_45) from by (first | omega | (simp only [st_s] <;> omega) | assumption | omega | fail)) (show (τ_45.1 38) = n1 + 1 from by (first | omega | (simp only [st_s] <;> omega) | assumption | omega | fail)) (show pS u2_45 = ca (σ.2.1 28) u2_45 - ca (σ.2.1 28) (σ.2.1 25 n1) from by (first | omega | (simp only [st_s] <;> omega) | assumption | omega | fail)) (show (st (τ_45.2.1 56) (τ_45.1 36) x11) (τ_45.1 36) = σ.2.1 27 u2_45 from by (first | (rw [st_s]; exact e_x11) | exact i162_17 | fail)) (show (st (τ_45.2.1 57) (τ_45.1 36) (τ_45.1 37)) (τ_45.1 36) = (u2_45 - σ.2.1 25 n1 - pP u2_45) from by (first | exact i162_18 | (rw [st_s]; omega) | fail)) (show ∀ k : Int, 0 ≤ k → k < 0 → 0 ≤ τ_45.2.1 58 ((u2_45 - σ.2.1 25 n1 - pP u2_45) + k) ∧ τ_45.2.1 58 ((u2_45 - σ.2.1 25 n1 - pP u2_45) + k) < (τ_45.1 36) from by (first | (intro k a b; exfalso; omega) | (intro k a b; rcases (by omega : k < u5_162 ∨ k = u5_162) with q | q; (rw [st_n _ _ (by omega)]; exact i162_19 k a q); (rw [show u2_162 - σ.2.1 25 n1 - pP u2_162 + k = τ_162.1 37 from by omega, st_s]; omega)) | fail)) (show n_Yp (pP u2_45) (τ_45.1 36) (τ_45.2.1 42) from by (first | exact i162_20 | exact n_Yp_w i45_12 (by omega) (by omega) | fail)) (show n_Yp (τ_45.1 32) (τ_45.1 36) (τ_45.2.1 46) from by (first | exact i162_21 | exact i45_13 | fail)) (show n_Yn (τ_45.1 36) n1 (u2_45 - σ.2.1 25 n1 - pP u2_45) (σ.2.1 13) (σ.2.1 19) ((st (τ_45.2.1 56) (τ_45.1 36) x11)) ((st (τ_45.2.1 57) (τ_45.1 36) (τ_45.1 37))) (τ_45.2.1 58) from by (first | exact n_Yn_f i162_22 (by omega) | (rw [show u2_45 - σ.2.1 25 n1 - pP u2_45 = τ_45.1 37 from by omega]; exact n_Yn_s i45_14) | fail)) (show (τ_45.1 36) = n_rn (σ.2.1 25 n1) (u2_45 - σ.2.1 25 n1) (σ.2.1 27) from by (first | omega | assumption | fail)) (show (u2_45 - σ.2.1 25 n1 - pP u2_45) = n_ws (σ.2.1 13) (σ.2.1 19) ((st (τ_45.2.1 56) (τ_45.1 36) x11)) (τ_45.1 36) from by (first | exact i162_24 | (rw [n_ws_a]; omega) | fail)) (show u2_45 + (m_45 : Int) ≥ 20001 from by (first | omega | (simp only [st_s] <;> omega) | assumption | omega | fail))
          ·
            refine h123 _ _ _ _ _ ?_
            have wd : n_wd (σ.2.1 13) (σ.2.1 19) (σ.2.1 27 u2_45) = (0 : Int) := by (unfold n_wd; rw [← e_x11]; first | (rw [if_pos (by rw [← e_x14]; assumption)]; exact e_x16.symm) | (rw [if_neg (by rw [← e_x14]; omega)]))
            have wd2 := wd
            rw [← e_x11] at wd2
            refine ⟨(show 0 ≤ τ_45.1 36 ∧ τ_45.1 36 < 20001 from by (first | omega | (simp only [st_s] <;> omega) | assumption | omega | fail)), ?_⟩
            replace hT := mT_a (k := 56) (j := (τ_45.1 36)) hT (show (0 : Int) ≤ x11 ∧ x11 ≤ 1499 from by (first | omega | (simp only [st_s] <;> omega) | assumption | omega | fail))
            replace hT := mT_a (k := 57) (j := (τ_45.1 36)) hT (show (0 : Int) ≤ (τ_45.1 37) ∧ (τ_45.1 37) ≤ 120000 from by (first | omega | (simp only [st_s] <;> omega) | assumption | omega | fail))
            refine ⟨(⟨by (first | omega | (simp only [st_s] <;> omega) | assumption | omega | fail), by (first | omega | (simp only [st_s] <;> omega) | assumption | omega | fail)⟩ : rg (τ_45.1 30 - 0)), ?_⟩
            replace hT := mT_v (i := 30) hT (show 0 ≤ (τ_45.1 30 - 0) ∧ (τ_45.1 30 - 0) ≤ 200 from by (first | omega | (simp only [st_s] <;> omega) | assumption | omega | fail))
            exact l_162 ((61 - 0 : Int).toNat + 1) _ _ _ _ (show (61 - 0 : Int) < (((61 - 0 : Int).toNat + 1 : Nat) : Int) from by ((first | omega | (simp only [st_s] <;> omega) | assumption | omega | fail))) hT (show τ_45.1 5 = σ.1 5 from by first | exact W5 | omega) (show τ_45.1 9 = σ.1 9 from by first | exact W9 | omega) G13 G19 G25 G26 G27 G28 (show σ.2.1 25 n1 ≤ u2_45 from by (first | omega | (simp only [st_s] <;> omega) | assumption | omega | fail)) (show u2_45 < σ.2.1 25 n1 + σ.2.1 26 n1 from by (first | omega | (simp only [st_s] <;> omega) | assumption | omega | fail)) (show 0 ≤ σ.2.1 27 u2_45 from by (first | omega | (simp only [st_s] <;> omega) | assumption | omega | fail)) (show 0 = n_wd (σ.2.1 13) (σ.2.1 19) (σ.2.1 27 u2_45) from by (first | exact wd.symm | omega | fail)) (show 0 ≤ 0 from by (first | omega | (simp only [st_s] <;> omega) | assumption | omega | fail)) (show 0 ≤ 0 from by (first | omega | (simp only [st_s] <;> omega) | assumption | omega | fail)) (show 0 ≤ pP u2_45 ∧ 0 ≤ 60 from by (first | omega | (simp only [st_s] <;> omega) | assumption | omega | fail)) (show pP u2_45 ≤ 200 from by (first | omega | (simp only [st_s] <;> omega) | assumption | omega | fail)) (show ((τ_45.1 30 - 0)) = pP u2_45 - 0 from by (first | omega | (simp only [st_s] <;> omega) | assumption | omega | fail)) (show (τ_45.1 32) = pS u2_45 from by (first | omega | (simp only [st_s] <;> omega) | assumption | omega | fail)) (show 0 ≤ (τ_45.1 36) from by (first | omega | (simp only [st_s] <;> omega) | assumption | omega | fail)) (show (τ_45.1 36) ≤ u2_45 - σ.2.1 25 n1 from by (first | omega | (simp only [st_s] <;> omega) | assumption | omega | fail)) (show (τ_45.1 37) = (u2_45 - σ.2.1 25 n1 - pP u2_45) + 0 from by (first | omega | (simp only [st_s] <;> omega) | assumption | omega | fail)) (show 0 ≤ (u2_45 - σ.2.1 25 n1 - pP u2_45) from by (first | omega | (simp only [st_s] <;> omega) | assumption | omega | fail)) (show (τ_45.1 38) = n1 + 1 from by (first | omega | (simp only [st_s] <;> omega) | assumption | omega | fail)) (show pS u2_45 = ca (σ.2.1 28) u2_45 - ca (σ.2.1 28) (σ.2.1 25 n1) from by (first | omega | (simp only [st_s] <;> omega) | assumption | omega | fail)) (show (st (τ_45.2.1 56) (τ_45.1 36) x11) (τ_45.1 36) = σ.2.1 27 u2_45 from by (first | (rw [st_s]; exact e_x11) | exact i162_17 | fail)) (show (st (τ_45.2.1 57) (τ_45.1 36) (τ_45.1 37)) (τ_45.1 36) = (u2_45 - σ.2.1 25 n1 - pP u2_45) from by (first | exact i162_18 | (rw [st_s]; omega) | fail)) (show ∀ k : Int, 0 ≤ k → k < 0 → 0 ≤ τ_45.2.1 58 ((u2_45 - σ.2.1 25 n1 - pP u2_45) + k) ∧ τ_45.2.1 58 ((u2_45 - σ.2.1 25 n1 - pP u2_45) + k) < (τ_45.1 36) from by (first | (intro k a b; exfalso; omega) | (intro k a b; rcases (by omega : k < u5_162 ∨ k = u5_162) with q | q; (rw [st_n _ _ (by omega)]; exact i162_19 k a q); (rw [show u2_162 - σ.2.1 25 n1 - pP u2_162 + k = τ_162.1 37 from by omega, st_s]; omega)) | fail)) (show n_Yp (pP u2_45) (τ_45.1 36) (τ_45.2.1 42) from by (first | exact i162_20 | exact n_Yp_w i45_12 (by omega) (by omega) | fail)) (show n_Yp (τ_45.1 32) (τ_45.1 36) (τ_45.2.1 46) from by (first | exact i162_21 | exact i45_13 | fail)) (show n_Yn (τ_45.1 36) n1 (u2_45 - σ.2.1 25 n1 - pP u2_45) (σ.2.1 13) (σ.2.1 19) ((st (τ_45.2.1 56) (τ_45.1 36) x11)) ((st (τ_45.2.1 57) (τ_45.1 36) (τ_45.1 37))) (τ_45.2.1 58) from by (first | exact n_Yn_f i162_22 (by omega) | (rw [show u2_45 - σ.2.1 25 n1 - pP u2_45 = τ_45.1 37 from by omega]; exact n_Yn_s i45_14) | fail)) (show (τ_45.1 36) = n_rn (σ.2.1 25 n1) (u2_45 - σ.2.1 25 n1) (σ.2.1 27) from by (first | omega | assumption | fail)) (show (u2_45 - σ.2.1 25 n1 - pP u2_45) = n_ws (σ.2.1 13) (σ.2.1 19) ((st (τ_45.2.1 56) (τ_45.1 36) x11)) (τ_45.1 36) from by (first | exact i162_24 | (rw [n_ws_a]; omega) | fail)) (show u2_45 + (m_45 : Int) ≥ 20001 from by (first | omega | (simp only [st_s] <;> omega) | assumption | omega | fail))
        ·
          refine ⟨(show 0 ≤ ((-1) - x11) ∧ ((-1) - x11) < 300 from by (first | omega | (simp only [st_s] <;> omega) | assumption | omega | fail)), ?_⟩
          intro x18 r_x18 e_x18
          have b_x18 : 0 ≤ x18 ∧ x18 ≤ 20000 := by rw [e_x18]; exact hT.2 46 _
          have xx18 := i45_13 (-1 - x11) (by omega) (by omega)
          refine ⟨(show 0 ≤ τ_45.1 30 ∧ τ_45.1 30 < 202 from by (first | omega | (simp only [st_s] <;> omega) | assumption | omega | fail)), ?_⟩
          replace hT := mT_a (k := 42) (j := (τ_45.1 30)) hT (show (0 : Int) ≤ x18 ∧ x18 ≤ 20000 from by (first | omega | (simp only [st_s] <;> omega) | assumption | omega | fail))
          refine ⟨(⟨by (first | omega | (simp only [st_s] <;> omega) | assumption | omega | fail), by (first | omega | (simp only [st_s] <;> omega) | assumption | omega | fail)⟩ : rg (τ_45.1 30 + 1)), ?_⟩
          replace hT := mT_v (i := 30) hT (show 0 ≤ (τ_45.1 30 + 1) ∧ (τ_45.1 30 + 1) ≤ 200 from by (first | omega | (simp only [st_s] <;> omega) | assumption | omega | fail))
          refine ⟨(⟨by (first | omega | (simp only [st_s] <;> omega) | assumption | omega | fail), by (first | omega | (simp only [st_s] <;> omega) | assumption | omega | fail)⟩ : rg (u2_45 + 1)), ?_⟩
          exact ih_45 _ _ (show (20001 - (u2_45 + 1) : Int) < ((m_45 : Nat) : Int) from by ((first | omega | (simp only [st_s] <;> omega) | assumption | omega | fail))) hT (show τ_45.1 5 = σ.1 5 from by first | exact W5 | omega) (show τ_45.1 9 = σ.1 9 from by first | exact W9 | omega) G13 G19 G25 G26 G27 G28 (show σ.2.1 25 n1 ≤ (u2_45 + 1) from by (first | omega | (rw [e_x4]; omega) | fail)) (show (u2_45 + 1) ≤ σ.2.1 25 n1 + σ.2.1 26 n1 from by (first | omega | (rw [e_x4]; omega) | fail)) (show ((τ_45.1 30 + 1)) = pP (u2_45 + 1) from by (first | omega | (rw [e_x4]; omega) | fail)) (show (τ_45.1 32) = pS (u2_45 + 1) from by (first | omega | (rw [e_x4]; omega) | fail)) (show 0 ≤ (τ_45.1 36) from by (first | omega | (simp only [st_s] <;> omega) | assumption | omega | fail)) (show (τ_45.1 36) ≤ (u2_45 + 1) - σ.2.1 25 n1 from by (first | omega | (simp only [st_s] <;> omega) | assumption | omega | fail)) (show (τ_45.1 37) + ((τ_45.1 30 + 1)) = (u2_45 + 1) - σ.2.1 25 n1 from by (first | omega | (rw [e_x4]; omega) | fail)) (show ((τ_45.1 30 + 1)) ≤ 200 from by (first | omega | (simp only [st_s] <;> omega) | assumption | omega | fail)) (show (u2_45 + 1) = σ.2.1 25 n1 ∨ 1 ≤ (τ_45.1 36) from by (first | omega | (rw [e_x4]; omega) | fail)) (show (τ_45.1 38) = n1 + 1 from by (first | omega | (simp only [st_s] <;> omega) | assumption | omega | fail)) (show pS (u2_45 + 1) = ca (σ.2.1 28) (u2_45 + 1) - ca (σ.2.1 28) (σ.2.1 25 n1) from by (first | omega | (rw [e_x4]; omega) | fail)) (show n_Yp ((τ_45.1 30 + 1)) (τ_45.1 36) ((st (τ_45.2.1 42) (τ_45.1 30) x18)) from by (first | (intro j j0 j1; exfalso; omega) | exact n_Yp_a i45_12 x18 (by omega) (by omega) | (rw [e_τ_261]; exact n_Yp_a (m := τ_162.1 30) (a := τ_162.1 36 + 1) (n_Yp_w i162_20 (by omega) (by omega)) (τ_162.1 36) (by omega) (by omega)) | fail)) (show n_Yp (τ_45.1 32) (τ_45.1 36) (τ_45.2.1 46) from by (first | (intro j j0 j1; exfalso; omega) | exact i45_13 | (rw [e_τ_261]; exact n_Yp_w (m' := τ_162.1 32) (a' := τ_162.1 36 + 1) i162_21 (by omega) (by omega)) | (rw [e_τ_261]; exact n_Yp_a (m := τ_162.1 32) (a := τ_162.1 36 + 1) (n_Yp_w i162_21 (by omega) (by omega)) (τ_162.1 36) (by omega) (by omega)) | fail)) (show n_Yn (τ_45.1 36) n1 (τ_45.1 37) (σ.2.1 13) (σ.2.1 19) (τ_45.2.1 56) (τ_45.2.1 57) (τ_45.2.1 58) from by (first | exact n_Yn_0 _ _ _ _ _ _ _ | exact i45_14 | (rw [e_τ_261]; exact n_Yn_a i162_22 y1 (show u2_162 - σ.2.1 25 n1 - pP u2_162 ≤ τ_162.1 37 by omega)) | fail)) (show (τ_45.1 36) = n_rn (σ.2.1 25 n1) ((u2_45 + 1) - σ.2.1 25 n1) (σ.2.1 27) from by (first | omega | (rw [e_x4, n_rn_0 (by omega)]) | fail)) (show (τ_45.1 37) = n_ws (σ.2.1 13) (σ.2.1 19) (τ_45.2.1 56) (τ_45.1 36) from by (first | exact (sm_0 _).symm | exact i45_16 | (rw [e_τ_261]; exact ws) | fail))
  refine ⟨(⟨by (first | omega | (simp only [st_s] <;> omega) | assumption | omega | fail), by (first | omega | (simp only [st_s] <;> omega) | assumption | omega | fail)⟩ : rg (n1 + 1)), ?_⟩
  refine ⟨fun c2 => ?_, fun c2 => ?_⟩
  ·
    replace hT := mT_v (i := 38) hT (show 0 ≤ (n1 + 1) ∧ (n1 + 1) ≤ 1500 from by (first | omega | (simp only [st_s] <;> omega) | assumption | omega | fail))
    replace hT := mT_v (i := 36) hT (show (0 : Int) ≤ 0 ∧ 0 ≤ 20000 from by (first | omega | (simp only [st_s] <;> omega) | assumption | omega | fail))
    replace hT := mT_v (i := 37) hT (show (0 : Int) ≤ 0 ∧ 0 ≤ 120000 from by (first | omega | (simp only [st_s] <;> omega) | assumption | omega | fail))
    replace hT := mT_v (i := 30) hT (show (0 : Int) ≤ 0 ∧ 0 ≤ 200 from by (first | omega | (simp only [st_s] <;> omega) | assumption | omega | fail))
    replace hT := mT_v (i := 32) hT (show (0 : Int) ≤ 0 ∧ 0 ≤ 300 from by (first | omega | (simp only [st_s] <;> omega) | assumption | omega | fail))
    refine ⟨(show 0 ≤ n1 ∧ n1 < 1501 from by (first | omega | (simp only [st_s] <;> omega) | assumption | omega | fail)), ?_⟩
    intro x4 r_x4 e_x4
    have b_x4 : 0 ≤ x4 ∧ x4 ≤ 20000 := by rw [e_x4]; exact hT.2 25 _
    exact l_45 ((20001 - x4 : Int).toNat + 1) _ _ (show (20001 - x4 : Int) < (((20001 - x4 : Int).toNat + 1 : Nat) : Int) from by ((first | omega | (simp only [st_s] <;> omega) | assumption | omega | fail))) hT (show σ.1 5 = σ.1 5 from by first | exact W5 | omega) (show σ.1 9 = σ.1 9 from by first | exact W9 | omega) G13 G19 G25 G26 G27 G28 (show σ.2.1 25 n1 ≤ x4 from by (first | omega | (rw [e_x4]; omega) | fail)) (show x4 ≤ σ.2.1 25 n1 + σ.2.1 26 n1 from by (first | omega | (rw [e_x4]; omega) | fail)) (show ((0 : Int)) = pP x4 from by (first | omega | (rw [e_x4]; omega) | fail)) (show ((0 : Int)) = pS x4 from by (first | omega | (rw [e_x4]; omega) | fail)) (show 0 ≤ ((0 : Int)) from by (first | omega | (simp only [st_s] <;> omega) | assumption | omega | fail)) (show ((0 : Int)) ≤ x4 - σ.2.1 25 n1 from by (first | omega | (simp only [st_s] <;> omega) | assumption | omega | fail)) (show ((0 : Int)) + ((0 : Int)) = x4 - σ.2.1 25 n1 from by (first | omega | (rw [e_x4]; omega) | fail)) (show ((0 : Int)) ≤ 200 from by (first | omega | (simp only [st_s] <;> omega) | assumption | omega | fail)) (show x4 = σ.2.1 25 n1 ∨ 1 ≤ ((0 : Int)) from by (first | omega | (rw [e_x4]; omega) | fail)) (show ((n1 + 1)) = n1 + 1 from by (first | omega | (simp only [st_s] <;> omega) | assumption | omega | fail)) (show pS x4 = ca (σ.2.1 28) x4 - ca (σ.2.1 28) (σ.2.1 25 n1) from by (first | omega | (rw [e_x4]; omega) | fail)) (show n_Yp ((0 : Int)) ((0 : Int)) (σ.2.1 42) from by (first | (intro j j0 j1; exfalso; omega) | exact n_Yp_a i45_12 x18 (by omega) (by omega) | (rw [e_τ_261]; exact n_Yp_a (m := τ_162.1 30) (a := τ_162.1 36 + 1) (n_Yp_w i162_20 (by omega) (by omega)) (τ_162.1 36) (by omega) (by omega)) | fail)) (show n_Yp ((0 : Int)) ((0 : Int)) (σ.2.1 46) from by (first | (intro j j0 j1; exfalso; omega) | exact i45_13 | (rw [e_τ_261]; exact n_Yp_w (m' := τ_162.1 32) (a' := τ_162.1 36 + 1) i162_21 (by omega) (by omega)) | (rw [e_τ_261]; exact n_Yp_a (m := τ_162.1 32) (a := τ_162.1 36 + 1) (n_Yp_w i162_21 (by omega) (by omega)) (τ_162.1 36) (by omega) (by omega)) | fail)) (show n_Yn ((0 : Int)) n1 ((0 : Int)) (σ.2.1 13) (σ.2.1 19) (σ.2.1 56) (σ.2.1 57) (σ.2.1 58) from by (first | exact n_Yn_0 _ _ _ _ _ _ _ | exact i45_14 | (rw [e_τ_261]; exact n_Yn_a i162_22 y1 (show u2_162 - σ.2.1 25 n1 - pP u2_162 ≤ τ_162.1 37 by omega)) | fail)) (show ((0 : Int)) = n_rn (σ.2.1 25 n1) (x4 - σ.2.1 25 n1) (σ.2.1 27) from by (first | omega | (rw [e_x4, n_rn_0 (by omega)]) | fail)) (show ((0 : Int)) = n_ws (σ.2.1 13) (σ.2.1 19) (σ.2.1 56) ((0 : Int)) from by (first | exact (sm_0 _).symm | exact i45_16 | (rw [e_τ_261]; exact ws) | fail))
  ·
    exact ⟨hT, (show (σ.1 38) = n1 + 1 from by (first | omega | (simp only [st_s] <;> omega) | assumption | omega | fail)), (show n_Y σ from by (first | exact p6 | (refine Or.inr ⟨⟨by omega, by omega, ?_⟩, ⟨by omega, ?_, ?_⟩, ?_⟩; (rw [show τ_45.1 38 - 1 = n1 from by omega, G13]; exact p3); (rw [show τ_45.1 38 - 1 = n1 from by omega, G25, G26, G27, show σ.2.1 26 n1 = u2_45 - σ.2.1 25 n1 from by omega]; exact i45_15); (rw [G13, G19, ← i45_16]; omega); (rw [show τ_45.1 38 - 1 = n1 from by omega, G13, G19]; exact n_Yn_w i45_14 (by omega))) | fail))⟩
