-- pure: rows that a tree makes
/-- the pile's rows lie one behind the other, and hold symbols below a bound alone -/
def g_ev (B rows low : Int) (at_ sz dt : Int → Int) : Prop := (0 ≤ low ∧ low ≤ 42000) ∧ ∀ r : Int, 0 ≤ r → r < rows → (0 ≤ at_ r ∧ at_ r ≤ low) ∧ (∀ s : Int, r < s → s < rows → at_ r ≤ at_ s) ∧ (sz r = -2 ∨ ((0 ≤ sz r ∧ sz r ≤ 599) ∧ at_ r + sz r ≤ low ∧ (∀ s : Int, r < s → s < rows → at_ r + sz r ≤ at_ s) ∧ ∀ j : Int, at_ r ≤ j → j < at_ r + sz r → dt j < B))
theorem g_ev0 (B : Int) (at_ sz dt : Int → Int) : g_ev B 0 0 at_ sz dt := ⟨by omega, fun r a b => by omega⟩
/-- what is built holds symbols below the bound -/
def g_bt (B n : Int) (bt : Int → Int) : Prop := ∀ j : Int, 0 ≤ j → j < n → bt j < B
theorem g_bt0 (B : Int) (bt : Int → Int) : g_bt B 0 bt := fun j a b => by omega
theorem g_bt_a {B n i x : Int} {bt : Int → Int} (h : g_bt B n bt) (z : i = n) (hx : x < B) : g_bt B (n + 1) (st bt i x) := fun j a b => by
  by_cases y : j = i
  · rw [y, st_s]; exact hx
  · rw [st_n _ _ y]; exact h j a (by omega)
theorem g_bt_c {B n x c : Int} {bt dt : Int → Int} (h : g_bt B n bt) (hx : ∀ j : Int, x ≤ j → j < x + c → dt j < B) : g_bt B (n + c) (c_py dt bt x n c) := fun j a b => by
  unfold c_py
  by_cases z : n ≤ j ∧ j < n + c
  · rw [if_pos z]; exact hx _ (by omega) (by omega)
  · rw [if_neg z]; exact h j a (by omega)
/-- rows are taken, and a new one is put in their place -/
theorem g_ev_p {B rows f low lw n w : Int} {at_ sz dt bt at2 sz2 dt2 : Int → Int} (h : g_ev B rows low at_ sz dt) (f0 : 0 ≤ f) (f1 : f ≤ rows) (hl : (f < rows ∧ lw = at_ f) ∨ (f = rows ∧ lw = low)) (n0 : 0 ≤ n ∧ n ≤ 599) (hb : g_bt B n bt) (lh : lw + n ≤ 42000) (ea : at2 = st at_ f lw) (es : sz2 = st sz f w) (hw : w = -2 ∨ w = n) (ed : dt2 = c_py bt dt 0 lw n) : g_ev B (f + 1) (lw + n) at2 sz2 dt2 := by
  obtain ⟨⟨l0, l1⟩, h2⟩ := h
  have lw0 : 0 ≤ lw ∧ lw ≤ low := by
    rcases hl with ⟨a, b⟩ | ⟨a, b⟩
    · have := (h2 f f0 a).1; omega
    · omega
  have up : ∀ r : Int, 0 ≤ r → r < f → at_ r ≤ lw ∧ (0 ≤ sz r → at_ r + sz r ≤ lw) := fun r a b => by
    obtain ⟨x1, x2, x3⟩ := h2 r a (by omega)
    rcases hl with ⟨c, d⟩ | ⟨c, d⟩
    · refine ⟨by rw [d]; exact x2 f b c, fun z => ?_⟩
      rcases x3 with x3 | ⟨y1, y2, y3, y4⟩
      · omega
      · rw [d]; exact y3 f b c
    · refine ⟨by omega, fun z => ?_⟩
      rcases x3 with x3 | ⟨y1, y2, y3, y4⟩
      · omega
      · omega
  refine ⟨⟨by omega, lh⟩, fun r a b => ?_⟩
  rw [ea, es]
  by_cases z : r = f
  · rw [z, st_s, st_s]
    refine ⟨by omega, fun s p q => by omega, ?_⟩
    rcases hw with y | y
    · exact Or.inl y
    · refine Or.inr ⟨by omega, by omega, fun s p q => by omega, fun j p q => ?_⟩
      rw [ed]; unfold c_py
      rw [if_pos (by omega)]
      exact hb _ (by omega) (by omega)
  · rw [st_n _ _ z, st_n _ _ z]
    obtain ⟨x1, x2, x3⟩ := h2 r a (by omega)
    have u := up r a (by omega)
    refine ⟨by omega, fun s p q => ?_, ?_⟩
    · by_cases y : s = f
      · rw [y, st_s]; exact u.1
      · rw [st_n _ _ y]; exact x2 s p (by omega)
    · rcases x3 with x3 | ⟨y1, y2, y3, y4⟩
      · exact Or.inl x3
      · have v := u.2 y1.1
        refine Or.inr ⟨y1, by omega, fun s p q => ?_, fun j p q => ?_⟩
        · by_cases y : s = f
          · rw [y, st_s]; exact v
          · rw [st_n _ _ y]; exact y3 s p (by omega)
        · rw [ed]; unfold c_py
          rw [if_neg (by omega)]; exact y4 j p q
/-- what definitions that are prepared keep: their bodies hold symbols, and places for their variables -/
def g_bd (bu : Int) (db ba bs bo fs : Int → Int) : Prop := ∀ r : Int, 0 ≤ r → r < 1500 → ¬ db r = 0 → bs r = -2 ∨ (0 ≤ bs r ∧ ba r + bs r ≤ bu ∧ ∀ k : Int, ba r ≤ k → k < ba r + bs r → bo k < 1000 + fs r)
theorem g_ev_s {B rows low f x : Int} {at_ sz dt : Int → Int} (h : g_ev B rows low at_ sz dt) (hx : x = -2 ∨ x = sz f) : g_ev B rows low at_ (st sz f x) dt := by
  refine ⟨h.1, fun r a b => ?_⟩
  obtain ⟨x1, x2, x3⟩ := h.2 r a b
  refine ⟨x1, x2, ?_⟩
  by_cases z : r = f
  · rw [z, st_s]
    rcases hx with y | y
    · exact Or.inl y
    · rw [y, ← z]; exact x3
  · rw [st_n _ _ z]; exact x3
/-- rows are taken: a new one is to come in their place -/
def g_ew (B f lw : Int) (at_ sz dt : Int → Int) : Prop := ∃ rows low : Int, g_ev B rows low at_ sz dt ∧ (0 ≤ f ∧ f ≤ rows) ∧ ((f < rows ∧ lw = at_ f) ∨ (f = rows ∧ lw = low))
theorem g_ew_0 {B rows low : Int} {at_ sz dt : Int → Int} (h : g_ev B rows low at_ sz dt) (r0 : 0 ≤ rows) : g_ew B rows low at_ sz dt := ⟨rows, low, h, ⟨r0, Int.le_refl _⟩, Or.inr ⟨rfl, rfl⟩⟩
theorem g_ew_k {B rows low f lw : Int} {at_ sz dt : Int → Int} (h : g_ev B rows low at_ sz dt) (f0 : 0 ≤ f) (f1 : f ≤ rows) (e : (f < rows ∧ lw = at_ f) ∨ (f = rows ∧ lw = low)) : g_ew B f lw at_ sz dt := ⟨rows, low, h, ⟨f0, f1⟩, e⟩
theorem g_ew_p {B f lw n : Int} {at_ sz dt bt at2 sz2 dt2 : Int → Int} (h : g_ew B f lw at_ sz dt) (n0 : 0 ≤ n ∧ n ≤ 599) (hb : g_bt B n bt) (lh : lw + n ≤ 42000) (ea : at2 = st at_ f lw) (es : sz2 = st sz f n) (ed : dt2 = c_py bt dt 0 lw n) : g_ev B (f + 1) (lw + n) at2 sz2 dt2 := by
  obtain ⟨rows, low, h1, h2, h3⟩ := h
  exact g_ev_p h1 h2.1 h2.2 h3 n0 hb lh ea es (Or.inr rfl) ed
theorem g_ew_b {B f lw : Int} {at_ sz dt : Int → Int} (h : g_ew B f lw at_ sz dt) : 0 ≤ lw ∧ lw ≤ 42000 := by
  obtain ⟨rows, low, ⟨h1, h2⟩, h3, h4⟩ := h
  rcases h4 with ⟨a, b⟩ | ⟨a, b⟩
  · have := (h2 f h3.1 a).1; omega
  · omega
set_option maxHeartbeats 1000000 in
theorem K2_X0_placeInFrame {n1 : Int} {n2 : Int} {σ : S0} (hT : c_T σ) (p1 : 0 ≤ n1) (p2 : n1 < 1500) (p3 : σ.2.1 27 n1 + σ.2.1 28 n1 ≤ 90000) (p4 : ∃ k : Int, 0 ≤ k ∧ k < σ.2.1 28 n1 ∧ σ.2.1 29 (σ.2.1 27 n1 + k) = n2) : W_X0_placeInFrame n1 n2 σ (fun (x : Int) => (0 ≤ x ∧ x < σ.2.1 28 n1)) := by
  have A27 : ∀ j, 0 ≤ σ.2.1 27 j ∧ σ.2.1 27 j ≤ 90000 := fun j => hT.2 27 j
  have A28 : ∀ j, 0 ≤ σ.2.1 28 j ∧ σ.2.1 28 j ≤ 60 := fun j => hT.2 28 j
  have A29 : ∀ j, 0 ≤ σ.2.1 29 j ∧ σ.2.1 29 j ≤ 1499 := fun j => hT.2 29 j
  intro P2 h2
  have s28 := A28 n1
  have s27 := A27 n1
  have l_2 : ∀ (m_2 : Nat) (u3_2 : Int), 61 - u3_2 < (m_2 : Int) → (0 ≤ u3_2 ∧ u3_2 ≤ σ.2.1 28 n1) → (∀ k : Int, 0 ≤ k → k < u3_2 → ¬ σ.2.1 29 (σ.2.1 27 n1 + k) = n2) → P2 n1 n2 u3_2 := by
    intro m_2
    induction m_2 with
    | zero =>
      intro u3_2 hm i2_1 i2_2
      exfalso; (first | omega | (simp only [st_s] <;> omega) | assumption | omega | fail)
    | succ m_2 ih_2 =>
      intro u3_2 hm_2 i2_1 i2_2
      refine h2 n1 n2 u3_2 ?_
      refine ⟨(show 0 ≤ n1 ∧ n1 < 1500 from by (first | omega | (simp only [st_s] <;> omega) | assumption | omega | fail)), ?_⟩
      intro x2 r_x2 e_x2
      have b_x2 : 0 ≤ x2 ∧ x2 ≤ 60 := by rw [e_x2]; exact hT.2 28 _
      refine ⟨fun c3 => ?_, fun c3 => ?_⟩
      ·
        exact (show 0 ≤ (-1) ∧ (-1) < σ.2.1 28 n1 from by (first | omega | (exfalso; have q9 := p4; obtain ⟨k, k0, k1, k2⟩ := q9; exact i2_2 k k0 (by omega) k2) | fail))
      ·
        intro x4 r_x4 e_x4
        have b_x4 : 0 ≤ x4 ∧ x4 ≤ 90000 := by rw [e_x4]; exact hT.2 27 _
        refine ⟨(show 0 ≤ (x4 + u3_2) ∧ (x4 + u3_2) < 90000 from by (first | omega | (simp only [st_s] <;> omega) | assumption | omega | fail)), ?_⟩
        intro x6 r_x6 e_x6
        have b_x6 : 0 ≤ x6 ∧ x6 ≤ 1499 := by rw [e_x6]; exact hT.2 29 _
        refine ⟨fun c7 => ?_, fun c7 => ?_⟩
        ·
          refine ⟨(⟨by (first | omega | (simp only [st_s] <;> omega) | assumption | omega | fail), by (first | omega | (simp only [st_s] <;> omega) | assumption | omega | fail)⟩ : rg (u3_2 + 1)), ?_⟩
          exact ih_2 _ (show (61 - (u3_2 + 1) : Int) < ((m_2 : Nat) : Int) from by ((first | omega | (simp only [st_s] <;> omega) | assumption | omega | fail))) (show 0 ≤ (u3_2 + 1) ∧ (u3_2 + 1) ≤ σ.2.1 28 n1 from by (first | omega | (simp only [st_s] <;> omega) | assumption | omega | fail)) (show ∀ k : Int, 0 ≤ k → k < (u3_2 + 1) → ¬ σ.2.1 29 (σ.2.1 27 n1 + k) = n2 from by (first | (intro k a b; omega) | (intro k a b; by_cases z : k = u3_2; (rw [z, ← e_x4, ← e_x6]; assumption); exact i2_2 k a (by omega)) | fail))
        ·
          exact (show 0 ≤ u3_2 ∧ u3_2 < σ.2.1 28 n1 from by (first | omega | (exfalso; have q9 := p4; obtain ⟨k, k0, k1, k2⟩ := q9; exact i2_2 k k0 (by omega) k2) | fail))
  exact l_2 ((61 - 0 : Int).toNat + 1) _ (show (61 - 0 : Int) < (((61 - 0 : Int).toNat + 1 : Nat) : Int) from by ((first | omega | (simp only [st_s] <;> omega) | assumption | omega | fail))) (show 0 ≤ 0 ∧ 0 ≤ σ.2.1 28 n1 from by (first | omega | (simp only [st_s] <;> omega) | assumption | omega | fail)) (show ∀ k : Int, 0 ≤ k → k < 0 → ¬ σ.2.1 29 (σ.2.1 27 n1 + k) = n2 from by (first | (intro k a b; omega) | (intro k a b; by_cases z : k = u3_2; (rw [z, ← e_x4, ← e_x6]; assumption); exact i2_2 k a (by omega)) | fail))
set_option maxHeartbeats 1000000 in
theorem K_X2_composeRow {n1 : Int} {B rows : Int} {σ : S0} (hT : c_T σ) (p1 : 0 ≤ n1) (p2 : n1 < rows) (p3 : rows ≤ 12000) (p4 : g_ev B rows (σ.1 17) (σ.2.1 40) (σ.2.1 41) (σ.2.1 39)) (p5 : g_bt B (σ.1 19) (σ.2.1 43)) (p6 : 0 ≤ (σ.1 19) ∧ (σ.1 19) ≤ 599) : W_X2_composeRow n1 σ (fun (x : Int) (τ : S0) => (c_T τ) ∧ (0 ≤ x ∧ x ≤ 1) ∧ (g_bt B (τ.1 19) (τ.2.1 43)) ∧ (0 ≤ (τ.1 19) ∧ (τ.1 19) ≤ 599)) := by
  have A39 : ∀ j, 0 ≤ σ.2.1 39 j ∧ σ.2.1 39 j ≤ 1060 := fun j => hT.2 39 j
  have A40 : ∀ j, 0 ≤ σ.2.1 40 j ∧ σ.2.1 40 j ≤ 42000 := fun j => hT.2 40 j
  have A41 : ∀ j, (-2) ≤ σ.2.1 41 j ∧ σ.2.1 41 j ≤ 1000 := fun j => hT.2 41 j
  have A43 : ∀ j, 0 ≤ σ.2.1 43 j ∧ σ.2.1 43 j ≤ 1060 := fun j => hT.2 43 j
  have v17 : 0 ≤ σ.1 17 ∧ σ.1 17 ≤ 42000 := hT.1 17
  have v19 : 0 ≤ σ.1 19 ∧ σ.1 19 ≤ 1000 := hT.1 19
  have W17 : σ.1 17 = σ.1 17 := rfl
  have G39 : σ.2.1 39 = σ.2.1 39 := rfl
  have G40 : σ.2.1 40 = σ.2.1 40 := rfl
  have G41 : σ.2.1 41 = σ.2.1 41 := rfl
  have er := p4.2 n1 p1 p2
  have er1 := er.1
  have el := p4.1
  unfold W_X2_composeRow
  refine ⟨(show 0 ≤ n1 ∧ n1 < 20000 from by (first | omega | (simp only [st_s] <;> omega) | assumption | omega | fail)), ?_⟩
  intro x2 r_x2 e_x2
  have b_x2 : (-2) ≤ x2 ∧ x2 ≤ 1000 := by rw [e_x2]; exact hT.2 41 _
  refine ⟨fun c3 => ?_, fun c3 => ?_⟩
  ·
    exact ⟨hT, (show 0 ≤ 0 ∧ 0 ≤ 1 from by (first | omega | (simp only [st_s] <;> omega) | assumption | omega | fail)), (show g_bt B (σ.1 19) (σ.2.1 43) from by (first | exact g_bt_c p5 (by rw [e_x6, e_x2]; exact e2.2.2.2) | exact p5 | fail)), (show 0 ≤ (σ.1 19) ∧ (σ.1 19) ≤ 599 from by (first | omega | (simp only [st_s] <;> omega) | assumption | omega | fail))⟩
  ·
    refine ⟨(⟨by (first | omega | (simp only [st_s] <;> omega) | assumption | omega | fail), by (first | omega | (simp only [st_s] <;> omega) | assumption | omega | fail)⟩ : rg (σ.1 19 + x2)), ?_⟩
    refine ⟨fun c5 => ?_, fun c5 => ?_⟩
    ·
      intro x6 r_x6 e_x6
      have b_x6 : 0 ≤ x6 ∧ x6 ≤ 42000 := by rw [e_x6]; exact hT.2 40 _
      have e2 := er.2.2.resolve_left (by rw [← e_x2]; assumption)
      have e21 := e2.1
      have e22 := e2.2.1
      rw [← e_x2, ← e_x6] at e22
      rw [← e_x2] at e21
      refine ⟨(show (0 : Int) ≤ x6 ∧ (0 : Int) ≤ σ.1 19 ∧ (0 : Int) ≤ x2 ∧ x6 + x2 ≤ 42000 ∧ σ.1 19 + x2 ≤ 1000 from by (first | omega | (simp only [st_s] <;> omega) | assumption | omega | fail)), ?_⟩
      replace hT := cT_f (k := 43) (f := (c_py (σ.2.1 39) (σ.2.1 43) x6 (σ.1 19) x2)) hT (cpy_r (lo := fun _ => (0 : Int)) (hi := fun _ => (1060 : Int)) A39 A43 (fun _ => rfl) (fun _ => rfl))
      replace hT := cT_v (i := 19) hT (show 0 ≤ (σ.1 19 + x2) ∧ (σ.1 19 + x2) ≤ 1000 from by (first | omega | (simp only [st_s] <;> omega) | assumption | omega | fail))
      exact ⟨hT, (show 0 ≤ 1 ∧ 1 ≤ 1 from by (first | omega | (simp only [st_s] <;> omega) | assumption | omega | fail)), (show g_bt B ((σ.1 19 + x2)) ((c_py (σ.2.1 39) (σ.2.1 43) x6 (σ.1 19) x2)) from by (first | exact g_bt_c p5 (by rw [e_x6, e_x2]; exact e2.2.2.2) | exact p5 | fail)), (show 0 ≤ ((σ.1 19 + x2)) ∧ ((σ.1 19 + x2)) ≤ 599 from by (first | omega | (simp only [st_s] <;> omega) | assumption | omega | fail))⟩
    ·
      exact ⟨hT, (show 0 ≤ 0 ∧ 0 ≤ 1 from by (first | omega | (simp only [st_s] <;> omega) | assumption | omega | fail)), (show g_bt B (σ.1 19) (σ.2.1 43) from by (first | exact g_bt_c p5 (by rw [e_x6, e_x2]; exact e2.2.2.2) | exact p5 | fail)), (show 0 ≤ (σ.1 19) ∧ (σ.1 19) ≤ 599 from by (first | omega | (simp only [st_s] <;> omega) | assumption | omega | fail))⟩
set_option maxHeartbeats 1000000 in
theorem K_X2_composeSymbol {n1 : Int} {B : Int} {σ : S0} (hT : c_T σ) (p1 : 0 ≤ (σ.1 19) ∧ (σ.1 19) ≤ 599) (p2 : 0 ≤ n1 ∧ n1 ≤ 1060) (p3 : n1 < B) (p4 : g_bt B (σ.1 19) (σ.2.1 43)) : W_X2_composeSymbol n1 σ (fun (x : Int) (τ : S0) => (c_T τ) ∧ (0 ≤ x ∧ x ≤ 1) ∧ (g_bt B (τ.1 19) (τ.2.1 43)) ∧ (0 ≤ (τ.1 19) ∧ (τ.1 19) ≤ 599)) := by
  have v19 : 0 ≤ σ.1 19 ∧ σ.1 19 ≤ 1000 := hT.1 19
  unfold W_X2_composeSymbol
  refine ⟨(⟨by (first | omega | (simp only [st_s] <;> omega) | assumption | omega | fail), by (first | omega | (simp only [st_s] <;> omega) | assumption | omega | fail)⟩ : rg (σ.1 19 + 1)), ?_⟩
  refine ⟨fun c2 => ?_, fun c2 => ?_⟩
  ·
    refine ⟨(show 0 ≤ σ.1 19 ∧ σ.1 19 < 1000 from by (first | omega | (simp only [st_s] <;> omega) | assumption | omega | fail)), ?_⟩
    replace hT := cT_a (k := 43) (j := (σ.1 19)) hT (show (0 : Int) ≤ n1 ∧ n1 ≤ 1060 from by (first | omega | (simp only [st_s] <;> omega) | assumption | omega | fail))
    replace hT := cT_v (i := 19) hT (show 0 ≤ (σ.1 19 + 1) ∧ (σ.1 19 + 1) ≤ 1000 from by (first | omega | (simp only [st_s] <;> omega) | assumption | omega | fail))
    exact ⟨hT, (show 0 ≤ 1 ∧ 1 ≤ 1 from by (first | omega | (simp only [st_s] <;> omega) | assumption | omega | fail)), (show g_bt B ((σ.1 19 + 1)) ((st (σ.2.1 43) (σ.1 19) n1)) from by (first | exact g_bt_a p4 rfl p3 | exact p4 | fail)), (show 0 ≤ ((σ.1 19 + 1)) ∧ ((σ.1 19 + 1)) ≤ 599 from by (first | omega | (simp only [st_s] <;> omega) | assumption | omega | fail))⟩
  ·
    exact ⟨hT, (show 0 ≤ 0 ∧ 0 ≤ 1 from by (first | omega | (simp only [st_s] <;> omega) | assumption | omega | fail)), (show g_bt B (σ.1 19) (σ.2.1 43) from by (first | exact g_bt_a p4 rfl p3 | exact p4 | fail)), (show 0 ≤ (σ.1 19) ∧ (σ.1 19) ≤ 599 from by (first | omega | (simp only [st_s] <;> omega) | assumption | omega | fail))⟩
set_option maxHeartbeats 4000000 in
theorem K_X2_compose {lb : Nat} {n1 : Int} {n2 : Int} {n3 : Int} {B rows : Int} {σ : S0} (hT : c_T σ) (p1 : 0 ≤ n1) (p2 : n1 < (σ.1 7)) (p3 : σ.2.1 13 n1 = 2) (p4 : J_all (σ.1 7) (σ.1 6) (σ.1 13) (σ.1 14) (σ.1 15) (σ.2.1 13) (σ.2.1 14) (σ.2.1 15) (σ.2.1 16) (σ.2.1 10) (σ.2.1 27) (σ.2.1 28) (σ.2.1 29) (σ.2.1 30) (σ.2.1 31) (σ.2.1 32) (σ.2.1 33) (σ.2.1 34) (σ.2.1 35) (σ.2.1 36) (σ.2.1 37)) (p5 : 0 ≤ n2) (p6 : n2 + σ.2.1 28 n1 ≤ rows) (p7 : rows ≤ 12000) (p8 : g_ev B rows (σ.1 17) (σ.2.1 40) (σ.2.1 41) (σ.2.1 39)) (p9 : g_bd (σ.1 60) (σ.2.1 95) (σ.2.1 98) (σ.2.1 99) (σ.2.1 97) (σ.2.1 28)) (p10 : (σ.1 60) ≤ (lb : Int)) (p11 : 1000 ≤ B) : W_X2_compose lb n1 n2 n3 σ (fun (x : Int) (τ : S0) => (c_T τ) ∧ (0 ≤ x ∧ x ≤ 1) ∧ (g_bt B (τ.1 19) (τ.2.1 43)) ∧ (0 ≤ (τ.1 19) ∧ (τ.1 19) ≤ 599)) := by
  have A10 : ∀ j, (-1) ≤ σ.2.1 10 j ∧ σ.2.1 10 j ≤ 99 := fun j => hT.2 10 j
  have A13 : ∀ j, 0 ≤ σ.2.1 13 j ∧ σ.2.1 13 j ≤ 4 := fun j => hT.2 13 j
  have A14 : ∀ j, 0 ≤ σ.2.1 14 j ∧ σ.2.1 14 j ≤ 30000 := fun j => hT.2 14 j
  have A15 : ∀ j, 0 ≤ σ.2.1 15 j ∧ σ.2.1 15 j ≤ 999 := fun j => hT.2 15 j
  have A16 : ∀ j, (-1) ≤ σ.2.1 16 j ∧ σ.2.1 16 j ≤ 1499 := fun j => hT.2 16 j
  have A27 : ∀ j, 0 ≤ σ.2.1 27 j ∧ σ.2.1 27 j ≤ 90000 := fun j => hT.2 27 j
  have A28 : ∀ j, 0 ≤ σ.2.1 28 j ∧ σ.2.1 28 j ≤ 60 := fun j => hT.2 28 j
  have A29 : ∀ j, 0 ≤ σ.2.1 29 j ∧ σ.2.1 29 j ≤ 1499 := fun j => hT.2 29 j
  have A30 : ∀ j, 0 ≤ σ.2.1 30 j ∧ σ.2.1 30 j ≤ 20000 := fun j => hT.2 30 j
  have A31 : ∀ j, 0 ≤ σ.2.1 31 j ∧ σ.2.1 31 j ≤ 20000 := fun j => hT.2 31 j
  have A32 : ∀ j, 0 ≤ σ.2.1 32 j ∧ σ.2.1 32 j ≤ 999999 := fun j => hT.2 32 j
  have A33 : ∀ j, 0 ≤ σ.2.1 33 j ∧ σ.2.1 33 j ≤ 20000 := fun j => hT.2 33 j
  have A34 : ∀ j, 0 ≤ σ.2.1 34 j ∧ σ.2.1 34 j ≤ 20000 := fun j => hT.2 34 j
  have A35 : ∀ j, 0 ≤ σ.2.1 35 j ∧ σ.2.1 35 j ≤ 1499 := fun j => hT.2 35 j
  have A36 : ∀ j, 0 ≤ σ.2.1 36 j ∧ σ.2.1 36 j ≤ 20000 := fun j => hT.2 36 j
  have A37 : ∀ j, 0 ≤ σ.2.1 37 j ∧ σ.2.1 37 j ≤ 19999 := fun j => hT.2 37 j
  have A39 : ∀ j, 0 ≤ σ.2.1 39 j ∧ σ.2.1 39 j ≤ 1060 := fun j => hT.2 39 j
  have A40 : ∀ j, 0 ≤ σ.2.1 40 j ∧ σ.2.1 40 j ≤ 42000 := fun j => hT.2 40 j
  have A41 : ∀ j, (-2) ≤ σ.2.1 41 j ∧ σ.2.1 41 j ≤ 1000 := fun j => hT.2 41 j
  have A95 : ∀ j, 0 ≤ σ.2.1 95 j ∧ σ.2.1 95 j ≤ 1500 := fun j => hT.2 95 j
  have A97 : ∀ j, 0 ≤ σ.2.1 97 j ∧ σ.2.1 97 j ≤ 1060 := fun j => hT.2 97 j
  have A98 : ∀ j, 0 ≤ σ.2.1 98 j ∧ σ.2.1 98 j ≤ 1048576 := fun j => hT.2 98 j
  have A99 : ∀ j, (-2) ≤ σ.2.1 99 j ∧ σ.2.1 99 j ≤ 600 := fun j => hT.2 99 j
  have v6 : 0 ≤ σ.1 6 ∧ σ.1 6 ≤ 30000 := hT.1 6
  have v7 : 0 ≤ σ.1 7 ∧ σ.1 7 ≤ 1500 := hT.1 7
  have v13 : 0 ≤ σ.1 13 ∧ σ.1 13 ≤ 90000 := hT.1 13
  have v14 : 0 ≤ σ.1 14 ∧ σ.1 14 ≤ 20000 := hT.1 14
  have v15 : 0 ≤ σ.1 15 ∧ σ.1 15 ≤ 20000 := hT.1 15
  have v17 : 0 ≤ σ.1 17 ∧ σ.1 17 ≤ 42000 := hT.1 17
  have v19 : 0 ≤ σ.1 19 ∧ σ.1 19 ≤ 1000 := hT.1 19
  have v60 : 0 ≤ σ.1 60 ∧ σ.1 60 ≤ 1048576 := hT.1 60
  have W6 : σ.1 6 = σ.1 6 := rfl
  have W7 : σ.1 7 = σ.1 7 := rfl
  have W13 : σ.1 13 = σ.1 13 := rfl
  have W14 : σ.1 14 = σ.1 14 := rfl
  have W15 : σ.1 15 = σ.1 15 := rfl
  have W17 : σ.1 17 = σ.1 17 := rfl
  have W60 : σ.1 60 = σ.1 60 := rfl
  have G10 : σ.2.1 10 = σ.2.1 10 := rfl
  have G13 : σ.2.1 13 = σ.2.1 13 := rfl
  have G14 : σ.2.1 14 = σ.2.1 14 := rfl
  have G15 : σ.2.1 15 = σ.2.1 15 := rfl
  have G16 : σ.2.1 16 = σ.2.1 16 := rfl
  have G27 : σ.2.1 27 = σ.2.1 27 := rfl
  have G28 : σ.2.1 28 = σ.2.1 28 := rfl
  have G29 : σ.2.1 29 = σ.2.1 29 := rfl
  have G30 : σ.2.1 30 = σ.2.1 30 := rfl
  have G31 : σ.2.1 31 = σ.2.1 31 := rfl
  have G32 : σ.2.1 32 = σ.2.1 32 := rfl
  have G33 : σ.2.1 33 = σ.2.1 33 := rfl
  have G34 : σ.2.1 34 = σ.2.1 34 := rfl
  have G35 : σ.2.1 35 = σ.2.1 35 := rfl
  have G36 : σ.2.1 36 = σ.2.1 36 := rfl
  have G37 : σ.2.1 37 = σ.2.1 37 := rfl
  have G39 : σ.2.1 39 = σ.2.1 39 := rfl
  have G40 : σ.2.1 40 = σ.2.1 40 := rfl
  have G41 : σ.2.1 41 = σ.2.1 41 := rfl
  have G95 : σ.2.1 95 = σ.2.1 95 := rfl
  have G97 : σ.2.1 97 = σ.2.1 97 := rfl
  have G98 : σ.2.1 98 = σ.2.1 98 := rfl
  have G99 : σ.2.1 99 = σ.2.1 99 := rfl
  intro P43 P147 h43 h147
  have jq := p4.1 n1 p1 p2
  have jt := jq.1.1
  have jf := jq.2.1 (by omega)
  have jf1 := jf.1
  have a14 := A14 n1
  have a27 := A27 n1
  have a28 := A28 n1
  have a98 := A98 n1
  have s97 := A97
  have s15 := A15
  have bd := p9 n1 p1 (by omega)
  have CJ : J_all (σ.1 7) (σ.1 6) (σ.1 13) (σ.1 14) (σ.1 15) (σ.2.1 13) (σ.2.1 14) (σ.2.1 15) (σ.2.1 16) (σ.2.1 10) (σ.2.1 27) (σ.2.1 28) (σ.2.1 29) (σ.2.1 30) (σ.2.1 31) (σ.2.1 32) (σ.2.1 33) (σ.2.1 34) (σ.2.1 35) (σ.2.1 36) (σ.2.1 37) := p4
  have BD : g_bd (σ.1 60) (σ.2.1 95) (σ.2.1 98) (σ.2.1 99) (σ.2.1 97) (σ.2.1 28) := p9
  have BD_0 := BD
  have CJ_0 := CJ
  have l_43 : ∀ (m_43 : Nat) (u4_43 : Int) (u5_43 : Int) (τ_43 : S0), 30001 - u5_43 < (m_43 : Int) → (c_T τ_43) → (τ_43.1 6 = σ.1 6) → (τ_43.1 7 = σ.1 7) → (τ_43.1 13 = σ.1 13) → (τ_43.1 14 = σ.1 14) → (τ_43.1 15 = σ.1 15) → (τ_43.1 17 = σ.1 17) → (τ_43.1 60 = σ.1 60) → (τ_43.2.1 10 = σ.2.1 10) → (τ_43.2.1 13 = σ.2.1 13) → (τ_43.2.1 14 = σ.2.1 14) → (τ_43.2.1 15 = σ.2.1 15) → (τ_43.2.1 16 = σ.2.1 16) → (τ_43.2.1 27 = σ.2.1 27) → (τ_43.2.1 28 = σ.2.1 28) → (τ_43.2.1 29 = σ.2.1 29) → (τ_43.2.1 30 = σ.2.1 30) → (τ_43.2.1 31 = σ.2.1 31) → (τ_43.2.1 32 = σ.2.1 32) → (τ_43.2.1 33 = σ.2.1 33) → (τ_43.2.1 34 = σ.2.1 34) → (τ_43.2.1 35 = σ.2.1 35) → (τ_43.2.1 36 = σ.2.1 36) → (τ_43.2.1 37 = σ.2.1 37) → (τ_43.2.1 39 = σ.2.1 39) → (τ_43.2.1 40 = σ.2.1 40) → (τ_43.2.1 41 = σ.2.1 41) → (τ_43.2.1 95 = σ.2.1 95) → (τ_43.2.1 97 = σ.2.1 97) → (τ_43.2.1 98 = σ.2.1 98) → (τ_43.2.1 99 = σ.2.1 99) → (0 ≤ u4_43 ∧ u4_43 ≤ 1) → (σ.2.1 14 n1 ≤ u5_43 ∧ u5_43 ≤ 30000) → (g_bt B (τ_43.1 19) (τ_43.2.1 43)) → (0 ≤ (τ_43.1 19) ∧ (τ_43.1 19) ≤ 599) → ((τ_43.1 17) = (σ.1 17)) → P43 n1 n2 u4_43 u5_43 τ_43 := by
    intro m_43
    induction m_43 with
    | zero =>
      intro u4_43 u5_43 τ_43 hm hT W6 W7 W13 W14 W15 W17 W60 G10 G13 G14 G15 G16 G27 G28 G29 G30 G31 G32 G33 G34 G35 G36 G37 G39 G40 G41 G95 G97 G98 G99 i43_1 i43_2 i43_3 i43_4 i43_5
      have A10 : ∀ j, (-1) ≤ τ_43.2.1 10 j ∧ τ_43.2.1 10 j ≤ 99 := fun j => hT.2 10 j
      have A13 : ∀ j, 0 ≤ τ_43.2.1 13 j ∧ τ_43.2.1 13 j ≤ 4 := fun j => hT.2 13 j
      have A14 : ∀ j, 0 ≤ τ_43.2.1 14 j ∧ τ_43.2.1 14 j ≤ 30000 := fun j => hT.2 14 j
      have A15 : ∀ j, 0 ≤ τ_43.2.1 15 j ∧ τ_43.2.1 15 j ≤ 999 := fun j => hT.2 15 j
      have A16 : ∀ j, (-1) ≤ τ_43.2.1 16 j ∧ τ_43.2.1 16 j ≤ 1499 := fun j => hT.2 16 j
      have A27 : ∀ j, 0 ≤ τ_43.2.1 27 j ∧ τ_43.2.1 27 j ≤ 90000 := fun j => hT.2 27 j
      have A28 : ∀ j, 0 ≤ τ_43.2.1 28 j ∧ τ_43.2.1 28 j ≤ 60 := fun j => hT.2 28 j
      have A29 : ∀ j, 0 ≤ τ_43.2.1 29 j ∧ τ_43.2.1 29 j ≤ 1499 := fun j => hT.2 29 j
      have A30 : ∀ j, 0 ≤ τ_43.2.1 30 j ∧ τ_43.2.1 30 j ≤ 20000 := fun j => hT.2 30 j
      have A31 : ∀ j, 0 ≤ τ_43.2.1 31 j ∧ τ_43.2.1 31 j ≤ 20000 := fun j => hT.2 31 j
      have A32 : ∀ j, 0 ≤ τ_43.2.1 32 j ∧ τ_43.2.1 32 j ≤ 999999 := fun j => hT.2 32 j
      have A33 : ∀ j, 0 ≤ τ_43.2.1 33 j ∧ τ_43.2.1 33 j ≤ 20000 := fun j => hT.2 33 j
      have A34 : ∀ j, 0 ≤ τ_43.2.1 34 j ∧ τ_43.2.1 34 j ≤ 20000 := fun j => hT.2 34 j
      have A35 : ∀ j, 0 ≤ τ_43.2.1 35 j ∧ τ_43.2.1 35 j ≤ 1499 := fun j => hT.2 35 j
      have A36 : ∀ j, 0 ≤ τ_43.2.1 36 j ∧ τ_43.2.1 36 j ≤ 20000 := fun j => hT.2 36 j
      have A37 : ∀ j, 0 ≤ τ_43.2.1 37 j ∧ τ_43.2.1 37 j ≤ 19999 := fun j => hT.2 37 j
      have A39 : ∀ j, 0 ≤ τ_43.2.1 39 j ∧ τ_43.2.1 39 j ≤ 1060 := fun j => hT.2 39 j
      have A40 : ∀ j, 0 ≤ τ_43.2.1 40 j ∧ τ_43.2.1 40 j ≤ 42000 := fun j => hT.2 40 j
      have A41 : ∀ j, (-2) ≤ τ_43.2.1 41 j ∧ τ_43.2.1 41 j ≤ 1000 := fun j => hT.2 41 j
      have A95 : ∀ j, 0 ≤ τ_43.2.1 95 j ∧ τ_43.2.1 95 j ≤ 1500 := fun j => hT.2 95 j
      have A97 : ∀ j, 0 ≤ τ_43.2.1 97 j ∧ τ_43.2.1 97 j ≤ 1060 := fun j => hT.2 97 j
      have A98 : ∀ j, 0 ≤ τ_43.2.1 98 j ∧ τ_43.2.1 98 j ≤ 1048576 := fun j => hT.2 98 j
      have A99 : ∀ j, (-2) ≤ τ_43.2.1 99 j ∧ τ_43.2.1 99 j ≤ 600 := fun j => hT.2 99 j
      have v6 : 0 ≤ τ_43.1 6 ∧ τ_43.1 6 ≤ 30000 := hT.1 6
      have v7 : 0 ≤ τ_43.1 7 ∧ τ_43.1 7 ≤ 1500 := hT.1 7
      have v13 : 0 ≤ τ_43.1 13 ∧ τ_43.1 13 ≤ 90000 := hT.1 13
      have v14 : 0 ≤ τ_43.1 14 ∧ τ_43.1 14 ≤ 20000 := hT.1 14
      have v15 : 0 ≤ τ_43.1 15 ∧ τ_43.1 15 ≤ 20000 := hT.1 15
      have v17 : 0 ≤ τ_43.1 17 ∧ τ_43.1 17 ≤ 42000 := hT.1 17
      have v19 : 0 ≤ τ_43.1 19 ∧ τ_43.1 19 ≤ 1000 := hT.1 19
      have v60 : 0 ≤ τ_43.1 60 ∧ τ_43.1 60 ≤ 1048576 := hT.1 60
      exfalso; (first | omega | (simp only [st_s] <;> omega) | assumption | omega | fail)
    | succ m_43 ih_43 =>
      intro u4_43 u5_43 τ_43 hm_43 hT W6 W7 W13 W14 W15 W17 W60 G10 G13 G14 G15 G16 G27 G28 G29 G30 G31 G32 G33 G34 G35 G36 G37 G39 G40 G41 G95 G97 G98 G99 i43_1 i43_2 i43_3 i43_4 i43_5
      have A10 : ∀ j, (-1) ≤ τ_43.2.1 10 j ∧ τ_43.2.1 10 j ≤ 99 := fun j => hT.2 10 j
      have A13 : ∀ j, 0 ≤ τ_43.2.1 13 j ∧ τ_43.2.1 13 j ≤ 4 := fun j => hT.2 13 j
      have A14 : ∀ j, 0 ≤ τ_43.2.1 14 j ∧ τ_43.2.1 14 j ≤ 30000 := fun j => hT.2 14 j
      have A15 : ∀ j, 0 ≤ τ_43.2.1 15 j ∧ τ_43.2.1 15 j ≤ 999 := fun j => hT.2 15 j
      have A16 : ∀ j, (-1) ≤ τ_43.2.1 16 j ∧ τ_43.2.1 16 j ≤ 1499 := fun j => hT.2 16 j
      have A27 : ∀ j, 0 ≤ τ_43.2.1 27 j ∧ τ_43.2.1 27 j ≤ 90000 := fun j => hT.2 27 j
      have A28 : ∀ j, 0 ≤ τ_43.2.1 28 j ∧ τ_43.2.1 28 j ≤ 60 := fun j => hT.2 28 j
      have A29 : ∀ j, 0 ≤ τ_43.2.1 29 j ∧ τ_43.2.1 29 j ≤ 1499 := fun j => hT.2 29 j
      have A30 : ∀ j, 0 ≤ τ_43.2.1 30 j ∧ τ_43.2.1 30 j ≤ 20000 := fun j => hT.2 30 j
      have A31 : ∀ j, 0 ≤ τ_43.2.1 31 j ∧ τ_43.2.1 31 j ≤ 20000 := fun j => hT.2 31 j
      have A32 : ∀ j, 0 ≤ τ_43.2.1 32 j ∧ τ_43.2.1 32 j ≤ 999999 := fun j => hT.2 32 j
      have A33 : ∀ j, 0 ≤ τ_43.2.1 33 j ∧ τ_43.2.1 33 j ≤ 20000 := fun j => hT.2 33 j
      have A34 : ∀ j, 0 ≤ τ_43.2.1 34 j ∧ τ_43.2.1 34 j ≤ 20000 := fun j => hT.2 34 j
      have A35 : ∀ j, 0 ≤ τ_43.2.1 35 j ∧ τ_43.2.1 35 j ≤ 1499 := fun j => hT.2 35 j
      have A36 : ∀ j, 0 ≤ τ_43.2.1 36 j ∧ τ_43.2.1 36 j ≤ 20000 := fun j => hT.2 36 j
      have A37 : ∀ j, 0 ≤ τ_43.2.1 37 j ∧ τ_43.2.1 37 j ≤ 19999 := fun j => hT.2 37 j
      have A39 : ∀ j, 0 ≤ τ_43.2.1 39 j ∧ τ_43.2.1 39 j ≤ 1060 := fun j => hT.2 39 j
      have A40 : ∀ j, 0 ≤ τ_43.2.1 40 j ∧ τ_43.2.1 40 j ≤ 42000 := fun j => hT.2 40 j
      have A41 : ∀ j, (-2) ≤ τ_43.2.1 41 j ∧ τ_43.2.1 41 j ≤ 1000 := fun j => hT.2 41 j
      have A95 : ∀ j, 0 ≤ τ_43.2.1 95 j ∧ τ_43.2.1 95 j ≤ 1500 := fun j => hT.2 95 j
      have A97 : ∀ j, 0 ≤ τ_43.2.1 97 j ∧ τ_43.2.1 97 j ≤ 1060 := fun j => hT.2 97 j
      have A98 : ∀ j, 0 ≤ τ_43.2.1 98 j ∧ τ_43.2.1 98 j ≤ 1048576 := fun j => hT.2 98 j
      have A99 : ∀ j, (-2) ≤ τ_43.2.1 99 j ∧ τ_43.2.1 99 j ≤ 600 := fun j => hT.2 99 j
      have v6 : 0 ≤ τ_43.1 6 ∧ τ_43.1 6 ≤ 30000 := hT.1 6
      have v7 : 0 ≤ τ_43.1 7 ∧ τ_43.1 7 ≤ 1500 := hT.1 7
      have v13 : 0 ≤ τ_43.1 13 ∧ τ_43.1 13 ≤ 90000 := hT.1 13
      have v14 : 0 ≤ τ_43.1 14 ∧ τ_43.1 14 ≤ 20000 := hT.1 14
      have v15 : 0 ≤ τ_43.1 15 ∧ τ_43.1 15 ≤ 20000 := hT.1 15
      have v17 : 0 ≤ τ_43.1 17 ∧ τ_43.1 17 ≤ 42000 := hT.1 17
      have v19 : 0 ≤ τ_43.1 19 ∧ τ_43.1 19 ≤ 1000 := hT.1 19
      have v60 : 0 ≤ τ_43.1 60 ∧ τ_43.1 60 ≤ 1048576 := hT.1 60
      have CJ : J_all (τ_43.1 7) (τ_43.1 6) (τ_43.1 13) (τ_43.1 14) (τ_43.1 15) (τ_43.2.1 13) (τ_43.2.1 14) (τ_43.2.1 15) (τ_43.2.1 16) (τ_43.2.1 10) (τ_43.2.1 27) (τ_43.2.1 28) (τ_43.2.1 29) (τ_43.2.1 30) (τ_43.2.1 31) (τ_43.2.1 32) (τ_43.2.1 33) (τ_43.2.1 34) (τ_43.2.1 35) (τ_43.2.1 36) (τ_43.2.1 37) := by rw [show (J_all (τ_43.1 7) (τ_43.1 6) (τ_43.1 13) (τ_43.1 14) (τ_43.1 15) (τ_43.2.1 13) (τ_43.2.1 14) (τ_43.2.1 15) (τ_43.2.1 16) (τ_43.2.1 10) (τ_43.2.1 27) (τ_43.2.1 28) (τ_43.2.1 29) (τ_43.2.1 30) (τ_43.2.1 31) (τ_43.2.1 32) (τ_43.2.1 33) (τ_43.2.1 34) (τ_43.2.1 35) (τ_43.2.1 36) (τ_43.2.1 37)) = (J_all (σ.1 7) (σ.1 6) (σ.1 13) (σ.1 14) (σ.1 15) (σ.2.1 13) (σ.2.1 14) (σ.2.1 15) (σ.2.1 16) (σ.2.1 10) (σ.2.1 27) (σ.2.1 28) (σ.2.1 29) (σ.2.1 30) (σ.2.1 31) (σ.2.1 32) (σ.2.1 33) (σ.2.1 34) (σ.2.1 35) (σ.2.1 36) (σ.2.1 37)) from by rw [W6, W7, W13, W14, W15, G10, G13, G14, G15, G16, G27, G28, G29, G30, G31, G32, G33, G34, G35, G36, G37]]; exact CJ_0
      have BD : g_bd (τ_43.1 60) (τ_43.2.1 95) (τ_43.2.1 98) (τ_43.2.1 99) (τ_43.2.1 97) (τ_43.2.1 28) := by rw [show (g_bd (τ_43.1 60) (τ_43.2.1 95) (τ_43.2.1 98) (τ_43.2.1 99) (τ_43.2.1 97) (τ_43.2.1 28)) = (g_bd (σ.1 60) (σ.2.1 95) (σ.2.1 98) (σ.2.1 99) (σ.2.1 97) (σ.2.1 28)) from by rw [W60, G28, G95, G97, G98, G99]]; exact BD_0
      refine h43 n1 n2 u4_43 u5_43 τ_43 ?_
      refine ⟨(show 0 ≤ (n1 + 1) ∧ (n1 + 1) < 1501 from by (first | omega | (simp only [st_s] <;> omega) | assumption | omega | fail)), ?_⟩
      intro x16 r_x16 e_x16
      have b_x16 : 0 ≤ x16 ∧ x16 ≤ 30000 := by rw [e_x16]; exact hT.2 14 _
      rw [G14] at e_x16
      refine ⟨fun c17 => ?_, fun c17 => ?_⟩
      ·
        refine ⟨(show 0 ≤ u4_43 ∧ u4_43 ≤ 1 from by (first | omega | (simp only [st_s] <;> omega) | assumption | omega | fail)), ?_⟩
        exact ⟨hT, (show 0 ≤ u4_43 ∧ u4_43 ≤ 1 from by (first | omega | (simp only [st_s] <;> omega) | assumption | omega | fail)), (show g_bt B (τ_43.1 19) (τ_43.2.1 43) from by (first | exact i43_3 | exact i147_3 | exact g_bt0 _ _ | fail)), (show 0 ≤ (τ_43.1 19) ∧ (τ_43.1 19) ≤ 599 from by (first | omega | (simp only [st_s] <;> omega) | assumption | omega | fail))⟩
      ·
        refine ⟨fun c19 => ?_, fun c19 => ?_⟩
        ·
          refine ⟨(show 0 ≤ u4_43 ∧ u4_43 ≤ 1 from by (first | omega | (simp only [st_s] <;> omega) | assumption | omega | fail)), ?_⟩
          exact ⟨hT, (show 0 ≤ u4_43 ∧ u4_43 ≤ 1 from by (first | omega | (simp only [st_s] <;> omega) | assumption | omega | fail)), (show g_bt B (τ_43.1 19) (τ_43.2.1 43) from by (first | exact i43_3 | exact i147_3 | exact g_bt0 _ _ | fail)), (show 0 ≤ (τ_43.1 19) ∧ (τ_43.1 19) ≤ 599 from by (first | omega | (simp only [st_s] <;> omega) | assumption | omega | fail))⟩
        ·
          refine ⟨(show 0 ≤ u5_43 ∧ u5_43 < 30000 from by (first | omega | (simp only [st_s] <;> omega) | assumption | omega | fail)), ?_⟩
          intro x22 r_x22 e_x22
          have b_x22 : (-1) ≤ x22 ∧ x22 ≤ 1499 := by rw [e_x22]; exact hT.2 16 _
          refine ⟨fun c23 => ?_, fun c23 => ?_⟩
          ·
            have fl := jf.2.2.1 u5_43 (by omega) (by omega) (by have w := b_x22; rw [e_x22, G16] at w; rw [e_x22, G16] at c23; omega)
            rw [← G16, ← e_x22] at fl
            refine ⟨_, K2_X0_placeInFrame hT (show 0 ≤ n1 from by (first | omega | (simp only [st_s] <;> omega) | assumption | omega | fail)) (show n1 < 1500 from by (first | omega | (simp only [st_s] <;> omega) | assumption | omega | fail)) (show τ_43.2.1 27 n1 + τ_43.2.1 28 n1 ≤ 90000 from by (rw [G27, G28]; omega)) (show ∃ k : Int, 0 ≤ k ∧ k < τ_43.2.1 28 n1 ∧ τ_43.2.1 29 (τ_43.2.1 27 n1 + k) = x22 from by (rw [G27, G28, G29]; exact fl)), ?_⟩
            intro x25 r_x25 hq
            have q24_1 := hq
            replace q24_1 : 0 ≤ x25 ∧ x25 < τ_43.2.1 28 n1 := q24_1
            rw [G28] at q24_1
            refine ⟨(⟨by (first | omega | (simp only [st_s] <;> omega) | assumption | omega | fail), by (first | omega | (simp only [st_s] <;> omega) | assumption | omega | fail)⟩ : rg (n2 + x25)), ?_⟩
            refine ⟨_, K_X2_composeRow hT (show 0 ≤ (n2 + x25) from by (first | omega | (simp only [st_s] <;> omega) | assumption | omega | fail)) (show (n2 + x25) < rows from by (first | omega | (simp only [st_s] <;> omega) | assumption | omega | fail)) (show rows ≤ 12000 from by (first | omega | (simp only [st_s] <;> omega) | assumption | omega | fail)) (show g_ev B rows (τ_43.1 17) (τ_43.2.1 40) (τ_43.2.1 41) (τ_43.2.1 39) from by (rw [i43_5, G40, G41, G39]; exact p8)) (show g_bt B (τ_43.1 19) (τ_43.2.1 43) from by exact i43_3) (show 0 ≤ (τ_43.1 19) ∧ (τ_43.1 19) ≤ 599 from by (first | omega | (simp only [st_s] <;> omega) | assumption | omega | fail)), ?_⟩
            intro x29 τ30 r_x29 hn_τ30 hf_τ30 hq
            obtain ⟨hT, q28_1, q28_2, q28_3⟩ := hq
            replace q28_1 : 0 ≤ x29 ∧ x29 ≤ 1 := q28_1
            replace q28_2 : g_bt B (τ30.1 19) (τ30.2.1 43) := q28_2
            replace q28_3 : 0 ≤ (τ30.1 19) ∧ (τ30.1 19) ≤ 599 := q28_3
            have w6_τ30 : τ30.1 6 = τ_43.1 6 := hf_τ30.1 6 (by decide)
            have w7_τ30 : τ30.1 7 = τ_43.1 7 := hf_τ30.1 7 (by decide)
            have w13_τ30 : τ30.1 13 = τ_43.1 13 := hf_τ30.1 13 (by decide)
            have w14_τ30 : τ30.1 14 = τ_43.1 14 := hf_τ30.1 14 (by decide)
            have w15_τ30 : τ30.1 15 = τ_43.1 15 := hf_τ30.1 15 (by decide)
            have w17_τ30 : τ30.1 17 = τ_43.1 17 := hf_τ30.1 17 (by decide)
            have w60_τ30 : τ30.1 60 = τ_43.1 60 := hf_τ30.1 60 (by decide)
            have g10_τ30 : τ30.2.1 10 = τ_43.2.1 10 := hf_τ30.2.1 10 (by decide)
            have g13_τ30 : τ30.2.1 13 = τ_43.2.1 13 := hf_τ30.2.1 13 (by decide)
            have g14_τ30 : τ30.2.1 14 = τ_43.2.1 14 := hf_τ30.2.1 14 (by decide)
            have g15_τ30 : τ30.2.1 15 = τ_43.2.1 15 := hf_τ30.2.1 15 (by decide)
            have g16_τ30 : τ30.2.1 16 = τ_43.2.1 16 := hf_τ30.2.1 16 (by decide)
            have g27_τ30 : τ30.2.1 27 = τ_43.2.1 27 := hf_τ30.2.1 27 (by decide)
            have g28_τ30 : τ30.2.1 28 = τ_43.2.1 28 := hf_τ30.2.1 28 (by decide)
            have g29_τ30 : τ30.2.1 29 = τ_43.2.1 29 := hf_τ30.2.1 29 (by decide)
            have g30_τ30 : τ30.2.1 30 = τ_43.2.1 30 := hf_τ30.2.1 30 (by decide)
            have g31_τ30 : τ30.2.1 31 = τ_43.2.1 31 := hf_τ30.2.1 31 (by decide)
            have g32_τ30 : τ30.2.1 32 = τ_43.2.1 32 := hf_τ30.2.1 32 (by decide)
            have g33_τ30 : τ30.2.1 33 = τ_43.2.1 33 := hf_τ30.2.1 33 (by decide)
            have g34_τ30 : τ30.2.1 34 = τ_43.2.1 34 := hf_τ30.2.1 34 (by decide)
            have g35_τ30 : τ30.2.1 35 = τ_43.2.1 35 := hf_τ30.2.1 35 (by decide)
            have g36_τ30 : τ30.2.1 36 = τ_43.2.1 36 := hf_τ30.2.1 36 (by decide)
            have g37_τ30 : τ30.2.1 37 = τ_43.2.1 37 := hf_τ30.2.1 37 (by decide)
            have g39_τ30 : τ30.2.1 39 = τ_43.2.1 39 := hf_τ30.2.1 39 (by decide)
            have g40_τ30 : τ30.2.1 40 = τ_43.2.1 40 := hf_τ30.2.1 40 (by decide)
            have g41_τ30 : τ30.2.1 41 = τ_43.2.1 41 := hf_τ30.2.1 41 (by decide)
            have g95_τ30 : τ30.2.1 95 = τ_43.2.1 95 := hf_τ30.2.1 95 (by decide)
            have g97_τ30 : τ30.2.1 97 = τ_43.2.1 97 := hf_τ30.2.1 97 (by decide)
            have g98_τ30 : τ30.2.1 98 = τ_43.2.1 98 := hf_τ30.2.1 98 (by decide)
            have g99_τ30 : τ30.2.1 99 = τ_43.2.1 99 := hf_τ30.2.1 99 (by decide)
            have W6 : τ30.1 6 = σ.1 6 := by first | exact w6_τ30.trans W6 | omega
            have W7 : τ30.1 7 = σ.1 7 := by first | exact w7_τ30.trans W7 | omega
            have W13 : τ30.1 13 = σ.1 13 := by first | exact w13_τ30.trans W13 | omega
            have W14 : τ30.1 14 = σ.1 14 := by first | exact w14_τ30.trans W14 | omega
            have W15 : τ30.1 15 = σ.1 15 := by first | exact w15_τ30.trans W15 | omega
            have W17 : τ30.1 17 = σ.1 17 := by first | exact w17_τ30.trans W17 | omega
            have W60 : τ30.1 60 = σ.1 60 := by first | exact w60_τ30.trans W60 | omega
            have G10 : τ30.2.1 10 = σ.2.1 10 := (g10_τ30).trans G10
            have G13 : τ30.2.1 13 = σ.2.1 13 := (g13_τ30).trans G13
            have G14 : τ30.2.1 14 = σ.2.1 14 := (g14_τ30).trans G14
            have G15 : τ30.2.1 15 = σ.2.1 15 := (g15_τ30).trans G15
            have G16 : τ30.2.1 16 = σ.2.1 16 := (g16_τ30).trans G16
            have G27 : τ30.2.1 27 = σ.2.1 27 := (g27_τ30).trans G27
            have G28 : τ30.2.1 28 = σ.2.1 28 := (g28_τ30).trans G28
            have G29 : τ30.2.1 29 = σ.2.1 29 := (g29_τ30).trans G29
            have G30 : τ30.2.1 30 = σ.2.1 30 := (g30_τ30).trans G30
            have G31 : τ30.2.1 31 = σ.2.1 31 := (g31_τ30).trans G31
            have G32 : τ30.2.1 32 = σ.2.1 32 := (g32_τ30).trans G32
            have G33 : τ30.2.1 33 = σ.2.1 33 := (g33_τ30).trans G33
            have G34 : τ30.2.1 34 = σ.2.1 34 := (g34_τ30).trans G34
            have G35 : τ30.2.1 35 = σ.2.1 35 := (g35_τ30).trans G35
            have G36 : τ30.2.1 36 = σ.2.1 36 := (g36_τ30).trans G36
            have G37 : τ30.2.1 37 = σ.2.1 37 := (g37_τ30).trans G37
            have G39 : τ30.2.1 39 = σ.2.1 39 := (g39_τ30).trans G39
            have G40 : τ30.2.1 40 = σ.2.1 40 := (g40_τ30).trans G40
            have G41 : τ30.2.1 41 = σ.2.1 41 := (g41_τ30).trans G41
            have G95 : τ30.2.1 95 = σ.2.1 95 := (g95_τ30).trans G95
            have G97 : τ30.2.1 97 = σ.2.1 97 := (g97_τ30).trans G97
            have G98 : τ30.2.1 98 = σ.2.1 98 := (g98_τ30).trans G98
            have G99 : τ30.2.1 99 = σ.2.1 99 := (g99_τ30).trans G99
            have CJ : J_all (τ30.1 7) (τ30.1 6) (τ30.1 13) (τ30.1 14) (τ30.1 15) (τ30.2.1 13) (τ30.2.1 14) (τ30.2.1 15) (τ30.2.1 16) (τ30.2.1 10) (τ30.2.1 27) (τ30.2.1 28) (τ30.2.1 29) (τ30.2.1 30) (τ30.2.1 31) (τ30.2.1 32) (τ30.2.1 33) (τ30.2.1 34) (τ30.2.1 35) (τ30.2.1 36) (τ30.2.1 37) := by rw [show (J_all (τ30.1 7) (τ30.1 6) (τ30.1 13) (τ30.1 14) (τ30.1 15) (τ30.2.1 13) (τ30.2.1 14) (τ30.2.1 15) (τ30.2.1 16) (τ30.2.1 10) (τ30.2.1 27) (τ30.2.1 28) (τ30.2.1 29) (τ30.2.1 30) (τ30.2.1 31) (τ30.2.1 32) (τ30.2.1 33) (τ30.2.1 34) (τ30.2.1 35) (τ30.2.1 36) (τ30.2.1 37)) = (J_all (τ_43.1 7) (τ_43.1 6) (τ_43.1 13) (τ_43.1 14) (τ_43.1 15) (τ_43.2.1 13) (τ_43.2.1 14) (τ_43.2.1 15) (τ_43.2.1 16) (τ_43.2.1 10) (τ_43.2.1 27) (τ_43.2.1 28) (τ_43.2.1 29) (τ_43.2.1 30) (τ_43.2.1 31) (τ_43.2.1 32) (τ_43.2.1 33) (τ_43.2.1 34) (τ_43.2.1 35) (τ_43.2.1 36) (τ_43.2.1 37)) from by rw [w6_τ30, w7_τ30, w13_τ30, w14_τ30, w15_τ30, g10_τ30, g13_τ30, g14_τ30, g15_τ30, g16_τ30, g27_τ30, g28_τ30, g29_τ30, g30_τ30, g31_τ30, g32_τ30, g33_τ30, g34_τ30, g35_τ30, g36_τ30, g37_τ30]]; exact CJ
            have BD : g_bd (τ30.1 60) (τ30.2.1 95) (τ30.2.1 98) (τ30.2.1 99) (τ30.2.1 97) (τ30.2.1 28) := by rw [show (g_bd (τ30.1 60) (τ30.2.1 95) (τ30.2.1 98) (τ30.2.1 99) (τ30.2.1 97) (τ30.2.1 28)) = (g_bd (τ_43.1 60) (τ_43.2.1 95) (τ_43.2.1 98) (τ_43.2.1 99) (τ_43.2.1 97) (τ_43.2.1 28)) from by rw [w60_τ30, g28_τ30, g95_τ30, g97_τ30, g98_τ30, g99_τ30]]; exact BD
            have A10 : ∀ j, (-1) ≤ τ30.2.1 10 j ∧ τ30.2.1 10 j ≤ 99 := fun j => hT.2 10 j
            have A13 : ∀ j, 0 ≤ τ30.2.1 13 j ∧ τ30.2.1 13 j ≤ 4 := fun j => hT.2 13 j
            have A14 : ∀ j, 0 ≤ τ30.2.1 14 j ∧ τ30.2.1 14 j ≤ 30000 := fun j => hT.2 14 j
            have A15 : ∀ j, 0 ≤ τ30.2.1 15 j ∧ τ30.2.1 15 j ≤ 999 := fun j => hT.2 15 j
            have A16 : ∀ j, (-1) ≤ τ30.2.1 16 j ∧ τ30.2.1 16 j ≤ 1499 := fun j => hT.2 16 j
            have A27 : ∀ j, 0 ≤ τ30.2.1 27 j ∧ τ30.2.1 27 j ≤ 90000 := fun j => hT.2 27 j
            have A28 : ∀ j, 0 ≤ τ30.2.1 28 j ∧ τ30.2.1 28 j ≤ 60 := fun j => hT.2 28 j
            have A29 : ∀ j, 0 ≤ τ30.2.1 29 j ∧ τ30.2.1 29 j ≤ 1499 := fun j => hT.2 29 j
            have A30 : ∀ j, 0 ≤ τ30.2.1 30 j ∧ τ30.2.1 30 j ≤ 20000 := fun j => hT.2 30 j
            have A31 : ∀ j, 0 ≤ τ30.2.1 31 j ∧ τ30.2.1 31 j ≤ 20000 := fun j => hT.2 31 j
            have A32 : ∀ j, 0 ≤ τ30.2.1 32 j ∧ τ30.2.1 32 j ≤ 999999 := fun j => hT.2 32 j
            have A33 : ∀ j, 0 ≤ τ30.2.1 33 j ∧ τ30.2.1 33 j ≤ 20000 := fun j => hT.2 33 j
            have A34 : ∀ j, 0 ≤ τ30.2.1 34 j ∧ τ30.2.1 34 j ≤ 20000 := fun j => hT.2 34 j
            have A35 : ∀ j, 0 ≤ τ30.2.1 35 j ∧ τ30.2.1 35 j ≤ 1499 := fun j => hT.2 35 j
            have A36 : ∀ j, 0 ≤ τ30.2.1 36 j ∧ τ30.2.1 36 j ≤ 20000 := fun j => hT.2 36 j
            have A37 : ∀ j, 0 ≤ τ30.2.1 37 j ∧ τ30.2.1 37 j ≤ 19999 := fun j => hT.2 37 j
            have A39 : ∀ j, 0 ≤ τ30.2.1 39 j ∧ τ30.2.1 39 j ≤ 1060 := fun j => hT.2 39 j
            have A40 : ∀ j, 0 ≤ τ30.2.1 40 j ∧ τ30.2.1 40 j ≤ 42000 := fun j => hT.2 40 j
            have A41 : ∀ j, (-2) ≤ τ30.2.1 41 j ∧ τ30.2.1 41 j ≤ 1000 := fun j => hT.2 41 j
            have A95 : ∀ j, 0 ≤ τ30.2.1 95 j ∧ τ30.2.1 95 j ≤ 1500 := fun j => hT.2 95 j
            have A97 : ∀ j, 0 ≤ τ30.2.1 97 j ∧ τ30.2.1 97 j ≤ 1060 := fun j => hT.2 97 j
            have A98 : ∀ j, 0 ≤ τ30.2.1 98 j ∧ τ30.2.1 98 j ≤ 1048576 := fun j => hT.2 98 j
            have A99 : ∀ j, (-2) ≤ τ30.2.1 99 j ∧ τ30.2.1 99 j ≤ 600 := fun j => hT.2 99 j
            have v6 : 0 ≤ τ30.1 6 ∧ τ30.1 6 ≤ 30000 := hT.1 6
            have v7 : 0 ≤ τ30.1 7 ∧ τ30.1 7 ≤ 1500 := hT.1 7
            have v13 : 0 ≤ τ30.1 13 ∧ τ30.1 13 ≤ 90000 := hT.1 13
            have v14 : 0 ≤ τ30.1 14 ∧ τ30.1 14 ≤ 20000 := hT.1 14
            have v15 : 0 ≤ τ30.1 15 ∧ τ30.1 15 ≤ 20000 := hT.1 15
            have v17 : 0 ≤ τ30.1 17 ∧ τ30.1 17 ≤ 42000 := hT.1 17
            have v19 : 0 ≤ τ30.1 19 ∧ τ30.1 19 ≤ 1000 := hT.1 19
            have v60 : 0 ≤ τ30.1 60 ∧ τ30.1 60 ≤ 1048576 := hT.1 60
            refine ⟨(⟨by (first | omega | (simp only [st_s] <;> omega) | assumption | omega | fail), by (first | omega | (simp only [st_s] <;> omega) | assumption | omega | fail)⟩ : rg (u5_43 + 1)), ?_⟩
            exact ih_43 _ _ _ (show (30001 - (u5_43 + 1) : Int) < ((m_43 : Nat) : Int) from by ((first | omega | (simp only [st_s] <;> omega) | assumption | omega | fail))) hT (show τ30.1 6 = σ.1 6 from by first | exact W6 | omega) (show τ30.1 7 = σ.1 7 from by first | exact W7 | omega) (show τ30.1 13 = σ.1 13 from by first | exact W13 | omega) (show τ30.1 14 = σ.1 14 from by first | exact W14 | omega) (show τ30.1 15 = σ.1 15 from by first | exact W15 | omega) (show τ30.1 17 = σ.1 17 from by first | exact W17 | omega) (show τ30.1 60 = σ.1 60 from by first | exact W60 | omega) G10 G13 G14 G15 G16 G27 G28 G29 G30 G31 G32 G33 G34 G35 G36 G37 G39 G40 G41 G95 G97 G98 G99 (show 0 ≤ x29 ∧ x29 ≤ 1 from by (first | omega | (simp only [st_s] <;> omega) | assumption | omega | fail)) (show σ.2.1 14 n1 ≤ (u5_43 + 1) ∧ (u5_43 + 1) ≤ 30000 from by (first | omega | (simp only [st_s] <;> omega) | assumption | omega | fail)) (show g_bt B (τ30.1 19) (τ30.2.1 43) from by (first | exact g_bt0 _ _ | exact q28_2 | exact q33_2 | fail)) (show 0 ≤ (τ30.1 19) ∧ (τ30.1 19) ≤ 599 from by (first | omega | (simp only [st_s] <;> omega) | assumption | omega | fail)) (show (τ30.1 17) = (σ.1 17) from by (first | omega | (simp only [st_s] <;> omega) | assumption | omega | fail))
          ·
            intro x32 r_x32 e_x32
            have b_x32 : 0 ≤ x32 ∧ x32 ≤ 999 := by rw [e_x32]; exact hT.2 15 _
            refine ⟨_, K_X2_composeSymbol hT (show 0 ≤ (τ_43.1 19) ∧ (τ_43.1 19) ≤ 599 from by (first | omega | (simp only [st_s] <;> omega) | assumption | omega | fail)) (show 0 ≤ x32 ∧ x32 ≤ 1060 from by (first | omega | (simp only [st_s] <;> omega) | assumption | omega | fail)) (show x32 < B from by (have := (s15 u5_43).2; rw [e_x32, G15]; omega)) (show g_bt B (τ_43.1 19) (τ_43.2.1 43) from by exact i43_3), ?_⟩
            intro x34 τ35 r_x34 hn_τ35 hf_τ35 hq
            obtain ⟨hT, q33_1, q33_2, q33_3⟩ := hq
            replace q33_1 : 0 ≤ x34 ∧ x34 ≤ 1 := q33_1
            replace q33_2 : g_bt B (τ35.1 19) (τ35.2.1 43) := q33_2
            replace q33_3 : 0 ≤ (τ35.1 19) ∧ (τ35.1 19) ≤ 599 := q33_3
            have w6_τ35 : τ35.1 6 = τ_43.1 6 := hf_τ35.1 6 (by decide)
            have w7_τ35 : τ35.1 7 = τ_43.1 7 := hf_τ35.1 7 (by decide)
            have w13_τ35 : τ35.1 13 = τ_43.1 13 := hf_τ35.1 13 (by decide)
            have w14_τ35 : τ35.1 14 = τ_43.1 14 := hf_τ35.1 14 (by decide)
            have w15_τ35 : τ35.1 15 = τ_43.1 15 := hf_τ35.1 15 (by decide)
            have w17_τ35 : τ35.1 17 = τ_43.1 17 := hf_τ35.1 17 (by decide)
            have w60_τ35 : τ35.1 60 = τ_43.1 60 := hf_τ35.1 60 (by decide)
            have g10_τ35 : τ35.2.1 10 = τ_43.2.1 10 := hf_τ35.2.1 10 (by decide)
            have g13_τ35 : τ35.2.1 13 = τ_43.2.1 13 := hf_τ35.2.1 13 (by decide)
            have g14_τ35 : τ35.2.1 14 = τ_43.2.1 14 := hf_τ35.2.1 14 (by decide)
            have g15_τ35 : τ35.2.1 15 = τ_43.2.1 15 := hf_τ35.2.1 15 (by decide)
            have g16_τ35 : τ35.2.1 16 = τ_43.2.1 16 := hf_τ35.2.1 16 (by decide)
            have g27_τ35 : τ35.2.1 27 = τ_43.2.1 27 := hf_τ35.2.1 27 (by decide)
            have g28_τ35 : τ35.2.1 28 = τ_43.2.1 28 := hf_τ35.2.1 28 (by decide)
            have g29_τ35 : τ35.2.1 29 = τ_43.2.1 29 := hf_τ35.2.1 29 (by decide)
            have g30_τ35 : τ35.2.1 30 = τ_43.2.1 30 := hf_τ35.2.1 30 (by decide)
            have g31_τ35 : τ35.2.1 31 = τ_43.2.1 31 := hf_τ35.2.1 31 (by decide)
            have g32_τ35 : τ35.2.1 32 = τ_43.2.1 32 := hf_τ35.2.1 32 (by decide)
            have g33_τ35 : τ35.2.1 33 = τ_43.2.1 33 := hf_τ35.2.1 33 (by decide)
            have g34_τ35 : τ35.2.1 34 = τ_43.2.1 34 := hf_τ35.2.1 34 (by decide)
            have g35_τ35 : τ35.2.1 35 = τ_43.2.1 35 := hf_τ35.2.1 35 (by decide)
            have g36_τ35 : τ35.2.1 36 = τ_43.2.1 36 := hf_τ35.2.1 36 (by decide)
            have g37_τ35 : τ35.2.1 37 = τ_43.2.1 37 := hf_τ35.2.1 37 (by decide)
            have g39_τ35 : τ35.2.1 39 = τ_43.2.1 39 := hf_τ35.2.1 39 (by decide)
            have g40_τ35 : τ35.2.1 40 = τ_43.2.1 40 := hf_τ35.2.1 40 (by decide)
            have g41_τ35 : τ35.2.1 41 = τ_43.2.1 41 := hf_τ35.2.1 41 (by decide)
            have g95_τ35 : τ35.2.1 95 = τ_43.2.1 95 := hf_τ35.2.1 95 (by decide)
            have g97_τ35 : τ35.2.1 97 = τ_43.2.1 97 := hf_τ35.2.1 97 (by decide)
            have g98_τ35 : τ35.2.1 98 = τ_43.2.1 98 := hf_τ35.2.1 98 (by decide)
            have g99_τ35 : τ35.2.1 99 = τ_43.2.1 99 := hf_τ35.2.1 99 (by decide)
            have W6 : τ35.1 6 = σ.1 6 := by first | exact w6_τ35.trans W6 | omega
            have W7 : τ35.1 7 = σ.1 7 := by first | exact w7_τ35.trans W7 | omega
            have W13 : τ35.1 13 = σ.1 13 := by first | exact w13_τ35.trans W13 | omega
            have W14 : τ35.1 14 = σ.1 14 := by first | exact w14_τ35.trans W14 | omega
            have W15 : τ35.1 15 = σ.1 15 := by first | exact w15_τ35.trans W15 | omega
            have W17 : τ35.1 17 = σ.1 17 := by first | exact w17_τ35.trans W17 | omega
            have W60 : τ35.1 60 = σ.1 60 := by first | exact w60_τ35.trans W60 | omega
            have G10 : τ35.2.1 10 = σ.2.1 10 := (g10_τ35).trans G10
            have G13 : τ35.2.1 13 = σ.2.1 13 := (g13_τ35).trans G13
            have G14 : τ35.2.1 14 = σ.2.1 14 := (g14_τ35).trans G14
            have G15 : τ35.2.1 15 = σ.2.1 15 := (g15_τ35).trans G15
            have G16 : τ35.2.1 16 = σ.2.1 16 := (g16_τ35).trans G16
            have G27 : τ35.2.1 27 = σ.2.1 27 := (g27_τ35).trans G27
            have G28 : τ35.2.1 28 = σ.2.1 28 := (g28_τ35).trans G28
            have G29 : τ35.2.1 29 = σ.2.1 29 := (g29_τ35).trans G29
            have G30 : τ35.2.1 30 = σ.2.1 30 := (g30_τ35).trans G30
            have G31 : τ35.2.1 31 = σ.2.1 31 := (g31_τ35).trans G31
            have G32 : τ35.2.1 32 = σ.2.1 32 := (g32_τ35).trans G32
            have G33 : τ35.2.1 33 = σ.2.1 33 := (g33_τ35).trans G33
            have G34 : τ35.2.1 34 = σ.2.1 34 := (g34_τ35).trans G34
            have G35 : τ35.2.1 35 = σ.2.1 35 := (g35_τ35).trans G35
            have G36 : τ35.2.1 36 = σ.2.1 36 := (g36_τ35).trans G36
            have G37 : τ35.2.1 37 = σ.2.1 37 := (g37_τ35).trans G37
            have G39 : τ35.2.1 39 = σ.2.1 39 := (g39_τ35).trans G39
            have G40 : τ35.2.1 40 = σ.2.1 40 := (g40_τ35).trans G40
            have G41 : τ35.2.1 41 = σ.2.1 41 := (g41_τ35).trans G41
            have G95 : τ35.2.1 95 = σ.2.1 95 := (g95_τ35).trans G95
            have G97 : τ35.2.1 97 = σ.2.1 97 := (g97_τ35).trans G97
            have G98 : τ35.2.1 98 = σ.2.1 98 := (g98_τ35).trans G98
            have G99 : τ35.2.1 99 = σ.2.1 99 := (g99_τ35).trans G99
            have CJ : J_all (τ35.1 7) (τ35.1 6) (τ35.1 13) (τ35.1 14) (τ35.1 15) (τ35.2.1 13) (τ35.2.1 14) (τ35.2.1 15) (τ35.2.1 16) (τ35.2.1 10) (τ35.2.1 27) (τ35.2.1 28) (τ35.2.1 29) (τ35.2.1 30) (τ35.2.1 31) (τ35.2.1 32) (τ35.2.1 33) (τ35.2.1 34) (τ35.2.1 35) (τ35.2.1 36) (τ35.2.1 37) := by rw [show (J_all (τ35.1 7) (τ35.1 6) (τ35.1 13) (τ35.1 14) (τ35.1 15) (τ35.2.1 13) (τ35.2.1 14) (τ35.2.1 15) (τ35.2.1 16) (τ35.2.1 10) (τ35.2.1 27) (τ35.2.1 28) (τ35.2.1 29) (τ35.2.1 30) (τ35.2.1 31) (τ35.2.1 32) (τ35.2.1 33) (τ35.2.1 34) (τ35.2.1 35) (τ35.2.1 36) (τ35.2.1 37)) = (J_all (τ_43.1 7) (τ_43.1 6) (τ_43.1 13) (τ_43.1 14) (τ_43.1 15) (τ_43.2.1 13) (τ_43.2.1 14) (τ_43.2.1 15) (τ_43.2.1 16) (τ_43.2.1 10) (τ_43.2.1 27) (τ_43.2.1 28) (τ_43.2.1 29) (τ_43.2.1 30) (τ_43.2.1 31) (τ_43.2.1 32) (τ_43.2.1 33) (τ_43.2.1 34) (τ_43.2.1 35) (τ_43.2.1 36) (τ_43.2.1 37)) from by rw [w6_τ35, w7_τ35, w13_τ35, w14_τ35, w15_τ35, g10_τ35, g13_τ35, g14_τ35, g15_τ35, g16_τ35, g27_τ35, g28_τ35, g29_τ35, g30_τ35, g31_τ35, g32_τ35, g33_τ35, g34_τ35, g35_τ35, g36_τ35, g37_τ35]]; exact CJ
            have BD : g_bd (τ35.1 60) (τ35.2.1 95) (τ35.2.1 98) (τ35.2.1 99) (τ35.2.1 97) (τ35.2.1 28) := by rw [show (g_bd (τ35.1 60) (τ35.2.1 95) (τ35.2.1 98) (τ35.2.1 99) (τ35.2.1 97) (τ35.2.1 28)) = (g_bd (τ_43.1 60) (τ_43.2.1 95) (τ_43.2.1 98) (τ_43.2.1 99) (τ_43.2.1 97) (τ_43.2.1 28)) from by rw [w60_τ35, g28_τ35, g95_τ35, g97_τ35, g98_τ35, g99_τ35]]; exact BD
            have A10 : ∀ j, (-1) ≤ τ35.2.1 10 j ∧ τ35.2.1 10 j ≤ 99 := fun j => hT.2 10 j
            have A13 : ∀ j, 0 ≤ τ35.2.1 13 j ∧ τ35.2.1 13 j ≤ 4 := fun j => hT.2 13 j
            have A14 : ∀ j, 0 ≤ τ35.2.1 14 j ∧ τ35.2.1 14 j ≤ 30000 := fun j => hT.2 14 j
            have A15 : ∀ j, 0 ≤ τ35.2.1 15 j ∧ τ35.2.1 15 j ≤ 999 := fun j => hT.2 15 j
            have A16 : ∀ j, (-1) ≤ τ35.2.1 16 j ∧ τ35.2.1 16 j ≤ 1499 := fun j => hT.2 16 j
            have A27 : ∀ j, 0 ≤ τ35.2.1 27 j ∧ τ35.2.1 27 j ≤ 90000 := fun j => hT.2 27 j
            have A28 : ∀ j, 0 ≤ τ35.2.1 28 j ∧ τ35.2.1 28 j ≤ 60 := fun j => hT.2 28 j
            have A29 : ∀ j, 0 ≤ τ35.2.1 29 j ∧ τ35.2.1 29 j ≤ 1499 := fun j => hT.2 29 j
            have A30 : ∀ j, 0 ≤ τ35.2.1 30 j ∧ τ35.2.1 30 j ≤ 20000 := fun j => hT.2 30 j
            have A31 : ∀ j, 0 ≤ τ35.2.1 31 j ∧ τ35.2.1 31 j ≤ 20000 := fun j => hT.2 31 j
            have A32 : ∀ j, 0 ≤ τ35.2.1 32 j ∧ τ35.2.1 32 j ≤ 999999 := fun j => hT.2 32 j
            have A33 : ∀ j, 0 ≤ τ35.2.1 33 j ∧ τ35.2.1 33 j ≤ 20000 := fun j => hT.2 33 j
            have A34 : ∀ j, 0 ≤ τ35.2.1 34 j ∧ τ35.2.1 34 j ≤ 20000 := fun j => hT.2 34 j
            have A35 : ∀ j, 0 ≤ τ35.2.1 35 j ∧ τ35.2.1 35 j ≤ 1499 := fun j => hT.2 35 j
            have A36 : ∀ j, 0 ≤ τ35.2.1 36 j ∧ τ35.2.1 36 j ≤ 20000 := fun j => hT.2 36 j
            have A37 : ∀ j, 0 ≤ τ35.2.1 37 j ∧ τ35.2.1 37 j ≤ 19999 := fun j => hT.2 37 j
            have A39 : ∀ j, 0 ≤ τ35.2.1 39 j ∧ τ35.2.1 39 j ≤ 1060 := fun j => hT.2 39 j
            have A40 : ∀ j, 0 ≤ τ35.2.1 40 j ∧ τ35.2.1 40 j ≤ 42000 := fun j => hT.2 40 j
            have A41 : ∀ j, (-2) ≤ τ35.2.1 41 j ∧ τ35.2.1 41 j ≤ 1000 := fun j => hT.2 41 j
            have A95 : ∀ j, 0 ≤ τ35.2.1 95 j ∧ τ35.2.1 95 j ≤ 1500 := fun j => hT.2 95 j
            have A97 : ∀ j, 0 ≤ τ35.2.1 97 j ∧ τ35.2.1 97 j ≤ 1060 := fun j => hT.2 97 j
            have A98 : ∀ j, 0 ≤ τ35.2.1 98 j ∧ τ35.2.1 98 j ≤ 1048576 := fun j => hT.2 98 j
            have A99 : ∀ j, (-2) ≤ τ35.2.1 99 j ∧ τ35.2.1 99 j ≤ 600 := fun j => hT.2 99 j
            have v6 : 0 ≤ τ35.1 6 ∧ τ35.1 6 ≤ 30000 := hT.1 6
            have v7 : 0 ≤ τ35.1 7 ∧ τ35.1 7 ≤ 1500 := hT.1 7
            have v13 : 0 ≤ τ35.1 13 ∧ τ35.1 13 ≤ 90000 := hT.1 13
            have v14 : 0 ≤ τ35.1 14 ∧ τ35.1 14 ≤ 20000 := hT.1 14
            have v15 : 0 ≤ τ35.1 15 ∧ τ35.1 15 ≤ 20000 := hT.1 15
            have v17 : 0 ≤ τ35.1 17 ∧ τ35.1 17 ≤ 42000 := hT.1 17
            have v19 : 0 ≤ τ35.1 19 ∧ τ35.1 19 ≤ 1000 := hT.1 19
            have v60 : 0 ≤ τ35.1 60 ∧ τ35.1 60 ≤ 1048576 := hT.1 60
            refine ⟨(⟨by (first | omega | (simp only [st_s] <;> omega) | assumption | omega | fail), by (first | omega | (simp only [st_s] <;> omega) | assumption | omega | fail)⟩ : rg (u5_43 + 1)), ?_⟩
            exact ih_43 _ _ _ (show (30001 - (u5_43 + 1) : Int) < ((m_43 : Nat) : Int) from by ((first | omega | (simp only [st_s] <;> omega) | assumption | omega | fail))) hT (show τ35.1 6 = σ.1 6 from by first | exact W6 | omega) (show τ35.1 7 = σ.1 7 from by first | exact W7 | omega) (show τ35.1 13 = σ.1 13 from by first | exact W13 | omega) (show τ35.1 14 = σ.1 14 from by first | exact W14 | omega) (show τ35.1 15 = σ.1 15 from by first | exact W15 | omega) (show τ35.1 17 = σ.1 17 from by first | exact W17 | omega) (show τ35.1 60 = σ.1 60 from by first | exact W60 | omega) G10 G13 G14 G15 G16 G27 G28 G29 G30 G31 G32 G33 G34 G35 G36 G37 G39 G40 G41 G95 G97 G98 G99 (show 0 ≤ x34 ∧ x34 ≤ 1 from by (first | omega | (simp only [st_s] <;> omega) | assumption | omega | fail)) (show σ.2.1 14 n1 ≤ (u5_43 + 1) ∧ (u5_43 + 1) ≤ 30000 from by (first | omega | (simp only [st_s] <;> omega) | assumption | omega | fail)) (show g_bt B (τ35.1 19) (τ35.2.1 43) from by (first | exact g_bt0 _ _ | exact q28_2 | exact q33_2 | fail)) (show 0 ≤ (τ35.1 19) ∧ (τ35.1 19) ≤ 599 from by (first | omega | (simp only [st_s] <;> omega) | assumption | omega | fail)) (show (τ35.1 17) = (σ.1 17) from by (first | omega | (simp only [st_s] <;> omega) | assumption | omega | fail))
  have l_147 : ∀ (m_147 : Nat) (u4_147 : Int) (u5_147 : Int) (τ_147 : S0), 1048578 - u5_147 < (m_147 : Int) → (c_T τ_147) → (τ_147.1 6 = σ.1 6) → (τ_147.1 7 = σ.1 7) → (τ_147.1 13 = σ.1 13) → (τ_147.1 14 = σ.1 14) → (τ_147.1 15 = σ.1 15) → (τ_147.1 17 = σ.1 17) → (τ_147.1 60 = σ.1 60) → (τ_147.2.1 10 = σ.2.1 10) → (τ_147.2.1 13 = σ.2.1 13) → (τ_147.2.1 14 = σ.2.1 14) → (τ_147.2.1 15 = σ.2.1 15) → (τ_147.2.1 16 = σ.2.1 16) → (τ_147.2.1 27 = σ.2.1 27) → (τ_147.2.1 28 = σ.2.1 28) → (τ_147.2.1 29 = σ.2.1 29) → (τ_147.2.1 30 = σ.2.1 30) → (τ_147.2.1 31 = σ.2.1 31) → (τ_147.2.1 32 = σ.2.1 32) → (τ_147.2.1 33 = σ.2.1 33) → (τ_147.2.1 34 = σ.2.1 34) → (τ_147.2.1 35 = σ.2.1 35) → (τ_147.2.1 36 = σ.2.1 36) → (τ_147.2.1 37 = σ.2.1 37) → (τ_147.2.1 39 = σ.2.1 39) → (τ_147.2.1 40 = σ.2.1 40) → (τ_147.2.1 41 = σ.2.1 41) → (τ_147.2.1 95 = σ.2.1 95) → (τ_147.2.1 97 = σ.2.1 97) → (τ_147.2.1 98 = σ.2.1 98) → (τ_147.2.1 99 = σ.2.1 99) → (0 ≤ u4_147 ∧ u4_147 ≤ 1) → (σ.2.1 98 n1 ≤ u5_147 ∧ u5_147 ≤ 1048577) → (g_bt B (τ_147.1 19) (τ_147.2.1 43)) → (0 ≤ (τ_147.1 19) ∧ (τ_147.1 19) ≤ 599) → (0 ≤ σ.2.1 99 n1 ∧ σ.2.1 98 n1 + σ.2.1 99 n1 ≤ (σ.1 60) ∧ ∀ k : Int, σ.2.1 98 n1 ≤ k → k < σ.2.1 98 n1 + σ.2.1 99 n1 → σ.2.1 97 k < 1000 + σ.2.1 28 n1) → ((τ_147.1 17) = (σ.1 17)) → P147 n1 n2 u4_147 u5_147 τ_147 := by
    intro m_147
    induction m_147 with
    | zero =>
      intro u4_147 u5_147 τ_147 hm hT W6 W7 W13 W14 W15 W17 W60 G10 G13 G14 G15 G16 G27 G28 G29 G30 G31 G32 G33 G34 G35 G36 G37 G39 G40 G41 G95 G97 G98 G99 i147_1 i147_2 i147_3 i147_4 i147_5 i147_6
      have A10 : ∀ j, (-1) ≤ τ_147.2.1 10 j ∧ τ_147.2.1 10 j ≤ 99 := fun j => hT.2 10 j
      have A13 : ∀ j, 0 ≤ τ_147.2.1 13 j ∧ τ_147.2.1 13 j ≤ 4 := fun j => hT.2 13 j
      have A14 : ∀ j, 0 ≤ τ_147.2.1 14 j ∧ τ_147.2.1 14 j ≤ 30000 := fun j => hT.2 14 j
      have A15 : ∀ j, 0 ≤ τ_147.2.1 15 j ∧ τ_147.2.1 15 j ≤ 999 := fun j => hT.2 15 j
      have A16 : ∀ j, (-1) ≤ τ_147.2.1 16 j ∧ τ_147.2.1 16 j ≤ 1499 := fun j => hT.2 16 j
      have A27 : ∀ j, 0 ≤ τ_147.2.1 27 j ∧ τ_147.2.1 27 j ≤ 90000 := fun j => hT.2 27 j
      have A28 : ∀ j, 0 ≤ τ_147.2.1 28 j ∧ τ_147.2.1 28 j ≤ 60 := fun j => hT.2 28 j
      have A29 : ∀ j, 0 ≤ τ_147.2.1 29 j ∧ τ_147.2.1 29 j ≤ 1499 := fun j => hT.2 29 j
      have A30 : ∀ j, 0 ≤ τ_147.2.1 30 j ∧ τ_147.2.1 30 j ≤ 20000 := fun j => hT.2 30 j
      have A31 : ∀ j, 0 ≤ τ_147.2.1 31 j ∧ τ_147.2.1 31 j ≤ 20000 := fun j => hT.2 31 j
      have A32 : ∀ j, 0 ≤ τ_147.2.1 32 j ∧ τ_147.2.1 32 j ≤ 999999 := fun j => hT.2 32 j
      have A33 : ∀ j, 0 ≤ τ_147.2.1 33 j ∧ τ_147.2.1 33 j ≤ 20000 := fun j => hT.2 33 j
      have A34 : ∀ j, 0 ≤ τ_147.2.1 34 j ∧ τ_147.2.1 34 j ≤ 20000 := fun j => hT.2 34 j
      have A35 : ∀ j, 0 ≤ τ_147.2.1 35 j ∧ τ_147.2.1 35 j ≤ 1499 := fun j => hT.2 35 j
      have A36 : ∀ j, 0 ≤ τ_147.2.1 36 j ∧ τ_147.2.1 36 j ≤ 20000 := fun j => hT.2 36 j
      have A37 : ∀ j, 0 ≤ τ_147.2.1 37 j ∧ τ_147.2.1 37 j ≤ 19999 := fun j => hT.2 37 j
      have A39 : ∀ j, 0 ≤ τ_147.2.1 39 j ∧ τ_147.2.1 39 j ≤ 1060 := fun j => hT.2 39 j
      have A40 : ∀ j, 0 ≤ τ_147.2.1 40 j ∧ τ_147.2.1 40 j ≤ 42000 := fun j => hT.2 40 j
      have A41 : ∀ j, (-2) ≤ τ_147.2.1 41 j ∧ τ_147.2.1 41 j ≤ 1000 := fun j => hT.2 41 j
      have A95 : ∀ j, 0 ≤ τ_147.2.1 95 j ∧ τ_147.2.1 95 j ≤ 1500 := fun j => hT.2 95 j
      have A97 : ∀ j, 0 ≤ τ_147.2.1 97 j ∧ τ_147.2.1 97 j ≤ 1060 := fun j => hT.2 97 j
      have A98 : ∀ j, 0 ≤ τ_147.2.1 98 j ∧ τ_147.2.1 98 j ≤ 1048576 := fun j => hT.2 98 j
      have A99 : ∀ j, (-2) ≤ τ_147.2.1 99 j ∧ τ_147.2.1 99 j ≤ 600 := fun j => hT.2 99 j
      have v6 : 0 ≤ τ_147.1 6 ∧ τ_147.1 6 ≤ 30000 := hT.1 6
      have v7 : 0 ≤ τ_147.1 7 ∧ τ_147.1 7 ≤ 1500 := hT.1 7
      have v13 : 0 ≤ τ_147.1 13 ∧ τ_147.1 13 ≤ 90000 := hT.1 13
      have v14 : 0 ≤ τ_147.1 14 ∧ τ_147.1 14 ≤ 20000 := hT.1 14
      have v15 : 0 ≤ τ_147.1 15 ∧ τ_147.1 15 ≤ 20000 := hT.1 15
      have v17 : 0 ≤ τ_147.1 17 ∧ τ_147.1 17 ≤ 42000 := hT.1 17
      have v19 : 0 ≤ τ_147.1 19 ∧ τ_147.1 19 ≤ 1000 := hT.1 19
      have v60 : 0 ≤ τ_147.1 60 ∧ τ_147.1 60 ≤ 1048576 := hT.1 60
      exfalso; (first | omega | (simp only [st_s] <;> omega) | assumption | omega | fail)
    | succ m_147 ih_147 =>
      intro u4_147 u5_147 τ_147 hm_147 hT W6 W7 W13 W14 W15 W17 W60 G10 G13 G14 G15 G16 G27 G28 G29 G30 G31 G32 G33 G34 G35 G36 G37 G39 G40 G41 G95 G97 G98 G99 i147_1 i147_2 i147_3 i147_4 i147_5 i147_6
      have A10 : ∀ j, (-1) ≤ τ_147.2.1 10 j ∧ τ_147.2.1 10 j ≤ 99 := fun j => hT.2 10 j
      have A13 : ∀ j, 0 ≤ τ_147.2.1 13 j ∧ τ_147.2.1 13 j ≤ 4 := fun j => hT.2 13 j
      have A14 : ∀ j, 0 ≤ τ_147.2.1 14 j ∧ τ_147.2.1 14 j ≤ 30000 := fun j => hT.2 14 j
      have A15 : ∀ j, 0 ≤ τ_147.2.1 15 j ∧ τ_147.2.1 15 j ≤ 999 := fun j => hT.2 15 j
      have A16 : ∀ j, (-1) ≤ τ_147.2.1 16 j ∧ τ_147.2.1 16 j ≤ 1499 := fun j => hT.2 16 j
      have A27 : ∀ j, 0 ≤ τ_147.2.1 27 j ∧ τ_147.2.1 27 j ≤ 90000 := fun j => hT.2 27 j
      have A28 : ∀ j, 0 ≤ τ_147.2.1 28 j ∧ τ_147.2.1 28 j ≤ 60 := fun j => hT.2 28 j
      have A29 : ∀ j, 0 ≤ τ_147.2.1 29 j ∧ τ_147.2.1 29 j ≤ 1499 := fun j => hT.2 29 j
      have A30 : ∀ j, 0 ≤ τ_147.2.1 30 j ∧ τ_147.2.1 30 j ≤ 20000 := fun j => hT.2 30 j
      have A31 : ∀ j, 0 ≤ τ_147.2.1 31 j ∧ τ_147.2.1 31 j ≤ 20000 := fun j => hT.2 31 j
      have A32 : ∀ j, 0 ≤ τ_147.2.1 32 j ∧ τ_147.2.1 32 j ≤ 999999 := fun j => hT.2 32 j
      have A33 : ∀ j, 0 ≤ τ_147.2.1 33 j ∧ τ_147.2.1 33 j ≤ 20000 := fun j => hT.2 33 j
      have A34 : ∀ j, 0 ≤ τ_147.2.1 34 j ∧ τ_147.2.1 34 j ≤ 20000 := fun j => hT.2 34 j
      have A35 : ∀ j, 0 ≤ τ_147.2.1 35 j ∧ τ_147.2.1 35 j ≤ 1499 := fun j => hT.2 35 j
      have A36 : ∀ j, 0 ≤ τ_147.2.1 36 j ∧ τ_147.2.1 36 j ≤ 20000 := fun j => hT.2 36 j
      have A37 : ∀ j, 0 ≤ τ_147.2.1 37 j ∧ τ_147.2.1 37 j ≤ 19999 := fun j => hT.2 37 j
      have A39 : ∀ j, 0 ≤ τ_147.2.1 39 j ∧ τ_147.2.1 39 j ≤ 1060 := fun j => hT.2 39 j
      have A40 : ∀ j, 0 ≤ τ_147.2.1 40 j ∧ τ_147.2.1 40 j ≤ 42000 := fun j => hT.2 40 j
      have A41 : ∀ j, (-2) ≤ τ_147.2.1 41 j ∧ τ_147.2.1 41 j ≤ 1000 := fun j => hT.2 41 j
      have A95 : ∀ j, 0 ≤ τ_147.2.1 95 j ∧ τ_147.2.1 95 j ≤ 1500 := fun j => hT.2 95 j
      have A97 : ∀ j, 0 ≤ τ_147.2.1 97 j ∧ τ_147.2.1 97 j ≤ 1060 := fun j => hT.2 97 j
      have A98 : ∀ j, 0 ≤ τ_147.2.1 98 j ∧ τ_147.2.1 98 j ≤ 1048576 := fun j => hT.2 98 j
      have A99 : ∀ j, (-2) ≤ τ_147.2.1 99 j ∧ τ_147.2.1 99 j ≤ 600 := fun j => hT.2 99 j
      have v6 : 0 ≤ τ_147.1 6 ∧ τ_147.1 6 ≤ 30000 := hT.1 6
      have v7 : 0 ≤ τ_147.1 7 ∧ τ_147.1 7 ≤ 1500 := hT.1 7
      have v13 : 0 ≤ τ_147.1 13 ∧ τ_147.1 13 ≤ 90000 := hT.1 13
      have v14 : 0 ≤ τ_147.1 14 ∧ τ_147.1 14 ≤ 20000 := hT.1 14
      have v15 : 0 ≤ τ_147.1 15 ∧ τ_147.1 15 ≤ 20000 := hT.1 15
      have v17 : 0 ≤ τ_147.1 17 ∧ τ_147.1 17 ≤ 42000 := hT.1 17
      have v19 : 0 ≤ τ_147.1 19 ∧ τ_147.1 19 ≤ 1000 := hT.1 19
      have v60 : 0 ≤ τ_147.1 60 ∧ τ_147.1 60 ≤ 1048576 := hT.1 60
      have CJ : J_all (τ_147.1 7) (τ_147.1 6) (τ_147.1 13) (τ_147.1 14) (τ_147.1 15) (τ_147.2.1 13) (τ_147.2.1 14) (τ_147.2.1 15) (τ_147.2.1 16) (τ_147.2.1 10) (τ_147.2.1 27) (τ_147.2.1 28) (τ_147.2.1 29) (τ_147.2.1 30) (τ_147.2.1 31) (τ_147.2.1 32) (τ_147.2.1 33) (τ_147.2.1 34) (τ_147.2.1 35) (τ_147.2.1 36) (τ_147.2.1 37) := by rw [show (J_all (τ_147.1 7) (τ_147.1 6) (τ_147.1 13) (τ_147.1 14) (τ_147.1 15) (τ_147.2.1 13) (τ_147.2.1 14) (τ_147.2.1 15) (τ_147.2.1 16) (τ_147.2.1 10) (τ_147.2.1 27) (τ_147.2.1 28) (τ_147.2.1 29) (τ_147.2.1 30) (τ_147.2.1 31) (τ_147.2.1 32) (τ_147.2.1 33) (τ_147.2.1 34) (τ_147.2.1 35) (τ_147.2.1 36) (τ_147.2.1 37)) = (J_all (σ.1 7) (σ.1 6) (σ.1 13) (σ.1 14) (σ.1 15) (σ.2.1 13) (σ.2.1 14) (σ.2.1 15) (σ.2.1 16) (σ.2.1 10) (σ.2.1 27) (σ.2.1 28) (σ.2.1 29) (σ.2.1 30) (σ.2.1 31) (σ.2.1 32) (σ.2.1 33) (σ.2.1 34) (σ.2.1 35) (σ.2.1 36) (σ.2.1 37)) from by rw [W6, W7, W13, W14, W15, G10, G13, G14, G15, G16, G27, G28, G29, G30, G31, G32, G33, G34, G35, G36, G37]]; exact CJ_0
      have BD : g_bd (τ_147.1 60) (τ_147.2.1 95) (τ_147.2.1 98) (τ_147.2.1 99) (τ_147.2.1 97) (τ_147.2.1 28) := by rw [show (g_bd (τ_147.1 60) (τ_147.2.1 95) (τ_147.2.1 98) (τ_147.2.1 99) (τ_147.2.1 97) (τ_147.2.1 28)) = (g_bd (σ.1 60) (σ.2.1 95) (σ.2.1 98) (σ.2.1 99) (σ.2.1 97) (σ.2.1 28)) from by rw [W60, G28, G95, G97, G98, G99]]; exact BD_0
      refine h147 n1 n2 u4_147 u5_147 τ_147 ?_
      refine ⟨(show 0 ≤ n1 ∧ n1 < 1500 from by (first | omega | (simp only [st_s] <;> omega) | assumption | omega | fail)), ?_⟩
      intro x38 r_x38 e_x38
      have b_x38 : 0 ≤ x38 ∧ x38 ≤ 1048576 := by rw [e_x38]; exact hT.2 98 _
      rw [G98] at e_x38
      intro x39 r_x39 e_x39
      have b_x39 : (-2) ≤ x39 ∧ x39 ≤ 600 := by rw [e_x39]; exact hT.2 99 _
      rw [G99] at e_x39
      refine ⟨(⟨by (first | omega | (simp only [st_s] <;> omega) | assumption | omega | fail), by (first | omega | (simp only [st_s] <;> omega) | assumption | omega | fail)⟩ : rg (x38 + x39)), ?_⟩
      refine ⟨fun c41 => ?_, fun c41 => ?_⟩
      ·
        refine ⟨(show 0 ≤ u4_147 ∧ u4_147 ≤ 1 from by (first | omega | (simp only [st_s] <;> omega) | assumption | omega | fail)), ?_⟩
        exact ⟨hT, (show 0 ≤ u4_147 ∧ u4_147 ≤ 1 from by (first | omega | (simp only [st_s] <;> omega) | assumption | omega | fail)), (show g_bt B (τ_147.1 19) (τ_147.2.1 43) from by (first | exact i43_3 | exact i147_3 | exact g_bt0 _ _ | fail)), (show 0 ≤ (τ_147.1 19) ∧ (τ_147.1 19) ≤ 599 from by (first | omega | (simp only [st_s] <;> omega) | assumption | omega | fail))⟩
      ·
        refine ⟨fun c43 => ?_, fun c43 => ?_⟩
        ·
          refine ⟨(show 0 ≤ u4_147 ∧ u4_147 ≤ 1 from by (first | omega | (simp only [st_s] <;> omega) | assumption | omega | fail)), ?_⟩
          exact ⟨hT, (show 0 ≤ u4_147 ∧ u4_147 ≤ 1 from by (first | omega | (simp only [st_s] <;> omega) | assumption | omega | fail)), (show g_bt B (τ_147.1 19) (τ_147.2.1 43) from by (first | exact i43_3 | exact i147_3 | exact g_bt0 _ _ | fail)), (show 0 ≤ (τ_147.1 19) ∧ (τ_147.1 19) ≤ 599 from by (first | omega | (simp only [st_s] <;> omega) | assumption | omega | fail))⟩
        ·
          refine ⟨(show 0 ≤ u5_147 ∧ u5_147 < lb from by (first | omega | (simp only [st_s] <;> omega) | assumption | omega | fail)), ?_⟩
          intro x46 r_x46 e_x46
          have b_x46 : 0 ≤ x46 ∧ x46 ≤ 1060 := by rw [e_x46]; exact hT.2 97 _
          refine ⟨fun c47 => ?_, fun c47 => ?_⟩
          ·
            intro x48 r_x48 e_x48
            have b_x48 : 0 ≤ x48 ∧ x48 ≤ 1060 := by rw [e_x48]; exact hT.2 97 _
            refine ⟨(⟨by (first | omega | (simp only [st_s] <;> omega) | assumption | omega | fail), by (first | omega | (simp only [st_s] <;> omega) | assumption | omega | fail)⟩ : rg ((n2 + x48) - 1000)), ?_⟩
            have b5 := i147_5.2.2 u5_147 (by omega) (by omega)
            rw [← G97] at b5
            have ex46 : x46 = τ_147.2.1 97 u5_147 := e_x46
            refine ⟨_, K_X2_composeRow hT (show 0 ≤ ((n2 + x48) - 1000) from by (first | omega | (simp only [st_s] <;> omega) | assumption | omega | fail)) (show ((n2 + x48) - 1000) < rows from by (first | omega | (simp only [st_s] <;> omega) | assumption | omega | fail)) (show rows ≤ 12000 from by (first | omega | (simp only [st_s] <;> omega) | assumption | omega | fail)) (show g_ev B rows (τ_147.1 17) (τ_147.2.1 40) (τ_147.2.1 41) (τ_147.2.1 39) from by (rw [i147_6, G40, G41, G39]; exact p8)) (show g_bt B (τ_147.1 19) (τ_147.2.1 43) from by exact i147_3) (show 0 ≤ (τ_147.1 19) ∧ (τ_147.1 19) ≤ 599 from by (first | omega | (simp only [st_s] <;> omega) | assumption | omega | fail)), ?_⟩
            intro x51 τ52 r_x51 hn_τ52 hf_τ52 hq
            obtain ⟨hT, q50_1, q50_2, q50_3⟩ := hq
            replace q50_1 : 0 ≤ x51 ∧ x51 ≤ 1 := q50_1
            replace q50_2 : g_bt B (τ52.1 19) (τ52.2.1 43) := q50_2
            replace q50_3 : 0 ≤ (τ52.1 19) ∧ (τ52.1 19) ≤ 599 := q50_3
            have w6_τ52 : τ52.1 6 = τ_147.1 6 := hf_τ52.1 6 (by decide)
            have w7_τ52 : τ52.1 7 = τ_147.1 7 := hf_τ52.1 7 (by decide)
            have w13_τ52 : τ52.1 13 = τ_147.1 13 := hf_τ52.1 13 (by decide)
            have w14_τ52 : τ52.1 14 = τ_147.1 14 := hf_τ52.1 14 (by decide)
            have w15_τ52 : τ52.1 15 = τ_147.1 15 := hf_τ52.1 15 (by decide)
            have w17_τ52 : τ52.1 17 = τ_147.1 17 := hf_τ52.1 17 (by decide)
            have w60_τ52 : τ52.1 60 = τ_147.1 60 := hf_τ52.1 60 (by decide)
            have g10_τ52 : τ52.2.1 10 = τ_147.2.1 10 := hf_τ52.2.1 10 (by decide)
            have g13_τ52 : τ52.2.1 13 = τ_147.2.1 13 := hf_τ52.2.1 13 (by decide)
            have g14_τ52 : τ52.2.1 14 = τ_147.2.1 14 := hf_τ52.2.1 14 (by decide)
            have g15_τ52 : τ52.2.1 15 = τ_147.2.1 15 := hf_τ52.2.1 15 (by decide)
            have g16_τ52 : τ52.2.1 16 = τ_147.2.1 16 := hf_τ52.2.1 16 (by decide)
            have g27_τ52 : τ52.2.1 27 = τ_147.2.1 27 := hf_τ52.2.1 27 (by decide)
            have g28_τ52 : τ52.2.1 28 = τ_147.2.1 28 := hf_τ52.2.1 28 (by decide)
            have g29_τ52 : τ52.2.1 29 = τ_147.2.1 29 := hf_τ52.2.1 29 (by decide)
            have g30_τ52 : τ52.2.1 30 = τ_147.2.1 30 := hf_τ52.2.1 30 (by decide)
            have g31_τ52 : τ52.2.1 31 = τ_147.2.1 31 := hf_τ52.2.1 31 (by decide)
            have g32_τ52 : τ52.2.1 32 = τ_147.2.1 32 := hf_τ52.2.1 32 (by decide)
            have g33_τ52 : τ52.2.1 33 = τ_147.2.1 33 := hf_τ52.2.1 33 (by decide)
            have g34_τ52 : τ52.2.1 34 = τ_147.2.1 34 := hf_τ52.2.1 34 (by decide)
            have g35_τ52 : τ52.2.1 35 = τ_147.2.1 35 := hf_τ52.2.1 35 (by decide)
            have g36_τ52 : τ52.2.1 36 = τ_147.2.1 36 := hf_τ52.2.1 36 (by decide)
            have g37_τ52 : τ52.2.1 37 = τ_147.2.1 37 := hf_τ52.2.1 37 (by decide)
            have g39_τ52 : τ52.2.1 39 = τ_147.2.1 39 := hf_τ52.2.1 39 (by decide)
            have g40_τ52 : τ52.2.1 40 = τ_147.2.1 40 := hf_τ52.2.1 40 (by decide)
            have g41_τ52 : τ52.2.1 41 = τ_147.2.1 41 := hf_τ52.2.1 41 (by decide)
            have g95_τ52 : τ52.2.1 95 = τ_147.2.1 95 := hf_τ52.2.1 95 (by decide)
            have g97_τ52 : τ52.2.1 97 = τ_147.2.1 97 := hf_τ52.2.1 97 (by decide)
            have g98_τ52 : τ52.2.1 98 = τ_147.2.1 98 := hf_τ52.2.1 98 (by decide)
            have g99_τ52 : τ52.2.1 99 = τ_147.2.1 99 := hf_τ52.2.1 99 (by decide)
            have W6 : τ52.1 6 = σ.1 6 := by first | exact w6_τ52.trans W6 | omega
            have W7 : τ52.1 7 = σ.1 7 := by first | exact w7_τ52.trans W7 | omega
            have W13 : τ52.1 13 = σ.1 13 := by first | exact w13_τ52.trans W13 | omega
            have W14 : τ52.1 14 = σ.1 14 := by first | exact w14_τ52.trans W14 | omega
            have W15 : τ52.1 15 = σ.1 15 := by first | exact w15_τ52.trans W15 | omega
            have W17 : τ52.1 17 = σ.1 17 := by first | exact w17_τ52.trans W17 | omega
            have W60 : τ52.1 60 = σ.1 60 := by first | exact w60_τ52.trans W60 | omega
            have G10 : τ52.2.1 10 = σ.2.1 10 := (g10_τ52).trans G10
            have G13 : τ52.2.1 13 = σ.2.1 13 := (g13_τ52).trans G13
            have G14 : τ52.2.1 14 = σ.2.1 14 := (g14_τ52).trans G14
            have G15 : τ52.2.1 15 = σ.2.1 15 := (g15_τ52).trans G15
            have G16 : τ52.2.1 16 = σ.2.1 16 := (g16_τ52).trans G16
            have G27 : τ52.2.1 27 = σ.2.1 27 := (g27_τ52).trans G27
            have G28 : τ52.2.1 28 = σ.2.1 28 := (g28_τ52).trans G28
            have G29 : τ52.2.1 29 = σ.2.1 29 := (g29_τ52).trans G29
            have G30 : τ52.2.1 30 = σ.2.1 30 := (g30_τ52).trans G30
            have G31 : τ52.2.1 31 = σ.2.1 31 := (g31_τ52).trans G31
            have G32 : τ52.2.1 32 = σ.2.1 32 := (g32_τ52).trans G32
            have G33 : τ52.2.1 33 = σ.2.1 33 := (g33_τ52).trans G33
            have G34 : τ52.2.1 34 = σ.2.1 34 := (g34_τ52).trans G34
            have G35 : τ52.2.1 35 = σ.2.1 35 := (g35_τ52).trans G35
            have G36 : τ52.2.1 36 = σ.2.1 36 := (g36_τ52).trans G36
            have G37 : τ52.2.1 37 = σ.2.1 37 := (g37_τ52).trans G37
            have G39 : τ52.2.1 39 = σ.2.1 39 := (g39_τ52).trans G39
            have G40 : τ52.2.1 40 = σ.2.1 40 := (g40_τ52).trans G40
            have G41 : τ52.2.1 41 = σ.2.1 41 := (g41_τ52).trans G41
            have G95 : τ52.2.1 95 = σ.2.1 95 := (g95_τ52).trans G95
            have G97 : τ52.2.1 97 = σ.2.1 97 := (g97_τ52).trans G97
            have G98 : τ52.2.1 98 = σ.2.1 98 := (g98_τ52).trans G98
            have G99 : τ52.2.1 99 = σ.2.1 99 := (g99_τ52).trans G99
            have CJ : J_all (τ52.1 7) (τ52.1 6) (τ52.1 13) (τ52.1 14) (τ52.1 15) (τ52.2.1 13) (τ52.2.1 14) (τ52.2.1 15) (τ52.2.1 16) (τ52.2.1 10) (τ52.2.1 27) (τ52.2.1 28) (τ52.2.1 29) (τ52.2.1 30) (τ52.2.1 31) (τ52.2.1 32) (τ52.2.1 33) (τ52.2.1 34) (τ52.2.1 35) (τ52.2.1 36) (τ52.2.1 37) := by rw [show (J_all (τ52.1 7) (τ52.1 6) (τ52.1 13) (τ52.1 14) (τ52.1 15) (τ52.2.1 13) (τ52.2.1 14) (τ52.2.1 15) (τ52.2.1 16) (τ52.2.1 10) (τ52.2.1 27) (τ52.2.1 28) (τ52.2.1 29) (τ52.2.1 30) (τ52.2.1 31) (τ52.2.1 32) (τ52.2.1 33) (τ52.2.1 34) (τ52.2.1 35) (τ52.2.1 36) (τ52.2.1 37)) = (J_all (τ_147.1 7) (τ_147.1 6) (τ_147.1 13) (τ_147.1 14) (τ_147.1 15) (τ_147.2.1 13) (τ_147.2.1 14) (τ_147.2.1 15) (τ_147.2.1 16) (τ_147.2.1 10) (τ_147.2.1 27) (τ_147.2.1 28) (τ_147.2.1 29) (τ_147.2.1 30) (τ_147.2.1 31) (τ_147.2.1 32) (τ_147.2.1 33) (τ_147.2.1 34) (τ_147.2.1 35) (τ_147.2.1 36) (τ_147.2.1 37)) from by rw [w6_τ52, w7_τ52, w13_τ52, w14_τ52, w15_τ52, g10_τ52, g13_τ52, g14_τ52, g15_τ52, g16_τ52, g27_τ52, g28_τ52, g29_τ52, g30_τ52, g31_τ52, g32_τ52, g33_τ52, g34_τ52, g35_τ52, g36_τ52, g37_τ52]]; exact CJ
            have BD : g_bd (τ52.1 60) (τ52.2.1 95) (τ52.2.1 98) (τ52.2.1 99) (τ52.2.1 97) (τ52.2.1 28) := by rw [show (g_bd (τ52.1 60) (τ52.2.1 95) (τ52.2.1 98) (τ52.2.1 99) (τ52.2.1 97) (τ52.2.1 28)) = (g_bd (τ_147.1 60) (τ_147.2.1 95) (τ_147.2.1 98) (τ_147.2.1 99) (τ_147.2.1 97) (τ_147.2.1 28)) from by rw [w60_τ52, g28_τ52, g95_τ52, g97_τ52, g98_τ52, g99_τ52]]; exact BD
            have A10 : ∀ j, (-1) ≤ τ52.2.1 10 j ∧ τ52.2.1 10 j ≤ 99 := fun j => hT.2 10 j
            have A13 : ∀ j, 0 ≤ τ52.2.1 13 j ∧ τ52.2.1 13 j ≤ 4 := fun j => hT.2 13 j
            have A14 : ∀ j, 0 ≤ τ52.2.1 14 j ∧ τ52.2.1 14 j ≤ 30000 := fun j => hT.2 14 j
            have A15 : ∀ j, 0 ≤ τ52.2.1 15 j ∧ τ52.2.1 15 j ≤ 999 := fun j => hT.2 15 j
            have A16 : ∀ j, (-1) ≤ τ52.2.1 16 j ∧ τ52.2.1 16 j ≤ 1499 := fun j => hT.2 16 j
            have A27 : ∀ j, 0 ≤ τ52.2.1 27 j ∧ τ52.2.1 27 j ≤ 90000 := fun j => hT.2 27 j
            have A28 : ∀ j, 0 ≤ τ52.2.1 28 j ∧ τ52.2.1 28 j ≤ 60 := fun j => hT.2 28 j
            have A29 : ∀ j, 0 ≤ τ52.2.1 29 j ∧ τ52.2.1 29 j ≤ 1499 := fun j => hT.2 29 j
            have A30 : ∀ j, 0 ≤ τ52.2.1 30 j ∧ τ52.2.1 30 j ≤ 20000 := fun j => hT.2 30 j
            have A31 : ∀ j, 0 ≤ τ52.2.1 31 j ∧ τ52.2.1 31 j ≤ 20000 := fun j => hT.2 31 j
            have A32 : ∀ j, 0 ≤ τ52.2.1 32 j ∧ τ52.2.1 32 j ≤ 999999 := fun j => hT.2 32 j
            have A33 : ∀ j, 0 ≤ τ52.2.1 33 j ∧ τ52.2.1 33 j ≤ 20000 := fun j => hT.2 33 j
            have A34 : ∀ j, 0 ≤ τ52.2.1 34 j ∧ τ52.2.1 34 j ≤ 20000 := fun j => hT.2 34 j
            have A35 : ∀ j, 0 ≤ τ52.2.1 35 j ∧ τ52.2.1 35 j ≤ 1499 := fun j => hT.2 35 j
            have A36 : ∀ j, 0 ≤ τ52.2.1 36 j ∧ τ52.2.1 36 j ≤ 20000 := fun j => hT.2 36 j
            have A37 : ∀ j, 0 ≤ τ52.2.1 37 j ∧ τ52.2.1 37 j ≤ 19999 := fun j => hT.2 37 j
            have A39 : ∀ j, 0 ≤ τ52.2.1 39 j ∧ τ52.2.1 39 j ≤ 1060 := fun j => hT.2 39 j
            have A40 : ∀ j, 0 ≤ τ52.2.1 40 j ∧ τ52.2.1 40 j ≤ 42000 := fun j => hT.2 40 j
            have A41 : ∀ j, (-2) ≤ τ52.2.1 41 j ∧ τ52.2.1 41 j ≤ 1000 := fun j => hT.2 41 j
            have A95 : ∀ j, 0 ≤ τ52.2.1 95 j ∧ τ52.2.1 95 j ≤ 1500 := fun j => hT.2 95 j
            have A97 : ∀ j, 0 ≤ τ52.2.1 97 j ∧ τ52.2.1 97 j ≤ 1060 := fun j => hT.2 97 j
            have A98 : ∀ j, 0 ≤ τ52.2.1 98 j ∧ τ52.2.1 98 j ≤ 1048576 := fun j => hT.2 98 j
            have A99 : ∀ j, (-2) ≤ τ52.2.1 99 j ∧ τ52.2.1 99 j ≤ 600 := fun j => hT.2 99 j
            have v6 : 0 ≤ τ52.1 6 ∧ τ52.1 6 ≤ 30000 := hT.1 6
            have v7 : 0 ≤ τ52.1 7 ∧ τ52.1 7 ≤ 1500 := hT.1 7
            have v13 : 0 ≤ τ52.1 13 ∧ τ52.1 13 ≤ 90000 := hT.1 13
            have v14 : 0 ≤ τ52.1 14 ∧ τ52.1 14 ≤ 20000 := hT.1 14
            have v15 : 0 ≤ τ52.1 15 ∧ τ52.1 15 ≤ 20000 := hT.1 15
            have v17 : 0 ≤ τ52.1 17 ∧ τ52.1 17 ≤ 42000 := hT.1 17
            have v19 : 0 ≤ τ52.1 19 ∧ τ52.1 19 ≤ 1000 := hT.1 19
            have v60 : 0 ≤ τ52.1 60 ∧ τ52.1 60 ≤ 1048576 := hT.1 60
            refine ⟨(⟨by (first | omega | (simp only [st_s] <;> omega) | assumption | omega | fail), by (first | omega | (simp only [st_s] <;> omega) | assumption | omega | fail)⟩ : rg (u5_147 + 1)), ?_⟩
            exact ih_147 _ _ _ (show (1048578 - (u5_147 + 1) : Int) < ((m_147 : Nat) : Int) from by ((first | omega | (simp only [st_s] <;> omega) | assumption | omega | fail))) hT (show τ52.1 6 = σ.1 6 from by first | exact W6 | omega) (show τ52.1 7 = σ.1 7 from by first | exact W7 | omega) (show τ52.1 13 = σ.1 13 from by first | exact W13 | omega) (show τ52.1 14 = σ.1 14 from by first | exact W14 | omega) (show τ52.1 15 = σ.1 15 from by first | exact W15 | omega) (show τ52.1 17 = σ.1 17 from by first | exact W17 | omega) (show τ52.1 60 = σ.1 60 from by first | exact W60 | omega) G10 G13 G14 G15 G16 G27 G28 G29 G30 G31 G32 G33 G34 G35 G36 G37 G39 G40 G41 G95 G97 G98 G99 (show 0 ≤ x51 ∧ x51 ≤ 1 from by (first | omega | (simp only [st_s] <;> omega) | assumption | omega | fail)) (show σ.2.1 98 n1 ≤ (u5_147 + 1) ∧ (u5_147 + 1) ≤ 1048577 from by (first | omega | (simp only [st_s] <;> omega) | assumption | omega | fail)) (show g_bt B (τ52.1 19) (τ52.2.1 43) from by (first | exact g_bt0 _ _ | exact q50_2 | exact q55_2 | fail)) (show 0 ≤ (τ52.1 19) ∧ (τ52.1 19) ≤ 599 from by (first | omega | (simp only [st_s] <;> omega) | assumption | omega | fail)) (show 0 ≤ σ.2.1 99 n1 ∧ σ.2.1 98 n1 + σ.2.1 99 n1 ≤ (σ.1 60) ∧ ∀ k : Int, σ.2.1 98 n1 ≤ k → k < σ.2.1 98 n1 + σ.2.1 99 n1 → σ.2.1 97 k < 1000 + σ.2.1 28 n1 from by (first | exact i147_5 | exact bd2 | fail)) (show (τ52.1 17) = (σ.1 17) from by (first | omega | (simp only [st_s] <;> omega) | assumption | omega | fail))
          ·
            intro x54 r_x54 e_x54
            have b_x54 : 0 ≤ x54 ∧ x54 ≤ 1060 := by rw [e_x54]; exact hT.2 97 _
            refine ⟨_, K_X2_composeSymbol hT (show 0 ≤ (τ_147.1 19) ∧ (τ_147.1 19) ≤ 599 from by (first | omega | (simp only [st_s] <;> omega) | assumption | omega | fail)) (show 0 ≤ x54 ∧ x54 ≤ 1060 from by (first | omega | (simp only [st_s] <;> omega) | assumption | omega | fail)) (show x54 < B from by (first | omega | (simp only [st_s] <;> omega) | assumption | omega | fail)) (show g_bt B (τ_147.1 19) (τ_147.2.1 43) from by exact i147_3), ?_⟩
            intro x56 τ57 r_x56 hn_τ57 hf_τ57 hq
            obtain ⟨hT, q55_1, q55_2, q55_3⟩ := hq
            replace q55_1 : 0 ≤ x56 ∧ x56 ≤ 1 := q55_1
            replace q55_2 : g_bt B (τ57.1 19) (τ57.2.1 43) := q55_2
            replace q55_3 : 0 ≤ (τ57.1 19) ∧ (τ57.1 19) ≤ 599 := q55_3
            have w6_τ57 : τ57.1 6 = τ_147.1 6 := hf_τ57.1 6 (by decide)
            have w7_τ57 : τ57.1 7 = τ_147.1 7 := hf_τ57.1 7 (by decide)
            have w13_τ57 : τ57.1 13 = τ_147.1 13 := hf_τ57.1 13 (by decide)
            have w14_τ57 : τ57.1 14 = τ_147.1 14 := hf_τ57.1 14 (by decide)
            have w15_τ57 : τ57.1 15 = τ_147.1 15 := hf_τ57.1 15 (by decide)
            have w17_τ57 : τ57.1 17 = τ_147.1 17 := hf_τ57.1 17 (by decide)
            have w60_τ57 : τ57.1 60 = τ_147.1 60 := hf_τ57.1 60 (by decide)
            have g10_τ57 : τ57.2.1 10 = τ_147.2.1 10 := hf_τ57.2.1 10 (by decide)
            have g13_τ57 : τ57.2.1 13 = τ_147.2.1 13 := hf_τ57.2.1 13 (by decide)
            have g14_τ57 : τ57.2.1 14 = τ_147.2.1 14 := hf_τ57.2.1 14 (by decide)
            have g15_τ57 : τ57.2.1 15 = τ_147.2.1 15 := hf_τ57.2.1 15 (by decide)
            have g16_τ57 : τ57.2.1 16 = τ_147.2.1 16 := hf_τ57.2.1 16 (by decide)
            have g27_τ57 : τ57.2.1 27 = τ_147.2.1 27 := hf_τ57.2.1 27 (by decide)
            have g28_τ57 : τ57.2.1 28 = τ_147.2.1 28 := hf_τ57.2.1 28 (by decide)
            have g29_τ57 : τ57.2.1 29 = τ_147.2.1 29 := hf_τ57.2.1 29 (by decide)
            have g30_τ57 : τ57.2.1 30 = τ_147.2.1 30 := hf_τ57.2.1 30 (by decide)
            have g31_τ57 : τ57.2.1 31 = τ_147.2.1 31 := hf_τ57.2.1 31 (by decide)
            have g32_τ57 : τ57.2.1 32 = τ_147.2.1 32 := hf_τ57.2.1 32 (by decide)
            have g33_τ57 : τ57.2.1 33 = τ_147.2.1 33 := hf_τ57.2.1 33 (by decide)
            have g34_τ57 : τ57.2.1 34 = τ_147.2.1 34 := hf_τ57.2.1 34 (by decide)
            have g35_τ57 : τ57.2.1 35 = τ_147.2.1 35 := hf_τ57.2.1 35 (by decide)
            have g36_τ57 : τ57.2.1 36 = τ_147.2.1 36 := hf_τ57.2.1 36 (by decide)
            have g37_τ57 : τ57.2.1 37 = τ_147.2.1 37 := hf_τ57.2.1 37 (by decide)
            have g39_τ57 : τ57.2.1 39 = τ_147.2.1 39 := hf_τ57.2.1 39 (by decide)
            have g40_τ57 : τ57.2.1 40 = τ_147.2.1 40 := hf_τ57.2.1 40 (by decide)
            have g41_τ57 : τ57.2.1 41 = τ_147.2.1 41 := hf_τ57.2.1 41 (by decide)
            have g95_τ57 : τ57.2.1 95 = τ_147.2.1 95 := hf_τ57.2.1 95 (by decide)
            have g97_τ57 : τ57.2.1 97 = τ_147.2.1 97 := hf_τ57.2.1 97 (by decide)
            have g98_τ57 : τ57.2.1 98 = τ_147.2.1 98 := hf_τ57.2.1 98 (by decide)
            have g99_τ57 : τ57.2.1 99 = τ_147.2.1 99 := hf_τ57.2.1 99 (by decide)
            have W6 : τ57.1 6 = σ.1 6 := by first | exact w6_τ57.trans W6 | omega
            have W7 : τ57.1 7 = σ.1 7 := by first | exact w7_τ57.trans W7 | omega
            have W13 : τ57.1 13 = σ.1 13 := by first | exact w13_τ57.trans W13 | omega
            have W14 : τ57.1 14 = σ.1 14 := by first | exact w14_τ57.trans W14 | omega
            have W15 : τ57.1 15 = σ.1 15 := by first | exact w15_τ57.trans W15 | omega
            have W17 : τ57.1 17 = σ.1 17 := by first | exact w17_τ57.trans W17 | omega
            have W60 : τ57.1 60 = σ.1 60 := by first | exact w60_τ57.trans W60 | omega
            have G10 : τ57.2.1 10 = σ.2.1 10 := (g10_τ57).trans G10
            have G13 : τ57.2.1 13 = σ.2.1 13 := (g13_τ57).trans G13
            have G14 : τ57.2.1 14 = σ.2.1 14 := (g14_τ57).trans G14
            have G15 : τ57.2.1 15 = σ.2.1 15 := (g15_τ57).trans G15
            have G16 : τ57.2.1 16 = σ.2.1 16 := (g16_τ57).trans G16
            have G27 : τ57.2.1 27 = σ.2.1 27 := (g27_τ57).trans G27
            have G28 : τ57.2.1 28 = σ.2.1 28 := (g28_τ57).trans G28
            have G29 : τ57.2.1 29 = σ.2.1 29 := (g29_τ57).trans G29
            have G30 : τ57.2.1 30 = σ.2.1 30 := (g30_τ57).trans G30
            have G31 : τ57.2.1 31 = σ.2.1 31 := (g31_τ57).trans G31
            have G32 : τ57.2.1 32 = σ.2.1 32 := (g32_τ57).trans G32
            have G33 : τ57.2.1 33 = σ.2.1 33 := (g33_τ57).trans G33
            have G34 : τ57.2.1 34 = σ.2.1 34 := (g34_τ57).trans G34
            have G35 : τ57.2.1 35 = σ.2.1 35 := (g35_τ57).trans G35
            have G36 : τ57.2.1 36 = σ.2.1 36 := (g36_τ57).trans G36
            have G37 : τ57.2.1 37 = σ.2.1 37 := (g37_τ57).trans G37
            have G39 : τ57.2.1 39 = σ.2.1 39 := (g39_τ57).trans G39
            have G40 : τ57.2.1 40 = σ.2.1 40 := (g40_τ57).trans G40
            have G41 : τ57.2.1 41 = σ.2.1 41 := (g41_τ57).trans G41
            have G95 : τ57.2.1 95 = σ.2.1 95 := (g95_τ57).trans G95
            have G97 : τ57.2.1 97 = σ.2.1 97 := (g97_τ57).trans G97
            have G98 : τ57.2.1 98 = σ.2.1 98 := (g98_τ57).trans G98
            have G99 : τ57.2.1 99 = σ.2.1 99 := (g99_τ57).trans G99
            have CJ : J_all (τ57.1 7) (τ57.1 6) (τ57.1 13) (τ57.1 14) (τ57.1 15) (τ57.2.1 13) (τ57.2.1 14) (τ57.2.1 15) (τ57.2.1 16) (τ57.2.1 10) (τ57.2.1 27) (τ57.2.1 28) (τ57.2.1 29) (τ57.2.1 30) (τ57.2.1 31) (τ57.2.1 32) (τ57.2.1 33) (τ57.2.1 34) (τ57.2.1 35) (τ57.2.1 36) (τ57.2.1 37) := by rw [show (J_all (τ57.1 7) (τ57.1 6) (τ57.1 13) (τ57.1 14) (τ57.1 15) (τ57.2.1 13) (τ57.2.1 14) (τ57.2.1 15) (τ57.2.1 16) (τ57.2.1 10) (τ57.2.1 27) (τ57.2.1 28) (τ57.2.1 29) (τ57.2.1 30) (τ57.2.1 31) (τ57.2.1 32) (τ57.2.1 33) (τ57.2.1 34) (τ57.2.1 35) (τ57.2.1 36) (τ57.2.1 37)) = (J_all (τ_147.1 7) (τ_147.1 6) (τ_147.1 13) (τ_147.1 14) (τ_147.1 15) (τ_147.2.1 13) (τ_147.2.1 14) (τ_147.2.1 15) (τ_147.2.1 16) (τ_147.2.1 10) (τ_147.2.1 27) (τ_147.2.1 28) (τ_147.2.1 29) (τ_147.2.1 30) (τ_147.2.1 31) (τ_147.2.1 32) (τ_147.2.1 33) (τ_147.2.1 34) (τ_147.2.1 35) (τ_147.2.1 36) (τ_147.2.1 37)) from by rw [w6_τ57, w7_τ57, w13_τ57, w14_τ57, w15_τ57, g10_τ57, g13_τ57, g14_τ57, g15_τ57, g16_τ57, g27_τ57, g28_τ57, g29_τ57, g30_τ57, g31_τ57, g32_τ57, g33_τ57, g34_τ57, g35_τ57, g36_τ57, g37_τ57]]; exact CJ
            have BD : g_bd (τ57.1 60) (τ57.2.1 95) (τ57.2.1 98) (τ57.2.1 99) (τ57.2.1 97) (τ57.2.1 28) := by rw [show (g_bd (τ57.1 60) (τ57.2.1 95) (τ57.2.1 98) (τ57.2.1 99) (τ57.2.1 97) (τ57.2.1 28)) = (g_bd (τ_147.1 60) (τ_147.2.1 95) (τ_147.2.1 98) (τ_147.2.1 99) (τ_147.2.1 97) (τ_147.2.1 28)) from by rw [w60_τ57, g28_τ57, g95_τ57, g97_τ57, g98_τ57, g99_τ57]]; exact BD
            have A10 : ∀ j, (-1) ≤ τ57.2.1 10 j ∧ τ57.2.1 10 j ≤ 99 := fun j => hT.2 10 j
            have A13 : ∀ j, 0 ≤ τ57.2.1 13 j ∧ τ57.2.1 13 j ≤ 4 := fun j => hT.2 13 j
            have A14 : ∀ j, 0 ≤ τ57.2.1 14 j ∧ τ57.2.1 14 j ≤ 30000 := fun j => hT.2 14 j
            have A15 : ∀ j, 0 ≤ τ57.2.1 15 j ∧ τ57.2.1 15 j ≤ 999 := fun j => hT.2 15 j
            have A16 : ∀ j, (-1) ≤ τ57.2.1 16 j ∧ τ57.2.1 16 j ≤ 1499 := fun j => hT.2 16 j
            have A27 : ∀ j, 0 ≤ τ57.2.1 27 j ∧ τ57.2.1 27 j ≤ 90000 := fun j => hT.2 27 j
            have A28 : ∀ j, 0 ≤ τ57.2.1 28 j ∧ τ57.2.1 28 j ≤ 60 := fun j => hT.2 28 j
            have A29 : ∀ j, 0 ≤ τ57.2.1 29 j ∧ τ57.2.1 29 j ≤ 1499 := fun j => hT.2 29 j
            have A30 : ∀ j, 0 ≤ τ57.2.1 30 j ∧ τ57.2.1 30 j ≤ 20000 := fun j => hT.2 30 j
            have A31 : ∀ j, 0 ≤ τ57.2.1 31 j ∧ τ57.2.1 31 j ≤ 20000 := fun j => hT.2 31 j
            have A32 : ∀ j, 0 ≤ τ57.2.1 32 j ∧ τ57.2.1 32 j ≤ 999999 := fun j => hT.2 32 j
            have A33 : ∀ j, 0 ≤ τ57.2.1 33 j ∧ τ57.2.1 33 j ≤ 20000 := fun j => hT.2 33 j
            have A34 : ∀ j, 0 ≤ τ57.2.1 34 j ∧ τ57.2.1 34 j ≤ 20000 := fun j => hT.2 34 j
            have A35 : ∀ j, 0 ≤ τ57.2.1 35 j ∧ τ57.2.1 35 j ≤ 1499 := fun j => hT.2 35 j
            have A36 : ∀ j, 0 ≤ τ57.2.1 36 j ∧ τ57.2.1 36 j ≤ 20000 := fun j => hT.2 36 j
            have A37 : ∀ j, 0 ≤ τ57.2.1 37 j ∧ τ57.2.1 37 j ≤ 19999 := fun j => hT.2 37 j
            have A39 : ∀ j, 0 ≤ τ57.2.1 39 j ∧ τ57.2.1 39 j ≤ 1060 := fun j => hT.2 39 j
            have A40 : ∀ j, 0 ≤ τ57.2.1 40 j ∧ τ57.2.1 40 j ≤ 42000 := fun j => hT.2 40 j
            have A41 : ∀ j, (-2) ≤ τ57.2.1 41 j ∧ τ57.2.1 41 j ≤ 1000 := fun j => hT.2 41 j
            have A95 : ∀ j, 0 ≤ τ57.2.1 95 j ∧ τ57.2.1 95 j ≤ 1500 := fun j => hT.2 95 j
            have A97 : ∀ j, 0 ≤ τ57.2.1 97 j ∧ τ57.2.1 97 j ≤ 1060 := fun j => hT.2 97 j
            have A98 : ∀ j, 0 ≤ τ57.2.1 98 j ∧ τ57.2.1 98 j ≤ 1048576 := fun j => hT.2 98 j
            have A99 : ∀ j, (-2) ≤ τ57.2.1 99 j ∧ τ57.2.1 99 j ≤ 600 := fun j => hT.2 99 j
            have v6 : 0 ≤ τ57.1 6 ∧ τ57.1 6 ≤ 30000 := hT.1 6
            have v7 : 0 ≤ τ57.1 7 ∧ τ57.1 7 ≤ 1500 := hT.1 7
            have v13 : 0 ≤ τ57.1 13 ∧ τ57.1 13 ≤ 90000 := hT.1 13
            have v14 : 0 ≤ τ57.1 14 ∧ τ57.1 14 ≤ 20000 := hT.1 14
            have v15 : 0 ≤ τ57.1 15 ∧ τ57.1 15 ≤ 20000 := hT.1 15
            have v17 : 0 ≤ τ57.1 17 ∧ τ57.1 17 ≤ 42000 := hT.1 17
            have v19 : 0 ≤ τ57.1 19 ∧ τ57.1 19 ≤ 1000 := hT.1 19
            have v60 : 0 ≤ τ57.1 60 ∧ τ57.1 60 ≤ 1048576 := hT.1 60
            refine ⟨(⟨by (first | omega | (simp only [st_s] <;> omega) | assumption | omega | fail), by (first | omega | (simp only [st_s] <;> omega) | assumption | omega | fail)⟩ : rg (u5_147 + 1)), ?_⟩
            exact ih_147 _ _ _ (show (1048578 - (u5_147 + 1) : Int) < ((m_147 : Nat) : Int) from by ((first | omega | (simp only [st_s] <;> omega) | assumption | omega | fail))) hT (show τ57.1 6 = σ.1 6 from by first | exact W6 | omega) (show τ57.1 7 = σ.1 7 from by first | exact W7 | omega) (show τ57.1 13 = σ.1 13 from by first | exact W13 | omega) (show τ57.1 14 = σ.1 14 from by first | exact W14 | omega) (show τ57.1 15 = σ.1 15 from by first | exact W15 | omega) (show τ57.1 17 = σ.1 17 from by first | exact W17 | omega) (show τ57.1 60 = σ.1 60 from by first | exact W60 | omega) G10 G13 G14 G15 G16 G27 G28 G29 G30 G31 G32 G33 G34 G35 G36 G37 G39 G40 G41 G95 G97 G98 G99 (show 0 ≤ x56 ∧ x56 ≤ 1 from by (first | omega | (simp only [st_s] <;> omega) | assumption | omega | fail)) (show σ.2.1 98 n1 ≤ (u5_147 + 1) ∧ (u5_147 + 1) ≤ 1048577 from by (first | omega | (simp only [st_s] <;> omega) | assumption | omega | fail)) (show g_bt B (τ57.1 19) (τ57.2.1 43) from by (first | exact g_bt0 _ _ | exact q50_2 | exact q55_2 | fail)) (show 0 ≤ (τ57.1 19) ∧ (τ57.1 19) ≤ 599 from by (first | omega | (simp only [st_s] <;> omega) | assumption | omega | fail)) (show 0 ≤ σ.2.1 99 n1 ∧ σ.2.1 98 n1 + σ.2.1 99 n1 ≤ (σ.1 60) ∧ ∀ k : Int, σ.2.1 98 n1 ≤ k → k < σ.2.1 98 n1 + σ.2.1 99 n1 → σ.2.1 97 k < 1000 + σ.2.1 28 n1 from by (first | exact i147_5 | exact bd2 | fail)) (show (τ57.1 17) = (σ.1 17) from by (first | omega | (simp only [st_s] <;> omega) | assumption | omega | fail))
  replace hT := cT_v (i := 19) hT (show (0 : Int) ≤ 0 ∧ 0 ≤ 1000 from by (first | omega | (simp only [st_s] <;> omega) | assumption | omega | fail))
  refine ⟨(show 0 ≤ n1 ∧ n1 < 1500 from by (first | omega | (simp only [st_s] <;> omega) | assumption | omega | fail)), ?_⟩
  intro x2 r_x2 e_x2
  have b_x2 : 0 ≤ x2 ∧ x2 ≤ 1500 := by rw [e_x2]; exact hT.2 95 _
  refine ⟨fun c3 => ?_, fun c3 => ?_⟩
  ·
    refine ⟨(show 0 ≤ n1 ∧ n1 < 1501 from by (first | omega | (simp only [st_s] <;> omega) | assumption | omega | fail)), ?_⟩
    intro x5 r_x5 e_x5
    have b_x5 : 0 ≤ x5 ∧ x5 ≤ 30000 := by rw [e_x5]; exact hT.2 14 _
    refine ⟨(⟨by (first | omega | (simp only [st_s] <;> omega) | assumption | omega | fail), by (first | omega | (simp only [st_s] <;> omega) | assumption | omega | fail)⟩ : rg (x5 + 1)), ?_⟩
    exact l_43 ((30001 - (x5 + 1) : Int).toNat + 1) _ _ _ (show (30001 - (x5 + 1) : Int) < (((30001 - (x5 + 1) : Int).toNat + 1 : Nat) : Int) from by ((first | omega | (simp only [st_s] <;> omega) | assumption | omega | fail))) hT (show σ.1 6 = σ.1 6 from by first | exact W6 | omega) (show σ.1 7 = σ.1 7 from by first | exact W7 | omega) (show σ.1 13 = σ.1 13 from by first | exact W13 | omega) (show σ.1 14 = σ.1 14 from by first | exact W14 | omega) (show σ.1 15 = σ.1 15 from by first | exact W15 | omega) (show σ.1 17 = σ.1 17 from by first | exact W17 | omega) (show σ.1 60 = σ.1 60 from by first | exact W60 | omega) G10 G13 G14 G15 G16 G27 G28 G29 G30 G31 G32 G33 G34 G35 G36 G37 G39 G40 G41 G95 G97 G98 G99 (show 0 ≤ 1 ∧ 1 ≤ 1 from by (first | omega | (simp only [st_s] <;> omega) | assumption | omega | fail)) (show σ.2.1 14 n1 ≤ (x5 + 1) ∧ (x5 + 1) ≤ 30000 from by (first | omega | (simp only [st_s] <;> omega) | assumption | omega | fail)) (show g_bt B ((0 : Int)) (σ.2.1 43) from by (first | exact g_bt0 _ _ | exact q28_2 | exact q33_2 | fail)) (show 0 ≤ ((0 : Int)) ∧ ((0 : Int)) ≤ 599 from by (first | omega | (simp only [st_s] <;> omega) | assumption | omega | fail)) (show (σ.1 17) = (σ.1 17) from by (first | omega | (simp only [st_s] <;> omega) | assumption | omega | fail))
  ·
    intro x7 r_x7 e_x7
    have b_x7 : 0 ≤ x7 ∧ x7 ≤ 1500 := by rw [e_x7]; exact hT.2 95 _
    refine ⟨fun c8 => ?_, fun c8 => ?_⟩
    ·
      intro x9 r_x9 e_x9
      have b_x9 : (-2) ≤ x9 ∧ x9 ≤ 600 := by rw [e_x9]; exact hT.2 99 _
      refine ⟨fun c10 => ?_, fun c10 => ?_⟩
      ·
        intro x11 r_x11 e_x11
        have b_x11 : 0 ≤ x11 ∧ x11 ≤ 1048576 := by rw [e_x11]; exact hT.2 98 _
        have bd2 := (bd (by rw [← e_x2]; assumption)).resolve_left (by rw [← e_x9]; assumption)
        exact l_147 ((1048578 - x11 : Int).toNat + 1) _ _ _ (show (1048578 - x11 : Int) < (((1048578 - x11 : Int).toNat + 1 : Nat) : Int) from by ((first | omega | (simp only [st_s] <;> omega) | assumption | omega | fail))) hT (show σ.1 6 = σ.1 6 from by first | exact W6 | omega) (show σ.1 7 = σ.1 7 from by first | exact W7 | omega) (show σ.1 13 = σ.1 13 from by first | exact W13 | omega) (show σ.1 14 = σ.1 14 from by first | exact W14 | omega) (show σ.1 15 = σ.1 15 from by first | exact W15 | omega) (show σ.1 17 = σ.1 17 from by first | exact W17 | omega) (show σ.1 60 = σ.1 60 from by first | exact W60 | omega) G10 G13 G14 G15 G16 G27 G28 G29 G30 G31 G32 G33 G34 G35 G36 G37 G39 G40 G41 G95 G97 G98 G99 (show 0 ≤ 1 ∧ 1 ≤ 1 from by (first | omega | (simp only [st_s] <;> omega) | assumption | omega | fail)) (show σ.2.1 98 n1 ≤ x11 ∧ x11 ≤ 1048577 from by (first | omega | (simp only [st_s] <;> omega) | assumption | omega | fail)) (show g_bt B ((0 : Int)) (σ.2.1 43) from by (first | exact g_bt0 _ _ | exact q50_2 | exact q55_2 | fail)) (show 0 ≤ ((0 : Int)) ∧ ((0 : Int)) ≤ 599 from by (first | omega | (simp only [st_s] <;> omega) | assumption | omega | fail)) (show 0 ≤ σ.2.1 99 n1 ∧ σ.2.1 98 n1 + σ.2.1 99 n1 ≤ (σ.1 60) ∧ ∀ k : Int, σ.2.1 98 n1 ≤ k → k < σ.2.1 98 n1 + σ.2.1 99 n1 → σ.2.1 97 k < 1000 + σ.2.1 28 n1 from by (first | exact i147_5 | exact bd2 | fail)) (show (σ.1 17) = (σ.1 17) from by (first | omega | (simp only [st_s] <;> omega) | assumption | omega | fail))
      ·
        exact ⟨hT, (show 0 ≤ 0 ∧ 0 ≤ 1 from by (first | omega | (simp only [st_s] <;> omega) | assumption | omega | fail)), (show g_bt B ((0 : Int)) (σ.2.1 43) from by (first | exact i43_3 | exact i147_3 | exact g_bt0 _ _ | fail)), (show 0 ≤ ((0 : Int)) ∧ ((0 : Int)) ≤ 599 from by (first | omega | (simp only [st_s] <;> omega) | assumption | omega | fail))⟩
    ·
      refine ⟨(show 0 ≤ n1 ∧ n1 < 1501 from by (first | omega | (simp only [st_s] <;> omega) | assumption | omega | fail)), ?_⟩
      intro x13 r_x13 e_x13
      have b_x13 : 0 ≤ x13 ∧ x13 ≤ 30000 := by rw [e_x13]; exact hT.2 14 _
      refine ⟨(⟨by (first | omega | (simp only [st_s] <;> omega) | assumption | omega | fail), by (first | omega | (simp only [st_s] <;> omega) | assumption | omega | fail)⟩ : rg (x13 + 1)), ?_⟩
      exact l_43 ((30001 - (x13 + 1) : Int).toNat + 1) _ _ _ (show (30001 - (x13 + 1) : Int) < (((30001 - (x13 + 1) : Int).toNat + 1 : Nat) : Int) from by ((first | omega | (simp only [st_s] <;> omega) | assumption | omega | fail))) hT (show σ.1 6 = σ.1 6 from by first | exact W6 | omega) (show σ.1 7 = σ.1 7 from by first | exact W7 | omega) (show σ.1 13 = σ.1 13 from by first | exact W13 | omega) (show σ.1 14 = σ.1 14 from by first | exact W14 | omega) (show σ.1 15 = σ.1 15 from by first | exact W15 | omega) (show σ.1 17 = σ.1 17 from by first | exact W17 | omega) (show σ.1 60 = σ.1 60 from by first | exact W60 | omega) G10 G13 G14 G15 G16 G27 G28 G29 G30 G31 G32 G33 G34 G35 G36 G37 G39 G40 G41 G95 G97 G98 G99 (show 0 ≤ 1 ∧ 1 ≤ 1 from by (first | omega | (simp only [st_s] <;> omega) | assumption | omega | fail)) (show σ.2.1 14 n1 ≤ (x13 + 1) ∧ (x13 + 1) ≤ 30000 from by (first | omega | (simp only [st_s] <;> omega) | assumption | omega | fail)) (show g_bt B ((0 : Int)) (σ.2.1 43) from by (first | exact g_bt0 _ _ | exact q28_2 | exact q33_2 | fail)) (show 0 ≤ ((0 : Int)) ∧ ((0 : Int)) ≤ 599 from by (first | omega | (simp only [st_s] <;> omega) | assumption | omega | fail)) (show (σ.1 17) = (σ.1 17) from by (first | omega | (simp only [st_s] <;> omega) | assumption | omega | fail))
set_option maxHeartbeats 8000000 in
theorem K_X2_evaluate {lb : Nat} {n1 : Int} {n2 : Int} {n3 : Int} {B : Int} {σ : S0} (hT : c_T σ) (p1 : 0 ≤ n1 ∧ n1 ≤ n2) (p2 : n2 ≤ (σ.1 54)) (p3 : J_all (σ.1 7) (σ.1 6) (σ.1 13) (σ.1 14) (σ.1 15) (σ.2.1 13) (σ.2.1 14) (σ.2.1 15) (σ.2.1 16) (σ.2.1 10) (σ.2.1 27) (σ.2.1 28) (σ.2.1 29) (σ.2.1 30) (σ.2.1 31) (σ.2.1 32) (σ.2.1 33) (σ.2.1 34) (σ.2.1 35) (σ.2.1 36) (σ.2.1 37)) (p4 : g_tre (σ.1 7) (σ.1 54) (σ.2.1 13) (σ.2.1 14) (σ.2.1 27) (σ.2.1 28) (σ.2.1 29) (σ.2.1 84)) (p5 : g_bd (σ.1 60) (σ.2.1 95) (σ.2.1 98) (σ.2.1 99) (σ.2.1 97) (σ.2.1 28)) (p6 : (σ.1 60) ≤ (lb : Int)) (p7 : 1000 ≤ B) (p8 : ∀ v, σ.2.1 100 v < B) : W_X2_evaluate lb n1 n2 n3 σ (fun (x : Int) (τ : S0) => (c_T τ) ∧ (0 ≤ x ∧ x ≤ 1) ∧ (¬ x = 0 → g_ev B 1 (τ.1 17) (τ.2.1 40) (τ.2.1 41) (τ.2.1 39) ∧ 0 ≤ τ.2.1 41 0)) := by
  have A10 : ∀ j, (-1) ≤ σ.2.1 10 j ∧ σ.2.1 10 j ≤ 99 := fun j => hT.2 10 j
  have A13 : ∀ j, 0 ≤ σ.2.1 13 j ∧ σ.2.1 13 j ≤ 4 := fun j => hT.2 13 j
  have A14 : ∀ j, 0 ≤ σ.2.1 14 j ∧ σ.2.1 14 j ≤ 30000 := fun j => hT.2 14 j
  have A15 : ∀ j, 0 ≤ σ.2.1 15 j ∧ σ.2.1 15 j ≤ 999 := fun j => hT.2 15 j
  have A16 : ∀ j, (-1) ≤ σ.2.1 16 j ∧ σ.2.1 16 j ≤ 1499 := fun j => hT.2 16 j
  have A27 : ∀ j, 0 ≤ σ.2.1 27 j ∧ σ.2.1 27 j ≤ 90000 := fun j => hT.2 27 j
  have A28 : ∀ j, 0 ≤ σ.2.1 28 j ∧ σ.2.1 28 j ≤ 60 := fun j => hT.2 28 j
  have A29 : ∀ j, 0 ≤ σ.2.1 29 j ∧ σ.2.1 29 j ≤ 1499 := fun j => hT.2 29 j
  have A30 : ∀ j, 0 ≤ σ.2.1 30 j ∧ σ.2.1 30 j ≤ 20000 := fun j => hT.2 30 j
  have A31 : ∀ j, 0 ≤ σ.2.1 31 j ∧ σ.2.1 31 j ≤ 20000 := fun j => hT.2 31 j
  have A32 : ∀ j, 0 ≤ σ.2.1 32 j ∧ σ.2.1 32 j ≤ 999999 := fun j => hT.2 32 j
  have A33 : ∀ j, 0 ≤ σ.2.1 33 j ∧ σ.2.1 33 j ≤ 20000 := fun j => hT.2 33 j
  have A34 : ∀ j, 0 ≤ σ.2.1 34 j ∧ σ.2.1 34 j ≤ 20000 := fun j => hT.2 34 j
  have A35 : ∀ j, 0 ≤ σ.2.1 35 j ∧ σ.2.1 35 j ≤ 1499 := fun j => hT.2 35 j
  have A36 : ∀ j, 0 ≤ σ.2.1 36 j ∧ σ.2.1 36 j ≤ 20000 := fun j => hT.2 36 j
  have A37 : ∀ j, 0 ≤ σ.2.1 37 j ∧ σ.2.1 37 j ≤ 19999 := fun j => hT.2 37 j
  have A39 : ∀ j, 0 ≤ σ.2.1 39 j ∧ σ.2.1 39 j ≤ 1060 := fun j => hT.2 39 j
  have A40 : ∀ j, 0 ≤ σ.2.1 40 j ∧ σ.2.1 40 j ≤ 42000 := fun j => hT.2 40 j
  have A41 : ∀ j, (-2) ≤ σ.2.1 41 j ∧ σ.2.1 41 j ≤ 1000 := fun j => hT.2 41 j
  have A43 : ∀ j, 0 ≤ σ.2.1 43 j ∧ σ.2.1 43 j ≤ 1060 := fun j => hT.2 43 j
  have A84 : ∀ j, 0 ≤ σ.2.1 84 j ∧ σ.2.1 84 j ≤ 1499 := fun j => hT.2 84 j
  have A95 : ∀ j, 0 ≤ σ.2.1 95 j ∧ σ.2.1 95 j ≤ 1500 := fun j => hT.2 95 j
  have A97 : ∀ j, 0 ≤ σ.2.1 97 j ∧ σ.2.1 97 j ≤ 1060 := fun j => hT.2 97 j
  have A98 : ∀ j, 0 ≤ σ.2.1 98 j ∧ σ.2.1 98 j ≤ 1048576 := fun j => hT.2 98 j
  have A99 : ∀ j, (-2) ≤ σ.2.1 99 j ∧ σ.2.1 99 j ≤ 600 := fun j => hT.2 99 j
  have A100 : ∀ j, 0 ≤ σ.2.1 100 j ∧ σ.2.1 100 j ≤ 1060 := fun j => hT.2 100 j
  have v6 : 0 ≤ σ.1 6 ∧ σ.1 6 ≤ 30000 := hT.1 6
  have v7 : 0 ≤ σ.1 7 ∧ σ.1 7 ≤ 1500 := hT.1 7
  have v13 : 0 ≤ σ.1 13 ∧ σ.1 13 ≤ 90000 := hT.1 13
  have v14 : 0 ≤ σ.1 14 ∧ σ.1 14 ≤ 20000 := hT.1 14
  have v15 : 0 ≤ σ.1 15 ∧ σ.1 15 ≤ 20000 := hT.1 15
  have v17 : 0 ≤ σ.1 17 ∧ σ.1 17 ≤ 42000 := hT.1 17
  have v18 : 0 ≤ σ.1 18 ∧ σ.1 18 ≤ 42000 := hT.1 18
  have v19 : 0 ≤ σ.1 19 ∧ σ.1 19 ≤ 1000 := hT.1 19
  have v54 : 0 ≤ σ.1 54 ∧ σ.1 54 ≤ 12000 := hT.1 54
  have v60 : 0 ≤ σ.1 60 ∧ σ.1 60 ≤ 1048576 := hT.1 60
  have W6 : σ.1 6 = σ.1 6 := rfl
  have W7 : σ.1 7 = σ.1 7 := rfl
  have W13 : σ.1 13 = σ.1 13 := rfl
  have W14 : σ.1 14 = σ.1 14 := rfl
  have W15 : σ.1 15 = σ.1 15 := rfl
  have W54 : σ.1 54 = σ.1 54 := rfl
  have W60 : σ.1 60 = σ.1 60 := rfl
  have G10 : σ.2.1 10 = σ.2.1 10 := rfl
  have G13 : σ.2.1 13 = σ.2.1 13 := rfl
  have G14 : σ.2.1 14 = σ.2.1 14 := rfl
  have G15 : σ.2.1 15 = σ.2.1 15 := rfl
  have G16 : σ.2.1 16 = σ.2.1 16 := rfl
  have G27 : σ.2.1 27 = σ.2.1 27 := rfl
  have G28 : σ.2.1 28 = σ.2.1 28 := rfl
  have G29 : σ.2.1 29 = σ.2.1 29 := rfl
  have G30 : σ.2.1 30 = σ.2.1 30 := rfl
  have G31 : σ.2.1 31 = σ.2.1 31 := rfl
  have G32 : σ.2.1 32 = σ.2.1 32 := rfl
  have G33 : σ.2.1 33 = σ.2.1 33 := rfl
  have G34 : σ.2.1 34 = σ.2.1 34 := rfl
  have G35 : σ.2.1 35 = σ.2.1 35 := rfl
  have G36 : σ.2.1 36 = σ.2.1 36 := rfl
  have G37 : σ.2.1 37 = σ.2.1 37 := rfl
  have G84 : σ.2.1 84 = σ.2.1 84 := rfl
  have G95 : σ.2.1 95 = σ.2.1 95 := rfl
  have G97 : σ.2.1 97 = σ.2.1 97 := rfl
  have G98 : σ.2.1 98 = σ.2.1 98 := rfl
  have G99 : σ.2.1 99 = σ.2.1 99 := rfl
  have G100 : σ.2.1 100 = σ.2.1 100 := rfl
  intro P15 P90 P170 P173 P193 P237 h15 h90 h170 h173 h193 h237
  have tr1 := p4.1
  have nds := p4.2.1
  have s13 := A13
  have s14 := A14
  have s28 := A28
  have s15 := A15
  have s100 := A100
  have CJ : J_all (σ.1 7) (σ.1 6) (σ.1 13) (σ.1 14) (σ.1 15) (σ.2.1 13) (σ.2.1 14) (σ.2.1 15) (σ.2.1 16) (σ.2.1 10) (σ.2.1 27) (σ.2.1 28) (σ.2.1 29) (σ.2.1 30) (σ.2.1 31) (σ.2.1 32) (σ.2.1 33) (σ.2.1 34) (σ.2.1 35) (σ.2.1 36) (σ.2.1 37) := p3
  have TRE : g_tre (σ.1 7) (σ.1 54) (σ.2.1 13) (σ.2.1 14) (σ.2.1 27) (σ.2.1 28) (σ.2.1 29) (σ.2.1 84) := p4
  have BD : g_bd (σ.1 60) (σ.2.1 95) (σ.2.1 98) (σ.2.1 99) (σ.2.1 97) (σ.2.1 28) := p5
  have BD_0 := BD
  have CJ_0 := CJ
  have TRE_0 := TRE
  have l_15 : ∀ (m_15 : Nat) (u4_15 : Int) (u5_15 : Int) (τ_15 : S0), u5_15 + 2 < (m_15 : Int) → (c_T τ_15) → (τ_15.1 6 = σ.1 6) → (τ_15.1 7 = σ.1 7) → (τ_15.1 13 = σ.1 13) → (τ_15.1 14 = σ.1 14) → (τ_15.1 15 = σ.1 15) → (τ_15.1 54 = σ.1 54) → (τ_15.1 60 = σ.1 60) → (τ_15.2.1 10 = σ.2.1 10) → (τ_15.2.1 13 = σ.2.1 13) → (τ_15.2.1 14 = σ.2.1 14) → (τ_15.2.1 15 = σ.2.1 15) → (τ_15.2.1 16 = σ.2.1 16) → (τ_15.2.1 27 = σ.2.1 27) → (τ_15.2.1 28 = σ.2.1 28) → (τ_15.2.1 29 = σ.2.1 29) → (τ_15.2.1 30 = σ.2.1 30) → (τ_15.2.1 31 = σ.2.1 31) → (τ_15.2.1 32 = σ.2.1 32) → (τ_15.2.1 33 = σ.2.1 33) → (τ_15.2.1 34 = σ.2.1 34) → (τ_15.2.1 35 = σ.2.1 35) → (τ_15.2.1 36 = σ.2.1 36) → (τ_15.2.1 37 = σ.2.1 37) → (τ_15.2.1 84 = σ.2.1 84) → (τ_15.2.1 95 = σ.2.1 95) → (τ_15.2.1 97 = σ.2.1 97) → (τ_15.2.1 98 = σ.2.1 98) → (τ_15.2.1 99 = σ.2.1 99) → (τ_15.2.1 100 = σ.2.1 100) → (0 ≤ u4_15 ∧ u4_15 ≤ n2 - 1 - u5_15) → (-1 ≤ u5_15 ∧ u5_15 < n2) → (g_ev B u4_15 (τ_15.1 17) (τ_15.2.1 40) (τ_15.2.1 41) (τ_15.2.1 39)) → ((τ_15.1 18) = 42000) → P15 n1 n3 u4_15 u5_15 τ_15 := by
    intro m_15
    induction m_15 with
    | zero =>
      intro u4_15 u5_15 τ_15 hm hT W6 W7 W13 W14 W15 W54 W60 G10 G13 G14 G15 G16 G27 G28 G29 G30 G31 G32 G33 G34 G35 G36 G37 G84 G95 G97 G98 G99 G100 i15_1 i15_2 i15_3 i15_4
      have A10 : ∀ j, (-1) ≤ τ_15.2.1 10 j ∧ τ_15.2.1 10 j ≤ 99 := fun j => hT.2 10 j
      have A13 : ∀ j, 0 ≤ τ_15.2.1 13 j ∧ τ_15.2.1 13 j ≤ 4 := fun j => hT.2 13 j
      have A14 : ∀ j, 0 ≤ τ_15.2.1 14 j ∧ τ_15.2.1 14 j ≤ 30000 := fun j => hT.2 14 j
      have A15 : ∀ j, 0 ≤ τ_15.2.1 15 j ∧ τ_15.2.1 15 j ≤ 999 := fun j => hT.2 15 j
      have A16 : ∀ j, (-1) ≤ τ_15.2.1 16 j ∧ τ_15.2.1 16 j ≤ 1499 := fun j => hT.2 16 j
      have A27 : ∀ j, 0 ≤ τ_15.2.1 27 j ∧ τ_15.2.1 27 j ≤ 90000 := fun j => hT.2 27 j
      have A28 : ∀ j, 0 ≤ τ_15.2.1 28 j ∧ τ_15.2.1 28 j ≤ 60 := fun j => hT.2 28 j
      have A29 : ∀ j, 0 ≤ τ_15.2.1 29 j ∧ τ_15.2.1 29 j ≤ 1499 := fun j => hT.2 29 j
      have A30 : ∀ j, 0 ≤ τ_15.2.1 30 j ∧ τ_15.2.1 30 j ≤ 20000 := fun j => hT.2 30 j
      have A31 : ∀ j, 0 ≤ τ_15.2.1 31 j ∧ τ_15.2.1 31 j ≤ 20000 := fun j => hT.2 31 j
      have A32 : ∀ j, 0 ≤ τ_15.2.1 32 j ∧ τ_15.2.1 32 j ≤ 999999 := fun j => hT.2 32 j
      have A33 : ∀ j, 0 ≤ τ_15.2.1 33 j ∧ τ_15.2.1 33 j ≤ 20000 := fun j => hT.2 33 j
      have A34 : ∀ j, 0 ≤ τ_15.2.1 34 j ∧ τ_15.2.1 34 j ≤ 20000 := fun j => hT.2 34 j
      have A35 : ∀ j, 0 ≤ τ_15.2.1 35 j ∧ τ_15.2.1 35 j ≤ 1499 := fun j => hT.2 35 j
      have A36 : ∀ j, 0 ≤ τ_15.2.1 36 j ∧ τ_15.2.1 36 j ≤ 20000 := fun j => hT.2 36 j
      have A37 : ∀ j, 0 ≤ τ_15.2.1 37 j ∧ τ_15.2.1 37 j ≤ 19999 := fun j => hT.2 37 j
      have A39 : ∀ j, 0 ≤ τ_15.2.1 39 j ∧ τ_15.2.1 39 j ≤ 1060 := fun j => hT.2 39 j
      have A40 : ∀ j, 0 ≤ τ_15.2.1 40 j ∧ τ_15.2.1 40 j ≤ 42000 := fun j => hT.2 40 j
      have A41 : ∀ j, (-2) ≤ τ_15.2.1 41 j ∧ τ_15.2.1 41 j ≤ 1000 := fun j => hT.2 41 j
      have A43 : ∀ j, 0 ≤ τ_15.2.1 43 j ∧ τ_15.2.1 43 j ≤ 1060 := fun j => hT.2 43 j
      have A84 : ∀ j, 0 ≤ τ_15.2.1 84 j ∧ τ_15.2.1 84 j ≤ 1499 := fun j => hT.2 84 j
      have A95 : ∀ j, 0 ≤ τ_15.2.1 95 j ∧ τ_15.2.1 95 j ≤ 1500 := fun j => hT.2 95 j
      have A97 : ∀ j, 0 ≤ τ_15.2.1 97 j ∧ τ_15.2.1 97 j ≤ 1060 := fun j => hT.2 97 j
      have A98 : ∀ j, 0 ≤ τ_15.2.1 98 j ∧ τ_15.2.1 98 j ≤ 1048576 := fun j => hT.2 98 j
      have A99 : ∀ j, (-2) ≤ τ_15.2.1 99 j ∧ τ_15.2.1 99 j ≤ 600 := fun j => hT.2 99 j
      have A100 : ∀ j, 0 ≤ τ_15.2.1 100 j ∧ τ_15.2.1 100 j ≤ 1060 := fun j => hT.2 100 j
      have v6 : 0 ≤ τ_15.1 6 ∧ τ_15.1 6 ≤ 30000 := hT.1 6
      have v7 : 0 ≤ τ_15.1 7 ∧ τ_15.1 7 ≤ 1500 := hT.1 7
      have v13 : 0 ≤ τ_15.1 13 ∧ τ_15.1 13 ≤ 90000 := hT.1 13
      have v14 : 0 ≤ τ_15.1 14 ∧ τ_15.1 14 ≤ 20000 := hT.1 14
      have v15 : 0 ≤ τ_15.1 15 ∧ τ_15.1 15 ≤ 20000 := hT.1 15
      have v17 : 0 ≤ τ_15.1 17 ∧ τ_15.1 17 ≤ 42000 := hT.1 17
      have v18 : 0 ≤ τ_15.1 18 ∧ τ_15.1 18 ≤ 42000 := hT.1 18
      have v19 : 0 ≤ τ_15.1 19 ∧ τ_15.1 19 ≤ 1000 := hT.1 19
      have v54 : 0 ≤ τ_15.1 54 ∧ τ_15.1 54 ≤ 12000 := hT.1 54
      have v60 : 0 ≤ τ_15.1 60 ∧ τ_15.1 60 ≤ 1048576 := hT.1 60
      exfalso; (first | omega | (simp only [st_s] <;> omega) | assumption | omega | fail)
    | succ m_15 ih_15 =>
      intro u4_15 u5_15 τ_15 hm_15 hT W6 W7 W13 W14 W15 W54 W60 G10 G13 G14 G15 G16 G27 G28 G29 G30 G31 G32 G33 G34 G35 G36 G37 G84 G95 G97 G98 G99 G100 i15_1 i15_2 i15_3 i15_4
      have A10 : ∀ j, (-1) ≤ τ_15.2.1 10 j ∧ τ_15.2.1 10 j ≤ 99 := fun j => hT.2 10 j
      have A13 : ∀ j, 0 ≤ τ_15.2.1 13 j ∧ τ_15.2.1 13 j ≤ 4 := fun j => hT.2 13 j
      have A14 : ∀ j, 0 ≤ τ_15.2.1 14 j ∧ τ_15.2.1 14 j ≤ 30000 := fun j => hT.2 14 j
      have A15 : ∀ j, 0 ≤ τ_15.2.1 15 j ∧ τ_15.2.1 15 j ≤ 999 := fun j => hT.2 15 j
      have A16 : ∀ j, (-1) ≤ τ_15.2.1 16 j ∧ τ_15.2.1 16 j ≤ 1499 := fun j => hT.2 16 j
      have A27 : ∀ j, 0 ≤ τ_15.2.1 27 j ∧ τ_15.2.1 27 j ≤ 90000 := fun j => hT.2 27 j
      have A28 : ∀ j, 0 ≤ τ_15.2.1 28 j ∧ τ_15.2.1 28 j ≤ 60 := fun j => hT.2 28 j
      have A29 : ∀ j, 0 ≤ τ_15.2.1 29 j ∧ τ_15.2.1 29 j ≤ 1499 := fun j => hT.2 29 j
      have A30 : ∀ j, 0 ≤ τ_15.2.1 30 j ∧ τ_15.2.1 30 j ≤ 20000 := fun j => hT.2 30 j
      have A31 : ∀ j, 0 ≤ τ_15.2.1 31 j ∧ τ_15.2.1 31 j ≤ 20000 := fun j => hT.2 31 j
      have A32 : ∀ j, 0 ≤ τ_15.2.1 32 j ∧ τ_15.2.1 32 j ≤ 999999 := fun j => hT.2 32 j
      have A33 : ∀ j, 0 ≤ τ_15.2.1 33 j ∧ τ_15.2.1 33 j ≤ 20000 := fun j => hT.2 33 j
      have A34 : ∀ j, 0 ≤ τ_15.2.1 34 j ∧ τ_15.2.1 34 j ≤ 20000 := fun j => hT.2 34 j
      have A35 : ∀ j, 0 ≤ τ_15.2.1 35 j ∧ τ_15.2.1 35 j ≤ 1499 := fun j => hT.2 35 j
      have A36 : ∀ j, 0 ≤ τ_15.2.1 36 j ∧ τ_15.2.1 36 j ≤ 20000 := fun j => hT.2 36 j
      have A37 : ∀ j, 0 ≤ τ_15.2.1 37 j ∧ τ_15.2.1 37 j ≤ 19999 := fun j => hT.2 37 j
      have A39 : ∀ j, 0 ≤ τ_15.2.1 39 j ∧ τ_15.2.1 39 j ≤ 1060 := fun j => hT.2 39 j
      have A40 : ∀ j, 0 ≤ τ_15.2.1 40 j ∧ τ_15.2.1 40 j ≤ 42000 := fun j => hT.2 40 j
      have A41 : ∀ j, (-2) ≤ τ_15.2.1 41 j ∧ τ_15.2.1 41 j ≤ 1000 := fun j => hT.2 41 j
      have A43 : ∀ j, 0 ≤ τ_15.2.1 43 j ∧ τ_15.2.1 43 j ≤ 1060 := fun j => hT.2 43 j
      have A84 : ∀ j, 0 ≤ τ_15.2.1 84 j ∧ τ_15.2.1 84 j ≤ 1499 := fun j => hT.2 84 j
      have A95 : ∀ j, 0 ≤ τ_15.2.1 95 j ∧ τ_15.2.1 95 j ≤ 1500 := fun j => hT.2 95 j
      have A97 : ∀ j, 0 ≤ τ_15.2.1 97 j ∧ τ_15.2.1 97 j ≤ 1060 := fun j => hT.2 97 j
      have A98 : ∀ j, 0 ≤ τ_15.2.1 98 j ∧ τ_15.2.1 98 j ≤ 1048576 := fun j => hT.2 98 j
      have A99 : ∀ j, (-2) ≤ τ_15.2.1 99 j ∧ τ_15.2.1 99 j ≤ 600 := fun j => hT.2 99 j
      have A100 : ∀ j, 0 ≤ τ_15.2.1 100 j ∧ τ_15.2.1 100 j ≤ 1060 := fun j => hT.2 100 j
      have v6 : 0 ≤ τ_15.1 6 ∧ τ_15.1 6 ≤ 30000 := hT.1 6
      have v7 : 0 ≤ τ_15.1 7 ∧ τ_15.1 7 ≤ 1500 := hT.1 7
      have v13 : 0 ≤ τ_15.1 13 ∧ τ_15.1 13 ≤ 90000 := hT.1 13
      have v14 : 0 ≤ τ_15.1 14 ∧ τ_15.1 14 ≤ 20000 := hT.1 14
      have v15 : 0 ≤ τ_15.1 15 ∧ τ_15.1 15 ≤ 20000 := hT.1 15
      have v17 : 0 ≤ τ_15.1 17 ∧ τ_15.1 17 ≤ 42000 := hT.1 17
      have v18 : 0 ≤ τ_15.1 18 ∧ τ_15.1 18 ≤ 42000 := hT.1 18
      have v19 : 0 ≤ τ_15.1 19 ∧ τ_15.1 19 ≤ 1000 := hT.1 19
      have v54 : 0 ≤ τ_15.1 54 ∧ τ_15.1 54 ≤ 12000 := hT.1 54
      have v60 : 0 ≤ τ_15.1 60 ∧ τ_15.1 60 ≤ 1048576 := hT.1 60
      have CJ : J_all (τ_15.1 7) (τ_15.1 6) (τ_15.1 13) (τ_15.1 14) (τ_15.1 15) (τ_15.2.1 13) (τ_15.2.1 14) (τ_15.2.1 15) (τ_15.2.1 16) (τ_15.2.1 10) (τ_15.2.1 27) (τ_15.2.1 28) (τ_15.2.1 29) (τ_15.2.1 30) (τ_15.2.1 31) (τ_15.2.1 32) (τ_15.2.1 33) (τ_15.2.1 34) (τ_15.2.1 35) (τ_15.2.1 36) (τ_15.2.1 37) := by rw [show (J_all (τ_15.1 7) (τ_15.1 6) (τ_15.1 13) (τ_15.1 14) (τ_15.1 15) (τ_15.2.1 13) (τ_15.2.1 14) (τ_15.2.1 15) (τ_15.2.1 16) (τ_15.2.1 10) (τ_15.2.1 27) (τ_15.2.1 28) (τ_15.2.1 29) (τ_15.2.1 30) (τ_15.2.1 31) (τ_15.2.1 32) (τ_15.2.1 33) (τ_15.2.1 34) (τ_15.2.1 35) (τ_15.2.1 36) (τ_15.2.1 37)) = (J_all (σ.1 7) (σ.1 6) (σ.1 13) (σ.1 14) (σ.1 15) (σ.2.1 13) (σ.2.1 14) (σ.2.1 15) (σ.2.1 16) (σ.2.1 10) (σ.2.1 27) (σ.2.1 28) (σ.2.1 29) (σ.2.1 30) (σ.2.1 31) (σ.2.1 32) (σ.2.1 33) (σ.2.1 34) (σ.2.1 35) (σ.2.1 36) (σ.2.1 37)) from by rw [W6, W7, W13, W14, W15, G10, G13, G14, G15, G16, G27, G28, G29, G30, G31, G32, G33, G34, G35, G36, G37]]; exact CJ_0
      have TRE : g_tre (τ_15.1 7) (τ_15.1 54) (τ_15.2.1 13) (τ_15.2.1 14) (τ_15.2.1 27) (τ_15.2.1 28) (τ_15.2.1 29) (τ_15.2.1 84) := by rw [show (g_tre (τ_15.1 7) (τ_15.1 54) (τ_15.2.1 13) (τ_15.2.1 14) (τ_15.2.1 27) (τ_15.2.1 28) (τ_15.2.1 29) (τ_15.2.1 84)) = (g_tre (σ.1 7) (σ.1 54) (σ.2.1 13) (σ.2.1 14) (σ.2.1 27) (σ.2.1 28) (σ.2.1 29) (σ.2.1 84)) from by rw [W7, W54, G13, G14, G27, G28, G29, G84]]; exact TRE_0
      have BD : g_bd (τ_15.1 60) (τ_15.2.1 95) (τ_15.2.1 98) (τ_15.2.1 99) (τ_15.2.1 97) (τ_15.2.1 28) := by rw [show (g_bd (τ_15.1 60) (τ_15.2.1 95) (τ_15.2.1 98) (τ_15.2.1 99) (τ_15.2.1 97) (τ_15.2.1 28)) = (g_bd (σ.1 60) (σ.2.1 95) (σ.2.1 98) (σ.2.1 99) (σ.2.1 97) (σ.2.1 28)) from by rw [W60, G28, G95, G97, G98, G99]]; exact BD_0
      have l_237 : ∀ (u4_237 : Int) (u5_237 : Int) (k1_237 : Int) (k2_237 : Int) (τ_237 : S0), (c_T τ_237) → (τ_237.1 6 = σ.1 6) → (τ_237.1 7 = σ.1 7) → (τ_237.1 13 = σ.1 13) → (τ_237.1 14 = σ.1 14) → (τ_237.1 15 = σ.1 15) → (τ_237.1 54 = σ.1 54) → (τ_237.1 60 = σ.1 60) → (τ_237.2.1 10 = σ.2.1 10) → (τ_237.2.1 13 = σ.2.1 13) → (τ_237.2.1 14 = σ.2.1 14) → (τ_237.2.1 15 = σ.2.1 15) → (τ_237.2.1 16 = σ.2.1 16) → (τ_237.2.1 27 = σ.2.1 27) → (τ_237.2.1 28 = σ.2.1 28) → (τ_237.2.1 29 = σ.2.1 29) → (τ_237.2.1 30 = σ.2.1 30) → (τ_237.2.1 31 = σ.2.1 31) → (τ_237.2.1 32 = σ.2.1 32) → (τ_237.2.1 33 = σ.2.1 33) → (τ_237.2.1 34 = σ.2.1 34) → (τ_237.2.1 35 = σ.2.1 35) → (τ_237.2.1 36 = σ.2.1 36) → (τ_237.2.1 37 = σ.2.1 37) → (τ_237.2.1 84 = σ.2.1 84) → (τ_237.2.1 95 = σ.2.1 95) → (τ_237.2.1 97 = σ.2.1 97) → (τ_237.2.1 98 = σ.2.1 98) → (τ_237.2.1 99 = σ.2.1 99) → (τ_237.2.1 100 = σ.2.1 100) → (0 ≤ u4_237 ∧ u4_237 ≤ n2 - 1 - u5_237) → (0 ≤ u5_237 ∧ u5_237 < n2) → ((τ_237.1 18) = 42000) → (g_ev B (u4_237 + 1) (τ_237.1 17) (τ_237.2.1 40) (τ_237.2.1 41) (τ_237.2.1 39)) → (k1_237 = u4_237) → ((-2 ≤ k2_237 ∧ k2_237 ≤ 1000) ∧ (k2_237 = -2 ∨ k2_237 = τ_237.2.1 41 u4_237)) → (u5_237 + 2 ≤ (m_15 : Int)) → (n1 ≤ u5_237) → P237 n1 n3 u4_237 u5_237 k1_237 k2_237 τ_237 := by
        intro u4_237 u5_237 k1_237 k2_237 τ_237 hT W6 W7 W13 W14 W15 W54 W60 G10 G13 G14 G15 G16 G27 G28 G29 G30 G31 G32 G33 G34 G35 G36 G37 G84 G95 G97 G98 G99 G100 i237_1 i237_2 i237_3 i237_4 i237_5 i237_6 i237_7 i237_8
        have A10 : ∀ j, (-1) ≤ τ_237.2.1 10 j ∧ τ_237.2.1 10 j ≤ 99 := fun j => hT.2 10 j
        have A13 : ∀ j, 0 ≤ τ_237.2.1 13 j ∧ τ_237.2.1 13 j ≤ 4 := fun j => hT.2 13 j
        have A14 : ∀ j, 0 ≤ τ_237.2.1 14 j ∧ τ_237.2.1 14 j ≤ 30000 := fun j => hT.2 14 j
        have A15 : ∀ j, 0 ≤ τ_237.2.1 15 j ∧ τ_237.2.1 15 j ≤ 999 := fun j => hT.2 15 j
        have A16 : ∀ j, (-1) ≤ τ_237.2.1 16 j ∧ τ_237.2.1 16 j ≤ 1499 := fun j => hT.2 16 j
        have A27 : ∀ j, 0 ≤ τ_237.2.1 27 j ∧ τ_237.2.1 27 j ≤ 90000 := fun j => hT.2 27 j
        have A28 : ∀ j, 0 ≤ τ_237.2.1 28 j ∧ τ_237.2.1 28 j ≤ 60 := fun j => hT.2 28 j
        have A29 : ∀ j, 0 ≤ τ_237.2.1 29 j ∧ τ_237.2.1 29 j ≤ 1499 := fun j => hT.2 29 j
        have A30 : ∀ j, 0 ≤ τ_237.2.1 30 j ∧ τ_237.2.1 30 j ≤ 20000 := fun j => hT.2 30 j
        have A31 : ∀ j, 0 ≤ τ_237.2.1 31 j ∧ τ_237.2.1 31 j ≤ 20000 := fun j => hT.2 31 j
        have A32 : ∀ j, 0 ≤ τ_237.2.1 32 j ∧ τ_237.2.1 32 j ≤ 999999 := fun j => hT.2 32 j
        have A33 : ∀ j, 0 ≤ τ_237.2.1 33 j ∧ τ_237.2.1 33 j ≤ 20000 := fun j => hT.2 33 j
        have A34 : ∀ j, 0 ≤ τ_237.2.1 34 j ∧ τ_237.2.1 34 j ≤ 20000 := fun j => hT.2 34 j
        have A35 : ∀ j, 0 ≤ τ_237.2.1 35 j ∧ τ_237.2.1 35 j ≤ 1499 := fun j => hT.2 35 j
        have A36 : ∀ j, 0 ≤ τ_237.2.1 36 j ∧ τ_237.2.1 36 j ≤ 20000 := fun j => hT.2 36 j
        have A37 : ∀ j, 0 ≤ τ_237.2.1 37 j ∧ τ_237.2.1 37 j ≤ 19999 := fun j => hT.2 37 j
        have A39 : ∀ j, 0 ≤ τ_237.2.1 39 j ∧ τ_237.2.1 39 j ≤ 1060 := fun j => hT.2 39 j
        have A40 : ∀ j, 0 ≤ τ_237.2.1 40 j ∧ τ_237.2.1 40 j ≤ 42000 := fun j => hT.2 40 j
        have A41 : ∀ j, (-2) ≤ τ_237.2.1 41 j ∧ τ_237.2.1 41 j ≤ 1000 := fun j => hT.2 41 j
        have A43 : ∀ j, 0 ≤ τ_237.2.1 43 j ∧ τ_237.2.1 43 j ≤ 1060 := fun j => hT.2 43 j
        have A84 : ∀ j, 0 ≤ τ_237.2.1 84 j ∧ τ_237.2.1 84 j ≤ 1499 := fun j => hT.2 84 j
        have A95 : ∀ j, 0 ≤ τ_237.2.1 95 j ∧ τ_237.2.1 95 j ≤ 1500 := fun j => hT.2 95 j
        have A97 : ∀ j, 0 ≤ τ_237.2.1 97 j ∧ τ_237.2.1 97 j ≤ 1060 := fun j => hT.2 97 j
        have A98 : ∀ j, 0 ≤ τ_237.2.1 98 j ∧ τ_237.2.1 98 j ≤ 1048576 := fun j => hT.2 98 j
        have A99 : ∀ j, (-2) ≤ τ_237.2.1 99 j ∧ τ_237.2.1 99 j ≤ 600 := fun j => hT.2 99 j
        have A100 : ∀ j, 0 ≤ τ_237.2.1 100 j ∧ τ_237.2.1 100 j ≤ 1060 := fun j => hT.2 100 j
        have v6 : 0 ≤ τ_237.1 6 ∧ τ_237.1 6 ≤ 30000 := hT.1 6
        have v7 : 0 ≤ τ_237.1 7 ∧ τ_237.1 7 ≤ 1500 := hT.1 7
        have v13 : 0 ≤ τ_237.1 13 ∧ τ_237.1 13 ≤ 90000 := hT.1 13
        have v14 : 0 ≤ τ_237.1 14 ∧ τ_237.1 14 ≤ 20000 := hT.1 14
        have v15 : 0 ≤ τ_237.1 15 ∧ τ_237.1 15 ≤ 20000 := hT.1 15
        have v17 : 0 ≤ τ_237.1 17 ∧ τ_237.1 17 ≤ 42000 := hT.1 17
        have v18 : 0 ≤ τ_237.1 18 ∧ τ_237.1 18 ≤ 42000 := hT.1 18
        have v19 : 0 ≤ τ_237.1 19 ∧ τ_237.1 19 ≤ 1000 := hT.1 19
        have v54 : 0 ≤ τ_237.1 54 ∧ τ_237.1 54 ≤ 12000 := hT.1 54
        have v60 : 0 ≤ τ_237.1 60 ∧ τ_237.1 60 ≤ 1048576 := hT.1 60
        have CJ : J_all (τ_237.1 7) (τ_237.1 6) (τ_237.1 13) (τ_237.1 14) (τ_237.1 15) (τ_237.2.1 13) (τ_237.2.1 14) (τ_237.2.1 15) (τ_237.2.1 16) (τ_237.2.1 10) (τ_237.2.1 27) (τ_237.2.1 28) (τ_237.2.1 29) (τ_237.2.1 30) (τ_237.2.1 31) (τ_237.2.1 32) (τ_237.2.1 33) (τ_237.2.1 34) (τ_237.2.1 35) (τ_237.2.1 36) (τ_237.2.1 37) := by rw [show (J_all (τ_237.1 7) (τ_237.1 6) (τ_237.1 13) (τ_237.1 14) (τ_237.1 15) (τ_237.2.1 13) (τ_237.2.1 14) (τ_237.2.1 15) (τ_237.2.1 16) (τ_237.2.1 10) (τ_237.2.1 27) (τ_237.2.1 28) (τ_237.2.1 29) (τ_237.2.1 30) (τ_237.2.1 31) (τ_237.2.1 32) (τ_237.2.1 33) (τ_237.2.1 34) (τ_237.2.1 35) (τ_237.2.1 36) (τ_237.2.1 37)) = (J_all (σ.1 7) (σ.1 6) (σ.1 13) (σ.1 14) (σ.1 15) (σ.2.1 13) (σ.2.1 14) (σ.2.1 15) (σ.2.1 16) (σ.2.1 10) (σ.2.1 27) (σ.2.1 28) (σ.2.1 29) (σ.2.1 30) (σ.2.1 31) (σ.2.1 32) (σ.2.1 33) (σ.2.1 34) (σ.2.1 35) (σ.2.1 36) (σ.2.1 37)) from by rw [W6, W7, W13, W14, W15, G10, G13, G14, G15, G16, G27, G28, G29, G30, G31, G32, G33, G34, G35, G36, G37]]; exact CJ_0
        have TRE : g_tre (τ_237.1 7) (τ_237.1 54) (τ_237.2.1 13) (τ_237.2.1 14) (τ_237.2.1 27) (τ_237.2.1 28) (τ_237.2.1 29) (τ_237.2.1 84) := by rw [show (g_tre (τ_237.1 7) (τ_237.1 54) (τ_237.2.1 13) (τ_237.2.1 14) (τ_237.2.1 27) (τ_237.2.1 28) (τ_237.2.1 29) (τ_237.2.1 84)) = (g_tre (σ.1 7) (σ.1 54) (σ.2.1 13) (σ.2.1 14) (σ.2.1 27) (σ.2.1 28) (σ.2.1 29) (σ.2.1 84)) from by rw [W7, W54, G13, G14, G27, G28, G29, G84]]; exact TRE_0
        have BD : g_bd (τ_237.1 60) (τ_237.2.1 95) (τ_237.2.1 98) (τ_237.2.1 99) (τ_237.2.1 97) (τ_237.2.1 28) := by rw [show (g_bd (τ_237.1 60) (τ_237.2.1 95) (τ_237.2.1 98) (τ_237.2.1 99) (τ_237.2.1 97) (τ_237.2.1 28)) = (g_bd (σ.1 60) (σ.2.1 95) (σ.2.1 98) (σ.2.1 99) (σ.2.1 97) (σ.2.1 28)) from by rw [W60, G28, G95, G97, G98, G99]]; exact BD_0
        refine h237 n1 n3 u4_237 u5_237 k1_237 k2_237 τ_237 ?_
        refine ⟨(show 0 ≤ k1_237 ∧ k1_237 < 20000 from by (first | omega | (simp only [st_s] <;> omega) | assumption | omega | fail)), ?_⟩
        replace hT := cT_a (k := 41) (j := k1_237) hT (show (-2 : Int) ≤ k2_237 ∧ k2_237 ≤ 1000 from by (first | omega | (simp only [st_s] <;> omega) | assumption | omega | fail))
        refine ⟨(⟨by (first | omega | (simp only [st_s] <;> omega) | assumption | omega | fail), by (first | omega | (simp only [st_s] <;> omega) | assumption | omega | fail)⟩ : rg (u4_237 + 1)), ?_⟩
        refine ⟨(⟨by (first | omega | (simp only [st_s] <;> omega) | assumption | omega | fail), by (first | omega | (simp only [st_s] <;> omega) | assumption | omega | fail)⟩ : rg (u5_237 + (-1))), ?_⟩
        exact ih_15 _ _ _ (show ((u5_237 + (-1)) + 2 : Int) < ((m_15 : Nat) : Int) from by ((first | omega | (simp only [st_s] <;> omega) | assumption | omega | fail))) hT (show τ_237.1 6 = σ.1 6 from by first | exact W6 | omega) (show τ_237.1 7 = σ.1 7 from by first | exact W7 | omega) (show τ_237.1 13 = σ.1 13 from by first | exact W13 | omega) (show τ_237.1 14 = σ.1 14 from by first | exact W14 | omega) (show τ_237.1 15 = σ.1 15 from by first | exact W15 | omega) (show τ_237.1 54 = σ.1 54 from by first | exact W54 | omega) (show τ_237.1 60 = σ.1 60 from by first | exact W60 | omega) G10 G13 G14 G15 G16 G27 G28 G29 G30 G31 G32 G33 G34 G35 G36 G37 G84 G95 G97 G98 G99 G100 (show 0 ≤ (u4_237 + 1) ∧ (u4_237 + 1) ≤ n2 - 1 - (u5_237 + (-1)) from by (first | omega | (simp only [st_s] <;> omega) | assumption | omega | fail)) (show -1 ≤ (u5_237 + (-1)) ∧ (u5_237 + (-1)) < n2 from by (first | omega | (simp only [st_s] <;> omega) | assumption | omega | fail)) (show g_ev B (u4_237 + 1) (τ_237.1 17) (τ_237.2.1 40) ((st (τ_237.2.1 41) k1_237 k2_237)) (τ_237.2.1 39) from by (first | exact g_ev_s i237_4 (by rw [i237_5]; exact i237_6.2) | (rw [q1_1]; exact g_ev0 _ _ _ _) | fail)) (show (τ_237.1 18) = 42000 from by (first | omega | (simp only [st_s] <;> omega) | assumption | omega | fail))
      have l_193 : ∀ (u4_193 : Int) (u5_193 : Int) (u7_193 : Int) (k1_193 : Int) (τ_193 : S0), (c_T τ_193) → (τ_193.1 6 = σ.1 6) → (τ_193.1 7 = σ.1 7) → (τ_193.1 13 = σ.1 13) → (τ_193.1 14 = σ.1 14) → (τ_193.1 15 = σ.1 15) → (τ_193.1 54 = σ.1 54) → (τ_193.1 60 = σ.1 60) → (τ_193.2.1 10 = σ.2.1 10) → (τ_193.2.1 13 = σ.2.1 13) → (τ_193.2.1 14 = σ.2.1 14) → (τ_193.2.1 15 = σ.2.1 15) → (τ_193.2.1 16 = σ.2.1 16) → (τ_193.2.1 27 = σ.2.1 27) → (τ_193.2.1 28 = σ.2.1 28) → (τ_193.2.1 29 = σ.2.1 29) → (τ_193.2.1 30 = σ.2.1 30) → (τ_193.2.1 31 = σ.2.1 31) → (τ_193.2.1 32 = σ.2.1 32) → (τ_193.2.1 33 = σ.2.1 33) → (τ_193.2.1 34 = σ.2.1 34) → (τ_193.2.1 35 = σ.2.1 35) → (τ_193.2.1 36 = σ.2.1 36) → (τ_193.2.1 37 = σ.2.1 37) → (τ_193.2.1 84 = σ.2.1 84) → (τ_193.2.1 95 = σ.2.1 95) → (τ_193.2.1 97 = σ.2.1 97) → (τ_193.2.1 98 = σ.2.1 98) → (τ_193.2.1 99 = σ.2.1 99) → (τ_193.2.1 100 = σ.2.1 100) → (0 ≤ u4_193 ∧ u4_193 ≤ n2 - 1 - u5_193) → (0 ≤ u5_193 ∧ u5_193 < n2) → ((τ_193.1 18) = 42000) → (0 ≤ u7_193 ∧ u7_193 ≤ 1) → (g_bt B k1_193 (τ_193.2.1 43)) → (0 ≤ k1_193 ∧ k1_193 ≤ 599) → (g_ew B u4_193 (τ_193.1 17) (τ_193.2.1 40) (τ_193.2.1 41) (τ_193.2.1 39)) → (u5_193 + 2 ≤ (m_15 : Int)) → (n1 ≤ u5_193) → P193 n1 n3 u4_193 u5_193 u7_193 k1_193 τ_193 := by
        intro u4_193 u5_193 u7_193 k1_193 τ_193 hT W6 W7 W13 W14 W15 W54 W60 G10 G13 G14 G15 G16 G27 G28 G29 G30 G31 G32 G33 G34 G35 G36 G37 G84 G95 G97 G98 G99 G100 i193_1 i193_2 i193_3 i193_4 i193_5 i193_6 i193_7 i193_8 i193_9
        have A10 : ∀ j, (-1) ≤ τ_193.2.1 10 j ∧ τ_193.2.1 10 j ≤ 99 := fun j => hT.2 10 j
        have A13 : ∀ j, 0 ≤ τ_193.2.1 13 j ∧ τ_193.2.1 13 j ≤ 4 := fun j => hT.2 13 j
        have A14 : ∀ j, 0 ≤ τ_193.2.1 14 j ∧ τ_193.2.1 14 j ≤ 30000 := fun j => hT.2 14 j
        have A15 : ∀ j, 0 ≤ τ_193.2.1 15 j ∧ τ_193.2.1 15 j ≤ 999 := fun j => hT.2 15 j
        have A16 : ∀ j, (-1) ≤ τ_193.2.1 16 j ∧ τ_193.2.1 16 j ≤ 1499 := fun j => hT.2 16 j
        have A27 : ∀ j, 0 ≤ τ_193.2.1 27 j ∧ τ_193.2.1 27 j ≤ 90000 := fun j => hT.2 27 j
        have A28 : ∀ j, 0 ≤ τ_193.2.1 28 j ∧ τ_193.2.1 28 j ≤ 60 := fun j => hT.2 28 j
        have A29 : ∀ j, 0 ≤ τ_193.2.1 29 j ∧ τ_193.2.1 29 j ≤ 1499 := fun j => hT.2 29 j
        have A30 : ∀ j, 0 ≤ τ_193.2.1 30 j ∧ τ_193.2.1 30 j ≤ 20000 := fun j => hT.2 30 j
        have A31 : ∀ j, 0 ≤ τ_193.2.1 31 j ∧ τ_193.2.1 31 j ≤ 20000 := fun j => hT.2 31 j
        have A32 : ∀ j, 0 ≤ τ_193.2.1 32 j ∧ τ_193.2.1 32 j ≤ 999999 := fun j => hT.2 32 j
        have A33 : ∀ j, 0 ≤ τ_193.2.1 33 j ∧ τ_193.2.1 33 j ≤ 20000 := fun j => hT.2 33 j
        have A34 : ∀ j, 0 ≤ τ_193.2.1 34 j ∧ τ_193.2.1 34 j ≤ 20000 := fun j => hT.2 34 j
        have A35 : ∀ j, 0 ≤ τ_193.2.1 35 j ∧ τ_193.2.1 35 j ≤ 1499 := fun j => hT.2 35 j
        have A36 : ∀ j, 0 ≤ τ_193.2.1 36 j ∧ τ_193.2.1 36 j ≤ 20000 := fun j => hT.2 36 j
        have A37 : ∀ j, 0 ≤ τ_193.2.1 37 j ∧ τ_193.2.1 37 j ≤ 19999 := fun j => hT.2 37 j
        have A39 : ∀ j, 0 ≤ τ_193.2.1 39 j ∧ τ_193.2.1 39 j ≤ 1060 := fun j => hT.2 39 j
        have A40 : ∀ j, 0 ≤ τ_193.2.1 40 j ∧ τ_193.2.1 40 j ≤ 42000 := fun j => hT.2 40 j
        have A41 : ∀ j, (-2) ≤ τ_193.2.1 41 j ∧ τ_193.2.1 41 j ≤ 1000 := fun j => hT.2 41 j
        have A43 : ∀ j, 0 ≤ τ_193.2.1 43 j ∧ τ_193.2.1 43 j ≤ 1060 := fun j => hT.2 43 j
        have A84 : ∀ j, 0 ≤ τ_193.2.1 84 j ∧ τ_193.2.1 84 j ≤ 1499 := fun j => hT.2 84 j
        have A95 : ∀ j, 0 ≤ τ_193.2.1 95 j ∧ τ_193.2.1 95 j ≤ 1500 := fun j => hT.2 95 j
        have A97 : ∀ j, 0 ≤ τ_193.2.1 97 j ∧ τ_193.2.1 97 j ≤ 1060 := fun j => hT.2 97 j
        have A98 : ∀ j, 0 ≤ τ_193.2.1 98 j ∧ τ_193.2.1 98 j ≤ 1048576 := fun j => hT.2 98 j
        have A99 : ∀ j, (-2) ≤ τ_193.2.1 99 j ∧ τ_193.2.1 99 j ≤ 600 := fun j => hT.2 99 j
        have A100 : ∀ j, 0 ≤ τ_193.2.1 100 j ∧ τ_193.2.1 100 j ≤ 1060 := fun j => hT.2 100 j
        have v6 : 0 ≤ τ_193.1 6 ∧ τ_193.1 6 ≤ 30000 := hT.1 6
        have v7 : 0 ≤ τ_193.1 7 ∧ τ_193.1 7 ≤ 1500 := hT.1 7
        have v13 : 0 ≤ τ_193.1 13 ∧ τ_193.1 13 ≤ 90000 := hT.1 13
        have v14 : 0 ≤ τ_193.1 14 ∧ τ_193.1 14 ≤ 20000 := hT.1 14
        have v15 : 0 ≤ τ_193.1 15 ∧ τ_193.1 15 ≤ 20000 := hT.1 15
        have v17 : 0 ≤ τ_193.1 17 ∧ τ_193.1 17 ≤ 42000 := hT.1 17
        have v18 : 0 ≤ τ_193.1 18 ∧ τ_193.1 18 ≤ 42000 := hT.1 18
        have v19 : 0 ≤ τ_193.1 19 ∧ τ_193.1 19 ≤ 1000 := hT.1 19
        have v54 : 0 ≤ τ_193.1 54 ∧ τ_193.1 54 ≤ 12000 := hT.1 54
        have v60 : 0 ≤ τ_193.1 60 ∧ τ_193.1 60 ≤ 1048576 := hT.1 60
        have CJ : J_all (τ_193.1 7) (τ_193.1 6) (τ_193.1 13) (τ_193.1 14) (τ_193.1 15) (τ_193.2.1 13) (τ_193.2.1 14) (τ_193.2.1 15) (τ_193.2.1 16) (τ_193.2.1 10) (τ_193.2.1 27) (τ_193.2.1 28) (τ_193.2.1 29) (τ_193.2.1 30) (τ_193.2.1 31) (τ_193.2.1 32) (τ_193.2.1 33) (τ_193.2.1 34) (τ_193.2.1 35) (τ_193.2.1 36) (τ_193.2.1 37) := by rw [show (J_all (τ_193.1 7) (τ_193.1 6) (τ_193.1 13) (τ_193.1 14) (τ_193.1 15) (τ_193.2.1 13) (τ_193.2.1 14) (τ_193.2.1 15) (τ_193.2.1 16) (τ_193.2.1 10) (τ_193.2.1 27) (τ_193.2.1 28) (τ_193.2.1 29) (τ_193.2.1 30) (τ_193.2.1 31) (τ_193.2.1 32) (τ_193.2.1 33) (τ_193.2.1 34) (τ_193.2.1 35) (τ_193.2.1 36) (τ_193.2.1 37)) = (J_all (σ.1 7) (σ.1 6) (σ.1 13) (σ.1 14) (σ.1 15) (σ.2.1 13) (σ.2.1 14) (σ.2.1 15) (σ.2.1 16) (σ.2.1 10) (σ.2.1 27) (σ.2.1 28) (σ.2.1 29) (σ.2.1 30) (σ.2.1 31) (σ.2.1 32) (σ.2.1 33) (σ.2.1 34) (σ.2.1 35) (σ.2.1 36) (σ.2.1 37)) from by rw [W6, W7, W13, W14, W15, G10, G13, G14, G15, G16, G27, G28, G29, G30, G31, G32, G33, G34, G35, G36, G37]]; exact CJ_0
        have TRE : g_tre (τ_193.1 7) (τ_193.1 54) (τ_193.2.1 13) (τ_193.2.1 14) (τ_193.2.1 27) (τ_193.2.1 28) (τ_193.2.1 29) (τ_193.2.1 84) := by rw [show (g_tre (τ_193.1 7) (τ_193.1 54) (τ_193.2.1 13) (τ_193.2.1 14) (τ_193.2.1 27) (τ_193.2.1 28) (τ_193.2.1 29) (τ_193.2.1 84)) = (g_tre (σ.1 7) (σ.1 54) (σ.2.1 13) (σ.2.1 14) (σ.2.1 27) (σ.2.1 28) (σ.2.1 29) (σ.2.1 84)) from by rw [W7, W54, G13, G14, G27, G28, G29, G84]]; exact TRE_0
        have BD : g_bd (τ_193.1 60) (τ_193.2.1 95) (τ_193.2.1 98) (τ_193.2.1 99) (τ_193.2.1 97) (τ_193.2.1 28) := by rw [show (g_bd (τ_193.1 60) (τ_193.2.1 95) (τ_193.2.1 98) (τ_193.2.1 99) (τ_193.2.1 97) (τ_193.2.1 28)) = (g_bd (σ.1 60) (σ.2.1 95) (σ.2.1 98) (σ.2.1 99) (σ.2.1 97) (σ.2.1 28)) from by rw [W60, G28, G95, G97, G98, G99]]; exact BD_0
        refine h193 n1 n3 u4_193 u5_193 u7_193 k1_193 τ_193 ?_
        replace hT := cT_v (i := 19) hT (show 0 ≤ k1_193 ∧ k1_193 ≤ 1000 from by (first | omega | (simp only [st_s] <;> omega) | assumption | omega | fail))
        refine ⟨_, K_X6_put hT (show 0 ≤ u4_193 from by (first | omega | (simp only [st_s] <;> omega) | assumption | omega | fail)) (show u4_193 < 20000 from by (first | omega | (simp only [st_s] <;> omega) | assumption | omega | fail)) (show 0 ≤ (0 : Int) ∧ (0 : Int) ≤ 1 from by (first | omega | (simp only [st_s] <;> omega) | assumption | omega | fail)), ?_⟩
        intro x33 τ34 r_x33 hn_τ34 hf_τ34 hq
        obtain ⟨hT, q32_1, q32_2, q32_3, q32_4, q32_5, q32_6⟩ := hq
        replace q32_1 : 0 ≤ x33 ∧ x33 ≤ 1 := q32_1
        replace q32_2 : x33 = 0 → (τ34.1 17) = (τ_193.1 17) ∧ (τ34.1 18) = (τ_193.1 18) := q32_2
        replace q32_3 : ¬ x33 = 0 → (τ_193.1 17) + (k1_193) ≤ (τ_193.1 18) := q32_3
        replace q32_4 : ¬ x33 = 0 → (0 : Int) = 0 → (τ34.1 17) = (τ_193.1 17) + (k1_193) ∧ (τ34.1 18) = (τ_193.1 18) ∧ τ34.2.1 40 = st (τ_193.2.1 40) u4_193 (τ_193.1 17) ∧ τ34.2.1 39 = c_py (τ_193.2.1 43) (τ_193.2.1 39) 0 (τ_193.1 17) (k1_193) := q32_4
        replace q32_5 : ¬ x33 = 0 → ¬ (0 : Int) = 0 → (τ34.1 17) = (τ_193.1 17) ∧ (τ34.1 18) = (τ_193.1 18) - (k1_193) ∧ τ34.2.1 40 = st (st (τ_193.2.1 40) u4_193 (τ_193.1 17)) u4_193 ((τ_193.1 18) - (k1_193)) ∧ τ34.2.1 39 = c_py (τ_193.2.1 43) (τ_193.2.1 39) 0 ((τ_193.1 18) - (k1_193)) (k1_193) := q32_5
        replace q32_6 : ¬ x33 = 0 → τ34.2.1 41 = st (τ_193.2.1 41) u4_193 (k1_193) ∧ τ34.2.1 42 = st (τ_193.2.1 42) u4_193 (1 + (0 : Int)) := q32_6
        have w6_τ34 : τ34.1 6 = τ_193.1 6 := hf_τ34.1 6 (by decide)
        have w7_τ34 : τ34.1 7 = τ_193.1 7 := hf_τ34.1 7 (by decide)
        have w13_τ34 : τ34.1 13 = τ_193.1 13 := hf_τ34.1 13 (by decide)
        have w14_τ34 : τ34.1 14 = τ_193.1 14 := hf_τ34.1 14 (by decide)
        have w15_τ34 : τ34.1 15 = τ_193.1 15 := hf_τ34.1 15 (by decide)
        have w19_τ34 : τ34.1 19 = k1_193 := hf_τ34.1 19 (by decide)
        have w54_τ34 : τ34.1 54 = τ_193.1 54 := hf_τ34.1 54 (by decide)
        have w60_τ34 : τ34.1 60 = τ_193.1 60 := hf_τ34.1 60 (by decide)
        have g10_τ34 : τ34.2.1 10 = τ_193.2.1 10 := hf_τ34.2.1 10 (by decide)
        have g13_τ34 : τ34.2.1 13 = τ_193.2.1 13 := hf_τ34.2.1 13 (by decide)
        have g14_τ34 : τ34.2.1 14 = τ_193.2.1 14 := hf_τ34.2.1 14 (by decide)
        have g15_τ34 : τ34.2.1 15 = τ_193.2.1 15 := hf_τ34.2.1 15 (by decide)
        have g16_τ34 : τ34.2.1 16 = τ_193.2.1 16 := hf_τ34.2.1 16 (by decide)
        have g27_τ34 : τ34.2.1 27 = τ_193.2.1 27 := hf_τ34.2.1 27 (by decide)
        have g28_τ34 : τ34.2.1 28 = τ_193.2.1 28 := hf_τ34.2.1 28 (by decide)
        have g29_τ34 : τ34.2.1 29 = τ_193.2.1 29 := hf_τ34.2.1 29 (by decide)
        have g30_τ34 : τ34.2.1 30 = τ_193.2.1 30 := hf_τ34.2.1 30 (by decide)
        have g31_τ34 : τ34.2.1 31 = τ_193.2.1 31 := hf_τ34.2.1 31 (by decide)
        have g32_τ34 : τ34.2.1 32 = τ_193.2.1 32 := hf_τ34.2.1 32 (by decide)
        have g33_τ34 : τ34.2.1 33 = τ_193.2.1 33 := hf_τ34.2.1 33 (by decide)
        have g34_τ34 : τ34.2.1 34 = τ_193.2.1 34 := hf_τ34.2.1 34 (by decide)
        have g35_τ34 : τ34.2.1 35 = τ_193.2.1 35 := hf_τ34.2.1 35 (by decide)
        have g36_τ34 : τ34.2.1 36 = τ_193.2.1 36 := hf_τ34.2.1 36 (by decide)
        have g37_τ34 : τ34.2.1 37 = τ_193.2.1 37 := hf_τ34.2.1 37 (by decide)
        have g43_τ34 : τ34.2.1 43 = τ_193.2.1 43 := hf_τ34.2.1 43 (by decide)
        have g84_τ34 : τ34.2.1 84 = τ_193.2.1 84 := hf_τ34.2.1 84 (by decide)
        have g95_τ34 : τ34.2.1 95 = τ_193.2.1 95 := hf_τ34.2.1 95 (by decide)
        have g97_τ34 : τ34.2.1 97 = τ_193.2.1 97 := hf_τ34.2.1 97 (by decide)
        have g98_τ34 : τ34.2.1 98 = τ_193.2.1 98 := hf_τ34.2.1 98 (by decide)
        have g99_τ34 : τ34.2.1 99 = τ_193.2.1 99 := hf_τ34.2.1 99 (by decide)
        have g100_τ34 : τ34.2.1 100 = τ_193.2.1 100 := hf_τ34.2.1 100 (by decide)
        have W6 : τ34.1 6 = σ.1 6 := by first | exact w6_τ34.trans W6 | omega
        have W7 : τ34.1 7 = σ.1 7 := by first | exact w7_τ34.trans W7 | omega
        have W13 : τ34.1 13 = σ.1 13 := by first | exact w13_τ34.trans W13 | omega
        have W14 : τ34.1 14 = σ.1 14 := by first | exact w14_τ34.trans W14 | omega
        have W15 : τ34.1 15 = σ.1 15 := by first | exact w15_τ34.trans W15 | omega
        have W54 : τ34.1 54 = σ.1 54 := by first | exact w54_τ34.trans W54 | omega
        have W60 : τ34.1 60 = σ.1 60 := by first | exact w60_τ34.trans W60 | omega
        have G10 : τ34.2.1 10 = σ.2.1 10 := (g10_τ34).trans G10
        have G13 : τ34.2.1 13 = σ.2.1 13 := (g13_τ34).trans G13
        have G14 : τ34.2.1 14 = σ.2.1 14 := (g14_τ34).trans G14
        have G15 : τ34.2.1 15 = σ.2.1 15 := (g15_τ34).trans G15
        have G16 : τ34.2.1 16 = σ.2.1 16 := (g16_τ34).trans G16
        have G27 : τ34.2.1 27 = σ.2.1 27 := (g27_τ34).trans G27
        have G28 : τ34.2.1 28 = σ.2.1 28 := (g28_τ34).trans G28
        have G29 : τ34.2.1 29 = σ.2.1 29 := (g29_τ34).trans G29
        have G30 : τ34.2.1 30 = σ.2.1 30 := (g30_τ34).trans G30
        have G31 : τ34.2.1 31 = σ.2.1 31 := (g31_τ34).trans G31
        have G32 : τ34.2.1 32 = σ.2.1 32 := (g32_τ34).trans G32
        have G33 : τ34.2.1 33 = σ.2.1 33 := (g33_τ34).trans G33
        have G34 : τ34.2.1 34 = σ.2.1 34 := (g34_τ34).trans G34
        have G35 : τ34.2.1 35 = σ.2.1 35 := (g35_τ34).trans G35
        have G36 : τ34.2.1 36 = σ.2.1 36 := (g36_τ34).trans G36
        have G37 : τ34.2.1 37 = σ.2.1 37 := (g37_τ34).trans G37
        have G84 : τ34.2.1 84 = σ.2.1 84 := (g84_τ34).trans G84
        have G95 : τ34.2.1 95 = σ.2.1 95 := (g95_τ34).trans G95
        have G97 : τ34.2.1 97 = σ.2.1 97 := (g97_τ34).trans G97
        have G98 : τ34.2.1 98 = σ.2.1 98 := (g98_τ34).trans G98
        have G99 : τ34.2.1 99 = σ.2.1 99 := (g99_τ34).trans G99
        have G100 : τ34.2.1 100 = σ.2.1 100 := (g100_τ34).trans G100
        have CJ : J_all (τ34.1 7) (τ34.1 6) (τ34.1 13) (τ34.1 14) (τ34.1 15) (τ34.2.1 13) (τ34.2.1 14) (τ34.2.1 15) (τ34.2.1 16) (τ34.2.1 10) (τ34.2.1 27) (τ34.2.1 28) (τ34.2.1 29) (τ34.2.1 30) (τ34.2.1 31) (τ34.2.1 32) (τ34.2.1 33) (τ34.2.1 34) (τ34.2.1 35) (τ34.2.1 36) (τ34.2.1 37) := by rw [show (J_all (τ34.1 7) (τ34.1 6) (τ34.1 13) (τ34.1 14) (τ34.1 15) (τ34.2.1 13) (τ34.2.1 14) (τ34.2.1 15) (τ34.2.1 16) (τ34.2.1 10) (τ34.2.1 27) (τ34.2.1 28) (τ34.2.1 29) (τ34.2.1 30) (τ34.2.1 31) (τ34.2.1 32) (τ34.2.1 33) (τ34.2.1 34) (τ34.2.1 35) (τ34.2.1 36) (τ34.2.1 37)) = (J_all (τ_193.1 7) (τ_193.1 6) (τ_193.1 13) (τ_193.1 14) (τ_193.1 15) (τ_193.2.1 13) (τ_193.2.1 14) (τ_193.2.1 15) (τ_193.2.1 16) (τ_193.2.1 10) (τ_193.2.1 27) (τ_193.2.1 28) (τ_193.2.1 29) (τ_193.2.1 30) (τ_193.2.1 31) (τ_193.2.1 32) (τ_193.2.1 33) (τ_193.2.1 34) (τ_193.2.1 35) (τ_193.2.1 36) (τ_193.2.1 37)) from by rw [w6_τ34, w7_τ34, w13_τ34, w14_τ34, w15_τ34, g10_τ34, g13_τ34, g14_τ34, g15_τ34, g16_τ34, g27_τ34, g28_τ34, g29_τ34, g30_τ34, g31_τ34, g32_τ34, g33_τ34, g34_τ34, g35_τ34, g36_τ34, g37_τ34]]; exact CJ
        have TRE : g_tre (τ34.1 7) (τ34.1 54) (τ34.2.1 13) (τ34.2.1 14) (τ34.2.1 27) (τ34.2.1 28) (τ34.2.1 29) (τ34.2.1 84) := by rw [show (g_tre (τ34.1 7) (τ34.1 54) (τ34.2.1 13) (τ34.2.1 14) (τ34.2.1 27) (τ34.2.1 28) (τ34.2.1 29) (τ34.2.1 84)) = (g_tre (τ_193.1 7) (τ_193.1 54) (τ_193.2.1 13) (τ_193.2.1 14) (τ_193.2.1 27) (τ_193.2.1 28) (τ_193.2.1 29) (τ_193.2.1 84)) from by rw [w7_τ34, w54_τ34, g13_τ34, g14_τ34, g27_τ34, g28_τ34, g29_τ34, g84_τ34]]; exact TRE
        have BD : g_bd (τ34.1 60) (τ34.2.1 95) (τ34.2.1 98) (τ34.2.1 99) (τ34.2.1 97) (τ34.2.1 28) := by rw [show (g_bd (τ34.1 60) (τ34.2.1 95) (τ34.2.1 98) (τ34.2.1 99) (τ34.2.1 97) (τ34.2.1 28)) = (g_bd (τ_193.1 60) (τ_193.2.1 95) (τ_193.2.1 98) (τ_193.2.1 99) (τ_193.2.1 97) (τ_193.2.1 28)) from by rw [w60_τ34, g28_τ34, g95_τ34, g97_τ34, g98_τ34, g99_τ34]]; exact BD
        have A10 : ∀ j, (-1) ≤ τ34.2.1 10 j ∧ τ34.2.1 10 j ≤ 99 := fun j => hT.2 10 j
        have A13 : ∀ j, 0 ≤ τ34.2.1 13 j ∧ τ34.2.1 13 j ≤ 4 := fun j => hT.2 13 j
        have A14 : ∀ j, 0 ≤ τ34.2.1 14 j ∧ τ34.2.1 14 j ≤ 30000 := fun j => hT.2 14 j
        have A15 : ∀ j, 0 ≤ τ34.2.1 15 j ∧ τ34.2.1 15 j ≤ 999 := fun j => hT.2 15 j
        have A16 : ∀ j, (-1) ≤ τ34.2.1 16 j ∧ τ34.2.1 16 j ≤ 1499 := fun j => hT.2 16 j
        have A27 : ∀ j, 0 ≤ τ34.2.1 27 j ∧ τ34.2.1 27 j ≤ 90000 := fun j => hT.2 27 j
        have A28 : ∀ j, 0 ≤ τ34.2.1 28 j ∧ τ34.2.1 28 j ≤ 60 := fun j => hT.2 28 j
        have A29 : ∀ j, 0 ≤ τ34.2.1 29 j ∧ τ34.2.1 29 j ≤ 1499 := fun j => hT.2 29 j
        have A30 : ∀ j, 0 ≤ τ34.2.1 30 j ∧ τ34.2.1 30 j ≤ 20000 := fun j => hT.2 30 j
        have A31 : ∀ j, 0 ≤ τ34.2.1 31 j ∧ τ34.2.1 31 j ≤ 20000 := fun j => hT.2 31 j
        have A32 : ∀ j, 0 ≤ τ34.2.1 32 j ∧ τ34.2.1 32 j ≤ 999999 := fun j => hT.2 32 j
        have A33 : ∀ j, 0 ≤ τ34.2.1 33 j ∧ τ34.2.1 33 j ≤ 20000 := fun j => hT.2 33 j
        have A34 : ∀ j, 0 ≤ τ34.2.1 34 j ∧ τ34.2.1 34 j ≤ 20000 := fun j => hT.2 34 j
        have A35 : ∀ j, 0 ≤ τ34.2.1 35 j ∧ τ34.2.1 35 j ≤ 1499 := fun j => hT.2 35 j
        have A36 : ∀ j, 0 ≤ τ34.2.1 36 j ∧ τ34.2.1 36 j ≤ 20000 := fun j => hT.2 36 j
        have A37 : ∀ j, 0 ≤ τ34.2.1 37 j ∧ τ34.2.1 37 j ≤ 19999 := fun j => hT.2 37 j
        have A39 : ∀ j, 0 ≤ τ34.2.1 39 j ∧ τ34.2.1 39 j ≤ 1060 := fun j => hT.2 39 j
        have A40 : ∀ j, 0 ≤ τ34.2.1 40 j ∧ τ34.2.1 40 j ≤ 42000 := fun j => hT.2 40 j
        have A41 : ∀ j, (-2) ≤ τ34.2.1 41 j ∧ τ34.2.1 41 j ≤ 1000 := fun j => hT.2 41 j
        have A43 : ∀ j, 0 ≤ τ34.2.1 43 j ∧ τ34.2.1 43 j ≤ 1060 := fun j => hT.2 43 j
        have A84 : ∀ j, 0 ≤ τ34.2.1 84 j ∧ τ34.2.1 84 j ≤ 1499 := fun j => hT.2 84 j
        have A95 : ∀ j, 0 ≤ τ34.2.1 95 j ∧ τ34.2.1 95 j ≤ 1500 := fun j => hT.2 95 j
        have A97 : ∀ j, 0 ≤ τ34.2.1 97 j ∧ τ34.2.1 97 j ≤ 1060 := fun j => hT.2 97 j
        have A98 : ∀ j, 0 ≤ τ34.2.1 98 j ∧ τ34.2.1 98 j ≤ 1048576 := fun j => hT.2 98 j
        have A99 : ∀ j, (-2) ≤ τ34.2.1 99 j ∧ τ34.2.1 99 j ≤ 600 := fun j => hT.2 99 j
        have A100 : ∀ j, 0 ≤ τ34.2.1 100 j ∧ τ34.2.1 100 j ≤ 1060 := fun j => hT.2 100 j
        have v6 : 0 ≤ τ34.1 6 ∧ τ34.1 6 ≤ 30000 := hT.1 6
        have v7 : 0 ≤ τ34.1 7 ∧ τ34.1 7 ≤ 1500 := hT.1 7
        have v13 : 0 ≤ τ34.1 13 ∧ τ34.1 13 ≤ 90000 := hT.1 13
        have v14 : 0 ≤ τ34.1 14 ∧ τ34.1 14 ≤ 20000 := hT.1 14
        have v15 : 0 ≤ τ34.1 15 ∧ τ34.1 15 ≤ 20000 := hT.1 15
        have v17 : 0 ≤ τ34.1 17 ∧ τ34.1 17 ≤ 42000 := hT.1 17
        have v18 : 0 ≤ τ34.1 18 ∧ τ34.1 18 ≤ 42000 := hT.1 18
        have v19 : 0 ≤ τ34.1 19 ∧ τ34.1 19 ≤ 1000 := hT.1 19
        have v54 : 0 ≤ τ34.1 54 ∧ τ34.1 54 ≤ 12000 := hT.1 54
        have v60 : 0 ≤ τ34.1 60 ∧ τ34.1 60 ≤ 1048576 := hT.1 60
        refine ⟨fun c35 => ?_, fun c35 => ?_⟩
        ·
          refine ⟨fun c36 => ?_, fun c36 => ?_⟩
          ·
            exact l_237 _ _ _ _ _ hT (show τ34.1 6 = σ.1 6 from by first | exact W6 | omega) (show τ34.1 7 = σ.1 7 from by first | exact W7 | omega) (show τ34.1 13 = σ.1 13 from by first | exact W13 | omega) (show τ34.1 14 = σ.1 14 from by first | exact W14 | omega) (show τ34.1 15 = σ.1 15 from by first | exact W15 | omega) (show τ34.1 54 = σ.1 54 from by first | exact W54 | omega) (show τ34.1 60 = σ.1 60 from by first | exact W60 | omega) G10 G13 G14 G15 G16 G27 G28 G29 G30 G31 G32 G33 G34 G35 G36 G37 G84 G95 G97 G98 G99 G100 (show 0 ≤ u4_193 ∧ u4_193 ≤ n2 - 1 - u5_193 from by (first | omega | (simp only [st_s] <;> omega) | assumption | omega | fail)) (show 0 ≤ u5_193 ∧ u5_193 < n2 from by (first | omega | (simp only [st_s] <;> omega) | assumption | omega | fail)) (show (τ34.1 18) = 42000 from by (first | omega | (simp only [st_s] <;> omega) | assumption | omega | fail)) (show g_ev B (u4_193 + 1) (τ34.1 17) (τ34.2.1 40) (τ34.2.1 41) (τ34.2.1 39) from by (have a := q32_4 (by assumption) rfl; have b := (q32_6 (by assumption)).1; rw [a.1]; exact g_ew_p i193_7 i193_6 i193_5 (by have := q32_3 (by assumption); omega) a.2.2.1 b a.2.2.2)) (show u4_193 = u4_193 from by (first | omega | (simp only [st_s] <;> omega) | assumption | omega | fail)) (show (-2 ≤ (-2) ∧ (-2) ≤ 1000) ∧ ((-2) = -2 ∨ (-2) = τ34.2.1 41 u4_193) from by (first | exact ⟨by omega, Or.inl rfl⟩ | (have b := (q32_6 (by assumption)).1; refine ⟨by omega, Or.inr ?_⟩; rw [b, st_s]; omega) | fail)) (show u5_193 + 2 ≤ (m_15 : Int) from by (first | omega | (simp only [st_s] <;> omega) | assumption | omega | fail)) (show n1 ≤ u5_193 from by (first | omega | (simp only [st_s] <;> omega) | assumption | omega | fail))
          ·
            exact l_237 _ _ _ _ _ hT (show τ34.1 6 = σ.1 6 from by first | exact W6 | omega) (show τ34.1 7 = σ.1 7 from by first | exact W7 | omega) (show τ34.1 13 = σ.1 13 from by first | exact W13 | omega) (show τ34.1 14 = σ.1 14 from by first | exact W14 | omega) (show τ34.1 15 = σ.1 15 from by first | exact W15 | omega) (show τ34.1 54 = σ.1 54 from by first | exact W54 | omega) (show τ34.1 60 = σ.1 60 from by first | exact W60 | omega) G10 G13 G14 G15 G16 G27 G28 G29 G30 G31 G32 G33 G34 G35 G36 G37 G84 G95 G97 G98 G99 G100 (show 0 ≤ u4_193 ∧ u4_193 ≤ n2 - 1 - u5_193 from by (first | omega | (simp only [st_s] <;> omega) | assumption | omega | fail)) (show 0 ≤ u5_193 ∧ u5_193 < n2 from by (first | omega | (simp only [st_s] <;> omega) | assumption | omega | fail)) (show (τ34.1 18) = 42000 from by (first | omega | (simp only [st_s] <;> omega) | assumption | omega | fail)) (show g_ev B (u4_193 + 1) (τ34.1 17) (τ34.2.1 40) (τ34.2.1 41) (τ34.2.1 39) from by (have a := q32_4 (by assumption) rfl; have b := (q32_6 (by assumption)).1; rw [a.1]; exact g_ew_p i193_7 i193_6 i193_5 (by have := q32_3 (by assumption); omega) a.2.2.1 b a.2.2.2)) (show u4_193 = u4_193 from by (first | omega | (simp only [st_s] <;> omega) | assumption | omega | fail)) (show (-2 ≤ (τ34.1 19) ∧ (τ34.1 19) ≤ 1000) ∧ ((τ34.1 19) = -2 ∨ (τ34.1 19) = τ34.2.1 41 u4_193) from by (first | exact ⟨by omega, Or.inl rfl⟩ | (have b := (q32_6 (by assumption)).1; refine ⟨by omega, Or.inr ?_⟩; rw [b, st_s]; omega) | fail)) (show u5_193 + 2 ≤ (m_15 : Int) from by (first | omega | (simp only [st_s] <;> omega) | assumption | omega | fail)) (show n1 ≤ u5_193 from by (first | omega | (simp only [st_s] <;> omega) | assumption | omega | fail))
        ·
          exact ⟨hT, (show 0 ≤ 0 ∧ 0 ≤ 1 from by (first | omega | (simp only [st_s] <;> omega) | assumption | omega | fail)), (show ¬ 0 = 0 → g_ev B 1 (τ34.1 17) (τ34.2.1 40) (τ34.2.1 41) (τ34.2.1 39) ∧ 0 ≤ τ34.2.1 41 0 from by (first | (intro z; exfalso; omega) | (intro _; have e : u4_15 = 1 := (by omega); rw [e] at i15_3; exact ⟨i15_3, by have b := (i15_3.2 0 (by omega) (by omega)).2.2.resolve_left (by rw [← e_x7]; assumption); exact b.1.1⟩) | fail))⟩
      have l_173 : ∀ (u4_173 : Int) (u5_173 : Int) (u7_173 : Int) (τ_173 : S0), (c_T τ_173) → (τ_173.1 6 = σ.1 6) → (τ_173.1 7 = σ.1 7) → (τ_173.1 13 = σ.1 13) → (τ_173.1 14 = σ.1 14) → (τ_173.1 15 = σ.1 15) → (τ_173.1 54 = σ.1 54) → (τ_173.1 60 = σ.1 60) → (τ_173.2.1 10 = σ.2.1 10) → (τ_173.2.1 13 = σ.2.1 13) → (τ_173.2.1 14 = σ.2.1 14) → (τ_173.2.1 15 = σ.2.1 15) → (τ_173.2.1 16 = σ.2.1 16) → (τ_173.2.1 27 = σ.2.1 27) → (τ_173.2.1 28 = σ.2.1 28) → (τ_173.2.1 29 = σ.2.1 29) → (τ_173.2.1 30 = σ.2.1 30) → (τ_173.2.1 31 = σ.2.1 31) → (τ_173.2.1 32 = σ.2.1 32) → (τ_173.2.1 33 = σ.2.1 33) → (τ_173.2.1 34 = σ.2.1 34) → (τ_173.2.1 35 = σ.2.1 35) → (τ_173.2.1 36 = σ.2.1 36) → (τ_173.2.1 37 = σ.2.1 37) → (τ_173.2.1 84 = σ.2.1 84) → (τ_173.2.1 95 = σ.2.1 95) → (τ_173.2.1 97 = σ.2.1 97) → (τ_173.2.1 98 = σ.2.1 98) → (τ_173.2.1 99 = σ.2.1 99) → (τ_173.2.1 100 = σ.2.1 100) → (0 ≤ u4_173 ∧ u4_173 ≤ n2 - 1 - u5_173) → (0 ≤ u5_173 ∧ u5_173 < n2) → ((τ_173.1 18) = 42000) → (0 ≤ u7_173 ∧ u7_173 ≤ 1) → (g_bt B (τ_173.1 19) (τ_173.2.1 43)) → (0 ≤ (τ_173.1 19) ∧ (τ_173.1 19) ≤ 599) → (g_ew B u4_173 (τ_173.1 17) (τ_173.2.1 40) (τ_173.2.1 41) (τ_173.2.1 39)) → (u5_173 + 2 ≤ (m_15 : Int)) → (n1 ≤ u5_173) → P173 n1 n3 u4_173 u5_173 u7_173 τ_173 := by
        intro u4_173 u5_173 u7_173 τ_173 hT W6 W7 W13 W14 W15 W54 W60 G10 G13 G14 G15 G16 G27 G28 G29 G30 G31 G32 G33 G34 G35 G36 G37 G84 G95 G97 G98 G99 G100 i173_1 i173_2 i173_3 i173_4 i173_5 i173_6 i173_7 i173_8 i173_9
        have A10 : ∀ j, (-1) ≤ τ_173.2.1 10 j ∧ τ_173.2.1 10 j ≤ 99 := fun j => hT.2 10 j
        have A13 : ∀ j, 0 ≤ τ_173.2.1 13 j ∧ τ_173.2.1 13 j ≤ 4 := fun j => hT.2 13 j
        have A14 : ∀ j, 0 ≤ τ_173.2.1 14 j ∧ τ_173.2.1 14 j ≤ 30000 := fun j => hT.2 14 j
        have A15 : ∀ j, 0 ≤ τ_173.2.1 15 j ∧ τ_173.2.1 15 j ≤ 999 := fun j => hT.2 15 j
        have A16 : ∀ j, (-1) ≤ τ_173.2.1 16 j ∧ τ_173.2.1 16 j ≤ 1499 := fun j => hT.2 16 j
        have A27 : ∀ j, 0 ≤ τ_173.2.1 27 j ∧ τ_173.2.1 27 j ≤ 90000 := fun j => hT.2 27 j
        have A28 : ∀ j, 0 ≤ τ_173.2.1 28 j ∧ τ_173.2.1 28 j ≤ 60 := fun j => hT.2 28 j
        have A29 : ∀ j, 0 ≤ τ_173.2.1 29 j ∧ τ_173.2.1 29 j ≤ 1499 := fun j => hT.2 29 j
        have A30 : ∀ j, 0 ≤ τ_173.2.1 30 j ∧ τ_173.2.1 30 j ≤ 20000 := fun j => hT.2 30 j
        have A31 : ∀ j, 0 ≤ τ_173.2.1 31 j ∧ τ_173.2.1 31 j ≤ 20000 := fun j => hT.2 31 j
        have A32 : ∀ j, 0 ≤ τ_173.2.1 32 j ∧ τ_173.2.1 32 j ≤ 999999 := fun j => hT.2 32 j
        have A33 : ∀ j, 0 ≤ τ_173.2.1 33 j ∧ τ_173.2.1 33 j ≤ 20000 := fun j => hT.2 33 j
        have A34 : ∀ j, 0 ≤ τ_173.2.1 34 j ∧ τ_173.2.1 34 j ≤ 20000 := fun j => hT.2 34 j
        have A35 : ∀ j, 0 ≤ τ_173.2.1 35 j ∧ τ_173.2.1 35 j ≤ 1499 := fun j => hT.2 35 j
        have A36 : ∀ j, 0 ≤ τ_173.2.1 36 j ∧ τ_173.2.1 36 j ≤ 20000 := fun j => hT.2 36 j
        have A37 : ∀ j, 0 ≤ τ_173.2.1 37 j ∧ τ_173.2.1 37 j ≤ 19999 := fun j => hT.2 37 j
        have A39 : ∀ j, 0 ≤ τ_173.2.1 39 j ∧ τ_173.2.1 39 j ≤ 1060 := fun j => hT.2 39 j
        have A40 : ∀ j, 0 ≤ τ_173.2.1 40 j ∧ τ_173.2.1 40 j ≤ 42000 := fun j => hT.2 40 j
        have A41 : ∀ j, (-2) ≤ τ_173.2.1 41 j ∧ τ_173.2.1 41 j ≤ 1000 := fun j => hT.2 41 j
        have A43 : ∀ j, 0 ≤ τ_173.2.1 43 j ∧ τ_173.2.1 43 j ≤ 1060 := fun j => hT.2 43 j
        have A84 : ∀ j, 0 ≤ τ_173.2.1 84 j ∧ τ_173.2.1 84 j ≤ 1499 := fun j => hT.2 84 j
        have A95 : ∀ j, 0 ≤ τ_173.2.1 95 j ∧ τ_173.2.1 95 j ≤ 1500 := fun j => hT.2 95 j
        have A97 : ∀ j, 0 ≤ τ_173.2.1 97 j ∧ τ_173.2.1 97 j ≤ 1060 := fun j => hT.2 97 j
        have A98 : ∀ j, 0 ≤ τ_173.2.1 98 j ∧ τ_173.2.1 98 j ≤ 1048576 := fun j => hT.2 98 j
        have A99 : ∀ j, (-2) ≤ τ_173.2.1 99 j ∧ τ_173.2.1 99 j ≤ 600 := fun j => hT.2 99 j
        have A100 : ∀ j, 0 ≤ τ_173.2.1 100 j ∧ τ_173.2.1 100 j ≤ 1060 := fun j => hT.2 100 j
        have v6 : 0 ≤ τ_173.1 6 ∧ τ_173.1 6 ≤ 30000 := hT.1 6
        have v7 : 0 ≤ τ_173.1 7 ∧ τ_173.1 7 ≤ 1500 := hT.1 7
        have v13 : 0 ≤ τ_173.1 13 ∧ τ_173.1 13 ≤ 90000 := hT.1 13
        have v14 : 0 ≤ τ_173.1 14 ∧ τ_173.1 14 ≤ 20000 := hT.1 14
        have v15 : 0 ≤ τ_173.1 15 ∧ τ_173.1 15 ≤ 20000 := hT.1 15
        have v17 : 0 ≤ τ_173.1 17 ∧ τ_173.1 17 ≤ 42000 := hT.1 17
        have v18 : 0 ≤ τ_173.1 18 ∧ τ_173.1 18 ≤ 42000 := hT.1 18
        have v19 : 0 ≤ τ_173.1 19 ∧ τ_173.1 19 ≤ 1000 := hT.1 19
        have v54 : 0 ≤ τ_173.1 54 ∧ τ_173.1 54 ≤ 12000 := hT.1 54
        have v60 : 0 ≤ τ_173.1 60 ∧ τ_173.1 60 ≤ 1048576 := hT.1 60
        have CJ : J_all (τ_173.1 7) (τ_173.1 6) (τ_173.1 13) (τ_173.1 14) (τ_173.1 15) (τ_173.2.1 13) (τ_173.2.1 14) (τ_173.2.1 15) (τ_173.2.1 16) (τ_173.2.1 10) (τ_173.2.1 27) (τ_173.2.1 28) (τ_173.2.1 29) (τ_173.2.1 30) (τ_173.2.1 31) (τ_173.2.1 32) (τ_173.2.1 33) (τ_173.2.1 34) (τ_173.2.1 35) (τ_173.2.1 36) (τ_173.2.1 37) := by rw [show (J_all (τ_173.1 7) (τ_173.1 6) (τ_173.1 13) (τ_173.1 14) (τ_173.1 15) (τ_173.2.1 13) (τ_173.2.1 14) (τ_173.2.1 15) (τ_173.2.1 16) (τ_173.2.1 10) (τ_173.2.1 27) (τ_173.2.1 28) (τ_173.2.1 29) (τ_173.2.1 30) (τ_173.2.1 31) (τ_173.2.1 32) (τ_173.2.1 33) (τ_173.2.1 34) (τ_173.2.1 35) (τ_173.2.1 36) (τ_173.2.1 37)) = (J_all (σ.1 7) (σ.1 6) (σ.1 13) (σ.1 14) (σ.1 15) (σ.2.1 13) (σ.2.1 14) (σ.2.1 15) (σ.2.1 16) (σ.2.1 10) (σ.2.1 27) (σ.2.1 28) (σ.2.1 29) (σ.2.1 30) (σ.2.1 31) (σ.2.1 32) (σ.2.1 33) (σ.2.1 34) (σ.2.1 35) (σ.2.1 36) (σ.2.1 37)) from by rw [W6, W7, W13, W14, W15, G10, G13, G14, G15, G16, G27, G28, G29, G30, G31, G32, G33, G34, G35, G36, G37]]; exact CJ_0
        have TRE : g_tre (τ_173.1 7) (τ_173.1 54) (τ_173.2.1 13) (τ_173.2.1 14) (τ_173.2.1 27) (τ_173.2.1 28) (τ_173.2.1 29) (τ_173.2.1 84) := by rw [show (g_tre (τ_173.1 7) (τ_173.1 54) (τ_173.2.1 13) (τ_173.2.1 14) (τ_173.2.1 27) (τ_173.2.1 28) (τ_173.2.1 29) (τ_173.2.1 84)) = (g_tre (σ.1 7) (σ.1 54) (σ.2.1 13) (σ.2.1 14) (σ.2.1 27) (σ.2.1 28) (σ.2.1 29) (σ.2.1 84)) from by rw [W7, W54, G13, G14, G27, G28, G29, G84]]; exact TRE_0
        have BD : g_bd (τ_173.1 60) (τ_173.2.1 95) (τ_173.2.1 98) (τ_173.2.1 99) (τ_173.2.1 97) (τ_173.2.1 28) := by rw [show (g_bd (τ_173.1 60) (τ_173.2.1 95) (τ_173.2.1 98) (τ_173.2.1 99) (τ_173.2.1 97) (τ_173.2.1 28)) = (g_bd (σ.1 60) (σ.2.1 95) (σ.2.1 98) (σ.2.1 99) (σ.2.1 97) (σ.2.1 28)) from by rw [W60, G28, G95, G97, G98, G99]]; exact BD_0
        refine h173 n1 n3 u4_173 u5_173 u7_173 τ_173 ?_
        refine ⟨fun c31 => ?_, fun c31 => ?_⟩
        ·
          exact l_193 _ _ _ _ _ hT (show τ_173.1 6 = σ.1 6 from by first | exact W6 | omega) (show τ_173.1 7 = σ.1 7 from by first | exact W7 | omega) (show τ_173.1 13 = σ.1 13 from by first | exact W13 | omega) (show τ_173.1 14 = σ.1 14 from by first | exact W14 | omega) (show τ_173.1 15 = σ.1 15 from by first | exact W15 | omega) (show τ_173.1 54 = σ.1 54 from by first | exact W54 | omega) (show τ_173.1 60 = σ.1 60 from by first | exact W60 | omega) G10 G13 G14 G15 G16 G27 G28 G29 G30 G31 G32 G33 G34 G35 G36 G37 G84 G95 G97 G98 G99 G100 (show 0 ≤ u4_173 ∧ u4_173 ≤ n2 - 1 - u5_173 from by (first | omega | (simp only [st_s] <;> omega) | assumption | omega | fail)) (show 0 ≤ u5_173 ∧ u5_173 < n2 from by (first | omega | (simp only [st_s] <;> omega) | assumption | omega | fail)) (show (τ_173.1 18) = 42000 from by (first | omega | (simp only [st_s] <;> omega) | assumption | omega | fail)) (show 0 ≤ u7_173 ∧ u7_173 ≤ 1 from by (first | omega | (simp only [st_s] <;> omega) | assumption | omega | fail)) (show g_bt B 0 (τ_173.2.1 43) from by (first | exact i173_5 | exact g_bt0 _ _ | fail)) (show 0 ≤ 0 ∧ 0 ≤ 599 from by (first | omega | (simp only [st_s] <;> omega) | assumption | omega | fail)) (show g_ew B u4_173 (τ_173.1 17) (τ_173.2.1 40) (τ_173.2.1 41) (τ_173.2.1 39) from by (first | omega | (simp only [st_s] <;> omega) | assumption | omega | fail)) (show u5_173 + 2 ≤ (m_15 : Int) from by (first | omega | (simp only [st_s] <;> omega) | assumption | omega | fail)) (show n1 ≤ u5_173 from by (first | omega | (simp only [st_s] <;> omega) | assumption | omega | fail))
        ·
          exact l_193 _ _ _ _ _ hT (show τ_173.1 6 = σ.1 6 from by first | exact W6 | omega) (show τ_173.1 7 = σ.1 7 from by first | exact W7 | omega) (show τ_173.1 13 = σ.1 13 from by first | exact W13 | omega) (show τ_173.1 14 = σ.1 14 from by first | exact W14 | omega) (show τ_173.1 15 = σ.1 15 from by first | exact W15 | omega) (show τ_173.1 54 = σ.1 54 from by first | exact W54 | omega) (show τ_173.1 60 = σ.1 60 from by first | exact W60 | omega) G10 G13 G14 G15 G16 G27 G28 G29 G30 G31 G32 G33 G34 G35 G36 G37 G84 G95 G97 G98 G99 G100 (show 0 ≤ u4_173 ∧ u4_173 ≤ n2 - 1 - u5_173 from by (first | omega | (simp only [st_s] <;> omega) | assumption | omega | fail)) (show 0 ≤ u5_173 ∧ u5_173 < n2 from by (first | omega | (simp only [st_s] <;> omega) | assumption | omega | fail)) (show (τ_173.1 18) = 42000 from by (first | omega | (simp only [st_s] <;> omega) | assumption | omega | fail)) (show 0 ≤ u7_173 ∧ u7_173 ≤ 1 from by (first | omega | (simp only [st_s] <;> omega) | assumption | omega | fail)) (show g_bt B (τ_173.1 19) (τ_173.2.1 43) from by (first | exact i173_5 | exact g_bt0 _ _ | fail)) (show 0 ≤ (τ_173.1 19) ∧ (τ_173.1 19) ≤ 599 from by (first | omega | (simp only [st_s] <;> omega) | assumption | omega | fail)) (show g_ew B u4_173 (τ_173.1 17) (τ_173.2.1 40) (τ_173.2.1 41) (τ_173.2.1 39) from by (first | omega | (simp only [st_s] <;> omega) | assumption | omega | fail)) (show u5_173 + 2 ≤ (m_15 : Int) from by (first | omega | (simp only [st_s] <;> omega) | assumption | omega | fail)) (show n1 ≤ u5_173 from by (first | omega | (simp only [st_s] <;> omega) | assumption | omega | fail))
      have l_170 : ∀ (u4_170 : Int) (u5_170 : Int) (u7_170 : Int) (k1_170 : Int) (τ_170 : S0), (c_T τ_170) → (τ_170.1 6 = σ.1 6) → (τ_170.1 7 = σ.1 7) → (τ_170.1 13 = σ.1 13) → (τ_170.1 14 = σ.1 14) → (τ_170.1 15 = σ.1 15) → (τ_170.1 54 = σ.1 54) → (τ_170.1 60 = σ.1 60) → (τ_170.2.1 10 = σ.2.1 10) → (τ_170.2.1 13 = σ.2.1 13) → (τ_170.2.1 14 = σ.2.1 14) → (τ_170.2.1 15 = σ.2.1 15) → (τ_170.2.1 16 = σ.2.1 16) → (τ_170.2.1 27 = σ.2.1 27) → (τ_170.2.1 28 = σ.2.1 28) → (τ_170.2.1 29 = σ.2.1 29) → (τ_170.2.1 30 = σ.2.1 30) → (τ_170.2.1 31 = σ.2.1 31) → (τ_170.2.1 32 = σ.2.1 32) → (τ_170.2.1 33 = σ.2.1 33) → (τ_170.2.1 34 = σ.2.1 34) → (τ_170.2.1 35 = σ.2.1 35) → (τ_170.2.1 36 = σ.2.1 36) → (τ_170.2.1 37 = σ.2.1 37) → (τ_170.2.1 84 = σ.2.1 84) → (τ_170.2.1 95 = σ.2.1 95) → (τ_170.2.1 97 = σ.2.1 97) → (τ_170.2.1 98 = σ.2.1 98) → (τ_170.2.1 99 = σ.2.1 99) → (τ_170.2.1 100 = σ.2.1 100) → (0 ≤ u4_170 ∧ u4_170 ≤ n2 - 1 - u5_170) → (0 ≤ u5_170 ∧ u5_170 < n2) → ((τ_170.1 18) = 42000) → (0 ≤ u7_170 ∧ u7_170 ≤ 1) → (g_bt B (τ_170.1 19) (τ_170.2.1 43)) → (0 ≤ (τ_170.1 19) ∧ (τ_170.1 19) ≤ 599) → (g_ew B u4_170 k1_170 (τ_170.2.1 40) (τ_170.2.1 41) (τ_170.2.1 39)) → (u5_170 + 2 ≤ (m_15 : Int)) → (n1 ≤ u5_170) → P170 n1 n3 u4_170 u5_170 u7_170 k1_170 τ_170 := by
        intro u4_170 u5_170 u7_170 k1_170 τ_170 hT W6 W7 W13 W14 W15 W54 W60 G10 G13 G14 G15 G16 G27 G28 G29 G30 G31 G32 G33 G34 G35 G36 G37 G84 G95 G97 G98 G99 G100 i170_1 i170_2 i170_3 i170_4 i170_5 i170_6 i170_7 i170_8 i170_9
        have A10 : ∀ j, (-1) ≤ τ_170.2.1 10 j ∧ τ_170.2.1 10 j ≤ 99 := fun j => hT.2 10 j
        have A13 : ∀ j, 0 ≤ τ_170.2.1 13 j ∧ τ_170.2.1 13 j ≤ 4 := fun j => hT.2 13 j
        have A14 : ∀ j, 0 ≤ τ_170.2.1 14 j ∧ τ_170.2.1 14 j ≤ 30000 := fun j => hT.2 14 j
        have A15 : ∀ j, 0 ≤ τ_170.2.1 15 j ∧ τ_170.2.1 15 j ≤ 999 := fun j => hT.2 15 j
        have A16 : ∀ j, (-1) ≤ τ_170.2.1 16 j ∧ τ_170.2.1 16 j ≤ 1499 := fun j => hT.2 16 j
        have A27 : ∀ j, 0 ≤ τ_170.2.1 27 j ∧ τ_170.2.1 27 j ≤ 90000 := fun j => hT.2 27 j
        have A28 : ∀ j, 0 ≤ τ_170.2.1 28 j ∧ τ_170.2.1 28 j ≤ 60 := fun j => hT.2 28 j
        have A29 : ∀ j, 0 ≤ τ_170.2.1 29 j ∧ τ_170.2.1 29 j ≤ 1499 := fun j => hT.2 29 j
        have A30 : ∀ j, 0 ≤ τ_170.2.1 30 j ∧ τ_170.2.1 30 j ≤ 20000 := fun j => hT.2 30 j
        have A31 : ∀ j, 0 ≤ τ_170.2.1 31 j ∧ τ_170.2.1 31 j ≤ 20000 := fun j => hT.2 31 j
        have A32 : ∀ j, 0 ≤ τ_170.2.1 32 j ∧ τ_170.2.1 32 j ≤ 999999 := fun j => hT.2 32 j
        have A33 : ∀ j, 0 ≤ τ_170.2.1 33 j ∧ τ_170.2.1 33 j ≤ 20000 := fun j => hT.2 33 j
        have A34 : ∀ j, 0 ≤ τ_170.2.1 34 j ∧ τ_170.2.1 34 j ≤ 20000 := fun j => hT.2 34 j
        have A35 : ∀ j, 0 ≤ τ_170.2.1 35 j ∧ τ_170.2.1 35 j ≤ 1499 := fun j => hT.2 35 j
        have A36 : ∀ j, 0 ≤ τ_170.2.1 36 j ∧ τ_170.2.1 36 j ≤ 20000 := fun j => hT.2 36 j
        have A37 : ∀ j, 0 ≤ τ_170.2.1 37 j ∧ τ_170.2.1 37 j ≤ 19999 := fun j => hT.2 37 j
        have A39 : ∀ j, 0 ≤ τ_170.2.1 39 j ∧ τ_170.2.1 39 j ≤ 1060 := fun j => hT.2 39 j
        have A40 : ∀ j, 0 ≤ τ_170.2.1 40 j ∧ τ_170.2.1 40 j ≤ 42000 := fun j => hT.2 40 j
        have A41 : ∀ j, (-2) ≤ τ_170.2.1 41 j ∧ τ_170.2.1 41 j ≤ 1000 := fun j => hT.2 41 j
        have A43 : ∀ j, 0 ≤ τ_170.2.1 43 j ∧ τ_170.2.1 43 j ≤ 1060 := fun j => hT.2 43 j
        have A84 : ∀ j, 0 ≤ τ_170.2.1 84 j ∧ τ_170.2.1 84 j ≤ 1499 := fun j => hT.2 84 j
        have A95 : ∀ j, 0 ≤ τ_170.2.1 95 j ∧ τ_170.2.1 95 j ≤ 1500 := fun j => hT.2 95 j
        have A97 : ∀ j, 0 ≤ τ_170.2.1 97 j ∧ τ_170.2.1 97 j ≤ 1060 := fun j => hT.2 97 j
        have A98 : ∀ j, 0 ≤ τ_170.2.1 98 j ∧ τ_170.2.1 98 j ≤ 1048576 := fun j => hT.2 98 j
        have A99 : ∀ j, (-2) ≤ τ_170.2.1 99 j ∧ τ_170.2.1 99 j ≤ 600 := fun j => hT.2 99 j
        have A100 : ∀ j, 0 ≤ τ_170.2.1 100 j ∧ τ_170.2.1 100 j ≤ 1060 := fun j => hT.2 100 j
        have v6 : 0 ≤ τ_170.1 6 ∧ τ_170.1 6 ≤ 30000 := hT.1 6
        have v7 : 0 ≤ τ_170.1 7 ∧ τ_170.1 7 ≤ 1500 := hT.1 7
        have v13 : 0 ≤ τ_170.1 13 ∧ τ_170.1 13 ≤ 90000 := hT.1 13
        have v14 : 0 ≤ τ_170.1 14 ∧ τ_170.1 14 ≤ 20000 := hT.1 14
        have v15 : 0 ≤ τ_170.1 15 ∧ τ_170.1 15 ≤ 20000 := hT.1 15
        have v17 : 0 ≤ τ_170.1 17 ∧ τ_170.1 17 ≤ 42000 := hT.1 17
        have v18 : 0 ≤ τ_170.1 18 ∧ τ_170.1 18 ≤ 42000 := hT.1 18
        have v19 : 0 ≤ τ_170.1 19 ∧ τ_170.1 19 ≤ 1000 := hT.1 19
        have v54 : 0 ≤ τ_170.1 54 ∧ τ_170.1 54 ≤ 12000 := hT.1 54
        have v60 : 0 ≤ τ_170.1 60 ∧ τ_170.1 60 ≤ 1048576 := hT.1 60
        have CJ : J_all (τ_170.1 7) (τ_170.1 6) (τ_170.1 13) (τ_170.1 14) (τ_170.1 15) (τ_170.2.1 13) (τ_170.2.1 14) (τ_170.2.1 15) (τ_170.2.1 16) (τ_170.2.1 10) (τ_170.2.1 27) (τ_170.2.1 28) (τ_170.2.1 29) (τ_170.2.1 30) (τ_170.2.1 31) (τ_170.2.1 32) (τ_170.2.1 33) (τ_170.2.1 34) (τ_170.2.1 35) (τ_170.2.1 36) (τ_170.2.1 37) := by rw [show (J_all (τ_170.1 7) (τ_170.1 6) (τ_170.1 13) (τ_170.1 14) (τ_170.1 15) (τ_170.2.1 13) (τ_170.2.1 14) (τ_170.2.1 15) (τ_170.2.1 16) (τ_170.2.1 10) (τ_170.2.1 27) (τ_170.2.1 28) (τ_170.2.1 29) (τ_170.2.1 30) (τ_170.2.1 31) (τ_170.2.1 32) (τ_170.2.1 33) (τ_170.2.1 34) (τ_170.2.1 35) (τ_170.2.1 36) (τ_170.2.1 37)) = (J_all (σ.1 7) (σ.1 6) (σ.1 13) (σ.1 14) (σ.1 15) (σ.2.1 13) (σ.2.1 14) (σ.2.1 15) (σ.2.1 16) (σ.2.1 10) (σ.2.1 27) (σ.2.1 28) (σ.2.1 29) (σ.2.1 30) (σ.2.1 31) (σ.2.1 32) (σ.2.1 33) (σ.2.1 34) (σ.2.1 35) (σ.2.1 36) (σ.2.1 37)) from by rw [W6, W7, W13, W14, W15, G10, G13, G14, G15, G16, G27, G28, G29, G30, G31, G32, G33, G34, G35, G36, G37]]; exact CJ_0
        have TRE : g_tre (τ_170.1 7) (τ_170.1 54) (τ_170.2.1 13) (τ_170.2.1 14) (τ_170.2.1 27) (τ_170.2.1 28) (τ_170.2.1 29) (τ_170.2.1 84) := by rw [show (g_tre (τ_170.1 7) (τ_170.1 54) (τ_170.2.1 13) (τ_170.2.1 14) (τ_170.2.1 27) (τ_170.2.1 28) (τ_170.2.1 29) (τ_170.2.1 84)) = (g_tre (σ.1 7) (σ.1 54) (σ.2.1 13) (σ.2.1 14) (σ.2.1 27) (σ.2.1 28) (σ.2.1 29) (σ.2.1 84)) from by rw [W7, W54, G13, G14, G27, G28, G29, G84]]; exact TRE_0
        have BD : g_bd (τ_170.1 60) (τ_170.2.1 95) (τ_170.2.1 98) (τ_170.2.1 99) (τ_170.2.1 97) (τ_170.2.1 28) := by rw [show (g_bd (τ_170.1 60) (τ_170.2.1 95) (τ_170.2.1 98) (τ_170.2.1 99) (τ_170.2.1 97) (τ_170.2.1 28)) = (g_bd (σ.1 60) (σ.2.1 95) (σ.2.1 98) (σ.2.1 99) (σ.2.1 97) (σ.2.1 28)) from by rw [W60, G28, G95, G97, G98, G99]]; exact BD_0
        have eb := g_ew_b i170_7
        refine h170 n1 n3 u4_170 u5_170 u7_170 k1_170 τ_170 ?_
        replace hT := cT_v (i := 17) hT (show 0 ≤ k1_170 ∧ k1_170 ≤ 42000 from by (first | omega | (simp only [st_s] <;> omega) | assumption | omega | fail))
        exact l_173 _ _ _ _ hT (show τ_170.1 6 = σ.1 6 from by first | exact W6 | omega) (show τ_170.1 7 = σ.1 7 from by first | exact W7 | omega) (show τ_170.1 13 = σ.1 13 from by first | exact W13 | omega) (show τ_170.1 14 = σ.1 14 from by first | exact W14 | omega) (show τ_170.1 15 = σ.1 15 from by first | exact W15 | omega) (show τ_170.1 54 = σ.1 54 from by first | exact W54 | omega) (show τ_170.1 60 = σ.1 60 from by first | exact W60 | omega) G10 G13 G14 G15 G16 G27 G28 G29 G30 G31 G32 G33 G34 G35 G36 G37 G84 G95 G97 G98 G99 G100 (show 0 ≤ u4_170 ∧ u4_170 ≤ n2 - 1 - u5_170 from by (first | omega | (simp only [st_s] <;> omega) | assumption | omega | fail)) (show 0 ≤ u5_170 ∧ u5_170 < n2 from by (first | omega | (simp only [st_s] <;> omega) | assumption | omega | fail)) (show (τ_170.1 18) = 42000 from by (first | omega | (simp only [st_s] <;> omega) | assumption | omega | fail)) (show 0 ≤ u7_170 ∧ u7_170 ≤ 1 from by (first | omega | (simp only [st_s] <;> omega) | assumption | omega | fail)) (show g_bt B (τ_170.1 19) (τ_170.2.1 43) from by (first | exact i170_5 | exact g_bt_a (g_bt0 _ _) i90_5 i90_6.2 | fail)) (show 0 ≤ (τ_170.1 19) ∧ (τ_170.1 19) ≤ 599 from by (first | omega | (simp only [st_s] <;> omega) | assumption | omega | fail)) (show g_ew B u4_170 (k1_170) (τ_170.2.1 40) (τ_170.2.1 41) (τ_170.2.1 39) from by (first | exact i170_7 | exact g_ew_0 i90_4 (by omega) | fail)) (show u5_170 + 2 ≤ (m_15 : Int) from by (first | omega | (simp only [st_s] <;> omega) | assumption | omega | fail)) (show n1 ≤ u5_170 from by (first | omega | (simp only [st_s] <;> omega) | assumption | omega | fail))
      have l_90 : ∀ (u4_90 : Int) (u5_90 : Int) (k1_90 : Int) (k2_90 : Int) (τ_90 : S0), (c_T τ_90) → (τ_90.1 6 = σ.1 6) → (τ_90.1 7 = σ.1 7) → (τ_90.1 13 = σ.1 13) → (τ_90.1 14 = σ.1 14) → (τ_90.1 15 = σ.1 15) → (τ_90.1 54 = σ.1 54) → (τ_90.1 60 = σ.1 60) → (τ_90.2.1 10 = σ.2.1 10) → (τ_90.2.1 13 = σ.2.1 13) → (τ_90.2.1 14 = σ.2.1 14) → (τ_90.2.1 15 = σ.2.1 15) → (τ_90.2.1 16 = σ.2.1 16) → (τ_90.2.1 27 = σ.2.1 27) → (τ_90.2.1 28 = σ.2.1 28) → (τ_90.2.1 29 = σ.2.1 29) → (τ_90.2.1 30 = σ.2.1 30) → (τ_90.2.1 31 = σ.2.1 31) → (τ_90.2.1 32 = σ.2.1 32) → (τ_90.2.1 33 = σ.2.1 33) → (τ_90.2.1 34 = σ.2.1 34) → (τ_90.2.1 35 = σ.2.1 35) → (τ_90.2.1 36 = σ.2.1 36) → (τ_90.2.1 37 = σ.2.1 37) → (τ_90.2.1 84 = σ.2.1 84) → (τ_90.2.1 95 = σ.2.1 95) → (τ_90.2.1 97 = σ.2.1 97) → (τ_90.2.1 98 = σ.2.1 98) → (τ_90.2.1 99 = σ.2.1 99) → (τ_90.2.1 100 = σ.2.1 100) → (0 ≤ u4_90 ∧ u4_90 ≤ n2 - 1 - u5_90) → (0 ≤ u5_90 ∧ u5_90 < n2) → ((τ_90.1 18) = 42000) → (g_ev B u4_90 (τ_90.1 17) (τ_90.2.1 40) (τ_90.2.1 41) (τ_90.2.1 39)) → (k1_90 = 0) → ((0 ≤ k2_90 ∧ k2_90 ≤ 1060) ∧ k2_90 < B) → (u5_90 + 2 ≤ (m_15 : Int)) → (n1 ≤ u5_90) → P90 n1 n3 u4_90 u5_90 1 k1_90 k2_90 τ_90 := by
        intro u4_90 u5_90 k1_90 k2_90 τ_90 hT W6 W7 W13 W14 W15 W54 W60 G10 G13 G14 G15 G16 G27 G28 G29 G30 G31 G32 G33 G34 G35 G36 G37 G84 G95 G97 G98 G99 G100 i90_1 i90_2 i90_3 i90_4 i90_5 i90_6 i90_7 i90_8
        have A10 : ∀ j, (-1) ≤ τ_90.2.1 10 j ∧ τ_90.2.1 10 j ≤ 99 := fun j => hT.2 10 j
        have A13 : ∀ j, 0 ≤ τ_90.2.1 13 j ∧ τ_90.2.1 13 j ≤ 4 := fun j => hT.2 13 j
        have A14 : ∀ j, 0 ≤ τ_90.2.1 14 j ∧ τ_90.2.1 14 j ≤ 30000 := fun j => hT.2 14 j
        have A15 : ∀ j, 0 ≤ τ_90.2.1 15 j ∧ τ_90.2.1 15 j ≤ 999 := fun j => hT.2 15 j
        have A16 : ∀ j, (-1) ≤ τ_90.2.1 16 j ∧ τ_90.2.1 16 j ≤ 1499 := fun j => hT.2 16 j
        have A27 : ∀ j, 0 ≤ τ_90.2.1 27 j ∧ τ_90.2.1 27 j ≤ 90000 := fun j => hT.2 27 j
        have A28 : ∀ j, 0 ≤ τ_90.2.1 28 j ∧ τ_90.2.1 28 j ≤ 60 := fun j => hT.2 28 j
        have A29 : ∀ j, 0 ≤ τ_90.2.1 29 j ∧ τ_90.2.1 29 j ≤ 1499 := fun j => hT.2 29 j
        have A30 : ∀ j, 0 ≤ τ_90.2.1 30 j ∧ τ_90.2.1 30 j ≤ 20000 := fun j => hT.2 30 j
        have A31 : ∀ j, 0 ≤ τ_90.2.1 31 j ∧ τ_90.2.1 31 j ≤ 20000 := fun j => hT.2 31 j
        have A32 : ∀ j, 0 ≤ τ_90.2.1 32 j ∧ τ_90.2.1 32 j ≤ 999999 := fun j => hT.2 32 j
        have A33 : ∀ j, 0 ≤ τ_90.2.1 33 j ∧ τ_90.2.1 33 j ≤ 20000 := fun j => hT.2 33 j
        have A34 : ∀ j, 0 ≤ τ_90.2.1 34 j ∧ τ_90.2.1 34 j ≤ 20000 := fun j => hT.2 34 j
        have A35 : ∀ j, 0 ≤ τ_90.2.1 35 j ∧ τ_90.2.1 35 j ≤ 1499 := fun j => hT.2 35 j
        have A36 : ∀ j, 0 ≤ τ_90.2.1 36 j ∧ τ_90.2.1 36 j ≤ 20000 := fun j => hT.2 36 j
        have A37 : ∀ j, 0 ≤ τ_90.2.1 37 j ∧ τ_90.2.1 37 j ≤ 19999 := fun j => hT.2 37 j
        have A39 : ∀ j, 0 ≤ τ_90.2.1 39 j ∧ τ_90.2.1 39 j ≤ 1060 := fun j => hT.2 39 j
        have A40 : ∀ j, 0 ≤ τ_90.2.1 40 j ∧ τ_90.2.1 40 j ≤ 42000 := fun j => hT.2 40 j
        have A41 : ∀ j, (-2) ≤ τ_90.2.1 41 j ∧ τ_90.2.1 41 j ≤ 1000 := fun j => hT.2 41 j
        have A43 : ∀ j, 0 ≤ τ_90.2.1 43 j ∧ τ_90.2.1 43 j ≤ 1060 := fun j => hT.2 43 j
        have A84 : ∀ j, 0 ≤ τ_90.2.1 84 j ∧ τ_90.2.1 84 j ≤ 1499 := fun j => hT.2 84 j
        have A95 : ∀ j, 0 ≤ τ_90.2.1 95 j ∧ τ_90.2.1 95 j ≤ 1500 := fun j => hT.2 95 j
        have A97 : ∀ j, 0 ≤ τ_90.2.1 97 j ∧ τ_90.2.1 97 j ≤ 1060 := fun j => hT.2 97 j
        have A98 : ∀ j, 0 ≤ τ_90.2.1 98 j ∧ τ_90.2.1 98 j ≤ 1048576 := fun j => hT.2 98 j
        have A99 : ∀ j, (-2) ≤ τ_90.2.1 99 j ∧ τ_90.2.1 99 j ≤ 600 := fun j => hT.2 99 j
        have A100 : ∀ j, 0 ≤ τ_90.2.1 100 j ∧ τ_90.2.1 100 j ≤ 1060 := fun j => hT.2 100 j
        have v6 : 0 ≤ τ_90.1 6 ∧ τ_90.1 6 ≤ 30000 := hT.1 6
        have v7 : 0 ≤ τ_90.1 7 ∧ τ_90.1 7 ≤ 1500 := hT.1 7
        have v13 : 0 ≤ τ_90.1 13 ∧ τ_90.1 13 ≤ 90000 := hT.1 13
        have v14 : 0 ≤ τ_90.1 14 ∧ τ_90.1 14 ≤ 20000 := hT.1 14
        have v15 : 0 ≤ τ_90.1 15 ∧ τ_90.1 15 ≤ 20000 := hT.1 15
        have v17 : 0 ≤ τ_90.1 17 ∧ τ_90.1 17 ≤ 42000 := hT.1 17
        have v18 : 0 ≤ τ_90.1 18 ∧ τ_90.1 18 ≤ 42000 := hT.1 18
        have v19 : 0 ≤ τ_90.1 19 ∧ τ_90.1 19 ≤ 1000 := hT.1 19
        have v54 : 0 ≤ τ_90.1 54 ∧ τ_90.1 54 ≤ 12000 := hT.1 54
        have v60 : 0 ≤ τ_90.1 60 ∧ τ_90.1 60 ≤ 1048576 := hT.1 60
        have CJ : J_all (τ_90.1 7) (τ_90.1 6) (τ_90.1 13) (τ_90.1 14) (τ_90.1 15) (τ_90.2.1 13) (τ_90.2.1 14) (τ_90.2.1 15) (τ_90.2.1 16) (τ_90.2.1 10) (τ_90.2.1 27) (τ_90.2.1 28) (τ_90.2.1 29) (τ_90.2.1 30) (τ_90.2.1 31) (τ_90.2.1 32) (τ_90.2.1 33) (τ_90.2.1 34) (τ_90.2.1 35) (τ_90.2.1 36) (τ_90.2.1 37) := by rw [show (J_all (τ_90.1 7) (τ_90.1 6) (τ_90.1 13) (τ_90.1 14) (τ_90.1 15) (τ_90.2.1 13) (τ_90.2.1 14) (τ_90.2.1 15) (τ_90.2.1 16) (τ_90.2.1 10) (τ_90.2.1 27) (τ_90.2.1 28) (τ_90.2.1 29) (τ_90.2.1 30) (τ_90.2.1 31) (τ_90.2.1 32) (τ_90.2.1 33) (τ_90.2.1 34) (τ_90.2.1 35) (τ_90.2.1 36) (τ_90.2.1 37)) = (J_all (σ.1 7) (σ.1 6) (σ.1 13) (σ.1 14) (σ.1 15) (σ.2.1 13) (σ.2.1 14) (σ.2.1 15) (σ.2.1 16) (σ.2.1 10) (σ.2.1 27) (σ.2.1 28) (σ.2.1 29) (σ.2.1 30) (σ.2.1 31) (σ.2.1 32) (σ.2.1 33) (σ.2.1 34) (σ.2.1 35) (σ.2.1 36) (σ.2.1 37)) from by rw [W6, W7, W13, W14, W15, G10, G13, G14, G15, G16, G27, G28, G29, G30, G31, G32, G33, G34, G35, G36, G37]]; exact CJ_0
        have TRE : g_tre (τ_90.1 7) (τ_90.1 54) (τ_90.2.1 13) (τ_90.2.1 14) (τ_90.2.1 27) (τ_90.2.1 28) (τ_90.2.1 29) (τ_90.2.1 84) := by rw [show (g_tre (τ_90.1 7) (τ_90.1 54) (τ_90.2.1 13) (τ_90.2.1 14) (τ_90.2.1 27) (τ_90.2.1 28) (τ_90.2.1 29) (τ_90.2.1 84)) = (g_tre (σ.1 7) (σ.1 54) (σ.2.1 13) (σ.2.1 14) (σ.2.1 27) (σ.2.1 28) (σ.2.1 29) (σ.2.1 84)) from by rw [W7, W54, G13, G14, G27, G28, G29, G84]]; exact TRE_0
        have BD : g_bd (τ_90.1 60) (τ_90.2.1 95) (τ_90.2.1 98) (τ_90.2.1 99) (τ_90.2.1 97) (τ_90.2.1 28) := by rw [show (g_bd (τ_90.1 60) (τ_90.2.1 95) (τ_90.2.1 98) (τ_90.2.1 99) (τ_90.2.1 97) (τ_90.2.1 28)) = (g_bd (σ.1 60) (σ.2.1 95) (σ.2.1 98) (σ.2.1 99) (σ.2.1 97) (σ.2.1 28)) from by rw [W60, G28, G95, G97, G98, G99]]; exact BD_0
        refine h90 n1 n3 u4_90 u5_90 1 k1_90 k2_90 τ_90 ?_
        refine ⟨(show 0 ≤ k1_90 ∧ k1_90 < 1000 from by (first | omega | (simp only [st_s] <;> omega) | assumption | omega | fail)), ?_⟩
        replace hT := cT_a (k := 43) (j := k1_90) hT (show (0 : Int) ≤ k2_90 ∧ k2_90 ≤ 1060 from by (first | omega | (simp only [st_s] <;> omega) | assumption | omega | fail))
        replace hT := cT_v (i := 19) hT (show (0 : Int) ≤ 1 ∧ 1 ≤ 1000 from by (first | omega | (simp only [st_s] <;> omega) | assumption | omega | fail))
        exact l_173 _ _ _ _ hT (show τ_90.1 6 = σ.1 6 from by first | exact W6 | omega) (show τ_90.1 7 = σ.1 7 from by first | exact W7 | omega) (show τ_90.1 13 = σ.1 13 from by first | exact W13 | omega) (show τ_90.1 14 = σ.1 14 from by first | exact W14 | omega) (show τ_90.1 15 = σ.1 15 from by first | exact W15 | omega) (show τ_90.1 54 = σ.1 54 from by first | exact W54 | omega) (show τ_90.1 60 = σ.1 60 from by first | exact W60 | omega) G10 G13 G14 G15 G16 G27 G28 G29 G30 G31 G32 G33 G34 G35 G36 G37 G84 G95 G97 G98 G99 G100 (show 0 ≤ u4_90 ∧ u4_90 ≤ n2 - 1 - u5_90 from by (first | omega | (simp only [st_s] <;> omega) | assumption | omega | fail)) (show 0 ≤ u5_90 ∧ u5_90 < n2 from by (first | omega | (simp only [st_s] <;> omega) | assumption | omega | fail)) (show (τ_90.1 18) = 42000 from by (first | omega | (simp only [st_s] <;> omega) | assumption | omega | fail)) (show 0 ≤ 1 ∧ 1 ≤ 1 from by (first | omega | (simp only [st_s] <;> omega) | assumption | omega | fail)) (show g_bt B ((1 : Int)) ((st (τ_90.2.1 43) k1_90 k2_90)) from by (first | exact i170_5 | exact g_bt_a (g_bt0 _ _) i90_5 i90_6.2 | fail)) (show 0 ≤ ((1 : Int)) ∧ ((1 : Int)) ≤ 599 from by (first | omega | (simp only [st_s] <;> omega) | assumption | omega | fail)) (show g_ew B u4_90 (τ_90.1 17) (τ_90.2.1 40) (τ_90.2.1 41) (τ_90.2.1 39) from by (first | exact i170_7 | exact g_ew_0 i90_4 (by omega) | fail)) (show u5_90 + 2 ≤ (m_15 : Int) from by (first | omega | (simp only [st_s] <;> omega) | assumption | omega | fail)) (show n1 ≤ u5_90 from by (first | omega | (simp only [st_s] <;> omega) | assumption | omega | fail))
      refine h15 n1 n3 u4_15 u5_15 τ_15 ?_
      refine ⟨fun c5 => ?_, fun c5 => ?_⟩
      ·
        refine ⟨fun c6 => ?_, fun c6 => ?_⟩
        ·
          exact ⟨hT, (show 0 ≤ 0 ∧ 0 ≤ 1 from by (first | omega | (simp only [st_s] <;> omega) | assumption | omega | fail)), (show ¬ 0 = 0 → g_ev B 1 (τ_15.1 17) (τ_15.2.1 40) (τ_15.2.1 41) (τ_15.2.1 39) ∧ 0 ≤ τ_15.2.1 41 0 from by (first | (intro z; exfalso; omega) | (intro _; have e : u4_15 = 1 := (by omega); rw [e] at i15_3; exact ⟨i15_3, by have b := (i15_3.2 0 (by omega) (by omega)).2.2.resolve_left (by rw [← e_x7]; assumption); exact b.1.1⟩) | fail))⟩
        ·
          intro x7 r_x7 e_x7
          have b_x7 : (-2) ≤ x7 ∧ x7 ≤ 1000 := by rw [e_x7]; exact hT.2 41 _
          refine ⟨fun c8 => ?_, fun c8 => ?_⟩
          ·
            exact ⟨hT, (show 0 ≤ 0 ∧ 0 ≤ 1 from by (first | omega | (simp only [st_s] <;> omega) | assumption | omega | fail)), (show ¬ 0 = 0 → g_ev B 1 (τ_15.1 17) (τ_15.2.1 40) (τ_15.2.1 41) (τ_15.2.1 39) ∧ 0 ≤ τ_15.2.1 41 0 from by (first | (intro z; exfalso; omega) | (intro _; have e : u4_15 = 1 := (by omega); rw [e] at i15_3; exact ⟨i15_3, by have b := (i15_3.2 0 (by omega) (by omega)).2.2.resolve_left (by rw [← e_x7]; assumption); exact b.1.1⟩) | fail))⟩
          ·
            exact ⟨hT, (show 0 ≤ 1 ∧ 1 ≤ 1 from by (first | omega | (simp only [st_s] <;> omega) | assumption | omega | fail)), (show ¬ 1 = 0 → g_ev B 1 (τ_15.1 17) (τ_15.2.1 40) (τ_15.2.1 41) (τ_15.2.1 39) ∧ 0 ≤ τ_15.2.1 41 0 from by (first | (intro z; exfalso; omega) | (intro _; have e : u4_15 = 1 := (by omega); rw [e] at i15_3; exact ⟨i15_3, by have b := (i15_3.2 0 (by omega) (by omega)).2.2.resolve_left (by rw [← e_x7]; assumption); exact b.1.1⟩) | fail))⟩
      ·
        refine ⟨(show 0 ≤ u5_15 ∧ u5_15 < 12000 from by (first | omega | (simp only [st_s] <;> omega) | assumption | omega | fail)), ?_⟩
        intro x10 r_x10 e_x10
        have b_x10 : 0 ≤ x10 ∧ x10 ≤ 1499 := by rw [e_x10]; exact hT.2 84 _
        refine ⟨(show 0 ≤ x10 ∧ x10 < 1500 from by (first | omega | (simp only [st_s] <;> omega) | assumption | omega | fail)), ?_⟩
        intro x12 r_x12 e_x12
        have b_x12 : 0 ≤ x12 ∧ x12 ≤ 4 := by rw [e_x12]; exact hT.2 13 _
        refine ⟨fun c13 => ?_, fun c13 => ?_⟩
        ·
          have nd := nds u5_15 (by omega) (by omega)
          have e10 : x10 = σ.2.1 84 u5_15 := by rw [e_x10, G84]
          rw [← e10] at nd
          have nd1 := nd.1
          have e12 : x12 = σ.2.1 13 x10 := by rw [e_x12, G13]
          intro x14 r_x14 e_x14
          have b_x14 : 0 ≤ x14 ∧ x14 ≤ 60 := by rw [e_x14]; exact hT.2 28 _
          rw [G28] at e_x14
          refine ⟨fun c15 => ?_, fun c15 => ?_⟩
          ·
            refine ⟨(⟨by (first | omega | (simp only [st_s] <;> omega) | assumption | omega | fail), by (first | omega | (simp only [st_s] <;> omega) | assumption | omega | fail)⟩ : rg (u4_15 - x14)), ?_⟩
            obtain ⟨rows, e_rows⟩ : ∃ z : Int, z = u4_15 := ⟨_, rfl⟩
            have k2 := (nd.2.resolve_left (by omega)).1
            refine ⟨_, K_X2_compose hT (show 0 ≤ x10 from by (first | omega | (simp only [st_s] <;> omega) | assumption | omega | fail)) (show x10 < (τ_15.1 7) from by (first | omega | (simp only [st_s] <;> omega) | assumption | omega | fail)) (show τ_15.2.1 13 x10 = 2 from by (first | omega | (simp only [st_s] <;> omega) | assumption | omega | fail)) (show J_all (τ_15.1 7) (τ_15.1 6) (τ_15.1 13) (τ_15.1 14) (τ_15.1 15) (τ_15.2.1 13) (τ_15.2.1 14) (τ_15.2.1 15) (τ_15.2.1 16) (τ_15.2.1 10) (τ_15.2.1 27) (τ_15.2.1 28) (τ_15.2.1 29) (τ_15.2.1 30) (τ_15.2.1 31) (τ_15.2.1 32) (τ_15.2.1 33) (τ_15.2.1 34) (τ_15.2.1 35) (τ_15.2.1 36) (τ_15.2.1 37) from CJ) (show 0 ≤ (u4_15 - x14) from by (first | omega | (simp only [st_s] <;> omega) | assumption | omega | fail)) (show (u4_15 - x14) + τ_15.2.1 28 x10 ≤ rows from by (rw [G28]; omega)) (show rows ≤ 12000 from by (first | omega | (simp only [st_s] <;> omega) | assumption | omega | fail)) (show g_ev B rows (τ_15.1 17) (τ_15.2.1 40) (τ_15.2.1 41) (τ_15.2.1 39) from by (rw [e_rows]; exact i15_3)) (show g_bd (τ_15.1 60) (τ_15.2.1 95) (τ_15.2.1 98) (τ_15.2.1 99) (τ_15.2.1 97) (τ_15.2.1 28) from BD) (show (τ_15.1 60) ≤ (lb : Int) from by (first | omega | (simp only [st_s] <;> omega) | assumption | omega | fail)) (show 1000 ≤ B from by (first | omega | (simp only [st_s] <;> omega) | assumption | omega | fail)), ?_⟩
            intro x18 τ19 r_x18 hn_τ19 hf_τ19 hq
            obtain ⟨hT, q17_1, q17_2, q17_3⟩ := hq
            replace q17_1 : 0 ≤ x18 ∧ x18 ≤ 1 := q17_1
            replace q17_2 : g_bt B (τ19.1 19) (τ19.2.1 43) := q17_2
            replace q17_3 : 0 ≤ (τ19.1 19) ∧ (τ19.1 19) ≤ 599 := q17_3
            have w6_τ19 : τ19.1 6 = τ_15.1 6 := hf_τ19.1 6 (by decide)
            have w7_τ19 : τ19.1 7 = τ_15.1 7 := hf_τ19.1 7 (by decide)
            have w13_τ19 : τ19.1 13 = τ_15.1 13 := hf_τ19.1 13 (by decide)
            have w14_τ19 : τ19.1 14 = τ_15.1 14 := hf_τ19.1 14 (by decide)
            have w15_τ19 : τ19.1 15 = τ_15.1 15 := hf_τ19.1 15 (by decide)
            have w17_τ19 : τ19.1 17 = τ_15.1 17 := hf_τ19.1 17 (by decide)
            have w18_τ19 : τ19.1 18 = τ_15.1 18 := hf_τ19.1 18 (by decide)
            have w54_τ19 : τ19.1 54 = τ_15.1 54 := hf_τ19.1 54 (by decide)
            have w60_τ19 : τ19.1 60 = τ_15.1 60 := hf_τ19.1 60 (by decide)
            have g10_τ19 : τ19.2.1 10 = τ_15.2.1 10 := hf_τ19.2.1 10 (by decide)
            have g13_τ19 : τ19.2.1 13 = τ_15.2.1 13 := hf_τ19.2.1 13 (by decide)
            have g14_τ19 : τ19.2.1 14 = τ_15.2.1 14 := hf_τ19.2.1 14 (by decide)
            have g15_τ19 : τ19.2.1 15 = τ_15.2.1 15 := hf_τ19.2.1 15 (by decide)
            have g16_τ19 : τ19.2.1 16 = τ_15.2.1 16 := hf_τ19.2.1 16 (by decide)
            have g27_τ19 : τ19.2.1 27 = τ_15.2.1 27 := hf_τ19.2.1 27 (by decide)
            have g28_τ19 : τ19.2.1 28 = τ_15.2.1 28 := hf_τ19.2.1 28 (by decide)
            have g29_τ19 : τ19.2.1 29 = τ_15.2.1 29 := hf_τ19.2.1 29 (by decide)
            have g30_τ19 : τ19.2.1 30 = τ_15.2.1 30 := hf_τ19.2.1 30 (by decide)
            have g31_τ19 : τ19.2.1 31 = τ_15.2.1 31 := hf_τ19.2.1 31 (by decide)
            have g32_τ19 : τ19.2.1 32 = τ_15.2.1 32 := hf_τ19.2.1 32 (by decide)
            have g33_τ19 : τ19.2.1 33 = τ_15.2.1 33 := hf_τ19.2.1 33 (by decide)
            have g34_τ19 : τ19.2.1 34 = τ_15.2.1 34 := hf_τ19.2.1 34 (by decide)
            have g35_τ19 : τ19.2.1 35 = τ_15.2.1 35 := hf_τ19.2.1 35 (by decide)
            have g36_τ19 : τ19.2.1 36 = τ_15.2.1 36 := hf_τ19.2.1 36 (by decide)
            have g37_τ19 : τ19.2.1 37 = τ_15.2.1 37 := hf_τ19.2.1 37 (by decide)
            have g39_τ19 : τ19.2.1 39 = τ_15.2.1 39 := hf_τ19.2.1 39 (by decide)
            have g40_τ19 : τ19.2.1 40 = τ_15.2.1 40 := hf_τ19.2.1 40 (by decide)
            have g41_τ19 : τ19.2.1 41 = τ_15.2.1 41 := hf_τ19.2.1 41 (by decide)
            have g84_τ19 : τ19.2.1 84 = τ_15.2.1 84 := hf_τ19.2.1 84 (by decide)
            have g95_τ19 : τ19.2.1 95 = τ_15.2.1 95 := hf_τ19.2.1 95 (by decide)
            have g97_τ19 : τ19.2.1 97 = τ_15.2.1 97 := hf_τ19.2.1 97 (by decide)
            have g98_τ19 : τ19.2.1 98 = τ_15.2.1 98 := hf_τ19.2.1 98 (by decide)
            have g99_τ19 : τ19.2.1 99 = τ_15.2.1 99 := hf_τ19.2.1 99 (by decide)
            have g100_τ19 : τ19.2.1 100 = τ_15.2.1 100 := hf_τ19.2.1 100 (by decide)
            have W6 : τ19.1 6 = σ.1 6 := by first | exact w6_τ19.trans W6 | omega
            have W7 : τ19.1 7 = σ.1 7 := by first | exact w7_τ19.trans W7 | omega
            have W13 : τ19.1 13 = σ.1 13 := by first | exact w13_τ19.trans W13 | omega
            have W14 : τ19.1 14 = σ.1 14 := by first | exact w14_τ19.trans W14 | omega
            have W15 : τ19.1 15 = σ.1 15 := by first | exact w15_τ19.trans W15 | omega
            have W54 : τ19.1 54 = σ.1 54 := by first | exact w54_τ19.trans W54 | omega
            have W60 : τ19.1 60 = σ.1 60 := by first | exact w60_τ19.trans W60 | omega
            have G10 : τ19.2.1 10 = σ.2.1 10 := (g10_τ19).trans G10
            have G13 : τ19.2.1 13 = σ.2.1 13 := (g13_τ19).trans G13
            have G14 : τ19.2.1 14 = σ.2.1 14 := (g14_τ19).trans G14
            have G15 : τ19.2.1 15 = σ.2.1 15 := (g15_τ19).trans G15
            have G16 : τ19.2.1 16 = σ.2.1 16 := (g16_τ19).trans G16
            have G27 : τ19.2.1 27 = σ.2.1 27 := (g27_τ19).trans G27
            have G28 : τ19.2.1 28 = σ.2.1 28 := (g28_τ19).trans G28
            have G29 : τ19.2.1 29 = σ.2.1 29 := (g29_τ19).trans G29
            have G30 : τ19.2.1 30 = σ.2.1 30 := (g30_τ19).trans G30
            have G31 : τ19.2.1 31 = σ.2.1 31 := (g31_τ19).trans G31
            have G32 : τ19.2.1 32 = σ.2.1 32 := (g32_τ19).trans G32
            have G33 : τ19.2.1 33 = σ.2.1 33 := (g33_τ19).trans G33
            have G34 : τ19.2.1 34 = σ.2.1 34 := (g34_τ19).trans G34
            have G35 : τ19.2.1 35 = σ.2.1 35 := (g35_τ19).trans G35
            have G36 : τ19.2.1 36 = σ.2.1 36 := (g36_τ19).trans G36
            have G37 : τ19.2.1 37 = σ.2.1 37 := (g37_τ19).trans G37
            have G84 : τ19.2.1 84 = σ.2.1 84 := (g84_τ19).trans G84
            have G95 : τ19.2.1 95 = σ.2.1 95 := (g95_τ19).trans G95
            have G97 : τ19.2.1 97 = σ.2.1 97 := (g97_τ19).trans G97
            have G98 : τ19.2.1 98 = σ.2.1 98 := (g98_τ19).trans G98
            have G99 : τ19.2.1 99 = σ.2.1 99 := (g99_τ19).trans G99
            have G100 : τ19.2.1 100 = σ.2.1 100 := (g100_τ19).trans G100
            have CJ : J_all (τ19.1 7) (τ19.1 6) (τ19.1 13) (τ19.1 14) (τ19.1 15) (τ19.2.1 13) (τ19.2.1 14) (τ19.2.1 15) (τ19.2.1 16) (τ19.2.1 10) (τ19.2.1 27) (τ19.2.1 28) (τ19.2.1 29) (τ19.2.1 30) (τ19.2.1 31) (τ19.2.1 32) (τ19.2.1 33) (τ19.2.1 34) (τ19.2.1 35) (τ19.2.1 36) (τ19.2.1 37) := by rw [show (J_all (τ19.1 7) (τ19.1 6) (τ19.1 13) (τ19.1 14) (τ19.1 15) (τ19.2.1 13) (τ19.2.1 14) (τ19.2.1 15) (τ19.2.1 16) (τ19.2.1 10) (τ19.2.1 27) (τ19.2.1 28) (τ19.2.1 29) (τ19.2.1 30) (τ19.2.1 31) (τ19.2.1 32) (τ19.2.1 33) (τ19.2.1 34) (τ19.2.1 35) (τ19.2.1 36) (τ19.2.1 37)) = (J_all (τ_15.1 7) (τ_15.1 6) (τ_15.1 13) (τ_15.1 14) (τ_15.1 15) (τ_15.2.1 13) (τ_15.2.1 14) (τ_15.2.1 15) (τ_15.2.1 16) (τ_15.2.1 10) (τ_15.2.1 27) (τ_15.2.1 28) (τ_15.2.1 29) (τ_15.2.1 30) (τ_15.2.1 31) (τ_15.2.1 32) (τ_15.2.1 33) (τ_15.2.1 34) (τ_15.2.1 35) (τ_15.2.1 36) (τ_15.2.1 37)) from by rw [w6_τ19, w7_τ19, w13_τ19, w14_τ19, w15_τ19, g10_τ19, g13_τ19, g14_τ19, g15_τ19, g16_τ19, g27_τ19, g28_τ19, g29_τ19, g30_τ19, g31_τ19, g32_τ19, g33_τ19, g34_τ19, g35_τ19, g36_τ19, g37_τ19]]; exact CJ
            have TRE : g_tre (τ19.1 7) (τ19.1 54) (τ19.2.1 13) (τ19.2.1 14) (τ19.2.1 27) (τ19.2.1 28) (τ19.2.1 29) (τ19.2.1 84) := by rw [show (g_tre (τ19.1 7) (τ19.1 54) (τ19.2.1 13) (τ19.2.1 14) (τ19.2.1 27) (τ19.2.1 28) (τ19.2.1 29) (τ19.2.1 84)) = (g_tre (τ_15.1 7) (τ_15.1 54) (τ_15.2.1 13) (τ_15.2.1 14) (τ_15.2.1 27) (τ_15.2.1 28) (τ_15.2.1 29) (τ_15.2.1 84)) from by rw [w7_τ19, w54_τ19, g13_τ19, g14_τ19, g27_τ19, g28_τ19, g29_τ19, g84_τ19]]; exact TRE
            have BD : g_bd (τ19.1 60) (τ19.2.1 95) (τ19.2.1 98) (τ19.2.1 99) (τ19.2.1 97) (τ19.2.1 28) := by rw [show (g_bd (τ19.1 60) (τ19.2.1 95) (τ19.2.1 98) (τ19.2.1 99) (τ19.2.1 97) (τ19.2.1 28)) = (g_bd (τ_15.1 60) (τ_15.2.1 95) (τ_15.2.1 98) (τ_15.2.1 99) (τ_15.2.1 97) (τ_15.2.1 28)) from by rw [w60_τ19, g28_τ19, g95_τ19, g97_τ19, g98_τ19, g99_τ19]]; exact BD
            have A10 : ∀ j, (-1) ≤ τ19.2.1 10 j ∧ τ19.2.1 10 j ≤ 99 := fun j => hT.2 10 j
            have A13 : ∀ j, 0 ≤ τ19.2.1 13 j ∧ τ19.2.1 13 j ≤ 4 := fun j => hT.2 13 j
            have A14 : ∀ j, 0 ≤ τ19.2.1 14 j ∧ τ19.2.1 14 j ≤ 30000 := fun j => hT.2 14 j
            have A15 : ∀ j, 0 ≤ τ19.2.1 15 j ∧ τ19.2.1 15 j ≤ 999 := fun j => hT.2 15 j
            have A16 : ∀ j, (-1) ≤ τ19.2.1 16 j ∧ τ19.2.1 16 j ≤ 1499 := fun j => hT.2 16 j
            have A27 : ∀ j, 0 ≤ τ19.2.1 27 j ∧ τ19.2.1 27 j ≤ 90000 := fun j => hT.2 27 j
            have A28 : ∀ j, 0 ≤ τ19.2.1 28 j ∧ τ19.2.1 28 j ≤ 60 := fun j => hT.2 28 j
            have A29 : ∀ j, 0 ≤ τ19.2.1 29 j ∧ τ19.2.1 29 j ≤ 1499 := fun j => hT.2 29 j
            have A30 : ∀ j, 0 ≤ τ19.2.1 30 j ∧ τ19.2.1 30 j ≤ 20000 := fun j => hT.2 30 j
            have A31 : ∀ j, 0 ≤ τ19.2.1 31 j ∧ τ19.2.1 31 j ≤ 20000 := fun j => hT.2 31 j
            have A32 : ∀ j, 0 ≤ τ19.2.1 32 j ∧ τ19.2.1 32 j ≤ 999999 := fun j => hT.2 32 j
            have A33 : ∀ j, 0 ≤ τ19.2.1 33 j ∧ τ19.2.1 33 j ≤ 20000 := fun j => hT.2 33 j
            have A34 : ∀ j, 0 ≤ τ19.2.1 34 j ∧ τ19.2.1 34 j ≤ 20000 := fun j => hT.2 34 j
            have A35 : ∀ j, 0 ≤ τ19.2.1 35 j ∧ τ19.2.1 35 j ≤ 1499 := fun j => hT.2 35 j
            have A36 : ∀ j, 0 ≤ τ19.2.1 36 j ∧ τ19.2.1 36 j ≤ 20000 := fun j => hT.2 36 j
            have A37 : ∀ j, 0 ≤ τ19.2.1 37 j ∧ τ19.2.1 37 j ≤ 19999 := fun j => hT.2 37 j
            have A39 : ∀ j, 0 ≤ τ19.2.1 39 j ∧ τ19.2.1 39 j ≤ 1060 := fun j => hT.2 39 j
            have A40 : ∀ j, 0 ≤ τ19.2.1 40 j ∧ τ19.2.1 40 j ≤ 42000 := fun j => hT.2 40 j
            have A41 : ∀ j, (-2) ≤ τ19.2.1 41 j ∧ τ19.2.1 41 j ≤ 1000 := fun j => hT.2 41 j
            have A43 : ∀ j, 0 ≤ τ19.2.1 43 j ∧ τ19.2.1 43 j ≤ 1060 := fun j => hT.2 43 j
            have A84 : ∀ j, 0 ≤ τ19.2.1 84 j ∧ τ19.2.1 84 j ≤ 1499 := fun j => hT.2 84 j
            have A95 : ∀ j, 0 ≤ τ19.2.1 95 j ∧ τ19.2.1 95 j ≤ 1500 := fun j => hT.2 95 j
            have A97 : ∀ j, 0 ≤ τ19.2.1 97 j ∧ τ19.2.1 97 j ≤ 1060 := fun j => hT.2 97 j
            have A98 : ∀ j, 0 ≤ τ19.2.1 98 j ∧ τ19.2.1 98 j ≤ 1048576 := fun j => hT.2 98 j
            have A99 : ∀ j, (-2) ≤ τ19.2.1 99 j ∧ τ19.2.1 99 j ≤ 600 := fun j => hT.2 99 j
            have A100 : ∀ j, 0 ≤ τ19.2.1 100 j ∧ τ19.2.1 100 j ≤ 1060 := fun j => hT.2 100 j
            have v6 : 0 ≤ τ19.1 6 ∧ τ19.1 6 ≤ 30000 := hT.1 6
            have v7 : 0 ≤ τ19.1 7 ∧ τ19.1 7 ≤ 1500 := hT.1 7
            have v13 : 0 ≤ τ19.1 13 ∧ τ19.1 13 ≤ 90000 := hT.1 13
            have v14 : 0 ≤ τ19.1 14 ∧ τ19.1 14 ≤ 20000 := hT.1 14
            have v15 : 0 ≤ τ19.1 15 ∧ τ19.1 15 ≤ 20000 := hT.1 15
            have v17 : 0 ≤ τ19.1 17 ∧ τ19.1 17 ≤ 42000 := hT.1 17
            have v18 : 0 ≤ τ19.1 18 ∧ τ19.1 18 ≤ 42000 := hT.1 18
            have v19 : 0 ≤ τ19.1 19 ∧ τ19.1 19 ≤ 1000 := hT.1 19
            have v54 : 0 ≤ τ19.1 54 ∧ τ19.1 54 ≤ 12000 := hT.1 54
            have v60 : 0 ≤ τ19.1 60 ∧ τ19.1 60 ≤ 1048576 := hT.1 60
            refine ⟨fun c20 => ?_, fun c20 => ?_⟩
            ·
              exact l_170 _ _ _ _ _ hT (show τ19.1 6 = σ.1 6 from by first | exact W6 | omega) (show τ19.1 7 = σ.1 7 from by first | exact W7 | omega) (show τ19.1 13 = σ.1 13 from by first | exact W13 | omega) (show τ19.1 14 = σ.1 14 from by first | exact W14 | omega) (show τ19.1 15 = σ.1 15 from by first | exact W15 | omega) (show τ19.1 54 = σ.1 54 from by first | exact W54 | omega) (show τ19.1 60 = σ.1 60 from by first | exact W60 | omega) G10 G13 G14 G15 G16 G27 G28 G29 G30 G31 G32 G33 G34 G35 G36 G37 G84 G95 G97 G98 G99 G100 (show 0 ≤ (u4_15 - x14) ∧ (u4_15 - x14) ≤ n2 - 1 - u5_15 from by (first | omega | (simp only [st_s] <;> omega) | assumption | omega | fail)) (show 0 ≤ u5_15 ∧ u5_15 < n2 from by (first | omega | (simp only [st_s] <;> omega) | assumption | omega | fail)) (show (τ19.1 18) = 42000 from by (first | omega | (simp only [st_s] <;> omega) | assumption | omega | fail)) (show 0 ≤ x18 ∧ x18 ≤ 1 from by (first | omega | (simp only [st_s] <;> omega) | assumption | omega | fail)) (show g_bt B (τ19.1 19) (τ19.2.1 43) from by (first | omega | (simp only [st_s] <;> omega) | assumption | omega | fail)) (show 0 ≤ (τ19.1 19) ∧ (τ19.1 19) ≤ 599 from by (first | omega | (simp only [st_s] <;> omega) | assumption | omega | fail)) (show g_ew B (u4_15 - x14) (τ19.1 17) (τ19.2.1 40) (τ19.2.1 41) (τ19.2.1 39) from by (rw [g40_τ19, g41_τ19, g39_τ19]; first | exact g_ew_k i15_3 (by omega) (by omega) (Or.inr ⟨by omega, by omega⟩) | exact g_ew_k i15_3 (by omega) (by omega) (Or.inl ⟨by omega, by rw [e_x22, g40_τ19]⟩))) (show u5_15 + 2 ≤ (m_15 : Int) from by (first | omega | (simp only [st_s] <;> omega) | assumption | omega | fail)) (show n1 ≤ u5_15 from by (first | omega | (simp only [st_s] <;> omega) | assumption | omega | fail))
            ·
              refine ⟨(show 0 ≤ (u4_15 - x14) ∧ (u4_15 - x14) < 20000 from by (first | omega | (simp only [st_s] <;> omega) | assumption | omega | fail)), ?_⟩
              intro x22 r_x22 e_x22
              have b_x22 : 0 ≤ x22 ∧ x22 ≤ 42000 := by rw [e_x22]; exact hT.2 40 _
              exact l_170 _ _ _ _ _ hT (show τ19.1 6 = σ.1 6 from by first | exact W6 | omega) (show τ19.1 7 = σ.1 7 from by first | exact W7 | omega) (show τ19.1 13 = σ.1 13 from by first | exact W13 | omega) (show τ19.1 14 = σ.1 14 from by first | exact W14 | omega) (show τ19.1 15 = σ.1 15 from by first | exact W15 | omega) (show τ19.1 54 = σ.1 54 from by first | exact W54 | omega) (show τ19.1 60 = σ.1 60 from by first | exact W60 | omega) G10 G13 G14 G15 G16 G27 G28 G29 G30 G31 G32 G33 G34 G35 G36 G37 G84 G95 G97 G98 G99 G100 (show 0 ≤ (u4_15 - x14) ∧ (u4_15 - x14) ≤ n2 - 1 - u5_15 from by (first | omega | (simp only [st_s] <;> omega) | assumption | omega | fail)) (show 0 ≤ u5_15 ∧ u5_15 < n2 from by (first | omega | (simp only [st_s] <;> omega) | assumption | omega | fail)) (show (τ19.1 18) = 42000 from by (first | omega | (simp only [st_s] <;> omega) | assumption | omega | fail)) (show 0 ≤ x18 ∧ x18 ≤ 1 from by (first | omega | (simp only [st_s] <;> omega) | assumption | omega | fail)) (show g_bt B (τ19.1 19) (τ19.2.1 43) from by (first | omega | (simp only [st_s] <;> omega) | assumption | omega | fail)) (show 0 ≤ (τ19.1 19) ∧ (τ19.1 19) ≤ 599 from by (first | omega | (simp only [st_s] <;> omega) | assumption | omega | fail)) (show g_ew B (u4_15 - x14) x22 (τ19.2.1 40) (τ19.2.1 41) (τ19.2.1 39) from by (rw [g40_τ19, g41_τ19, g39_τ19]; first | exact g_ew_k i15_3 (by omega) (by omega) (Or.inr ⟨by omega, by omega⟩) | exact g_ew_k i15_3 (by omega) (by omega) (Or.inl ⟨by omega, by rw [e_x22, g40_τ19]⟩))) (show u5_15 + 2 ≤ (m_15 : Int) from by (first | omega | (simp only [st_s] <;> omega) | assumption | omega | fail)) (show n1 ≤ u5_15 from by (first | omega | (simp only [st_s] <;> omega) | assumption | omega | fail))
          ·
            exact ⟨hT, (show 0 ≤ 0 ∧ 0 ≤ 1 from by (first | omega | (simp only [st_s] <;> omega) | assumption | omega | fail)), (show ¬ 0 = 0 → g_ev B 1 (τ_15.1 17) (τ_15.2.1 40) (τ_15.2.1 41) (τ_15.2.1 39) ∧ 0 ≤ τ_15.2.1 41 0 from by (first | (intro z; exfalso; omega) | (intro _; have e : u4_15 = 1 := (by omega); rw [e] at i15_3; exact ⟨i15_3, by have b := (i15_3.2 0 (by omega) (by omega)).2.2.resolve_left (by rw [← e_x7]; assumption); exact b.1.1⟩) | fail))⟩
        ·
          have nd := nds u5_15 (by omega) (by omega)
          have e10 : x10 = σ.2.1 84 u5_15 := by rw [e_x10, G84]
          rw [← e10] at nd
          have nd1 := nd.1
          have e12 : x12 = σ.2.1 13 x10 := by rw [e_x12, G13]
          have jt := (p3.1 x10 (by omega) (by omega)).1.1
          have jt2 := jt.2.2.2.1 (by omega)
          refine ⟨_, K_X3_variableOf hT (show 0 ≤ x10 from by (first | omega | (simp only [st_s] <;> omega) | assumption | omega | fail)) (show x10 ≤ 1500 from by (first | omega | (simp only [st_s] <;> omega) | assumption | omega | fail)) (show τ_15.2.1 14 x10 < 29999 from by (rw [G14]; omega)), ?_⟩
          intro x24 r_x24 hq
          obtain ⟨q23_1, q23_2⟩ := hq
          replace q23_1 : x24 = τ_15.2.1 15 (τ_15.2.1 14 x10 + 1) := q23_1
          replace q23_2 : 0 ≤ x24 ∧ x24 ≤ 999 := q23_2
          refine ⟨(show 0 ≤ x24 ∧ x24 < 1000 from by (first | omega | (simp only [st_s] <;> omega) | assumption | omega | fail)), ?_⟩
          intro x27 r_x27 e_x27
          have b_x27 : 0 ≤ x27 ∧ x27 ≤ 1060 := by rw [e_x27]; exact hT.2 100 _
          rw [G100] at e_x27
          have sl27 := p8 x24
          rw [← e_x27] at sl27
          refine ⟨fun c28 => ?_, fun c28 => ?_⟩
          ·
            intro x29 r_x29 e_x29
            have b_x29 : 0 ≤ x29 ∧ x29 ≤ 1060 := by rw [e_x29]; exact hT.2 100 _
            rw [G100] at e_x29
            have e29 : x29 = x27 := by rw [e_x29, e_x27]
            exact l_90 _ _ _ _ _ hT (show τ_15.1 6 = σ.1 6 from by first | exact W6 | omega) (show τ_15.1 7 = σ.1 7 from by first | exact W7 | omega) (show τ_15.1 13 = σ.1 13 from by first | exact W13 | omega) (show τ_15.1 14 = σ.1 14 from by first | exact W14 | omega) (show τ_15.1 15 = σ.1 15 from by first | exact W15 | omega) (show τ_15.1 54 = σ.1 54 from by first | exact W54 | omega) (show τ_15.1 60 = σ.1 60 from by first | exact W60 | omega) G10 G13 G14 G15 G16 G27 G28 G29 G30 G31 G32 G33 G34 G35 G36 G37 G84 G95 G97 G98 G99 G100 (show 0 ≤ u4_15 ∧ u4_15 ≤ n2 - 1 - u5_15 from by (first | omega | (simp only [st_s] <;> omega) | assumption | omega | fail)) (show 0 ≤ u5_15 ∧ u5_15 < n2 from by (first | omega | (simp only [st_s] <;> omega) | assumption | omega | fail)) (show (τ_15.1 18) = 42000 from by (first | omega | (simp only [st_s] <;> omega) | assumption | omega | fail)) (show g_ev B u4_15 (τ_15.1 17) (τ_15.2.1 40) (τ_15.2.1 41) (τ_15.2.1 39) from by (first | omega | (simp only [st_s] <;> omega) | assumption | omega | fail)) (show 0 = 0 from by (first | omega | (simp only [st_s] <;> omega) | assumption | omega | fail)) (show (0 ≤ x29 ∧ x29 ≤ 1060) ∧ x29 < B from by (first | omega | (simp only [st_s] <;> omega) | assumption | omega | fail)) (show u5_15 + 2 ≤ (m_15 : Int) from by (first | omega | (simp only [st_s] <;> omega) | assumption | omega | fail)) (show n1 ≤ u5_15 from by (first | omega | (simp only [st_s] <;> omega) | assumption | omega | fail))
          ·
            exact l_90 _ _ _ _ _ hT (show τ_15.1 6 = σ.1 6 from by first | exact W6 | omega) (show τ_15.1 7 = σ.1 7 from by first | exact W7 | omega) (show τ_15.1 13 = σ.1 13 from by first | exact W13 | omega) (show τ_15.1 14 = σ.1 14 from by first | exact W14 | omega) (show τ_15.1 15 = σ.1 15 from by first | exact W15 | omega) (show τ_15.1 54 = σ.1 54 from by first | exact W54 | omega) (show τ_15.1 60 = σ.1 60 from by first | exact W60 | omega) G10 G13 G14 G15 G16 G27 G28 G29 G30 G31 G32 G33 G34 G35 G36 G37 G84 G95 G97 G98 G99 G100 (show 0 ≤ u4_15 ∧ u4_15 ≤ n2 - 1 - u5_15 from by (first | omega | (simp only [st_s] <;> omega) | assumption | omega | fail)) (show 0 ≤ u5_15 ∧ u5_15 < n2 from by (first | omega | (simp only [st_s] <;> omega) | assumption | omega | fail)) (show (τ_15.1 18) = 42000 from by (first | omega | (simp only [st_s] <;> omega) | assumption | omega | fail)) (show g_ev B u4_15 (τ_15.1 17) (τ_15.2.1 40) (τ_15.2.1 41) (τ_15.2.1 39) from by (first | omega | (simp only [st_s] <;> omega) | assumption | omega | fail)) (show 0 = 0 from by (first | omega | (simp only [st_s] <;> omega) | assumption | omega | fail)) (show (0 ≤ x24 ∧ x24 ≤ 1060) ∧ x24 < B from by (first | omega | (simp only [st_s] <;> omega) | assumption | omega | fail)) (show u5_15 + 2 ≤ (m_15 : Int) from by (first | omega | (simp only [st_s] <;> omega) | assumption | omega | fail)) (show n1 ≤ u5_15 from by (first | omega | (simp only [st_s] <;> omega) | assumption | omega | fail))
  refine ⟨_, K2_X6_clear hT, ?_⟩
  intro τ3 hn_τ3 hf_τ3 hq
  obtain ⟨hT, q1_1, q1_2⟩ := hq
  replace q1_1 : (τ3.1 17) = 0 := q1_1
  replace q1_2 : (τ3.1 18) = 42000 := q1_2
  have w6_τ3 : τ3.1 6 = σ.1 6 := hf_τ3.1 6 (by decide)
  have w7_τ3 : τ3.1 7 = σ.1 7 := hf_τ3.1 7 (by decide)
  have w13_τ3 : τ3.1 13 = σ.1 13 := hf_τ3.1 13 (by decide)
  have w14_τ3 : τ3.1 14 = σ.1 14 := hf_τ3.1 14 (by decide)
  have w15_τ3 : τ3.1 15 = σ.1 15 := hf_τ3.1 15 (by decide)
  have w19_τ3 : τ3.1 19 = σ.1 19 := hf_τ3.1 19 (by decide)
  have w54_τ3 : τ3.1 54 = σ.1 54 := hf_τ3.1 54 (by decide)
  have w60_τ3 : τ3.1 60 = σ.1 60 := hf_τ3.1 60 (by decide)
  have g10_τ3 : τ3.2.1 10 = σ.2.1 10 := hf_τ3.2.1 10 (by decide)
  have g13_τ3 : τ3.2.1 13 = σ.2.1 13 := hf_τ3.2.1 13 (by decide)
  have g14_τ3 : τ3.2.1 14 = σ.2.1 14 := hf_τ3.2.1 14 (by decide)
  have g15_τ3 : τ3.2.1 15 = σ.2.1 15 := hf_τ3.2.1 15 (by decide)
  have g16_τ3 : τ3.2.1 16 = σ.2.1 16 := hf_τ3.2.1 16 (by decide)
  have g27_τ3 : τ3.2.1 27 = σ.2.1 27 := hf_τ3.2.1 27 (by decide)
  have g28_τ3 : τ3.2.1 28 = σ.2.1 28 := hf_τ3.2.1 28 (by decide)
  have g29_τ3 : τ3.2.1 29 = σ.2.1 29 := hf_τ3.2.1 29 (by decide)
  have g30_τ3 : τ3.2.1 30 = σ.2.1 30 := hf_τ3.2.1 30 (by decide)
  have g31_τ3 : τ3.2.1 31 = σ.2.1 31 := hf_τ3.2.1 31 (by decide)
  have g32_τ3 : τ3.2.1 32 = σ.2.1 32 := hf_τ3.2.1 32 (by decide)
  have g33_τ3 : τ3.2.1 33 = σ.2.1 33 := hf_τ3.2.1 33 (by decide)
  have g34_τ3 : τ3.2.1 34 = σ.2.1 34 := hf_τ3.2.1 34 (by decide)
  have g35_τ3 : τ3.2.1 35 = σ.2.1 35 := hf_τ3.2.1 35 (by decide)
  have g36_τ3 : τ3.2.1 36 = σ.2.1 36 := hf_τ3.2.1 36 (by decide)
  have g37_τ3 : τ3.2.1 37 = σ.2.1 37 := hf_τ3.2.1 37 (by decide)
  have g39_τ3 : τ3.2.1 39 = σ.2.1 39 := hf_τ3.2.1 39 (by decide)
  have g40_τ3 : τ3.2.1 40 = σ.2.1 40 := hf_τ3.2.1 40 (by decide)
  have g41_τ3 : τ3.2.1 41 = σ.2.1 41 := hf_τ3.2.1 41 (by decide)
  have g43_τ3 : τ3.2.1 43 = σ.2.1 43 := hf_τ3.2.1 43 (by decide)
  have g84_τ3 : τ3.2.1 84 = σ.2.1 84 := hf_τ3.2.1 84 (by decide)
  have g95_τ3 : τ3.2.1 95 = σ.2.1 95 := hf_τ3.2.1 95 (by decide)
  have g97_τ3 : τ3.2.1 97 = σ.2.1 97 := hf_τ3.2.1 97 (by decide)
  have g98_τ3 : τ3.2.1 98 = σ.2.1 98 := hf_τ3.2.1 98 (by decide)
  have g99_τ3 : τ3.2.1 99 = σ.2.1 99 := hf_τ3.2.1 99 (by decide)
  have g100_τ3 : τ3.2.1 100 = σ.2.1 100 := hf_τ3.2.1 100 (by decide)
  have W6 : τ3.1 6 = σ.1 6 := by first | exact w6_τ3.trans W6 | omega
  have W7 : τ3.1 7 = σ.1 7 := by first | exact w7_τ3.trans W7 | omega
  have W13 : τ3.1 13 = σ.1 13 := by first | exact w13_τ3.trans W13 | omega
  have W14 : τ3.1 14 = σ.1 14 := by first | exact w14_τ3.trans W14 | omega
  have W15 : τ3.1 15 = σ.1 15 := by first | exact w15_τ3.trans W15 | omega
  have W54 : τ3.1 54 = σ.1 54 := by first | exact w54_τ3.trans W54 | omega
  have W60 : τ3.1 60 = σ.1 60 := by first | exact w60_τ3.trans W60 | omega
  have G10 : τ3.2.1 10 = σ.2.1 10 := (g10_τ3).trans G10
  have G13 : τ3.2.1 13 = σ.2.1 13 := (g13_τ3).trans G13
  have G14 : τ3.2.1 14 = σ.2.1 14 := (g14_τ3).trans G14
  have G15 : τ3.2.1 15 = σ.2.1 15 := (g15_τ3).trans G15
  have G16 : τ3.2.1 16 = σ.2.1 16 := (g16_τ3).trans G16
  have G27 : τ3.2.1 27 = σ.2.1 27 := (g27_τ3).trans G27
  have G28 : τ3.2.1 28 = σ.2.1 28 := (g28_τ3).trans G28
  have G29 : τ3.2.1 29 = σ.2.1 29 := (g29_τ3).trans G29
  have G30 : τ3.2.1 30 = σ.2.1 30 := (g30_τ3).trans G30
  have G31 : τ3.2.1 31 = σ.2.1 31 := (g31_τ3).trans G31
  have G32 : τ3.2.1 32 = σ.2.1 32 := (g32_τ3).trans G32
  have G33 : τ3.2.1 33 = σ.2.1 33 := (g33_τ3).trans G33
  have G34 : τ3.2.1 34 = σ.2.1 34 := (g34_τ3).trans G34
  have G35 : τ3.2.1 35 = σ.2.1 35 := (g35_τ3).trans G35
  have G36 : τ3.2.1 36 = σ.2.1 36 := (g36_τ3).trans G36
  have G37 : τ3.2.1 37 = σ.2.1 37 := (g37_τ3).trans G37
  have G84 : τ3.2.1 84 = σ.2.1 84 := (g84_τ3).trans G84
  have G95 : τ3.2.1 95 = σ.2.1 95 := (g95_τ3).trans G95
  have G97 : τ3.2.1 97 = σ.2.1 97 := (g97_τ3).trans G97
  have G98 : τ3.2.1 98 = σ.2.1 98 := (g98_τ3).trans G98
  have G99 : τ3.2.1 99 = σ.2.1 99 := (g99_τ3).trans G99
  have G100 : τ3.2.1 100 = σ.2.1 100 := (g100_τ3).trans G100
  have CJ : J_all (τ3.1 7) (τ3.1 6) (τ3.1 13) (τ3.1 14) (τ3.1 15) (τ3.2.1 13) (τ3.2.1 14) (τ3.2.1 15) (τ3.2.1 16) (τ3.2.1 10) (τ3.2.1 27) (τ3.2.1 28) (τ3.2.1 29) (τ3.2.1 30) (τ3.2.1 31) (τ3.2.1 32) (τ3.2.1 33) (τ3.2.1 34) (τ3.2.1 35) (τ3.2.1 36) (τ3.2.1 37) := by rw [show (J_all (τ3.1 7) (τ3.1 6) (τ3.1 13) (τ3.1 14) (τ3.1 15) (τ3.2.1 13) (τ3.2.1 14) (τ3.2.1 15) (τ3.2.1 16) (τ3.2.1 10) (τ3.2.1 27) (τ3.2.1 28) (τ3.2.1 29) (τ3.2.1 30) (τ3.2.1 31) (τ3.2.1 32) (τ3.2.1 33) (τ3.2.1 34) (τ3.2.1 35) (τ3.2.1 36) (τ3.2.1 37)) = (J_all (σ.1 7) (σ.1 6) (σ.1 13) (σ.1 14) (σ.1 15) (σ.2.1 13) (σ.2.1 14) (σ.2.1 15) (σ.2.1 16) (σ.2.1 10) (σ.2.1 27) (σ.2.1 28) (σ.2.1 29) (σ.2.1 30) (σ.2.1 31) (σ.2.1 32) (σ.2.1 33) (σ.2.1 34) (σ.2.1 35) (σ.2.1 36) (σ.2.1 37)) from by rw [w6_τ3, w7_τ3, w13_τ3, w14_τ3, w15_τ3, g10_τ3, g13_τ3, g14_τ3, g15_τ3, g16_τ3, g27_τ3, g28_τ3, g29_τ3, g30_τ3, g31_τ3, g32_τ3, g33_τ3, g34_τ3, g35_τ3, g36_τ3, g37_τ3]]; exact CJ
  have TRE : g_tre (τ3.1 7) (τ3.1 54) (τ3.2.1 13) (τ3.2.1 14) (τ3.2.1 27) (τ3.2.1 28) (τ3.2.1 29) (τ3.2.1 84) := by rw [show (g_tre (τ3.1 7) (τ3.1 54) (τ3.2.1 13) (τ3.2.1 14) (τ3.2.1 27) (τ3.2.1 28) (τ3.2.1 29) (τ3.2.1 84)) = (g_tre (σ.1 7) (σ.1 54) (σ.2.1 13) (σ.2.1 14) (σ.2.1 27) (σ.2.1 28) (σ.2.1 29) (σ.2.1 84)) from by rw [w7_τ3, w54_τ3, g13_τ3, g14_τ3, g27_τ3, g28_τ3, g29_τ3, g84_τ3]]; exact TRE
  have BD : g_bd (τ3.1 60) (τ3.2.1 95) (τ3.2.1 98) (τ3.2.1 99) (τ3.2.1 97) (τ3.2.1 28) := by rw [show (g_bd (τ3.1 60) (τ3.2.1 95) (τ3.2.1 98) (τ3.2.1 99) (τ3.2.1 97) (τ3.2.1 28)) = (g_bd (σ.1 60) (σ.2.1 95) (σ.2.1 98) (σ.2.1 99) (σ.2.1 97) (σ.2.1 28)) from by rw [w60_τ3, g28_τ3, g95_τ3, g97_τ3, g98_τ3, g99_τ3]]; exact BD
  have A10 : ∀ j, (-1) ≤ τ3.2.1 10 j ∧ τ3.2.1 10 j ≤ 99 := fun j => hT.2 10 j
  have A13 : ∀ j, 0 ≤ τ3.2.1 13 j ∧ τ3.2.1 13 j ≤ 4 := fun j => hT.2 13 j
  have A14 : ∀ j, 0 ≤ τ3.2.1 14 j ∧ τ3.2.1 14 j ≤ 30000 := fun j => hT.2 14 j
  have A15 : ∀ j, 0 ≤ τ3.2.1 15 j ∧ τ3.2.1 15 j ≤ 999 := fun j => hT.2 15 j
  have A16 : ∀ j, (-1) ≤ τ3.2.1 16 j ∧ τ3.2.1 16 j ≤ 1499 := fun j => hT.2 16 j
  have A27 : ∀ j, 0 ≤ τ3.2.1 27 j ∧ τ3.2.1 27 j ≤ 90000 := fun j => hT.2 27 j
  have A28 : ∀ j, 0 ≤ τ3.2.1 28 j ∧ τ3.2.1 28 j ≤ 60 := fun j => hT.2 28 j
  have A29 : ∀ j, 0 ≤ τ3.2.1 29 j ∧ τ3.2.1 29 j ≤ 1499 := fun j => hT.2 29 j
  have A30 : ∀ j, 0 ≤ τ3.2.1 30 j ∧ τ3.2.1 30 j ≤ 20000 := fun j => hT.2 30 j
  have A31 : ∀ j, 0 ≤ τ3.2.1 31 j ∧ τ3.2.1 31 j ≤ 20000 := fun j => hT.2 31 j
  have A32 : ∀ j, 0 ≤ τ3.2.1 32 j ∧ τ3.2.1 32 j ≤ 999999 := fun j => hT.2 32 j
  have A33 : ∀ j, 0 ≤ τ3.2.1 33 j ∧ τ3.2.1 33 j ≤ 20000 := fun j => hT.2 33 j
  have A34 : ∀ j, 0 ≤ τ3.2.1 34 j ∧ τ3.2.1 34 j ≤ 20000 := fun j => hT.2 34 j
  have A35 : ∀ j, 0 ≤ τ3.2.1 35 j ∧ τ3.2.1 35 j ≤ 1499 := fun j => hT.2 35 j
  have A36 : ∀ j, 0 ≤ τ3.2.1 36 j ∧ τ3.2.1 36 j ≤ 20000 := fun j => hT.2 36 j
  have A37 : ∀ j, 0 ≤ τ3.2.1 37 j ∧ τ3.2.1 37 j ≤ 19999 := fun j => hT.2 37 j
  have A39 : ∀ j, 0 ≤ τ3.2.1 39 j ∧ τ3.2.1 39 j ≤ 1060 := fun j => hT.2 39 j
  have A40 : ∀ j, 0 ≤ τ3.2.1 40 j ∧ τ3.2.1 40 j ≤ 42000 := fun j => hT.2 40 j
  have A41 : ∀ j, (-2) ≤ τ3.2.1 41 j ∧ τ3.2.1 41 j ≤ 1000 := fun j => hT.2 41 j
  have A43 : ∀ j, 0 ≤ τ3.2.1 43 j ∧ τ3.2.1 43 j ≤ 1060 := fun j => hT.2 43 j
  have A84 : ∀ j, 0 ≤ τ3.2.1 84 j ∧ τ3.2.1 84 j ≤ 1499 := fun j => hT.2 84 j
  have A95 : ∀ j, 0 ≤ τ3.2.1 95 j ∧ τ3.2.1 95 j ≤ 1500 := fun j => hT.2 95 j
  have A97 : ∀ j, 0 ≤ τ3.2.1 97 j ∧ τ3.2.1 97 j ≤ 1060 := fun j => hT.2 97 j
  have A98 : ∀ j, 0 ≤ τ3.2.1 98 j ∧ τ3.2.1 98 j ≤ 1048576 := fun j => hT.2 98 j
  have A99 : ∀ j, (-2) ≤ τ3.2.1 99 j ∧ τ3.2.1 99 j ≤ 600 := fun j => hT.2 99 j
  have A100 : ∀ j, 0 ≤ τ3.2.1 100 j ∧ τ3.2.1 100 j ≤ 1060 := fun j => hT.2 100 j
  have v6 : 0 ≤ τ3.1 6 ∧ τ3.1 6 ≤ 30000 := hT.1 6
  have v7 : 0 ≤ τ3.1 7 ∧ τ3.1 7 ≤ 1500 := hT.1 7
  have v13 : 0 ≤ τ3.1 13 ∧ τ3.1 13 ≤ 90000 := hT.1 13
  have v14 : 0 ≤ τ3.1 14 ∧ τ3.1 14 ≤ 20000 := hT.1 14
  have v15 : 0 ≤ τ3.1 15 ∧ τ3.1 15 ≤ 20000 := hT.1 15
  have v17 : 0 ≤ τ3.1 17 ∧ τ3.1 17 ≤ 42000 := hT.1 17
  have v18 : 0 ≤ τ3.1 18 ∧ τ3.1 18 ≤ 42000 := hT.1 18
  have v19 : 0 ≤ τ3.1 19 ∧ τ3.1 19 ≤ 1000 := hT.1 19
  have v54 : 0 ≤ τ3.1 54 ∧ τ3.1 54 ≤ 12000 := hT.1 54
  have v60 : 0 ≤ τ3.1 60 ∧ τ3.1 60 ≤ 1048576 := hT.1 60
  refine ⟨(⟨by (first | omega | (simp only [st_s] <;> omega) | assumption | omega | fail), by (first | omega | (simp only [st_s] <;> omega) | assumption | omega | fail)⟩ : rg (n2 - 1)), ?_⟩
  exact l_15 (((n2 - 1) + 2 : Int).toNat + 1) _ _ _ (show ((n2 - 1) + 2 : Int) < ((((n2 - 1) + 2 : Int).toNat + 1 : Nat) : Int) from by ((first | omega | (simp only [st_s] <;> omega) | assumption | omega | fail))) hT (show τ3.1 6 = σ.1 6 from by first | exact W6 | omega) (show τ3.1 7 = σ.1 7 from by first | exact W7 | omega) (show τ3.1 13 = σ.1 13 from by first | exact W13 | omega) (show τ3.1 14 = σ.1 14 from by first | exact W14 | omega) (show τ3.1 15 = σ.1 15 from by first | exact W15 | omega) (show τ3.1 54 = σ.1 54 from by first | exact W54 | omega) (show τ3.1 60 = σ.1 60 from by first | exact W60 | omega) G10 G13 G14 G15 G16 G27 G28 G29 G30 G31 G32 G33 G34 G35 G36 G37 G84 G95 G97 G98 G99 G100 (show 0 ≤ 0 ∧ 0 ≤ n2 - 1 - (n2 - 1) from by (first | omega | (simp only [st_s] <;> omega) | assumption | omega | fail)) (show -1 ≤ (n2 - 1) ∧ (n2 - 1) < n2 from by (first | omega | (simp only [st_s] <;> omega) | assumption | omega | fail)) (show g_ev B 0 (τ3.1 17) (τ3.2.1 40) (τ3.2.1 41) (τ3.2.1 39) from by (first | exact g_ev_s i237_4 (by rw [i237_5]; exact i237_6.2) | (rw [q1_1]; exact g_ev0 _ _ _ _) | fail)) (show (τ3.1 18) = 42000 from by (first | omega | (simp only [st_s] <;> omega) | assumption | omega | fail))
