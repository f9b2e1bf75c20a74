-- pure: proofs that are printed packed
def n_YY (σ : S0) : Prop := ∃ i : Int, (0 ≤ i ∧ i < σ.1 5) ∧ n_Yn (σ.1 36) i 20000 (σ.2.1 13) (σ.2.1 19) (σ.2.1 56) (σ.2.1 57) (σ.2.1 58)
theorem n_Y_YY {σ : S0} {n : Int} (h : n_Y σ) (e : σ.1 38 = n + 1) (n0 : 0 ≤ n) (n1 : n < σ.1 5) : n_YY σ := ⟨n, ⟨n0, n1⟩, (n_Y_e h e n0).2⟩
def n_sa (R : Int) (f : Int → Int) : Prop := ∀ r : Int, 0 ≤ r → r < R → 0 ≤ f r ∧ f r ≤ r
theorem n_sa_s {R x : Int} {f : Int → Int} (h : n_sa R f) (x0 : 0 ≤ x) (x1 : x ≤ R) : n_sa (R + 1) (st f R x) := fun r r0 r1 => by
  rcases (by omega : r < R ∨ r = R) with q | q
  · rw [st_n _ _ (by omega)]; exact h r r0 q
  · rw [q, st_s]; exact ⟨x0, x1⟩
/-- places of a table that are taken -/
def n_to (T : Int → Int) : Int → Int := fun e => if T e = -1 then 0 else 1
def n_oT (k : Int) (T : Int → Int) : Prop := ∃ N : Int, N = 65536 ∧ (∀ e : Int, 0 ≤ e → e < N → T e < k) ∧ sm (n_to T) N ≤ k
theorem n_to_0 (T : Int → Int) (e : Int) : 0 ≤ n_to T e ∧ n_to T e ≤ 1 := by
  unfold n_to; by_cases z : T e = -1
  · rw [if_pos z]; omega
  · rw [if_neg z]; omega
theorem n_oT_w {k : Int} {T : Int → Int} (h : n_oT k T) : n_oT (k + 1) T := by
  obtain ⟨N, eN, h1, h2⟩ := h
  exact ⟨N, eN, fun e a b => by have := h1 e a b; omega, by omega⟩
theorem n_oT_0 {T : Int → Int} (h : ∀ j : Int, 0 ≤ j → j < 65536 → T j = -1) : n_oT 0 T := by
  have g : ∀ N : Int, N = 65536 → 0 ≤ N ∧ sm (n_to T) N ≤ 0 * N := fun N eN => ⟨by omega, sm_c (fun e a b => by
    show (if T e = -1 then (0 : Int) else 1) ≤ 0
    rw [if_pos (h e a (by omega))]; exact Int.le_refl _) (Int.le_refl _) (by omega)⟩
  obtain ⟨N, eN⟩ : ∃ N : Int, N = 65536 := ⟨_, rfl⟩
  have g := g N eN
  exact ⟨N, eN, fun e a b => by have := h e a (by omega); omega, by omega⟩
theorem n_oT_s {k u : Int} {T : Int → Int} (h : n_oT k T) (k0 : 0 ≤ k) (e : T u = -1) (u0 : 0 ≤ u) (u1 : u < 65536) : n_oT (k + 1) (st T u k) := by
  obtain ⟨N, eN, h1, h2⟩ := h
  refine ⟨N, eN, fun j a b => ?_, ?_⟩
  · by_cases z : j = u
    · rw [z, st_s]; omega
    · rw [st_n _ _ z]; have := h1 j a b; omega
  · have w := sm_z (n_to (st T u k)) u0 (show u < N by omega)
    have x : sm (st (n_to (st T u k)) u 0) N = sm (n_to T) N := sm_x (fun j a b => by
      by_cases z : j = u
      · rw [z, st_s]; unfold n_to; rw [if_pos e]
      · rw [st_n _ _ z]; unfold n_to; rw [st_n _ _ z])
    have y := n_to_0 (st T u k) u
    omega
theorem n_oT_e {k : Int} {T : Int → Int} (h : n_oT k T) (l : k < 65536) : ∃ e : Int, 0 ≤ e ∧ e < 65536 ∧ T e = -1 := by
  obtain ⟨N, eN, h1, h2⟩ := h
  by_cases z : ∃ e : Int, 0 ≤ e ∧ e < 65536 ∧ T e = -1
  · exact z
  · exfalso
    have g := sm_ge (f := n_to T) N.toNat (fun e a b => by
      unfold n_to
      rw [if_neg (fun q => z ⟨e, a, by omega, q⟩)]; exact Int.le_refl _)
    have g2 : (N.toNat : Int) ≤ sm (n_to T) N := g
    omega
noncomputable def n_e0 (T : Int → Int) : Int := by
  classical exact if h : ∃ e : Int, 0 ≤ e ∧ e < 65536 ∧ T e = -1 then Classical.choose h else 0
theorem n_e0_s {k : Int} {T : Int → Int} (h : n_oT k T) (l : k < 65536) : 0 ≤ n_e0 T ∧ n_e0 T < 65536 ∧ T (n_e0 T) = -1 := by
  have w := n_oT_e h l
  unfold n_e0
  rw [dif_pos w]
  exact Classical.choose_spec w
/-- rows that are told: how many of its rows were taken of each -/
def n_tl (m tl R : Int) (w ro cn us : Int → Int) : Prop := ∃ c : Int → Int, (∀ r : Int, 0 ≤ r → r < R → (0 ≤ c r ∧ c r ≤ w r) ∧ (us r = 0 → c r = 0) ∧ 0 ≤ us r ∧ us r ≤ 1 + sm c R) ∧ (∀ j : Int, 0 ≤ j → j < m → 1 ≤ us (ro j) ∧ (0 < w (ro j) → c (ro j) = cn j)) ∧ (∀ j o : Int, 0 ≤ o → o < j → j < m → ro j < ro o) ∧ m + tl = 1 + sm c R
theorem n_tl_b {m tl R : Int} {w ro cn us : Int → Int} (h : n_tl m tl R w ro cn us) : m + tl ≤ 1 + sm w R ∧ ∀ r : Int, 0 ≤ r → r < R → 0 ≤ us r ∧ us r ≤ 1 + sm w R := by
  obtain ⟨c, h1, h2, h3, h4⟩ := h
  have l : sm c R ≤ sm w R := sm_le (fun e a b => (h1 e a b).1.2)
  exact ⟨by omega, fun r a b => by have := (h1 r a b).2.2; omega⟩
theorem n_tl_q {m tl R : Int} {w ro cn us : Int → Int} (h : n_tl m tl R w ro cn us) : n_tl (m - 1) (tl + 1) R w ro cn us := by
  obtain ⟨c, h1, h2, h3, h4⟩ := h
  exact ⟨c, h1, fun j a b => h2 j a (by omega), fun j o a b d => h3 j o a b (by omega), by omega⟩
theorem n_tl_0 {R x : Int} {w ro cn us : Int → Int} (x0 : 0 ≤ x) (x1 : x < R) (w0 : ∀ r : Int, 0 ≤ r → r < R → 0 ≤ w r) (u0 : ∀ r : Int, 0 ≤ r → r < R → us r = 0) : n_tl (0 + 1) 0 R w (st ro 0 x) (st cn 0 0) (st us x 1) := by
  have z : sm (fun _ => (0 : Int)) R ≤ 0 * R := sm_c (fun e _ _ => Int.le_refl _) (Int.le_refl _) (by omega)
  have z2 : 0 ≤ sm (fun _ => (0 : Int)) R := sm_n (fun e _ _ => Int.le_refl _)
  refine ⟨fun _ => 0, fun r a b => ⟨⟨Int.le_refl _, w0 r a b⟩, fun _ => rfl, ?_⟩, fun j a b => ?_, fun j o a b d => by omega, by omega⟩
  · by_cases q : r = x
    · rw [q, st_s]; omega
    · rw [st_n _ _ q, u0 r a b]; omega
  · rw [show j = 0 by omega, st_s, st_s, st_s]; exact ⟨Int.le_refl _, fun _ => rfl⟩
theorem n_tl_k {m tl R k d : Int} {w ro cn us : Int → Int} (h : n_tl m tl R w ro cn us) (m1 : 1 ≤ m) (s0 : 0 ≤ ro (m - 1)) (s1 : ro (m - 1) < R) (ed : d = cn (m - 1)) (d0 : 0 ≤ d) (dl : d < w (ro (m - 1))) (k0 : 0 ≤ k) (k1 : k < ro (m - 1)) : (n_tl m (tl + 1) R w ro (st cn (m - 1) (d + 1)) (st us k (us k + 1))) ∧ (us k + 1 ≤ 1 ∨ w k ≤ 0 → n_tl (m + 1) tl R w (st ro m k) (st (st cn (m - 1) (d + 1)) m 0) (st us k (us k + 1))) := by
  obtain ⟨c, h1, h2, h3, h4⟩ := h
  have t := h2 (m - 1) (by omega) (by omega)
  have c1 : c (ro (m - 1)) = d := by rw [ed]; exact t.2 (by have := (h1 (ro (m - 1)) s0 s1).1; omega)
  have hs := sm_z (st c (ro (m - 1)) (d + 1)) s0 s1
  have hz := sm_z c s0 s1
  rw [st_s] at hs
  have e1 : sm (st (st c (ro (m - 1)) (d + 1)) (ro (m - 1)) 0) R = sm (st c (ro (m - 1)) 0) R := by rw [st_st]
  have hS : sm (st c (ro (m - 1)) (d + 1)) R = sm c R + 1 := by omega
  have hr : ∀ r : Int, 0 ≤ r → r < R → (0 ≤ st c (ro (m - 1)) (d + 1) r ∧ st c (ro (m - 1)) (d + 1) r ≤ w r) ∧ (st us k (us k + 1) r = 0 → st c (ro (m - 1)) (d + 1) r = 0) ∧ 0 ≤ st us k (us k + 1) r ∧ st us k (us k + 1) r ≤ 1 + sm (st c (ro (m - 1)) (d + 1)) R := fun r a b => by
    have v := h1 r a b
    rw [hS]
    by_cases q : r = ro (m - 1)
    · rw [q, st_s, st_n _ _ (by omega)]
      rw [q] at v
      refine ⟨by omega, fun z => by have := t.1; omega, by omega⟩
    · rw [st_n _ _ q]
      by_cases y : r = k
      · rw [y, st_s]; rw [y] at v; refine ⟨v.1, fun z => by omega, by omega⟩
      · rw [st_n _ _ y]; exact ⟨v.1, v.2.1, by omega⟩
  have hj : ∀ j : Int, 0 ≤ j → j < m → 1 ≤ st us k (us k + 1) (ro j) ∧ (0 < w (ro j) → st c (ro (m - 1)) (d + 1) (ro j) = st cn (m - 1) (d + 1) j) := fun j a b => by
    have v := h2 j a b
    rcases (by omega : j < m - 1 ∨ j = m - 1) with q | q
    · have y := h3 (m - 1) j a q (by omega)
      rw [st_n _ _ (by omega), st_n _ _ (by omega), st_n _ _ (by omega)]; exact v
    · rw [q, st_s, st_s, st_n _ _ (by omega)]; exact ⟨t.1, fun _ => rfl⟩
  refine ⟨⟨_, hr, hj, h3, by rw [hS]; omega⟩, fun hu => ⟨_, hr, fun j a b => ?_, fun j o a b d1 => ?_, by rw [hS]; omega⟩⟩
  · rcases (by omega : j < m ∨ j = m) with q | q
    · have x1 : st ro m k j = ro j := st_n _ _ (by omega)
      have x2 : st (st cn (m - 1) (d + 1)) m 0 j = st cn (m - 1) (d + 1) j := st_n _ _ (by omega)
      rw [x1, x2]; exact hj j a q
    · rw [q, st_s, st_s, st_s]
      have v := h1 k k0 (by omega)
      refine ⟨by omega, fun z => ?_⟩
      rw [st_n _ _ (by omega)]
      exact v.2.1 (by omega)
  · rcases (by omega : j < m ∨ j = m) with q | q
    · rw [st_n _ _ (by omega), st_n _ _ (by omega)]; exact h3 j o a b q
    · rw [q, st_s, st_n _ _ (by omega)]
      rcases (by omega : o < m - 1 ∨ o = m - 1) with y | y
      · have := h3 (m - 1) o a y (by omega); omega
      · rw [y]; exact k1
theorem n_W_c {m d : Int} {ro cn : Int → Int} (m1 : 1 ≤ m) (ed : d = cn (m - 1)) : n_W m ro (st cn (m - 1) (d + 1)) < n_W m ro cn := by
  have s2 := sm_s (n_g ro (st cn (m - 1) (d + 1))) (n := m - 1) (by omega)
  have s3 := sm_s (n_g ro cn) (n := m - 1) (by omega)
  rw [show m - 1 + 1 = m by omega] at s2 s3
  have e : sm (n_g ro (st cn (m - 1) (d + 1))) (m - 1) = sm (n_g ro cn) (m - 1) := sm_x (fun j j0 j1 => by
    show 62 ^ (ro j).toNat * (61 - st cn (m - 1) (d + 1) j) = 62 ^ (ro j).toNat * (61 - cn j)
    rw [st_n _ _ (by omega)])
  have g2 : n_g ro (st cn (m - 1) (d + 1)) (m - 1) = 62 ^ (ro (m - 1)).toNat * (61 - d) - 62 ^ (ro (m - 1)).toNat := by
    show 62 ^ (ro (m - 1)).toNat * (61 - st cn (m - 1) (d + 1) (m - 1)) = _
    rw [st_s, show 61 - (d + 1) = (61 - d) - 1 by omega, Int.mul_sub, Int.mul_one]
  have g3 : n_g ro cn (m - 1) = 62 ^ (ro (m - 1)).toNat * (61 - d) := by rw [ed]; rfl
  have l := n_62 (ro (m - 1)).toNat
  unfold n_W
  rw [s2, s3, e, g2, g3]
  omega
theorem n_sk_c {m R d : Int} {w ro cn : Int → Int} (h : n_sk m R w ro cn) (d0 : 0 ≤ d) (dl : d + 1 ≤ w (ro (m - 1))) : n_sk m R w ro (st cn (m - 1) (d + 1)) := fun j j0 j1 => by
  have t := h j j0 j1
  by_cases q : j = m - 1
  · rw [q, st_s]; rw [q] at t; exact ⟨t.1, by omega, dl, t.2.2.2⟩
  · rw [st_n _ _ q]; exact t
def n_nu (f : Int → Int) : Prop := ∀ j : Int, 0 ≤ f j ∧ f j ≤ 30000
theorem n_nu_s {f : Int → Int} {e x : Int} (h : n_nu f) (x0 : 0 ≤ x) (x1 : x ≤ 30000) : n_nu (st f e x) := fun j => by
  by_cases z : j = e
  · rw [z, st_s]; exact ⟨x0, x1⟩
  · rw [st_n _ _ z]; exact h j
def n_ld (f : Int → Int) : Int → Int := fun s => if f s = 0 then 0 else 1
theorem n_ld_0 (f : Int → Int) (e : Int) : 0 ≤ n_ld f e ∧ n_ld f e ≤ 1 := by
  unfold n_ld; by_cases z : f e = 0
  · rw [if_pos z]; omega
  · rw [if_neg z]; omega
theorem n_ld_s {f : Int → Int} {n e x : Int} (e0 : 0 ≤ e) (e1 : e < n) (z : f e = 0) (x0 : ¬ x = 0) : sm (n_ld f) n + 1 ≤ sm (n_ld (st f e x)) n := sm_lt (v := e) (fun j a b => by
    by_cases q : j = e
    · rw [q]; have h1 : n_ld f e = 0 := if_pos z
      have := n_ld_0 (st f e x) e; omega
    · show (if f j = 0 then (0 : Int) else 1) ≤ (if st f e x j = 0 then 0 else 1)
      rw [st_n _ _ q]; exact Int.le_refl _) e0 e1 (by
    have h1 : n_ld f e = 0 := if_pos z
    have h2 : n_ld (st f e x) e = 1 := by unfold n_ld; rw [st_s, if_neg x0]
    omega)
theorem n_ld_b {f : Int → Int} {n : Int} (n0 : 0 ≤ n) : 0 ≤ sm (n_ld f) n ∧ sm (n_ld f) n ≤ n := by
  have w := sm_c (f := n_ld f) (n := n) (c := 1) (fun e _ _ => (n_ld_0 f e).2) (by omega) n0
  exact ⟨sm_n (fun e _ _ => (n_ld_0 f e).1), by omega⟩
set_option maxHeartbeats 1000000 in
theorem K_X13_areSame {n1 : Int} {n2 : Int} {σ : S0} (hT : m_T σ) (p1 : 0 ≤ n1) (p2 : n1 < (σ.1 36)) (p3 : 0 ≤ n2) (p4 : n2 < (σ.1 36)) (p5 : n_YY σ) : W_X13_areSame n1 n2 σ (fun (x : Int) => True) := by
  have A13 : ∀ j, 0 ≤ σ.2.1 13 j ∧ σ.2.1 13 j ≤ 4 := fun j => hT.2 13 j
  have A19 : ∀ j, 0 ≤ σ.2.1 19 j ∧ σ.2.1 19 j ≤ 60 := fun j => hT.2 19 j
  have A56 : ∀ j, 0 ≤ σ.2.1 56 j ∧ σ.2.1 56 j ≤ 1499 := fun j => hT.2 56 j
  have A57 : ∀ j, 0 ≤ σ.2.1 57 j ∧ σ.2.1 57 j ≤ 120000 := fun j => hT.2 57 j
  have A58 : ∀ j, 0 ≤ σ.2.1 58 j ∧ σ.2.1 58 j ≤ 20000 := fun j => hT.2 58 j
  have A61 : ∀ j, 0 ≤ σ.2.1 61 j ∧ σ.2.1 61 j ≤ 20000 := fun j => hT.2 61 j
  have v36 : 0 ≤ σ.1 36 ∧ σ.1 36 ≤ 20000 := hT.1 36
  intro P19 h19
  obtain ⟨yi, _, yy⟩ := p5
  have y1 := yy n1 (by omega) (by omega)
  have y2 := yy n2 (by omega) (by omega)
  obtain ⟨_, ⟨y3, y4⟩, _⟩ := y1
  obtain ⟨_, ⟨y5, y6⟩, _⟩ := y2
  have l_19 : ∀ (m_19 : Nat) (u3_19 : Int), 61 - u3_19 < (m_19 : Int) → (0 ≤ u3_19) → (u3_19 ≤ 60) → (σ.2.1 56 n1 = σ.2.1 56 n2) → P19 n1 n2 u3_19 := by
    intro m_19
    induction m_19 with
    | zero =>
      intro u3_19 hm i19_1 i19_2 i19_3
      exfalso; (first | omega | (simp only [st_s] <;> omega) | assumption | omega | fail)
    | succ m_19 ih_19 =>
      intro u3_19 hm_19 i19_1 i19_2 i19_3
      have y7 : n_wd (σ.2.1 13) (σ.2.1 19) (σ.2.1 56 n2) = n_wd (σ.2.1 13) (σ.2.1 19) (σ.2.1 56 n1) := by rw [i19_3]
      refine h19 n1 n2 u3_19 ?_
      refine ⟨_, K3_X13_rowWidth hT (show 0 ≤ n1 from by (first | omega | (simp only [st_s] <;> omega) | assumption | omega | fail)) (show n1 < 20001 from by (first | omega | (simp only [st_s] <;> omega) | assumption | omega | fail)), ?_⟩
      intro x7 r_x7 hq
      obtain ⟨q6_1, q6_2⟩ := hq
      replace q6_1 : 0 ≤ x7 ∧ x7 ≤ 60 := q6_1
      replace q6_2 : x7 = n_wd (σ.2.1 13) (σ.2.1 19) (σ.2.1 56 n1) := q6_2
      refine ⟨fun c9 => ?_, fun c9 => ?_⟩
      ·
        exact trivial
      ·
        refine ⟨(show 0 ≤ n1 ∧ n1 < 20001 from by (first | omega | (simp only [st_s] <;> omega) | assumption | omega | fail)), ?_⟩
        intro x11 r_x11 e_x11
        have b_x11 : 0 ≤ x11 ∧ x11 ≤ 120000 := by rw [e_x11]; exact hT.2 57 _
        refine ⟨(show 0 ≤ (x11 + u3_19) ∧ (x11 + u3_19) < 120000 from by (first | omega | (simp only [st_s] <;> omega) | assumption | omega | fail)), ?_⟩
        intro x13 r_x13 e_x13
        have b_x13 : 0 ≤ x13 ∧ x13 ≤ 20000 := by rw [e_x13]; exact hT.2 58 _
        refine ⟨(show 0 ≤ x13 ∧ x13 < 20001 from by (first | omega | (simp only [st_s] <;> omega) | assumption | omega | fail)), ?_⟩
        intro x15 r_x15 e_x15
        have b_x15 : 0 ≤ x15 ∧ x15 ≤ 20000 := by rw [e_x15]; exact hT.2 61 _
        refine ⟨(show 0 ≤ n2 ∧ n2 < 20001 from by (first | omega | (simp only [st_s] <;> omega) | assumption | omega | fail)), ?_⟩
        intro x17 r_x17 e_x17
        have b_x17 : 0 ≤ x17 ∧ x17 ≤ 120000 := by rw [e_x17]; exact hT.2 57 _
        refine ⟨(show 0 ≤ (x17 + u3_19) ∧ (x17 + u3_19) < 120000 from by (first | omega | (simp only [st_s] <;> omega) | assumption | omega | fail)), ?_⟩
        intro x19 r_x19 e_x19
        have b_x19 : 0 ≤ x19 ∧ x19 ≤ 20000 := by rw [e_x19]; exact hT.2 58 _
        refine ⟨(show 0 ≤ x19 ∧ x19 < 20001 from by (first | omega | (simp only [st_s] <;> omega) | assumption | omega | fail)), ?_⟩
        intro x21 r_x21 e_x21
        have b_x21 : 0 ≤ x21 ∧ x21 ≤ 20000 := by rw [e_x21]; exact hT.2 61 _
        refine ⟨fun c22 => ?_, fun c22 => ?_⟩
        ·
          refine ⟨(⟨by (first | omega | (simp only [st_s] <;> omega) | assumption | omega | fail), by (first | omega | (simp only [st_s] <;> omega) | assumption | omega | fail)⟩ : rg (u3_19 + 1)), ?_⟩
          exact ih_19 _ (show (61 - (u3_19 + 1) : Int) < ((m_19 : Nat) : Int) from by ((first | omega | (simp only [st_s] <;> omega) | assumption | omega | fail))) (show 0 ≤ (u3_19 + 1) from by (first | omega | (simp only [st_s] <;> omega) | assumption | omega | fail)) (show (u3_19 + 1) ≤ 60 from by (first | omega | (simp only [st_s] <;> omega) | assumption | omega | fail)) (show σ.2.1 56 n1 = σ.2.1 56 n2 from by (first | assumption | (rw [← e_x2, ← e_x4]; exact c5) | fail))
        ·
          exact trivial
  refine ⟨(show 0 ≤ n1 ∧ n1 < 20001 from by (first | omega | (simp only [st_s] <;> omega) | assumption | omega | fail)), ?_⟩
  intro x2 r_x2 e_x2
  have b_x2 : 0 ≤ x2 ∧ x2 ≤ 1499 := by rw [e_x2]; exact hT.2 56 _
  refine ⟨(show 0 ≤ n2 ∧ n2 < 20001 from by (first | omega | (simp only [st_s] <;> omega) | assumption | omega | fail)), ?_⟩
  intro x4 r_x4 e_x4
  have b_x4 : 0 ≤ x4 ∧ x4 ≤ 1499 := by rw [e_x4]; exact hT.2 56 _
  refine ⟨fun c5 => ?_, fun c5 => ?_⟩
  ·
    exact l_19 ((61 - 0 : Int).toNat + 1) _ (show (61 - 0 : Int) < (((61 - 0 : Int).toNat + 1 : Nat) : Int) from by ((first | omega | (simp only [st_s] <;> omega) | assumption | omega | fail))) (show 0 ≤ 0 from by (first | omega | (simp only [st_s] <;> omega) | assumption | omega | fail)) (show 0 ≤ 60 from by (first | omega | (simp only [st_s] <;> omega) | assumption | omega | fail)) (show σ.2.1 56 n1 = σ.2.1 56 n2 from by (first | assumption | (rw [← e_x2, ← e_x4]; exact c5) | fail))
  ·
    exact trivial
set_option maxHeartbeats 4000000 in
theorem K_X13_findSame {σ : S0} (hT : m_T σ) (p1 : n_YY σ) : W_X13_findSame σ (fun (τ : S0) => (m_T τ) ∧ (n_sa (σ.1 36) (τ.2.1 61)) ∧ (∀ r : Int, 0 ≤ r → r < (σ.1 36) → τ.2.1 62 r = 0)) := by
  have A13 : ∀ j, 0 ≤ σ.2.1 13 j ∧ σ.2.1 13 j ≤ 4 := fun j => hT.2 13 j
  have A19 : ∀ j, 0 ≤ σ.2.1 19 j ∧ σ.2.1 19 j ≤ 60 := fun j => hT.2 19 j
  have A56 : ∀ j, 0 ≤ σ.2.1 56 j ∧ σ.2.1 56 j ≤ 1499 := fun j => hT.2 56 j
  have A57 : ∀ j, 0 ≤ σ.2.1 57 j ∧ σ.2.1 57 j ≤ 120000 := fun j => hT.2 57 j
  have A58 : ∀ j, 0 ≤ σ.2.1 58 j ∧ σ.2.1 58 j ≤ 20000 := fun j => hT.2 58 j
  have A61 : ∀ j, 0 ≤ σ.2.1 61 j ∧ σ.2.1 61 j ≤ 20000 := fun j => hT.2 61 j
  have A62 : ∀ j, (-2147483648) ≤ σ.2.1 62 j ∧ σ.2.1 62 j ≤ 2147483647 := fun j => hT.2 62 j
  have A69 : ∀ j, (-1) ≤ σ.2.1 69 j ∧ σ.2.1 69 j ≤ 20000 := fun j => hT.2 69 j
  have v5 : 0 ≤ σ.1 5 ∧ σ.1 5 ≤ 1500 := hT.1 5
  have v36 : 0 ≤ σ.1 36 ∧ σ.1 36 ≤ 20000 := hT.1 36
  have W5 : σ.1 5 = σ.1 5 := rfl
  have W36 : σ.1 36 = σ.1 36 := rfl
  have G13 : σ.2.1 13 = σ.2.1 13 := rfl
  have G19 : σ.2.1 19 = σ.2.1 19 := rfl
  have G56 : σ.2.1 56 = σ.2.1 56 := rfl
  have G57 : σ.2.1 57 = σ.2.1 57 := rfl
  have G58 : σ.2.1 58 = σ.2.1 58 := rfl
  intro P2 P23 P40 P90 P125 P142 h2 h23 h40 h90 h125 h142
  have YV : ∀ τ : S0, τ.1 36 = σ.1 36 → τ.1 5 = σ.1 5 → τ.2.1 13 = σ.2.1 13 → τ.2.1 19 = σ.2.1 19 → τ.2.1 56 = σ.2.1 56 → τ.2.1 57 = σ.2.1 57 → τ.2.1 58 = σ.2.1 58 → n_YY τ := fun τ e1 e2 e3 e4 e5 e6 e7 => by (unfold n_YY; rw [e1, e2, e3, e4, e5, e6, e7]; exact p1)
  obtain ⟨yi, _, yy⟩ := p1
  have l_23 : ∀ (m_23 : Nat) (u1_23 : Int) (τ_23 : S0), 20001 - u1_23 < (m_23 : Int) → (m_T τ_23) → (τ_23.1 5 = σ.1 5) → (τ_23.1 36 = σ.1 36) → (τ_23.2.1 13 = σ.2.1 13) → (τ_23.2.1 19 = σ.2.1 19) → (τ_23.2.1 56 = σ.2.1 56) → (τ_23.2.1 57 = σ.2.1 57) → (τ_23.2.1 58 = σ.2.1 58) → (0 ≤ u1_23) → (u1_23 ≤ 20000) → (n_sa u1_23 (τ_23.2.1 61)) → (n_oT u1_23 (τ_23.2.1 69)) → (∀ r : Int, 0 ≤ r → r < u1_23 → τ_23.2.1 62 r = 0) → P23 u1_23 τ_23 := by
    intro m_23
    induction m_23 with
    | zero =>
      intro u1_23 τ_23 hm hT W5 W36 G13 G19 G56 G57 G58 i23_1 i23_2 i23_3 i23_4 i23_5
      have A13 : ∀ j, 0 ≤ τ_23.2.1 13 j ∧ τ_23.2.1 13 j ≤ 4 := fun j => hT.2 13 j
      have A19 : ∀ j, 0 ≤ τ_23.2.1 19 j ∧ τ_23.2.1 19 j ≤ 60 := fun j => hT.2 19 j
      have A56 : ∀ j, 0 ≤ τ_23.2.1 56 j ∧ τ_23.2.1 56 j ≤ 1499 := fun j => hT.2 56 j
      have A57 : ∀ j, 0 ≤ τ_23.2.1 57 j ∧ τ_23.2.1 57 j ≤ 120000 := fun j => hT.2 57 j
      have A58 : ∀ j, 0 ≤ τ_23.2.1 58 j ∧ τ_23.2.1 58 j ≤ 20000 := fun j => hT.2 58 j
      have A61 : ∀ j, 0 ≤ τ_23.2.1 61 j ∧ τ_23.2.1 61 j ≤ 20000 := fun j => hT.2 61 j
      have A62 : ∀ j, (-2147483648) ≤ τ_23.2.1 62 j ∧ τ_23.2.1 62 j ≤ 2147483647 := fun j => hT.2 62 j
      have A69 : ∀ j, (-1) ≤ τ_23.2.1 69 j ∧ τ_23.2.1 69 j ≤ 20000 := fun j => hT.2 69 j
      have v5 : 0 ≤ τ_23.1 5 ∧ τ_23.1 5 ≤ 1500 := hT.1 5
      have v36 : 0 ≤ τ_23.1 36 ∧ τ_23.1 36 ≤ 20000 := hT.1 36
      exfalso; (first | omega | (simp only [st_s] <;> omega) | assumption | omega | fail)
    | succ m_23 ih_23 =>
      intro u1_23 τ_23 hm_23 hT W5 W36 G13 G19 G56 G57 G58 i23_1 i23_2 i23_3 i23_4 i23_5
      have A13 : ∀ j, 0 ≤ τ_23.2.1 13 j ∧ τ_23.2.1 13 j ≤ 4 := fun j => hT.2 13 j
      have A19 : ∀ j, 0 ≤ τ_23.2.1 19 j ∧ τ_23.2.1 19 j ≤ 60 := fun j => hT.2 19 j
      have A56 : ∀ j, 0 ≤ τ_23.2.1 56 j ∧ τ_23.2.1 56 j ≤ 1499 := fun j => hT.2 56 j
      have A57 : ∀ j, 0 ≤ τ_23.2.1 57 j ∧ τ_23.2.1 57 j ≤ 120000 := fun j => hT.2 57 j
      have A58 : ∀ j, 0 ≤ τ_23.2.1 58 j ∧ τ_23.2.1 58 j ≤ 20000 := fun j => hT.2 58 j
      have A61 : ∀ j, 0 ≤ τ_23.2.1 61 j ∧ τ_23.2.1 61 j ≤ 20000 := fun j => hT.2 61 j
      have A62 : ∀ j, (-2147483648) ≤ τ_23.2.1 62 j ∧ τ_23.2.1 62 j ≤ 2147483647 := fun j => hT.2 62 j
      have A69 : ∀ j, (-1) ≤ τ_23.2.1 69 j ∧ τ_23.2.1 69 j ≤ 20000 := fun j => hT.2 69 j
      have v5 : 0 ≤ τ_23.1 5 ∧ τ_23.1 5 ≤ 1500 := hT.1 5
      have v36 : 0 ≤ τ_23.1 36 ∧ τ_23.1 36 ≤ 20000 := hT.1 36
      have l_90 : ∀ (m_90 : Nat) (u1_90 : Int) (u2_90 : Int) (τ_90 : S0), (n_e0 (τ_90.2.1 69) - u2_90) % 65536 < (m_90 : Int) → (m_T τ_90) → (τ_90.1 5 = σ.1 5) → (τ_90.1 36 = σ.1 36) → (τ_90.2.1 13 = σ.2.1 13) → (τ_90.2.1 19 = σ.2.1 19) → (τ_90.2.1 56 = σ.2.1 56) → (τ_90.2.1 57 = σ.2.1 57) → (τ_90.2.1 58 = σ.2.1 58) → (0 ≤ u1_90) → (u1_90 ≤ 20000) → (n_sa u1_90 (τ_90.2.1 61)) → (n_oT u1_90 (τ_90.2.1 69)) → (∀ r : Int, 0 ≤ r → r < u1_90 → τ_90.2.1 62 r = 0) → (u1_90 < (σ.1 36)) → (0 ≤ u2_90) → (u2_90 < 65536) → (u1_90 + (m_23 : Int) ≥ 20001) → P90 u1_90 u2_90 τ_90 := by
        intro m_90
        induction m_90 with
        | zero =>
          intro u1_90 u2_90 τ_90 hm hT W5 W36 G13 G19 G56 G57 G58 i90_1 i90_2 i90_3 i90_4 i90_5 i90_6 i90_7 i90_8 i90_9
          have A13 : ∀ j, 0 ≤ τ_90.2.1 13 j ∧ τ_90.2.1 13 j ≤ 4 := fun j => hT.2 13 j
          have A19 : ∀ j, 0 ≤ τ_90.2.1 19 j ∧ τ_90.2.1 19 j ≤ 60 := fun j => hT.2 19 j
          have A56 : ∀ j, 0 ≤ τ_90.2.1 56 j ∧ τ_90.2.1 56 j ≤ 1499 := fun j => hT.2 56 j
          have A57 : ∀ j, 0 ≤ τ_90.2.1 57 j ∧ τ_90.2.1 57 j ≤ 120000 := fun j => hT.2 57 j
          have A58 : ∀ j, 0 ≤ τ_90.2.1 58 j ∧ τ_90.2.1 58 j ≤ 20000 := fun j => hT.2 58 j
          have A61 : ∀ j, 0 ≤ τ_90.2.1 61 j ∧ τ_90.2.1 61 j ≤ 20000 := fun j => hT.2 61 j
          have A62 : ∀ j, (-2147483648) ≤ τ_90.2.1 62 j ∧ τ_90.2.1 62 j ≤ 2147483647 := fun j => hT.2 62 j
          have A69 : ∀ j, (-1) ≤ τ_90.2.1 69 j ∧ τ_90.2.1 69 j ≤ 20000 := fun j => hT.2 69 j
          have v5 : 0 ≤ τ_90.1 5 ∧ τ_90.1 5 ≤ 1500 := hT.1 5
          have v36 : 0 ≤ τ_90.1 36 ∧ τ_90.1 36 ≤ 20000 := hT.1 36
          exfalso; (first | omega | (simp only [st_s] <;> omega) | assumption | omega | fail)
        | succ m_90 ih_90 =>
          intro u1_90 u2_90 τ_90 hm_90 hT W5 W36 G13 G19 G56 G57 G58 i90_1 i90_2 i90_3 i90_4 i90_5 i90_6 i90_7 i90_8 i90_9
          have A13 : ∀ j, 0 ≤ τ_90.2.1 13 j ∧ τ_90.2.1 13 j ≤ 4 := fun j => hT.2 13 j
          have A19 : ∀ j, 0 ≤ τ_90.2.1 19 j ∧ τ_90.2.1 19 j ≤ 60 := fun j => hT.2 19 j
          have A56 : ∀ j, 0 ≤ τ_90.2.1 56 j ∧ τ_90.2.1 56 j ≤ 1499 := fun j => hT.2 56 j
          have A57 : ∀ j, 0 ≤ τ_90.2.1 57 j ∧ τ_90.2.1 57 j ≤ 120000 := fun j => hT.2 57 j
          have A58 : ∀ j, 0 ≤ τ_90.2.1 58 j ∧ τ_90.2.1 58 j ≤ 20000 := fun j => hT.2 58 j
          have A61 : ∀ j, 0 ≤ τ_90.2.1 61 j ∧ τ_90.2.1 61 j ≤ 20000 := fun j => hT.2 61 j
          have A62 : ∀ j, (-2147483648) ≤ τ_90.2.1 62 j ∧ τ_90.2.1 62 j ≤ 2147483647 := fun j => hT.2 62 j
          have A69 : ∀ j, (-1) ≤ τ_90.2.1 69 j ∧ τ_90.2.1 69 j ≤ 20000 := fun j => hT.2 69 j
          have v5 : 0 ≤ τ_90.1 5 ∧ τ_90.1 5 ≤ 1500 := hT.1 5
          have v36 : 0 ≤ τ_90.1 36 ∧ τ_90.1 36 ≤ 20000 := hT.1 36
          have ez := n_e0_s i90_4 (by omega)
          refine h90 u1_90 u2_90 τ_90 ?_
          refine ⟨(show 0 ≤ u2_90 ∧ u2_90 < 65536 from by (first | omega | (simp only [st_s] <;> omega) | assumption | omega | fail)), ?_⟩
          intro x22 r_x22 e_x22
          have b_x22 : (-1) ≤ x22 ∧ x22 ≤ 20000 := by rw [e_x22]; exact hT.2 69 _
          refine ⟨fun c23 => ?_, fun c23 => ?_⟩
          ·
            refine h125 _ _ _ ?_
            refine ⟨(show 0 ≤ u2_90 ∧ u2_90 < 65536 from by (first | omega | (simp only [st_s] <;> omega) | assumption | omega | fail)), ?_⟩
            intro x30 r_x30 e_x30
            have b_x30 : (-1) ≤ x30 ∧ x30 ≤ 20000 := by rw [e_x30]; exact hT.2 69 _
            have t30 : x30 < u1_90 := by (obtain ⟨N, eN, h1, h2⟩ := i90_4; rw [e_x30]; exact h1 _ (by omega) (by omega))
            refine ⟨fun c31 => ?_, fun c31 => ?_⟩
            ·
              refine h142 _ _ _ ?_
              refine ⟨(show 0 ≤ u2_90 ∧ u2_90 < 65536 from by (first | omega | (simp only [st_s] <;> omega) | assumption | omega | fail)), ?_⟩
              intro x33 r_x33 e_x33
              have b_x33 : (-1) ≤ x33 ∧ x33 ≤ 20000 := by rw [e_x33]; exact hT.2 69 _
              have t33 : 0 ≤ x33 ∧ x33 ≤ u1_90 := by (first | omega | (rw [e_x33, e_τ_142]; show 0 ≤ st (τ_90.2.1 69) u2_90 u1_90 u2_90 ∧ st (τ_90.2.1 69) u2_90 u1_90 u2_90 ≤ _; rw [st_s]; omega))
              refine ⟨(show 0 ≤ u1_90 ∧ u1_90 < 20001 from by (first | omega | (simp only [st_s] <;> omega) | assumption | omega | fail)), ?_⟩
              replace hT := mT_a (k := 61) (j := u1_90) hT (show (0 : Int) ≤ x33 ∧ x33 ≤ 20000 from by (first | omega | (simp only [st_s] <;> omega) | assumption | omega | fail))
              replace hT := mT_a (k := 62) (j := u1_90) hT (show (-2147483648 : Int) ≤ 0 ∧ 0 ≤ 2147483647 from by (first | omega | (simp only [st_s] <;> omega) | assumption | omega | fail))
              refine ⟨(⟨by (first | omega | (simp only [st_s] <;> omega) | assumption | omega | fail), by (first | omega | (simp only [st_s] <;> omega) | assumption | omega | fail)⟩ : rg (u1_90 + 1)), ?_⟩
              exact ih_23 _ _ (show (20001 - (u1_90 + 1) : Int) < ((m_23 : Nat) : Int) from by ((first | omega | (simp only [st_s] <;> omega) | assumption | omega | fail))) hT (show τ_90.1 5 = σ.1 5 from by first | exact W5 | omega) (show τ_90.1 36 = σ.1 36 from by first | exact W36 | omega) G13 G19 G56 G57 G58 (show 0 ≤ (u1_90 + 1) from by (first | omega | (simp only [st_s] <;> omega) | assumption | omega | fail)) (show (u1_90 + 1) ≤ 20000 from by (first | omega | (simp only [st_s] <;> omega) | assumption | omega | fail)) (show n_sa (u1_90 + 1) ((st (τ_90.2.1 61) u1_90 x33)) from by (first | (intro r a b; exfalso; omega) | exact n_sa_s i90_3 (by omega) (by omega) | (rw [e_τ_142]; exact n_sa_s i90_3 (by omega) (by omega)) | fail)) (show n_oT (u1_90 + 1) (τ_90.2.1 69) from by (first | exact n_oT_0 (fun j a b => i2_3 j a (by omega)) | exact n_oT_w i90_4 | exact n_oT_s i90_4 (by omega) (by omega) (by omega) (by omega) | (rw [e_τ_142]; exact n_oT_s i90_4 (by omega) (by omega) (by omega) (by omega)) | fail)) (show ∀ r : Int, 0 ≤ r → r < (u1_90 + 1) → (st (τ_90.2.1 62) u1_90 0) r = 0 from by (first | (intro r a b; exfalso; omega) | (intro r a b; rcases (by omega : r < u1_90 ∨ r = u1_90) with q | q; (rw [st_n _ _ (by omega)]; exact i90_5 r a q); (rw [q, st_s])) | (rw [e_τ_142]; intro r a b; rcases (by omega : r < u1_90 ∨ r = u1_90) with q | q; (rw [st_n _ _ (by omega)]; exact i90_5 r a q); (rw [q, st_s])) | fail))
            ·
              replace hT := mT_a (k := 69) (j := u2_90) hT (show (-1 : Int) ≤ u1_90 ∧ u1_90 ≤ 20000 from by (first | omega | (simp only [st_s] <;> omega) | assumption | omega | fail))
              obtain ⟨τ_142, e_τ_142⟩ : ∃ z : S0, z = s_a τ_90 69 u2_90 u1_90 := ⟨_, rfl⟩
              rw [← e_τ_142]
              replace hT : m_T τ_142 := by rw [e_τ_142]; exact hT
              have w5_τ_142 : τ_142.1 5 = τ_90.1 5 := by rw [e_τ_142]; rfl
              have w36_τ_142 : τ_142.1 36 = τ_90.1 36 := by rw [e_τ_142]; rfl
              have g13_τ_142 : τ_142.2.1 13 = τ_90.2.1 13 := by rw [e_τ_142]; rfl
              have g19_τ_142 : τ_142.2.1 19 = τ_90.2.1 19 := by rw [e_τ_142]; rfl
              have g56_τ_142 : τ_142.2.1 56 = τ_90.2.1 56 := by rw [e_τ_142]; rfl
              have g57_τ_142 : τ_142.2.1 57 = τ_90.2.1 57 := by rw [e_τ_142]; rfl
              have g58_τ_142 : τ_142.2.1 58 = τ_90.2.1 58 := by rw [e_τ_142]; rfl
              have g61_τ_142 : τ_142.2.1 61 = τ_90.2.1 61 := by rw [e_τ_142]; rfl
              have g62_τ_142 : τ_142.2.1 62 = τ_90.2.1 62 := by rw [e_τ_142]; rfl
              have g69_τ_142 : τ_142.2.1 69 = (st (τ_90.2.1 69) u2_90 u1_90) := by rw [e_τ_142]; rfl
              have W5 : τ_142.1 5 = σ.1 5 := by first | exact w5_τ_142.trans W5 | omega
              have W36 : τ_142.1 36 = σ.1 36 := by first | exact w36_τ_142.trans W36 | omega
              have G13 : τ_142.2.1 13 = σ.2.1 13 := (g13_τ_142).trans G13
              have G19 : τ_142.2.1 19 = σ.2.1 19 := (g19_τ_142).trans G19
              have G56 : τ_142.2.1 56 = σ.2.1 56 := (g56_τ_142).trans G56
              have G57 : τ_142.2.1 57 = σ.2.1 57 := (g57_τ_142).trans G57
              have G58 : τ_142.2.1 58 = σ.2.1 58 := (g58_τ_142).trans G58
              have A13 : ∀ j, 0 ≤ τ_142.2.1 13 j ∧ τ_142.2.1 13 j ≤ 4 := fun j => hT.2 13 j
              have A19 : ∀ j, 0 ≤ τ_142.2.1 19 j ∧ τ_142.2.1 19 j ≤ 60 := fun j => hT.2 19 j
              have A56 : ∀ j, 0 ≤ τ_142.2.1 56 j ∧ τ_142.2.1 56 j ≤ 1499 := fun j => hT.2 56 j
              have A57 : ∀ j, 0 ≤ τ_142.2.1 57 j ∧ τ_142.2.1 57 j ≤ 120000 := fun j => hT.2 57 j
              have A58 : ∀ j, 0 ≤ τ_142.2.1 58 j ∧ τ_142.2.1 58 j ≤ 20000 := fun j => hT.2 58 j
              have A61 : ∀ j, 0 ≤ τ_142.2.1 61 j ∧ τ_142.2.1 61 j ≤ 20000 := fun j => hT.2 61 j
              have A62 : ∀ j, (-2147483648) ≤ τ_142.2.1 62 j ∧ τ_142.2.1 62 j ≤ 2147483647 := fun j => hT.2 62 j
              have A69 : ∀ j, (-1) ≤ τ_142.2.1 69 j ∧ τ_142.2.1 69 j ≤ 20000 := fun j => hT.2 69 j
              have v5 : 0 ≤ τ_142.1 5 ∧ τ_142.1 5 ≤ 1500 := hT.1 5
              have v36 : 0 ≤ τ_142.1 36 ∧ τ_142.1 36 ≤ 20000 := hT.1 36
              refine h142 _ _ _ ?_
              refine ⟨(show 0 ≤ u2_90 ∧ u2_90 < 65536 from by (first | omega | (simp only [st_s] <;> omega) | assumption | omega | fail)), ?_⟩
              intro x33 r_x33 e_x33
              have b_x33 : (-1) ≤ x33 ∧ x33 ≤ 20000 := by rw [e_x33]; exact hT.2 69 _
              have t33 : 0 ≤ x33 ∧ x33 ≤ u1_90 := by (first | omega | (rw [e_x33, e_τ_142]; show 0 ≤ st (τ_90.2.1 69) u2_90 u1_90 u2_90 ∧ st (τ_90.2.1 69) u2_90 u1_90 u2_90 ≤ _; rw [st_s]; omega))
              refine ⟨(show 0 ≤ u1_90 ∧ u1_90 < 20001 from by (first | omega | (simp only [st_s] <;> omega) | assumption | omega | fail)), ?_⟩
              replace hT := mT_a (k := 61) (j := u1_90) hT (show (0 : Int) ≤ x33 ∧ x33 ≤ 20000 from by (first | omega | (simp only [st_s] <;> omega) | assumption | omega | fail))
              replace hT := mT_a (k := 62) (j := u1_90) hT (show (-2147483648 : Int) ≤ 0 ∧ 0 ≤ 2147483647 from by (first | omega | (simp only [st_s] <;> omega) | assumption | omega | fail))
              refine ⟨(⟨by (first | omega | (simp only [st_s] <;> omega) | assumption | omega | fail), by (first | omega | (simp only [st_s] <;> omega) | assumption | omega | fail)⟩ : rg (u1_90 + 1)), ?_⟩
              exact ih_23 _ _ (show (20001 - (u1_90 + 1) : Int) < ((m_23 : Nat) : Int) from by ((first | omega | (simp only [st_s] <;> omega) | assumption | omega | fail))) hT (show τ_142.1 5 = σ.1 5 from by first | exact W5 | omega) (show τ_142.1 36 = σ.1 36 from by first | exact W36 | omega) G13 G19 G56 G57 G58 (show 0 ≤ (u1_90 + 1) from by (first | omega | (simp only [st_s] <;> omega) | assumption | omega | fail)) (show (u1_90 + 1) ≤ 20000 from by (first | omega | (simp only [st_s] <;> omega) | assumption | omega | fail)) (show n_sa (u1_90 + 1) ((st (τ_142.2.1 61) u1_90 x33)) from by (first | (intro r a b; exfalso; omega) | exact n_sa_s i90_3 (by omega) (by omega) | (rw [e_τ_142]; exact n_sa_s i90_3 (by omega) (by omega)) | fail)) (show n_oT (u1_90 + 1) (τ_142.2.1 69) from by (first | exact n_oT_0 (fun j a b => i2_3 j a (by omega)) | exact n_oT_w i90_4 | exact n_oT_s i90_4 (by omega) (by omega) (by omega) (by omega) | (rw [e_τ_142]; exact n_oT_s i90_4 (by omega) (by omega) (by omega) (by omega)) | fail)) (show ∀ r : Int, 0 ≤ r → r < (u1_90 + 1) → (st (τ_142.2.1 62) u1_90 0) r = 0 from by (first | (intro r a b; exfalso; omega) | (intro r a b; rcases (by omega : r < u1_90 ∨ r = u1_90) with q | q; (rw [st_n _ _ (by omega)]; exact i90_5 r a q); (rw [q, st_s])) | (rw [e_τ_142]; intro r a b; rcases (by omega : r < u1_90 ∨ r = u1_90) with q | q; (rw [st_n _ _ (by omega)]; exact i90_5 r a q); (rw [q, st_s])) | fail))
          ·
            intro x24 r_x24 e_x24
            have b_x24 : (-1) ≤ x24 ∧ x24 ≤ 20000 := by rw [e_x24]; exact hT.2 69 _
            have t24 : x24 < u1_90 := by (obtain ⟨N, eN, h1, h2⟩ := i90_4; rw [e_x24]; exact h1 _ (by omega) (by omega))
            refine ⟨_, K_X13_areSame hT (show 0 ≤ x24 from by (first | omega | (simp only [st_s] <;> omega) | assumption | omega | fail)) (show x24 < (τ_90.1 36) from by (first | omega | (simp only [st_s] <;> omega) | assumption | omega | fail)) (show 0 ≤ u1_90 from by (first | omega | (simp only [st_s] <;> omega) | assumption | omega | fail)) (show u1_90 < (τ_90.1 36) from by (first | omega | (simp only [st_s] <;> omega) | assumption | omega | fail)) (show n_YY τ_90 from by exact YV _ W36 W5 G13 G19 G56 G57 G58), ?_⟩
            intro x26 r_x26 hq
            refine ⟨fun c28 => ?_, fun c28 => ?_⟩
            ·
              refine h125 _ _ _ ?_
              refine ⟨(show 0 ≤ u2_90 ∧ u2_90 < 65536 from by (first | omega | (simp only [st_s] <;> omega) | assumption | omega | fail)), ?_⟩
              intro x30 r_x30 e_x30
              have b_x30 : (-1) ≤ x30 ∧ x30 ≤ 20000 := by rw [e_x30]; exact hT.2 69 _
              have t30 : x30 < u1_90 := by (obtain ⟨N, eN, h1, h2⟩ := i90_4; rw [e_x30]; exact h1 _ (by omega) (by omega))
              refine ⟨fun c31 => ?_, fun c31 => ?_⟩
              ·
                refine h142 _ _ _ ?_
                refine ⟨(show 0 ≤ u2_90 ∧ u2_90 < 65536 from by (first | omega | (simp only [st_s] <;> omega) | assumption | omega | fail)), ?_⟩
                intro x33 r_x33 e_x33
                have b_x33 : (-1) ≤ x33 ∧ x33 ≤ 20000 := by rw [e_x33]; exact hT.2 69 _
                have t33 : 0 ≤ x33 ∧ x33 ≤ u1_90 := by (first | omega | (rw [e_x33, e_τ_142]; show 0 ≤ st (τ_90.2.1 69) u2_90 u1_90 u2_90 ∧ st (τ_90.2.1 69) u2_90 u1_90 u2_90 ≤ _; rw [st_s]; omega))
                refine ⟨(show 0 ≤ u1_90 ∧ u1_90 < 20001 from by (first | omega | (simp only [st_s] <;> omega) | assumption | omega | fail)), ?_⟩
                replace hT := mT_a (k := 61) (j := u1_90) hT (show (0 : Int) ≤ x33 ∧ x33 ≤ 20000 from by (first | omega | (simp only [st_s] <;> omega) | assumption | omega | fail))
                replace hT := mT_a (k := 62) (j := u1_90) hT (show (-2147483648 : Int) ≤ 0 ∧ 0 ≤ 2147483647 from by (first | omega | (simp only [st_s] <;> omega) | assumption | omega | fail))
                refine ⟨(⟨by (first | omega | (simp only [st_s] <;> omega) | assumption | omega | fail), by (first | omega | (simp only [st_s] <;> omega) | assumption | omega | fail)⟩ : rg (u1_90 + 1)), ?_⟩
                exact ih_23 _ _ (show (20001 - (u1_90 + 1) : Int) < ((m_23 : Nat) : Int) from by ((first | omega | (simp only [st_s] <;> omega) | assumption | omega | fail))) hT (show τ_90.1 5 = σ.1 5 from by first | exact W5 | omega) (show τ_90.1 36 = σ.1 36 from by first | exact W36 | omega) G13 G19 G56 G57 G58 (show 0 ≤ (u1_90 + 1) from by (first | omega | (simp only [st_s] <;> omega) | assumption | omega | fail)) (show (u1_90 + 1) ≤ 20000 from by (first | omega | (simp only [st_s] <;> omega) | assumption | omega | fail)) (show n_sa (u1_90 + 1) ((st (τ_90.2.1 61) u1_90 x33)) from by (first | (intro r a b; exfalso; omega) | exact n_sa_s i90_3 (by omega) (by omega) | (rw [e_τ_142]; exact n_sa_s i90_3 (by omega) (by omega)) | fail)) (show n_oT (u1_90 + 1) (τ_90.2.1 69) from by (first | exact n_oT_0 (fun j a b => i2_3 j a (by omega)) | exact n_oT_w i90_4 | exact n_oT_s i90_4 (by omega) (by omega) (by omega) (by omega) | (rw [e_τ_142]; exact n_oT_s i90_4 (by omega) (by omega) (by omega) (by omega)) | fail)) (show ∀ r : Int, 0 ≤ r → r < (u1_90 + 1) → (st (τ_90.2.1 62) u1_90 0) r = 0 from by (first | (intro r a b; exfalso; omega) | (intro r a b; rcases (by omega : r < u1_90 ∨ r = u1_90) with q | q; (rw [st_n _ _ (by omega)]; exact i90_5 r a q); (rw [q, st_s])) | (rw [e_τ_142]; intro r a b; rcases (by omega : r < u1_90 ∨ r = u1_90) with q | q; (rw [st_n _ _ (by omega)]; exact i90_5 r a q); (rw [q, st_s])) | fail))
              ·
                replace hT := mT_a (k := 69) (j := u2_90) hT (show (-1 : Int) ≤ u1_90 ∧ u1_90 ≤ 20000 from by (first | omega | (simp only [st_s] <;> omega) | assumption | omega | fail))
                obtain ⟨τ_142, e_τ_142⟩ : ∃ z : S0, z = s_a τ_90 69 u2_90 u1_90 := ⟨_, rfl⟩
                rw [← e_τ_142]
                replace hT : m_T τ_142 := by rw [e_τ_142]; exact hT
                have w5_τ_142 : τ_142.1 5 = τ_90.1 5 := by rw [e_τ_142]; rfl
                have w36_τ_142 : τ_142.1 36 = τ_90.1 36 := by rw [e_τ_142]; rfl
                have g13_τ_142 : τ_142.2.1 13 = τ_90.2.1 13 := by rw [e_τ_142]; rfl
                have g19_τ_142 : τ_142.2.1 19 = τ_90.2.1 19 := by rw [e_τ_142]; rfl
                have g56_τ_142 : τ_142.2.1 56 = τ_90.2.1 56 := by rw [e_τ_142]; rfl
                have g57_τ_142 : τ_142.2.1 57 = τ_90.2.1 57 := by rw [e_τ_142]; rfl
                have g58_τ_142 : τ_142.2.1 58 = τ_90.2.1 58 := by rw [e_τ_142]; rfl
                have g61_τ_142 : τ_142.2.1 61 = τ_90.2.1 61 := by rw [e_τ_142]; rfl
                have g62_τ_142 : τ_142.2.1 62 = τ_90.2.1 62 := by rw [e_τ_142]; rfl
                have g69_τ_142 : τ_142.2.1 69 = (st (τ_90.2.1 69) u2_90 u1_90) := by rw [e_τ_142]; rfl
                have W5 : τ_142.1 5 = σ.1 5 := by first | exact w5_τ_142.trans W5 | omega
                have W36 : τ_142.1 36 = σ.1 36 := by first | exact w36_τ_142.trans W36 | omega
                have G13 : τ_142.2.1 13 = σ.2.1 13 := (g13_τ_142).trans G13
                have G19 : τ_142.2.1 19 = σ.2.1 19 := (g19_τ_142).trans G19
                have G56 : τ_142.2.1 56 = σ.2.1 56 := (g56_τ_142).trans G56
                have G57 : τ_142.2.1 57 = σ.2.1 57 := (g57_τ_142).trans G57
                have G58 : τ_142.2.1 58 = σ.2.1 58 := (g58_τ_142).trans G58
                have A13 : ∀ j, 0 ≤ τ_142.2.1 13 j ∧ τ_142.2.1 13 j ≤ 4 := fun j => hT.2 13 j
                have A19 : ∀ j, 0 ≤ τ_142.2.1 19 j ∧ τ_142.2.1 19 j ≤ 60 := fun j => hT.2 19 j
                have A56 : ∀ j, 0 ≤ τ_142.2.1 56 j ∧ τ_142.2.1 56 j ≤ 1499 := fun j => hT.2 56 j
                have A57 : ∀ j, 0 ≤ τ_142.2.1 57 j ∧ τ_142.2.1 57 j ≤ 120000 := fun j => hT.2 57 j
                have A58 : ∀ j, 0 ≤ τ_142.2.1 58 j ∧ τ_142.2.1 58 j ≤ 20000 := fun j => hT.2 58 j
                have A61 : ∀ j, 0 ≤ τ_142.2.1 61 j ∧ τ_142.2.1 61 j ≤ 20000 := fun j => hT.2 61 j
                have A62 : ∀ j, (-2147483648) ≤ τ_142.2.1 62 j ∧ τ_142.2.1 62 j ≤ 2147483647 := fun j => hT.2 62 j
                have A69 : ∀ j, (-1) ≤ τ_142.2.1 69 j ∧ τ_142.2.1 69 j ≤ 20000 := fun j => hT.2 69 j
                have v5 : 0 ≤ τ_142.1 5 ∧ τ_142.1 5 ≤ 1500 := hT.1 5
                have v36 : 0 ≤ τ_142.1 36 ∧ τ_142.1 36 ≤ 20000 := hT.1 36
                refine h142 _ _ _ ?_
                refine ⟨(show 0 ≤ u2_90 ∧ u2_90 < 65536 from by (first | omega | (simp only [st_s] <;> omega) | assumption | omega | fail)), ?_⟩
                intro x33 r_x33 e_x33
                have b_x33 : (-1) ≤ x33 ∧ x33 ≤ 20000 := by rw [e_x33]; exact hT.2 69 _
                have t33 : 0 ≤ x33 ∧ x33 ≤ u1_90 := by (first | omega | (rw [e_x33, e_τ_142]; show 0 ≤ st (τ_90.2.1 69) u2_90 u1_90 u2_90 ∧ st (τ_90.2.1 69) u2_90 u1_90 u2_90 ≤ _; rw [st_s]; omega))
                refine ⟨(show 0 ≤ u1_90 ∧ u1_90 < 20001 from by (first | omega | (simp only [st_s] <;> omega) | assumption | omega | fail)), ?_⟩
                replace hT := mT_a (k := 61) (j := u1_90) hT (show (0 : Int) ≤ x33 ∧ x33 ≤ 20000 from by (first | omega | (simp only [st_s] <;> omega) | assumption | omega | fail))
                replace hT := mT_a (k := 62) (j := u1_90) hT (show (-2147483648 : Int) ≤ 0 ∧ 0 ≤ 2147483647 from by (first | omega | (simp only [st_s] <;> omega) | assumption | omega | fail))
                refine ⟨(⟨by (first | omega | (simp only [st_s] <;> omega) | assumption | omega | fail), by (first | omega | (simp only [st_s] <;> omega) | assumption | omega | fail)⟩ : rg (u1_90 + 1)), ?_⟩
                exact ih_23 _ _ (show (20001 - (u1_90 + 1) : Int) < ((m_23 : Nat) : Int) from by ((first | omega | (simp only [st_s] <;> omega) | assumption | omega | fail))) hT (show τ_142.1 5 = σ.1 5 from by first | exact W5 | omega) (show τ_142.1 36 = σ.1 36 from by first | exact W36 | omega) G13 G19 G56 G57 G58 (show 0 ≤ (u1_90 + 1) from by (first | omega | (simp only [st_s] <;> omega) | assumption | omega | fail)) (show (u1_90 + 1) ≤ 20000 from by (first | omega | (simp only [st_s] <;> omega) | assumption | omega | fail)) (show n_sa (u1_90 + 1) ((st (τ_142.2.1 61) u1_90 x33)) from by (first | (intro r a b; exfalso; omega) | exact n_sa_s i90_3 (by omega) (by omega) | (rw [e_τ_142]; exact n_sa_s i90_3 (by omega) (by omega)) | fail)) (show n_oT (u1_90 + 1) (τ_142.2.1 69) from by (first | exact n_oT_0 (fun j a b => i2_3 j a (by omega)) | exact n_oT_w i90_4 | exact n_oT_s i90_4 (by omega) (by omega) (by omega) (by omega) | (rw [e_τ_142]; exact n_oT_s i90_4 (by omega) (by omega) (by omega) (by omega)) | fail)) (show ∀ r : Int, 0 ≤ r → r < (u1_90 + 1) → (st (τ_142.2.1 62) u1_90 0) r = 0 from by (first | (intro r a b; exfalso; omega) | (intro r a b; rcases (by omega : r < u1_90 ∨ r = u1_90) with q | q; (rw [st_n _ _ (by omega)]; exact i90_5 r a q); (rw [q, st_s])) | (rw [e_τ_142]; intro r a b; rcases (by omega : r < u1_90 ∨ r = u1_90) with q | q; (rw [st_n _ _ (by omega)]; exact i90_5 r a q); (rw [q, st_s])) | fail))
            ·
              exact ih_90 _ _ _ (show ((n_e0 (τ_90.2.1 69) - ((u2_90 + 1) % 65536)) % 65536 : Int) < ((m_90 : Nat) : Int) from by ((first | omega | (have ne : ¬ u2_90 = n_e0 (τ_90.2.1 69) := (fun q => c23 (by rw [e_x22, q]; exact ez.2.2)); omega) | fail))) hT (show τ_90.1 5 = σ.1 5 from by first | exact W5 | omega) (show τ_90.1 36 = σ.1 36 from by first | exact W36 | omega) G13 G19 G56 G57 G58 (show 0 ≤ u1_90 from by (first | omega | (simp only [st_s] <;> omega) | assumption | omega | fail)) (show u1_90 ≤ 20000 from by (first | omega | (simp only [st_s] <;> omega) | assumption | omega | fail)) (show n_sa u1_90 (τ_90.2.1 61) from by (first | omega | (simp only [st_s] <;> omega) | assumption | omega | fail)) (show n_oT u1_90 (τ_90.2.1 69) from by (first | omega | (simp only [st_s] <;> omega) | assumption | omega | fail)) (show ∀ r : Int, 0 ≤ r → r < u1_90 → τ_90.2.1 62 r = 0 from by (first | omega | (simp only [st_s] <;> omega) | assumption | omega | fail)) (show u1_90 < (σ.1 36) from by (first | omega | (simp only [st_s] <;> omega) | assumption | omega | fail)) (show 0 ≤ ((u2_90 + 1) % 65536) from by (first | omega | (simp only [st_s] <;> omega) | assumption | omega | fail)) (show ((u2_90 + 1) % 65536) < 65536 from by (first | omega | (simp only [st_s] <;> omega) | assumption | omega | fail)) (show u1_90 + (m_23 : Int) ≥ 20001 from by (first | omega | (simp only [st_s] <;> omega) | assumption | omega | fail))
      have l_40 : ∀ (m_40 : Nat) (u1_40 : Int) (u2_40 : Int) (u3_40 : Int) (τ_40 : S0), 61 - u3_40 < (m_40 : Int) → (m_T τ_40) → (τ_40.1 5 = σ.1 5) → (τ_40.1 36 = σ.1 36) → (τ_40.2.1 13 = σ.2.1 13) → (τ_40.2.1 19 = σ.2.1 19) → (τ_40.2.1 56 = σ.2.1 56) → (τ_40.2.1 57 = σ.2.1 57) → (τ_40.2.1 58 = σ.2.1 58) → (0 ≤ u1_40) → (u1_40 ≤ 20000) → (n_sa u1_40 (τ_40.2.1 61)) → (n_oT u1_40 (τ_40.2.1 69)) → (∀ r : Int, 0 ≤ r → r < u1_40 → τ_40.2.1 62 r = 0) → (u1_40 < (σ.1 36)) → (0 ≤ u3_40) → (u3_40 ≤ 60) → (u1_40 + (m_23 : Int) ≥ 20001) → P40 u1_40 u2_40 u3_40 τ_40 := by
        intro m_40
        induction m_40 with
        | zero =>
          intro u1_40 u2_40 u3_40 τ_40 hm hT W5 W36 G13 G19 G56 G57 G58 i40_1 i40_2 i40_3 i40_4 i40_5 i40_6 i40_7 i40_8 i40_9
          have A13 : ∀ j, 0 ≤ τ_40.2.1 13 j ∧ τ_40.2.1 13 j ≤ 4 := fun j => hT.2 13 j
          have A19 : ∀ j, 0 ≤ τ_40.2.1 19 j ∧ τ_40.2.1 19 j ≤ 60 := fun j => hT.2 19 j
          have A56 : ∀ j, 0 ≤ τ_40.2.1 56 j ∧ τ_40.2.1 56 j ≤ 1499 := fun j => hT.2 56 j
          have A57 : ∀ j, 0 ≤ τ_40.2.1 57 j ∧ τ_40.2.1 57 j ≤ 120000 := fun j => hT.2 57 j
          have A58 : ∀ j, 0 ≤ τ_40.2.1 58 j ∧ τ_40.2.1 58 j ≤ 20000 := fun j => hT.2 58 j
          have A61 : ∀ j, 0 ≤ τ_40.2.1 61 j ∧ τ_40.2.1 61 j ≤ 20000 := fun j => hT.2 61 j
          have A62 : ∀ j, (-2147483648) ≤ τ_40.2.1 62 j ∧ τ_40.2.1 62 j ≤ 2147483647 := fun j => hT.2 62 j
          have A69 : ∀ j, (-1) ≤ τ_40.2.1 69 j ∧ τ_40.2.1 69 j ≤ 20000 := fun j => hT.2 69 j
          have v5 : 0 ≤ τ_40.1 5 ∧ τ_40.1 5 ≤ 1500 := hT.1 5
          have v36 : 0 ≤ τ_40.1 36 ∧ τ_40.1 36 ≤ 20000 := hT.1 36
          exfalso; (first | omega | (simp only [st_s] <;> omega) | assumption | omega | fail)
        | succ m_40 ih_40 =>
          intro u1_40 u2_40 u3_40 τ_40 hm_40 hT W5 W36 G13 G19 G56 G57 G58 i40_1 i40_2 i40_3 i40_4 i40_5 i40_6 i40_7 i40_8 i40_9
          have A13 : ∀ j, 0 ≤ τ_40.2.1 13 j ∧ τ_40.2.1 13 j ≤ 4 := fun j => hT.2 13 j
          have A19 : ∀ j, 0 ≤ τ_40.2.1 19 j ∧ τ_40.2.1 19 j ≤ 60 := fun j => hT.2 19 j
          have A56 : ∀ j, 0 ≤ τ_40.2.1 56 j ∧ τ_40.2.1 56 j ≤ 1499 := fun j => hT.2 56 j
          have A57 : ∀ j, 0 ≤ τ_40.2.1 57 j ∧ τ_40.2.1 57 j ≤ 120000 := fun j => hT.2 57 j
          have A58 : ∀ j, 0 ≤ τ_40.2.1 58 j ∧ τ_40.2.1 58 j ≤ 20000 := fun j => hT.2 58 j
          have A61 : ∀ j, 0 ≤ τ_40.2.1 61 j ∧ τ_40.2.1 61 j ≤ 20000 := fun j => hT.2 61 j
          have A62 : ∀ j, (-2147483648) ≤ τ_40.2.1 62 j ∧ τ_40.2.1 62 j ≤ 2147483647 := fun j => hT.2 62 j
          have A69 : ∀ j, (-1) ≤ τ_40.2.1 69 j ∧ τ_40.2.1 69 j ≤ 20000 := fun j => hT.2 69 j
          have v5 : 0 ≤ τ_40.1 5 ∧ τ_40.1 5 ≤ 1500 := hT.1 5
          have v36 : 0 ≤ τ_40.1 36 ∧ τ_40.1 36 ≤ 20000 := hT.1 36
          refine h40 u1_40 u2_40 u3_40 τ_40 ?_
          refine ⟨_, K3_X13_rowWidth hT (show 0 ≤ u1_40 from by (first | omega | (simp only [st_s] <;> omega) | assumption | omega | fail)) (show u1_40 < 20001 from by (first | omega | (simp only [st_s] <;> omega) | assumption | omega | fail)), ?_⟩
          intro x8 r_x8 hq
          obtain ⟨q7_1, q7_2⟩ := hq
          replace q7_1 : 0 ≤ x8 ∧ x8 ≤ 60 := q7_1
          replace q7_2 : x8 = n_wd (τ_40.2.1 13) (τ_40.2.1 19) (τ_40.2.1 56 u1_40) := q7_2
          refine ⟨fun c10 => ?_, fun c10 => ?_⟩
          ·
            have y1 := yy u1_40 (by omega) (by omega)
            obtain ⟨_, ⟨y3, y4⟩, _⟩ := y1
            rw [← G13, ← G19, ← G56] at y4
            rw [← G57] at y3 y4
            intro x11 r_x11
            intro x12 r_x12
            exact l_90 (((n_e0 (τ_40.2.1 69) - (x12 % 65536)) % 65536 : Int).toNat + 1) _ _ _ (show ((n_e0 (τ_40.2.1 69) - (x12 % 65536)) % 65536 : Int) < ((((n_e0 (τ_40.2.1 69) - (x12 % 65536)) % 65536 : Int).toNat + 1 : Nat) : Int) from by ((first | omega | (have ne : ¬ u2_90 = n_e0 (τ_90.2.1 69) := (fun q => c23 (by rw [e_x22, q]; exact ez.2.2)); omega) | fail))) hT (show τ_40.1 5 = σ.1 5 from by first | exact W5 | omega) (show τ_40.1 36 = σ.1 36 from by first | exact W36 | omega) G13 G19 G56 G57 G58 (show 0 ≤ u1_40 from by (first | omega | (simp only [st_s] <;> omega) | assumption | omega | fail)) (show u1_40 ≤ 20000 from by (first | omega | (simp only [st_s] <;> omega) | assumption | omega | fail)) (show n_sa u1_40 (τ_40.2.1 61) from by (first | omega | (simp only [st_s] <;> omega) | assumption | omega | fail)) (show n_oT u1_40 (τ_40.2.1 69) from by (first | omega | (simp only [st_s] <;> omega) | assumption | omega | fail)) (show ∀ r : Int, 0 ≤ r → r < u1_40 → τ_40.2.1 62 r = 0 from by (first | omega | (simp only [st_s] <;> omega) | assumption | omega | fail)) (show u1_40 < (σ.1 36) from by (first | omega | (simp only [st_s] <;> omega) | assumption | omega | fail)) (show 0 ≤ (x12 % 65536) from by (first | omega | (simp only [st_s] <;> omega) | assumption | omega | fail)) (show (x12 % 65536) < 65536 from by (first | omega | (simp only [st_s] <;> omega) | assumption | omega | fail)) (show u1_40 + (m_23 : Int) ≥ 20001 from by (first | omega | (simp only [st_s] <;> omega) | assumption | omega | fail))
          ·
            have y1 := yy u1_40 (by omega) (by omega)
            obtain ⟨_, ⟨y3, y4⟩, _⟩ := y1
            rw [← G13, ← G19, ← G56] at y4
            rw [← G57] at y3 y4
            refine ⟨(show 0 ≤ u1_40 ∧ u1_40 < 20001 from by (first | omega | (simp only [st_s] <;> omega) | assumption | omega | fail)), ?_⟩
            intro x14 r_x14 e_x14
            have b_x14 : 0 ≤ x14 ∧ x14 ≤ 120000 := by rw [e_x14]; exact hT.2 57 _
            refine ⟨(show 0 ≤ (x14 + u3_40) ∧ (x14 + u3_40) < 120000 from by (first | omega | (simp only [st_s] <;> omega) | assumption | omega | fail)), ?_⟩
            intro x16 r_x16 e_x16
            have b_x16 : 0 ≤ x16 ∧ x16 ≤ 20000 := by rw [e_x16]; exact hT.2 58 _
            refine ⟨(show 0 ≤ x16 ∧ x16 < 20001 from by (first | omega | (simp only [st_s] <;> omega) | assumption | omega | fail)), ?_⟩
            intro x18 r_x18 e_x18
            have b_x18 : 0 ≤ x18 ∧ x18 ≤ 20000 := by rw [e_x18]; exact hT.2 61 _
            intro x19 r_x19
            refine ⟨(⟨by (first | omega | (simp only [st_s] <;> omega) | assumption | omega | fail), by (first | omega | (simp only [st_s] <;> omega) | assumption | omega | fail)⟩ : rg (u3_40 + 1)), ?_⟩
            exact ih_40 _ _ _ _ (show (61 - (u3_40 + 1) : Int) < ((m_40 : Nat) : Int) from by ((first | omega | (simp only [st_s] <;> omega) | assumption | omega | fail))) hT (show τ_40.1 5 = σ.1 5 from by first | exact W5 | omega) (show τ_40.1 36 = σ.1 36 from by first | exact W36 | omega) G13 G19 G56 G57 G58 (show 0 ≤ u1_40 from by (first | omega | (simp only [st_s] <;> omega) | assumption | omega | fail)) (show u1_40 ≤ 20000 from by (first | omega | (simp only [st_s] <;> omega) | assumption | omega | fail)) (show n_sa u1_40 (τ_40.2.1 61) from by (first | omega | (simp only [st_s] <;> omega) | assumption | omega | fail)) (show n_oT u1_40 (τ_40.2.1 69) from by (first | omega | (simp only [st_s] <;> omega) | assumption | omega | fail)) (show ∀ r : Int, 0 ≤ r → r < u1_40 → τ_40.2.1 62 r = 0 from by (first | omega | (simp only [st_s] <;> omega) | assumption | omega | fail)) (show u1_40 < (σ.1 36) from by (first | omega | (simp only [st_s] <;> omega) | assumption | omega | fail)) (show 0 ≤ (u3_40 + 1) from by (first | omega | (simp only [st_s] <;> omega) | assumption | omega | fail)) (show (u3_40 + 1) ≤ 60 from by (first | omega | (simp only [st_s] <;> omega) | assumption | omega | fail)) (show u1_40 + (m_23 : Int) ≥ 20001 from by (first | omega | (simp only [st_s] <;> omega) | assumption | omega | fail))
      refine h23 u1_23 τ_23 ?_
      refine ⟨fun c4 => ?_, fun c4 => ?_⟩
      ·
        exact ⟨hT, (show n_sa (σ.1 36) (τ_23.2.1 61) from by exact fun r a b => i23_3 r a (by omega)), (show ∀ r : Int, 0 ≤ r → r < (σ.1 36) → τ_23.2.1 62 r = 0 from by exact fun r a b => i23_5 r a (by omega))⟩
      ·
        refine ⟨(show 0 ≤ u1_23 ∧ u1_23 < 20001 from by (first | omega | (simp only [st_s] <;> omega) | assumption | omega | fail)), ?_⟩
        intro x6 r_x6 e_x6
        have b_x6 : 0 ≤ x6 ∧ x6 ≤ 1499 := by rw [e_x6]; exact hT.2 56 _
        exact l_40 ((61 - 0 : Int).toNat + 1) _ _ _ _ (show (61 - 0 : Int) < (((61 - 0 : Int).toNat + 1 : Nat) : Int) from by ((first | omega | (simp only [st_s] <;> omega) | assumption | omega | fail))) hT (show τ_23.1 5 = σ.1 5 from by first | exact W5 | omega) (show τ_23.1 36 = σ.1 36 from by first | exact W36 | omega) G13 G19 G56 G57 G58 (show 0 ≤ u1_23 from by (first | omega | (simp only [st_s] <;> omega) | assumption | omega | fail)) (show u1_23 ≤ 20000 from by (first | omega | (simp only [st_s] <;> omega) | assumption | omega | fail)) (show n_sa u1_23 (τ_23.2.1 61) from by (first | omega | (simp only [st_s] <;> omega) | assumption | omega | fail)) (show n_oT u1_23 (τ_23.2.1 69) from by (first | omega | (simp only [st_s] <;> omega) | assumption | omega | fail)) (show ∀ r : Int, 0 ≤ r → r < u1_23 → τ_23.2.1 62 r = 0 from by (first | omega | (simp only [st_s] <;> omega) | assumption | omega | fail)) (show u1_23 < (σ.1 36) from by (first | omega | (simp only [st_s] <;> omega) | assumption | omega | fail)) (show 0 ≤ 0 from by (first | omega | (simp only [st_s] <;> omega) | assumption | omega | fail)) (show 0 ≤ 60 from by (first | omega | (simp only [st_s] <;> omega) | assumption | omega | fail)) (show u1_23 + (m_23 : Int) ≥ 20001 from by (first | omega | (simp only [st_s] <;> omega) | assumption | omega | fail))
  have l_2 : ∀ (m_2 : Nat) (u1_2 : Int) (τ_2 : S0), 65537 - u1_2 < (m_2 : Int) → (m_T τ_2) → (τ_2.1 5 = σ.1 5) → (τ_2.1 36 = σ.1 36) → (τ_2.2.1 13 = σ.2.1 13) → (τ_2.2.1 19 = σ.2.1 19) → (τ_2.2.1 56 = σ.2.1 56) → (τ_2.2.1 57 = σ.2.1 57) → (τ_2.2.1 58 = σ.2.1 58) → (0 ≤ u1_2) → (u1_2 ≤ 65536) → (∀ j : Int, 0 ≤ j → j < u1_2 → τ_2.2.1 69 j = -1) → P2 u1_2 τ_2 := by
    intro m_2
    induction m_2 with
    | zero =>
      intro u1_2 τ_2 hm hT W5 W36 G13 G19 G56 G57 G58 i2_1 i2_2 i2_3
      have A13 : ∀ j, 0 ≤ τ_2.2.1 13 j ∧ τ_2.2.1 13 j ≤ 4 := fun j => hT.2 13 j
      have A19 : ∀ j, 0 ≤ τ_2.2.1 19 j ∧ τ_2.2.1 19 j ≤ 60 := fun j => hT.2 19 j
      have A56 : ∀ j, 0 ≤ τ_2.2.1 56 j ∧ τ_2.2.1 56 j ≤ 1499 := fun j => hT.2 56 j
      have A57 : ∀ j, 0 ≤ τ_2.2.1 57 j ∧ τ_2.2.1 57 j ≤ 120000 := fun j => hT.2 57 j
      have A58 : ∀ j, 0 ≤ τ_2.2.1 58 j ∧ τ_2.2.1 58 j ≤ 20000 := fun j => hT.2 58 j
      have A61 : ∀ j, 0 ≤ τ_2.2.1 61 j ∧ τ_2.2.1 61 j ≤ 20000 := fun j => hT.2 61 j
      have A62 : ∀ j, (-2147483648) ≤ τ_2.2.1 62 j ∧ τ_2.2.1 62 j ≤ 2147483647 := fun j => hT.2 62 j
      have A69 : ∀ j, (-1) ≤ τ_2.2.1 69 j ∧ τ_2.2.1 69 j ≤ 20000 := fun j => hT.2 69 j
      have v5 : 0 ≤ τ_2.1 5 ∧ τ_2.1 5 ≤ 1500 := hT.1 5
      have v36 : 0 ≤ τ_2.1 36 ∧ τ_2.1 36 ≤ 20000 := hT.1 36
      exfalso; (first | omega | (simp only [st_s] <;> omega) | assumption | omega | fail)
    | succ m_2 ih_2 =>
      intro u1_2 τ_2 hm_2 hT W5 W36 G13 G19 G56 G57 G58 i2_1 i2_2 i2_3
      have A13 : ∀ j, 0 ≤ τ_2.2.1 13 j ∧ τ_2.2.1 13 j ≤ 4 := fun j => hT.2 13 j
      have A19 : ∀ j, 0 ≤ τ_2.2.1 19 j ∧ τ_2.2.1 19 j ≤ 60 := fun j => hT.2 19 j
      have A56 : ∀ j, 0 ≤ τ_2.2.1 56 j ∧ τ_2.2.1 56 j ≤ 1499 := fun j => hT.2 56 j
      have A57 : ∀ j, 0 ≤ τ_2.2.1 57 j ∧ τ_2.2.1 57 j ≤ 120000 := fun j => hT.2 57 j
      have A58 : ∀ j, 0 ≤ τ_2.2.1 58 j ∧ τ_2.2.1 58 j ≤ 20000 := fun j => hT.2 58 j
      have A61 : ∀ j, 0 ≤ τ_2.2.1 61 j ∧ τ_2.2.1 61 j ≤ 20000 := fun j => hT.2 61 j
      have A62 : ∀ j, (-2147483648) ≤ τ_2.2.1 62 j ∧ τ_2.2.1 62 j ≤ 2147483647 := fun j => hT.2 62 j
      have A69 : ∀ j, (-1) ≤ τ_2.2.1 69 j ∧ τ_2.2.1 69 j ≤ 20000 := fun j => hT.2 69 j
      have v5 : 0 ≤ τ_2.1 5 ∧ τ_2.1 5 ≤ 1500 := hT.1 5
      have v36 : 0 ≤ τ_2.1 36 ∧ τ_2.1 36 ≤ 20000 := hT.1 36
      refine h2 u1_2 τ_2 ?_
      refine ⟨fun c1 => ?_, fun c1 => ?_⟩
      ·
        exact l_23 ((20001 - 0 : Int).toNat + 1) _ _ (show (20001 - 0 : Int) < (((20001 - 0 : Int).toNat + 1 : Nat) : Int) from by ((first | omega | (simp only [st_s] <;> omega) | assumption | omega | fail))) hT (show τ_2.1 5 = σ.1 5 from by first | exact W5 | omega) (show τ_2.1 36 = σ.1 36 from by first | exact W36 | omega) G13 G19 G56 G57 G58 (show 0 ≤ 0 from by (first | omega | (simp only [st_s] <;> omega) | assumption | omega | fail)) (show 0 ≤ 20000 from by (first | omega | (simp only [st_s] <;> omega) | assumption | omega | fail)) (show n_sa 0 (τ_2.2.1 61) from by (first | (intro r a b; exfalso; omega) | exact n_sa_s i90_3 (by omega) (by omega) | (rw [e_τ_142]; exact n_sa_s i90_3 (by omega) (by omega)) | fail)) (show n_oT 0 (τ_2.2.1 69) from by (first | exact n_oT_0 (fun j a b => i2_3 j a (by omega)) | exact n_oT_w i90_4 | exact n_oT_s i90_4 (by omega) (by omega) (by omega) (by omega) | (rw [e_τ_142]; exact n_oT_s i90_4 (by omega) (by omega) (by omega) (by omega)) | fail)) (show ∀ r : Int, 0 ≤ r → r < 0 → τ_2.2.1 62 r = 0 from by (first | (intro r a b; exfalso; omega) | (intro r a b; rcases (by omega : r < u1_90 ∨ r = u1_90) with q | q; (rw [st_n _ _ (by omega)]; exact i90_5 r a q); (rw [q, st_s])) | (rw [e_τ_142]; intro r a b; rcases (by omega : r < u1_90 ∨ r = u1_90) with q | q; (rw [st_n _ _ (by omega)]; exact i90_5 r a q); (rw [q, st_s])) | fail))
      ·
        refine ⟨(show 0 ≤ u1_2 ∧ u1_2 < 65536 from by (first | omega | (simp only [st_s] <;> omega) | assumption | omega | fail)), ?_⟩
        replace hT := mT_a (k := 69) (j := u1_2) hT (show (-1 : Int) ≤ (-1) ∧ (-1) ≤ 20000 from by (first | omega | (simp only [st_s] <;> omega) | assumption | omega | fail))
        refine ⟨(⟨by (first | omega | (simp only [st_s] <;> omega) | assumption | omega | fail), by (first | omega | (simp only [st_s] <;> omega) | assumption | omega | fail)⟩ : rg (u1_2 + 1)), ?_⟩
        exact ih_2 _ _ (show (65537 - (u1_2 + 1) : Int) < ((m_2 : Nat) : Int) from by ((first | omega | (simp only [st_s] <;> omega) | assumption | omega | fail))) hT (show τ_2.1 5 = σ.1 5 from by first | exact W5 | omega) (show τ_2.1 36 = σ.1 36 from by first | exact W36 | omega) G13 G19 G56 G57 G58 (show 0 ≤ (u1_2 + 1) from by (first | omega | (simp only [st_s] <;> omega) | assumption | omega | fail)) (show (u1_2 + 1) ≤ 65536 from by (first | omega | (simp only [st_s] <;> omega) | assumption | omega | fail)) (show ∀ j : Int, 0 ≤ j → j < (u1_2 + 1) → (st (τ_2.2.1 69) u1_2 (-1)) j = -1 from by (first | (intro j a b; exfalso; omega) | (intro j a b; rcases (by omega : j < u1_2 ∨ j = u1_2) with q | q; (rw [st_n _ _ (by omega)]; exact i2_3 j a q); (rw [q, st_s])) | fail))
  exact l_2 ((65537 - 0 : Int).toNat + 1) _ _ (show (65537 - 0 : Int) < (((65537 - 0 : Int).toNat + 1 : Nat) : Int) from by ((first | omega | (simp only [st_s] <;> omega) | assumption | omega | fail))) hT (show σ.1 5 = σ.1 5 from by first | exact W5 | omega) (show σ.1 36 = σ.1 36 from by first | exact W36 | omega) G13 G19 G56 G57 G58 (show 0 ≤ 0 from by (first | omega | (simp only [st_s] <;> omega) | assumption | omega | fail)) (show 0 ≤ 65536 from by (first | omega | (simp only [st_s] <;> omega) | assumption | omega | fail)) (show ∀ j : Int, 0 ≤ j → j < 0 → σ.2.1 69 j = -1 from by (first | (intro j a b; exfalso; omega) | (intro j a b; rcases (by omega : j < u1_2 ∨ j = u1_2) with q | q; (rw [st_n _ _ (by omega)]; exact i2_3 j a q); (rw [q, st_s])) | fail))
set_option maxHeartbeats 4000000 in
theorem K_X13_tellSteps {σ : S0} (hT : m_T σ) (p1 : n_YY σ) (p2 : n_sa (σ.1 36) (σ.2.1 61)) (p3 : ∀ r : Int, 0 ≤ r → r < (σ.1 36) → σ.2.1 62 r = 0) (p4 : 1 ≤ (σ.1 36)) (p5 : n_ws (σ.2.1 13) (σ.2.1 19) (σ.2.1 56) (σ.1 36) ≤ 20000) : W_X13_tellSteps σ (fun (τ : S0) => (m_T τ) ∧ ((τ.1 44) ≤ 20001) ∧ (∀ k : Int, 0 ≤ k → k < (τ.1 44) → τ.2.1 70 k < (σ.1 36))) := by
  have A13 : ∀ j, 0 ≤ σ.2.1 13 j ∧ σ.2.1 13 j ≤ 4 := fun j => hT.2 13 j
  have A19 : ∀ j, 0 ≤ σ.2.1 19 j ∧ σ.2.1 19 j ≤ 60 := fun j => hT.2 19 j
  have A56 : ∀ j, 0 ≤ σ.2.1 56 j ∧ σ.2.1 56 j ≤ 1499 := fun j => hT.2 56 j
  have A57 : ∀ j, 0 ≤ σ.2.1 57 j ∧ σ.2.1 57 j ≤ 120000 := fun j => hT.2 57 j
  have A58 : ∀ j, 0 ≤ σ.2.1 58 j ∧ σ.2.1 58 j ≤ 20000 := fun j => hT.2 58 j
  have A61 : ∀ j, 0 ≤ σ.2.1 61 j ∧ σ.2.1 61 j ≤ 20000 := fun j => hT.2 61 j
  have A62 : ∀ j, (-2147483648) ≤ σ.2.1 62 j ∧ σ.2.1 62 j ≤ 2147483647 := fun j => hT.2 62 j
  have A65 : ∀ j, 0 ≤ σ.2.1 65 j ∧ σ.2.1 65 j ≤ 60000 := fun j => hT.2 65 j
  have A66 : ∀ j, 0 ≤ σ.2.1 66 j ∧ σ.2.1 66 j ≤ 60 := fun j => hT.2 66 j
  have A70 : ∀ j, (-20001) ≤ σ.2.1 70 j ∧ σ.2.1 70 j ≤ 20000 := fun j => hT.2 70 j
  have v5 : 0 ≤ σ.1 5 ∧ σ.1 5 ≤ 1500 := hT.1 5
  have v36 : 0 ≤ σ.1 36 ∧ σ.1 36 ≤ 20000 := hT.1 36
  have v42 : 0 ≤ σ.1 42 ∧ σ.1 42 ≤ 40000 := hT.1 42
  have v44 : 0 ≤ σ.1 44 ∧ σ.1 44 ≤ 40000 := hT.1 44
  have W5 : σ.1 5 = σ.1 5 := rfl
  have W36 : σ.1 36 = σ.1 36 := rfl
  have G13 : σ.2.1 13 = σ.2.1 13 := rfl
  have G19 : σ.2.1 19 = σ.2.1 19 := rfl
  have G56 : σ.2.1 56 = σ.2.1 56 := rfl
  have G57 : σ.2.1 57 = σ.2.1 57 := rfl
  have G58 : σ.2.1 58 = σ.2.1 58 := rfl
  have G61 : σ.2.1 61 = σ.2.1 61 := rfl
  intro P42 P202 h42 h202
  obtain ⟨yi, _, yy⟩ := p1
  have s19 := A19
  have wb : ∀ r : Int, 0 ≤ n_wd (σ.2.1 13) (σ.2.1 19) (σ.2.1 56 r) ∧ n_wd (σ.2.1 13) (σ.2.1 19) (σ.2.1 56 r) ≤ 60 := fun r => n_wd_b s19 _
  have sw : sm (fun r => n_wd (σ.2.1 13) (σ.2.1 19) (σ.2.1 56 r)) (σ.1 36) ≤ 20000 := p5
  have l_42 : ∀ (m_42 : Nat) (τ_42 : S0), n_W (τ_42.1 42) (τ_42.2.1 65) (τ_42.2.1 66) < (m_42 : Int) → (m_T τ_42) → (τ_42.1 5 = σ.1 5) → (τ_42.1 36 = σ.1 36) → (τ_42.2.1 13 = σ.2.1 13) → (τ_42.2.1 19 = σ.2.1 19) → (τ_42.2.1 56 = σ.2.1 56) → (τ_42.2.1 57 = σ.2.1 57) → (τ_42.2.1 58 = σ.2.1 58) → (τ_42.2.1 61 = σ.2.1 61) → (n_tl (τ_42.1 42) (τ_42.1 44) (σ.1 36) (fun r => n_wd (σ.2.1 13) (σ.2.1 19) (σ.2.1 56 r)) (τ_42.2.1 65) (τ_42.2.1 66) (τ_42.2.1 62)) → (n_sk (τ_42.1 42) (σ.1 36) (fun r => n_wd (σ.2.1 13) (σ.2.1 19) (σ.2.1 56 r)) (τ_42.2.1 65) (τ_42.2.1 66)) → (∀ k : Int, 0 ≤ k → k < (τ_42.1 44) → τ_42.2.1 70 k < (σ.1 36)) → P42 τ_42 := by
    intro m_42
    induction m_42 with
    | zero =>
      intro τ_42 hm hT W5 W36 G13 G19 G56 G57 G58 G61 i42_1 i42_2 i42_3
      have A13 : ∀ j, 0 ≤ τ_42.2.1 13 j ∧ τ_42.2.1 13 j ≤ 4 := fun j => hT.2 13 j
      have A19 : ∀ j, 0 ≤ τ_42.2.1 19 j ∧ τ_42.2.1 19 j ≤ 60 := fun j => hT.2 19 j
      have A56 : ∀ j, 0 ≤ τ_42.2.1 56 j ∧ τ_42.2.1 56 j ≤ 1499 := fun j => hT.2 56 j
      have A57 : ∀ j, 0 ≤ τ_42.2.1 57 j ∧ τ_42.2.1 57 j ≤ 120000 := fun j => hT.2 57 j
      have A58 : ∀ j, 0 ≤ τ_42.2.1 58 j ∧ τ_42.2.1 58 j ≤ 20000 := fun j => hT.2 58 j
      have A61 : ∀ j, 0 ≤ τ_42.2.1 61 j ∧ τ_42.2.1 61 j ≤ 20000 := fun j => hT.2 61 j
      have A62 : ∀ j, (-2147483648) ≤ τ_42.2.1 62 j ∧ τ_42.2.1 62 j ≤ 2147483647 := fun j => hT.2 62 j
      have A65 : ∀ j, 0 ≤ τ_42.2.1 65 j ∧ τ_42.2.1 65 j ≤ 60000 := fun j => hT.2 65 j
      have A66 : ∀ j, 0 ≤ τ_42.2.1 66 j ∧ τ_42.2.1 66 j ≤ 60 := fun j => hT.2 66 j
      have A70 : ∀ j, (-20001) ≤ τ_42.2.1 70 j ∧ τ_42.2.1 70 j ≤ 20000 := fun j => hT.2 70 j
      have v5 : 0 ≤ τ_42.1 5 ∧ τ_42.1 5 ≤ 1500 := hT.1 5
      have v36 : 0 ≤ τ_42.1 36 ∧ τ_42.1 36 ≤ 20000 := hT.1 36
      have v42 : 0 ≤ τ_42.1 42 ∧ τ_42.1 42 ≤ 40000 := hT.1 42
      have v44 : 0 ≤ τ_42.1 44 ∧ τ_42.1 44 ≤ 40000 := hT.1 44
      exfalso; (have w := n_W_0 i42_2 (by omega); omega)
    | succ m_42 ih_42 =>
      intro τ_42 hm_42 hT W5 W36 G13 G19 G56 G57 G58 G61 i42_1 i42_2 i42_3
      have A13 : ∀ j, 0 ≤ τ_42.2.1 13 j ∧ τ_42.2.1 13 j ≤ 4 := fun j => hT.2 13 j
      have A19 : ∀ j, 0 ≤ τ_42.2.1 19 j ∧ τ_42.2.1 19 j ≤ 60 := fun j => hT.2 19 j
      have A56 : ∀ j, 0 ≤ τ_42.2.1 56 j ∧ τ_42.2.1 56 j ≤ 1499 := fun j => hT.2 56 j
      have A57 : ∀ j, 0 ≤ τ_42.2.1 57 j ∧ τ_42.2.1 57 j ≤ 120000 := fun j => hT.2 57 j
      have A58 : ∀ j, 0 ≤ τ_42.2.1 58 j ∧ τ_42.2.1 58 j ≤ 20000 := fun j => hT.2 58 j
      have A61 : ∀ j, 0 ≤ τ_42.2.1 61 j ∧ τ_42.2.1 61 j ≤ 20000 := fun j => hT.2 61 j
      have A62 : ∀ j, (-2147483648) ≤ τ_42.2.1 62 j ∧ τ_42.2.1 62 j ≤ 2147483647 := fun j => hT.2 62 j
      have A65 : ∀ j, 0 ≤ τ_42.2.1 65 j ∧ τ_42.2.1 65 j ≤ 60000 := fun j => hT.2 65 j
      have A66 : ∀ j, 0 ≤ τ_42.2.1 66 j ∧ τ_42.2.1 66 j ≤ 60 := fun j => hT.2 66 j
      have A70 : ∀ j, (-20001) ≤ τ_42.2.1 70 j ∧ τ_42.2.1 70 j ≤ 20000 := fun j => hT.2 70 j
      have v5 : 0 ≤ τ_42.1 5 ∧ τ_42.1 5 ≤ 1500 := hT.1 5
      have v36 : 0 ≤ τ_42.1 36 ∧ τ_42.1 36 ≤ 20000 := hT.1 36
      have v42 : 0 ≤ τ_42.1 42 ∧ τ_42.1 42 ≤ 40000 := hT.1 42
      have v44 : 0 ≤ τ_42.1 44 ∧ τ_42.1 44 ≤ 40000 := hT.1 44
      have tb := n_tl_b i42_1
      refine h42 τ_42 ?_
      refine ⟨fun c9 => ?_, fun c9 => ?_⟩
      ·
        exact ⟨hT, (show (τ_42.1 44) ≤ 20001 from by (have w := tb.1; omega)), (show ∀ k : Int, 0 ≤ k → k < (τ_42.1 44) → τ_42.2.1 70 k < (σ.1 36) from by exact i42_3)⟩
      ·
        have tp := i42_2 (τ_42.1 42 - 1) (by omega) (by omega)
        obtain ⟨⟨tp1, tp2⟩, tp3, tp4, tp5⟩ := tp
        have yz := yy (τ_42.2.1 65 (τ_42.1 42 - 1)) tp1 (by omega)
        obtain ⟨yy1, ⟨yy2, yy3⟩, yy4⟩ := yz
        have tp4 : τ_42.2.1 66 (τ_42.1 42 - 1) ≤ n_wd (σ.2.1 13) (σ.2.1 19) (σ.2.1 56 (τ_42.2.1 65 (τ_42.1 42 - 1))) := tp4
        refine ⟨(show 0 ≤ (τ_42.1 42 - 1) ∧ (τ_42.1 42 - 1) < 40002 from by (first | omega | (simp only [st_s] <;> omega) | assumption | omega | fail)), ?_⟩
        intro x11 r_x11 e_x11
        have b_x11 : 0 ≤ x11 ∧ x11 ≤ 60000 := by rw [e_x11]; exact hT.2 65 _
        rw [← e_x11] at tp1 tp2 tp4 yy1 yy2 yy3 yy4
        intro x12 r_x12 e_x12
        have b_x12 : 0 ≤ x12 ∧ x12 ≤ 60 := by rw [e_x12]; exact hT.2 66 _
        rw [← e_x12] at tp3 tp4
        refine ⟨_, K3_X13_rowWidth hT (show 0 ≤ x11 from by (first | omega | (simp only [st_s] <;> omega) | assumption | omega | fail)) (show x11 < 20001 from by (first | omega | (simp only [st_s] <;> omega) | assumption | omega | fail)), ?_⟩
        intro x14 r_x14 hq
        obtain ⟨q13_1, q13_2⟩ := hq
        replace q13_1 : 0 ≤ x14 ∧ x14 ≤ 60 := q13_1
        replace q13_2 : x14 = n_wd (τ_42.2.1 13) (τ_42.2.1 19) (τ_42.2.1 56 x11) := q13_2
        have y14 : x14 = n_wd (σ.2.1 13) (σ.2.1 19) (σ.2.1 56 x11) := by (have w := q13_2; rw [G13, G19, G56] at w; exact w)
        refine ⟨fun c16 => ?_, fun c16 => ?_⟩
        ·
          intro x17 r_x17 e_x17
          have b_x17 : 0 ≤ x17 ∧ x17 ≤ 60 := by rw [e_x17]; exact hT.2 66 _
          have e17 : x17 = x12 := by omega
          refine ⟨(⟨by (first | omega | (simp only [st_s] <;> omega) | assumption | omega | fail), by (first | omega | (simp only [st_s] <;> omega) | assumption | omega | fail)⟩ : rg (x17 + 1)), ?_⟩
          replace hT := mT_a (k := 66) (j := (τ_42.1 42 - 1)) hT (show (0 : Int) ≤ (x17 + 1) ∧ (x17 + 1) ≤ 60 from by (first | omega | (simp only [st_s] <;> omega) | assumption | omega | fail))
          refine ⟨(show 0 ≤ x11 ∧ x11 < 20001 from by (first | omega | (simp only [st_s] <;> omega) | assumption | omega | fail)), ?_⟩
          intro x20 r_x20 e_x20
          have b_x20 : 0 ≤ x20 ∧ x20 ≤ 120000 := by rw [e_x20]; exact hT.2 57 _
          rw [G57] at e_x20
          rw [← e_x20] at yy2 yy3 yy4
          refine ⟨(show 0 ≤ (x20 + x12) ∧ (x20 + x12) < 120000 from by (first | omega | (simp only [st_s] <;> omega) | assumption | omega | fail)), ?_⟩
          intro x22 r_x22 e_x22
          have b_x22 : 0 ≤ x22 ∧ x22 ≤ 20000 := by rw [e_x22]; exact hT.2 58 _
          rw [G58] at e_x22
          have y4 := yy4 x12 (by omega) (by omega)
          rw [← e_x22] at y4
          refine ⟨(show 0 ≤ x22 ∧ x22 < 20001 from by (first | omega | (simp only [st_s] <;> omega) | assumption | omega | fail)), ?_⟩
          intro x24 r_x24 e_x24
          have b_x24 : 0 ≤ x24 ∧ x24 ≤ 20000 := by rw [e_x24]; exact hT.2 61 _
          rw [G61] at e_x24
          have sa := p2 x22 (by omega) (by omega)
          rw [← e_x24] at sa
          refine ⟨(show 0 ≤ x24 ∧ x24 < 20001 from by (first | omega | (simp only [st_s] <;> omega) | assumption | omega | fail)), ?_⟩
          intro x26 r_x26 e_x26
          have b_x26 : (-2147483648) ≤ x26 ∧ x26 ≤ 2147483647 := by rw [e_x26]; exact hT.2 62 _
          have ub := tb.2 x24 (by omega) (by omega)
          rw [← e_x26] at ub
          have nk := n_tl_k (k := x24) (d := x17) i42_1 (by omega) (by rw [← e_x11]; exact tp1) (by rw [← e_x11]; omega) e_x17 (by omega) (by rw [← e_x11]; omega) (by omega) (by rw [← e_x11]; omega)
          rw [← e_x26] at nk
          refine ⟨(⟨by (first | omega | (simp only [st_s] <;> omega) | assumption | omega | fail), by (first | omega | (simp only [st_s] <;> omega) | assumption | omega | fail)⟩ : rg (x26 + 1)), ?_⟩
          replace hT := mT_a (k := 62) (j := x24) hT (show (-2147483648 : Int) ≤ (x26 + 1) ∧ (x26 + 1) ≤ 2147483647 from by (first | omega | (simp only [st_s] <;> omega) | assumption | omega | fail))
          intro x28 r_x28 e_x28
          have b_x28 : (-2147483648) ≤ x28 ∧ x28 ≤ 2147483647 := by rw [e_x28]; exact hT.2 62 _
          refine ⟨fun c29 => ?_, fun c29 => ?_⟩
          ·
            obtain ⟨τ_202, e_τ_202⟩ : ∃ z : S0, z = s_a (s_a τ_42 66 (τ_42.1 42 - 1) (x17 + 1)) 62 x24 (x26 + 1) := ⟨_, rfl⟩
            rw [← e_τ_202]
            replace hT : m_T τ_202 := by rw [e_τ_202]; exact hT
            have w5_τ_202 : τ_202.1 5 = τ_42.1 5 := by rw [e_τ_202]; rfl
            have w36_τ_202 : τ_202.1 36 = τ_42.1 36 := by rw [e_τ_202]; rfl
            have w42_τ_202 : τ_202.1 42 = τ_42.1 42 := by rw [e_τ_202]; rfl
            have w44_τ_202 : τ_202.1 44 = τ_42.1 44 := by rw [e_τ_202]; rfl
            have g13_τ_202 : τ_202.2.1 13 = τ_42.2.1 13 := by rw [e_τ_202]; rfl
            have g19_τ_202 : τ_202.2.1 19 = τ_42.2.1 19 := by rw [e_τ_202]; rfl
            have g56_τ_202 : τ_202.2.1 56 = τ_42.2.1 56 := by rw [e_τ_202]; rfl
            have g57_τ_202 : τ_202.2.1 57 = τ_42.2.1 57 := by rw [e_τ_202]; rfl
            have g58_τ_202 : τ_202.2.1 58 = τ_42.2.1 58 := by rw [e_τ_202]; rfl
            have g61_τ_202 : τ_202.2.1 61 = τ_42.2.1 61 := by rw [e_τ_202]; rfl
            have g62_τ_202 : τ_202.2.1 62 = (st (τ_42.2.1 62) x24 (x26 + 1)) := by rw [e_τ_202]; rfl
            have g65_τ_202 : τ_202.2.1 65 = τ_42.2.1 65 := by rw [e_τ_202]; rfl
            have g66_τ_202 : τ_202.2.1 66 = (st (τ_42.2.1 66) (τ_42.1 42 - 1) (x17 + 1)) := by rw [e_τ_202]; rfl
            have g70_τ_202 : τ_202.2.1 70 = τ_42.2.1 70 := by rw [e_τ_202]; rfl
            have W5 : τ_202.1 5 = σ.1 5 := by first | exact w5_τ_202.trans W5 | omega
            have W36 : τ_202.1 36 = σ.1 36 := by first | exact w36_τ_202.trans W36 | omega
            have G13 : τ_202.2.1 13 = σ.2.1 13 := (g13_τ_202).trans G13
            have G19 : τ_202.2.1 19 = σ.2.1 19 := (g19_τ_202).trans G19
            have G56 : τ_202.2.1 56 = σ.2.1 56 := (g56_τ_202).trans G56
            have G57 : τ_202.2.1 57 = σ.2.1 57 := (g57_τ_202).trans G57
            have G58 : τ_202.2.1 58 = σ.2.1 58 := (g58_τ_202).trans G58
            have G61 : τ_202.2.1 61 = σ.2.1 61 := (g61_τ_202).trans G61
            have A13 : ∀ j, 0 ≤ τ_202.2.1 13 j ∧ τ_202.2.1 13 j ≤ 4 := fun j => hT.2 13 j
            have A19 : ∀ j, 0 ≤ τ_202.2.1 19 j ∧ τ_202.2.1 19 j ≤ 60 := fun j => hT.2 19 j
            have A56 : ∀ j, 0 ≤ τ_202.2.1 56 j ∧ τ_202.2.1 56 j ≤ 1499 := fun j => hT.2 56 j
            have A57 : ∀ j, 0 ≤ τ_202.2.1 57 j ∧ τ_202.2.1 57 j ≤ 120000 := fun j => hT.2 57 j
            have A58 : ∀ j, 0 ≤ τ_202.2.1 58 j ∧ τ_202.2.1 58 j ≤ 20000 := fun j => hT.2 58 j
            have A61 : ∀ j, 0 ≤ τ_202.2.1 61 j ∧ τ_202.2.1 61 j ≤ 20000 := fun j => hT.2 61 j
            have A62 : ∀ j, (-2147483648) ≤ τ_202.2.1 62 j ∧ τ_202.2.1 62 j ≤ 2147483647 := fun j => hT.2 62 j
            have A65 : ∀ j, 0 ≤ τ_202.2.1 65 j ∧ τ_202.2.1 65 j ≤ 60000 := fun j => hT.2 65 j
            have A66 : ∀ j, 0 ≤ τ_202.2.1 66 j ∧ τ_202.2.1 66 j ≤ 60 := fun j => hT.2 66 j
            have A70 : ∀ j, (-20001) ≤ τ_202.2.1 70 j ∧ τ_202.2.1 70 j ≤ 20000 := fun j => hT.2 70 j
            have v5 : 0 ≤ τ_202.1 5 ∧ τ_202.1 5 ≤ 1500 := hT.1 5
            have v36 : 0 ≤ τ_202.1 36 ∧ τ_202.1 36 ≤ 20000 := hT.1 36
            have v42 : 0 ≤ τ_202.1 42 ∧ τ_202.1 42 ≤ 40000 := hT.1 42
            have v44 : 0 ≤ τ_202.1 44 ∧ τ_202.1 44 ≤ 40000 := hT.1 44
            refine h202 _ _ ?_
            refine ⟨_, K_X13_enter hT (show (τ_202.1 42) < 40000 from by (first | omega | (simp only [st_s] <;> omega) | assumption | omega | fail)) (show 0 ≤ x24 ∧ x24 ≤ 60000 from by (first | omega | (simp only [st_s] <;> omega) | assumption | omega | fail)), ?_⟩
            intro τ41 hn_τ41 hf_τ41 hq
            obtain ⟨hT, q39_1, q39_2, q39_3⟩ := hq
            replace q39_1 : (τ41.1 42) = (τ_202.1 42) + 1 := q39_1
            replace q39_2 : τ41.2.1 65 = st (τ_202.2.1 65) (τ_202.1 42) x24 := q39_2
            replace q39_3 : τ41.2.1 66 = st (τ_202.2.1 66) (τ_202.1 42) 0 := q39_3
            have w5_τ41 : τ41.1 5 = τ_202.1 5 := hf_τ41.1 5 (by decide)
            have w36_τ41 : τ41.1 36 = τ_202.1 36 := hf_τ41.1 36 (by decide)
            have w44_τ41 : τ41.1 44 = τ_202.1 44 := hf_τ41.1 44 (by decide)
            have g13_τ41 : τ41.2.1 13 = τ_202.2.1 13 := hf_τ41.2.1 13 (by decide)
            have g19_τ41 : τ41.2.1 19 = τ_202.2.1 19 := hf_τ41.2.1 19 (by decide)
            have g56_τ41 : τ41.2.1 56 = τ_202.2.1 56 := hf_τ41.2.1 56 (by decide)
            have g57_τ41 : τ41.2.1 57 = τ_202.2.1 57 := hf_τ41.2.1 57 (by decide)
            have g58_τ41 : τ41.2.1 58 = τ_202.2.1 58 := hf_τ41.2.1 58 (by decide)
            have g61_τ41 : τ41.2.1 61 = τ_202.2.1 61 := hf_τ41.2.1 61 (by decide)
            have g62_τ41 : τ41.2.1 62 = τ_202.2.1 62 := hf_τ41.2.1 62 (by decide)
            have g70_τ41 : τ41.2.1 70 = τ_202.2.1 70 := hf_τ41.2.1 70 (by decide)
            have W5 : τ41.1 5 = σ.1 5 := by first | exact w5_τ41.trans W5 | omega
            have W36 : τ41.1 36 = σ.1 36 := by first | exact w36_τ41.trans W36 | omega
            have G13 : τ41.2.1 13 = σ.2.1 13 := (g13_τ41).trans G13
            have G19 : τ41.2.1 19 = σ.2.1 19 := (g19_τ41).trans G19
            have G56 : τ41.2.1 56 = σ.2.1 56 := (g56_τ41).trans G56
            have G57 : τ41.2.1 57 = σ.2.1 57 := (g57_τ41).trans G57
            have G58 : τ41.2.1 58 = σ.2.1 58 := (g58_τ41).trans G58
            have G61 : τ41.2.1 61 = σ.2.1 61 := (g61_τ41).trans G61
            have A13 : ∀ j, 0 ≤ τ41.2.1 13 j ∧ τ41.2.1 13 j ≤ 4 := fun j => hT.2 13 j
            have A19 : ∀ j, 0 ≤ τ41.2.1 19 j ∧ τ41.2.1 19 j ≤ 60 := fun j => hT.2 19 j
            have A56 : ∀ j, 0 ≤ τ41.2.1 56 j ∧ τ41.2.1 56 j ≤ 1499 := fun j => hT.2 56 j
            have A57 : ∀ j, 0 ≤ τ41.2.1 57 j ∧ τ41.2.1 57 j ≤ 120000 := fun j => hT.2 57 j
            have A58 : ∀ j, 0 ≤ τ41.2.1 58 j ∧ τ41.2.1 58 j ≤ 20000 := fun j => hT.2 58 j
            have A61 : ∀ j, 0 ≤ τ41.2.1 61 j ∧ τ41.2.1 61 j ≤ 20000 := fun j => hT.2 61 j
            have A62 : ∀ j, (-2147483648) ≤ τ41.2.1 62 j ∧ τ41.2.1 62 j ≤ 2147483647 := fun j => hT.2 62 j
            have A65 : ∀ j, 0 ≤ τ41.2.1 65 j ∧ τ41.2.1 65 j ≤ 60000 := fun j => hT.2 65 j
            have A66 : ∀ j, 0 ≤ τ41.2.1 66 j ∧ τ41.2.1 66 j ≤ 60 := fun j => hT.2 66 j
            have A70 : ∀ j, (-20001) ≤ τ41.2.1 70 j ∧ τ41.2.1 70 j ≤ 20000 := fun j => hT.2 70 j
            have v5 : 0 ≤ τ41.1 5 ∧ τ41.1 5 ≤ 1500 := hT.1 5
            have v36 : 0 ≤ τ41.1 36 ∧ τ41.1 36 ≤ 20000 := hT.1 36
            have v42 : 0 ≤ τ41.1 42 ∧ τ41.1 42 ≤ 40000 := hT.1 42
            have v44 : 0 ≤ τ41.1 44 ∧ τ41.1 44 ≤ 40000 := hT.1 44
            have m1 : 1 ≤ τ_42.1 42 := by omega
            have x170 : 0 ≤ x17 := by omega
            have kk : x24 < τ_42.2.1 65 (τ_42.1 42 - 1) := by (rw [← e_x11]; omega)
            have kw : x17 + 1 ≤ n_wd (σ.2.1 13) (σ.2.1 19) (σ.2.1 56 (τ_42.2.1 65 (τ_42.1 42 - 1))) := by (rw [← e_x11]; omega)
            have tl41 : n_tl (τ41.1 42) (τ41.1 44) (σ.1 36) (fun r => n_wd (σ.2.1 13) (σ.2.1 19) (σ.2.1 56 r)) (τ41.2.1 65) (τ41.2.1 66) (τ41.2.1 62) := by (rw [q39_1, q39_2, q39_3, g62_τ41, w44_τ41, e_τ_202]; exact nk.2 (by first | exact Or.inl (by rw [st_s] at e_x28; omega) | exact Or.inr (by omega)))
            have sk41 : n_sk (τ41.1 42) (σ.1 36) (fun r => n_wd (σ.2.1 13) (σ.2.1 19) (σ.2.1 56 r)) (τ41.2.1 65) (τ41.2.1 66) := by (rw [q39_1, q39_2, q39_3, e_τ_202]; exact n_sk_p i42_2 m1 x170 kw (by omega) kk (wb _))
            have m41 : n_W (τ41.1 42) (τ41.2.1 65) (τ41.2.1 66) < n_W (τ_42.1 42) (τ_42.2.1 65) (τ_42.2.1 66) := by (rw [q39_1, q39_2, q39_3, e_τ_202]; exact n_W_p m1 e_x17 (by omega) kk)
            have to41 : ∀ k : Int, 0 ≤ k → k < (τ41.1 44) → τ41.2.1 70 k < (σ.1 36) := by (rw [w44_τ41, g70_τ41, e_τ_202]; exact i42_3)
            exact ih_42 _ (show (n_W (τ41.1 42) (τ41.2.1 65) (τ41.2.1 66) : Int) < ((m_42 : Nat) : Int) from by ((first | omega | (have w := m41; omega) | (have w := n_W_c (ro := τ_42.2.1 65) (m := τ_42.1 42) (by omega) e_x17; omega) | (have w := n_W_q i42_2 (by omega); omega) | fail))) hT (show τ41.1 5 = σ.1 5 from by first | exact W5 | omega) (show τ41.1 36 = σ.1 36 from by first | exact W36 | omega) G13 G19 G56 G57 G58 G61 (show n_tl (τ41.1 42) (τ41.1 44) (σ.1 36) (fun r => n_wd (σ.2.1 13) (σ.2.1 19) (σ.2.1 56 r)) (τ41.2.1 65) (τ41.2.1 66) (τ41.2.1 62) from by (first | exact tl41 | exact nk.1 | exact n_tl_q i42_1 | (rw [q3_1, q3_2, q3_3, w44_τ5, g62_τ5, e72]; exact n_tl_0 (by omega) (by omega) (fun r a b => (wb r).1) p3) | fail)) (show n_sk (τ41.1 42) (σ.1 36) (fun r => n_wd (σ.2.1 13) (σ.2.1 19) (σ.2.1 56 r)) (τ41.2.1 65) (τ41.2.1 66) from by (first | exact sk41 | exact n_sk_c i42_2 (by omega) (show x17 + 1 ≤ n_wd (σ.2.1 13) (σ.2.1 19) (σ.2.1 56 (τ_42.2.1 65 (τ_42.1 42 - 1))) by (rw [← e_x11]; omega)) | exact n_sk_q i42_2 | (rw [q3_1, q3_2, q3_3]; exact n_sk_0 (by omega) (by omega) (wb _)) | fail)) (show ∀ k : Int, 0 ≤ k → k < (τ41.1 44) → τ41.2.1 70 k < (σ.1 36) from by (first | exact to41 | (intro k a b; rcases (by omega : k < τ_42.1 44 ∨ k = τ_42.1 44) with q | q; (rw [st_n _ _ (by omega)]; exact i42_3 k a q); (rw [q, st_s]; omega)) | (intro k a b; exfalso; omega) | fail))
          ·
            refine ⟨_, K3_X13_rowWidth hT (show 0 ≤ x24 from by (first | omega | (simp only [st_s] <;> omega) | assumption | omega | fail)) (show x24 < 20001 from by (first | omega | (simp only [st_s] <;> omega) | assumption | omega | fail)), ?_⟩
            intro x31 r_x31 hq
            obtain ⟨q30_1, q30_2⟩ := hq
            replace q30_1 : 0 ≤ x31 ∧ x31 ≤ 60 := q30_1
            replace q30_2 : x31 = n_wd (τ_42.2.1 13) (τ_42.2.1 19) (τ_42.2.1 56 x24) := q30_2
            have y31 : x31 = n_wd (σ.2.1 13) (σ.2.1 19) (σ.2.1 56 x24) := by (have w := q30_2; rw [G13, G19, G56] at w; exact w)
            refine ⟨fun c33 => ?_, fun c33 => ?_⟩
            ·
              obtain ⟨τ_202, e_τ_202⟩ : ∃ z : S0, z = s_a (s_a τ_42 66 (τ_42.1 42 - 1) (x17 + 1)) 62 x24 (x26 + 1) := ⟨_, rfl⟩
              rw [← e_τ_202]
              replace hT : m_T τ_202 := by rw [e_τ_202]; exact hT
              have w5_τ_202 : τ_202.1 5 = τ_42.1 5 := by rw [e_τ_202]; rfl
              have w36_τ_202 : τ_202.1 36 = τ_42.1 36 := by rw [e_τ_202]; rfl
              have w42_τ_202 : τ_202.1 42 = τ_42.1 42 := by rw [e_τ_202]; rfl
              have w44_τ_202 : τ_202.1 44 = τ_42.1 44 := by rw [e_τ_202]; rfl
              have g13_τ_202 : τ_202.2.1 13 = τ_42.2.1 13 := by rw [e_τ_202]; rfl
              have g19_τ_202 : τ_202.2.1 19 = τ_42.2.1 19 := by rw [e_τ_202]; rfl
              have g56_τ_202 : τ_202.2.1 56 = τ_42.2.1 56 := by rw [e_τ_202]; rfl
              have g57_τ_202 : τ_202.2.1 57 = τ_42.2.1 57 := by rw [e_τ_202]; rfl
              have g58_τ_202 : τ_202.2.1 58 = τ_42.2.1 58 := by rw [e_τ_202]; rfl
              have g61_τ_202 : τ_202.2.1 61 = τ_42.2.1 61 := by rw [e_τ_202]; rfl
              have g62_τ_202 : τ_202.2.1 62 = (st (τ_42.2.1 62) x24 (x26 + 1)) := by rw [e_τ_202]; rfl
              have g65_τ_202 : τ_202.2.1 65 = τ_42.2.1 65 := by rw [e_τ_202]; rfl
              have g66_τ_202 : τ_202.2.1 66 = (st (τ_42.2.1 66) (τ_42.1 42 - 1) (x17 + 1)) := by rw [e_τ_202]; rfl
              have g70_τ_202 : τ_202.2.1 70 = τ_42.2.1 70 := by rw [e_τ_202]; rfl
              have W5 : τ_202.1 5 = σ.1 5 := by first | exact w5_τ_202.trans W5 | omega
              have W36 : τ_202.1 36 = σ.1 36 := by first | exact w36_τ_202.trans W36 | omega
              have G13 : τ_202.2.1 13 = σ.2.1 13 := (g13_τ_202).trans G13
              have G19 : τ_202.2.1 19 = σ.2.1 19 := (g19_τ_202).trans G19
              have G56 : τ_202.2.1 56 = σ.2.1 56 := (g56_τ_202).trans G56
              have G57 : τ_202.2.1 57 = σ.2.1 57 := (g57_τ_202).trans G57
              have G58 : τ_202.2.1 58 = σ.2.1 58 := (g58_τ_202).trans G58
              have G61 : τ_202.2.1 61 = σ.2.1 61 := (g61_τ_202).trans G61
              have A13 : ∀ j, 0 ≤ τ_202.2.1 13 j ∧ τ_202.2.1 13 j ≤ 4 := fun j => hT.2 13 j
              have A19 : ∀ j, 0 ≤ τ_202.2.1 19 j ∧ τ_202.2.1 19 j ≤ 60 := fun j => hT.2 19 j
              have A56 : ∀ j, 0 ≤ τ_202.2.1 56 j ∧ τ_202.2.1 56 j ≤ 1499 := fun j => hT.2 56 j
              have A57 : ∀ j, 0 ≤ τ_202.2.1 57 j ∧ τ_202.2.1 57 j ≤ 120000 := fun j => hT.2 57 j
              have A58 : ∀ j, 0 ≤ τ_202.2.1 58 j ∧ τ_202.2.1 58 j ≤ 20000 := fun j => hT.2 58 j
              have A61 : ∀ j, 0 ≤ τ_202.2.1 61 j ∧ τ_202.2.1 61 j ≤ 20000 := fun j => hT.2 61 j
              have A62 : ∀ j, (-2147483648) ≤ τ_202.2.1 62 j ∧ τ_202.2.1 62 j ≤ 2147483647 := fun j => hT.2 62 j
              have A65 : ∀ j, 0 ≤ τ_202.2.1 65 j ∧ τ_202.2.1 65 j ≤ 60000 := fun j => hT.2 65 j
              have A66 : ∀ j, 0 ≤ τ_202.2.1 66 j ∧ τ_202.2.1 66 j ≤ 60 := fun j => hT.2 66 j
              have A70 : ∀ j, (-20001) ≤ τ_202.2.1 70 j ∧ τ_202.2.1 70 j ≤ 20000 := fun j => hT.2 70 j
              have v5 : 0 ≤ τ_202.1 5 ∧ τ_202.1 5 ≤ 1500 := hT.1 5
              have v36 : 0 ≤ τ_202.1 36 ∧ τ_202.1 36 ≤ 20000 := hT.1 36
              have v42 : 0 ≤ τ_202.1 42 ∧ τ_202.1 42 ≤ 40000 := hT.1 42
              have v44 : 0 ≤ τ_202.1 44 ∧ τ_202.1 44 ≤ 40000 := hT.1 44
              refine h202 _ _ ?_
              refine ⟨_, K_X13_enter hT (show (τ_202.1 42) < 40000 from by (first | omega | (simp only [st_s] <;> omega) | assumption | omega | fail)) (show 0 ≤ x24 ∧ x24 ≤ 60000 from by (first | omega | (simp only [st_s] <;> omega) | assumption | omega | fail)), ?_⟩
              intro τ41 hn_τ41 hf_τ41 hq
              obtain ⟨hT, q39_1, q39_2, q39_3⟩ := hq
              replace q39_1 : (τ41.1 42) = (τ_202.1 42) + 1 := q39_1
              replace q39_2 : τ41.2.1 65 = st (τ_202.2.1 65) (τ_202.1 42) x24 := q39_2
              replace q39_3 : τ41.2.1 66 = st (τ_202.2.1 66) (τ_202.1 42) 0 := q39_3
              have w5_τ41 : τ41.1 5 = τ_202.1 5 := hf_τ41.1 5 (by decide)
              have w36_τ41 : τ41.1 36 = τ_202.1 36 := hf_τ41.1 36 (by decide)
              have w44_τ41 : τ41.1 44 = τ_202.1 44 := hf_τ41.1 44 (by decide)
              have g13_τ41 : τ41.2.1 13 = τ_202.2.1 13 := hf_τ41.2.1 13 (by decide)
              have g19_τ41 : τ41.2.1 19 = τ_202.2.1 19 := hf_τ41.2.1 19 (by decide)
              have g56_τ41 : τ41.2.1 56 = τ_202.2.1 56 := hf_τ41.2.1 56 (by decide)
              have g57_τ41 : τ41.2.1 57 = τ_202.2.1 57 := hf_τ41.2.1 57 (by decide)
              have g58_τ41 : τ41.2.1 58 = τ_202.2.1 58 := hf_τ41.2.1 58 (by decide)
              have g61_τ41 : τ41.2.1 61 = τ_202.2.1 61 := hf_τ41.2.1 61 (by decide)
              have g62_τ41 : τ41.2.1 62 = τ_202.2.1 62 := hf_τ41.2.1 62 (by decide)
              have g70_τ41 : τ41.2.1 70 = τ_202.2.1 70 := hf_τ41.2.1 70 (by decide)
              have W5 : τ41.1 5 = σ.1 5 := by first | exact w5_τ41.trans W5 | omega
              have W36 : τ41.1 36 = σ.1 36 := by first | exact w36_τ41.trans W36 | omega
              have G13 : τ41.2.1 13 = σ.2.1 13 := (g13_τ41).trans G13
              have G19 : τ41.2.1 19 = σ.2.1 19 := (g19_τ41).trans G19
              have G56 : τ41.2.1 56 = σ.2.1 56 := (g56_τ41).trans G56
              have G57 : τ41.2.1 57 = σ.2.1 57 := (g57_τ41).trans G57
              have G58 : τ41.2.1 58 = σ.2.1 58 := (g58_τ41).trans G58
              have G61 : τ41.2.1 61 = σ.2.1 61 := (g61_τ41).trans G61
              have A13 : ∀ j, 0 ≤ τ41.2.1 13 j ∧ τ41.2.1 13 j ≤ 4 := fun j => hT.2 13 j
              have A19 : ∀ j, 0 ≤ τ41.2.1 19 j ∧ τ41.2.1 19 j ≤ 60 := fun j => hT.2 19 j
              have A56 : ∀ j, 0 ≤ τ41.2.1 56 j ∧ τ41.2.1 56 j ≤ 1499 := fun j => hT.2 56 j
              have A57 : ∀ j, 0 ≤ τ41.2.1 57 j ∧ τ41.2.1 57 j ≤ 120000 := fun j => hT.2 57 j
              have A58 : ∀ j, 0 ≤ τ41.2.1 58 j ∧ τ41.2.1 58 j ≤ 20000 := fun j => hT.2 58 j
              have A61 : ∀ j, 0 ≤ τ41.2.1 61 j ∧ τ41.2.1 61 j ≤ 20000 := fun j => hT.2 61 j
              have A62 : ∀ j, (-2147483648) ≤ τ41.2.1 62 j ∧ τ41.2.1 62 j ≤ 2147483647 := fun j => hT.2 62 j
              have A65 : ∀ j, 0 ≤ τ41.2.1 65 j ∧ τ41.2.1 65 j ≤ 60000 := fun j => hT.2 65 j
              have A66 : ∀ j, 0 ≤ τ41.2.1 66 j ∧ τ41.2.1 66 j ≤ 60 := fun j => hT.2 66 j
              have A70 : ∀ j, (-20001) ≤ τ41.2.1 70 j ∧ τ41.2.1 70 j ≤ 20000 := fun j => hT.2 70 j
              have v5 : 0 ≤ τ41.1 5 ∧ τ41.1 5 ≤ 1500 := hT.1 5
              have v36 : 0 ≤ τ41.1 36 ∧ τ41.1 36 ≤ 20000 := hT.1 36
              have v42 : 0 ≤ τ41.1 42 ∧ τ41.1 42 ≤ 40000 := hT.1 42
              have v44 : 0 ≤ τ41.1 44 ∧ τ41.1 44 ≤ 40000 := hT.1 44
              have m1 : 1 ≤ τ_42.1 42 := by omega
              have x170 : 0 ≤ x17 := by omega
              have kk : x24 < τ_42.2.1 65 (τ_42.1 42 - 1) := by (rw [← e_x11]; omega)
              have kw : x17 + 1 ≤ n_wd (σ.2.1 13) (σ.2.1 19) (σ.2.1 56 (τ_42.2.1 65 (τ_42.1 42 - 1))) := by (rw [← e_x11]; omega)
              have tl41 : n_tl (τ41.1 42) (τ41.1 44) (σ.1 36) (fun r => n_wd (σ.2.1 13) (σ.2.1 19) (σ.2.1 56 r)) (τ41.2.1 65) (τ41.2.1 66) (τ41.2.1 62) := by (rw [q39_1, q39_2, q39_3, g62_τ41, w44_τ41, e_τ_202]; exact nk.2 (by first | exact Or.inl (by rw [st_s] at e_x28; omega) | exact Or.inr (by omega)))
              have sk41 : n_sk (τ41.1 42) (σ.1 36) (fun r => n_wd (σ.2.1 13) (σ.2.1 19) (σ.2.1 56 r)) (τ41.2.1 65) (τ41.2.1 66) := by (rw [q39_1, q39_2, q39_3, e_τ_202]; exact n_sk_p i42_2 m1 x170 kw (by omega) kk (wb _))
              have m41 : n_W (τ41.1 42) (τ41.2.1 65) (τ41.2.1 66) < n_W (τ_42.1 42) (τ_42.2.1 65) (τ_42.2.1 66) := by (rw [q39_1, q39_2, q39_3, e_τ_202]; exact n_W_p m1 e_x17 (by omega) kk)
              have to41 : ∀ k : Int, 0 ≤ k → k < (τ41.1 44) → τ41.2.1 70 k < (σ.1 36) := by (rw [w44_τ41, g70_τ41, e_τ_202]; exact i42_3)
              exact ih_42 _ (show (n_W (τ41.1 42) (τ41.2.1 65) (τ41.2.1 66) : Int) < ((m_42 : Nat) : Int) from by ((first | omega | (have w := m41; omega) | (have w := n_W_c (ro := τ_42.2.1 65) (m := τ_42.1 42) (by omega) e_x17; omega) | (have w := n_W_q i42_2 (by omega); omega) | fail))) hT (show τ41.1 5 = σ.1 5 from by first | exact W5 | omega) (show τ41.1 36 = σ.1 36 from by first | exact W36 | omega) G13 G19 G56 G57 G58 G61 (show n_tl (τ41.1 42) (τ41.1 44) (σ.1 36) (fun r => n_wd (σ.2.1 13) (σ.2.1 19) (σ.2.1 56 r)) (τ41.2.1 65) (τ41.2.1 66) (τ41.2.1 62) from by (first | exact tl41 | exact nk.1 | exact n_tl_q i42_1 | (rw [q3_1, q3_2, q3_3, w44_τ5, g62_τ5, e72]; exact n_tl_0 (by omega) (by omega) (fun r a b => (wb r).1) p3) | fail)) (show n_sk (τ41.1 42) (σ.1 36) (fun r => n_wd (σ.2.1 13) (σ.2.1 19) (σ.2.1 56 r)) (τ41.2.1 65) (τ41.2.1 66) from by (first | exact sk41 | exact n_sk_c i42_2 (by omega) (show x17 + 1 ≤ n_wd (σ.2.1 13) (σ.2.1 19) (σ.2.1 56 (τ_42.2.1 65 (τ_42.1 42 - 1))) by (rw [← e_x11]; omega)) | exact n_sk_q i42_2 | (rw [q3_1, q3_2, q3_3]; exact n_sk_0 (by omega) (by omega) (wb _)) | fail)) (show ∀ k : Int, 0 ≤ k → k < (τ41.1 44) → τ41.2.1 70 k < (σ.1 36) from by (first | exact to41 | (intro k a b; rcases (by omega : k < τ_42.1 44 ∨ k = τ_42.1 44) with q | q; (rw [st_n _ _ (by omega)]; exact i42_3 k a q); (rw [q, st_s]; omega)) | (intro k a b; exfalso; omega) | fail))
            ·
              refine ⟨(show 0 ≤ τ_42.1 44 ∧ τ_42.1 44 < 40002 from by (first | omega | (simp only [st_s] <;> omega) | assumption | omega | fail)), ?_⟩
              refine ⟨(⟨by (first | omega | (simp only [st_s] <;> omega) | assumption | omega | fail), by (first | omega | (simp only [st_s] <;> omega) | assumption | omega | fail)⟩ : rg ((-1) - x24)), ?_⟩
              replace hT := mT_a (k := 70) (j := (τ_42.1 44)) hT (show (-20001 : Int) ≤ ((-1) - x24) ∧ ((-1) - x24) ≤ 20000 from by (first | omega | (simp only [st_s] <;> omega) | assumption | omega | fail))
              refine ⟨(⟨by (first | omega | (simp only [st_s] <;> omega) | assumption | omega | fail), by (first | omega | (simp only [st_s] <;> omega) | assumption | omega | fail)⟩ : rg (τ_42.1 44 + 1)), ?_⟩
              replace hT := mT_v (i := 44) hT (show 0 ≤ (τ_42.1 44 + 1) ∧ (τ_42.1 44 + 1) ≤ 40000 from by (first | omega | (simp only [st_s] <;> omega) | assumption | omega | fail))
              exact ih_42 _ (show (n_W (τ_42.1 42) (τ_42.2.1 65) ((st (τ_42.2.1 66) (τ_42.1 42 - 1) (x17 + 1))) : Int) < ((m_42 : Nat) : Int) from by ((first | omega | (have w := m41; omega) | (have w := n_W_c (ro := τ_42.2.1 65) (m := τ_42.1 42) (by omega) e_x17; omega) | (have w := n_W_q i42_2 (by omega); omega) | fail))) hT (show τ_42.1 5 = σ.1 5 from by first | exact W5 | omega) (show τ_42.1 36 = σ.1 36 from by first | exact W36 | omega) G13 G19 G56 G57 G58 G61 (show n_tl (τ_42.1 42) ((τ_42.1 44 + 1)) (σ.1 36) (fun r => n_wd (σ.2.1 13) (σ.2.1 19) (σ.2.1 56 r)) (τ_42.2.1 65) ((st (τ_42.2.1 66) (τ_42.1 42 - 1) (x17 + 1))) ((st (τ_42.2.1 62) x24 (x26 + 1))) from by (first | exact tl41 | exact nk.1 | exact n_tl_q i42_1 | (rw [q3_1, q3_2, q3_3, w44_τ5, g62_τ5, e72]; exact n_tl_0 (by omega) (by omega) (fun r a b => (wb r).1) p3) | fail)) (show n_sk (τ_42.1 42) (σ.1 36) (fun r => n_wd (σ.2.1 13) (σ.2.1 19) (σ.2.1 56 r)) (τ_42.2.1 65) ((st (τ_42.2.1 66) (τ_42.1 42 - 1) (x17 + 1))) from by (first | exact sk41 | exact n_sk_c i42_2 (by omega) (show x17 + 1 ≤ n_wd (σ.2.1 13) (σ.2.1 19) (σ.2.1 56 (τ_42.2.1 65 (τ_42.1 42 - 1))) by (rw [← e_x11]; omega)) | exact n_sk_q i42_2 | (rw [q3_1, q3_2, q3_3]; exact n_sk_0 (by omega) (by omega) (wb _)) | fail)) (show ∀ k : Int, 0 ≤ k → k < ((τ_42.1 44 + 1)) → (st (τ_42.2.1 70) (τ_42.1 44) ((-1) - x24)) k < (σ.1 36) from by (first | exact to41 | (intro k a b; rcases (by omega : k < τ_42.1 44 ∨ k = τ_42.1 44) with q | q; (rw [st_n _ _ (by omega)]; exact i42_3 k a q); (rw [q, st_s]; omega)) | (intro k a b; exfalso; omega) | fail))
        ·
          replace hT := mT_v (i := 42) hT (show 0 ≤ (τ_42.1 42 - 1) ∧ (τ_42.1 42 - 1) ≤ 40000 from by (first | omega | (simp only [st_s] <;> omega) | assumption | omega | fail))
          refine ⟨(show 0 ≤ τ_42.1 44 ∧ τ_42.1 44 < 40002 from by (first | omega | (simp only [st_s] <;> omega) | assumption | omega | fail)), ?_⟩
          replace hT := mT_a (k := 70) (j := (τ_42.1 44)) hT (show (-20001 : Int) ≤ x11 ∧ x11 ≤ 20000 from by (first | omega | (simp only [st_s] <;> omega) | assumption | omega | fail))
          refine ⟨(⟨by (first | omega | (simp only [st_s] <;> omega) | assumption | omega | fail), by (first | omega | (simp only [st_s] <;> omega) | assumption | omega | fail)⟩ : rg (τ_42.1 44 + 1)), ?_⟩
          replace hT := mT_v (i := 44) hT (show 0 ≤ (τ_42.1 44 + 1) ∧ (τ_42.1 44 + 1) ≤ 40000 from by (first | omega | (simp only [st_s] <;> omega) | assumption | omega | fail))
          exact ih_42 _ (show (n_W ((τ_42.1 42 - 1)) (τ_42.2.1 65) (τ_42.2.1 66) : Int) < ((m_42 : Nat) : Int) from by ((first | omega | (have w := m41; omega) | (have w := n_W_c (ro := τ_42.2.1 65) (m := τ_42.1 42) (by omega) e_x17; omega) | (have w := n_W_q i42_2 (by omega); omega) | fail))) hT (show τ_42.1 5 = σ.1 5 from by first | exact W5 | omega) (show τ_42.1 36 = σ.1 36 from by first | exact W36 | omega) G13 G19 G56 G57 G58 G61 (show n_tl ((τ_42.1 42 - 1)) ((τ_42.1 44 + 1)) (σ.1 36) (fun r => n_wd (σ.2.1 13) (σ.2.1 19) (σ.2.1 56 r)) (τ_42.2.1 65) (τ_42.2.1 66) (τ_42.2.1 62) from by (first | exact tl41 | exact nk.1 | exact n_tl_q i42_1 | (rw [q3_1, q3_2, q3_3, w44_τ5, g62_τ5, e72]; exact n_tl_0 (by omega) (by omega) (fun r a b => (wb r).1) p3) | fail)) (show n_sk ((τ_42.1 42 - 1)) (σ.1 36) (fun r => n_wd (σ.2.1 13) (σ.2.1 19) (σ.2.1 56 r)) (τ_42.2.1 65) (τ_42.2.1 66) from by (first | exact sk41 | exact n_sk_c i42_2 (by omega) (show x17 + 1 ≤ n_wd (σ.2.1 13) (σ.2.1 19) (σ.2.1 56 (τ_42.2.1 65 (τ_42.1 42 - 1))) by (rw [← e_x11]; omega)) | exact n_sk_q i42_2 | (rw [q3_1, q3_2, q3_3]; exact n_sk_0 (by omega) (by omega) (wb _)) | fail)) (show ∀ k : Int, 0 ≤ k → k < ((τ_42.1 44 + 1)) → (st (τ_42.2.1 70) (τ_42.1 44) x11) k < (σ.1 36) from by (first | exact to41 | (intro k a b; rcases (by omega : k < τ_42.1 44 ∨ k = τ_42.1 44) with q | q; (rw [st_n _ _ (by omega)]; exact i42_3 k a q); (rw [q, st_s]; omega)) | (intro k a b; exfalso; omega) | fail))
  replace hT := mT_v (i := 44) hT (show (0 : Int) ≤ 0 ∧ 0 ≤ 40000 from by (first | omega | (simp only [st_s] <;> omega) | assumption | omega | fail))
  replace hT := mT_v (i := 42) hT (show (0 : Int) ≤ 0 ∧ 0 ≤ 40000 from by (first | omega | (simp only [st_s] <;> omega) | assumption | omega | fail))
  refine ⟨(show 0 ≤ (σ.1 36 - 1) ∧ (σ.1 36 - 1) < 20001 from by (first | omega | (simp only [st_s] <;> omega) | assumption | omega | fail)), ?_⟩
  intro x2 r_x2 e_x2
  have b_x2 : 0 ≤ x2 ∧ x2 ≤ 20000 := by rw [e_x2]; exact hT.2 61 _
  refine ⟨_, K_X13_enter hT (show ((0 : Int)) < 40000 from by (first | omega | (simp only [st_s] <;> omega) | assumption | omega | fail)) (show 0 ≤ x2 ∧ x2 ≤ 60000 from by (first | omega | (simp only [st_s] <;> omega) | assumption | omega | fail)), ?_⟩
  intro τ5 hn_τ5 hf_τ5 hq
  obtain ⟨hT, q3_1, q3_2, q3_3⟩ := hq
  replace q3_1 : (τ5.1 42) = ((0 : Int)) + 1 := q3_1
  replace q3_2 : τ5.2.1 65 = st (σ.2.1 65) ((0 : Int)) x2 := q3_2
  replace q3_3 : τ5.2.1 66 = st (σ.2.1 66) ((0 : Int)) 0 := q3_3
  have w5_τ5 : τ5.1 5 = σ.1 5 := hf_τ5.1 5 (by decide)
  have w36_τ5 : τ5.1 36 = σ.1 36 := hf_τ5.1 36 (by decide)
  have w44_τ5 : τ5.1 44 = 0 := hf_τ5.1 44 (by decide)
  have g13_τ5 : τ5.2.1 13 = σ.2.1 13 := hf_τ5.2.1 13 (by decide)
  have g19_τ5 : τ5.2.1 19 = σ.2.1 19 := hf_τ5.2.1 19 (by decide)
  have g56_τ5 : τ5.2.1 56 = σ.2.1 56 := hf_τ5.2.1 56 (by decide)
  have g57_τ5 : τ5.2.1 57 = σ.2.1 57 := hf_τ5.2.1 57 (by decide)
  have g58_τ5 : τ5.2.1 58 = σ.2.1 58 := hf_τ5.2.1 58 (by decide)
  have g61_τ5 : τ5.2.1 61 = σ.2.1 61 := hf_τ5.2.1 61 (by decide)
  have g62_τ5 : τ5.2.1 62 = σ.2.1 62 := hf_τ5.2.1 62 (by decide)
  have g70_τ5 : τ5.2.1 70 = σ.2.1 70 := hf_τ5.2.1 70 (by decide)
  have W5 : τ5.1 5 = σ.1 5 := by first | exact w5_τ5.trans W5 | omega
  have W36 : τ5.1 36 = σ.1 36 := by first | exact w36_τ5.trans W36 | omega
  have G13 : τ5.2.1 13 = σ.2.1 13 := (g13_τ5).trans G13
  have G19 : τ5.2.1 19 = σ.2.1 19 := (g19_τ5).trans G19
  have G56 : τ5.2.1 56 = σ.2.1 56 := (g56_τ5).trans G56
  have G57 : τ5.2.1 57 = σ.2.1 57 := (g57_τ5).trans G57
  have G58 : τ5.2.1 58 = σ.2.1 58 := (g58_τ5).trans G58
  have G61 : τ5.2.1 61 = σ.2.1 61 := (g61_τ5).trans G61
  have A13 : ∀ j, 0 ≤ τ5.2.1 13 j ∧ τ5.2.1 13 j ≤ 4 := fun j => hT.2 13 j
  have A19 : ∀ j, 0 ≤ τ5.2.1 19 j ∧ τ5.2.1 19 j ≤ 60 := fun j => hT.2 19 j
  have A56 : ∀ j, 0 ≤ τ5.2.1 56 j ∧ τ5.2.1 56 j ≤ 1499 := fun j => hT.2 56 j
  have A57 : ∀ j, 0 ≤ τ5.2.1 57 j ∧ τ5.2.1 57 j ≤ 120000 := fun j => hT.2 57 j
  have A58 : ∀ j, 0 ≤ τ5.2.1 58 j ∧ τ5.2.1 58 j ≤ 20000 := fun j => hT.2 58 j
  have A61 : ∀ j, 0 ≤ τ5.2.1 61 j ∧ τ5.2.1 61 j ≤ 20000 := fun j => hT.2 61 j
  have A62 : ∀ j, (-2147483648) ≤ τ5.2.1 62 j ∧ τ5.2.1 62 j ≤ 2147483647 := fun j => hT.2 62 j
  have A65 : ∀ j, 0 ≤ τ5.2.1 65 j ∧ τ5.2.1 65 j ≤ 60000 := fun j => hT.2 65 j
  have A66 : ∀ j, 0 ≤ τ5.2.1 66 j ∧ τ5.2.1 66 j ≤ 60 := fun j => hT.2 66 j
  have A70 : ∀ j, (-20001) ≤ τ5.2.1 70 j ∧ τ5.2.1 70 j ≤ 20000 := fun j => hT.2 70 j
  have v5 : 0 ≤ τ5.1 5 ∧ τ5.1 5 ≤ 1500 := hT.1 5
  have v36 : 0 ≤ τ5.1 36 ∧ τ5.1 36 ≤ 20000 := hT.1 36
  have v42 : 0 ≤ τ5.1 42 ∧ τ5.1 42 ≤ 40000 := hT.1 42
  have v44 : 0 ≤ τ5.1 44 ∧ τ5.1 44 ≤ 40000 := hT.1 44
  have q1 : τ5.1 42 = 0 + 1 := q3_1
  refine ⟨(show 0 ≤ (τ5.1 36 - 1) ∧ (τ5.1 36 - 1) < 20001 from by (first | omega | (simp only [st_s] <;> omega) | assumption | omega | fail)), ?_⟩
  intro x7 r_x7 e_x7
  have b_x7 : 0 ≤ x7 ∧ x7 ≤ 20000 := by rw [e_x7]; exact hT.2 61 _
  have e72 : x7 = x2 := by rw [e_x7, e_x2, g61_τ5, w36_τ5]
  have s7 := p2 (σ.1 36 - 1) (by omega) (by omega)
  rw [← e_x2] at s7
  refine ⟨(show 0 ≤ x7 ∧ x7 < 20001 from by (first | omega | (simp only [st_s] <;> omega) | assumption | omega | fail)), ?_⟩
  replace hT := mT_a (k := 62) (j := x7) hT (show (-2147483648 : Int) ≤ 1 ∧ 1 ≤ 2147483647 from by (first | omega | (simp only [st_s] <;> omega) | assumption | omega | fail))
  exact l_42 ((n_W (τ5.1 42) (τ5.2.1 65) (τ5.2.1 66) : Int).toNat + 1) _ (show (n_W (τ5.1 42) (τ5.2.1 65) (τ5.2.1 66) : Int) < (((n_W (τ5.1 42) (τ5.2.1 65) (τ5.2.1 66) : Int).toNat + 1 : Nat) : Int) from by ((first | omega | (have w := m41; omega) | (have w := n_W_c (ro := τ_42.2.1 65) (m := τ_42.1 42) (by omega) e_x17; omega) | (have w := n_W_q i42_2 (by omega); omega) | fail))) hT (show τ5.1 5 = σ.1 5 from by first | exact W5 | omega) (show τ5.1 36 = σ.1 36 from by first | exact W36 | omega) G13 G19 G56 G57 G58 G61 (show n_tl (τ5.1 42) (τ5.1 44) (σ.1 36) (fun r => n_wd (σ.2.1 13) (σ.2.1 19) (σ.2.1 56 r)) (τ5.2.1 65) (τ5.2.1 66) ((st (τ5.2.1 62) x7 1)) from by (first | exact tl41 | exact nk.1 | exact n_tl_q i42_1 | (rw [q3_1, q3_2, q3_3, w44_τ5, g62_τ5, e72]; exact n_tl_0 (by omega) (by omega) (fun r a b => (wb r).1) p3) | fail)) (show n_sk (τ5.1 42) (σ.1 36) (fun r => n_wd (σ.2.1 13) (σ.2.1 19) (σ.2.1 56 r)) (τ5.2.1 65) (τ5.2.1 66) from by (first | exact sk41 | exact n_sk_c i42_2 (by omega) (show x17 + 1 ≤ n_wd (σ.2.1 13) (σ.2.1 19) (σ.2.1 56 (τ_42.2.1 65 (τ_42.1 42 - 1))) by (rw [← e_x11]; omega)) | exact n_sk_q i42_2 | (rw [q3_1, q3_2, q3_3]; exact n_sk_0 (by omega) (by omega) (wb _)) | fail)) (show ∀ k : Int, 0 ≤ k → k < (τ5.1 44) → τ5.2.1 70 k < (σ.1 36) from by (first | exact to41 | (intro k a b; rcases (by omega : k < τ_42.1 44 ∨ k = τ_42.1 44) with q | q; (rw [st_n _ _ (by omega)]; exact i42_3 k a q); (rw [q, st_s]; omega)) | (intro k a b; exfalso; omega) | fail))
set_option maxHeartbeats 6000000 in
theorem K3_X13_printPacked {n1 : Int} {σ : S0} (hT : m_T σ) (p1 : 0 ≤ n1) (p2 : n1 < σ.1 5) (p3 : σ.2.1 13 n1 = 3) (p4 : n_J σ) (p5 : m_J σ) (p6 : n_Y σ) (p7 : n_nu (σ.2.1 63)) : W_X13_printPacked n1 σ (fun (x : Int) (τ : S0) => (m_T τ) ∧ (n_Y τ) ∧ (n_nu (τ.2.1 63))) := by
  have A13 : ∀ j, 0 ≤ σ.2.1 13 j ∧ σ.2.1 13 j ≤ 4 := fun j => hT.2 13 j
  have A19 : ∀ j, 0 ≤ σ.2.1 19 j ∧ σ.2.1 19 j ≤ 60 := fun j => hT.2 19 j
  have A25 : ∀ j, 0 ≤ σ.2.1 25 j ∧ σ.2.1 25 j ≤ 20000 := fun j => hT.2 25 j
  have A26 : ∀ j, 0 ≤ σ.2.1 26 j ∧ σ.2.1 26 j ≤ 20000 := fun j => hT.2 26 j
  have A27 : ∀ j, (-300) ≤ σ.2.1 27 j ∧ σ.2.1 27 j ≤ 1499 := fun j => hT.2 27 j
  have A56 : ∀ j, 0 ≤ σ.2.1 56 j ∧ σ.2.1 56 j ≤ 1499 := fun j => hT.2 56 j
  have A57 : ∀ j, 0 ≤ σ.2.1 57 j ∧ σ.2.1 57 j ≤ 120000 := fun j => hT.2 57 j
  have A58 : ∀ j, 0 ≤ σ.2.1 58 j ∧ σ.2.1 58 j ≤ 20000 := fun j => hT.2 58 j
  have A63 : ∀ j, (-2147483648) ≤ σ.2.1 63 j ∧ σ.2.1 63 j ≤ 2147483647 := fun j => hT.2 63 j
  have A67 : ∀ j, 0 ≤ σ.2.1 67 j ∧ σ.2.1 67 j ≤ 1499 := fun j => hT.2 67 j
  have A68 : ∀ j, 0 ≤ σ.2.1 68 j ∧ σ.2.1 68 j ≤ 2000 := fun j => hT.2 68 j
  have A70 : ∀ j, (-20001) ≤ σ.2.1 70 j ∧ σ.2.1 70 j ≤ 20000 := fun j => hT.2 70 j
  have v5 : 0 ≤ σ.1 5 ∧ σ.1 5 ≤ 1500 := hT.1 5
  have v36 : 0 ≤ σ.1 36 ∧ σ.1 36 ≤ 20000 := hT.1 36
  have v38 : 0 ≤ σ.1 38 ∧ σ.1 38 ≤ 1500 := hT.1 38
  have v43 : 0 ≤ σ.1 43 ∧ σ.1 43 ≤ 1500 := hT.1 43
  have v44 : 0 ≤ σ.1 44 ∧ σ.1 44 ≤ 40000 := hT.1 44
  have W5 : σ.1 5 = σ.1 5 := rfl
  have G13 : σ.2.1 13 = σ.2.1 13 := rfl
  have G19 : σ.2.1 19 = σ.2.1 19 := rfl
  have G25 : σ.2.1 25 = σ.2.1 25 := rfl
  have G26 : σ.2.1 26 = σ.2.1 26 := rfl
  have G27 : σ.2.1 27 = σ.2.1 27 := rfl
  intro P20 P43 P82 P114 P180 P226 h20 h43 h82 h114 h180 h226
  have NU : n_nu (σ.2.1 63) := p7
  have NU_0 := NU
  have l_226 : ∀ (m_226 : Nat) (u2_226 : Int) (u3_226 : Int) (τ_226 : S0), 20002 - u3_226 < (m_226 : Int) → (m_T τ_226) → (τ_226.1 5 = σ.1 5) → (τ_226.2.1 13 = σ.2.1 13) → (τ_226.2.1 19 = σ.2.1 19) → (τ_226.2.1 25 = σ.2.1 25) → (τ_226.2.1 26 = σ.2.1 26) → (τ_226.2.1 27 = σ.2.1 27) → (0 ≤ u2_226) → (u2_226 ≤ u3_226) → (u3_226 ≤ 20001) → ((τ_226.1 43) ≤ 1500) → ((τ_226.1 38) = n1 + 1) → (n_Y τ_226) → ((τ_226.1 44) ≤ 20001) → (n_nu (τ_226.2.1 63)) → P226 n1 u2_226 u3_226 τ_226 := by
    intro m_226
    induction m_226 with
    | zero =>
      intro u2_226 u3_226 τ_226 hm hT W5 G13 G19 G25 G26 G27 i226_1 i226_2 i226_3 i226_4 i226_5 i226_6 i226_7 i226_8
      have A13 : ∀ j, 0 ≤ τ_226.2.1 13 j ∧ τ_226.2.1 13 j ≤ 4 := fun j => hT.2 13 j
      have A19 : ∀ j, 0 ≤ τ_226.2.1 19 j ∧ τ_226.2.1 19 j ≤ 60 := fun j => hT.2 19 j
      have A25 : ∀ j, 0 ≤ τ_226.2.1 25 j ∧ τ_226.2.1 25 j ≤ 20000 := fun j => hT.2 25 j
      have A26 : ∀ j, 0 ≤ τ_226.2.1 26 j ∧ τ_226.2.1 26 j ≤ 20000 := fun j => hT.2 26 j
      have A27 : ∀ j, (-300) ≤ τ_226.2.1 27 j ∧ τ_226.2.1 27 j ≤ 1499 := fun j => hT.2 27 j
      have A56 : ∀ j, 0 ≤ τ_226.2.1 56 j ∧ τ_226.2.1 56 j ≤ 1499 := fun j => hT.2 56 j
      have A57 : ∀ j, 0 ≤ τ_226.2.1 57 j ∧ τ_226.2.1 57 j ≤ 120000 := fun j => hT.2 57 j
      have A58 : ∀ j, 0 ≤ τ_226.2.1 58 j ∧ τ_226.2.1 58 j ≤ 20000 := fun j => hT.2 58 j
      have A63 : ∀ j, (-2147483648) ≤ τ_226.2.1 63 j ∧ τ_226.2.1 63 j ≤ 2147483647 := fun j => hT.2 63 j
      have A67 : ∀ j, 0 ≤ τ_226.2.1 67 j ∧ τ_226.2.1 67 j ≤ 1499 := fun j => hT.2 67 j
      have A68 : ∀ j, 0 ≤ τ_226.2.1 68 j ∧ τ_226.2.1 68 j ≤ 2000 := fun j => hT.2 68 j
      have A70 : ∀ j, (-20001) ≤ τ_226.2.1 70 j ∧ τ_226.2.1 70 j ≤ 20000 := fun j => hT.2 70 j
      have v5 : 0 ≤ τ_226.1 5 ∧ τ_226.1 5 ≤ 1500 := hT.1 5
      have v36 : 0 ≤ τ_226.1 36 ∧ τ_226.1 36 ≤ 20000 := hT.1 36
      have v38 : 0 ≤ τ_226.1 38 ∧ τ_226.1 38 ≤ 1500 := hT.1 38
      have v43 : 0 ≤ τ_226.1 43 ∧ τ_226.1 43 ≤ 1500 := hT.1 43
      have v44 : 0 ≤ τ_226.1 44 ∧ τ_226.1 44 ≤ 40000 := hT.1 44
      exfalso; (first | omega | (simp only [st_s] <;> omega) | assumption | omega | fail)
    | succ m_226 ih_226 =>
      intro u2_226 u3_226 τ_226 hm_226 hT W5 G13 G19 G25 G26 G27 i226_1 i226_2 i226_3 i226_4 i226_5 i226_6 i226_7 i226_8
      have A13 : ∀ j, 0 ≤ τ_226.2.1 13 j ∧ τ_226.2.1 13 j ≤ 4 := fun j => hT.2 13 j
      have A19 : ∀ j, 0 ≤ τ_226.2.1 19 j ∧ τ_226.2.1 19 j ≤ 60 := fun j => hT.2 19 j
      have A25 : ∀ j, 0 ≤ τ_226.2.1 25 j ∧ τ_226.2.1 25 j ≤ 20000 := fun j => hT.2 25 j
      have A26 : ∀ j, 0 ≤ τ_226.2.1 26 j ∧ τ_226.2.1 26 j ≤ 20000 := fun j => hT.2 26 j
      have A27 : ∀ j, (-300) ≤ τ_226.2.1 27 j ∧ τ_226.2.1 27 j ≤ 1499 := fun j => hT.2 27 j
      have A56 : ∀ j, 0 ≤ τ_226.2.1 56 j ∧ τ_226.2.1 56 j ≤ 1499 := fun j => hT.2 56 j
      have A57 : ∀ j, 0 ≤ τ_226.2.1 57 j ∧ τ_226.2.1 57 j ≤ 120000 := fun j => hT.2 57 j
      have A58 : ∀ j, 0 ≤ τ_226.2.1 58 j ∧ τ_226.2.1 58 j ≤ 20000 := fun j => hT.2 58 j
      have A63 : ∀ j, (-2147483648) ≤ τ_226.2.1 63 j ∧ τ_226.2.1 63 j ≤ 2147483647 := fun j => hT.2 63 j
      have A67 : ∀ j, 0 ≤ τ_226.2.1 67 j ∧ τ_226.2.1 67 j ≤ 1499 := fun j => hT.2 67 j
      have A68 : ∀ j, 0 ≤ τ_226.2.1 68 j ∧ τ_226.2.1 68 j ≤ 2000 := fun j => hT.2 68 j
      have A70 : ∀ j, (-20001) ≤ τ_226.2.1 70 j ∧ τ_226.2.1 70 j ≤ 20000 := fun j => hT.2 70 j
      have v5 : 0 ≤ τ_226.1 5 ∧ τ_226.1 5 ≤ 1500 := hT.1 5
      have v36 : 0 ≤ τ_226.1 36 ∧ τ_226.1 36 ≤ 20000 := hT.1 36
      have v38 : 0 ≤ τ_226.1 38 ∧ τ_226.1 38 ≤ 1500 := hT.1 38
      have v43 : 0 ≤ τ_226.1 43 ∧ τ_226.1 43 ≤ 1500 := hT.1 43
      have v44 : 0 ≤ τ_226.1 44 ∧ τ_226.1 44 ≤ 40000 := hT.1 44
      have NU : n_nu (τ_226.2.1 63) := i226_8
      refine h226 n1 u2_226 u3_226 τ_226 ?_
      refine ⟨fun c59 => ?_, fun c59 => ?_⟩
      ·
        refine ⟨_, K_X13_keepDraft hT, ?_⟩
        intro x61 τ62 r_x61 hn_τ62 hf_τ62 hq
        replace hT := hq
        have w5_τ62 : τ62.1 5 = τ_226.1 5 := hf_τ62.1 5 (by decide)
        have w36_τ62 : τ62.1 36 = τ_226.1 36 := hf_τ62.1 36 (by decide)
        have w38_τ62 : τ62.1 38 = τ_226.1 38 := hf_τ62.1 38 (by decide)
        have w43_τ62 : τ62.1 43 = τ_226.1 43 := hf_τ62.1 43 (by decide)
        have w44_τ62 : τ62.1 44 = τ_226.1 44 := hf_τ62.1 44 (by decide)
        have g13_τ62 : τ62.2.1 13 = τ_226.2.1 13 := hf_τ62.2.1 13 (by decide)
        have g19_τ62 : τ62.2.1 19 = τ_226.2.1 19 := hf_τ62.2.1 19 (by decide)
        have g25_τ62 : τ62.2.1 25 = τ_226.2.1 25 := hf_τ62.2.1 25 (by decide)
        have g26_τ62 : τ62.2.1 26 = τ_226.2.1 26 := hf_τ62.2.1 26 (by decide)
        have g27_τ62 : τ62.2.1 27 = τ_226.2.1 27 := hf_τ62.2.1 27 (by decide)
        have g56_τ62 : τ62.2.1 56 = τ_226.2.1 56 := hf_τ62.2.1 56 (by decide)
        have g57_τ62 : τ62.2.1 57 = τ_226.2.1 57 := hf_τ62.2.1 57 (by decide)
        have g58_τ62 : τ62.2.1 58 = τ_226.2.1 58 := hf_τ62.2.1 58 (by decide)
        have g63_τ62 : τ62.2.1 63 = τ_226.2.1 63 := hf_τ62.2.1 63 (by decide)
        have g67_τ62 : τ62.2.1 67 = τ_226.2.1 67 := hf_τ62.2.1 67 (by decide)
        have g68_τ62 : τ62.2.1 68 = τ_226.2.1 68 := hf_τ62.2.1 68 (by decide)
        have g70_τ62 : τ62.2.1 70 = τ_226.2.1 70 := hf_τ62.2.1 70 (by decide)
        have W5 : τ62.1 5 = σ.1 5 := by first | exact w5_τ62.trans W5 | omega
        have G13 : τ62.2.1 13 = σ.2.1 13 := (g13_τ62).trans G13
        have G19 : τ62.2.1 19 = σ.2.1 19 := (g19_τ62).trans G19
        have G25 : τ62.2.1 25 = σ.2.1 25 := (g25_τ62).trans G25
        have G26 : τ62.2.1 26 = σ.2.1 26 := (g26_τ62).trans G26
        have G27 : τ62.2.1 27 = σ.2.1 27 := (g27_τ62).trans G27
        have NU : n_nu (τ62.2.1 63) := by rw [show (n_nu (τ62.2.1 63)) = (n_nu (τ_226.2.1 63)) from by rw [g63_τ62]]; exact NU
        have A13 : ∀ j, 0 ≤ τ62.2.1 13 j ∧ τ62.2.1 13 j ≤ 4 := fun j => hT.2 13 j
        have A19 : ∀ j, 0 ≤ τ62.2.1 19 j ∧ τ62.2.1 19 j ≤ 60 := fun j => hT.2 19 j
        have A25 : ∀ j, 0 ≤ τ62.2.1 25 j ∧ τ62.2.1 25 j ≤ 20000 := fun j => hT.2 25 j
        have A26 : ∀ j, 0 ≤ τ62.2.1 26 j ∧ τ62.2.1 26 j ≤ 20000 := fun j => hT.2 26 j
        have A27 : ∀ j, (-300) ≤ τ62.2.1 27 j ∧ τ62.2.1 27 j ≤ 1499 := fun j => hT.2 27 j
        have A56 : ∀ j, 0 ≤ τ62.2.1 56 j ∧ τ62.2.1 56 j ≤ 1499 := fun j => hT.2 56 j
        have A57 : ∀ j, 0 ≤ τ62.2.1 57 j ∧ τ62.2.1 57 j ≤ 120000 := fun j => hT.2 57 j
        have A58 : ∀ j, 0 ≤ τ62.2.1 58 j ∧ τ62.2.1 58 j ≤ 20000 := fun j => hT.2 58 j
        have A63 : ∀ j, (-2147483648) ≤ τ62.2.1 63 j ∧ τ62.2.1 63 j ≤ 2147483647 := fun j => hT.2 63 j
        have A67 : ∀ j, 0 ≤ τ62.2.1 67 j ∧ τ62.2.1 67 j ≤ 1499 := fun j => hT.2 67 j
        have A68 : ∀ j, 0 ≤ τ62.2.1 68 j ∧ τ62.2.1 68 j ≤ 2000 := fun j => hT.2 68 j
        have A70 : ∀ j, (-20001) ≤ τ62.2.1 70 j ∧ τ62.2.1 70 j ≤ 20000 := fun j => hT.2 70 j
        have v5 : 0 ≤ τ62.1 5 ∧ τ62.1 5 ≤ 1500 := hT.1 5
        have v36 : 0 ≤ τ62.1 36 ∧ τ62.1 36 ≤ 20000 := hT.1 36
        have v38 : 0 ≤ τ62.1 38 ∧ τ62.1 38 ≤ 1500 := hT.1 38
        have v43 : 0 ≤ τ62.1 43 ∧ τ62.1 43 ≤ 1500 := hT.1 43
        have v44 : 0 ≤ τ62.1 44 ∧ τ62.1 44 ≤ 40000 := hT.1 44
        have yτ62 : n_Y τ62 := n_Y_h (show n_Y τ_226 from i226_6) hf_τ62 rfl rfl
        exact ⟨hT, (show n_Y τ62 from by exact yτ62), (show n_nu (τ62.2.1 63) from NU)⟩
      ·
        refine ⟨(show 0 ≤ u3_226 ∧ u3_226 < 40002 from by (first | omega | (simp only [st_s] <;> omega) | assumption | omega | fail)), ?_⟩
        intro x64 r_x64 e_x64
        have b_x64 : (-20001) ≤ x64 ∧ x64 ≤ 20000 := by rw [e_x64]; exact hT.2 70 _
        refine ⟨fun c65 => ?_, fun c65 => ?_⟩
        ·
          refine ⟨(show 0 ≤ x64 ∧ x64 < 20001 from by (first | omega | (simp only [st_s] <;> omega) | assumption | omega | fail)), ?_⟩
          intro x67 r_x67 e_x67
          have b_x67 : 0 ≤ x67 ∧ x67 ≤ 1499 := by rw [e_x67]; exact hT.2 56 _
          refine ⟨(show 0 ≤ x67 ∧ x67 < 1501 from by (first | omega | (simp only [st_s] <;> omega) | assumption | omega | fail)), ?_⟩
          intro x69 r_x69 e_x69
          have b_x69 : 0 ≤ x69 ∧ x69 ≤ 2000 := by rw [e_x69]; exact hT.2 68 _
          refine ⟨_, K_X13_putNumber hT (show 0 ≤ x69 from by (first | omega | (simp only [st_s] <;> omega) | assumption | omega | fail)) (show x69 ≤ 1000000 from by (first | omega | (simp only [st_s] <;> omega) | assumption | omega | fail)), ?_⟩
          intro τ72 hn_τ72 hf_τ72 hq
          replace hT := hq
          have w5_τ72 : τ72.1 5 = τ_226.1 5 := hf_τ72.1 5 (by decide)
          have w36_τ72 : τ72.1 36 = τ_226.1 36 := hf_τ72.1 36 (by decide)
          have w38_τ72 : τ72.1 38 = τ_226.1 38 := hf_τ72.1 38 (by decide)
          have w43_τ72 : τ72.1 43 = τ_226.1 43 := hf_τ72.1 43 (by decide)
          have w44_τ72 : τ72.1 44 = τ_226.1 44 := hf_τ72.1 44 (by decide)
          have g13_τ72 : τ72.2.1 13 = τ_226.2.1 13 := hf_τ72.2.1 13 (by decide)
          have g19_τ72 : τ72.2.1 19 = τ_226.2.1 19 := hf_τ72.2.1 19 (by decide)
          have g25_τ72 : τ72.2.1 25 = τ_226.2.1 25 := hf_τ72.2.1 25 (by decide)
          have g26_τ72 : τ72.2.1 26 = τ_226.2.1 26 := hf_τ72.2.1 26 (by decide)
          have g27_τ72 : τ72.2.1 27 = τ_226.2.1 27 := hf_τ72.2.1 27 (by decide)
          have g56_τ72 : τ72.2.1 56 = τ_226.2.1 56 := hf_τ72.2.1 56 (by decide)
          have g57_τ72 : τ72.2.1 57 = τ_226.2.1 57 := hf_τ72.2.1 57 (by decide)
          have g58_τ72 : τ72.2.1 58 = τ_226.2.1 58 := hf_τ72.2.1 58 (by decide)
          have g63_τ72 : τ72.2.1 63 = τ_226.2.1 63 := hf_τ72.2.1 63 (by decide)
          have g67_τ72 : τ72.2.1 67 = τ_226.2.1 67 := hf_τ72.2.1 67 (by decide)
          have g68_τ72 : τ72.2.1 68 = τ_226.2.1 68 := hf_τ72.2.1 68 (by decide)
          have g70_τ72 : τ72.2.1 70 = τ_226.2.1 70 := hf_τ72.2.1 70 (by decide)
          have W5 : τ72.1 5 = σ.1 5 := by first | exact w5_τ72.trans W5 | omega
          have G13 : τ72.2.1 13 = σ.2.1 13 := (g13_τ72).trans G13
          have G19 : τ72.2.1 19 = σ.2.1 19 := (g19_τ72).trans G19
          have G25 : τ72.2.1 25 = σ.2.1 25 := (g25_τ72).trans G25
          have G26 : τ72.2.1 26 = σ.2.1 26 := (g26_τ72).trans G26
          have G27 : τ72.2.1 27 = σ.2.1 27 := (g27_τ72).trans G27
          have NU : n_nu (τ72.2.1 63) := by rw [show (n_nu (τ72.2.1 63)) = (n_nu (τ_226.2.1 63)) from by rw [g63_τ72]]; exact NU
          have A13 : ∀ j, 0 ≤ τ72.2.1 13 j ∧ τ72.2.1 13 j ≤ 4 := fun j => hT.2 13 j
          have A19 : ∀ j, 0 ≤ τ72.2.1 19 j ∧ τ72.2.1 19 j ≤ 60 := fun j => hT.2 19 j
          have A25 : ∀ j, 0 ≤ τ72.2.1 25 j ∧ τ72.2.1 25 j ≤ 20000 := fun j => hT.2 25 j
          have A26 : ∀ j, 0 ≤ τ72.2.1 26 j ∧ τ72.2.1 26 j ≤ 20000 := fun j => hT.2 26 j
          have A27 : ∀ j, (-300) ≤ τ72.2.1 27 j ∧ τ72.2.1 27 j ≤ 1499 := fun j => hT.2 27 j
          have A56 : ∀ j, 0 ≤ τ72.2.1 56 j ∧ τ72.2.1 56 j ≤ 1499 := fun j => hT.2 56 j
          have A57 : ∀ j, 0 ≤ τ72.2.1 57 j ∧ τ72.2.1 57 j ≤ 120000 := fun j => hT.2 57 j
          have A58 : ∀ j, 0 ≤ τ72.2.1 58 j ∧ τ72.2.1 58 j ≤ 20000 := fun j => hT.2 58 j
          have A63 : ∀ j, (-2147483648) ≤ τ72.2.1 63 j ∧ τ72.2.1 63 j ≤ 2147483647 := fun j => hT.2 63 j
          have A67 : ∀ j, 0 ≤ τ72.2.1 67 j ∧ τ72.2.1 67 j ≤ 1499 := fun j => hT.2 67 j
          have A68 : ∀ j, 0 ≤ τ72.2.1 68 j ∧ τ72.2.1 68 j ≤ 2000 := fun j => hT.2 68 j
          have A70 : ∀ j, (-20001) ≤ τ72.2.1 70 j ∧ τ72.2.1 70 j ≤ 20000 := fun j => hT.2 70 j
          have v5 : 0 ≤ τ72.1 5 ∧ τ72.1 5 ≤ 1500 := hT.1 5
          have v36 : 0 ≤ τ72.1 36 ∧ τ72.1 36 ≤ 20000 := hT.1 36
          have v38 : 0 ≤ τ72.1 38 ∧ τ72.1 38 ≤ 1500 := hT.1 38
          have v43 : 0 ≤ τ72.1 43 ∧ τ72.1 43 ≤ 1500 := hT.1 43
          have v44 : 0 ≤ τ72.1 44 ∧ τ72.1 44 ≤ 40000 := hT.1 44
          have yτ72 : n_Y τ72 := n_Y_h (show n_Y τ_226 from i226_6) hf_τ72 rfl rfl
          intro x73 r_x73 e_x73
          have b_x73 : (-2147483648) ≤ x73 ∧ x73 ≤ 2147483647 := by rw [e_x73]; exact hT.2 62 _
          refine ⟨fun c74 => ?_, fun c74 => ?_⟩
          ·
            refine ⟨(⟨by (first | omega | (simp only [st_s] <;> omega) | assumption | omega | fail), by (first | omega | (simp only [st_s] <;> omega) | assumption | omega | fail)⟩ : rg (u3_226 + 1)), ?_⟩
            exact ih_226 _ _ _ (show (20002 - (u3_226 + 1) : Int) < ((m_226 : Nat) : Int) from by ((first | omega | (simp only [st_s] <;> omega) | assumption | omega | fail))) hT (show τ72.1 5 = σ.1 5 from by first | exact W5 | omega) G13 G19 G25 G26 G27 (show 0 ≤ u2_226 from by (first | omega | (simp only [st_s] <;> omega) | assumption | omega | fail)) (show u2_226 ≤ (u3_226 + 1) from by (first | omega | (simp only [st_s] <;> omega) | assumption | omega | fail)) (show (u3_226 + 1) ≤ 20001 from by (first | omega | (simp only [st_s] <;> omega) | assumption | omega | fail)) (show (τ72.1 43) ≤ 1500 from by (first | omega | (simp only [st_s] <;> omega) | assumption | omega | fail)) (show (τ72.1 38) = n1 + 1 from by (first | omega | (simp only [st_s] <;> omega) | assumption | omega | fail)) (show n_Y τ72 from by (first | exact yτ40 | exact yτ93 | exact y85 | exact yτ72 | fail)) (show (τ72.1 44) ≤ 20001 from by (first | omega | (simp only [st_s] <;> omega) | assumption | omega | fail)) (show n_nu (τ72.2.1 63) from NU)
          ·
            refine ⟨_, K3_X13_rowWidth hT (show 0 ≤ x64 from by (first | omega | (simp only [st_s] <;> omega) | assumption | omega | fail)) (show x64 < 20001 from by (first | omega | (simp only [st_s] <;> omega) | assumption | omega | fail)), ?_⟩
            intro x77 r_x77 hq
            obtain ⟨q76_1, q76_2⟩ := hq
            replace q76_1 : 0 ≤ x77 ∧ x77 ≤ 60 := q76_1
            replace q76_2 : x77 = n_wd (τ72.2.1 13) (τ72.2.1 19) (τ72.2.1 56 x64) := q76_2
            refine ⟨fun c79 => ?_, fun c79 => ?_⟩
            ·
              refine ⟨(⟨by (first | omega | (simp only [st_s] <;> omega) | assumption | omega | fail), by (first | omega | (simp only [st_s] <;> omega) | assumption | omega | fail)⟩ : rg (u3_226 + 1)), ?_⟩
              exact ih_226 _ _ _ (show (20002 - (u3_226 + 1) : Int) < ((m_226 : Nat) : Int) from by ((first | omega | (simp only [st_s] <;> omega) | assumption | omega | fail))) hT (show τ72.1 5 = σ.1 5 from by first | exact W5 | omega) G13 G19 G25 G26 G27 (show 0 ≤ u2_226 from by (first | omega | (simp only [st_s] <;> omega) | assumption | omega | fail)) (show u2_226 ≤ (u3_226 + 1) from by (first | omega | (simp only [st_s] <;> omega) | assumption | omega | fail)) (show (u3_226 + 1) ≤ 20001 from by (first | omega | (simp only [st_s] <;> omega) | assumption | omega | fail)) (show (τ72.1 43) ≤ 1500 from by (first | omega | (simp only [st_s] <;> omega) | assumption | omega | fail)) (show (τ72.1 38) = n1 + 1 from by (first | omega | (simp only [st_s] <;> omega) | assumption | omega | fail)) (show n_Y τ72 from by (first | exact yτ40 | exact yτ93 | exact y85 | exact yτ72 | fail)) (show (τ72.1 44) ≤ 20001 from by (first | omega | (simp only [st_s] <;> omega) | assumption | omega | fail)) (show n_nu (τ72.2.1 63) from NU)
            ·
              refine ⟨(show 0 ≤ n1 ∧ n1 < 1501 from by (first | omega | (simp only [st_s] <;> omega) | assumption | omega | fail)), ?_⟩
              intro x82 r_x82 e_x82
              have b_x82 : 0 ≤ x82 ∧ x82 ≤ 60 := by rw [e_x82]; exact hT.2 19 _
              refine ⟨(⟨by (first | omega | (simp only [st_s] <;> omega) | assumption | omega | fail), by (first | omega | (simp only [st_s] <;> omega) | assumption | omega | fail)⟩ : rg ((x82 + τ72.1 43) + (u2_226 + 1))), ?_⟩
              replace hT := mT_a (k := 63) (j := x64) hT (show (-2147483648 : Int) ≤ ((x82 + τ72.1 43) + (u2_226 + 1)) ∧ ((x82 + τ72.1 43) + (u2_226 + 1)) ≤ 2147483647 from by (first | omega | (simp only [st_s] <;> omega) | assumption | omega | fail))
              refine ⟨_, K_X13_put hT (show 0 ≤ (90 : Int) from by (first | omega | (simp only [st_s] <;> omega) | assumption | omega | fail)) (show (90 : Int) ≤ 255 from by (first | omega | (simp only [st_s] <;> omega) | assumption | omega | fail)), ?_⟩
              intro τ86 hn_τ86 hf_τ86 hq
              replace hT := hq
              have w5_τ86 : τ86.1 5 = τ72.1 5 := hf_τ86.1 5 (by decide)
              have w36_τ86 : τ86.1 36 = τ72.1 36 := hf_τ86.1 36 (by decide)
              have w38_τ86 : τ86.1 38 = τ72.1 38 := hf_τ86.1 38 (by decide)
              have w43_τ86 : τ86.1 43 = τ72.1 43 := hf_τ86.1 43 (by decide)
              have w44_τ86 : τ86.1 44 = τ72.1 44 := hf_τ86.1 44 (by decide)
              have g13_τ86 : τ86.2.1 13 = τ72.2.1 13 := hf_τ86.2.1 13 (by decide)
              have g19_τ86 : τ86.2.1 19 = τ72.2.1 19 := hf_τ86.2.1 19 (by decide)
              have g25_τ86 : τ86.2.1 25 = τ72.2.1 25 := hf_τ86.2.1 25 (by decide)
              have g26_τ86 : τ86.2.1 26 = τ72.2.1 26 := hf_τ86.2.1 26 (by decide)
              have g27_τ86 : τ86.2.1 27 = τ72.2.1 27 := hf_τ86.2.1 27 (by decide)
              have g56_τ86 : τ86.2.1 56 = τ72.2.1 56 := hf_τ86.2.1 56 (by decide)
              have g57_τ86 : τ86.2.1 57 = τ72.2.1 57 := hf_τ86.2.1 57 (by decide)
              have g58_τ86 : τ86.2.1 58 = τ72.2.1 58 := hf_τ86.2.1 58 (by decide)
              have g63_τ86 : τ86.2.1 63 = (st (τ72.2.1 63) x64 ((x82 + τ72.1 43) + (u2_226 + 1))) := hf_τ86.2.1 63 (by decide)
              have g67_τ86 : τ86.2.1 67 = τ72.2.1 67 := hf_τ86.2.1 67 (by decide)
              have g68_τ86 : τ86.2.1 68 = τ72.2.1 68 := hf_τ86.2.1 68 (by decide)
              have g70_τ86 : τ86.2.1 70 = τ72.2.1 70 := hf_τ86.2.1 70 (by decide)
              have W5 : τ86.1 5 = σ.1 5 := by first | exact w5_τ86.trans W5 | omega
              have G13 : τ86.2.1 13 = σ.2.1 13 := (g13_τ86).trans G13
              have G19 : τ86.2.1 19 = σ.2.1 19 := (g19_τ86).trans G19
              have G25 : τ86.2.1 25 = σ.2.1 25 := (g25_τ86).trans G25
              have G26 : τ86.2.1 26 = σ.2.1 26 := (g26_τ86).trans G26
              have G27 : τ86.2.1 27 = σ.2.1 27 := (g27_τ86).trans G27
              have A13 : ∀ j, 0 ≤ τ86.2.1 13 j ∧ τ86.2.1 13 j ≤ 4 := fun j => hT.2 13 j
              have A19 : ∀ j, 0 ≤ τ86.2.1 19 j ∧ τ86.2.1 19 j ≤ 60 := fun j => hT.2 19 j
              have A25 : ∀ j, 0 ≤ τ86.2.1 25 j ∧ τ86.2.1 25 j ≤ 20000 := fun j => hT.2 25 j
              have A26 : ∀ j, 0 ≤ τ86.2.1 26 j ∧ τ86.2.1 26 j ≤ 20000 := fun j => hT.2 26 j
              have A27 : ∀ j, (-300) ≤ τ86.2.1 27 j ∧ τ86.2.1 27 j ≤ 1499 := fun j => hT.2 27 j
              have A56 : ∀ j, 0 ≤ τ86.2.1 56 j ∧ τ86.2.1 56 j ≤ 1499 := fun j => hT.2 56 j
              have A57 : ∀ j, 0 ≤ τ86.2.1 57 j ∧ τ86.2.1 57 j ≤ 120000 := fun j => hT.2 57 j
              have A58 : ∀ j, 0 ≤ τ86.2.1 58 j ∧ τ86.2.1 58 j ≤ 20000 := fun j => hT.2 58 j
              have A63 : ∀ j, (-2147483648) ≤ τ86.2.1 63 j ∧ τ86.2.1 63 j ≤ 2147483647 := fun j => hT.2 63 j
              have A67 : ∀ j, 0 ≤ τ86.2.1 67 j ∧ τ86.2.1 67 j ≤ 1499 := fun j => hT.2 67 j
              have A68 : ∀ j, 0 ≤ τ86.2.1 68 j ∧ τ86.2.1 68 j ≤ 2000 := fun j => hT.2 68 j
              have A70 : ∀ j, (-20001) ≤ τ86.2.1 70 j ∧ τ86.2.1 70 j ≤ 20000 := fun j => hT.2 70 j
              have v5 : 0 ≤ τ86.1 5 ∧ τ86.1 5 ≤ 1500 := hT.1 5
              have v36 : 0 ≤ τ86.1 36 ∧ τ86.1 36 ≤ 20000 := hT.1 36
              have v38 : 0 ≤ τ86.1 38 ∧ τ86.1 38 ≤ 1500 := hT.1 38
              have v43 : 0 ≤ τ86.1 43 ∧ τ86.1 43 ≤ 1500 := hT.1 43
              have v44 : 0 ≤ τ86.1 44 ∧ τ86.1 44 ≤ 40000 := hT.1 44
              have y85 : n_Y τ86 := n_Y_h (show n_Y (s_a τ72 63 x64 (x82 + τ72.1 43 + (u2_226 + 1))) from yτ72) hf_τ86 rfl rfl
              refine ⟨(⟨by (first | omega | (simp only [st_s] <;> omega) | assumption | omega | fail), by (first | omega | (simp only [st_s] <;> omega) | assumption | omega | fail)⟩ : rg (u2_226 + 1)), ?_⟩
              refine ⟨(⟨by (first | omega | (simp only [st_s] <;> omega) | assumption | omega | fail), by (first | omega | (simp only [st_s] <;> omega) | assumption | omega | fail)⟩ : rg (u3_226 + 1)), ?_⟩
              exact ih_226 _ _ _ (show (20002 - (u3_226 + 1) : Int) < ((m_226 : Nat) : Int) from by ((first | omega | (simp only [st_s] <;> omega) | assumption | omega | fail))) hT (show τ86.1 5 = σ.1 5 from by first | exact W5 | omega) G13 G19 G25 G26 G27 (show 0 ≤ (u2_226 + 1) from by (first | omega | (simp only [st_s] <;> omega) | assumption | omega | fail)) (show (u2_226 + 1) ≤ (u3_226 + 1) from by (first | omega | (simp only [st_s] <;> omega) | assumption | omega | fail)) (show (u3_226 + 1) ≤ 20001 from by (first | omega | (simp only [st_s] <;> omega) | assumption | omega | fail)) (show (τ86.1 43) ≤ 1500 from by (first | omega | (simp only [st_s] <;> omega) | assumption | omega | fail)) (show (τ86.1 38) = n1 + 1 from by (first | omega | (simp only [st_s] <;> omega) | assumption | omega | fail)) (show n_Y τ86 from by (first | exact yτ40 | exact yτ93 | exact y85 | exact yτ72 | fail)) (show (τ86.1 44) ≤ 20001 from by (first | omega | (simp only [st_s] <;> omega) | assumption | omega | fail)) (show n_nu (τ86.2.1 63) from by (first | exact NU | (rw [g63_τ86]; exact n_nu_s NU (by omega) (by omega)) | fail))
        ·
          refine ⟨(show 0 ≤ ((-1) - x64) ∧ ((-1) - x64) < 20001 from by (first | omega | (simp only [st_s] <;> omega) | assumption | omega | fail)), ?_⟩
          intro x90 r_x90 e_x90
          have b_x90 : (-2147483648) ≤ x90 ∧ x90 ≤ 2147483647 := by rw [e_x90]; exact hT.2 63 _
          have n90 := i226_8 (-1 - x64)
          refine ⟨_, K_X13_putNumber hT (show 0 ≤ x90 from by (first | omega | (simp only [st_s] <;> omega) | assumption | omega | fail)) (show x90 ≤ 1000000 from by (first | omega | (simp only [st_s] <;> omega) | assumption | omega | fail)), ?_⟩
          intro τ93 hn_τ93 hf_τ93 hq
          replace hT := hq
          have w5_τ93 : τ93.1 5 = τ_226.1 5 := hf_τ93.1 5 (by decide)
          have w36_τ93 : τ93.1 36 = τ_226.1 36 := hf_τ93.1 36 (by decide)
          have w38_τ93 : τ93.1 38 = τ_226.1 38 := hf_τ93.1 38 (by decide)
          have w43_τ93 : τ93.1 43 = τ_226.1 43 := hf_τ93.1 43 (by decide)
          have w44_τ93 : τ93.1 44 = τ_226.1 44 := hf_τ93.1 44 (by decide)
          have g13_τ93 : τ93.2.1 13 = τ_226.2.1 13 := hf_τ93.2.1 13 (by decide)
          have g19_τ93 : τ93.2.1 19 = τ_226.2.1 19 := hf_τ93.2.1 19 (by decide)
          have g25_τ93 : τ93.2.1 25 = τ_226.2.1 25 := hf_τ93.2.1 25 (by decide)
          have g26_τ93 : τ93.2.1 26 = τ_226.2.1 26 := hf_τ93.2.1 26 (by decide)
          have g27_τ93 : τ93.2.1 27 = τ_226.2.1 27 := hf_τ93.2.1 27 (by decide)
          have g56_τ93 : τ93.2.1 56 = τ_226.2.1 56 := hf_τ93.2.1 56 (by decide)
          have g57_τ93 : τ93.2.1 57 = τ_226.2.1 57 := hf_τ93.2.1 57 (by decide)
          have g58_τ93 : τ93.2.1 58 = τ_226.2.1 58 := hf_τ93.2.1 58 (by decide)
          have g63_τ93 : τ93.2.1 63 = τ_226.2.1 63 := hf_τ93.2.1 63 (by decide)
          have g67_τ93 : τ93.2.1 67 = τ_226.2.1 67 := hf_τ93.2.1 67 (by decide)
          have g68_τ93 : τ93.2.1 68 = τ_226.2.1 68 := hf_τ93.2.1 68 (by decide)
          have g70_τ93 : τ93.2.1 70 = τ_226.2.1 70 := hf_τ93.2.1 70 (by decide)
          have W5 : τ93.1 5 = σ.1 5 := by first | exact w5_τ93.trans W5 | omega
          have G13 : τ93.2.1 13 = σ.2.1 13 := (g13_τ93).trans G13
          have G19 : τ93.2.1 19 = σ.2.1 19 := (g19_τ93).trans G19
          have G25 : τ93.2.1 25 = σ.2.1 25 := (g25_τ93).trans G25
          have G26 : τ93.2.1 26 = σ.2.1 26 := (g26_τ93).trans G26
          have G27 : τ93.2.1 27 = σ.2.1 27 := (g27_τ93).trans G27
          have NU : n_nu (τ93.2.1 63) := by rw [show (n_nu (τ93.2.1 63)) = (n_nu (τ_226.2.1 63)) from by rw [g63_τ93]]; exact NU
          have A13 : ∀ j, 0 ≤ τ93.2.1 13 j ∧ τ93.2.1 13 j ≤ 4 := fun j => hT.2 13 j
          have A19 : ∀ j, 0 ≤ τ93.2.1 19 j ∧ τ93.2.1 19 j ≤ 60 := fun j => hT.2 19 j
          have A25 : ∀ j, 0 ≤ τ93.2.1 25 j ∧ τ93.2.1 25 j ≤ 20000 := fun j => hT.2 25 j
          have A26 : ∀ j, 0 ≤ τ93.2.1 26 j ∧ τ93.2.1 26 j ≤ 20000 := fun j => hT.2 26 j
          have A27 : ∀ j, (-300) ≤ τ93.2.1 27 j ∧ τ93.2.1 27 j ≤ 1499 := fun j => hT.2 27 j
          have A56 : ∀ j, 0 ≤ τ93.2.1 56 j ∧ τ93.2.1 56 j ≤ 1499 := fun j => hT.2 56 j
          have A57 : ∀ j, 0 ≤ τ93.2.1 57 j ∧ τ93.2.1 57 j ≤ 120000 := fun j => hT.2 57 j
          have A58 : ∀ j, 0 ≤ τ93.2.1 58 j ∧ τ93.2.1 58 j ≤ 20000 := fun j => hT.2 58 j
          have A63 : ∀ j, (-2147483648) ≤ τ93.2.1 63 j ∧ τ93.2.1 63 j ≤ 2147483647 := fun j => hT.2 63 j
          have A67 : ∀ j, 0 ≤ τ93.2.1 67 j ∧ τ93.2.1 67 j ≤ 1499 := fun j => hT.2 67 j
          have A68 : ∀ j, 0 ≤ τ93.2.1 68 j ∧ τ93.2.1 68 j ≤ 2000 := fun j => hT.2 68 j
          have A70 : ∀ j, (-20001) ≤ τ93.2.1 70 j ∧ τ93.2.1 70 j ≤ 20000 := fun j => hT.2 70 j
          have v5 : 0 ≤ τ93.1 5 ∧ τ93.1 5 ≤ 1500 := hT.1 5
          have v36 : 0 ≤ τ93.1 36 ∧ τ93.1 36 ≤ 20000 := hT.1 36
          have v38 : 0 ≤ τ93.1 38 ∧ τ93.1 38 ≤ 1500 := hT.1 38
          have v43 : 0 ≤ τ93.1 43 ∧ τ93.1 43 ≤ 1500 := hT.1 43
          have v44 : 0 ≤ τ93.1 44 ∧ τ93.1 44 ≤ 40000 := hT.1 44
          have yτ93 : n_Y τ93 := n_Y_h (show n_Y τ_226 from i226_6) hf_τ93 rfl rfl
          refine ⟨(⟨by (first | omega | (simp only [st_s] <;> omega) | assumption | omega | fail), by (first | omega | (simp only [st_s] <;> omega) | assumption | omega | fail)⟩ : rg (u3_226 + 1)), ?_⟩
          exact ih_226 _ _ _ (show (20002 - (u3_226 + 1) : Int) < ((m_226 : Nat) : Int) from by ((first | omega | (simp only [st_s] <;> omega) | assumption | omega | fail))) hT (show τ93.1 5 = σ.1 5 from by first | exact W5 | omega) G13 G19 G25 G26 G27 (show 0 ≤ u2_226 from by (first | omega | (simp only [st_s] <;> omega) | assumption | omega | fail)) (show u2_226 ≤ (u3_226 + 1) from by (first | omega | (simp only [st_s] <;> omega) | assumption | omega | fail)) (show (u3_226 + 1) ≤ 20001 from by (first | omega | (simp only [st_s] <;> omega) | assumption | omega | fail)) (show (τ93.1 43) ≤ 1500 from by (first | omega | (simp only [st_s] <;> omega) | assumption | omega | fail)) (show (τ93.1 38) = n1 + 1 from by (first | omega | (simp only [st_s] <;> omega) | assumption | omega | fail)) (show n_Y τ93 from by (first | exact yτ40 | exact yτ93 | exact y85 | exact yτ72 | fail)) (show (τ93.1 44) ≤ 20001 from by (first | omega | (simp only [st_s] <;> omega) | assumption | omega | fail)) (show n_nu (τ93.2.1 63) from NU)
  have l_180 : ∀ (m_180 : Nat) (u2_180 : Int) (τ_180 : S0), 1501 - u2_180 < (m_180 : Int) → (m_T τ_180) → (τ_180.1 5 = σ.1 5) → (τ_180.2.1 13 = σ.2.1 13) → (τ_180.2.1 19 = σ.2.1 19) → (τ_180.2.1 25 = σ.2.1 25) → (τ_180.2.1 26 = σ.2.1 26) → (τ_180.2.1 27 = σ.2.1 27) → (0 ≤ u2_180) → (u2_180 ≤ 1500) → ((τ_180.1 43) ≤ 1500) → ((τ_180.1 38) = n1 + 1) → (n_Y τ_180) → ((τ_180.1 44) ≤ 20001) → (n_nu (τ_180.2.1 63)) → P180 n1 u2_180 τ_180 := by
    intro m_180
    induction m_180 with
    | zero =>
      intro u2_180 τ_180 hm hT W5 G13 G19 G25 G26 G27 i180_1 i180_2 i180_3 i180_4 i180_5 i180_6 i180_7
      have A13 : ∀ j, 0 ≤ τ_180.2.1 13 j ∧ τ_180.2.1 13 j ≤ 4 := fun j => hT.2 13 j
      have A19 : ∀ j, 0 ≤ τ_180.2.1 19 j ∧ τ_180.2.1 19 j ≤ 60 := fun j => hT.2 19 j
      have A25 : ∀ j, 0 ≤ τ_180.2.1 25 j ∧ τ_180.2.1 25 j ≤ 20000 := fun j => hT.2 25 j
      have A26 : ∀ j, 0 ≤ τ_180.2.1 26 j ∧ τ_180.2.1 26 j ≤ 20000 := fun j => hT.2 26 j
      have A27 : ∀ j, (-300) ≤ τ_180.2.1 27 j ∧ τ_180.2.1 27 j ≤ 1499 := fun j => hT.2 27 j
      have A56 : ∀ j, 0 ≤ τ_180.2.1 56 j ∧ τ_180.2.1 56 j ≤ 1499 := fun j => hT.2 56 j
      have A57 : ∀ j, 0 ≤ τ_180.2.1 57 j ∧ τ_180.2.1 57 j ≤ 120000 := fun j => hT.2 57 j
      have A58 : ∀ j, 0 ≤ τ_180.2.1 58 j ∧ τ_180.2.1 58 j ≤ 20000 := fun j => hT.2 58 j
      have A63 : ∀ j, (-2147483648) ≤ τ_180.2.1 63 j ∧ τ_180.2.1 63 j ≤ 2147483647 := fun j => hT.2 63 j
      have A67 : ∀ j, 0 ≤ τ_180.2.1 67 j ∧ τ_180.2.1 67 j ≤ 1499 := fun j => hT.2 67 j
      have A68 : ∀ j, 0 ≤ τ_180.2.1 68 j ∧ τ_180.2.1 68 j ≤ 2000 := fun j => hT.2 68 j
      have A70 : ∀ j, (-20001) ≤ τ_180.2.1 70 j ∧ τ_180.2.1 70 j ≤ 20000 := fun j => hT.2 70 j
      have v5 : 0 ≤ τ_180.1 5 ∧ τ_180.1 5 ≤ 1500 := hT.1 5
      have v36 : 0 ≤ τ_180.1 36 ∧ τ_180.1 36 ≤ 20000 := hT.1 36
      have v38 : 0 ≤ τ_180.1 38 ∧ τ_180.1 38 ≤ 1500 := hT.1 38
      have v43 : 0 ≤ τ_180.1 43 ∧ τ_180.1 43 ≤ 1500 := hT.1 43
      have v44 : 0 ≤ τ_180.1 44 ∧ τ_180.1 44 ≤ 40000 := hT.1 44
      exfalso; (first | omega | (simp only [st_s] <;> omega) | assumption | omega | fail)
    | succ m_180 ih_180 =>
      intro u2_180 τ_180 hm_180 hT W5 G13 G19 G25 G26 G27 i180_1 i180_2 i180_3 i180_4 i180_5 i180_6 i180_7
      have A13 : ∀ j, 0 ≤ τ_180.2.1 13 j ∧ τ_180.2.1 13 j ≤ 4 := fun j => hT.2 13 j
      have A19 : ∀ j, 0 ≤ τ_180.2.1 19 j ∧ τ_180.2.1 19 j ≤ 60 := fun j => hT.2 19 j
      have A25 : ∀ j, 0 ≤ τ_180.2.1 25 j ∧ τ_180.2.1 25 j ≤ 20000 := fun j => hT.2 25 j
      have A26 : ∀ j, 0 ≤ τ_180.2.1 26 j ∧ τ_180.2.1 26 j ≤ 20000 := fun j => hT.2 26 j
      have A27 : ∀ j, (-300) ≤ τ_180.2.1 27 j ∧ τ_180.2.1 27 j ≤ 1499 := fun j => hT.2 27 j
      have A56 : ∀ j, 0 ≤ τ_180.2.1 56 j ∧ τ_180.2.1 56 j ≤ 1499 := fun j => hT.2 56 j
      have A57 : ∀ j, 0 ≤ τ_180.2.1 57 j ∧ τ_180.2.1 57 j ≤ 120000 := fun j => hT.2 57 j
      have A58 : ∀ j, 0 ≤ τ_180.2.1 58 j ∧ τ_180.2.1 58 j ≤ 20000 := fun j => hT.2 58 j
      have A63 : ∀ j, (-2147483648) ≤ τ_180.2.1 63 j ∧ τ_180.2.1 63 j ≤ 2147483647 := fun j => hT.2 63 j
      have A67 : ∀ j, 0 ≤ τ_180.2.1 67 j ∧ τ_180.2.1 67 j ≤ 1499 := fun j => hT.2 67 j
      have A68 : ∀ j, 0 ≤ τ_180.2.1 68 j ∧ τ_180.2.1 68 j ≤ 2000 := fun j => hT.2 68 j
      have A70 : ∀ j, (-20001) ≤ τ_180.2.1 70 j ∧ τ_180.2.1 70 j ≤ 20000 := fun j => hT.2 70 j
      have v5 : 0 ≤ τ_180.1 5 ∧ τ_180.1 5 ≤ 1500 := hT.1 5
      have v36 : 0 ≤ τ_180.1 36 ∧ τ_180.1 36 ≤ 20000 := hT.1 36
      have v38 : 0 ≤ τ_180.1 38 ∧ τ_180.1 38 ≤ 1500 := hT.1 38
      have v43 : 0 ≤ τ_180.1 43 ∧ τ_180.1 43 ≤ 1500 := hT.1 43
      have v44 : 0 ≤ τ_180.1 44 ∧ τ_180.1 44 ≤ 40000 := hT.1 44
      have NU : n_nu (τ_180.2.1 63) := i180_7
      refine h180 n1 u2_180 τ_180 ?_
      refine ⟨fun c31 => ?_, fun c31 => ?_⟩
      ·
        refine ⟨_, K_X13_put hT (show 0 ≤ (32 : Int) from by (first | omega | (simp only [st_s] <;> omega) | assumption | omega | fail)) (show (32 : Int) ≤ 255 from by (first | omega | (simp only [st_s] <;> omega) | assumption | omega | fail)), ?_⟩
        intro τ34 hn_τ34 hf_τ34 hq
        replace hT := hq
        have w5_τ34 : τ34.1 5 = τ_180.1 5 := hf_τ34.1 5 (by decide)
        have w36_τ34 : τ34.1 36 = τ_180.1 36 := hf_τ34.1 36 (by decide)
        have w38_τ34 : τ34.1 38 = τ_180.1 38 := hf_τ34.1 38 (by decide)
        have w43_τ34 : τ34.1 43 = τ_180.1 43 := hf_τ34.1 43 (by decide)
        have w44_τ34 : τ34.1 44 = τ_180.1 44 := hf_τ34.1 44 (by decide)
        have g13_τ34 : τ34.2.1 13 = τ_180.2.1 13 := hf_τ34.2.1 13 (by decide)
        have g19_τ34 : τ34.2.1 19 = τ_180.2.1 19 := hf_τ34.2.1 19 (by decide)
        have g25_τ34 : τ34.2.1 25 = τ_180.2.1 25 := hf_τ34.2.1 25 (by decide)
        have g26_τ34 : τ34.2.1 26 = τ_180.2.1 26 := hf_τ34.2.1 26 (by decide)
        have g27_τ34 : τ34.2.1 27 = τ_180.2.1 27 := hf_τ34.2.1 27 (by decide)
        have g56_τ34 : τ34.2.1 56 = τ_180.2.1 56 := hf_τ34.2.1 56 (by decide)
        have g57_τ34 : τ34.2.1 57 = τ_180.2.1 57 := hf_τ34.2.1 57 (by decide)
        have g58_τ34 : τ34.2.1 58 = τ_180.2.1 58 := hf_τ34.2.1 58 (by decide)
        have g63_τ34 : τ34.2.1 63 = τ_180.2.1 63 := hf_τ34.2.1 63 (by decide)
        have g67_τ34 : τ34.2.1 67 = τ_180.2.1 67 := hf_τ34.2.1 67 (by decide)
        have g68_τ34 : τ34.2.1 68 = τ_180.2.1 68 := hf_τ34.2.1 68 (by decide)
        have g70_τ34 : τ34.2.1 70 = τ_180.2.1 70 := hf_τ34.2.1 70 (by decide)
        have W5 : τ34.1 5 = σ.1 5 := by first | exact w5_τ34.trans W5 | omega
        have G13 : τ34.2.1 13 = σ.2.1 13 := (g13_τ34).trans G13
        have G19 : τ34.2.1 19 = σ.2.1 19 := (g19_τ34).trans G19
        have G25 : τ34.2.1 25 = σ.2.1 25 := (g25_τ34).trans G25
        have G26 : τ34.2.1 26 = σ.2.1 26 := (g26_τ34).trans G26
        have G27 : τ34.2.1 27 = σ.2.1 27 := (g27_τ34).trans G27
        have NU : n_nu (τ34.2.1 63) := by rw [show (n_nu (τ34.2.1 63)) = (n_nu (τ_180.2.1 63)) from by rw [g63_τ34]]; exact NU
        have A13 : ∀ j, 0 ≤ τ34.2.1 13 j ∧ τ34.2.1 13 j ≤ 4 := fun j => hT.2 13 j
        have A19 : ∀ j, 0 ≤ τ34.2.1 19 j ∧ τ34.2.1 19 j ≤ 60 := fun j => hT.2 19 j
        have A25 : ∀ j, 0 ≤ τ34.2.1 25 j ∧ τ34.2.1 25 j ≤ 20000 := fun j => hT.2 25 j
        have A26 : ∀ j, 0 ≤ τ34.2.1 26 j ∧ τ34.2.1 26 j ≤ 20000 := fun j => hT.2 26 j
        have A27 : ∀ j, (-300) ≤ τ34.2.1 27 j ∧ τ34.2.1 27 j ≤ 1499 := fun j => hT.2 27 j
        have A56 : ∀ j, 0 ≤ τ34.2.1 56 j ∧ τ34.2.1 56 j ≤ 1499 := fun j => hT.2 56 j
        have A57 : ∀ j, 0 ≤ τ34.2.1 57 j ∧ τ34.2.1 57 j ≤ 120000 := fun j => hT.2 57 j
        have A58 : ∀ j, 0 ≤ τ34.2.1 58 j ∧ τ34.2.1 58 j ≤ 20000 := fun j => hT.2 58 j
        have A63 : ∀ j, (-2147483648) ≤ τ34.2.1 63 j ∧ τ34.2.1 63 j ≤ 2147483647 := fun j => hT.2 63 j
        have A67 : ∀ j, 0 ≤ τ34.2.1 67 j ∧ τ34.2.1 67 j ≤ 1499 := fun j => hT.2 67 j
        have A68 : ∀ j, 0 ≤ τ34.2.1 68 j ∧ τ34.2.1 68 j ≤ 2000 := fun j => hT.2 68 j
        have A70 : ∀ j, (-20001) ≤ τ34.2.1 70 j ∧ τ34.2.1 70 j ≤ 20000 := fun j => hT.2 70 j
        have v5 : 0 ≤ τ34.1 5 ∧ τ34.1 5 ≤ 1500 := hT.1 5
        have v36 : 0 ≤ τ34.1 36 ∧ τ34.1 36 ≤ 20000 := hT.1 36
        have v38 : 0 ≤ τ34.1 38 ∧ τ34.1 38 ≤ 1500 := hT.1 38
        have v43 : 0 ≤ τ34.1 43 ∧ τ34.1 43 ≤ 1500 := hT.1 43
        have v44 : 0 ≤ τ34.1 44 ∧ τ34.1 44 ≤ 40000 := hT.1 44
        have yτ34 : n_Y τ34 := n_Y_h (show n_Y τ_180 from i180_5) hf_τ34 rfl rfl
        refine ⟨_, K_X13_put hT (show 0 ≤ (41 : Int) from by (first | omega | (simp only [st_s] <;> omega) | assumption | omega | fail)) (show (41 : Int) ≤ 255 from by (first | omega | (simp only [st_s] <;> omega) | assumption | omega | fail)), ?_⟩
        intro τ37 hn_τ37 hf_τ37 hq
        replace hT := hq
        have w5_τ37 : τ37.1 5 = τ34.1 5 := hf_τ37.1 5 (by decide)
        have w36_τ37 : τ37.1 36 = τ34.1 36 := hf_τ37.1 36 (by decide)
        have w38_τ37 : τ37.1 38 = τ34.1 38 := hf_τ37.1 38 (by decide)
        have w43_τ37 : τ37.1 43 = τ34.1 43 := hf_τ37.1 43 (by decide)
        have w44_τ37 : τ37.1 44 = τ34.1 44 := hf_τ37.1 44 (by decide)
        have g13_τ37 : τ37.2.1 13 = τ34.2.1 13 := hf_τ37.2.1 13 (by decide)
        have g19_τ37 : τ37.2.1 19 = τ34.2.1 19 := hf_τ37.2.1 19 (by decide)
        have g25_τ37 : τ37.2.1 25 = τ34.2.1 25 := hf_τ37.2.1 25 (by decide)
        have g26_τ37 : τ37.2.1 26 = τ34.2.1 26 := hf_τ37.2.1 26 (by decide)
        have g27_τ37 : τ37.2.1 27 = τ34.2.1 27 := hf_τ37.2.1 27 (by decide)
        have g56_τ37 : τ37.2.1 56 = τ34.2.1 56 := hf_τ37.2.1 56 (by decide)
        have g57_τ37 : τ37.2.1 57 = τ34.2.1 57 := hf_τ37.2.1 57 (by decide)
        have g58_τ37 : τ37.2.1 58 = τ34.2.1 58 := hf_τ37.2.1 58 (by decide)
        have g63_τ37 : τ37.2.1 63 = τ34.2.1 63 := hf_τ37.2.1 63 (by decide)
        have g67_τ37 : τ37.2.1 67 = τ34.2.1 67 := hf_τ37.2.1 67 (by decide)
        have g68_τ37 : τ37.2.1 68 = τ34.2.1 68 := hf_τ37.2.1 68 (by decide)
        have g70_τ37 : τ37.2.1 70 = τ34.2.1 70 := hf_τ37.2.1 70 (by decide)
        have W5 : τ37.1 5 = σ.1 5 := by first | exact w5_τ37.trans W5 | omega
        have G13 : τ37.2.1 13 = σ.2.1 13 := (g13_τ37).trans G13
        have G19 : τ37.2.1 19 = σ.2.1 19 := (g19_τ37).trans G19
        have G25 : τ37.2.1 25 = σ.2.1 25 := (g25_τ37).trans G25
        have G26 : τ37.2.1 26 = σ.2.1 26 := (g26_τ37).trans G26
        have G27 : τ37.2.1 27 = σ.2.1 27 := (g27_τ37).trans G27
        have NU : n_nu (τ37.2.1 63) := by rw [show (n_nu (τ37.2.1 63)) = (n_nu (τ34.2.1 63)) from by rw [g63_τ37]]; exact NU
        have A13 : ∀ j, 0 ≤ τ37.2.1 13 j ∧ τ37.2.1 13 j ≤ 4 := fun j => hT.2 13 j
        have A19 : ∀ j, 0 ≤ τ37.2.1 19 j ∧ τ37.2.1 19 j ≤ 60 := fun j => hT.2 19 j
        have A25 : ∀ j, 0 ≤ τ37.2.1 25 j ∧ τ37.2.1 25 j ≤ 20000 := fun j => hT.2 25 j
        have A26 : ∀ j, 0 ≤ τ37.2.1 26 j ∧ τ37.2.1 26 j ≤ 20000 := fun j => hT.2 26 j
        have A27 : ∀ j, (-300) ≤ τ37.2.1 27 j ∧ τ37.2.1 27 j ≤ 1499 := fun j => hT.2 27 j
        have A56 : ∀ j, 0 ≤ τ37.2.1 56 j ∧ τ37.2.1 56 j ≤ 1499 := fun j => hT.2 56 j
        have A57 : ∀ j, 0 ≤ τ37.2.1 57 j ∧ τ37.2.1 57 j ≤ 120000 := fun j => hT.2 57 j
        have A58 : ∀ j, 0 ≤ τ37.2.1 58 j ∧ τ37.2.1 58 j ≤ 20000 := fun j => hT.2 58 j
        have A63 : ∀ j, (-2147483648) ≤ τ37.2.1 63 j ∧ τ37.2.1 63 j ≤ 2147483647 := fun j => hT.2 63 j
        have A67 : ∀ j, 0 ≤ τ37.2.1 67 j ∧ τ37.2.1 67 j ≤ 1499 := fun j => hT.2 67 j
        have A68 : ∀ j, 0 ≤ τ37.2.1 68 j ∧ τ37.2.1 68 j ≤ 2000 := fun j => hT.2 68 j
        have A70 : ∀ j, (-20001) ≤ τ37.2.1 70 j ∧ τ37.2.1 70 j ≤ 20000 := fun j => hT.2 70 j
        have v5 : 0 ≤ τ37.1 5 ∧ τ37.1 5 ≤ 1500 := hT.1 5
        have v36 : 0 ≤ τ37.1 36 ∧ τ37.1 36 ≤ 20000 := hT.1 36
        have v38 : 0 ≤ τ37.1 38 ∧ τ37.1 38 ≤ 1500 := hT.1 38
        have v43 : 0 ≤ τ37.1 43 ∧ τ37.1 43 ≤ 1500 := hT.1 43
        have v44 : 0 ≤ τ37.1 44 ∧ τ37.1 44 ≤ 40000 := hT.1 44
        have yτ37 : n_Y τ37 := n_Y_h (show n_Y τ34 from yτ34) hf_τ37 rfl rfl
        refine ⟨_, K_X13_put hT (show 0 ≤ (32 : Int) from by (first | omega | (simp only [st_s] <;> omega) | assumption | omega | fail)) (show (32 : Int) ≤ 255 from by (first | omega | (simp only [st_s] <;> omega) | assumption | omega | fail)), ?_⟩
        intro τ40 hn_τ40 hf_τ40 hq
        replace hT := hq
        have w5_τ40 : τ40.1 5 = τ37.1 5 := hf_τ40.1 5 (by decide)
        have w36_τ40 : τ40.1 36 = τ37.1 36 := hf_τ40.1 36 (by decide)
        have w38_τ40 : τ40.1 38 = τ37.1 38 := hf_τ40.1 38 (by decide)
        have w43_τ40 : τ40.1 43 = τ37.1 43 := hf_τ40.1 43 (by decide)
        have w44_τ40 : τ40.1 44 = τ37.1 44 := hf_τ40.1 44 (by decide)
        have g13_τ40 : τ40.2.1 13 = τ37.2.1 13 := hf_τ40.2.1 13 (by decide)
        have g19_τ40 : τ40.2.1 19 = τ37.2.1 19 := hf_τ40.2.1 19 (by decide)
        have g25_τ40 : τ40.2.1 25 = τ37.2.1 25 := hf_τ40.2.1 25 (by decide)
        have g26_τ40 : τ40.2.1 26 = τ37.2.1 26 := hf_τ40.2.1 26 (by decide)
        have g27_τ40 : τ40.2.1 27 = τ37.2.1 27 := hf_τ40.2.1 27 (by decide)
        have g56_τ40 : τ40.2.1 56 = τ37.2.1 56 := hf_τ40.2.1 56 (by decide)
        have g57_τ40 : τ40.2.1 57 = τ37.2.1 57 := hf_τ40.2.1 57 (by decide)
        have g58_τ40 : τ40.2.1 58 = τ37.2.1 58 := hf_τ40.2.1 58 (by decide)
        have g63_τ40 : τ40.2.1 63 = τ37.2.1 63 := hf_τ40.2.1 63 (by decide)
        have g67_τ40 : τ40.2.1 67 = τ37.2.1 67 := hf_τ40.2.1 67 (by decide)
        have g68_τ40 : τ40.2.1 68 = τ37.2.1 68 := hf_τ40.2.1 68 (by decide)
        have g70_τ40 : τ40.2.1 70 = τ37.2.1 70 := hf_τ40.2.1 70 (by decide)
        have W5 : τ40.1 5 = σ.1 5 := by first | exact w5_τ40.trans W5 | omega
        have G13 : τ40.2.1 13 = σ.2.1 13 := (g13_τ40).trans G13
        have G19 : τ40.2.1 19 = σ.2.1 19 := (g19_τ40).trans G19
        have G25 : τ40.2.1 25 = σ.2.1 25 := (g25_τ40).trans G25
        have G26 : τ40.2.1 26 = σ.2.1 26 := (g26_τ40).trans G26
        have G27 : τ40.2.1 27 = σ.2.1 27 := (g27_τ40).trans G27
        have NU : n_nu (τ40.2.1 63) := by rw [show (n_nu (τ40.2.1 63)) = (n_nu (τ37.2.1 63)) from by rw [g63_τ40]]; exact NU
        have A13 : ∀ j, 0 ≤ τ40.2.1 13 j ∧ τ40.2.1 13 j ≤ 4 := fun j => hT.2 13 j
        have A19 : ∀ j, 0 ≤ τ40.2.1 19 j ∧ τ40.2.1 19 j ≤ 60 := fun j => hT.2 19 j
        have A25 : ∀ j, 0 ≤ τ40.2.1 25 j ∧ τ40.2.1 25 j ≤ 20000 := fun j => hT.2 25 j
        have A26 : ∀ j, 0 ≤ τ40.2.1 26 j ∧ τ40.2.1 26 j ≤ 20000 := fun j => hT.2 26 j
        have A27 : ∀ j, (-300) ≤ τ40.2.1 27 j ∧ τ40.2.1 27 j ≤ 1499 := fun j => hT.2 27 j
        have A56 : ∀ j, 0 ≤ τ40.2.1 56 j ∧ τ40.2.1 56 j ≤ 1499 := fun j => hT.2 56 j
        have A57 : ∀ j, 0 ≤ τ40.2.1 57 j ∧ τ40.2.1 57 j ≤ 120000 := fun j => hT.2 57 j
        have A58 : ∀ j, 0 ≤ τ40.2.1 58 j ∧ τ40.2.1 58 j ≤ 20000 := fun j => hT.2 58 j
        have A63 : ∀ j, (-2147483648) ≤ τ40.2.1 63 j ∧ τ40.2.1 63 j ≤ 2147483647 := fun j => hT.2 63 j
        have A67 : ∀ j, 0 ≤ τ40.2.1 67 j ∧ τ40.2.1 67 j ≤ 1499 := fun j => hT.2 67 j
        have A68 : ∀ j, 0 ≤ τ40.2.1 68 j ∧ τ40.2.1 68 j ≤ 2000 := fun j => hT.2 68 j
        have A70 : ∀ j, (-20001) ≤ τ40.2.1 70 j ∧ τ40.2.1 70 j ≤ 20000 := fun j => hT.2 70 j
        have v5 : 0 ≤ τ40.1 5 ∧ τ40.1 5 ≤ 1500 := hT.1 5
        have v36 : 0 ≤ τ40.1 36 ∧ τ40.1 36 ≤ 20000 := hT.1 36
        have v38 : 0 ≤ τ40.1 38 ∧ τ40.1 38 ≤ 1500 := hT.1 38
        have v43 : 0 ≤ τ40.1 43 ∧ τ40.1 43 ≤ 1500 := hT.1 43
        have v44 : 0 ≤ τ40.1 44 ∧ τ40.1 44 ≤ 40000 := hT.1 44
        have yτ40 : n_Y τ40 := n_Y_h (show n_Y τ37 from yτ37) hf_τ40 rfl rfl
        exact l_226 ((20002 - 0 : Int).toNat + 1) _ _ _ (show (20002 - 0 : Int) < (((20002 - 0 : Int).toNat + 1 : Nat) : Int) from by ((first | omega | (simp only [st_s] <;> omega) | assumption | omega | fail))) hT (show τ40.1 5 = σ.1 5 from by first | exact W5 | omega) G13 G19 G25 G26 G27 (show 0 ≤ 0 from by (first | omega | (simp only [st_s] <;> omega) | assumption | omega | fail)) (show 0 ≤ 0 from by (first | omega | (simp only [st_s] <;> omega) | assumption | omega | fail)) (show 0 ≤ 20001 from by (first | omega | (simp only [st_s] <;> omega) | assumption | omega | fail)) (show (τ40.1 43) ≤ 1500 from by (first | omega | (simp only [st_s] <;> omega) | assumption | omega | fail)) (show (τ40.1 38) = n1 + 1 from by (first | omega | (simp only [st_s] <;> omega) | assumption | omega | fail)) (show n_Y τ40 from by (first | exact yτ40 | exact yτ93 | exact y85 | exact yτ72 | fail)) (show (τ40.1 44) ≤ 20001 from by (first | omega | (simp only [st_s] <;> omega) | assumption | omega | fail)) (show n_nu (τ40.2.1 63) from NU)
      ·
        refine ⟨(show 0 ≤ u2_180 ∧ u2_180 < 1501 from by (first | omega | (simp only [st_s] <;> omega) | assumption | omega | fail)), ?_⟩
        intro x42 r_x42 e_x42
        have b_x42 : 0 ≤ x42 ∧ x42 ≤ 1499 := by rw [e_x42]; exact hT.2 67 _
        refine ⟨_, K_X13_putLabel hT (show 0 ≤ x42 from by (first | omega | (simp only [st_s] <;> omega) | assumption | omega | fail)) (show x42 < 1500 from by (first | omega | (simp only [st_s] <;> omega) | assumption | omega | fail)), ?_⟩
        intro τ45 hn_τ45 hf_τ45 hq
        replace hT := hq
        have w5_τ45 : τ45.1 5 = τ_180.1 5 := hf_τ45.1 5 (by decide)
        have w36_τ45 : τ45.1 36 = τ_180.1 36 := hf_τ45.1 36 (by decide)
        have w38_τ45 : τ45.1 38 = τ_180.1 38 := hf_τ45.1 38 (by decide)
        have w43_τ45 : τ45.1 43 = τ_180.1 43 := hf_τ45.1 43 (by decide)
        have w44_τ45 : τ45.1 44 = τ_180.1 44 := hf_τ45.1 44 (by decide)
        have g13_τ45 : τ45.2.1 13 = τ_180.2.1 13 := hf_τ45.2.1 13 (by decide)
        have g19_τ45 : τ45.2.1 19 = τ_180.2.1 19 := hf_τ45.2.1 19 (by decide)
        have g25_τ45 : τ45.2.1 25 = τ_180.2.1 25 := hf_τ45.2.1 25 (by decide)
        have g26_τ45 : τ45.2.1 26 = τ_180.2.1 26 := hf_τ45.2.1 26 (by decide)
        have g27_τ45 : τ45.2.1 27 = τ_180.2.1 27 := hf_τ45.2.1 27 (by decide)
        have g56_τ45 : τ45.2.1 56 = τ_180.2.1 56 := hf_τ45.2.1 56 (by decide)
        have g57_τ45 : τ45.2.1 57 = τ_180.2.1 57 := hf_τ45.2.1 57 (by decide)
        have g58_τ45 : τ45.2.1 58 = τ_180.2.1 58 := hf_τ45.2.1 58 (by decide)
        have g63_τ45 : τ45.2.1 63 = τ_180.2.1 63 := hf_τ45.2.1 63 (by decide)
        have g67_τ45 : τ45.2.1 67 = τ_180.2.1 67 := hf_τ45.2.1 67 (by decide)
        have g68_τ45 : τ45.2.1 68 = τ_180.2.1 68 := hf_τ45.2.1 68 (by decide)
        have g70_τ45 : τ45.2.1 70 = τ_180.2.1 70 := hf_τ45.2.1 70 (by decide)
        have W5 : τ45.1 5 = σ.1 5 := by first | exact w5_τ45.trans W5 | omega
        have G13 : τ45.2.1 13 = σ.2.1 13 := (g13_τ45).trans G13
        have G19 : τ45.2.1 19 = σ.2.1 19 := (g19_τ45).trans G19
        have G25 : τ45.2.1 25 = σ.2.1 25 := (g25_τ45).trans G25
        have G26 : τ45.2.1 26 = σ.2.1 26 := (g26_τ45).trans G26
        have G27 : τ45.2.1 27 = σ.2.1 27 := (g27_τ45).trans G27
        have NU : n_nu (τ45.2.1 63) := by rw [show (n_nu (τ45.2.1 63)) = (n_nu (τ_180.2.1 63)) from by rw [g63_τ45]]; exact NU
        have A13 : ∀ j, 0 ≤ τ45.2.1 13 j ∧ τ45.2.1 13 j ≤ 4 := fun j => hT.2 13 j
        have A19 : ∀ j, 0 ≤ τ45.2.1 19 j ∧ τ45.2.1 19 j ≤ 60 := fun j => hT.2 19 j
        have A25 : ∀ j, 0 ≤ τ45.2.1 25 j ∧ τ45.2.1 25 j ≤ 20000 := fun j => hT.2 25 j
        have A26 : ∀ j, 0 ≤ τ45.2.1 26 j ∧ τ45.2.1 26 j ≤ 20000 := fun j => hT.2 26 j
        have A27 : ∀ j, (-300) ≤ τ45.2.1 27 j ∧ τ45.2.1 27 j ≤ 1499 := fun j => hT.2 27 j
        have A56 : ∀ j, 0 ≤ τ45.2.1 56 j ∧ τ45.2.1 56 j ≤ 1499 := fun j => hT.2 56 j
        have A57 : ∀ j, 0 ≤ τ45.2.1 57 j ∧ τ45.2.1 57 j ≤ 120000 := fun j => hT.2 57 j
        have A58 : ∀ j, 0 ≤ τ45.2.1 58 j ∧ τ45.2.1 58 j ≤ 20000 := fun j => hT.2 58 j
        have A63 : ∀ j, (-2147483648) ≤ τ45.2.1 63 j ∧ τ45.2.1 63 j ≤ 2147483647 := fun j => hT.2 63 j
        have A67 : ∀ j, 0 ≤ τ45.2.1 67 j ∧ τ45.2.1 67 j ≤ 1499 := fun j => hT.2 67 j
        have A68 : ∀ j, 0 ≤ τ45.2.1 68 j ∧ τ45.2.1 68 j ≤ 2000 := fun j => hT.2 68 j
        have A70 : ∀ j, (-20001) ≤ τ45.2.1 70 j ∧ τ45.2.1 70 j ≤ 20000 := fun j => hT.2 70 j
        have v5 : 0 ≤ τ45.1 5 ∧ τ45.1 5 ≤ 1500 := hT.1 5
        have v36 : 0 ≤ τ45.1 36 ∧ τ45.1 36 ≤ 20000 := hT.1 36
        have v38 : 0 ≤ τ45.1 38 ∧ τ45.1 38 ≤ 1500 := hT.1 38
        have v43 : 0 ≤ τ45.1 43 ∧ τ45.1 43 ≤ 1500 := hT.1 43
        have v44 : 0 ≤ τ45.1 44 ∧ τ45.1 44 ≤ 40000 := hT.1 44
        have yτ45 : n_Y τ45 := n_Y_h (show n_Y τ_180 from i180_5) hf_τ45 rfl rfl
        refine ⟨(⟨by (first | omega | (simp only [st_s] <;> omega) | assumption | omega | fail), by (first | omega | (simp only [st_s] <;> omega) | assumption | omega | fail)⟩ : rg (u2_180 + 1)), ?_⟩
        exact ih_180 _ _ (show (1501 - (u2_180 + 1) : Int) < ((m_180 : Nat) : Int) from by ((first | omega | (simp only [st_s] <;> omega) | assumption | omega | fail))) hT (show τ45.1 5 = σ.1 5 from by first | exact W5 | omega) G13 G19 G25 G26 G27 (show 0 ≤ (u2_180 + 1) from by (first | omega | (simp only [st_s] <;> omega) | assumption | omega | fail)) (show (u2_180 + 1) ≤ 1500 from by (first | omega | (simp only [st_s] <;> omega) | assumption | omega | fail)) (show (τ45.1 43) ≤ 1500 from by (first | omega | (simp only [st_s] <;> omega) | assumption | omega | fail)) (show (τ45.1 38) = n1 + 1 from by (first | omega | (simp only [st_s] <;> omega) | assumption | omega | fail)) (show n_Y τ45 from by (first | exact yτ45 | exact yτ24 | fail)) (show (τ45.1 44) ≤ 20001 from by (first | omega | (simp only [st_s] <;> omega) | assumption | omega | fail)) (show n_nu (τ45.2.1 63) from NU)
  have l_82 : ∀ (m_82 : Nat) (u2_82 : Int) (τ_82 : S0), 20002 - u2_82 < (m_82 : Int) → (m_T τ_82) → (τ_82.1 5 = σ.1 5) → (τ_82.2.1 13 = σ.2.1 13) → (τ_82.2.1 19 = σ.2.1 19) → (τ_82.2.1 25 = σ.2.1 25) → (τ_82.2.1 26 = σ.2.1 26) → (τ_82.2.1 27 = σ.2.1 27) → (0 ≤ u2_82) → (u2_82 ≤ 20001) → ((τ_82.1 38) = n1 + 1) → (n_Y τ_82) → ((τ_82.1 44) ≤ 20001) → (n_nu (τ_82.2.1 63)) → (∀ k : Int, 0 ≤ k → k < (τ_82.1 44) → τ_82.2.1 70 k < (τ_82.1 36)) → ((τ_82.1 43) ≤ sm (n_ld (τ_82.2.1 68)) (σ.1 5)) → P82 n1 u2_82 τ_82 := by
    intro m_82
    induction m_82 with
    | zero =>
      intro u2_82 τ_82 hm hT W5 G13 G19 G25 G26 G27 i82_1 i82_2 i82_3 i82_4 i82_5 i82_6 i82_7 i82_8
      have A13 : ∀ j, 0 ≤ τ_82.2.1 13 j ∧ τ_82.2.1 13 j ≤ 4 := fun j => hT.2 13 j
      have A19 : ∀ j, 0 ≤ τ_82.2.1 19 j ∧ τ_82.2.1 19 j ≤ 60 := fun j => hT.2 19 j
      have A25 : ∀ j, 0 ≤ τ_82.2.1 25 j ∧ τ_82.2.1 25 j ≤ 20000 := fun j => hT.2 25 j
      have A26 : ∀ j, 0 ≤ τ_82.2.1 26 j ∧ τ_82.2.1 26 j ≤ 20000 := fun j => hT.2 26 j
      have A27 : ∀ j, (-300) ≤ τ_82.2.1 27 j ∧ τ_82.2.1 27 j ≤ 1499 := fun j => hT.2 27 j
      have A56 : ∀ j, 0 ≤ τ_82.2.1 56 j ∧ τ_82.2.1 56 j ≤ 1499 := fun j => hT.2 56 j
      have A57 : ∀ j, 0 ≤ τ_82.2.1 57 j ∧ τ_82.2.1 57 j ≤ 120000 := fun j => hT.2 57 j
      have A58 : ∀ j, 0 ≤ τ_82.2.1 58 j ∧ τ_82.2.1 58 j ≤ 20000 := fun j => hT.2 58 j
      have A63 : ∀ j, (-2147483648) ≤ τ_82.2.1 63 j ∧ τ_82.2.1 63 j ≤ 2147483647 := fun j => hT.2 63 j
      have A67 : ∀ j, 0 ≤ τ_82.2.1 67 j ∧ τ_82.2.1 67 j ≤ 1499 := fun j => hT.2 67 j
      have A68 : ∀ j, 0 ≤ τ_82.2.1 68 j ∧ τ_82.2.1 68 j ≤ 2000 := fun j => hT.2 68 j
      have A70 : ∀ j, (-20001) ≤ τ_82.2.1 70 j ∧ τ_82.2.1 70 j ≤ 20000 := fun j => hT.2 70 j
      have v5 : 0 ≤ τ_82.1 5 ∧ τ_82.1 5 ≤ 1500 := hT.1 5
      have v36 : 0 ≤ τ_82.1 36 ∧ τ_82.1 36 ≤ 20000 := hT.1 36
      have v38 : 0 ≤ τ_82.1 38 ∧ τ_82.1 38 ≤ 1500 := hT.1 38
      have v43 : 0 ≤ τ_82.1 43 ∧ τ_82.1 43 ≤ 1500 := hT.1 43
      have v44 : 0 ≤ τ_82.1 44 ∧ τ_82.1 44 ≤ 40000 := hT.1 44
      exfalso; (first | omega | (simp only [st_s] <;> omega) | assumption | omega | fail)
    | succ m_82 ih_82 =>
      intro u2_82 τ_82 hm_82 hT W5 G13 G19 G25 G26 G27 i82_1 i82_2 i82_3 i82_4 i82_5 i82_6 i82_7 i82_8
      have A13 : ∀ j, 0 ≤ τ_82.2.1 13 j ∧ τ_82.2.1 13 j ≤ 4 := fun j => hT.2 13 j
      have A19 : ∀ j, 0 ≤ τ_82.2.1 19 j ∧ τ_82.2.1 19 j ≤ 60 := fun j => hT.2 19 j
      have A25 : ∀ j, 0 ≤ τ_82.2.1 25 j ∧ τ_82.2.1 25 j ≤ 20000 := fun j => hT.2 25 j
      have A26 : ∀ j, 0 ≤ τ_82.2.1 26 j ∧ τ_82.2.1 26 j ≤ 20000 := fun j => hT.2 26 j
      have A27 : ∀ j, (-300) ≤ τ_82.2.1 27 j ∧ τ_82.2.1 27 j ≤ 1499 := fun j => hT.2 27 j
      have A56 : ∀ j, 0 ≤ τ_82.2.1 56 j ∧ τ_82.2.1 56 j ≤ 1499 := fun j => hT.2 56 j
      have A57 : ∀ j, 0 ≤ τ_82.2.1 57 j ∧ τ_82.2.1 57 j ≤ 120000 := fun j => hT.2 57 j
      have A58 : ∀ j, 0 ≤ τ_82.2.1 58 j ∧ τ_82.2.1 58 j ≤ 20000 := fun j => hT.2 58 j
      have A63 : ∀ j, (-2147483648) ≤ τ_82.2.1 63 j ∧ τ_82.2.1 63 j ≤ 2147483647 := fun j => hT.2 63 j
      have A67 : ∀ j, 0 ≤ τ_82.2.1 67 j ∧ τ_82.2.1 67 j ≤ 1499 := fun j => hT.2 67 j
      have A68 : ∀ j, 0 ≤ τ_82.2.1 68 j ∧ τ_82.2.1 68 j ≤ 2000 := fun j => hT.2 68 j
      have A70 : ∀ j, (-20001) ≤ τ_82.2.1 70 j ∧ τ_82.2.1 70 j ≤ 20000 := fun j => hT.2 70 j
      have v5 : 0 ≤ τ_82.1 5 ∧ τ_82.1 5 ≤ 1500 := hT.1 5
      have v36 : 0 ≤ τ_82.1 36 ∧ τ_82.1 36 ≤ 20000 := hT.1 36
      have v38 : 0 ≤ τ_82.1 38 ∧ τ_82.1 38 ≤ 1500 := hT.1 38
      have v43 : 0 ≤ τ_82.1 43 ∧ τ_82.1 43 ≤ 1500 := hT.1 43
      have v44 : 0 ≤ τ_82.1 44 ∧ τ_82.1 44 ≤ 40000 := hT.1 44
      have NU : n_nu (τ_82.2.1 63) := i82_6
      have lb := n_ld_b (f := τ_82.2.1 68) (n := σ.1 5) (by omega)
      refine h82 n1 u2_82 τ_82 ?_
      refine ⟨fun c21 => ?_, fun c21 => ?_⟩
      ·
        refine ⟨_, K_X13_put hT (show 0 ≤ (40 : Int) from by (first | omega | (simp only [st_s] <;> omega) | assumption | omega | fail)) (show (40 : Int) ≤ 255 from by (first | omega | (simp only [st_s] <;> omega) | assumption | omega | fail)), ?_⟩
        intro τ24 hn_τ24 hf_τ24 hq
        replace hT := hq
        have w5_τ24 : τ24.1 5 = τ_82.1 5 := hf_τ24.1 5 (by decide)
        have w36_τ24 : τ24.1 36 = τ_82.1 36 := hf_τ24.1 36 (by decide)
        have w38_τ24 : τ24.1 38 = τ_82.1 38 := hf_τ24.1 38 (by decide)
        have w43_τ24 : τ24.1 43 = τ_82.1 43 := hf_τ24.1 43 (by decide)
        have w44_τ24 : τ24.1 44 = τ_82.1 44 := hf_τ24.1 44 (by decide)
        have g13_τ24 : τ24.2.1 13 = τ_82.2.1 13 := hf_τ24.2.1 13 (by decide)
        have g19_τ24 : τ24.2.1 19 = τ_82.2.1 19 := hf_τ24.2.1 19 (by decide)
        have g25_τ24 : τ24.2.1 25 = τ_82.2.1 25 := hf_τ24.2.1 25 (by decide)
        have g26_τ24 : τ24.2.1 26 = τ_82.2.1 26 := hf_τ24.2.1 26 (by decide)
        have g27_τ24 : τ24.2.1 27 = τ_82.2.1 27 := hf_τ24.2.1 27 (by decide)
        have g56_τ24 : τ24.2.1 56 = τ_82.2.1 56 := hf_τ24.2.1 56 (by decide)
        have g57_τ24 : τ24.2.1 57 = τ_82.2.1 57 := hf_τ24.2.1 57 (by decide)
        have g58_τ24 : τ24.2.1 58 = τ_82.2.1 58 := hf_τ24.2.1 58 (by decide)
        have g63_τ24 : τ24.2.1 63 = τ_82.2.1 63 := hf_τ24.2.1 63 (by decide)
        have g67_τ24 : τ24.2.1 67 = τ_82.2.1 67 := hf_τ24.2.1 67 (by decide)
        have g68_τ24 : τ24.2.1 68 = τ_82.2.1 68 := hf_τ24.2.1 68 (by decide)
        have g70_τ24 : τ24.2.1 70 = τ_82.2.1 70 := hf_τ24.2.1 70 (by decide)
        have W5 : τ24.1 5 = σ.1 5 := by first | exact w5_τ24.trans W5 | omega
        have G13 : τ24.2.1 13 = σ.2.1 13 := (g13_τ24).trans G13
        have G19 : τ24.2.1 19 = σ.2.1 19 := (g19_τ24).trans G19
        have G25 : τ24.2.1 25 = σ.2.1 25 := (g25_τ24).trans G25
        have G26 : τ24.2.1 26 = σ.2.1 26 := (g26_τ24).trans G26
        have G27 : τ24.2.1 27 = σ.2.1 27 := (g27_τ24).trans G27
        have NU : n_nu (τ24.2.1 63) := by rw [show (n_nu (τ24.2.1 63)) = (n_nu (τ_82.2.1 63)) from by rw [g63_τ24]]; exact NU
        have A13 : ∀ j, 0 ≤ τ24.2.1 13 j ∧ τ24.2.1 13 j ≤ 4 := fun j => hT.2 13 j
        have A19 : ∀ j, 0 ≤ τ24.2.1 19 j ∧ τ24.2.1 19 j ≤ 60 := fun j => hT.2 19 j
        have A25 : ∀ j, 0 ≤ τ24.2.1 25 j ∧ τ24.2.1 25 j ≤ 20000 := fun j => hT.2 25 j
        have A26 : ∀ j, 0 ≤ τ24.2.1 26 j ∧ τ24.2.1 26 j ≤ 20000 := fun j => hT.2 26 j
        have A27 : ∀ j, (-300) ≤ τ24.2.1 27 j ∧ τ24.2.1 27 j ≤ 1499 := fun j => hT.2 27 j
        have A56 : ∀ j, 0 ≤ τ24.2.1 56 j ∧ τ24.2.1 56 j ≤ 1499 := fun j => hT.2 56 j
        have A57 : ∀ j, 0 ≤ τ24.2.1 57 j ∧ τ24.2.1 57 j ≤ 120000 := fun j => hT.2 57 j
        have A58 : ∀ j, 0 ≤ τ24.2.1 58 j ∧ τ24.2.1 58 j ≤ 20000 := fun j => hT.2 58 j
        have A63 : ∀ j, (-2147483648) ≤ τ24.2.1 63 j ∧ τ24.2.1 63 j ≤ 2147483647 := fun j => hT.2 63 j
        have A67 : ∀ j, 0 ≤ τ24.2.1 67 j ∧ τ24.2.1 67 j ≤ 1499 := fun j => hT.2 67 j
        have A68 : ∀ j, 0 ≤ τ24.2.1 68 j ∧ τ24.2.1 68 j ≤ 2000 := fun j => hT.2 68 j
        have A70 : ∀ j, (-20001) ≤ τ24.2.1 70 j ∧ τ24.2.1 70 j ≤ 20000 := fun j => hT.2 70 j
        have v5 : 0 ≤ τ24.1 5 ∧ τ24.1 5 ≤ 1500 := hT.1 5
        have v36 : 0 ≤ τ24.1 36 ∧ τ24.1 36 ≤ 20000 := hT.1 36
        have v38 : 0 ≤ τ24.1 38 ∧ τ24.1 38 ≤ 1500 := hT.1 38
        have v43 : 0 ≤ τ24.1 43 ∧ τ24.1 43 ≤ 1500 := hT.1 43
        have v44 : 0 ≤ τ24.1 44 ∧ τ24.1 44 ≤ 40000 := hT.1 44
        have yτ24 : n_Y τ24 := n_Y_h (show n_Y τ_82 from i82_4) hf_τ24 rfl rfl
        exact l_180 ((1501 - 0 : Int).toNat + 1) _ _ (show (1501 - 0 : Int) < (((1501 - 0 : Int).toNat + 1 : Nat) : Int) from by ((first | omega | (simp only [st_s] <;> omega) | assumption | omega | fail))) hT (show τ24.1 5 = σ.1 5 from by first | exact W5 | omega) G13 G19 G25 G26 G27 (show 0 ≤ 0 from by (first | omega | (simp only [st_s] <;> omega) | assumption | omega | fail)) (show 0 ≤ 1500 from by (first | omega | (simp only [st_s] <;> omega) | assumption | omega | fail)) (show (τ24.1 43) ≤ 1500 from by (first | omega | (simp only [st_s] <;> omega) | assumption | omega | fail)) (show (τ24.1 38) = n1 + 1 from by (first | omega | (simp only [st_s] <;> omega) | assumption | omega | fail)) (show n_Y τ24 from by (first | exact yτ45 | exact yτ24 | fail)) (show (τ24.1 44) ≤ 20001 from by (first | omega | (simp only [st_s] <;> omega) | assumption | omega | fail)) (show n_nu (τ24.2.1 63) from NU)
      ·
        refine ⟨(show 0 ≤ u2_82 ∧ u2_82 < 40002 from by (first | omega | (simp only [st_s] <;> omega) | assumption | omega | fail)), ?_⟩
        intro x26 r_x26 e_x26
        have b_x26 : (-20001) ≤ x26 ∧ x26 ≤ 20000 := by rw [e_x26]; exact hT.2 70 _
        have t26 := i82_7 u2_82 (by omega) (by omega)
        rw [← e_x26] at t26
        refine ⟨fun c27 => ?_, fun c27 => ?_⟩
        ·
          have t27 := i82_7 u2_82 (by omega) (by omega)
          obtain ⟨yi, ⟨yi0, yi1⟩, yy⟩ := n_Y_YY i82_4 i82_3 p1 (by omega)
          intro x28 r_x28 e_x28
          have b_x28 : (-20001) ≤ x28 ∧ x28 ≤ 20000 := by rw [e_x28]; exact hT.2 70 _
          obtain ⟨yi, ⟨yi0, yi1⟩, yy⟩ := n_Y_YY i82_4 i82_3 p1 (by omega)
          refine ⟨(show 0 ≤ x28 ∧ x28 < 20001 from by (first | omega | (simp only [st_s] <;> omega) | assumption | omega | fail)), ?_⟩
          intro x30 r_x30 e_x30
          have b_x30 : 0 ≤ x30 ∧ x30 ≤ 1499 := by rw [e_x30]; exact hT.2 56 _
          have yr := (yy x28 (by omega) (by omega)).1
          rw [← e_x30] at yr
          refine h114 _ _ _ _ ?_
          refine ⟨fun c47 => ?_, fun c47 => ?_⟩
          ·
            refine ⟨(⟨by (first | omega | (simp only [st_s] <;> omega) | assumption | omega | fail), by (first | omega | (simp only [st_s] <;> omega) | assumption | omega | fail)⟩ : rg (u2_82 + 1)), ?_⟩
            exact ih_82 _ _ (show (20002 - (u2_82 + 1) : Int) < ((m_82 : Nat) : Int) from by ((first | omega | (simp only [st_s] <;> omega) | assumption | omega | fail))) hT (show τ_82.1 5 = σ.1 5 from by first | exact W5 | omega) G13 G19 G25 G26 G27 (show 0 ≤ (u2_82 + 1) from by (first | omega | (simp only [st_s] <;> omega) | assumption | omega | fail)) (show (u2_82 + 1) ≤ 20001 from by (first | omega | (simp only [st_s] <;> omega) | assumption | omega | fail)) (show (τ_82.1 38) = n1 + 1 from by (first | omega | (simp only [st_s] <;> omega) | assumption | omega | fail)) (show n_Y τ_82 from by (first | omega | (simp only [st_s] <;> omega) | assumption | omega | fail)) (show (τ_82.1 44) ≤ 20001 from by (first | omega | (simp only [st_s] <;> omega) | assumption | omega | fail)) (show n_nu (τ_82.2.1 63) from NU) (show ∀ k : Int, 0 ≤ k → k < (τ_82.1 44) → τ_82.2.1 70 k < (τ_82.1 36) from by (first | omega | (simp only [st_s] <;> omega) | assumption | omega | fail)) (show (τ_82.1 43) ≤ sm (n_ld (τ_82.2.1 68)) (σ.1 5) from by (first | exact i82_8 | omega | (have w := ls (by assumption) (x56 + (τ_82.1 43 + 1)) (by omega); omega) | fail))
          ·
            refine ⟨(show 0 ≤ x30 ∧ x30 < 1501 from by (first | omega | (simp only [st_s] <;> omega) | assumption | omega | fail)), ?_⟩
            intro x50 r_x50 e_x50
            have b_x50 : 0 ≤ x50 ∧ x50 ≤ 2000 := by rw [e_x50]; exact hT.2 68 _
            refine ⟨fun c51 => ?_, fun c51 => ?_⟩
            ·
              have ls : x50 = 0 → ∀ x : Int, ¬ x = 0 → sm (n_ld (τ_82.2.1 68)) (σ.1 5) + 1 ≤ sm (n_ld (st (τ_82.2.1 68) x30 x)) (σ.1 5) := fun z x x0 => by (first | (exfalso; omega) | exact n_ld_s (by omega) (by omega) (by rw [← e_x50]; exact z) x0)
              have lb2 := n_ld_b (f := st (τ_82.2.1 68) x30 (1 : Int)) (n := σ.1 5) (by omega)
              have ls1 : x50 = 0 → sm (n_ld (τ_82.2.1 68)) (σ.1 5) + 1 ≤ sm (n_ld (st (τ_82.2.1 68) x30 (1 : Int))) (σ.1 5) := fun z => ls z (1 : Int) (by omega)
              refine ⟨(⟨by (first | omega | (simp only [st_s] <;> omega) | assumption | omega | fail), by (first | omega | (simp only [st_s] <;> omega) | assumption | omega | fail)⟩ : rg (u2_82 + 1)), ?_⟩
              exact ih_82 _ _ (show (20002 - (u2_82 + 1) : Int) < ((m_82 : Nat) : Int) from by ((first | omega | (simp only [st_s] <;> omega) | assumption | omega | fail))) hT (show τ_82.1 5 = σ.1 5 from by first | exact W5 | omega) G13 G19 G25 G26 G27 (show 0 ≤ (u2_82 + 1) from by (first | omega | (simp only [st_s] <;> omega) | assumption | omega | fail)) (show (u2_82 + 1) ≤ 20001 from by (first | omega | (simp only [st_s] <;> omega) | assumption | omega | fail)) (show (τ_82.1 38) = n1 + 1 from by (first | omega | (simp only [st_s] <;> omega) | assumption | omega | fail)) (show n_Y τ_82 from by (first | omega | (simp only [st_s] <;> omega) | assumption | omega | fail)) (show (τ_82.1 44) ≤ 20001 from by (first | omega | (simp only [st_s] <;> omega) | assumption | omega | fail)) (show n_nu (τ_82.2.1 63) from NU) (show ∀ k : Int, 0 ≤ k → k < (τ_82.1 44) → τ_82.2.1 70 k < (τ_82.1 36) from by (first | omega | (simp only [st_s] <;> omega) | assumption | omega | fail)) (show (τ_82.1 43) ≤ sm (n_ld (τ_82.2.1 68)) (σ.1 5) from by (first | exact i82_8 | omega | (have w := ls (by assumption) (x56 + (τ_82.1 43 + 1)) (by omega); omega) | fail))
            ·
              have ls : x50 = 0 → ∀ x : Int, ¬ x = 0 → sm (n_ld (τ_82.2.1 68)) (σ.1 5) + 1 ≤ sm (n_ld (st (τ_82.2.1 68) x30 x)) (σ.1 5) := fun z x x0 => by (first | (exfalso; omega) | exact n_ld_s (by omega) (by omega) (by rw [← e_x50]; exact z) x0)
              have lb2 := n_ld_b (f := st (τ_82.2.1 68) x30 (1 : Int)) (n := σ.1 5) (by omega)
              have ls1 : x50 = 0 → sm (n_ld (τ_82.2.1 68)) (σ.1 5) + 1 ≤ sm (n_ld (st (τ_82.2.1 68) x30 (1 : Int))) (σ.1 5) := fun z => ls z (1 : Int) (by omega)
              refine ⟨(show 0 ≤ τ_82.1 43 ∧ τ_82.1 43 < 1501 from by (first | omega | (simp only [st_s] <;> omega) | assumption | omega | fail)), ?_⟩
              replace hT := mT_a (k := 67) (j := (τ_82.1 43)) hT (show (0 : Int) ≤ x30 ∧ x30 ≤ 1499 from by (first | omega | (simp only [st_s] <;> omega) | assumption | omega | fail))
              refine ⟨(⟨by (first | omega | (simp only [st_s] <;> omega) | assumption | omega | fail), by (first | omega | (simp only [st_s] <;> omega) | assumption | omega | fail)⟩ : rg (τ_82.1 43 + 1)), ?_⟩
              replace hT := mT_v (i := 43) hT (show 0 ≤ (τ_82.1 43 + 1) ∧ (τ_82.1 43 + 1) ≤ 1500 from by (first | omega | (simp only [st_s] <;> omega) | assumption | omega | fail))
              refine ⟨(show 0 ≤ n1 ∧ n1 < 1501 from by (first | omega | (simp only [st_s] <;> omega) | assumption | omega | fail)), ?_⟩
              intro x56 r_x56 e_x56
              have b_x56 : 0 ≤ x56 ∧ x56 ≤ 60 := by rw [e_x56]; exact hT.2 19 _
              refine ⟨(⟨by (first | omega | (simp only [st_s] <;> omega) | assumption | omega | fail), by (first | omega | (simp only [st_s] <;> omega) | assumption | omega | fail)⟩ : rg (x56 + (τ_82.1 43 + 1))), ?_⟩
              replace hT := mT_a (k := 68) (j := x30) hT (show (0 : Int) ≤ (x56 + (τ_82.1 43 + 1)) ∧ (x56 + (τ_82.1 43 + 1)) ≤ 2000 from by (first | omega | (simp only [st_s] <;> omega) | assumption | omega | fail))
              refine ⟨(⟨by (first | omega | (simp only [st_s] <;> omega) | assumption | omega | fail), by (first | omega | (simp only [st_s] <;> omega) | assumption | omega | fail)⟩ : rg (u2_82 + 1)), ?_⟩
              exact ih_82 _ _ (show (20002 - (u2_82 + 1) : Int) < ((m_82 : Nat) : Int) from by ((first | omega | (simp only [st_s] <;> omega) | assumption | omega | fail))) hT (show τ_82.1 5 = σ.1 5 from by first | exact W5 | omega) G13 G19 G25 G26 G27 (show 0 ≤ (u2_82 + 1) from by (first | omega | (simp only [st_s] <;> omega) | assumption | omega | fail)) (show (u2_82 + 1) ≤ 20001 from by (first | omega | (simp only [st_s] <;> omega) | assumption | omega | fail)) (show (τ_82.1 38) = n1 + 1 from by (first | omega | (simp only [st_s] <;> omega) | assumption | omega | fail)) (show n_Y (s_a (s_v (s_a τ_82 67 (τ_82.1 43) x30) 43 (τ_82.1 43 + 1)) 68 x30 (x56 + (τ_82.1 43 + 1))) from by (first | omega | (simp only [st_s] <;> omega) | assumption | omega | fail)) (show (τ_82.1 44) ≤ 20001 from by (first | omega | (simp only [st_s] <;> omega) | assumption | omega | fail)) (show n_nu (τ_82.2.1 63) from NU) (show ∀ k : Int, 0 ≤ k → k < (τ_82.1 44) → τ_82.2.1 70 k < (τ_82.1 36) from by (first | omega | (simp only [st_s] <;> omega) | assumption | omega | fail)) (show ((τ_82.1 43 + 1)) ≤ sm (n_ld ((st (τ_82.2.1 68) x30 (x56 + (τ_82.1 43 + 1))))) (σ.1 5) from by (first | exact i82_8 | omega | (have w := ls (by assumption) (x56 + (τ_82.1 43 + 1)) (by omega); omega) | fail))
        ·
          have t27 := i82_7 u2_82 (by omega) (by omega)
          obtain ⟨yi, ⟨yi0, yi1⟩, yy⟩ := n_Y_YY i82_4 i82_3 p1 (by omega)
          refine h114 _ _ _ _ ?_
          refine ⟨fun c47 => ?_, fun c47 => ?_⟩
          ·
            refine ⟨(⟨by (first | omega | (simp only [st_s] <;> omega) | assumption | omega | fail), by (first | omega | (simp only [st_s] <;> omega) | assumption | omega | fail)⟩ : rg (u2_82 + 1)), ?_⟩
            exact ih_82 _ _ (show (20002 - (u2_82 + 1) : Int) < ((m_82 : Nat) : Int) from by ((first | omega | (simp only [st_s] <;> omega) | assumption | omega | fail))) hT (show τ_82.1 5 = σ.1 5 from by first | exact W5 | omega) G13 G19 G25 G26 G27 (show 0 ≤ (u2_82 + 1) from by (first | omega | (simp only [st_s] <;> omega) | assumption | omega | fail)) (show (u2_82 + 1) ≤ 20001 from by (first | omega | (simp only [st_s] <;> omega) | assumption | omega | fail)) (show (τ_82.1 38) = n1 + 1 from by (first | omega | (simp only [st_s] <;> omega) | assumption | omega | fail)) (show n_Y τ_82 from by (first | omega | (simp only [st_s] <;> omega) | assumption | omega | fail)) (show (τ_82.1 44) ≤ 20001 from by (first | omega | (simp only [st_s] <;> omega) | assumption | omega | fail)) (show n_nu (τ_82.2.1 63) from NU) (show ∀ k : Int, 0 ≤ k → k < (τ_82.1 44) → τ_82.2.1 70 k < (τ_82.1 36) from by (first | omega | (simp only [st_s] <;> omega) | assumption | omega | fail)) (show (τ_82.1 43) ≤ sm (n_ld (τ_82.2.1 68)) (σ.1 5) from by (first | exact i82_8 | omega | (have w := ls (by assumption) (x56 + (τ_82.1 43 + 1)) (by omega); omega) | fail))
          ·
            refine ⟨(show 0 ≤ (-1) ∧ (-1) < 1501 from by (first | omega | (simp only [st_s] <;> omega) | assumption | omega | fail)), ?_⟩
            intro x50 r_x50 e_x50
            have b_x50 : 0 ≤ x50 ∧ x50 ≤ 2000 := by rw [e_x50]; exact hT.2 68 _
            refine ⟨fun c51 => ?_, fun c51 => ?_⟩
            ·
              have ls : x50 = 0 → ∀ x : Int, ¬ x = 0 → sm (n_ld (τ_82.2.1 68)) (σ.1 5) + 1 ≤ sm (n_ld (st (τ_82.2.1 68) (-1) x)) (σ.1 5) := fun z x x0 => by (first | (exfalso; omega) | exact n_ld_s (by omega) (by omega) (by rw [← e_x50]; exact z) x0)
              have lb2 := n_ld_b (f := st (τ_82.2.1 68) (-1) (1 : Int)) (n := σ.1 5) (by omega)
              have ls1 : x50 = 0 → sm (n_ld (τ_82.2.1 68)) (σ.1 5) + 1 ≤ sm (n_ld (st (τ_82.2.1 68) (-1) (1 : Int))) (σ.1 5) := fun z => ls z (1 : Int) (by omega)
              refine ⟨(⟨by (first | omega | (simp only [st_s] <;> omega) | assumption | omega | fail), by (first | omega | (simp only [st_s] <;> omega) | assumption | omega | fail)⟩ : rg (u2_82 + 1)), ?_⟩
              exact ih_82 _ _ (show (20002 - (u2_82 + 1) : Int) < ((m_82 : Nat) : Int) from by ((first | omega | (simp only [st_s] <;> omega) | assumption | omega | fail))) hT (show τ_82.1 5 = σ.1 5 from by first | exact W5 | omega) G13 G19 G25 G26 G27 (show 0 ≤ (u2_82 + 1) from by (first | omega | (simp only [st_s] <;> omega) | assumption | omega | fail)) (show (u2_82 + 1) ≤ 20001 from by (first | omega | (simp only [st_s] <;> omega) | assumption | omega | fail)) (show (τ_82.1 38) = n1 + 1 from by (first | omega | (simp only [st_s] <;> omega) | assumption | omega | fail)) (show n_Y τ_82 from by (first | omega | (simp only [st_s] <;> omega) | assumption | omega | fail)) (show (τ_82.1 44) ≤ 20001 from by (first | omega | (simp only [st_s] <;> omega) | assumption | omega | fail)) (show n_nu (τ_82.2.1 63) from NU) (show ∀ k : Int, 0 ≤ k → k < (τ_82.1 44) → τ_82.2.1 70 k < (τ_82.1 36) from by (first | omega | (simp only [st_s] <;> omega) | assumption | omega | fail)) (show (τ_82.1 43) ≤ sm (n_ld (τ_82.2.1 68)) (σ.1 5) from by (first | exact i82_8 | omega | (have w := ls (by assumption) (x56 + (τ_82.1 43 + 1)) (by omega); omega) | fail))
            ·
              have ls : x50 = 0 → ∀ x : Int, ¬ x = 0 → sm (n_ld (τ_82.2.1 68)) (σ.1 5) + 1 ≤ sm (n_ld (st (τ_82.2.1 68) (-1) x)) (σ.1 5) := fun z x x0 => by (first | (exfalso; omega) | exact n_ld_s (by omega) (by omega) (by rw [← e_x50]; exact z) x0)
              have lb2 := n_ld_b (f := st (τ_82.2.1 68) (-1) (1 : Int)) (n := σ.1 5) (by omega)
              have ls1 : x50 = 0 → sm (n_ld (τ_82.2.1 68)) (σ.1 5) + 1 ≤ sm (n_ld (st (τ_82.2.1 68) (-1) (1 : Int))) (σ.1 5) := fun z => ls z (1 : Int) (by omega)
              refine ⟨(show 0 ≤ τ_82.1 43 ∧ τ_82.1 43 < 1501 from by (first | omega | (simp only [st_s] <;> omega) | assumption | omega | fail)), ?_⟩
              replace hT := mT_a (k := 67) (j := (τ_82.1 43)) hT (show (0 : Int) ≤ (-1) ∧ (-1) ≤ 1499 from by (first | omega | (simp only [st_s] <;> omega) | assumption | omega | fail))
              refine ⟨(⟨by (first | omega | (simp only [st_s] <;> omega) | assumption | omega | fail), by (first | omega | (simp only [st_s] <;> omega) | assumption | omega | fail)⟩ : rg (τ_82.1 43 + 1)), ?_⟩
              replace hT := mT_v (i := 43) hT (show 0 ≤ (τ_82.1 43 + 1) ∧ (τ_82.1 43 + 1) ≤ 1500 from by (first | omega | (simp only [st_s] <;> omega) | assumption | omega | fail))
              refine ⟨(show 0 ≤ n1 ∧ n1 < 1501 from by (first | omega | (simp only [st_s] <;> omega) | assumption | omega | fail)), ?_⟩
              intro x56 r_x56 e_x56
              have b_x56 : 0 ≤ x56 ∧ x56 ≤ 60 := by rw [e_x56]; exact hT.2 19 _
              refine ⟨(⟨by (first | omega | (simp only [st_s] <;> omega) | assumption | omega | fail), by (first | omega | (simp only [st_s] <;> omega) | assumption | omega | fail)⟩ : rg (x56 + (τ_82.1 43 + 1))), ?_⟩
              replace hT := mT_a (k := 68) (j := (-1)) hT (show (0 : Int) ≤ (x56 + (τ_82.1 43 + 1)) ∧ (x56 + (τ_82.1 43 + 1)) ≤ 2000 from by (first | omega | (simp only [st_s] <;> omega) | assumption | omega | fail))
              refine ⟨(⟨by (first | omega | (simp only [st_s] <;> omega) | assumption | omega | fail), by (first | omega | (simp only [st_s] <;> omega) | assumption | omega | fail)⟩ : rg (u2_82 + 1)), ?_⟩
              exact ih_82 _ _ (show (20002 - (u2_82 + 1) : Int) < ((m_82 : Nat) : Int) from by ((first | omega | (simp only [st_s] <;> omega) | assumption | omega | fail))) hT (show τ_82.1 5 = σ.1 5 from by first | exact W5 | omega) G13 G19 G25 G26 G27 (show 0 ≤ (u2_82 + 1) from by (first | omega | (simp only [st_s] <;> omega) | assumption | omega | fail)) (show (u2_82 + 1) ≤ 20001 from by (first | omega | (simp only [st_s] <;> omega) | assumption | omega | fail)) (show (τ_82.1 38) = n1 + 1 from by (first | omega | (simp only [st_s] <;> omega) | assumption | omega | fail)) (show n_Y (s_a (s_v (s_a τ_82 67 (τ_82.1 43) (-1)) 43 (τ_82.1 43 + 1)) 68 (-1) (x56 + (τ_82.1 43 + 1))) from by (first | omega | (simp only [st_s] <;> omega) | assumption | omega | fail)) (show (τ_82.1 44) ≤ 20001 from by (first | omega | (simp only [st_s] <;> omega) | assumption | omega | fail)) (show n_nu (τ_82.2.1 63) from NU) (show ∀ k : Int, 0 ≤ k → k < (τ_82.1 44) → τ_82.2.1 70 k < (τ_82.1 36) from by (first | omega | (simp only [st_s] <;> omega) | assumption | omega | fail)) (show ((τ_82.1 43 + 1)) ≤ sm (n_ld ((st (τ_82.2.1 68) (-1) (x56 + (τ_82.1 43 + 1))))) (σ.1 5) from by (first | exact i82_8 | omega | (have w := ls (by assumption) (x56 + (τ_82.1 43 + 1)) (by omega); omega) | fail))
  have l_43 : ∀ (m_43 : Nat) (u2_43 : Int) (τ_43 : S0), 61 - u2_43 < (m_43 : Int) → (m_T τ_43) → (τ_43.1 5 = σ.1 5) → (τ_43.2.1 13 = σ.2.1 13) → (τ_43.2.1 19 = σ.2.1 19) → (τ_43.2.1 25 = σ.2.1 25) → (τ_43.2.1 26 = σ.2.1 26) → (τ_43.2.1 27 = σ.2.1 27) → (0 ≤ u2_43) → (u2_43 ≤ 60) → ((τ_43.1 43) = 0) → ((τ_43.1 38) = n1 + 1) → (n_Y τ_43) → ((τ_43.1 44) ≤ 20001) → (n_nu (τ_43.2.1 63)) → (∀ k : Int, 0 ≤ k → k < (τ_43.1 44) → τ_43.2.1 70 k < (τ_43.1 36)) → P43 n1 u2_43 τ_43 := by
    intro m_43
    induction m_43 with
    | zero =>
      intro u2_43 τ_43 hm hT W5 G13 G19 G25 G26 G27 i43_1 i43_2 i43_3 i43_4 i43_5 i43_6 i43_7 i43_8
      have A13 : ∀ j, 0 ≤ τ_43.2.1 13 j ∧ τ_43.2.1 13 j ≤ 4 := fun j => hT.2 13 j
      have A19 : ∀ j, 0 ≤ τ_43.2.1 19 j ∧ τ_43.2.1 19 j ≤ 60 := fun j => hT.2 19 j
      have A25 : ∀ j, 0 ≤ τ_43.2.1 25 j ∧ τ_43.2.1 25 j ≤ 20000 := fun j => hT.2 25 j
      have A26 : ∀ j, 0 ≤ τ_43.2.1 26 j ∧ τ_43.2.1 26 j ≤ 20000 := fun j => hT.2 26 j
      have A27 : ∀ j, (-300) ≤ τ_43.2.1 27 j ∧ τ_43.2.1 27 j ≤ 1499 := fun j => hT.2 27 j
      have A56 : ∀ j, 0 ≤ τ_43.2.1 56 j ∧ τ_43.2.1 56 j ≤ 1499 := fun j => hT.2 56 j
      have A57 : ∀ j, 0 ≤ τ_43.2.1 57 j ∧ τ_43.2.1 57 j ≤ 120000 := fun j => hT.2 57 j
      have A58 : ∀ j, 0 ≤ τ_43.2.1 58 j ∧ τ_43.2.1 58 j ≤ 20000 := fun j => hT.2 58 j
      have A63 : ∀ j, (-2147483648) ≤ τ_43.2.1 63 j ∧ τ_43.2.1 63 j ≤ 2147483647 := fun j => hT.2 63 j
      have A67 : ∀ j, 0 ≤ τ_43.2.1 67 j ∧ τ_43.2.1 67 j ≤ 1499 := fun j => hT.2 67 j
      have A68 : ∀ j, 0 ≤ τ_43.2.1 68 j ∧ τ_43.2.1 68 j ≤ 2000 := fun j => hT.2 68 j
      have A70 : ∀ j, (-20001) ≤ τ_43.2.1 70 j ∧ τ_43.2.1 70 j ≤ 20000 := fun j => hT.2 70 j
      have v5 : 0 ≤ τ_43.1 5 ∧ τ_43.1 5 ≤ 1500 := hT.1 5
      have v36 : 0 ≤ τ_43.1 36 ∧ τ_43.1 36 ≤ 20000 := hT.1 36
      have v38 : 0 ≤ τ_43.1 38 ∧ τ_43.1 38 ≤ 1500 := hT.1 38
      have v43 : 0 ≤ τ_43.1 43 ∧ τ_43.1 43 ≤ 1500 := hT.1 43
      have v44 : 0 ≤ τ_43.1 44 ∧ τ_43.1 44 ≤ 40000 := hT.1 44
      exfalso; (first | omega | (simp only [st_s] <;> omega) | assumption | omega | fail)
    | succ m_43 ih_43 =>
      intro u2_43 τ_43 hm_43 hT W5 G13 G19 G25 G26 G27 i43_1 i43_2 i43_3 i43_4 i43_5 i43_6 i43_7 i43_8
      have A13 : ∀ j, 0 ≤ τ_43.2.1 13 j ∧ τ_43.2.1 13 j ≤ 4 := fun j => hT.2 13 j
      have A19 : ∀ j, 0 ≤ τ_43.2.1 19 j ∧ τ_43.2.1 19 j ≤ 60 := fun j => hT.2 19 j
      have A25 : ∀ j, 0 ≤ τ_43.2.1 25 j ∧ τ_43.2.1 25 j ≤ 20000 := fun j => hT.2 25 j
      have A26 : ∀ j, 0 ≤ τ_43.2.1 26 j ∧ τ_43.2.1 26 j ≤ 20000 := fun j => hT.2 26 j
      have A27 : ∀ j, (-300) ≤ τ_43.2.1 27 j ∧ τ_43.2.1 27 j ≤ 1499 := fun j => hT.2 27 j
      have A56 : ∀ j, 0 ≤ τ_43.2.1 56 j ∧ τ_43.2.1 56 j ≤ 1499 := fun j => hT.2 56 j
      have A57 : ∀ j, 0 ≤ τ_43.2.1 57 j ∧ τ_43.2.1 57 j ≤ 120000 := fun j => hT.2 57 j
      have A58 : ∀ j, 0 ≤ τ_43.2.1 58 j ∧ τ_43.2.1 58 j ≤ 20000 := fun j => hT.2 58 j
      have A63 : ∀ j, (-2147483648) ≤ τ_43.2.1 63 j ∧ τ_43.2.1 63 j ≤ 2147483647 := fun j => hT.2 63 j
      have A67 : ∀ j, 0 ≤ τ_43.2.1 67 j ∧ τ_43.2.1 67 j ≤ 1499 := fun j => hT.2 67 j
      have A68 : ∀ j, 0 ≤ τ_43.2.1 68 j ∧ τ_43.2.1 68 j ≤ 2000 := fun j => hT.2 68 j
      have A70 : ∀ j, (-20001) ≤ τ_43.2.1 70 j ∧ τ_43.2.1 70 j ≤ 20000 := fun j => hT.2 70 j
      have v5 : 0 ≤ τ_43.1 5 ∧ τ_43.1 5 ≤ 1500 := hT.1 5
      have v36 : 0 ≤ τ_43.1 36 ∧ τ_43.1 36 ≤ 20000 := hT.1 36
      have v38 : 0 ≤ τ_43.1 38 ∧ τ_43.1 38 ≤ 1500 := hT.1 38
      have v43 : 0 ≤ τ_43.1 43 ∧ τ_43.1 43 ≤ 1500 := hT.1 43
      have v44 : 0 ≤ τ_43.1 44 ∧ τ_43.1 44 ≤ 40000 := hT.1 44
      have NU : n_nu (τ_43.2.1 63) := i43_7
      have lb43 := (n_ld_b (f := τ_43.2.1 68) (n := σ.1 5) (by omega)).1
      refine h43 n1 u2_43 τ_43 ?_
      refine ⟨(show 0 ≤ n1 ∧ n1 < 1501 from by (first | omega | (simp only [st_s] <;> omega) | assumption | omega | fail)), ?_⟩
      intro x14 r_x14 e_x14
      have b_x14 : 0 ≤ x14 ∧ x14 ≤ 60 := by rw [e_x14]; exact hT.2 19 _
      refine ⟨fun c15 => ?_, fun c15 => ?_⟩
      ·
        exact l_82 ((20002 - 0 : Int).toNat + 1) _ _ (show (20002 - 0 : Int) < (((20002 - 0 : Int).toNat + 1 : Nat) : Int) from by ((first | omega | (simp only [st_s] <;> omega) | assumption | omega | fail))) hT (show τ_43.1 5 = σ.1 5 from by first | exact W5 | omega) G13 G19 G25 G26 G27 (show 0 ≤ 0 from by (first | omega | (simp only [st_s] <;> omega) | assumption | omega | fail)) (show 0 ≤ 20001 from by (first | omega | (simp only [st_s] <;> omega) | assumption | omega | fail)) (show (τ_43.1 38) = n1 + 1 from by (first | omega | (simp only [st_s] <;> omega) | assumption | omega | fail)) (show n_Y τ_43 from by (first | omega | (simp only [st_s] <;> omega) | assumption | omega | fail)) (show (τ_43.1 44) ≤ 20001 from by (first | omega | (simp only [st_s] <;> omega) | assumption | omega | fail)) (show n_nu (τ_43.2.1 63) from NU) (show ∀ k : Int, 0 ≤ k → k < (τ_43.1 44) → τ_43.2.1 70 k < (τ_43.1 36) from by (first | omega | (simp only [st_s] <;> omega) | assumption | omega | fail)) (show (τ_43.1 43) ≤ sm (n_ld (τ_43.2.1 68)) (σ.1 5) from by (first | exact i82_8 | omega | (have w := ls (by assumption) (x56 + (τ_82.1 43 + 1)) (by omega); omega) | fail))
      ·
        intro x16 r_x16 e_x16
        have b_x16 : 0 ≤ x16 ∧ x16 ≤ 90000 := by rw [e_x16]; exact hT.2 18 _
        refine ⟨(show 0 ≤ (x16 + u2_43) ∧ (x16 + u2_43) < 90100 from by (first | omega | (simp only [st_s] <;> omega) | assumption | omega | fail)), ?_⟩
        intro x18 r_x18 e_x18
        have b_x18 : 0 ≤ x18 ∧ x18 ≤ 1499 := by rw [e_x18]; exact hT.2 20 _
        refine ⟨(show 0 ≤ x18 ∧ x18 < 1501 from by (first | omega | (simp only [st_s] <;> omega) | assumption | omega | fail)), ?_⟩
        refine ⟨(⟨by (first | omega | (simp only [st_s] <;> omega) | assumption | omega | fail), by (first | omega | (simp only [st_s] <;> omega) | assumption | omega | fail)⟩ : rg (u2_43 + 1)), ?_⟩
        replace hT := mT_a (k := 68) (j := x18) hT (show (0 : Int) ≤ (u2_43 + 1) ∧ (u2_43 + 1) ≤ 2000 from by (first | omega | (simp only [st_s] <;> omega) | assumption | omega | fail))
        exact ih_43 _ _ (show (61 - (u2_43 + 1) : Int) < ((m_43 : Nat) : Int) from by ((first | omega | (simp only [st_s] <;> omega) | assumption | omega | fail))) hT (show τ_43.1 5 = σ.1 5 from by first | exact W5 | omega) G13 G19 G25 G26 G27 (show 0 ≤ (u2_43 + 1) from by (first | omega | (simp only [st_s] <;> omega) | assumption | omega | fail)) (show (u2_43 + 1) ≤ 60 from by (first | omega | (simp only [st_s] <;> omega) | assumption | omega | fail)) (show (τ_43.1 43) = 0 from by (first | omega | (simp only [st_s] <;> omega) | assumption | omega | fail)) (show (τ_43.1 38) = n1 + 1 from by (first | omega | (simp only [st_s] <;> omega) | assumption | omega | fail)) (show n_Y (s_a τ_43 68 x18 (u2_43 + 1)) from by (first | omega | (simp only [st_s] <;> omega) | assumption | omega | fail)) (show (τ_43.1 44) ≤ 20001 from by (first | omega | (simp only [st_s] <;> omega) | assumption | omega | fail)) (show n_nu (τ_43.2.1 63) from NU) (show ∀ k : Int, 0 ≤ k → k < (τ_43.1 44) → τ_43.2.1 70 k < (τ_43.1 36) from by (first | omega | (simp only [st_s] <;> omega) | assumption | omega | fail))
  have l_20 : ∀ (m_20 : Nat) (u2_20 : Int) (τ_20 : S0), 1501 - u2_20 < (m_20 : Int) → (m_T τ_20) → (τ_20.1 5 = σ.1 5) → (τ_20.2.1 13 = σ.2.1 13) → (τ_20.2.1 19 = σ.2.1 19) → (τ_20.2.1 25 = σ.2.1 25) → (τ_20.2.1 26 = σ.2.1 26) → (τ_20.2.1 27 = σ.2.1 27) → (0 ≤ u2_20) → (u2_20 ≤ 1500) → ((τ_20.1 43) = 0) → ((τ_20.1 38) = n1 + 1) → (n_Y τ_20) → ((τ_20.1 44) ≤ 20001) → (n_nu (τ_20.2.1 63)) → (∀ k : Int, 0 ≤ k → k < (τ_20.1 44) → τ_20.2.1 70 k < (τ_20.1 36)) → P20 n1 u2_20 τ_20 := by
    intro m_20
    induction m_20 with
    | zero =>
      intro u2_20 τ_20 hm hT W5 G13 G19 G25 G26 G27 i20_1 i20_2 i20_3 i20_4 i20_5 i20_6 i20_7 i20_8
      have A13 : ∀ j, 0 ≤ τ_20.2.1 13 j ∧ τ_20.2.1 13 j ≤ 4 := fun j => hT.2 13 j
      have A19 : ∀ j, 0 ≤ τ_20.2.1 19 j ∧ τ_20.2.1 19 j ≤ 60 := fun j => hT.2 19 j
      have A25 : ∀ j, 0 ≤ τ_20.2.1 25 j ∧ τ_20.2.1 25 j ≤ 20000 := fun j => hT.2 25 j
      have A26 : ∀ j, 0 ≤ τ_20.2.1 26 j ∧ τ_20.2.1 26 j ≤ 20000 := fun j => hT.2 26 j
      have A27 : ∀ j, (-300) ≤ τ_20.2.1 27 j ∧ τ_20.2.1 27 j ≤ 1499 := fun j => hT.2 27 j
      have A56 : ∀ j, 0 ≤ τ_20.2.1 56 j ∧ τ_20.2.1 56 j ≤ 1499 := fun j => hT.2 56 j
      have A57 : ∀ j, 0 ≤ τ_20.2.1 57 j ∧ τ_20.2.1 57 j ≤ 120000 := fun j => hT.2 57 j
      have A58 : ∀ j, 0 ≤ τ_20.2.1 58 j ∧ τ_20.2.1 58 j ≤ 20000 := fun j => hT.2 58 j
      have A63 : ∀ j, (-2147483648) ≤ τ_20.2.1 63 j ∧ τ_20.2.1 63 j ≤ 2147483647 := fun j => hT.2 63 j
      have A67 : ∀ j, 0 ≤ τ_20.2.1 67 j ∧ τ_20.2.1 67 j ≤ 1499 := fun j => hT.2 67 j
      have A68 : ∀ j, 0 ≤ τ_20.2.1 68 j ∧ τ_20.2.1 68 j ≤ 2000 := fun j => hT.2 68 j
      have A70 : ∀ j, (-20001) ≤ τ_20.2.1 70 j ∧ τ_20.2.1 70 j ≤ 20000 := fun j => hT.2 70 j
      have v5 : 0 ≤ τ_20.1 5 ∧ τ_20.1 5 ≤ 1500 := hT.1 5
      have v36 : 0 ≤ τ_20.1 36 ∧ τ_20.1 36 ≤ 20000 := hT.1 36
      have v38 : 0 ≤ τ_20.1 38 ∧ τ_20.1 38 ≤ 1500 := hT.1 38
      have v43 : 0 ≤ τ_20.1 43 ∧ τ_20.1 43 ≤ 1500 := hT.1 43
      have v44 : 0 ≤ τ_20.1 44 ∧ τ_20.1 44 ≤ 40000 := hT.1 44
      exfalso; (first | omega | (simp only [st_s] <;> omega) | assumption | omega | fail)
    | succ m_20 ih_20 =>
      intro u2_20 τ_20 hm_20 hT W5 G13 G19 G25 G26 G27 i20_1 i20_2 i20_3 i20_4 i20_5 i20_6 i20_7 i20_8
      have A13 : ∀ j, 0 ≤ τ_20.2.1 13 j ∧ τ_20.2.1 13 j ≤ 4 := fun j => hT.2 13 j
      have A19 : ∀ j, 0 ≤ τ_20.2.1 19 j ∧ τ_20.2.1 19 j ≤ 60 := fun j => hT.2 19 j
      have A25 : ∀ j, 0 ≤ τ_20.2.1 25 j ∧ τ_20.2.1 25 j ≤ 20000 := fun j => hT.2 25 j
      have A26 : ∀ j, 0 ≤ τ_20.2.1 26 j ∧ τ_20.2.1 26 j ≤ 20000 := fun j => hT.2 26 j
      have A27 : ∀ j, (-300) ≤ τ_20.2.1 27 j ∧ τ_20.2.1 27 j ≤ 1499 := fun j => hT.2 27 j
      have A56 : ∀ j, 0 ≤ τ_20.2.1 56 j ∧ τ_20.2.1 56 j ≤ 1499 := fun j => hT.2 56 j
      have A57 : ∀ j, 0 ≤ τ_20.2.1 57 j ∧ τ_20.2.1 57 j ≤ 120000 := fun j => hT.2 57 j
      have A58 : ∀ j, 0 ≤ τ_20.2.1 58 j ∧ τ_20.2.1 58 j ≤ 20000 := fun j => hT.2 58 j
      have A63 : ∀ j, (-2147483648) ≤ τ_20.2.1 63 j ∧ τ_20.2.1 63 j ≤ 2147483647 := fun j => hT.2 63 j
      have A67 : ∀ j, 0 ≤ τ_20.2.1 67 j ∧ τ_20.2.1 67 j ≤ 1499 := fun j => hT.2 67 j
      have A68 : ∀ j, 0 ≤ τ_20.2.1 68 j ∧ τ_20.2.1 68 j ≤ 2000 := fun j => hT.2 68 j
      have A70 : ∀ j, (-20001) ≤ τ_20.2.1 70 j ∧ τ_20.2.1 70 j ≤ 20000 := fun j => hT.2 70 j
      have v5 : 0 ≤ τ_20.1 5 ∧ τ_20.1 5 ≤ 1500 := hT.1 5
      have v36 : 0 ≤ τ_20.1 36 ∧ τ_20.1 36 ≤ 20000 := hT.1 36
      have v38 : 0 ≤ τ_20.1 38 ∧ τ_20.1 38 ≤ 1500 := hT.1 38
      have v43 : 0 ≤ τ_20.1 43 ∧ τ_20.1 43 ≤ 1500 := hT.1 43
      have v44 : 0 ≤ τ_20.1 44 ∧ τ_20.1 44 ≤ 40000 := hT.1 44
      have NU : n_nu (τ_20.2.1 63) := i20_7
      refine h20 n1 u2_20 τ_20 ?_
      refine ⟨fun c10 => ?_, fun c10 => ?_⟩
      ·
        exact l_43 ((61 - 0 : Int).toNat + 1) _ _ (show (61 - 0 : Int) < (((61 - 0 : Int).toNat + 1 : Nat) : Int) from by ((first | omega | (simp only [st_s] <;> omega) | assumption | omega | fail))) hT (show τ_20.1 5 = σ.1 5 from by first | exact W5 | omega) G13 G19 G25 G26 G27 (show 0 ≤ 0 from by (first | omega | (simp only [st_s] <;> omega) | assumption | omega | fail)) (show 0 ≤ 60 from by (first | omega | (simp only [st_s] <;> omega) | assumption | omega | fail)) (show (τ_20.1 43) = 0 from by (first | omega | (simp only [st_s] <;> omega) | assumption | omega | fail)) (show (τ_20.1 38) = n1 + 1 from by (first | omega | (simp only [st_s] <;> omega) | assumption | omega | fail)) (show n_Y τ_20 from by (first | omega | (simp only [st_s] <;> omega) | assumption | omega | fail)) (show (τ_20.1 44) ≤ 20001 from by (first | omega | (simp only [st_s] <;> omega) | assumption | omega | fail)) (show n_nu (τ_20.2.1 63) from NU) (show ∀ k : Int, 0 ≤ k → k < (τ_20.1 44) → τ_20.2.1 70 k < (τ_20.1 36) from by (first | omega | (simp only [st_s] <;> omega) | assumption | omega | fail))
      ·
        refine ⟨(show 0 ≤ u2_20 ∧ u2_20 < 1501 from by (first | omega | (simp only [st_s] <;> omega) | assumption | omega | fail)), ?_⟩
        replace hT := mT_a (k := 68) (j := u2_20) hT (show (0 : Int) ≤ 0 ∧ 0 ≤ 2000 from by (first | omega | (simp only [st_s] <;> omega) | assumption | omega | fail))
        refine ⟨(⟨by (first | omega | (simp only [st_s] <;> omega) | assumption | omega | fail), by (first | omega | (simp only [st_s] <;> omega) | assumption | omega | fail)⟩ : rg (u2_20 + 1)), ?_⟩
        exact ih_20 _ _ (show (1501 - (u2_20 + 1) : Int) < ((m_20 : Nat) : Int) from by ((first | omega | (simp only [st_s] <;> omega) | assumption | omega | fail))) hT (show τ_20.1 5 = σ.1 5 from by first | exact W5 | omega) G13 G19 G25 G26 G27 (show 0 ≤ (u2_20 + 1) from by (first | omega | (simp only [st_s] <;> omega) | assumption | omega | fail)) (show (u2_20 + 1) ≤ 1500 from by (first | omega | (simp only [st_s] <;> omega) | assumption | omega | fail)) (show (τ_20.1 43) = 0 from by (first | omega | (simp only [st_s] <;> omega) | assumption | omega | fail)) (show (τ_20.1 38) = n1 + 1 from by (first | omega | (simp only [st_s] <;> omega) | assumption | omega | fail)) (show n_Y (s_a τ_20 68 u2_20 0) from by (first | omega | (simp only [st_s] <;> omega) | assumption | omega | fail)) (show (τ_20.1 44) ≤ 20001 from by (first | omega | (simp only [st_s] <;> omega) | assumption | omega | fail)) (show n_nu (τ_20.2.1 63) from NU) (show ∀ k : Int, 0 ≤ k → k < (τ_20.1 44) → τ_20.2.1 70 k < (τ_20.1 36) from by (first | (rw [w36_τ9]; exact q7_2) | exact i20_8 | fail))
  refine ⟨_, K3_X13_makeRows hT (show 0 ≤ n1 from by (first | omega | (simp only [st_s] <;> omega) | assumption | omega | fail)) (show n1 < σ.1 5 from by (first | omega | (simp only [st_s] <;> omega) | assumption | omega | fail)) (show σ.2.1 13 n1 = 3 from by (first | omega | (simp only [st_s] <;> omega) | assumption | omega | fail)) (show n_J σ from by (first | omega | (simp only [st_s] <;> omega) | assumption | omega | fail)) (show m_J σ from by (first | omega | (simp only [st_s] <;> omega) | assumption | omega | fail)) (show n_Y σ from by (first | omega | (simp only [st_s] <;> omega) | assumption | omega | fail)), ?_⟩
  intro τ3 hn_τ3 hf_τ3 hq
  obtain ⟨hT, q1_1, q1_2⟩ := hq
  replace q1_1 : (τ3.1 38) = n1 + 1 := q1_1
  replace q1_2 : n_Y τ3 := q1_2
  have w5_τ3 : τ3.1 5 = σ.1 5 := hf_τ3.1 5 (by decide)
  have w43_τ3 : τ3.1 43 = σ.1 43 := hf_τ3.1 43 (by decide)
  have w44_τ3 : τ3.1 44 = σ.1 44 := hf_τ3.1 44 (by decide)
  have g13_τ3 : τ3.2.1 13 = σ.2.1 13 := hf_τ3.2.1 13 (by decide)
  have g19_τ3 : τ3.2.1 19 = σ.2.1 19 := hf_τ3.2.1 19 (by decide)
  have g25_τ3 : τ3.2.1 25 = σ.2.1 25 := hf_τ3.2.1 25 (by decide)
  have g26_τ3 : τ3.2.1 26 = σ.2.1 26 := hf_τ3.2.1 26 (by decide)
  have g27_τ3 : τ3.2.1 27 = σ.2.1 27 := hf_τ3.2.1 27 (by decide)
  have g63_τ3 : τ3.2.1 63 = σ.2.1 63 := hf_τ3.2.1 63 (by decide)
  have g67_τ3 : τ3.2.1 67 = σ.2.1 67 := hf_τ3.2.1 67 (by decide)
  have g68_τ3 : τ3.2.1 68 = σ.2.1 68 := hf_τ3.2.1 68 (by decide)
  have g70_τ3 : τ3.2.1 70 = σ.2.1 70 := hf_τ3.2.1 70 (by decide)
  have W5 : τ3.1 5 = σ.1 5 := by first | exact w5_τ3.trans W5 | omega
  have G13 : τ3.2.1 13 = σ.2.1 13 := (g13_τ3).trans G13
  have G19 : τ3.2.1 19 = σ.2.1 19 := (g19_τ3).trans G19
  have G25 : τ3.2.1 25 = σ.2.1 25 := (g25_τ3).trans G25
  have G26 : τ3.2.1 26 = σ.2.1 26 := (g26_τ3).trans G26
  have G27 : τ3.2.1 27 = σ.2.1 27 := (g27_τ3).trans G27
  have NU : n_nu (τ3.2.1 63) := by rw [show (n_nu (τ3.2.1 63)) = (n_nu (σ.2.1 63)) from by rw [g63_τ3]]; exact NU
  have A13 : ∀ j, 0 ≤ τ3.2.1 13 j ∧ τ3.2.1 13 j ≤ 4 := fun j => hT.2 13 j
  have A19 : ∀ j, 0 ≤ τ3.2.1 19 j ∧ τ3.2.1 19 j ≤ 60 := fun j => hT.2 19 j
  have A25 : ∀ j, 0 ≤ τ3.2.1 25 j ∧ τ3.2.1 25 j ≤ 20000 := fun j => hT.2 25 j
  have A26 : ∀ j, 0 ≤ τ3.2.1 26 j ∧ τ3.2.1 26 j ≤ 20000 := fun j => hT.2 26 j
  have A27 : ∀ j, (-300) ≤ τ3.2.1 27 j ∧ τ3.2.1 27 j ≤ 1499 := fun j => hT.2 27 j
  have A56 : ∀ j, 0 ≤ τ3.2.1 56 j ∧ τ3.2.1 56 j ≤ 1499 := fun j => hT.2 56 j
  have A57 : ∀ j, 0 ≤ τ3.2.1 57 j ∧ τ3.2.1 57 j ≤ 120000 := fun j => hT.2 57 j
  have A58 : ∀ j, 0 ≤ τ3.2.1 58 j ∧ τ3.2.1 58 j ≤ 20000 := fun j => hT.2 58 j
  have A63 : ∀ j, (-2147483648) ≤ τ3.2.1 63 j ∧ τ3.2.1 63 j ≤ 2147483647 := fun j => hT.2 63 j
  have A67 : ∀ j, 0 ≤ τ3.2.1 67 j ∧ τ3.2.1 67 j ≤ 1499 := fun j => hT.2 67 j
  have A68 : ∀ j, 0 ≤ τ3.2.1 68 j ∧ τ3.2.1 68 j ≤ 2000 := fun j => hT.2 68 j
  have A70 : ∀ j, (-20001) ≤ τ3.2.1 70 j ∧ τ3.2.1 70 j ≤ 20000 := fun j => hT.2 70 j
  have v5 : 0 ≤ τ3.1 5 ∧ τ3.1 5 ≤ 1500 := hT.1 5
  have v36 : 0 ≤ τ3.1 36 ∧ τ3.1 36 ≤ 20000 := hT.1 36
  have v38 : 0 ≤ τ3.1 38 ∧ τ3.1 38 ≤ 1500 := hT.1 38
  have v43 : 0 ≤ τ3.1 43 ∧ τ3.1 43 ≤ 1500 := hT.1 43
  have v44 : 0 ≤ τ3.1 44 ∧ τ3.1 44 ≤ 40000 := hT.1 44
  have y1 := (n_Y_e q1_2 q1_1 p1).1
  refine ⟨_, K_X13_findSame hT (show n_YY τ3 from by exact n_Y_YY q1_2 q1_1 p1 (by omega)), ?_⟩
  intro τ6 hn_τ6 hf_τ6 hq
  obtain ⟨hT, q4_1, q4_2⟩ := hq
  replace q4_1 : n_sa (τ3.1 36) (τ6.2.1 61) := q4_1
  replace q4_2 : ∀ r : Int, 0 ≤ r → r < (τ3.1 36) → τ6.2.1 62 r = 0 := q4_2
  have w5_τ6 : τ6.1 5 = τ3.1 5 := hf_τ6.1 5 (by decide)
  have w36_τ6 : τ6.1 36 = τ3.1 36 := hf_τ6.1 36 (by decide)
  have w38_τ6 : τ6.1 38 = τ3.1 38 := hf_τ6.1 38 (by decide)
  have w43_τ6 : τ6.1 43 = τ3.1 43 := hf_τ6.1 43 (by decide)
  have w44_τ6 : τ6.1 44 = τ3.1 44 := hf_τ6.1 44 (by decide)
  have g13_τ6 : τ6.2.1 13 = τ3.2.1 13 := hf_τ6.2.1 13 (by decide)
  have g19_τ6 : τ6.2.1 19 = τ3.2.1 19 := hf_τ6.2.1 19 (by decide)
  have g25_τ6 : τ6.2.1 25 = τ3.2.1 25 := hf_τ6.2.1 25 (by decide)
  have g26_τ6 : τ6.2.1 26 = τ3.2.1 26 := hf_τ6.2.1 26 (by decide)
  have g27_τ6 : τ6.2.1 27 = τ3.2.1 27 := hf_τ6.2.1 27 (by decide)
  have g56_τ6 : τ6.2.1 56 = τ3.2.1 56 := hf_τ6.2.1 56 (by decide)
  have g57_τ6 : τ6.2.1 57 = τ3.2.1 57 := hf_τ6.2.1 57 (by decide)
  have g58_τ6 : τ6.2.1 58 = τ3.2.1 58 := hf_τ6.2.1 58 (by decide)
  have g63_τ6 : τ6.2.1 63 = τ3.2.1 63 := hf_τ6.2.1 63 (by decide)
  have g67_τ6 : τ6.2.1 67 = τ3.2.1 67 := hf_τ6.2.1 67 (by decide)
  have g68_τ6 : τ6.2.1 68 = τ3.2.1 68 := hf_τ6.2.1 68 (by decide)
  have g70_τ6 : τ6.2.1 70 = τ3.2.1 70 := hf_τ6.2.1 70 (by decide)
  have W5 : τ6.1 5 = σ.1 5 := by first | exact w5_τ6.trans W5 | omega
  have G13 : τ6.2.1 13 = σ.2.1 13 := (g13_τ6).trans G13
  have G19 : τ6.2.1 19 = σ.2.1 19 := (g19_τ6).trans G19
  have G25 : τ6.2.1 25 = σ.2.1 25 := (g25_τ6).trans G25
  have G26 : τ6.2.1 26 = σ.2.1 26 := (g26_τ6).trans G26
  have G27 : τ6.2.1 27 = σ.2.1 27 := (g27_τ6).trans G27
  have NU : n_nu (τ6.2.1 63) := by rw [show (n_nu (τ6.2.1 63)) = (n_nu (τ3.2.1 63)) from by rw [g63_τ6]]; exact NU
  have A13 : ∀ j, 0 ≤ τ6.2.1 13 j ∧ τ6.2.1 13 j ≤ 4 := fun j => hT.2 13 j
  have A19 : ∀ j, 0 ≤ τ6.2.1 19 j ∧ τ6.2.1 19 j ≤ 60 := fun j => hT.2 19 j
  have A25 : ∀ j, 0 ≤ τ6.2.1 25 j ∧ τ6.2.1 25 j ≤ 20000 := fun j => hT.2 25 j
  have A26 : ∀ j, 0 ≤ τ6.2.1 26 j ∧ τ6.2.1 26 j ≤ 20000 := fun j => hT.2 26 j
  have A27 : ∀ j, (-300) ≤ τ6.2.1 27 j ∧ τ6.2.1 27 j ≤ 1499 := fun j => hT.2 27 j
  have A56 : ∀ j, 0 ≤ τ6.2.1 56 j ∧ τ6.2.1 56 j ≤ 1499 := fun j => hT.2 56 j
  have A57 : ∀ j, 0 ≤ τ6.2.1 57 j ∧ τ6.2.1 57 j ≤ 120000 := fun j => hT.2 57 j
  have A58 : ∀ j, 0 ≤ τ6.2.1 58 j ∧ τ6.2.1 58 j ≤ 20000 := fun j => hT.2 58 j
  have A63 : ∀ j, (-2147483648) ≤ τ6.2.1 63 j ∧ τ6.2.1 63 j ≤ 2147483647 := fun j => hT.2 63 j
  have A67 : ∀ j, 0 ≤ τ6.2.1 67 j ∧ τ6.2.1 67 j ≤ 1499 := fun j => hT.2 67 j
  have A68 : ∀ j, 0 ≤ τ6.2.1 68 j ∧ τ6.2.1 68 j ≤ 2000 := fun j => hT.2 68 j
  have A70 : ∀ j, (-20001) ≤ τ6.2.1 70 j ∧ τ6.2.1 70 j ≤ 20000 := fun j => hT.2 70 j
  have v5 : 0 ≤ τ6.1 5 ∧ τ6.1 5 ≤ 1500 := hT.1 5
  have v36 : 0 ≤ τ6.1 36 ∧ τ6.1 36 ≤ 20000 := hT.1 36
  have v38 : 0 ≤ τ6.1 38 ∧ τ6.1 38 ≤ 1500 := hT.1 38
  have v43 : 0 ≤ τ6.1 43 ∧ τ6.1 43 ≤ 1500 := hT.1 43
  have v44 : 0 ≤ τ6.1 44 ∧ τ6.1 44 ≤ 40000 := hT.1 44
  have y6 : n_Y τ6 := n_Y_h q1_2 hf_τ6 rfl rfl
  refine ⟨_, K_X13_tellSteps hT (show n_YY τ6 from by exact n_Y_YY y6 (by omega) p1 (by omega)) (show n_sa (τ6.1 36) (τ6.2.1 61) from by (rw [w36_τ6]; exact q4_1)) (show ∀ r : Int, 0 ≤ r → r < (τ6.1 36) → τ6.2.1 62 r = 0 from by (rw [w36_τ6]; exact q4_2)) (show 1 ≤ (τ6.1 36) from by (first | omega | (simp only [st_s] <;> omega) | assumption | omega | fail)) (show n_ws (τ6.2.1 13) (τ6.2.1 19) (τ6.2.1 56) (τ6.1 36) ≤ 20000 from by (rw [g13_τ6, g19_τ6, g56_τ6, w36_τ6]; exact y1.2.2)), ?_⟩
  intro τ9 hn_τ9 hf_τ9 hq
  obtain ⟨hT, q7_1, q7_2⟩ := hq
  replace q7_1 : (τ9.1 44) ≤ 20001 := q7_1
  replace q7_2 : ∀ k : Int, 0 ≤ k → k < (τ9.1 44) → τ9.2.1 70 k < (τ6.1 36) := q7_2
  have w5_τ9 : τ9.1 5 = τ6.1 5 := hf_τ9.1 5 (by decide)
  have w36_τ9 : τ9.1 36 = τ6.1 36 := hf_τ9.1 36 (by decide)
  have w38_τ9 : τ9.1 38 = τ6.1 38 := hf_τ9.1 38 (by decide)
  have w43_τ9 : τ9.1 43 = τ6.1 43 := hf_τ9.1 43 (by decide)
  have g13_τ9 : τ9.2.1 13 = τ6.2.1 13 := hf_τ9.2.1 13 (by decide)
  have g19_τ9 : τ9.2.1 19 = τ6.2.1 19 := hf_τ9.2.1 19 (by decide)
  have g25_τ9 : τ9.2.1 25 = τ6.2.1 25 := hf_τ9.2.1 25 (by decide)
  have g26_τ9 : τ9.2.1 26 = τ6.2.1 26 := hf_τ9.2.1 26 (by decide)
  have g27_τ9 : τ9.2.1 27 = τ6.2.1 27 := hf_τ9.2.1 27 (by decide)
  have g56_τ9 : τ9.2.1 56 = τ6.2.1 56 := hf_τ9.2.1 56 (by decide)
  have g57_τ9 : τ9.2.1 57 = τ6.2.1 57 := hf_τ9.2.1 57 (by decide)
  have g58_τ9 : τ9.2.1 58 = τ6.2.1 58 := hf_τ9.2.1 58 (by decide)
  have g63_τ9 : τ9.2.1 63 = τ6.2.1 63 := hf_τ9.2.1 63 (by decide)
  have g67_τ9 : τ9.2.1 67 = τ6.2.1 67 := hf_τ9.2.1 67 (by decide)
  have g68_τ9 : τ9.2.1 68 = τ6.2.1 68 := hf_τ9.2.1 68 (by decide)
  have W5 : τ9.1 5 = σ.1 5 := by first | exact w5_τ9.trans W5 | omega
  have G13 : τ9.2.1 13 = σ.2.1 13 := (g13_τ9).trans G13
  have G19 : τ9.2.1 19 = σ.2.1 19 := (g19_τ9).trans G19
  have G25 : τ9.2.1 25 = σ.2.1 25 := (g25_τ9).trans G25
  have G26 : τ9.2.1 26 = σ.2.1 26 := (g26_τ9).trans G26
  have G27 : τ9.2.1 27 = σ.2.1 27 := (g27_τ9).trans G27
  have NU : n_nu (τ9.2.1 63) := by rw [show (n_nu (τ9.2.1 63)) = (n_nu (τ6.2.1 63)) from by rw [g63_τ9]]; exact NU
  have A13 : ∀ j, 0 ≤ τ9.2.1 13 j ∧ τ9.2.1 13 j ≤ 4 := fun j => hT.2 13 j
  have A19 : ∀ j, 0 ≤ τ9.2.1 19 j ∧ τ9.2.1 19 j ≤ 60 := fun j => hT.2 19 j
  have A25 : ∀ j, 0 ≤ τ9.2.1 25 j ∧ τ9.2.1 25 j ≤ 20000 := fun j => hT.2 25 j
  have A26 : ∀ j, 0 ≤ τ9.2.1 26 j ∧ τ9.2.1 26 j ≤ 20000 := fun j => hT.2 26 j
  have A27 : ∀ j, (-300) ≤ τ9.2.1 27 j ∧ τ9.2.1 27 j ≤ 1499 := fun j => hT.2 27 j
  have A56 : ∀ j, 0 ≤ τ9.2.1 56 j ∧ τ9.2.1 56 j ≤ 1499 := fun j => hT.2 56 j
  have A57 : ∀ j, 0 ≤ τ9.2.1 57 j ∧ τ9.2.1 57 j ≤ 120000 := fun j => hT.2 57 j
  have A58 : ∀ j, 0 ≤ τ9.2.1 58 j ∧ τ9.2.1 58 j ≤ 20000 := fun j => hT.2 58 j
  have A63 : ∀ j, (-2147483648) ≤ τ9.2.1 63 j ∧ τ9.2.1 63 j ≤ 2147483647 := fun j => hT.2 63 j
  have A67 : ∀ j, 0 ≤ τ9.2.1 67 j ∧ τ9.2.1 67 j ≤ 1499 := fun j => hT.2 67 j
  have A68 : ∀ j, 0 ≤ τ9.2.1 68 j ∧ τ9.2.1 68 j ≤ 2000 := fun j => hT.2 68 j
  have A70 : ∀ j, (-20001) ≤ τ9.2.1 70 j ∧ τ9.2.1 70 j ≤ 20000 := fun j => hT.2 70 j
  have v5 : 0 ≤ τ9.1 5 ∧ τ9.1 5 ≤ 1500 := hT.1 5
  have v36 : 0 ≤ τ9.1 36 ∧ τ9.1 36 ≤ 20000 := hT.1 36
  have v38 : 0 ≤ τ9.1 38 ∧ τ9.1 38 ≤ 1500 := hT.1 38
  have v43 : 0 ≤ τ9.1 43 ∧ τ9.1 43 ≤ 1500 := hT.1 43
  have v44 : 0 ≤ τ9.1 44 ∧ τ9.1 44 ≤ 40000 := hT.1 44
  have y9 : n_Y τ9 := n_Y_h y6 hf_τ9 rfl rfl
  replace hT := mT_v (i := 43) hT (show (0 : Int) ≤ 0 ∧ 0 ≤ 1500 from by (first | omega | (simp only [st_s] <;> omega) | assumption | omega | fail))
  exact l_20 ((1501 - 0 : Int).toNat + 1) _ _ (show (1501 - 0 : Int) < (((1501 - 0 : Int).toNat + 1 : Nat) : Int) from by ((first | omega | (simp only [st_s] <;> omega) | assumption | omega | fail))) hT (show τ9.1 5 = σ.1 5 from by first | exact W5 | omega) G13 G19 G25 G26 G27 (show 0 ≤ 0 from by (first | omega | (simp only [st_s] <;> omega) | assumption | omega | fail)) (show 0 ≤ 1500 from by (first | omega | (simp only [st_s] <;> omega) | assumption | omega | fail)) (show ((0 : Int)) = 0 from by (first | omega | (simp only [st_s] <;> omega) | assumption | omega | fail)) (show (τ9.1 38) = n1 + 1 from by (first | omega | (simp only [st_s] <;> omega) | assumption | omega | fail)) (show n_Y (s_v τ9 43 0) from by (first | omega | (simp only [st_s] <;> omega) | assumption | omega | fail)) (show (τ9.1 44) ≤ 20001 from by (first | omega | (simp only [st_s] <;> omega) | assumption | omega | fail)) (show n_nu (τ9.2.1 63) from NU) (show ∀ k : Int, 0 ≤ k → k < (τ9.1 44) → τ9.2.1 70 k < (τ9.1 36) from by (first | (rw [w36_τ9]; exact q7_2) | exact i20_8 | fail))
