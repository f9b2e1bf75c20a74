-- pure: the class's names
/-- name n is the first name that the grammar asks for -/
def j_sp (σ : S0) (n : Int) : Prop := c_eq (σ.2.1 2) (σ.2.1 3) n t_1 0 2
/-- names: those that were there stand as they stood, new ones mean new symbols or labels -/
def j_nm (σ τ : S0) : Prop := σ.1 3 ≤ τ.1 3 ∧ σ.1 5 ≤ τ.1 5 ∧ (∀ n : Int, 0 ≤ n → n < σ.1 3 → τ.2.1 4 n = σ.2.1 4 n ∧ ∀ (f : Int → Int) (m : Int), c_eq (τ.2.1 2) (τ.2.1 3) n f 0 m ↔ c_eq (σ.2.1 2) (σ.2.1 3) n f 0 m) ∧ (∀ n : Int, 0 ≤ n → σ.1 3 ≤ n → n < τ.1 3 → 0 ≤ τ.2.1 4 n ∨ σ.1 5 ≤ -1 - τ.2.1 4 n) ∧ ∀ n m : Int, 0 ≤ n → n < σ.1 3 → σ.1 3 ≤ m → m < τ.1 3 → ∀ (f : Int → Int) (s : Int), c_eq (τ.2.1 2) (τ.2.1 3) n f 0 s → ¬ c_eq (τ.2.1 2) (τ.2.1 3) m f 0 s
theorem j_nm0 (σ : S0) : j_nm σ σ := ⟨Int.le_refl _, Int.le_refl _, fun n _ _ => ⟨rfl, fun _ _ => Iff.rfl⟩, fun n _ a b => by omega, fun n m _ a b c => by omega⟩
theorem j_ce {σ τ : S0} (g2 : τ.2.1 2 = σ.2.1 2) (g3 : τ.2.1 3 = σ.2.1 3) (n : Int) (f : Int → Int) (m : Int) : c_eq (τ.2.1 2) (τ.2.1 3) n f 0 m ↔ c_eq (σ.2.1 2) (σ.2.1 3) n f 0 m := by rw [g2, g3]
theorem j_sp_e {σ τ : S0} (g2 : τ.2.1 2 = σ.2.1 2) (g3 : τ.2.1 3 = σ.2.1 3) (n : Int) : j_sp τ n ↔ j_sp σ n := by unfold j_sp; rw [g2, g3]
theorem j_nm_c {σ τ υ : S0} (a : j_nm σ τ) (w3 : υ.1 3 = τ.1 3) (w5 : υ.1 5 = τ.1 5) (g2 : υ.2.1 2 = τ.2.1 2) (g3 : υ.2.1 3 = τ.2.1 3) (g4 : υ.2.1 4 = τ.2.1 4) : j_nm σ υ := by
  obtain ⟨a1, a2, a3, a4, a5⟩ := a
  refine ⟨by omega, by omega, fun n n0 n1 => ?_, fun n nn n0 n1 => ?_, fun n m n0 n1 m0 m1 f s => by rw [g2, g3]; exact a5 n m n0 n1 m0 (by omega) f s⟩
  · have w := a3 n n0 n1
    rw [g4]; exact ⟨w.1, fun f m => (j_ce g2 g3 n f m).trans (w.2 f m)⟩
  · rw [g4]; exact a4 n nn n0 (by omega)
theorem j_nm_5 {σ τ υ : S0} (a : j_nm σ τ) (w3 : υ.1 3 = τ.1 3) (w5 : τ.1 5 ≤ υ.1 5) (g2 : υ.2.1 2 = τ.2.1 2) (g3 : υ.2.1 3 = τ.2.1 3) (g4 : υ.2.1 4 = τ.2.1 4) : j_nm σ υ := by
  obtain ⟨a1, a2, a3, a4, a5⟩ := a
  refine ⟨by omega, by omega, fun n n0 n1 => ?_, fun n nn n0 n1 => ?_, fun n m n0 n1 m0 m1 f s => by rw [g2, g3]; exact a5 n m n0 n1 m0 (by omega) f s⟩
  · have w := a3 n n0 n1
    rw [g4]; exact ⟨w.1, fun f m => (j_ce g2 g3 n f m).trans (w.2 f m)⟩
  · rw [g4]; exact a4 n nn n0 (by omega)
theorem j_nm_h {σ τ : S0} {wv wa wb : List Nat} (hf : f_r wv wa wb σ τ) (d : ([3, 5].all (fun i => !wv.contains i) && [2, 3, 4].all (fun k => !wa.contains k)) = true) : j_nm σ τ := by
  have d1 := (Bool.and_eq_true _ _ ▸ d).1
  have d2 := (Bool.and_eq_true _ _ ▸ d).2
  have v : ∀ i, i ∈ [3, 5] → τ.1 i = σ.1 i := fun i hi => hf.1 i (by have := List.all_eq_true.mp d1 i hi; simpa using this)
  have w : ∀ k, k ∈ [2, 3, 4] → τ.2.1 k = σ.2.1 k := fun k hk => hf.2.1 k (by have := List.all_eq_true.mp d2 k hk; simpa using this)
  exact j_nm_c (j_nm0 σ) (v 3 (by decide)) (v 5 (by decide)) (w 2 (by decide)) (w 3 (by decide)) (w 4 (by decide))
theorem j_nm_t {σ τ υ : S0} (a : j_nm σ τ) (b : j_nm τ υ) : j_nm σ υ := by
  obtain ⟨a1, a2, a3, a4, a5⟩ := a
  obtain ⟨b1, b2, b3, b4, b5⟩ := b
  refine ⟨by omega, by omega, fun n n0 n1 => ?_, fun n nn n0 n1 => ?_, fun n m n0 n1 m0 m1 f s h k => ?_⟩
  · have x := a3 n n0 n1; have y := b3 n n0 (by omega)
    exact ⟨y.1.trans x.1, fun f m => (y.2 f m).trans (x.2 f m)⟩
  · by_cases z : n < τ.1 3
    · rw [(b3 n nn z).1]; exact a4 n nn n0 z
    · have := b4 n nn (by omega) n1
      omega
  · by_cases z : m < τ.1 3
    · exact a5 n m n0 n1 m0 z f s (((b3 n n0 (by omega)).2 f s).mp h) (((b3 m (by omega) z).2 f s).mp k)
    · exact b5 n m n0 (by omega) (by omega) m1 f s h k
theorem j_nm_k {σ τ υ : S0} (a : j_nm σ τ) (w3 : υ.1 3 = σ.1 3) (w5 : υ.1 5 = σ.1 5) (g2 : υ.2.1 2 = τ.2.1 2) (g3 : υ.2.1 3 = τ.2.1 3) (g4 : υ.2.1 4 = τ.2.1 4) : j_nm σ υ := by
  obtain ⟨a1, a2, a3, a4, a5⟩ := a
  refine ⟨by omega, by omega, fun n n0 n1 => ?_, fun n _ n0 n1 => by omega, fun n m n0 n1 m0 m1 => by omega⟩
  have w := a3 n n0 n1
  rw [g4]; exact ⟨w.1, fun f m => (j_ce g2 g3 n f m).trans (w.2 f m)⟩
theorem j_nm_a {σ τ : S0} {x y : Int} (h : J_ht (σ.1 3) (σ.2.1 2) (σ.2.1 3) (σ.2.1 5) (σ.2.1 6)) (n3 : 0 ≤ σ.1 3) (e3 : τ.1 3 = σ.1 3 + 1) (e5 : σ.1 5 ≤ τ.1 5) (eL : ∀ j : Int, j < σ.2.1 3 (σ.1 3) → τ.2.1 2 j = σ.2.1 2 j) (eA : τ.2.1 3 = st (σ.2.1 3) (σ.1 3 + 1) y) (eM : τ.2.1 4 = st (σ.2.1 4) (σ.1 3) x) (hx : 0 ≤ x ∨ σ.1 5 ≤ -1 - x) {src : Int → Int} {p0 k3 : Int} (hy : y = σ.2.1 3 (σ.1 3) + k3) (hl : ∀ k : Int, 0 ≤ k → k < k3 → τ.2.1 2 (σ.2.1 3 (σ.1 3) + k) = src (p0 + k)) (nw : ∀ n : Int, 0 ≤ n → n < σ.1 3 → ¬ c_eq (σ.2.1 2) (σ.2.1 3) n src p0 k3) : j_nm σ τ := by
  have P3 : ∀ n : Int, 0 ≤ n → n < σ.1 3 → τ.2.1 4 n = σ.2.1 4 n ∧ ∀ (f : Int → Int) (m : Int), c_eq (τ.2.1 2) (τ.2.1 3) n f 0 m ↔ c_eq (σ.2.1 2) (σ.2.1 3) n f 0 m := fun n n0 n1 => by
    rw [eM, st_n _ _ (show n ≠ σ.1 3 from by omega)]
    refine ⟨rfl, fun f w => ?_⟩
    have m := J_ht_mono h (n := n + 1) (m := σ.1 3) (by omega) (by omega) (Int.le_refl _)
    unfold c_eq
    rw [eA, st_n _ _ (show n + 1 ≠ σ.1 3 + 1 from by omega), st_n _ _ (show n ≠ σ.1 3 + 1 from by omega)]
    refine ⟨fun q => ⟨q.1, fun k k0 k1 => ?_⟩, fun q => ⟨q.1, fun k k0 k1 => ?_⟩⟩
    · have := q.2 k k0 k1
      rw [eL _ (by have := q.1; omega)] at this; exact this
    · rw [eL _ (by have := q.1; omega)]; exact q.2 k k0 k1
  refine ⟨by omega, e5, P3, fun n nn n0 n1 => ?_, fun n m n0 n1 m0 m1 f s h k => ?_⟩
  · rw [eM, show n = σ.1 3 from by omega, st_s]; exact hx
  · have h2 := ((P3 n n0 n1).2 f s).mp h
    rw [show m = σ.1 3 from by omega] at k
    obtain ⟨k1, k2⟩ := k
    rw [eA, st_s, st_n _ _ (show σ.1 3 ≠ σ.1 3 + 1 from by omega), hy] at k1
    rw [eA, st_n _ _ (show σ.1 3 ≠ σ.1 3 + 1 from by omega)] at k2
    refine nw n n0 n1 ⟨by have := h2.1; omega, fun j j0 j1 => ?_⟩
    rw [h2.2 j j0 (by omega), ← k2 j j0 (by omega), hl j j0 j1]
set_option maxHeartbeats 1000000 in
theorem K2_X3_isName_q13 {n1 : Int} {n3 : Int} {n4 : Int} {σ : S0} (hT : c_T σ) (p1 : 0 ≤ n1) (p2 : n1 < 2500) (p3 : 0 ≤ n3) (p4 : n3 + n4 ≤ 60000) : W_X3_isName_q13 n1 n3 n4 σ (fun (x : Int) => (0 ≤ x ∧ x ≤ 1) ∧ (¬ x = 0 → c_eq (σ.2.1 2) (σ.2.1 3) n1 (σ.2.1 0) n3 n4) ∧ (x = 0 → ¬ c_eq (σ.2.1 2) (σ.2.1 3) n1 (σ.2.1 0) n3 n4)) := by
  have A3 : ∀ j, 0 ≤ σ.2.1 3 j ∧ σ.2.1 3 j ≤ 30000 := fun j => hT.2 3 j
  intro P29 h29
  have an1 := A3 n1
  have an2 := A3 (n1 + 1)
  have l_29 : ∀ (m_29 : Nat) (u5_29 : Int) (u6_29 : Int), 100001 - u6_29 < (m_29 : Int) → (n3 + n4 ≤ 60000) → (0 ≤ u5_29) → (u5_29 + n4 ≤ 30000) → (0 ≤ u6_29 ∧ u6_29 ≤ 100000 ∧ (u6_29 ≤ n4 ∨ u6_29 = 0)) → (u5_29 = σ.2.1 3 n1) → (σ.2.1 3 (n1 + 1) - σ.2.1 3 n1 = n4) → (∀ k : Int, 0 ≤ k → k < u6_29 → σ.2.1 2 (u5_29 + k) = σ.2.1 0 (n3 + k)) → P29 n3 n4 u5_29 u6_29 := by
    intro m_29
    induction m_29 with
    | zero =>
      intro u5_29 u6_29 hm i29_1 i29_2 i29_3 i29_4 i29_5 i29_6 i29_7
      exfalso; (first | omega | (simp only [st_s] <;> omega) | assumption | omega | fail)
    | succ m_29 ih_29 =>
      intro u5_29 u6_29 hm_29 i29_1 i29_2 i29_3 i29_4 i29_5 i29_6 i29_7
      refine h29 n3 n4 u5_29 u6_29 ?_
      refine ⟨fun c7 => ?_, fun c7 => ?_⟩
      ·
        exact ⟨(show 0 ≤ 1 ∧ 1 ≤ 1 from by (first | omega | (simp only [st_s] <;> omega) | assumption | omega | fail)), (show ¬ 1 = 0 → c_eq (σ.2.1 2) (σ.2.1 3) n1 (σ.2.1 0) n3 n4 from by (first | (intro z; exfalso; omega) | (intro _; exact ⟨i29_6, fun k h0 h1 => by have := i29_7 k h0 (by omega); rw [i29_5] at this; exact this⟩) | fail)), (show 1 = 0 → ¬ c_eq (σ.2.1 2) (σ.2.1 3) n1 (σ.2.1 0) n3 n4 from by (first | (intro z; exfalso; omega) | (intro _ h; exact c6 h.1) | (intro _ h; exact c12 (by have := h.2 u6_29 (by omega) (by omega); rw [e_x9, e_x11, i29_5]; exact this)) | fail))⟩
      ·
        refine ⟨(show 0 ≤ (u5_29 + u6_29) ∧ (u5_29 + u6_29) < 30000 from by (first | omega | (simp only [st_s] <;> omega) | assumption | omega | fail)), ?_⟩
        intro x9 r_x9 e_x9
        have b_x9 : 0 ≤ x9 ∧ x9 ≤ 65535 := by rw [e_x9]; exact hT.2 2 _
        refine ⟨(show 0 ≤ (n3 + u6_29) ∧ (n3 + u6_29) < 60000 from by (first | omega | (simp only [st_s] <;> omega) | assumption | omega | fail)), ?_⟩
        intro x11 r_x11 e_x11
        have b_x11 : 0 ≤ x11 ∧ x11 ≤ 255 := by rw [e_x11]; exact hT.2 0 _
        refine ⟨fun c12 => ?_, fun c12 => ?_⟩
        ·
          refine ⟨(⟨by (first | omega | (simp only [st_s] <;> omega) | assumption | omega | fail), by (first | omega | (simp only [st_s] <;> omega) | assumption | omega | fail)⟩ : rg (u6_29 + 1)), ?_⟩
          exact ih_29 _ _ (show (100001 - (u6_29 + 1) : Int) < ((m_29 : Nat) : Int) from by ((first | omega | (simp only [st_s] <;> omega) | assumption | omega | fail))) (show n3 + n4 ≤ 60000 from by (first | omega | (simp only [st_s] <;> omega) | assumption | omega | fail)) (show 0 ≤ u5_29 from by (first | omega | (simp only [st_s] <;> omega) | assumption | omega | fail)) (show u5_29 + n4 ≤ 30000 from by (first | omega | (simp only [st_s] <;> omega) | assumption | omega | fail)) (show 0 ≤ (u6_29 + 1) ∧ (u6_29 + 1) ≤ 100000 ∧ ((u6_29 + 1) ≤ n4 ∨ (u6_29 + 1) = 0) from by (first | omega | (simp only [st_s] <;> omega) | assumption | omega | fail)) (show u5_29 = σ.2.1 3 n1 from by (first | omega | (simp only [st_s] <;> omega) | assumption | omega | fail)) (show σ.2.1 3 (n1 + 1) - σ.2.1 3 n1 = n4 from by (first | omega | (simp only [st_s] <;> omega) | assumption | omega | fail)) (show ∀ k : Int, 0 ≤ k → k < (u6_29 + 1) → σ.2.1 2 (u5_29 + k) = σ.2.1 0 (n3 + k) from by (intro k h0 h1; first | (exfalso; omega) | (by_cases z : k = u6_29; (rw [z, ← e_x9, ← e_x11]; exact c12); exact i29_7 k h0 (by omega))))
        ·
          exact ⟨(show 0 ≤ 0 ∧ 0 ≤ 1 from by (first | omega | (simp only [st_s] <;> omega) | assumption | omega | fail)), (show ¬ 0 = 0 → c_eq (σ.2.1 2) (σ.2.1 3) n1 (σ.2.1 0) n3 n4 from by (first | (intro z; exfalso; omega) | (intro _; exact ⟨i29_6, fun k h0 h1 => by have := i29_7 k h0 (by omega); rw [i29_5] at this; exact this⟩) | fail)), (show 0 = 0 → ¬ c_eq (σ.2.1 2) (σ.2.1 3) n1 (σ.2.1 0) n3 n4 from by (first | (intro z; exfalso; omega) | (intro _ h; exact c6 h.1) | (intro _ h; exact c12 (by have := h.2 u6_29 (by omega) (by omega); rw [e_x9, e_x11, i29_5]; exact this)) | fail))⟩
  refine ⟨(show 0 ≤ n1 ∧ n1 < 2501 from by (first | omega | (simp only [st_s] <;> omega) | assumption | omega | fail)), ?_⟩
  intro x2 r_x2 e_x2
  have b_x2 : 0 ≤ x2 ∧ x2 ≤ 30000 := by rw [e_x2]; exact hT.2 3 _
  refine ⟨(show 0 ≤ (n1 + 1) ∧ (n1 + 1) < 2501 from by (first | omega | (simp only [st_s] <;> omega) | assumption | omega | fail)), ?_⟩
  intro x4 r_x4 e_x4
  have b_x4 : 0 ≤ x4 ∧ x4 ≤ 30000 := by rw [e_x4]; exact hT.2 3 _
  refine ⟨(⟨by (first | omega | (simp only [st_s] <;> omega) | assumption | omega | fail), by (first | omega | (simp only [st_s] <;> omega) | assumption | omega | fail)⟩ : rg (x4 - x2)), ?_⟩
  refine ⟨fun c6 => ?_, fun c6 => ?_⟩
  ·
    rw [e_x4, e_x2] at c6
    exact l_29 ((100001 - 0 : Int).toNat + 1) _ _ (show (100001 - 0 : Int) < (((100001 - 0 : Int).toNat + 1 : Nat) : Int) from by ((first | omega | (simp only [st_s] <;> omega) | assumption | omega | fail))) (show n3 + n4 ≤ 60000 from by (first | omega | (simp only [st_s] <;> omega) | assumption | omega | fail)) (show 0 ≤ x2 from by (first | omega | (simp only [st_s] <;> omega) | assumption | omega | fail)) (show x2 + n4 ≤ 30000 from by (first | omega | (simp only [st_s] <;> omega) | assumption | omega | fail)) (show 0 ≤ 0 ∧ 0 ≤ 100000 ∧ (0 ≤ n4 ∨ 0 = 0) from by (first | omega | (simp only [st_s] <;> omega) | assumption | omega | fail)) (show x2 = σ.2.1 3 n1 from by (first | omega | (simp only [st_s] <;> omega) | assumption | omega | fail)) (show σ.2.1 3 (n1 + 1) - σ.2.1 3 n1 = n4 from by (first | omega | (simp only [st_s] <;> omega) | assumption | omega | fail)) (show ∀ k : Int, 0 ≤ k → k < 0 → σ.2.1 2 (x2 + k) = σ.2.1 0 (n3 + k) from by (intro k h0 h1; first | (exfalso; omega) | (by_cases z : k = u6_29; (rw [z, ← e_x9, ← e_x11]; exact c12); exact i29_7 k h0 (by omega))))
  ·
    rw [e_x4, e_x2] at c6
    exact ⟨(show 0 ≤ 0 ∧ 0 ≤ 1 from by (first | omega | (simp only [st_s] <;> omega) | assumption | omega | fail)), (show ¬ 0 = 0 → c_eq (σ.2.1 2) (σ.2.1 3) n1 (σ.2.1 0) n3 n4 from by (first | (intro z; exfalso; omega) | (intro _; exact ⟨i29_6, fun k h0 h1 => by have := i29_7 k h0 (by omega); rw [i29_5] at this; exact this⟩) | fail)), (show 0 = 0 → ¬ c_eq (σ.2.1 2) (σ.2.1 3) n1 (σ.2.1 0) n3 n4 from by (first | (intro z; exfalso; omega) | (intro _ h; exact c6 h.1) | (intro _ h; exact c12 (by have := h.2 u6_29 (by omega) (by omega); rw [e_x9, e_x11, i29_5]; exact this)) | fail))⟩
set_option maxHeartbeats 1000000 in
theorem K2_X3_nameOf_q13 {n2 : Int} {n3 : Int} {σ : S0} (hT : c_T σ) (p1 : 0 ≤ n2) (p2 : n2 + n3 ≤ 60000) (p3 : J_ht (σ.1 3) (σ.2.1 2) (σ.2.1 3) (σ.2.1 5) (σ.2.1 6)) : W_X3_nameOf_q13 n2 n3 σ (fun (x : Int) => (-1 ≤ x) ∧ (x < (σ.1 3)) ∧ (0 ≤ x → c_eq (σ.2.1 2) (σ.2.1 3) x (σ.2.1 0) n2 n3) ∧ (x = -1 → ∀ n : Int, 0 ≤ n → n < (σ.1 3) → ¬ c_eq (σ.2.1 2) (σ.2.1 3) n (σ.2.1 0) n2 n3) ∧ (0 ≤ x → ∀ n : Int, x < n → n < (σ.1 3) → ¬ c_eq (σ.2.1 2) (σ.2.1 3) n (σ.2.1 0) n2 n3)) := by
  have A2 : ∀ j, 0 ≤ σ.2.1 2 j ∧ σ.2.1 2 j ≤ 65535 := fun j => hT.2 2 j
  have A3 : ∀ j, 0 ≤ σ.2.1 3 j ∧ σ.2.1 3 j ≤ 30000 := fun j => hT.2 3 j
  have A5 : ∀ j, 0 ≤ σ.2.1 5 j ∧ σ.2.1 5 j ≤ 2500 := fun j => hT.2 5 j
  have A6 : ∀ j, 0 ≤ σ.2.1 6 j ∧ σ.2.1 6 j ≤ 2500 := fun j => hT.2 6 j
  have v3 : 0 ≤ σ.1 3 ∧ σ.1 3 ≤ 2500 := hT.1 3
  intro P16 h16
  have HT : J_ht (σ.1 3) (σ.2.1 2) (σ.2.1 3) (σ.2.1 5) (σ.2.1 6) := p3
  have HT_0 := HT
  have l_16 : ∀ (m_16 : Nat) (u4_16 : Int) (u5_16 : Int), 2501 - u5_16 < (m_16 : Int) → (0 ≤ u4_16) → (u4_16 ≤ (σ.1 3)) → (0 ≤ u5_16) → (u4_16 + u5_16 ≤ 2500) → (u4_16 = 0 ∨ c_bk (σ.2.1 2) (σ.2.1 3) (u4_16 - 1) = h_b (σ.2.1 0) n2 n3) → (∀ k : Int, u4_16 ≤ k → k < (σ.1 3) → ¬ c_eq (σ.2.1 2) (σ.2.1 3) k (σ.2.1 0) n2 n3) → P16 n2 n3 u4_16 u5_16 := by
    intro m_16
    induction m_16 with
    | zero =>
      intro u4_16 u5_16 hm i16_1 i16_2 i16_3 i16_4 i16_5 i16_6
      exfalso; (first | omega | (simp only [st_s] <;> omega) | assumption | omega | fail)
    | succ m_16 ih_16 =>
      intro u4_16 u5_16 hm_16 i16_1 i16_2 i16_3 i16_4 i16_5 i16_6
      refine h16 n2 n3 u4_16 u5_16 ?_
      refine ⟨fun c6 => ?_, fun c6 => ?_⟩
      ·
        exact ⟨(show -1 ≤ (-1) from by (first | omega | (simp only [st_s] <;> omega) | assumption | omega | fail)), (show (-1) < (σ.1 3) from by (first | omega | (simp only [st_s] <;> omega) | assumption | omega | fail)), (show 0 ≤ (-1) → c_eq (σ.2.1 2) (σ.2.1 3) (-1) (σ.2.1 0) n2 n3 from by (first | (intro z; exfalso; omega) | (intro _; exact q9_2 c12) | fail)), (show (-1) = -1 → ∀ n : Int, 0 ≤ n → n < (σ.1 3) → ¬ c_eq (σ.2.1 2) (σ.2.1 3) n (σ.2.1 0) n2 n3 from by (first | (intro z; exfalso; omega) | (intro _ k k0 k1; exact i16_6 k (by omega) k1) | fail)), (show 0 ≤ (-1) → ∀ n : Int, (-1) < n → n < (σ.1 3) → ¬ c_eq (σ.2.1 2) (σ.2.1 3) n (σ.2.1 0) n2 n3 from by (first | (intro z; exfalso; omega) | (intro _ k k0 k1; exact i16_6 k (by omega) k1) | fail))⟩
      ·
        refine ⟨fun c7 => ?_, fun c7 => ?_⟩
        ·
          exact ⟨(show -1 ≤ (-1) from by (first | omega | (simp only [st_s] <;> omega) | assumption | omega | fail)), (show (-1) < (σ.1 3) from by (first | omega | (simp only [st_s] <;> omega) | assumption | omega | fail)), (show 0 ≤ (-1) → c_eq (σ.2.1 2) (σ.2.1 3) (-1) (σ.2.1 0) n2 n3 from by (first | (intro z; exfalso; omega) | (intro _; exact q9_2 c12) | fail)), (show (-1) = -1 → ∀ n : Int, 0 ≤ n → n < (σ.1 3) → ¬ c_eq (σ.2.1 2) (σ.2.1 3) n (σ.2.1 0) n2 n3 from by (first | (intro z; exfalso; omega) | (intro _ k k0 k1; exact i16_6 k (by omega) k1) | fail)), (show 0 ≤ (-1) → ∀ n : Int, (-1) < n → n < (σ.1 3) → ¬ c_eq (σ.2.1 2) (σ.2.1 3) n (σ.2.1 0) n2 n3 from by (first | (intro z; exfalso; omega) | (intro _ k k0 k1; exact i16_6 k (by omega) k1) | fail))⟩
        ·
          refine ⟨(⟨by (first | omega | (simp only [st_s] <;> omega) | assumption | omega | fail), by (first | omega | (simp only [st_s] <;> omega) | assumption | omega | fail)⟩ : rg (u4_16 - 1)), ?_⟩
          refine ⟨_, K2_X3_isName_q13 hT (show 0 ≤ (u4_16 - 1) from by (first | omega | (simp only [st_s] <;> omega) | assumption | omega | fail)) (show (u4_16 - 1) < 2500 from by (first | omega | (simp only [st_s] <;> omega) | assumption | omega | fail)) (show 0 ≤ n2 from by (first | omega | (simp only [st_s] <;> omega) | assumption | omega | fail)) (show n2 + n3 ≤ 60000 from by (first | omega | (simp only [st_s] <;> omega) | assumption | omega | fail)), ?_⟩
          intro x10 r_x10 hq
          obtain ⟨q9_1, q9_2, q9_3⟩ := hq
          replace q9_1 : 0 ≤ x10 ∧ x10 ≤ 1 := q9_1
          replace q9_2 : ¬ x10 = 0 → c_eq (σ.2.1 2) (σ.2.1 3) (u4_16 - 1) (σ.2.1 0) n2 n3 := q9_2
          replace q9_3 : x10 = 0 → ¬ c_eq (σ.2.1 2) (σ.2.1 3) (u4_16 - 1) (σ.2.1 0) n2 n3 := q9_3
          refine ⟨fun c12 => ?_, fun c12 => ?_⟩
          ·
            refine ⟨(show 0 ≤ (u4_16 - 1) ∧ (u4_16 - 1) < 2500 from by (first | omega | (simp only [st_s] <;> omega) | assumption | omega | fail)), ?_⟩
            intro x14 r_x14 e_x14
            have b_x14 : 0 ≤ x14 ∧ x14 ≤ 2500 := by rw [e_x14]; exact hT.2 5 _
            have hh := p3.2 (u4_16 - 1) (by omega) (by omega)
            rw [← e_x14] at hh
            refine ⟨(⟨by (first | omega | (simp only [st_s] <;> omega) | assumption | omega | fail), by (first | omega | (simp only [st_s] <;> omega) | assumption | omega | fail)⟩ : rg (u5_16 + 1)), ?_⟩
            exact ih_16 _ _ (show (2501 - (u5_16 + 1) : Int) < ((m_16 : Nat) : Int) from by ((first | omega | (simp only [st_s] <;> omega) | assumption | omega | fail))) (show 0 ≤ x14 from by (first | omega | (simp only [st_s] <;> omega) | assumption | omega | fail)) (show x14 ≤ (σ.1 3) from by (first | omega | (simp only [st_s] <;> omega) | assumption | omega | fail)) (show 0 ≤ (u5_16 + 1) from by (first | omega | (simp only [st_s] <;> omega) | assumption | omega | fail)) (show x14 + (u5_16 + 1) ≤ 2500 from by (first | omega | (simp only [st_s] <;> omega) | assumption | omega | fail)) (show x14 = 0 ∨ c_bk (σ.2.1 2) (σ.2.1 3) (x14 - 1) = h_b (σ.2.1 0) n2 n3 from by (first | (have q9 := hh.2.2.1; rcases q9 with q | q; exact Or.inl q; have q9 := i16_5; rcases q9 with r | r; exfalso; omega; exact Or.inr (q.trans r)) | (have q9 := hb.2.2.1; rcases q9 with q | q; exact Or.inl q; exact Or.inr (q.trans q1_2)) | fail)) (show ∀ k : Int, x14 ≤ k → k < (σ.1 3) → ¬ c_eq (σ.2.1 2) (σ.2.1 3) k (σ.2.1 0) n2 n3 from by (first | (intro k k0 k1 e; rcases (by omega : u4_16 ≤ k ∨ k = u4_16 - 1 ∨ k < u4_16 - 1) with y | y | y; exact i16_6 k y k1 e; (rw [y] at e; exact q9_3 c12 e); (have q9 := i16_5; rcases q9 with r | r; omega; exact hh.2.2.2.1 k k0 y ((c_eq_b e).trans r.symm))) | (intro k k0 k1 e; exact hb.2.2.2 k k0 k1 ((c_eq_b e).trans q1_2.symm)) | fail))
          ·
            exact ⟨(show -1 ≤ (u4_16 - 1) from by (first | omega | (simp only [st_s] <;> omega) | assumption | omega | fail)), (show (u4_16 - 1) < (σ.1 3) from by (first | omega | (simp only [st_s] <;> omega) | assumption | omega | fail)), (show 0 ≤ (u4_16 - 1) → c_eq (σ.2.1 2) (σ.2.1 3) (u4_16 - 1) (σ.2.1 0) n2 n3 from by (first | (intro z; exfalso; omega) | (intro _; exact q9_2 c12) | fail)), (show (u4_16 - 1) = -1 → ∀ n : Int, 0 ≤ n → n < (σ.1 3) → ¬ c_eq (σ.2.1 2) (σ.2.1 3) n (σ.2.1 0) n2 n3 from by (first | (intro z; exfalso; omega) | (intro _ k k0 k1; exact i16_6 k (by omega) k1) | fail)), (show 0 ≤ (u4_16 - 1) → ∀ n : Int, (u4_16 - 1) < n → n < (σ.1 3) → ¬ c_eq (σ.2.1 2) (σ.2.1 3) n (σ.2.1 0) n2 n3 from by (first | (intro z; exfalso; omega) | (intro _ k k0 k1; exact i16_6 k (by omega) k1) | fail))⟩
  refine ⟨_, K_X3_bucket_q13 hT (show 0 ≤ n2 from by (first | omega | (simp only [st_s] <;> omega) | assumption | omega | fail)) (show n2 + n3 ≤ 60000 from by (first | omega | (simp only [st_s] <;> omega) | assumption | omega | fail)), ?_⟩
  intro x2 r_x2 hq
  obtain ⟨q1_1, q1_2⟩ := hq
  replace q1_1 : 0 ≤ x2 ∧ x2 < 4096 := q1_1
  replace q1_2 : x2 = h_b (σ.2.1 0) n2 n3 := q1_2
  refine ⟨(show 0 ≤ x2 ∧ x2 < 4096 from by (first | omega | (simp only [st_s] <;> omega) | assumption | omega | fail)), ?_⟩
  intro x5 r_x5 e_x5
  have b_x5 : 0 ≤ x5 ∧ x5 ≤ 2500 := by rw [e_x5]; exact hT.2 6 _
  have hb := p3.1 x2 (by omega) (by omega)
  rw [← e_x5] at hb
  exact l_16 ((2501 - 0 : Int).toNat + 1) _ _ (show (2501 - 0 : Int) < (((2501 - 0 : Int).toNat + 1 : Nat) : Int) from by ((first | omega | (simp only [st_s] <;> omega) | assumption | omega | fail))) (show 0 ≤ x5 from by (first | omega | (simp only [st_s] <;> omega) | assumption | omega | fail)) (show x5 ≤ (σ.1 3) from by (first | omega | (simp only [st_s] <;> omega) | assumption | omega | fail)) (show 0 ≤ 0 from by (first | omega | (simp only [st_s] <;> omega) | assumption | omega | fail)) (show x5 + 0 ≤ 2500 from by (first | omega | (simp only [st_s] <;> omega) | assumption | omega | fail)) (show x5 = 0 ∨ c_bk (σ.2.1 2) (σ.2.1 3) (x5 - 1) = h_b (σ.2.1 0) n2 n3 from by (first | (have q9 := hh.2.2.1; rcases q9 with q | q; exact Or.inl q; have q9 := i16_5; rcases q9 with r | r; exfalso; omega; exact Or.inr (q.trans r)) | (have q9 := hb.2.2.1; rcases q9 with q | q; exact Or.inl q; exact Or.inr (q.trans q1_2)) | fail)) (show ∀ k : Int, x5 ≤ k → k < (σ.1 3) → ¬ c_eq (σ.2.1 2) (σ.2.1 3) k (σ.2.1 0) n2 n3 from by (first | (intro k k0 k1 e; rcases (by omega : u4_16 ≤ k ∨ k = u4_16 - 1 ∨ k < u4_16 - 1) with y | y | y; exact i16_6 k y k1 e; (rw [y] at e; exact q9_3 c12 e); (have q9 := i16_5; rcases q9 with r | r; omega; exact hh.2.2.2.1 k k0 y ((c_eq_b e).trans r.symm))) | (intro k k0 k1 e; exact hb.2.2.2 k k0 k1 ((c_eq_b e).trans q1_2.symm)) | fail))
set_option maxHeartbeats 1000000 in
theorem K2_X12_isLabelCharacter {n0 : Int} {σ : S0} (hT : c_T σ) : W_X12_isLabelCharacter n0 σ (fun (x : Int) => (0 ≤ x ∧ x ≤ 1) ∧ (¬ x = 0 → j_lc n0) ∧ (j_lc n0 → ¬ x = 0)) := by
  intro P12 P29 P46 h12 h29 h46
  refine ⟨fun c1 => ?_, fun c1 => ?_⟩
  ·
    refine h12 _ ?_
    refine ⟨fun c3 => ?_, fun c3 => ?_⟩
    ·
      refine h29 _ _ ?_
      refine ⟨fun c5 => ?_, fun c5 => ?_⟩
      ·
        exact ⟨(show 0 ≤ 1 ∧ 1 ≤ 1 from by (first | omega | (simp only [st_s] <;> omega) | assumption | omega | fail)), (show ¬ 1 = 0 → j_lc n0 from by (unfold j_lc; omega)), (show j_lc n0 → ¬ 1 = 0 from by (unfold j_lc; omega))⟩
      ·
        refine ⟨fun c6 => ?_, fun c6 => ?_⟩
        ·
          refine h46 _ ?_
          refine ⟨fun c8 => ?_, fun c8 => ?_⟩
          ·
            exact ⟨(show 0 ≤ 1 ∧ 1 ≤ 1 from by (first | omega | (simp only [st_s] <;> omega) | assumption | omega | fail)), (show ¬ 1 = 0 → j_lc n0 from by (unfold j_lc; omega)), (show j_lc n0 → ¬ 1 = 0 from by (unfold j_lc; omega))⟩
          ·
            refine ⟨fun c9 => ?_, fun c9 => ?_⟩
            ·
              exact ⟨(show 0 ≤ 1 ∧ 1 ≤ 1 from by (first | omega | (simp only [st_s] <;> omega) | assumption | omega | fail)), (show ¬ 1 = 0 → j_lc n0 from by (unfold j_lc; omega)), (show j_lc n0 → ¬ 1 = 0 from by (unfold j_lc; omega))⟩
            ·
              refine ⟨fun c10 => ?_, fun c10 => ?_⟩
              ·
                exact ⟨(show 0 ≤ 0 ∧ 0 ≤ 1 from by (first | omega | (simp only [st_s] <;> omega) | assumption | omega | fail)), (show ¬ 0 = 0 → j_lc n0 from by (unfold j_lc; omega)), (show j_lc n0 → ¬ 0 = 0 from by (unfold j_lc; omega))⟩
              ·
                exact ⟨(show 0 ≤ 1 ∧ 1 ≤ 1 from by (first | omega | (simp only [st_s] <;> omega) | assumption | omega | fail)), (show ¬ 1 = 0 → j_lc n0 from by (unfold j_lc; omega)), (show j_lc n0 → ¬ 1 = 0 from by (unfold j_lc; omega))⟩
        ·
          refine ⟨fun c7 => ?_, fun c7 => ?_⟩
          ·
            exact ⟨(show 0 ≤ 1 ∧ 1 ≤ 1 from by (first | omega | (simp only [st_s] <;> omega) | assumption | omega | fail)), (show ¬ 1 = 0 → j_lc n0 from by (unfold j_lc; omega)), (show j_lc n0 → ¬ 1 = 0 from by (unfold j_lc; omega))⟩
          ·
            refine h46 _ ?_
            refine ⟨fun c8 => ?_, fun c8 => ?_⟩
            ·
              exact ⟨(show 0 ≤ 1 ∧ 1 ≤ 1 from by (first | omega | (simp only [st_s] <;> omega) | assumption | omega | fail)), (show ¬ 1 = 0 → j_lc n0 from by (unfold j_lc; omega)), (show j_lc n0 → ¬ 1 = 0 from by (unfold j_lc; omega))⟩
            ·
              refine ⟨fun c9 => ?_, fun c9 => ?_⟩
              ·
                exact ⟨(show 0 ≤ 1 ∧ 1 ≤ 1 from by (first | omega | (simp only [st_s] <;> omega) | assumption | omega | fail)), (show ¬ 1 = 0 → j_lc n0 from by (unfold j_lc; omega)), (show j_lc n0 → ¬ 1 = 0 from by (unfold j_lc; omega))⟩
              ·
                refine ⟨fun c10 => ?_, fun c10 => ?_⟩
                ·
                  exact ⟨(show 0 ≤ 0 ∧ 0 ≤ 1 from by (first | omega | (simp only [st_s] <;> omega) | assumption | omega | fail)), (show ¬ 0 = 0 → j_lc n0 from by (unfold j_lc; omega)), (show j_lc n0 → ¬ 0 = 0 from by (unfold j_lc; omega))⟩
                ·
                  exact ⟨(show 0 ≤ 1 ∧ 1 ≤ 1 from by (first | omega | (simp only [st_s] <;> omega) | assumption | omega | fail)), (show ¬ 1 = 0 → j_lc n0 from by (unfold j_lc; omega)), (show j_lc n0 → ¬ 1 = 0 from by (unfold j_lc; omega))⟩
    ·
      refine ⟨fun c4 => ?_, fun c4 => ?_⟩
      ·
        refine h29 _ _ ?_
        refine ⟨fun c5 => ?_, fun c5 => ?_⟩
        ·
          exact ⟨(show 0 ≤ 1 ∧ 1 ≤ 1 from by (first | omega | (simp only [st_s] <;> omega) | assumption | omega | fail)), (show ¬ 1 = 0 → j_lc n0 from by (unfold j_lc; omega)), (show j_lc n0 → ¬ 1 = 0 from by (unfold j_lc; omega))⟩
        ·
          refine ⟨fun c6 => ?_, fun c6 => ?_⟩
          ·
            refine h46 _ ?_
            refine ⟨fun c8 => ?_, fun c8 => ?_⟩
            ·
              exact ⟨(show 0 ≤ 1 ∧ 1 ≤ 1 from by (first | omega | (simp only [st_s] <;> omega) | assumption | omega | fail)), (show ¬ 1 = 0 → j_lc n0 from by (unfold j_lc; omega)), (show j_lc n0 → ¬ 1 = 0 from by (unfold j_lc; omega))⟩
            ·
              refine ⟨fun c9 => ?_, fun c9 => ?_⟩
              ·
                exact ⟨(show 0 ≤ 1 ∧ 1 ≤ 1 from by (first | omega | (simp only [st_s] <;> omega) | assumption | omega | fail)), (show ¬ 1 = 0 → j_lc n0 from by (unfold j_lc; omega)), (show j_lc n0 → ¬ 1 = 0 from by (unfold j_lc; omega))⟩
              ·
                refine ⟨fun c10 => ?_, fun c10 => ?_⟩
                ·
                  exact ⟨(show 0 ≤ 0 ∧ 0 ≤ 1 from by (first | omega | (simp only [st_s] <;> omega) | assumption | omega | fail)), (show ¬ 0 = 0 → j_lc n0 from by (unfold j_lc; omega)), (show j_lc n0 → ¬ 0 = 0 from by (unfold j_lc; omega))⟩
                ·
                  exact ⟨(show 0 ≤ 1 ∧ 1 ≤ 1 from by (first | omega | (simp only [st_s] <;> omega) | assumption | omega | fail)), (show ¬ 1 = 0 → j_lc n0 from by (unfold j_lc; omega)), (show j_lc n0 → ¬ 1 = 0 from by (unfold j_lc; omega))⟩
          ·
            refine ⟨fun c7 => ?_, fun c7 => ?_⟩
            ·
              exact ⟨(show 0 ≤ 1 ∧ 1 ≤ 1 from by (first | omega | (simp only [st_s] <;> omega) | assumption | omega | fail)), (show ¬ 1 = 0 → j_lc n0 from by (unfold j_lc; omega)), (show j_lc n0 → ¬ 1 = 0 from by (unfold j_lc; omega))⟩
            ·
              refine h46 _ ?_
              refine ⟨fun c8 => ?_, fun c8 => ?_⟩
              ·
                exact ⟨(show 0 ≤ 1 ∧ 1 ≤ 1 from by (first | omega | (simp only [st_s] <;> omega) | assumption | omega | fail)), (show ¬ 1 = 0 → j_lc n0 from by (unfold j_lc; omega)), (show j_lc n0 → ¬ 1 = 0 from by (unfold j_lc; omega))⟩
              ·
                refine ⟨fun c9 => ?_, fun c9 => ?_⟩
                ·
                  exact ⟨(show 0 ≤ 1 ∧ 1 ≤ 1 from by (first | omega | (simp only [st_s] <;> omega) | assumption | omega | fail)), (show ¬ 1 = 0 → j_lc n0 from by (unfold j_lc; omega)), (show j_lc n0 → ¬ 1 = 0 from by (unfold j_lc; omega))⟩
                ·
                  refine ⟨fun c10 => ?_, fun c10 => ?_⟩
                  ·
                    exact ⟨(show 0 ≤ 0 ∧ 0 ≤ 1 from by (first | omega | (simp only [st_s] <;> omega) | assumption | omega | fail)), (show ¬ 0 = 0 → j_lc n0 from by (unfold j_lc; omega)), (show j_lc n0 → ¬ 0 = 0 from by (unfold j_lc; omega))⟩
                  ·
                    exact ⟨(show 0 ≤ 1 ∧ 1 ≤ 1 from by (first | omega | (simp only [st_s] <;> omega) | assumption | omega | fail)), (show ¬ 1 = 0 → j_lc n0 from by (unfold j_lc; omega)), (show j_lc n0 → ¬ 1 = 0 from by (unfold j_lc; omega))⟩
      ·
        refine h29 _ _ ?_
        refine ⟨fun c5 => ?_, fun c5 => ?_⟩
        ·
          exact ⟨(show 0 ≤ 1 ∧ 1 ≤ 1 from by (first | omega | (simp only [st_s] <;> omega) | assumption | omega | fail)), (show ¬ 1 = 0 → j_lc n0 from by (unfold j_lc; omega)), (show j_lc n0 → ¬ 1 = 0 from by (unfold j_lc; omega))⟩
        ·
          refine ⟨fun c6 => ?_, fun c6 => ?_⟩
          ·
            refine h46 _ ?_
            refine ⟨fun c8 => ?_, fun c8 => ?_⟩
            ·
              exact ⟨(show 0 ≤ 1 ∧ 1 ≤ 1 from by (first | omega | (simp only [st_s] <;> omega) | assumption | omega | fail)), (show ¬ 1 = 0 → j_lc n0 from by (unfold j_lc; omega)), (show j_lc n0 → ¬ 1 = 0 from by (unfold j_lc; omega))⟩
            ·
              refine ⟨fun c9 => ?_, fun c9 => ?_⟩
              ·
                exact ⟨(show 0 ≤ 1 ∧ 1 ≤ 1 from by (first | omega | (simp only [st_s] <;> omega) | assumption | omega | fail)), (show ¬ 1 = 0 → j_lc n0 from by (unfold j_lc; omega)), (show j_lc n0 → ¬ 1 = 0 from by (unfold j_lc; omega))⟩
              ·
                refine ⟨fun c10 => ?_, fun c10 => ?_⟩
                ·
                  exact ⟨(show 0 ≤ 0 ∧ 0 ≤ 1 from by (first | omega | (simp only [st_s] <;> omega) | assumption | omega | fail)), (show ¬ 0 = 0 → j_lc n0 from by (unfold j_lc; omega)), (show j_lc n0 → ¬ 0 = 0 from by (unfold j_lc; omega))⟩
                ·
                  exact ⟨(show 0 ≤ 1 ∧ 1 ≤ 1 from by (first | omega | (simp only [st_s] <;> omega) | assumption | omega | fail)), (show ¬ 1 = 0 → j_lc n0 from by (unfold j_lc; omega)), (show j_lc n0 → ¬ 1 = 0 from by (unfold j_lc; omega))⟩
          ·
            refine ⟨fun c7 => ?_, fun c7 => ?_⟩
            ·
              exact ⟨(show 0 ≤ 1 ∧ 1 ≤ 1 from by (first | omega | (simp only [st_s] <;> omega) | assumption | omega | fail)), (show ¬ 1 = 0 → j_lc n0 from by (unfold j_lc; omega)), (show j_lc n0 → ¬ 1 = 0 from by (unfold j_lc; omega))⟩
            ·
              refine h46 _ ?_
              refine ⟨fun c8 => ?_, fun c8 => ?_⟩
              ·
                exact ⟨(show 0 ≤ 1 ∧ 1 ≤ 1 from by (first | omega | (simp only [st_s] <;> omega) | assumption | omega | fail)), (show ¬ 1 = 0 → j_lc n0 from by (unfold j_lc; omega)), (show j_lc n0 → ¬ 1 = 0 from by (unfold j_lc; omega))⟩
              ·
                refine ⟨fun c9 => ?_, fun c9 => ?_⟩
                ·
                  exact ⟨(show 0 ≤ 1 ∧ 1 ≤ 1 from by (first | omega | (simp only [st_s] <;> omega) | assumption | omega | fail)), (show ¬ 1 = 0 → j_lc n0 from by (unfold j_lc; omega)), (show j_lc n0 → ¬ 1 = 0 from by (unfold j_lc; omega))⟩
                ·
                  refine ⟨fun c10 => ?_, fun c10 => ?_⟩
                  ·
                    exact ⟨(show 0 ≤ 0 ∧ 0 ≤ 1 from by (first | omega | (simp only [st_s] <;> omega) | assumption | omega | fail)), (show ¬ 0 = 0 → j_lc n0 from by (unfold j_lc; omega)), (show j_lc n0 → ¬ 0 = 0 from by (unfold j_lc; omega))⟩
                  ·
                    exact ⟨(show 0 ≤ 1 ∧ 1 ≤ 1 from by (first | omega | (simp only [st_s] <;> omega) | assumption | omega | fail)), (show ¬ 1 = 0 → j_lc n0 from by (unfold j_lc; omega)), (show j_lc n0 → ¬ 1 = 0 from by (unfold j_lc; omega))⟩
  ·
    refine ⟨fun c2 => ?_, fun c2 => ?_⟩
    ·
      refine h29 _ _ ?_
      refine ⟨fun c5 => ?_, fun c5 => ?_⟩
      ·
        exact ⟨(show 0 ≤ 1 ∧ 1 ≤ 1 from by (first | omega | (simp only [st_s] <;> omega) | assumption | omega | fail)), (show ¬ 1 = 0 → j_lc n0 from by (unfold j_lc; omega)), (show j_lc n0 → ¬ 1 = 0 from by (unfold j_lc; omega))⟩
      ·
        refine ⟨fun c6 => ?_, fun c6 => ?_⟩
        ·
          refine h46 _ ?_
          refine ⟨fun c8 => ?_, fun c8 => ?_⟩
          ·
            exact ⟨(show 0 ≤ 1 ∧ 1 ≤ 1 from by (first | omega | (simp only [st_s] <;> omega) | assumption | omega | fail)), (show ¬ 1 = 0 → j_lc n0 from by (unfold j_lc; omega)), (show j_lc n0 → ¬ 1 = 0 from by (unfold j_lc; omega))⟩
          ·
            refine ⟨fun c9 => ?_, fun c9 => ?_⟩
            ·
              exact ⟨(show 0 ≤ 1 ∧ 1 ≤ 1 from by (first | omega | (simp only [st_s] <;> omega) | assumption | omega | fail)), (show ¬ 1 = 0 → j_lc n0 from by (unfold j_lc; omega)), (show j_lc n0 → ¬ 1 = 0 from by (unfold j_lc; omega))⟩
            ·
              refine ⟨fun c10 => ?_, fun c10 => ?_⟩
              ·
                exact ⟨(show 0 ≤ 0 ∧ 0 ≤ 1 from by (first | omega | (simp only [st_s] <;> omega) | assumption | omega | fail)), (show ¬ 0 = 0 → j_lc n0 from by (unfold j_lc; omega)), (show j_lc n0 → ¬ 0 = 0 from by (unfold j_lc; omega))⟩
              ·
                exact ⟨(show 0 ≤ 1 ∧ 1 ≤ 1 from by (first | omega | (simp only [st_s] <;> omega) | assumption | omega | fail)), (show ¬ 1 = 0 → j_lc n0 from by (unfold j_lc; omega)), (show j_lc n0 → ¬ 1 = 0 from by (unfold j_lc; omega))⟩
        ·
          refine ⟨fun c7 => ?_, fun c7 => ?_⟩
          ·
            exact ⟨(show 0 ≤ 1 ∧ 1 ≤ 1 from by (first | omega | (simp only [st_s] <;> omega) | assumption | omega | fail)), (show ¬ 1 = 0 → j_lc n0 from by (unfold j_lc; omega)), (show j_lc n0 → ¬ 1 = 0 from by (unfold j_lc; omega))⟩
          ·
            refine h46 _ ?_
            refine ⟨fun c8 => ?_, fun c8 => ?_⟩
            ·
              exact ⟨(show 0 ≤ 1 ∧ 1 ≤ 1 from by (first | omega | (simp only [st_s] <;> omega) | assumption | omega | fail)), (show ¬ 1 = 0 → j_lc n0 from by (unfold j_lc; omega)), (show j_lc n0 → ¬ 1 = 0 from by (unfold j_lc; omega))⟩
            ·
              refine ⟨fun c9 => ?_, fun c9 => ?_⟩
              ·
                exact ⟨(show 0 ≤ 1 ∧ 1 ≤ 1 from by (first | omega | (simp only [st_s] <;> omega) | assumption | omega | fail)), (show ¬ 1 = 0 → j_lc n0 from by (unfold j_lc; omega)), (show j_lc n0 → ¬ 1 = 0 from by (unfold j_lc; omega))⟩
              ·
                refine ⟨fun c10 => ?_, fun c10 => ?_⟩
                ·
                  exact ⟨(show 0 ≤ 0 ∧ 0 ≤ 1 from by (first | omega | (simp only [st_s] <;> omega) | assumption | omega | fail)), (show ¬ 0 = 0 → j_lc n0 from by (unfold j_lc; omega)), (show j_lc n0 → ¬ 0 = 0 from by (unfold j_lc; omega))⟩
                ·
                  exact ⟨(show 0 ≤ 1 ∧ 1 ≤ 1 from by (first | omega | (simp only [st_s] <;> omega) | assumption | omega | fail)), (show ¬ 1 = 0 → j_lc n0 from by (unfold j_lc; omega)), (show j_lc n0 → ¬ 1 = 0 from by (unfold j_lc; omega))⟩
    ·
      refine h12 _ ?_
      refine ⟨fun c3 => ?_, fun c3 => ?_⟩
      ·
        refine h29 _ _ ?_
        refine ⟨fun c5 => ?_, fun c5 => ?_⟩
        ·
          exact ⟨(show 0 ≤ 1 ∧ 1 ≤ 1 from by (first | omega | (simp only [st_s] <;> omega) | assumption | omega | fail)), (show ¬ 1 = 0 → j_lc n0 from by (unfold j_lc; omega)), (show j_lc n0 → ¬ 1 = 0 from by (unfold j_lc; omega))⟩
        ·
          refine ⟨fun c6 => ?_, fun c6 => ?_⟩
          ·
            refine h46 _ ?_
            refine ⟨fun c8 => ?_, fun c8 => ?_⟩
            ·
              exact ⟨(show 0 ≤ 1 ∧ 1 ≤ 1 from by (first | omega | (simp only [st_s] <;> omega) | assumption | omega | fail)), (show ¬ 1 = 0 → j_lc n0 from by (unfold j_lc; omega)), (show j_lc n0 → ¬ 1 = 0 from by (unfold j_lc; omega))⟩
            ·
              refine ⟨fun c9 => ?_, fun c9 => ?_⟩
              ·
                exact ⟨(show 0 ≤ 1 ∧ 1 ≤ 1 from by (first | omega | (simp only [st_s] <;> omega) | assumption | omega | fail)), (show ¬ 1 = 0 → j_lc n0 from by (unfold j_lc; omega)), (show j_lc n0 → ¬ 1 = 0 from by (unfold j_lc; omega))⟩
              ·
                refine ⟨fun c10 => ?_, fun c10 => ?_⟩
                ·
                  exact ⟨(show 0 ≤ 0 ∧ 0 ≤ 1 from by (first | omega | (simp only [st_s] <;> omega) | assumption | omega | fail)), (show ¬ 0 = 0 → j_lc n0 from by (unfold j_lc; omega)), (show j_lc n0 → ¬ 0 = 0 from by (unfold j_lc; omega))⟩
                ·
                  exact ⟨(show 0 ≤ 1 ∧ 1 ≤ 1 from by (first | omega | (simp only [st_s] <;> omega) | assumption | omega | fail)), (show ¬ 1 = 0 → j_lc n0 from by (unfold j_lc; omega)), (show j_lc n0 → ¬ 1 = 0 from by (unfold j_lc; omega))⟩
          ·
            refine ⟨fun c7 => ?_, fun c7 => ?_⟩
            ·
              exact ⟨(show 0 ≤ 1 ∧ 1 ≤ 1 from by (first | omega | (simp only [st_s] <;> omega) | assumption | omega | fail)), (show ¬ 1 = 0 → j_lc n0 from by (unfold j_lc; omega)), (show j_lc n0 → ¬ 1 = 0 from by (unfold j_lc; omega))⟩
            ·
              refine h46 _ ?_
              refine ⟨fun c8 => ?_, fun c8 => ?_⟩
              ·
                exact ⟨(show 0 ≤ 1 ∧ 1 ≤ 1 from by (first | omega | (simp only [st_s] <;> omega) | assumption | omega | fail)), (show ¬ 1 = 0 → j_lc n0 from by (unfold j_lc; omega)), (show j_lc n0 → ¬ 1 = 0 from by (unfold j_lc; omega))⟩
              ·
                refine ⟨fun c9 => ?_, fun c9 => ?_⟩
                ·
                  exact ⟨(show 0 ≤ 1 ∧ 1 ≤ 1 from by (first | omega | (simp only [st_s] <;> omega) | assumption | omega | fail)), (show ¬ 1 = 0 → j_lc n0 from by (unfold j_lc; omega)), (show j_lc n0 → ¬ 1 = 0 from by (unfold j_lc; omega))⟩
                ·
                  refine ⟨fun c10 => ?_, fun c10 => ?_⟩
                  ·
                    exact ⟨(show 0 ≤ 0 ∧ 0 ≤ 1 from by (first | omega | (simp only [st_s] <;> omega) | assumption | omega | fail)), (show ¬ 0 = 0 → j_lc n0 from by (unfold j_lc; omega)), (show j_lc n0 → ¬ 0 = 0 from by (unfold j_lc; omega))⟩
                  ·
                    exact ⟨(show 0 ≤ 1 ∧ 1 ≤ 1 from by (first | omega | (simp only [st_s] <;> omega) | assumption | omega | fail)), (show ¬ 1 = 0 → j_lc n0 from by (unfold j_lc; omega)), (show j_lc n0 → ¬ 1 = 0 from by (unfold j_lc; omega))⟩
      ·
        refine ⟨fun c4 => ?_, fun c4 => ?_⟩
        ·
          refine h29 _ _ ?_
          refine ⟨fun c5 => ?_, fun c5 => ?_⟩
          ·
            exact ⟨(show 0 ≤ 1 ∧ 1 ≤ 1 from by (first | omega | (simp only [st_s] <;> omega) | assumption | omega | fail)), (show ¬ 1 = 0 → j_lc n0 from by (unfold j_lc; omega)), (show j_lc n0 → ¬ 1 = 0 from by (unfold j_lc; omega))⟩
          ·
            refine ⟨fun c6 => ?_, fun c6 => ?_⟩
            ·
              refine h46 _ ?_
              refine ⟨fun c8 => ?_, fun c8 => ?_⟩
              ·
                exact ⟨(show 0 ≤ 1 ∧ 1 ≤ 1 from by (first | omega | (simp only [st_s] <;> omega) | assumption | omega | fail)), (show ¬ 1 = 0 → j_lc n0 from by (unfold j_lc; omega)), (show j_lc n0 → ¬ 1 = 0 from by (unfold j_lc; omega))⟩
              ·
                refine ⟨fun c9 => ?_, fun c9 => ?_⟩
                ·
                  exact ⟨(show 0 ≤ 1 ∧ 1 ≤ 1 from by (first | omega | (simp only [st_s] <;> omega) | assumption | omega | fail)), (show ¬ 1 = 0 → j_lc n0 from by (unfold j_lc; omega)), (show j_lc n0 → ¬ 1 = 0 from by (unfold j_lc; omega))⟩
                ·
                  refine ⟨fun c10 => ?_, fun c10 => ?_⟩
                  ·
                    exact ⟨(show 0 ≤ 0 ∧ 0 ≤ 1 from by (first | omega | (simp only [st_s] <;> omega) | assumption | omega | fail)), (show ¬ 0 = 0 → j_lc n0 from by (unfold j_lc; omega)), (show j_lc n0 → ¬ 0 = 0 from by (unfold j_lc; omega))⟩
                  ·
                    exact ⟨(show 0 ≤ 1 ∧ 1 ≤ 1 from by (first | omega | (simp only [st_s] <;> omega) | assumption | omega | fail)), (show ¬ 1 = 0 → j_lc n0 from by (unfold j_lc; omega)), (show j_lc n0 → ¬ 1 = 0 from by (unfold j_lc; omega))⟩
            ·
              refine ⟨fun c7 => ?_, fun c7 => ?_⟩
              ·
                exact ⟨(show 0 ≤ 1 ∧ 1 ≤ 1 from by (first | omega | (simp only [st_s] <;> omega) | assumption | omega | fail)), (show ¬ 1 = 0 → j_lc n0 from by (unfold j_lc; omega)), (show j_lc n0 → ¬ 1 = 0 from by (unfold j_lc; omega))⟩
              ·
                refine h46 _ ?_
                refine ⟨fun c8 => ?_, fun c8 => ?_⟩
                ·
                  exact ⟨(show 0 ≤ 1 ∧ 1 ≤ 1 from by (first | omega | (simp only [st_s] <;> omega) | assumption | omega | fail)), (show ¬ 1 = 0 → j_lc n0 from by (unfold j_lc; omega)), (show j_lc n0 → ¬ 1 = 0 from by (unfold j_lc; omega))⟩
                ·
                  refine ⟨fun c9 => ?_, fun c9 => ?_⟩
                  ·
                    exact ⟨(show 0 ≤ 1 ∧ 1 ≤ 1 from by (first | omega | (simp only [st_s] <;> omega) | assumption | omega | fail)), (show ¬ 1 = 0 → j_lc n0 from by (unfold j_lc; omega)), (show j_lc n0 → ¬ 1 = 0 from by (unfold j_lc; omega))⟩
                  ·
                    refine ⟨fun c10 => ?_, fun c10 => ?_⟩
                    ·
                      exact ⟨(show 0 ≤ 0 ∧ 0 ≤ 1 from by (first | omega | (simp only [st_s] <;> omega) | assumption | omega | fail)), (show ¬ 0 = 0 → j_lc n0 from by (unfold j_lc; omega)), (show j_lc n0 → ¬ 0 = 0 from by (unfold j_lc; omega))⟩
                    ·
                      exact ⟨(show 0 ≤ 1 ∧ 1 ≤ 1 from by (first | omega | (simp only [st_s] <;> omega) | assumption | omega | fail)), (show ¬ 1 = 0 → j_lc n0 from by (unfold j_lc; omega)), (show j_lc n0 → ¬ 1 = 0 from by (unfold j_lc; omega))⟩
        ·
          refine h29 _ _ ?_
          refine ⟨fun c5 => ?_, fun c5 => ?_⟩
          ·
            exact ⟨(show 0 ≤ 1 ∧ 1 ≤ 1 from by (first | omega | (simp only [st_s] <;> omega) | assumption | omega | fail)), (show ¬ 1 = 0 → j_lc n0 from by (unfold j_lc; omega)), (show j_lc n0 → ¬ 1 = 0 from by (unfold j_lc; omega))⟩
          ·
            refine ⟨fun c6 => ?_, fun c6 => ?_⟩
            ·
              refine h46 _ ?_
              refine ⟨fun c8 => ?_, fun c8 => ?_⟩
              ·
                exact ⟨(show 0 ≤ 1 ∧ 1 ≤ 1 from by (first | omega | (simp only [st_s] <;> omega) | assumption | omega | fail)), (show ¬ 1 = 0 → j_lc n0 from by (unfold j_lc; omega)), (show j_lc n0 → ¬ 1 = 0 from by (unfold j_lc; omega))⟩
              ·
                refine ⟨fun c9 => ?_, fun c9 => ?_⟩
                ·
                  exact ⟨(show 0 ≤ 1 ∧ 1 ≤ 1 from by (first | omega | (simp only [st_s] <;> omega) | assumption | omega | fail)), (show ¬ 1 = 0 → j_lc n0 from by (unfold j_lc; omega)), (show j_lc n0 → ¬ 1 = 0 from by (unfold j_lc; omega))⟩
                ·
                  refine ⟨fun c10 => ?_, fun c10 => ?_⟩
                  ·
                    exact ⟨(show 0 ≤ 0 ∧ 0 ≤ 1 from by (first | omega | (simp only [st_s] <;> omega) | assumption | omega | fail)), (show ¬ 0 = 0 → j_lc n0 from by (unfold j_lc; omega)), (show j_lc n0 → ¬ 0 = 0 from by (unfold j_lc; omega))⟩
                  ·
                    exact ⟨(show 0 ≤ 1 ∧ 1 ≤ 1 from by (first | omega | (simp only [st_s] <;> omega) | assumption | omega | fail)), (show ¬ 1 = 0 → j_lc n0 from by (unfold j_lc; omega)), (show j_lc n0 → ¬ 1 = 0 from by (unfold j_lc; omega))⟩
            ·
              refine ⟨fun c7 => ?_, fun c7 => ?_⟩
              ·
                exact ⟨(show 0 ≤ 1 ∧ 1 ≤ 1 from by (first | omega | (simp only [st_s] <;> omega) | assumption | omega | fail)), (show ¬ 1 = 0 → j_lc n0 from by (unfold j_lc; omega)), (show j_lc n0 → ¬ 1 = 0 from by (unfold j_lc; omega))⟩
              ·
                refine h46 _ ?_
                refine ⟨fun c8 => ?_, fun c8 => ?_⟩
                ·
                  exact ⟨(show 0 ≤ 1 ∧ 1 ≤ 1 from by (first | omega | (simp only [st_s] <;> omega) | assumption | omega | fail)), (show ¬ 1 = 0 → j_lc n0 from by (unfold j_lc; omega)), (show j_lc n0 → ¬ 1 = 0 from by (unfold j_lc; omega))⟩
                ·
                  refine ⟨fun c9 => ?_, fun c9 => ?_⟩
                  ·
                    exact ⟨(show 0 ≤ 1 ∧ 1 ≤ 1 from by (first | omega | (simp only [st_s] <;> omega) | assumption | omega | fail)), (show ¬ 1 = 0 → j_lc n0 from by (unfold j_lc; omega)), (show j_lc n0 → ¬ 1 = 0 from by (unfold j_lc; omega))⟩
                  ·
                    refine ⟨fun c10 => ?_, fun c10 => ?_⟩
                    ·
                      exact ⟨(show 0 ≤ 0 ∧ 0 ≤ 1 from by (first | omega | (simp only [st_s] <;> omega) | assumption | omega | fail)), (show ¬ 0 = 0 → j_lc n0 from by (unfold j_lc; omega)), (show j_lc n0 → ¬ 0 = 0 from by (unfold j_lc; omega))⟩
                    ·
                      exact ⟨(show 0 ≤ 1 ∧ 1 ≤ 1 from by (first | omega | (simp only [st_s] <;> omega) | assumption | omega | fail)), (show ¬ 1 = 0 → j_lc n0 from by (unfold j_lc; omega)), (show j_lc n0 → ¬ 1 = 0 from by (unfold j_lc; omega))⟩
set_option maxHeartbeats 1000000 in
theorem K2_X12_isLabel_q13 {n1 : Int} {n2 : Int} {σ : S0} (hT : c_T σ) (p1 : 0 ≤ n1) (p2 : 0 ≤ n2) (p3 : n1 + n2 ≤ 60000) : W_X12_isLabel_q13 n1 n2 σ (fun (x : Int) => (0 ≤ x ∧ x ≤ 1) ∧ (¬ x = 0 → ∀ k : Int, 0 ≤ k → k < n2 → j_lc (σ.2.1 0 (n1 + k))) ∧ ((∀ k : Int, 0 ≤ k → k < n2 → j_lc (σ.2.1 0 (n1 + k))) → ¬ x = 0)) := by
  intro P2 h2
  have l_2 : ∀ (m_2 : Nat) (u3_2 : Int), 60001 - u3_2 < (m_2 : Int) → (0 ≤ u3_2) → (u3_2 ≤ n2) → (∀ k : Int, 0 ≤ k → k < u3_2 → j_lc (σ.2.1 0 (n1 + k))) → P2 n1 n2 u3_2 := by
    intro m_2
    induction m_2 with
    | zero =>
      intro u3_2 hm i2_1 i2_2 i2_3
      exfalso; (first | omega | (simp only [st_s] <;> omega) | assumption | omega | fail)
    | succ m_2 ih_2 =>
      intro u3_2 hm_2 i2_1 i2_2 i2_3
      refine h2 n1 n2 u3_2 ?_
      refine ⟨fun c1 => ?_, fun c1 => ?_⟩
      ·
        exact ⟨(show 0 ≤ 1 ∧ 1 ≤ 1 from by (first | omega | (simp only [st_s] <;> omega) | assumption | omega | fail)), (show ¬ 1 = 0 → ∀ k : Int, 0 ≤ k → k < n2 → j_lc (σ.2.1 0 (n1 + k)) from by (first | (intro z; exfalso; omega) | exact fun _ k a b => i2_3 k a (by omega) | fail)), (show (∀ k : Int, 0 ≤ k → k < n2 → j_lc (σ.2.1 0 (n1 + k))) → ¬ 1 = 0 from by (first | (intro z; omega) | (intro h; exfalso; exact q4_3 (by rw [e_x3]; exact h u3_2 (by omega) (by omega)) c7) | fail))⟩
      ·
        refine ⟨(show 0 ≤ (n1 + u3_2) ∧ (n1 + u3_2) < 60000 from by (first | omega | (simp only [st_s] <;> omega) | assumption | omega | fail)), ?_⟩
        intro x3 r_x3 e_x3
        have b_x3 : 0 ≤ x3 ∧ x3 ≤ 255 := by rw [e_x3]; exact hT.2 0 _
        refine ⟨_, K2_X12_isLabelCharacter hT, ?_⟩
        intro x5 r_x5 hq
        obtain ⟨q4_1, q4_2, q4_3⟩ := hq
        replace q4_1 : 0 ≤ x5 ∧ x5 ≤ 1 := q4_1
        replace q4_2 : ¬ x5 = 0 → j_lc x3 := q4_2
        replace q4_3 : j_lc x3 → ¬ x5 = 0 := q4_3
        refine ⟨fun c7 => ?_, fun c7 => ?_⟩
        ·
          refine ⟨(⟨by (first | omega | (simp only [st_s] <;> omega) | assumption | omega | fail), by (first | omega | (simp only [st_s] <;> omega) | assumption | omega | fail)⟩ : rg (u3_2 + 1)), ?_⟩
          exact ih_2 _ (show (60001 - (u3_2 + 1) : Int) < ((m_2 : Nat) : Int) from by ((first | omega | (simp only [st_s] <;> omega) | assumption | omega | fail))) (show 0 ≤ (u3_2 + 1) from by (first | omega | (simp only [st_s] <;> omega) | assumption | omega | fail)) (show (u3_2 + 1) ≤ n2 from by (first | omega | (simp only [st_s] <;> omega) | assumption | omega | fail)) (show ∀ k : Int, 0 ≤ k → k < (u3_2 + 1) → j_lc (σ.2.1 0 (n1 + k)) from by (first | (intro k a b; exfalso; omega) | (intro k a b; by_cases z : k = u3_2; (rw [z, ← e_x3]; exact q4_2 c7); exact i2_3 k a (by omega)) | fail))
        ·
          exact ⟨(show 0 ≤ 0 ∧ 0 ≤ 1 from by (first | omega | (simp only [st_s] <;> omega) | assumption | omega | fail)), (show ¬ 0 = 0 → ∀ k : Int, 0 ≤ k → k < n2 → j_lc (σ.2.1 0 (n1 + k)) from by (first | (intro z; exfalso; omega) | exact fun _ k a b => i2_3 k a (by omega) | fail)), (show (∀ k : Int, 0 ≤ k → k < n2 → j_lc (σ.2.1 0 (n1 + k))) → ¬ 0 = 0 from by (first | (intro z; omega) | (intro h; exfalso; exact q4_3 (by rw [e_x3]; exact h u3_2 (by omega) (by omega)) c7) | fail))⟩
  exact l_2 ((60001 - 0 : Int).toNat + 1) _ (show (60001 - 0 : Int) < (((60001 - 0 : Int).toNat + 1 : Nat) : Int) from by ((first | omega | (simp only [st_s] <;> omega) | assumption | omega | fail))) (show 0 ≤ 0 from by (first | omega | (simp only [st_s] <;> omega) | assumption | omega | fail)) (show 0 ≤ n2 from by (first | omega | (simp only [st_s] <;> omega) | assumption | omega | fail)) (show ∀ k : Int, 0 ≤ k → k < 0 → j_lc (σ.2.1 0 (n1 + k)) from by (first | (intro k a b; exfalso; omega) | (intro k a b; by_cases z : k = u3_2; (rw [z, ← e_x3]; exact q4_2 c7); exact i2_3 k a (by omega)) | fail))
set_option maxHeartbeats 1000000 in
theorem K2_X3_addName_q13 {n2 : Int} {n3 : Int} {n4 : Int} {σ : S0} (hT : c_T σ) (p1 : 0 ≤ n2) (p2 : 0 ≤ n3) (p3 : n3 ≤ 60) (p4 : n2 + n3 ≤ 60000) (p5 : -((σ.1 5) + 1) ≤ n4) (p6 : n4 ≤ (σ.1 7) ∧ n4 ≤ 1499 ∧ -1000 ≤ n4) (p7 : σ.2.1 3 (σ.1 3) + n3 ≤ 30000) (p8 : (σ.1 3) < 2500) (p9 : J_ht (σ.1 3) (σ.2.1 2) (σ.2.1 3) (σ.2.1 5) (σ.2.1 6)) (p10 : J_mn (σ.1 3) (σ.1 5) ((σ.1 7) + 1) (σ.2.1 4)) (p11 : J_nl (σ.1 3) (σ.2.1 2) (σ.2.1 3) (σ.2.1 4)) (p12 : 0 ≤ n4 → ∀ k : Int, 0 ≤ k → k < n3 → j_lc (σ.2.1 0 (n2 + k))) (p13 : ∀ n : Int, 0 ≤ n → n < (σ.1 3) → ¬ c_eq (σ.2.1 2) (σ.2.1 3) n (σ.2.1 0) n2 n3) : W_X3_addName_q13 n2 n3 n4 σ (fun (τ : S0) => (c_T τ) ∧ ((τ.1 3) = (σ.1 3) + 1) ∧ (J_ht (τ.1 3) (τ.2.1 2) (τ.2.1 3) (τ.2.1 5) (τ.2.1 6)) ∧ (J_mn (τ.1 3) ((τ.1 5) + 1) ((τ.1 7) + 1) (τ.2.1 4)) ∧ (0 ≤ n4 → J_mn (τ.1 3) (τ.1 5) ((τ.1 7) + 1) (τ.2.1 4)) ∧ (J_nl (τ.1 3) (τ.2.1 2) (τ.2.1 3) (τ.2.1 4)) ∧ ((0 ≤ n4 ∨ (σ.1 5) ≤ -1 - n4) → j_nm σ τ) ∧ (c_ag σ τ)) := by
  have A0 : ∀ j, 0 ≤ σ.2.1 0 j ∧ σ.2.1 0 j ≤ 255 := fun j => hT.2 0 j
  have A2 : ∀ j, 0 ≤ σ.2.1 2 j ∧ σ.2.1 2 j ≤ 65535 := fun j => hT.2 2 j
  have A3 : ∀ j, 0 ≤ σ.2.1 3 j ∧ σ.2.1 3 j ≤ 30000 := fun j => hT.2 3 j
  have A4 : ∀ j, (-1000) ≤ σ.2.1 4 j ∧ σ.2.1 4 j ≤ 1499 := fun j => hT.2 4 j
  have A5 : ∀ j, 0 ≤ σ.2.1 5 j ∧ σ.2.1 5 j ≤ 2500 := fun j => hT.2 5 j
  have A6 : ∀ j, 0 ≤ σ.2.1 6 j ∧ σ.2.1 6 j ≤ 2500 := fun j => hT.2 6 j
  have v3 : 0 ≤ σ.1 3 ∧ σ.1 3 ≤ 2500 := hT.1 3
  have v5 : 0 ≤ σ.1 5 ∧ σ.1 5 ≤ 1000 := hT.1 5
  have v6 : 0 ≤ σ.1 6 ∧ σ.1 6 ≤ 30000 := hT.1 6
  have v7 : 0 ≤ σ.1 7 ∧ σ.1 7 ≤ 1500 := hT.1 7
  have v13 : 0 ≤ σ.1 13 ∧ σ.1 13 ≤ 90000 := hT.1 13
  have v14 : 0 ≤ σ.1 14 ∧ σ.1 14 ≤ 20000 := hT.1 14
  have v15 : 0 ≤ σ.1 15 ∧ σ.1 15 ≤ 20000 := hT.1 15
  have v16 : 0 ≤ σ.1 16 ∧ σ.1 16 ≤ 20000 := hT.1 16
  have a3_3 : 0 ≤ σ.2.1 3 (σ.1 3) ∧ σ.2.1 3 (σ.1 3) ≤ 30000 := hT.2 3 _
  have W5 : σ.1 5 = σ.1 5 := rfl
  have W6 : σ.1 6 = σ.1 6 := rfl
  have W7 : σ.1 7 = σ.1 7 := rfl
  have W13 : σ.1 13 = σ.1 13 := rfl
  have W14 : σ.1 14 = σ.1 14 := rfl
  have W15 : σ.1 15 = σ.1 15 := rfl
  have W16 : σ.1 16 = σ.1 16 := rfl
  have G0 : σ.2.1 0 = σ.2.1 0 := rfl
  have ag : c_ag σ σ := ag_0 σ
  intro P14 h14
  have HT : J_ht (σ.1 3) (σ.2.1 2) (σ.2.1 3) (σ.2.1 5) (σ.2.1 6) := p9
  have NL : J_nl (σ.1 3) (σ.2.1 2) (σ.2.1 3) (σ.2.1 4) := p11
  have MN : J_mn (σ.1 3) (σ.1 5) ((σ.1 7) + 1) (σ.2.1 4) := p10
  have HT_0 := HT
  have MN_0 := MN
  have NL_0 := NL
  have l_14 : ∀ (m_14 : Nat) (u5_14 : Int) (u6_14 : Int) (τ_14 : S0), 61 - u6_14 < (m_14 : Int) → (c_T τ_14) → (c_ag σ τ_14) → (τ_14.1 5 = σ.1 5) → (τ_14.1 6 = σ.1 6) → (τ_14.1 7 = σ.1 7) → (τ_14.1 13 = σ.1 13) → (τ_14.1 14 = σ.1 14) → (τ_14.1 15 = σ.1 15) → (τ_14.1 16 = σ.1 16) → (τ_14.2.1 0 = σ.2.1 0) → (0 ≤ u5_14) → (u5_14 + n3 ≤ 30000) → (0 ≤ u6_14) → (u6_14 ≤ n3) → ((τ_14.1 3) = (σ.1 3)) → (u5_14 = σ.2.1 3 (σ.1 3)) → (∀ j : Int, j < u5_14 → τ_14.2.1 2 j = σ.2.1 2 j) → (∀ k : Int, 0 ≤ k → k < u6_14 → τ_14.2.1 2 (u5_14 + k) = σ.2.1 0 (n2 + k)) → (τ_14.2.1 3 = σ.2.1 3) → (τ_14.2.1 5 = σ.2.1 5) → (τ_14.2.1 6 = σ.2.1 6) → (τ_14.2.1 4 = σ.2.1 4) → P14 n2 n3 n4 u5_14 u6_14 τ_14 := by
    intro m_14
    induction m_14 with
    | zero =>
      intro u5_14 u6_14 τ_14 hm hT ag W5 W6 W7 W13 W14 W15 W16 G0 i14_1 i14_2 i14_3 i14_4 i14_5 i14_6 i14_7 i14_8 i14_9 i14_10 i14_11 i14_12
      have A0 : ∀ j, 0 ≤ τ_14.2.1 0 j ∧ τ_14.2.1 0 j ≤ 255 := fun j => hT.2 0 j
      have A2 : ∀ j, 0 ≤ τ_14.2.1 2 j ∧ τ_14.2.1 2 j ≤ 65535 := fun j => hT.2 2 j
      have A3 : ∀ j, 0 ≤ τ_14.2.1 3 j ∧ τ_14.2.1 3 j ≤ 30000 := fun j => hT.2 3 j
      have A4 : ∀ j, (-1000) ≤ τ_14.2.1 4 j ∧ τ_14.2.1 4 j ≤ 1499 := fun j => hT.2 4 j
      have A5 : ∀ j, 0 ≤ τ_14.2.1 5 j ∧ τ_14.2.1 5 j ≤ 2500 := fun j => hT.2 5 j
      have A6 : ∀ j, 0 ≤ τ_14.2.1 6 j ∧ τ_14.2.1 6 j ≤ 2500 := fun j => hT.2 6 j
      have v3 : 0 ≤ τ_14.1 3 ∧ τ_14.1 3 ≤ 2500 := hT.1 3
      have v5 : 0 ≤ τ_14.1 5 ∧ τ_14.1 5 ≤ 1000 := hT.1 5
      have v6 : 0 ≤ τ_14.1 6 ∧ τ_14.1 6 ≤ 30000 := hT.1 6
      have v7 : 0 ≤ τ_14.1 7 ∧ τ_14.1 7 ≤ 1500 := hT.1 7
      have v13 : 0 ≤ τ_14.1 13 ∧ τ_14.1 13 ≤ 90000 := hT.1 13
      have v14 : 0 ≤ τ_14.1 14 ∧ τ_14.1 14 ≤ 20000 := hT.1 14
      have v15 : 0 ≤ τ_14.1 15 ∧ τ_14.1 15 ≤ 20000 := hT.1 15
      have v16 : 0 ≤ τ_14.1 16 ∧ τ_14.1 16 ≤ 20000 := hT.1 16
      have a3_3 : 0 ≤ τ_14.2.1 3 (τ_14.1 3) ∧ τ_14.2.1 3 (τ_14.1 3) ≤ 30000 := hT.2 3 _
      have av3 : σ.1 3 ≤ τ_14.1 3 := ag.1 3 (by decide)
      exfalso; (first | omega | (simp only [st_s] <;> omega) | assumption | omega | fail)
    | succ m_14 ih_14 =>
      intro u5_14 u6_14 τ_14 hm_14 hT ag W5 W6 W7 W13 W14 W15 W16 G0 i14_1 i14_2 i14_3 i14_4 i14_5 i14_6 i14_7 i14_8 i14_9 i14_10 i14_11 i14_12
      have A0 : ∀ j, 0 ≤ τ_14.2.1 0 j ∧ τ_14.2.1 0 j ≤ 255 := fun j => hT.2 0 j
      have A2 : ∀ j, 0 ≤ τ_14.2.1 2 j ∧ τ_14.2.1 2 j ≤ 65535 := fun j => hT.2 2 j
      have A3 : ∀ j, 0 ≤ τ_14.2.1 3 j ∧ τ_14.2.1 3 j ≤ 30000 := fun j => hT.2 3 j
      have A4 : ∀ j, (-1000) ≤ τ_14.2.1 4 j ∧ τ_14.2.1 4 j ≤ 1499 := fun j => hT.2 4 j
      have A5 : ∀ j, 0 ≤ τ_14.2.1 5 j ∧ τ_14.2.1 5 j ≤ 2500 := fun j => hT.2 5 j
      have A6 : ∀ j, 0 ≤ τ_14.2.1 6 j ∧ τ_14.2.1 6 j ≤ 2500 := fun j => hT.2 6 j
      have v3 : 0 ≤ τ_14.1 3 ∧ τ_14.1 3 ≤ 2500 := hT.1 3
      have v5 : 0 ≤ τ_14.1 5 ∧ τ_14.1 5 ≤ 1000 := hT.1 5
      have v6 : 0 ≤ τ_14.1 6 ∧ τ_14.1 6 ≤ 30000 := hT.1 6
      have v7 : 0 ≤ τ_14.1 7 ∧ τ_14.1 7 ≤ 1500 := hT.1 7
      have v13 : 0 ≤ τ_14.1 13 ∧ τ_14.1 13 ≤ 90000 := hT.1 13
      have v14 : 0 ≤ τ_14.1 14 ∧ τ_14.1 14 ≤ 20000 := hT.1 14
      have v15 : 0 ≤ τ_14.1 15 ∧ τ_14.1 15 ≤ 20000 := hT.1 15
      have v16 : 0 ≤ τ_14.1 16 ∧ τ_14.1 16 ≤ 20000 := hT.1 16
      have a3_3 : 0 ≤ τ_14.2.1 3 (τ_14.1 3) ∧ τ_14.2.1 3 (τ_14.1 3) ≤ 30000 := hT.2 3 _
      have av3 : σ.1 3 ≤ τ_14.1 3 := ag.1 3 (by decide)
      refine h14 n2 n3 n4 u5_14 u6_14 τ_14 ?_
      refine ⟨fun c3 => ?_, fun c3 => ?_⟩
      ·
        refine ⟨_, K_X3_bucket_q13 hT (show 0 ≤ n2 from by (first | omega | (simp only [st_s] <;> omega) | assumption | omega | fail)) (show n2 + n3 ≤ 60000 from by (first | omega | (simp only [st_s] <;> omega) | assumption | omega | fail)), ?_⟩
        intro x5 r_x5 hq
        obtain ⟨q4_1, q4_2⟩ := hq
        replace q4_1 : 0 ≤ x5 ∧ x5 < 4096 := q4_1
        replace q4_2 : x5 = h_b (τ_14.2.1 0) n2 n3 := q4_2
        refine ⟨(show 0 ≤ τ_14.1 3 ∧ τ_14.1 3 < 2500 from by (first | omega | (simp only [st_s] <;> omega) | assumption | omega | fail)), ?_⟩
        replace ag := ag_w (k := 4) (x := n4) 3 0 ag rfl (show σ.1 3 + 0 ≤ (τ_14.1 3) from by (first | omega | (simp only [st_s] <;> omega) | assumption | omega | fail))
        replace hT := cT_a (k := 4) (j := (τ_14.1 3)) hT (show (-1000 : Int) ≤ n4 ∧ n4 ≤ 1499 from by (first | omega | (simp only [st_s] <;> omega) | assumption | omega | fail))
        refine ⟨(show 0 ≤ x5 ∧ x5 < 4096 from by (first | omega | (simp only [st_s] <;> omega) | assumption | omega | fail)), ?_⟩
        intro x9 r_x9 e_x9
        have b_x9 : 0 ≤ x9 ∧ x9 ≤ 2500 := by rw [e_x9]; exact hT.2 6 _
        replace ag := ag_a (k := 5) (e := (τ_14.1 3)) (x := x9) ag rfl
        replace hT := cT_a (k := 5) (j := (τ_14.1 3)) hT (show (0 : Int) ≤ x9 ∧ x9 ≤ 2500 from by (first | omega | (simp only [st_s] <;> omega) | assumption | omega | fail))
        refine ⟨(⟨by (first | omega | (simp only [st_s] <;> omega) | assumption | omega | fail), by (first | omega | (simp only [st_s] <;> omega) | assumption | omega | fail)⟩ : rg (τ_14.1 3 + 1)), ?_⟩
        replace ag := ag_v (i := 3) (x := (τ_14.1 3 + 1)) ag (Or.inr (show σ.1 3 ≤ (τ_14.1 3 + 1) from by (first | omega | (simp only [st_s] <;> omega) | assumption | omega | fail)))
        replace hT := cT_v (i := 3) hT (show 0 ≤ (τ_14.1 3 + 1) ∧ (τ_14.1 3 + 1) ≤ 2500 from by (first | omega | (simp only [st_s] <;> omega) | assumption | omega | fail))
        refine ⟨(show 0 ≤ (τ_14.1 3 + 1) ∧ (τ_14.1 3 + 1) < 2501 from by (first | omega | (simp only [st_s] <;> omega) | assumption | omega | fail)), ?_⟩
        refine ⟨(⟨by (first | omega | (simp only [st_s] <;> omega) | assumption | omega | fail), by (first | omega | (simp only [st_s] <;> omega) | assumption | omega | fail)⟩ : rg (u5_14 + n3)), ?_⟩
        replace ag := ag_w (k := 3) (x := (u5_14 + n3)) 3 1 ag rfl (show σ.1 3 + 1 ≤ (τ_14.1 3 + 1) from by (first | omega | (simp only [st_s] <;> omega) | assumption | omega | fail))
        replace hT := cT_a (k := 3) (j := (τ_14.1 3 + 1)) hT (show (0 : Int) ≤ (u5_14 + n3) ∧ (u5_14 + n3) ≤ 30000 from by (first | omega | (simp only [st_s] <;> omega) | assumption | omega | fail))
        replace ag := ag_a (k := 6) (e := x5) (x := (τ_14.1 3 + 1)) ag rfl
        replace hT := cT_a (k := 6) (j := x5) hT (show (0 : Int) ≤ (τ_14.1 3 + 1) ∧ (τ_14.1 3 + 1) ≤ 2500 from by (first | omega | (simp only [st_s] <;> omega) | assumption | omega | fail))
        exact ⟨hT, (show ((τ_14.1 3 + 1)) = (σ.1 3) + 1 from by (first | omega | (simp only [st_s] <;> omega) | assumption | omega | fail)), (show J_ht ((τ_14.1 3 + 1)) (τ_14.2.1 2) ((st (τ_14.2.1 3) (τ_14.1 3 + 1) (u5_14 + n3))) ((st (τ_14.2.1 5) (τ_14.1 3) x9)) ((st (τ_14.2.1 6) x5 (τ_14.1 3 + 1))) from by (rw [e_x9, i14_9, i14_10, i14_11, i14_5, i14_6]; exact J_ht_add HT_0 (by omega) (by omega) (fun j hj => i14_7 j (by omega)) (by rw [q4_2, G0]; exact (h_b_e (fun k k0 k1 => by have := i14_8 k k0 (by omega); rw [i14_6] at this; exact this)).symm) (by omega) (by omega))), (show J_mn ((τ_14.1 3 + 1)) ((τ_14.1 5) + 1) ((τ_14.1 7) + 1) ((st (τ_14.2.1 4) (τ_14.1 3) n4)) from by (rw [i14_12, i14_5]; exact J_mn_s MN_0 (by omega) (by omega) (by omega) (by omega))), (show 0 ≤ n4 → J_mn ((τ_14.1 3 + 1)) (τ_14.1 5) ((τ_14.1 7) + 1) ((st (τ_14.2.1 4) (τ_14.1 3) n4)) from by (intro z; rw [i14_12, i14_5]; exact J_mn_s MN_0 (by omega) (by omega) (by omega) (by omega))), (show J_nl ((τ_14.1 3 + 1)) (τ_14.2.1 2) ((st (τ_14.2.1 3) (τ_14.1 3 + 1) (u5_14 + n3))) ((st (τ_14.2.1 4) (τ_14.1 3) n4)) from by (rw [i14_9, i14_12, i14_5, i14_6]; exact J_nl_a NL_0 (fun n a b => J_ht_mono HT_0 a b (Int.le_refl _)) (fun j hj => i14_7 j (by omega)) (fun z k k0 k1 => by have w := i14_8 k k0 (by omega); rw [i14_6] at w; rw [w]; exact p12 z k k0 k1))), (show (0 ≤ n4 ∨ (σ.1 5) ≤ -1 - n4) → j_nm σ (s_a (s_a (s_v (s_a (s_a τ_14 4 (τ_14.1 3) n4) 5 (τ_14.1 3) x9) 3 (τ_14.1 3 + 1)) 3 (τ_14.1 3 + 1) (u5_14 + n3)) 6 x5 (τ_14.1 3 + 1)) from by (intro z; exact j_nm_a (x := n4) (y := u5_14 + n3) HT_0 (by omega) (show τ_14.1 3 + 1 = σ.1 3 + 1 from by omega) (show σ.1 5 ≤ τ_14.1 5 from by omega) (fun j hj => i14_7 j (by omega)) (show st (τ_14.2.1 3) (τ_14.1 3 + 1) (u5_14 + n3) = _ from by rw [i14_9, i14_5]) (show st (τ_14.2.1 4) (τ_14.1 3) n4 = _ from by rw [i14_12, i14_5]) z (src := σ.2.1 0) (p0 := n2) (k3 := n3) (by rw [i14_6]) (fun k a b => by have w := i14_8 k a (by omega); rw [i14_6] at w; exact w) p13)), ag⟩
      ·
        refine ⟨(show 0 ≤ (n2 + u6_14) ∧ (n2 + u6_14) < 60000 from by (first | omega | (simp only [st_s] <;> omega) | assumption | omega | fail)), ?_⟩
        intro x14 r_x14 e_x14
        have b_x14 : 0 ≤ x14 ∧ x14 ≤ 255 := by rw [e_x14]; exact hT.2 0 _
        refine ⟨(show 0 ≤ (u5_14 + u6_14) ∧ (u5_14 + u6_14) < 30000 from by (first | omega | (simp only [st_s] <;> omega) | assumption | omega | fail)), ?_⟩
        refine ⟨(show 0 ≤ x14 ∧ x14 ≤ 65535 from by (first | omega | (simp only [st_s] <;> omega) | assumption | omega | fail)), ?_⟩
        replace ag := ag_a (k := 2) (e := (u5_14 + u6_14)) (x := x14) ag rfl
        replace hT := cT_a (k := 2) (j := (u5_14 + u6_14)) hT (show (0 : Int) ≤ x14 ∧ x14 ≤ 65535 from by (first | omega | (simp only [st_s] <;> omega) | assumption | omega | fail))
        refine ⟨(⟨by (first | omega | (simp only [st_s] <;> omega) | assumption | omega | fail), by (first | omega | (simp only [st_s] <;> omega) | assumption | omega | fail)⟩ : rg (u6_14 + 1)), ?_⟩
        exact ih_14 _ _ _ (show (61 - (u6_14 + 1) : Int) < ((m_14 : Nat) : Int) from by ((first | omega | (simp only [st_s] <;> omega) | assumption | omega | fail))) hT ag (show τ_14.1 5 = σ.1 5 from by first | exact W5 | omega) (show τ_14.1 6 = σ.1 6 from by first | exact W6 | omega) (show τ_14.1 7 = σ.1 7 from by first | exact W7 | omega) (show τ_14.1 13 = σ.1 13 from by first | exact W13 | omega) (show τ_14.1 14 = σ.1 14 from by first | exact W14 | omega) (show τ_14.1 15 = σ.1 15 from by first | exact W15 | omega) (show τ_14.1 16 = σ.1 16 from by first | exact W16 | omega) G0 (show 0 ≤ u5_14 from by (first | omega | (simp only [st_s] <;> omega) | assumption | omega | fail)) (show u5_14 + n3 ≤ 30000 from by (first | omega | (simp only [st_s] <;> omega) | assumption | omega | fail)) (show 0 ≤ (u6_14 + 1) from by (first | omega | (simp only [st_s] <;> omega) | assumption | omega | fail)) (show (u6_14 + 1) ≤ n3 from by (first | omega | (simp only [st_s] <;> omega) | assumption | omega | fail)) (show (τ_14.1 3) = (σ.1 3) from by (first | omega | (simp only [st_s] <;> omega) | assumption | omega | fail)) (show u5_14 = σ.2.1 3 (σ.1 3) from by (first | omega | (simp only [st_s] <;> omega) | assumption | omega | fail)) (show ∀ j : Int, j < u5_14 → (st (τ_14.2.1 2) (u5_14 + u6_14) x14) j = σ.2.1 2 j from by (intro j hj; first | rfl | (rw [st_n _ _ (by omega)]; exact i14_7 j hj))) (show ∀ k : Int, 0 ≤ k → k < (u6_14 + 1) → (st (τ_14.2.1 2) (u5_14 + u6_14) x14) (u5_14 + k) = σ.2.1 0 (n2 + k) from by (intro k h0 h1; first | (exfalso; omega) | (by_cases z : k = u6_14; (rw [z, st_s, e_x14, G0]); (rw [st_n _ _ (by omega)]; exact i14_8 k h0 (by omega))))) (show τ_14.2.1 3 = σ.2.1 3 from by (first | rfl | assumption | fail)) (show τ_14.2.1 5 = σ.2.1 5 from by (first | rfl | assumption | fail)) (show τ_14.2.1 6 = σ.2.1 6 from by (first | rfl | assumption | fail)) (show τ_14.2.1 4 = σ.2.1 4 from by (first | rfl | assumption | fail))
  refine ⟨(show 0 ≤ σ.1 3 ∧ σ.1 3 < 2501 from by (first | omega | (simp only [st_s] <;> omega) | assumption | omega | fail)), ?_⟩
  intro x2 r_x2 e_x2
  have b_x2 : 0 ≤ x2 ∧ x2 ≤ 30000 := by rw [e_x2]; exact hT.2 3 _
  exact l_14 ((61 - 0 : Int).toNat + 1) _ _ _ (show (61 - 0 : Int) < (((61 - 0 : Int).toNat + 1 : Nat) : Int) from by ((first | omega | (simp only [st_s] <;> omega) | assumption | omega | fail))) hT ag (show σ.1 5 = σ.1 5 from by first | exact W5 | omega) (show σ.1 6 = σ.1 6 from by first | exact W6 | omega) (show σ.1 7 = σ.1 7 from by first | exact W7 | omega) (show σ.1 13 = σ.1 13 from by first | exact W13 | omega) (show σ.1 14 = σ.1 14 from by first | exact W14 | omega) (show σ.1 15 = σ.1 15 from by first | exact W15 | omega) (show σ.1 16 = σ.1 16 from by first | exact W16 | omega) G0 (show 0 ≤ x2 from by (first | omega | (simp only [st_s] <;> omega) | assumption | omega | fail)) (show x2 + n3 ≤ 30000 from by (first | omega | (simp only [st_s] <;> omega) | assumption | omega | fail)) (show 0 ≤ 0 from by (first | omega | (simp only [st_s] <;> omega) | assumption | omega | fail)) (show 0 ≤ n3 from by (first | omega | (simp only [st_s] <;> omega) | assumption | omega | fail)) (show (σ.1 3) = (σ.1 3) from by (first | omega | (simp only [st_s] <;> omega) | assumption | omega | fail)) (show x2 = σ.2.1 3 (σ.1 3) from by (first | omega | (simp only [st_s] <;> omega) | assumption | omega | fail)) (show ∀ j : Int, j < x2 → σ.2.1 2 j = σ.2.1 2 j from by (intro j hj; first | rfl | (rw [st_n _ _ (by omega)]; exact i14_7 j hj))) (show ∀ k : Int, 0 ≤ k → k < 0 → σ.2.1 2 (x2 + k) = σ.2.1 0 (n2 + k) from by (intro k h0 h1; first | (exfalso; omega) | (by_cases z : k = u6_14; (rw [z, st_s, e_x14, G0]); (rw [st_n _ _ (by omega)]; exact i14_8 k h0 (by omega))))) (show σ.2.1 3 = σ.2.1 3 from by (first | rfl | assumption | fail)) (show σ.2.1 5 = σ.2.1 5 from by (first | rfl | assumption | fail)) (show σ.2.1 6 = σ.2.1 6 from by (first | rfl | assumption | fail)) (show σ.2.1 4 = σ.2.1 4 from by (first | rfl | assumption | fail))
set_option maxHeartbeats 1000000 in
theorem K2_X3_addLabel_q13 {n2 : Int} {n3 : Int} {σ : S0} (hT : c_T σ) (p1 : 0 ≤ n2) (p2 : 0 ≤ n3) (p3 : n3 ≤ 60) (p4 : n2 + n3 ≤ 60000) (p5 : σ.2.1 3 (σ.1 3) + n3 ≤ 30000) (p6 : (σ.1 3) < 2500) (p7 : (σ.1 7) < 1500) (p8 : J_ht (σ.1 3) (σ.2.1 2) (σ.2.1 3) (σ.2.1 5) (σ.2.1 6)) (p9 : J_mn (σ.1 3) (σ.1 5) ((σ.1 7) + 1) (σ.2.1 4)) (p10 : J_nl (σ.1 3) (σ.2.1 2) (σ.2.1 3) (σ.2.1 4)) (p11 : ∀ k : Int, 0 ≤ k → k < n3 → j_lc (σ.2.1 0 (n2 + k))) (p12 : ∀ n : Int, 0 ≤ n → n < (σ.1 3) → ¬ c_eq (σ.2.1 2) (σ.2.1 3) n (σ.2.1 0) n2 n3) : W_X3_addLabel_q13 n2 n3 σ (fun (τ : S0) => (c_T τ) ∧ ((τ.1 3) = (σ.1 3) + 1) ∧ (J_ht (τ.1 3) (τ.2.1 2) (τ.2.1 3) (τ.2.1 5) (τ.2.1 6)) ∧ (J_mn (τ.1 3) (τ.1 5) ((τ.1 7) + 1) (τ.2.1 4)) ∧ (J_nl (τ.1 3) (τ.2.1 2) (τ.2.1 3) (τ.2.1 4)) ∧ (j_nm σ τ) ∧ (c_ag σ τ)) := by
  have A2 : ∀ j, 0 ≤ σ.2.1 2 j ∧ σ.2.1 2 j ≤ 65535 := fun j => hT.2 2 j
  have A3 : ∀ j, 0 ≤ σ.2.1 3 j ∧ σ.2.1 3 j ≤ 30000 := fun j => hT.2 3 j
  have A4 : ∀ j, (-1000) ≤ σ.2.1 4 j ∧ σ.2.1 4 j ≤ 1499 := fun j => hT.2 4 j
  have A5 : ∀ j, 0 ≤ σ.2.1 5 j ∧ σ.2.1 5 j ≤ 2500 := fun j => hT.2 5 j
  have A6 : ∀ j, 0 ≤ σ.2.1 6 j ∧ σ.2.1 6 j ≤ 2500 := fun j => hT.2 6 j
  have v3 : 0 ≤ σ.1 3 ∧ σ.1 3 ≤ 2500 := hT.1 3
  have v5 : 0 ≤ σ.1 5 ∧ σ.1 5 ≤ 1000 := hT.1 5
  have v6 : 0 ≤ σ.1 6 ∧ σ.1 6 ≤ 30000 := hT.1 6
  have v7 : 0 ≤ σ.1 7 ∧ σ.1 7 ≤ 1500 := hT.1 7
  have v13 : 0 ≤ σ.1 13 ∧ σ.1 13 ≤ 90000 := hT.1 13
  have v14 : 0 ≤ σ.1 14 ∧ σ.1 14 ≤ 20000 := hT.1 14
  have v15 : 0 ≤ σ.1 15 ∧ σ.1 15 ≤ 20000 := hT.1 15
  have v16 : 0 ≤ σ.1 16 ∧ σ.1 16 ≤ 20000 := hT.1 16
  have a3_3 : 0 ≤ σ.2.1 3 (σ.1 3) ∧ σ.2.1 3 (σ.1 3) ≤ 30000 := hT.2 3 _
  have W5 : σ.1 5 = σ.1 5 := rfl
  have W6 : σ.1 6 = σ.1 6 := rfl
  have W7 : σ.1 7 = σ.1 7 := rfl
  have W13 : σ.1 13 = σ.1 13 := rfl
  have W14 : σ.1 14 = σ.1 14 := rfl
  have W15 : σ.1 15 = σ.1 15 := rfl
  have W16 : σ.1 16 = σ.1 16 := rfl
  have ag : c_ag σ σ := ag_0 σ
  have HT : J_ht (σ.1 3) (σ.2.1 2) (σ.2.1 3) (σ.2.1 5) (σ.2.1 6) := p8
  have NL : J_nl (σ.1 3) (σ.2.1 2) (σ.2.1 3) (σ.2.1 4) := p10
  have MN : J_mn (σ.1 3) (σ.1 5) ((σ.1 7) + 1) (σ.2.1 4) := p9
  have HT_0 := HT
  have MN_0 := MN
  have NL_0 := NL
  unfold W_X3_addLabel_q13
  refine ⟨(show 0 ≤ σ.1 7 ∧ σ.1 7 < 1500 from by (first | omega | (simp only [st_s] <;> omega) | assumption | omega | fail)), ?_⟩
  replace ag := ag_w (k := 12) (x := (σ.1 3)) 7 0 ag rfl (show σ.1 7 + 0 ≤ (σ.1 7) from by (first | omega | (simp only [st_s] <;> omega) | assumption | omega | fail))
  replace hT := cT_a (k := 12) (j := (σ.1 7)) hT (show (0 : Int) ≤ (σ.1 3) ∧ (σ.1 3) ≤ 2499 from by (first | omega | (simp only [st_s] <;> omega) | assumption | omega | fail))
  refine ⟨_, K2_X3_addName_q13 hT (show 0 ≤ n2 from by (first | omega | (simp only [st_s] <;> omega) | assumption | omega | fail)) (show 0 ≤ n3 from by (first | omega | (simp only [st_s] <;> omega) | assumption | omega | fail)) (show n3 ≤ 60 from by (first | omega | (simp only [st_s] <;> omega) | assumption | omega | fail)) (show n2 + n3 ≤ 60000 from by (first | omega | (simp only [st_s] <;> omega) | assumption | omega | fail)) (show -((σ.1 5) + 1) ≤ (σ.1 7) from by (first | omega | (simp only [st_s] <;> omega) | assumption | omega | fail)) (show (σ.1 7) ≤ (σ.1 7) ∧ (σ.1 7) ≤ 1499 ∧ -1000 ≤ (σ.1 7) from by (first | omega | (simp only [st_s] <;> omega) | assumption | omega | fail)) (show σ.2.1 3 (σ.1 3) + n3 ≤ 30000 from by (first | omega | (simp only [st_s] <;> omega) | assumption | omega | fail)) (show (σ.1 3) < 2500 from by (first | omega | (simp only [st_s] <;> omega) | assumption | omega | fail)) (show J_ht (σ.1 3) (σ.2.1 2) (σ.2.1 3) (σ.2.1 5) (σ.2.1 6) from HT) (show J_mn (σ.1 3) (σ.1 5) ((σ.1 7) + 1) (σ.2.1 4) from MN) (show J_nl (σ.1 3) (σ.2.1 2) (σ.2.1 3) (σ.2.1 4) from NL) (show 0 ≤ (σ.1 7) → ∀ k : Int, 0 ≤ k → k < n3 → j_lc (σ.2.1 0 (n2 + k)) from by exact fun _ => p11) (show ∀ n : Int, 0 ≤ n → n < (σ.1 3) → ¬ c_eq (σ.2.1 2) (σ.2.1 3) n (σ.2.1 0) n2 n3 from by exact p12), ?_⟩
  intro τ4 hn_τ4 hf_τ4 hq
  obtain ⟨hT, q2_1, q2_2, q2_3, q2_4, q2_5, q2_6, q2_7⟩ := hq
  replace q2_1 : (τ4.1 3) = (σ.1 3) + 1 := q2_1
  replace q2_2 : J_ht (τ4.1 3) (τ4.2.1 2) (τ4.2.1 3) (τ4.2.1 5) (τ4.2.1 6) := q2_2
  replace q2_3 : J_mn (τ4.1 3) ((τ4.1 5) + 1) ((τ4.1 7) + 1) (τ4.2.1 4) := q2_3
  replace q2_4 : 0 ≤ (σ.1 7) → J_mn (τ4.1 3) (τ4.1 5) ((τ4.1 7) + 1) (τ4.2.1 4) := q2_4
  replace q2_5 : J_nl (τ4.1 3) (τ4.2.1 2) (τ4.2.1 3) (τ4.2.1 4) := q2_5
  replace q2_6 : (0 ≤ (σ.1 7) ∨ (σ.1 5) ≤ -1 - (σ.1 7)) → j_nm (s_a σ 12 (σ.1 7) (σ.1 3)) τ4 := q2_6
  replace q2_7 : c_ag (s_a σ 12 (σ.1 7) (σ.1 3)) τ4 := q2_7
  replace ag : c_ag σ τ4 := ag_t ag q2_7 rfl
  have w5_τ4 : τ4.1 5 = σ.1 5 := hf_τ4.1 5 (by decide)
  have w6_τ4 : τ4.1 6 = σ.1 6 := hf_τ4.1 6 (by decide)
  have w7_τ4 : τ4.1 7 = σ.1 7 := hf_τ4.1 7 (by decide)
  have w13_τ4 : τ4.1 13 = σ.1 13 := hf_τ4.1 13 (by decide)
  have w14_τ4 : τ4.1 14 = σ.1 14 := hf_τ4.1 14 (by decide)
  have w15_τ4 : τ4.1 15 = σ.1 15 := hf_τ4.1 15 (by decide)
  have w16_τ4 : τ4.1 16 = σ.1 16 := hf_τ4.1 16 (by decide)
  have W5 : τ4.1 5 = σ.1 5 := by first | exact w5_τ4.trans W5 | omega
  have W6 : τ4.1 6 = σ.1 6 := by first | exact w6_τ4.trans W6 | omega
  have W7 : τ4.1 7 = σ.1 7 := by first | exact w7_τ4.trans W7 | omega
  have W13 : τ4.1 13 = σ.1 13 := by first | exact w13_τ4.trans W13 | omega
  have W14 : τ4.1 14 = σ.1 14 := by first | exact w14_τ4.trans W14 | omega
  have W15 : τ4.1 15 = σ.1 15 := by first | exact w15_τ4.trans W15 | omega
  have W16 : τ4.1 16 = σ.1 16 := by first | exact w16_τ4.trans W16 | omega
  have HT : J_ht (τ4.1 3) (τ4.2.1 2) (τ4.2.1 3) (τ4.2.1 5) (τ4.2.1 6) := q2_2
  have NL : J_nl (τ4.1 3) (τ4.2.1 2) (τ4.2.1 3) (τ4.2.1 4) := q2_5
  have A2 : ∀ j, 0 ≤ τ4.2.1 2 j ∧ τ4.2.1 2 j ≤ 65535 := fun j => hT.2 2 j
  have A3 : ∀ j, 0 ≤ τ4.2.1 3 j ∧ τ4.2.1 3 j ≤ 30000 := fun j => hT.2 3 j
  have A4 : ∀ j, (-1000) ≤ τ4.2.1 4 j ∧ τ4.2.1 4 j ≤ 1499 := fun j => hT.2 4 j
  have A5 : ∀ j, 0 ≤ τ4.2.1 5 j ∧ τ4.2.1 5 j ≤ 2500 := fun j => hT.2 5 j
  have A6 : ∀ j, 0 ≤ τ4.2.1 6 j ∧ τ4.2.1 6 j ≤ 2500 := fun j => hT.2 6 j
  have v3 : 0 ≤ τ4.1 3 ∧ τ4.1 3 ≤ 2500 := hT.1 3
  have v5 : 0 ≤ τ4.1 5 ∧ τ4.1 5 ≤ 1000 := hT.1 5
  have v6 : 0 ≤ τ4.1 6 ∧ τ4.1 6 ≤ 30000 := hT.1 6
  have v7 : 0 ≤ τ4.1 7 ∧ τ4.1 7 ≤ 1500 := hT.1 7
  have v13 : 0 ≤ τ4.1 13 ∧ τ4.1 13 ≤ 90000 := hT.1 13
  have v14 : 0 ≤ τ4.1 14 ∧ τ4.1 14 ≤ 20000 := hT.1 14
  have v15 : 0 ≤ τ4.1 15 ∧ τ4.1 15 ≤ 20000 := hT.1 15
  have v16 : 0 ≤ τ4.1 16 ∧ τ4.1 16 ≤ 20000 := hT.1 16
  have a3_3 : 0 ≤ τ4.2.1 3 (τ4.1 3) ∧ τ4.2.1 3 (τ4.1 3) ≤ 30000 := hT.2 3 _
  have av3 : σ.1 3 ≤ τ4.1 3 := ag.1 3 (by decide)
  exact ⟨hT, (show (τ4.1 3) = (σ.1 3) + 1 from by (first | omega | (simp only [st_s] <;> omega) | assumption | omega | fail)), (show J_ht (τ4.1 3) (τ4.2.1 2) (τ4.2.1 3) (τ4.2.1 5) (τ4.2.1 6) from HT), (show J_mn (τ4.1 3) (τ4.1 5) ((τ4.1 7) + 1) (τ4.2.1 4) from by exact q2_4 (by omega)), (show J_nl (τ4.1 3) (τ4.2.1 2) (τ4.2.1 3) (τ4.2.1 4) from NL), (show j_nm σ τ4 from by exact (show j_nm σ τ4 from q2_6 (Or.inl (by omega)))), ag⟩
set_option maxHeartbeats 1000000 in
theorem K2_X3_addSymbol_q13 {n2 : Int} {n3 : Int} {n4 : Int} {σ : S0} (hT : c_T σ) (p1 : 0 ≤ n2) (p2 : 0 ≤ n3) (p3 : n3 ≤ 60) (p4 : n2 + n3 ≤ 60000) (p5 : 0 ≤ n4) (p6 : n4 ≤ 1) (p7 : σ.2.1 3 (σ.1 3) + n3 ≤ 30000) (p8 : (σ.1 3) < 2500) (p9 : (σ.1 5) < 1000) (p10 : J_ht (σ.1 3) (σ.2.1 2) (σ.2.1 3) (σ.2.1 5) (σ.2.1 6)) (p11 : J_mn (σ.1 3) (σ.1 5) ((σ.1 7) + 1) (σ.2.1 4)) (p12 : J_nl (σ.1 3) (σ.2.1 2) (σ.2.1 3) (σ.2.1 4)) (p13 : ∀ n : Int, 0 ≤ n → n < (σ.1 3) → ¬ c_eq (σ.2.1 2) (σ.2.1 3) n (σ.2.1 0) n2 n3) : W_X3_addSymbol_q13 n2 n3 n4 σ (fun (x : Int) (τ : S0) => (c_T τ) ∧ (x = (σ.1 5)) ∧ ((τ.1 5) = (σ.1 5) + 1) ∧ (τ.2.1 8 = st (σ.2.1 8) (σ.1 5) n4) ∧ (τ.2.1 10 = st (σ.2.1 10) (σ.1 5) (-1)) ∧ (τ.2.1 9 = st (σ.2.1 9) (σ.1 5) (-1)) ∧ ((τ.1 3) = (σ.1 3) + 1) ∧ (J_ht (τ.1 3) (τ.2.1 2) (τ.2.1 3) (τ.2.1 5) (τ.2.1 6)) ∧ (J_mn (τ.1 3) (τ.1 5) ((τ.1 7) + 1) (τ.2.1 4)) ∧ (J_nl (τ.1 3) (τ.2.1 2) (τ.2.1 3) (τ.2.1 4)) ∧ (j_nm σ τ) ∧ (c_ag σ τ)) := by
  have A2 : ∀ j, 0 ≤ σ.2.1 2 j ∧ σ.2.1 2 j ≤ 65535 := fun j => hT.2 2 j
  have A3 : ∀ j, 0 ≤ σ.2.1 3 j ∧ σ.2.1 3 j ≤ 30000 := fun j => hT.2 3 j
  have A4 : ∀ j, (-1000) ≤ σ.2.1 4 j ∧ σ.2.1 4 j ≤ 1499 := fun j => hT.2 4 j
  have A5 : ∀ j, 0 ≤ σ.2.1 5 j ∧ σ.2.1 5 j ≤ 2500 := fun j => hT.2 5 j
  have A6 : ∀ j, 0 ≤ σ.2.1 6 j ∧ σ.2.1 6 j ≤ 2500 := fun j => hT.2 6 j
  have A8 : ∀ j, 0 ≤ σ.2.1 8 j ∧ σ.2.1 8 j ≤ 1 := fun j => hT.2 8 j
  have A9 : ∀ j, (-1) ≤ σ.2.1 9 j ∧ σ.2.1 9 j ≤ 1499 := fun j => hT.2 9 j
  have A10 : ∀ j, (-1) ≤ σ.2.1 10 j ∧ σ.2.1 10 j ≤ 99 := fun j => hT.2 10 j
  have v3 : 0 ≤ σ.1 3 ∧ σ.1 3 ≤ 2500 := hT.1 3
  have v5 : 0 ≤ σ.1 5 ∧ σ.1 5 ≤ 1000 := hT.1 5
  have v6 : 0 ≤ σ.1 6 ∧ σ.1 6 ≤ 30000 := hT.1 6
  have v7 : 0 ≤ σ.1 7 ∧ σ.1 7 ≤ 1500 := hT.1 7
  have v13 : 0 ≤ σ.1 13 ∧ σ.1 13 ≤ 90000 := hT.1 13
  have v14 : 0 ≤ σ.1 14 ∧ σ.1 14 ≤ 20000 := hT.1 14
  have v15 : 0 ≤ σ.1 15 ∧ σ.1 15 ≤ 20000 := hT.1 15
  have v16 : 0 ≤ σ.1 16 ∧ σ.1 16 ≤ 20000 := hT.1 16
  have a3_3 : 0 ≤ σ.2.1 3 (σ.1 3) ∧ σ.2.1 3 (σ.1 3) ≤ 30000 := hT.2 3 _
  have W6 : σ.1 6 = σ.1 6 := rfl
  have W7 : σ.1 7 = σ.1 7 := rfl
  have W13 : σ.1 13 = σ.1 13 := rfl
  have W14 : σ.1 14 = σ.1 14 := rfl
  have W15 : σ.1 15 = σ.1 15 := rfl
  have W16 : σ.1 16 = σ.1 16 := rfl
  have ag : c_ag σ σ := ag_0 σ
  have HT : J_ht (σ.1 3) (σ.2.1 2) (σ.2.1 3) (σ.2.1 5) (σ.2.1 6) := p10
  have NL : J_nl (σ.1 3) (σ.2.1 2) (σ.2.1 3) (σ.2.1 4) := p12
  have MN : J_mn (σ.1 3) (σ.1 5) ((σ.1 7) + 1) (σ.2.1 4) := p11
  have HT_0 := HT
  have MN_0 := MN
  have NL_0 := NL
  unfold W_X3_addSymbol_q13
  refine ⟨(show 0 ≤ σ.1 5 ∧ σ.1 5 < 1000 from by (first | omega | (simp only [st_s] <;> omega) | assumption | omega | fail)), ?_⟩
  replace ag := ag_w (k := 7) (x := (σ.1 3)) 5 0 ag rfl (show σ.1 5 + 0 ≤ (σ.1 5) from by (first | omega | (simp only [st_s] <;> omega) | assumption | omega | fail))
  replace hT := cT_a (k := 7) (j := (σ.1 5)) hT (show (0 : Int) ≤ (σ.1 3) ∧ (σ.1 3) ≤ 2499 from by (first | omega | (simp only [st_s] <;> omega) | assumption | omega | fail))
  refine ⟨_, K2_X3_addName_q13 hT (show 0 ≤ n2 from by (first | omega | (simp only [st_s] <;> omega) | assumption | omega | fail)) (show 0 ≤ n3 from by (first | omega | (simp only [st_s] <;> omega) | assumption | omega | fail)) (show n3 ≤ 60 from by (first | omega | (simp only [st_s] <;> omega) | assumption | omega | fail)) (show n2 + n3 ≤ 60000 from by (first | omega | (simp only [st_s] <;> omega) | assumption | omega | fail)) (show -((σ.1 5) + 1) ≤ (-1 - σ.1 5) from by (first | omega | (simp only [st_s] <;> omega) | assumption | omega | fail)) (show (-1 - σ.1 5) ≤ (σ.1 7) ∧ (-1 - σ.1 5) ≤ 1499 ∧ -1000 ≤ (-1 - σ.1 5) from by (first | omega | (simp only [st_s] <;> omega) | assumption | omega | fail)) (show σ.2.1 3 (σ.1 3) + n3 ≤ 30000 from by (first | omega | (simp only [st_s] <;> omega) | assumption | omega | fail)) (show (σ.1 3) < 2500 from by (first | omega | (simp only [st_s] <;> omega) | assumption | omega | fail)) (show J_ht (σ.1 3) (σ.2.1 2) (σ.2.1 3) (σ.2.1 5) (σ.2.1 6) from HT) (show J_mn (σ.1 3) (σ.1 5) ((σ.1 7) + 1) (σ.2.1 4) from MN) (show J_nl (σ.1 3) (σ.2.1 2) (σ.2.1 3) (σ.2.1 4) from NL) (show 0 ≤ (-1 - σ.1 5) → ∀ k : Int, 0 ≤ k → k < n3 → j_lc (σ.2.1 0 (n2 + k)) from by (intro z; exfalso; omega)) (show ∀ n : Int, 0 ≤ n → n < (σ.1 3) → ¬ c_eq (σ.2.1 2) (σ.2.1 3) n (σ.2.1 0) n2 n3 from by exact p13), ?_⟩
  intro τ4 hn_τ4 hf_τ4 hq
  obtain ⟨hT, q2_1, q2_2, q2_3, q2_4, q2_5, q2_6, q2_7⟩ := hq
  replace q2_1 : (τ4.1 3) = (σ.1 3) + 1 := q2_1
  replace q2_2 : J_ht (τ4.1 3) (τ4.2.1 2) (τ4.2.1 3) (τ4.2.1 5) (τ4.2.1 6) := q2_2
  replace q2_3 : J_mn (τ4.1 3) ((τ4.1 5) + 1) ((τ4.1 7) + 1) (τ4.2.1 4) := q2_3
  replace q2_4 : 0 ≤ (-1 - σ.1 5) → J_mn (τ4.1 3) (τ4.1 5) ((τ4.1 7) + 1) (τ4.2.1 4) := q2_4
  replace q2_5 : J_nl (τ4.1 3) (τ4.2.1 2) (τ4.2.1 3) (τ4.2.1 4) := q2_5
  replace q2_6 : (0 ≤ (-1 - σ.1 5) ∨ (σ.1 5) ≤ -1 - (-1 - σ.1 5)) → j_nm (s_a σ 7 (σ.1 5) (σ.1 3)) τ4 := q2_6
  replace q2_7 : c_ag (s_a σ 7 (σ.1 5) (σ.1 3)) τ4 := q2_7
  replace ag : c_ag σ τ4 := ag_t ag q2_7 rfl
  have w5_τ4 : τ4.1 5 = σ.1 5 := hf_τ4.1 5 (by decide)
  have w6_τ4 : τ4.1 6 = σ.1 6 := hf_τ4.1 6 (by decide)
  have w7_τ4 : τ4.1 7 = σ.1 7 := hf_τ4.1 7 (by decide)
  have w13_τ4 : τ4.1 13 = σ.1 13 := hf_τ4.1 13 (by decide)
  have w14_τ4 : τ4.1 14 = σ.1 14 := hf_τ4.1 14 (by decide)
  have w15_τ4 : τ4.1 15 = σ.1 15 := hf_τ4.1 15 (by decide)
  have w16_τ4 : τ4.1 16 = σ.1 16 := hf_τ4.1 16 (by decide)
  have g8_τ4 : τ4.2.1 8 = σ.2.1 8 := hf_τ4.2.1 8 (by decide)
  have g9_τ4 : τ4.2.1 9 = σ.2.1 9 := hf_τ4.2.1 9 (by decide)
  have g10_τ4 : τ4.2.1 10 = σ.2.1 10 := hf_τ4.2.1 10 (by decide)
  have W6 : τ4.1 6 = σ.1 6 := by first | exact w6_τ4.trans W6 | omega
  have W7 : τ4.1 7 = σ.1 7 := by first | exact w7_τ4.trans W7 | omega
  have W13 : τ4.1 13 = σ.1 13 := by first | exact w13_τ4.trans W13 | omega
  have W14 : τ4.1 14 = σ.1 14 := by first | exact w14_τ4.trans W14 | omega
  have W15 : τ4.1 15 = σ.1 15 := by first | exact w15_τ4.trans W15 | omega
  have W16 : τ4.1 16 = σ.1 16 := by first | exact w16_τ4.trans W16 | omega
  have HT : J_ht (τ4.1 3) (τ4.2.1 2) (τ4.2.1 3) (τ4.2.1 5) (τ4.2.1 6) := q2_2
  have NL : J_nl (τ4.1 3) (τ4.2.1 2) (τ4.2.1 3) (τ4.2.1 4) := q2_5
  have A2 : ∀ j, 0 ≤ τ4.2.1 2 j ∧ τ4.2.1 2 j ≤ 65535 := fun j => hT.2 2 j
  have A3 : ∀ j, 0 ≤ τ4.2.1 3 j ∧ τ4.2.1 3 j ≤ 30000 := fun j => hT.2 3 j
  have A4 : ∀ j, (-1000) ≤ τ4.2.1 4 j ∧ τ4.2.1 4 j ≤ 1499 := fun j => hT.2 4 j
  have A5 : ∀ j, 0 ≤ τ4.2.1 5 j ∧ τ4.2.1 5 j ≤ 2500 := fun j => hT.2 5 j
  have A6 : ∀ j, 0 ≤ τ4.2.1 6 j ∧ τ4.2.1 6 j ≤ 2500 := fun j => hT.2 6 j
  have A8 : ∀ j, 0 ≤ τ4.2.1 8 j ∧ τ4.2.1 8 j ≤ 1 := fun j => hT.2 8 j
  have A9 : ∀ j, (-1) ≤ τ4.2.1 9 j ∧ τ4.2.1 9 j ≤ 1499 := fun j => hT.2 9 j
  have A10 : ∀ j, (-1) ≤ τ4.2.1 10 j ∧ τ4.2.1 10 j ≤ 99 := fun j => hT.2 10 j
  have v3 : 0 ≤ τ4.1 3 ∧ τ4.1 3 ≤ 2500 := hT.1 3
  have v5 : 0 ≤ τ4.1 5 ∧ τ4.1 5 ≤ 1000 := hT.1 5
  have v6 : 0 ≤ τ4.1 6 ∧ τ4.1 6 ≤ 30000 := hT.1 6
  have v7 : 0 ≤ τ4.1 7 ∧ τ4.1 7 ≤ 1500 := hT.1 7
  have v13 : 0 ≤ τ4.1 13 ∧ τ4.1 13 ≤ 90000 := hT.1 13
  have v14 : 0 ≤ τ4.1 14 ∧ τ4.1 14 ≤ 20000 := hT.1 14
  have v15 : 0 ≤ τ4.1 15 ∧ τ4.1 15 ≤ 20000 := hT.1 15
  have v16 : 0 ≤ τ4.1 16 ∧ τ4.1 16 ≤ 20000 := hT.1 16
  have a3_3 : 0 ≤ τ4.2.1 3 (τ4.1 3) ∧ τ4.2.1 3 (τ4.1 3) ≤ 30000 := hT.2 3 _
  have av3 : σ.1 3 ≤ τ4.1 3 := ag.1 3 (by decide)
  have av5 : σ.1 5 ≤ τ4.1 5 := ag.1 5 (by decide)
  refine ⟨(show 0 ≤ τ4.1 5 ∧ τ4.1 5 < 1000 from by (first | omega | (simp only [st_s] <;> omega) | assumption | omega | fail)), ?_⟩
  refine ⟨(show 0 ≤ n4 ∧ n4 ≤ 1 from by (first | omega | (simp only [st_s] <;> omega) | assumption | omega | fail)), ?_⟩
  replace ag := ag_w (k := 8) (x := n4) 5 0 ag rfl (show σ.1 5 + 0 ≤ (τ4.1 5) from by (first | omega | (simp only [st_s] <;> omega) | assumption | omega | fail))
  replace hT := cT_a (k := 8) (j := (τ4.1 5)) hT (show (0 : Int) ≤ n4 ∧ n4 ≤ 1 from by (first | omega | (simp only [st_s] <;> omega) | assumption | omega | fail))
  replace ag := ag_a (k := 9) (e := (τ4.1 5)) (x := (-1)) ag rfl
  replace hT := cT_a (k := 9) (j := (τ4.1 5)) hT (show (-1 : Int) ≤ (-1) ∧ (-1) ≤ 1499 from by (first | omega | (simp only [st_s] <;> omega) | assumption | omega | fail))
  replace ag := ag_a (k := 10) (e := (τ4.1 5)) (x := (-1)) ag rfl
  replace hT := cT_a (k := 10) (j := (τ4.1 5)) hT (show (-1 : Int) ≤ (-1) ∧ (-1) ≤ 99 from by (first | omega | (simp only [st_s] <;> omega) | assumption | omega | fail))
  refine ⟨(⟨by (first | omega | (simp only [st_s] <;> omega) | assumption | omega | fail), by (first | omega | (simp only [st_s] <;> omega) | assumption | omega | fail)⟩ : rg (τ4.1 5 + 1)), ?_⟩
  replace ag := ag_v (i := 5) (x := (τ4.1 5 + 1)) ag (Or.inr (show σ.1 5 ≤ (τ4.1 5 + 1) from by (first | omega | (simp only [st_s] <;> omega) | assumption | omega | fail)))
  replace hT := cT_v (i := 5) hT (show 0 ≤ (τ4.1 5 + 1) ∧ (τ4.1 5 + 1) ≤ 1000 from by (first | omega | (simp only [st_s] <;> omega) | assumption | omega | fail))
  refine ⟨(⟨by (first | omega | (simp only [st_s] <;> omega) | assumption | omega | fail), by (first | omega | (simp only [st_s] <;> omega) | assumption | omega | fail)⟩ : rg ((τ4.1 5 + 1) - 1)), ?_⟩
  exact ⟨hT, (show ((τ4.1 5 + 1) - 1) = (σ.1 5) from by (first | omega | (simp only [st_s] <;> omega) | assumption | omega | fail)), (show ((τ4.1 5 + 1)) = (σ.1 5) + 1 from by (first | omega | (simp only [st_s] <;> omega) | assumption | omega | fail)), (show (st (τ4.2.1 8) (τ4.1 5) n4) = st (σ.2.1 8) (σ.1 5) n4 from by (rw [g8_τ4, w5_τ4])), (show (st (τ4.2.1 10) (τ4.1 5) (-1)) = st (σ.2.1 10) (σ.1 5) (-1) from by (rw [g10_τ4, w5_τ4])), (show (st (τ4.2.1 9) (τ4.1 5) (-1)) = st (σ.2.1 9) (σ.1 5) (-1) from by (rw [g9_τ4, w5_τ4])), (show (τ4.1 3) = (σ.1 3) + 1 from by (first | omega | (simp only [st_s] <;> omega) | assumption | omega | fail)), (show J_ht (τ4.1 3) (τ4.2.1 2) (τ4.2.1 3) (τ4.2.1 5) (τ4.2.1 6) from HT), (show J_mn (τ4.1 3) ((τ4.1 5 + 1)) ((τ4.1 7) + 1) (τ4.2.1 4) from by exact q2_3), (show J_nl (τ4.1 3) (τ4.2.1 2) (τ4.2.1 3) (τ4.2.1 4) from NL), (show j_nm σ (s_v (s_a (s_a (s_a τ4 8 (τ4.1 5) n4) 9 (τ4.1 5) (-1)) 10 (τ4.1 5) (-1)) 5 (τ4.1 5 + 1)) from by exact j_nm_5 (show j_nm σ τ4 from q2_6 (Or.inr (by omega))) rfl (show τ4.1 5 ≤ τ4.1 5 + 1 from by omega) rfl rfl rfl), ag⟩
set_option maxHeartbeats 1000000 in
theorem K2_X3_isName_t1 {n1 : Int} {n3 : Int} {n4 : Int} {σ : S0} (hT : c_T σ) (p1 : 0 ≤ n1) (p2 : n1 < 2500) (p3 : 0 ≤ n3) (p4 : n3 + n4 ≤ 2) : W_X3_isName_t1 n1 n3 n4 σ (fun (x : Int) => (0 ≤ x ∧ x ≤ 1) ∧ (¬ x = 0 → c_eq (σ.2.1 2) (σ.2.1 3) n1 (t_1) n3 n4) ∧ (x = 0 → ¬ c_eq (σ.2.1 2) (σ.2.1 3) n1 (t_1) n3 n4)) := by
  have A3 : ∀ j, 0 ≤ σ.2.1 3 j ∧ σ.2.1 3 j ≤ 30000 := fun j => hT.2 3 j
  intro P29 h29
  have an1 := A3 n1
  have an2 := A3 (n1 + 1)
  have l_29 : ∀ (m_29 : Nat) (u5_29 : Int) (u6_29 : Int), 100001 - u6_29 < (m_29 : Int) → (n3 + n4 ≤ 2) → (0 ≤ u5_29) → (u5_29 + n4 ≤ 30000) → (0 ≤ u6_29 ∧ u6_29 ≤ 100000 ∧ (u6_29 ≤ n4 ∨ u6_29 = 0)) → (u5_29 = σ.2.1 3 n1) → (σ.2.1 3 (n1 + 1) - σ.2.1 3 n1 = n4) → (∀ k : Int, 0 ≤ k → k < u6_29 → σ.2.1 2 (u5_29 + k) = t_1 (n3 + k)) → P29 n3 n4 u5_29 u6_29 := by
    intro m_29
    induction m_29 with
    | zero =>
      intro u5_29 u6_29 hm i29_1 i29_2 i29_3 i29_4 i29_5 i29_6 i29_7
      exfalso; (first | omega | (simp only [st_s] <;> omega) | assumption | omega | fail)
    | succ m_29 ih_29 =>
      intro u5_29 u6_29 hm_29 i29_1 i29_2 i29_3 i29_4 i29_5 i29_6 i29_7
      refine h29 n3 n4 u5_29 u6_29 ?_
      refine ⟨fun c7 => ?_, fun c7 => ?_⟩
      ·
        exact ⟨(show 0 ≤ 1 ∧ 1 ≤ 1 from by (first | omega | (simp only [st_s] <;> omega) | assumption | omega | fail)), (show ¬ 1 = 0 → c_eq (σ.2.1 2) (σ.2.1 3) n1 (t_1) n3 n4 from by (first | (intro z; exfalso; omega) | (intro _; exact ⟨i29_6, fun k h0 h1 => by have := i29_7 k h0 (by omega); rw [i29_5] at this; exact this⟩) | fail)), (show 1 = 0 → ¬ c_eq (σ.2.1 2) (σ.2.1 3) n1 (t_1) n3 n4 from by (first | (intro z; exfalso; omega) | (intro _ h; exact c6 h.1) | (intro _ h; exact c12 (by have := h.2 u6_29 (by omega) (by omega); rw [e_x9, e_x11, i29_5]; exact this)) | fail))⟩
      ·
        refine ⟨(show 0 ≤ (u5_29 + u6_29) ∧ (u5_29 + u6_29) < 30000 from by (first | omega | (simp only [st_s] <;> omega) | assumption | omega | fail)), ?_⟩
        intro x9 r_x9 e_x9
        have b_x9 : 0 ≤ x9 ∧ x9 ≤ 65535 := by rw [e_x9]; exact hT.2 2 _
        refine ⟨(show 0 ≤ (n3 + u6_29) ∧ (n3 + u6_29) < 2 from by (first | omega | (simp only [st_s] <;> omega) | assumption | omega | fail)), ?_⟩
        intro x11 r_x11 e_x11
        have b_x11 : 0 ≤ x11 ∧ x11 ≤ 127 := by rw [e_x11]; exact t_1_b _
        refine ⟨fun c12 => ?_, fun c12 => ?_⟩
        ·
          refine ⟨(⟨by (first | omega | (simp only [st_s] <;> omega) | assumption | omega | fail), by (first | omega | (simp only [st_s] <;> omega) | assumption | omega | fail)⟩ : rg (u6_29 + 1)), ?_⟩
          exact ih_29 _ _ (show (100001 - (u6_29 + 1) : Int) < ((m_29 : Nat) : Int) from by ((first | omega | (simp only [st_s] <;> omega) | assumption | omega | fail))) (show n3 + n4 ≤ 2 from by (first | omega | (simp only [st_s] <;> omega) | assumption | omega | fail)) (show 0 ≤ u5_29 from by (first | omega | (simp only [st_s] <;> omega) | assumption | omega | fail)) (show u5_29 + n4 ≤ 30000 from by (first | omega | (simp only [st_s] <;> omega) | assumption | omega | fail)) (show 0 ≤ (u6_29 + 1) ∧ (u6_29 + 1) ≤ 100000 ∧ ((u6_29 + 1) ≤ n4 ∨ (u6_29 + 1) = 0) from by (first | omega | (simp only [st_s] <;> omega) | assumption | omega | fail)) (show u5_29 = σ.2.1 3 n1 from by (first | omega | (simp only [st_s] <;> omega) | assumption | omega | fail)) (show σ.2.1 3 (n1 + 1) - σ.2.1 3 n1 = n4 from by (first | omega | (simp only [st_s] <;> omega) | assumption | omega | fail)) (show ∀ k : Int, 0 ≤ k → k < (u6_29 + 1) → σ.2.1 2 (u5_29 + k) = t_1 (n3 + k) from by (intro k h0 h1; first | (exfalso; omega) | (by_cases z : k = u6_29; (rw [z, ← e_x9, ← e_x11]; exact c12); exact i29_7 k h0 (by omega))))
        ·
          exact ⟨(show 0 ≤ 0 ∧ 0 ≤ 1 from by (first | omega | (simp only [st_s] <;> omega) | assumption | omega | fail)), (show ¬ 0 = 0 → c_eq (σ.2.1 2) (σ.2.1 3) n1 (t_1) n3 n4 from by (first | (intro z; exfalso; omega) | (intro _; exact ⟨i29_6, fun k h0 h1 => by have := i29_7 k h0 (by omega); rw [i29_5] at this; exact this⟩) | fail)), (show 0 = 0 → ¬ c_eq (σ.2.1 2) (σ.2.1 3) n1 (t_1) n3 n4 from by (first | (intro z; exfalso; omega) | (intro _ h; exact c6 h.1) | (intro _ h; exact c12 (by have := h.2 u6_29 (by omega) (by omega); rw [e_x9, e_x11, i29_5]; exact this)) | fail))⟩
  refine ⟨(show 0 ≤ n1 ∧ n1 < 2501 from by (first | omega | (simp only [st_s] <;> omega) | assumption | omega | fail)), ?_⟩
  intro x2 r_x2 e_x2
  have b_x2 : 0 ≤ x2 ∧ x2 ≤ 30000 := by rw [e_x2]; exact hT.2 3 _
  refine ⟨(show 0 ≤ (n1 + 1) ∧ (n1 + 1) < 2501 from by (first | omega | (simp only [st_s] <;> omega) | assumption | omega | fail)), ?_⟩
  intro x4 r_x4 e_x4
  have b_x4 : 0 ≤ x4 ∧ x4 ≤ 30000 := by rw [e_x4]; exact hT.2 3 _
  refine ⟨(⟨by (first | omega | (simp only [st_s] <;> omega) | assumption | omega | fail), by (first | omega | (simp only [st_s] <;> omega) | assumption | omega | fail)⟩ : rg (x4 - x2)), ?_⟩
  refine ⟨fun c6 => ?_, fun c6 => ?_⟩
  ·
    rw [e_x4, e_x2] at c6
    exact l_29 ((100001 - 0 : Int).toNat + 1) _ _ (show (100001 - 0 : Int) < (((100001 - 0 : Int).toNat + 1 : Nat) : Int) from by ((first | omega | (simp only [st_s] <;> omega) | assumption | omega | fail))) (show n3 + n4 ≤ 2 from by (first | omega | (simp only [st_s] <;> omega) | assumption | omega | fail)) (show 0 ≤ x2 from by (first | omega | (simp only [st_s] <;> omega) | assumption | omega | fail)) (show x2 + n4 ≤ 30000 from by (first | omega | (simp only [st_s] <;> omega) | assumption | omega | fail)) (show 0 ≤ 0 ∧ 0 ≤ 100000 ∧ (0 ≤ n4 ∨ 0 = 0) from by (first | omega | (simp only [st_s] <;> omega) | assumption | omega | fail)) (show x2 = σ.2.1 3 n1 from by (first | omega | (simp only [st_s] <;> omega) | assumption | omega | fail)) (show σ.2.1 3 (n1 + 1) - σ.2.1 3 n1 = n4 from by (first | omega | (simp only [st_s] <;> omega) | assumption | omega | fail)) (show ∀ k : Int, 0 ≤ k → k < 0 → σ.2.1 2 (x2 + k) = t_1 (n3 + k) from by (intro k h0 h1; first | (exfalso; omega) | (by_cases z : k = u6_29; (rw [z, ← e_x9, ← e_x11]; exact c12); exact i29_7 k h0 (by omega))))
  ·
    rw [e_x4, e_x2] at c6
    exact ⟨(show 0 ≤ 0 ∧ 0 ≤ 1 from by (first | omega | (simp only [st_s] <;> omega) | assumption | omega | fail)), (show ¬ 0 = 0 → c_eq (σ.2.1 2) (σ.2.1 3) n1 (t_1) n3 n4 from by (first | (intro z; exfalso; omega) | (intro _; exact ⟨i29_6, fun k h0 h1 => by have := i29_7 k h0 (by omega); rw [i29_5] at this; exact this⟩) | fail)), (show 0 = 0 → ¬ c_eq (σ.2.1 2) (σ.2.1 3) n1 (t_1) n3 n4 from by (first | (intro z; exfalso; omega) | (intro _ h; exact c6 h.1) | (intro _ h; exact c12 (by have := h.2 u6_29 (by omega) (by omega); rw [e_x9, e_x11, i29_5]; exact this)) | fail))⟩
set_option maxHeartbeats 1000000 in
theorem K2_X3_nameOf_t1 {n2 : Int} {n3 : Int} {σ : S0} (hT : c_T σ) (p1 : 0 ≤ n2) (p2 : n2 + n3 ≤ 2) (p3 : J_ht (σ.1 3) (σ.2.1 2) (σ.2.1 3) (σ.2.1 5) (σ.2.1 6)) : W_X3_nameOf_t1 n2 n3 σ (fun (x : Int) => (-1 ≤ x) ∧ (x < (σ.1 3)) ∧ (0 ≤ x → c_eq (σ.2.1 2) (σ.2.1 3) x (t_1) n2 n3) ∧ (x = -1 → ∀ n : Int, 0 ≤ n → n < (σ.1 3) → ¬ c_eq (σ.2.1 2) (σ.2.1 3) n (t_1) n2 n3) ∧ (0 ≤ x → ∀ n : Int, x < n → n < (σ.1 3) → ¬ c_eq (σ.2.1 2) (σ.2.1 3) n (t_1) n2 n3)) := by
  have A2 : ∀ j, 0 ≤ σ.2.1 2 j ∧ σ.2.1 2 j ≤ 65535 := fun j => hT.2 2 j
  have A3 : ∀ j, 0 ≤ σ.2.1 3 j ∧ σ.2.1 3 j ≤ 30000 := fun j => hT.2 3 j
  have A5 : ∀ j, 0 ≤ σ.2.1 5 j ∧ σ.2.1 5 j ≤ 2500 := fun j => hT.2 5 j
  have A6 : ∀ j, 0 ≤ σ.2.1 6 j ∧ σ.2.1 6 j ≤ 2500 := fun j => hT.2 6 j
  have v3 : 0 ≤ σ.1 3 ∧ σ.1 3 ≤ 2500 := hT.1 3
  intro P16 h16
  have HT : J_ht (σ.1 3) (σ.2.1 2) (σ.2.1 3) (σ.2.1 5) (σ.2.1 6) := p3
  have HT_0 := HT
  have l_16 : ∀ (m_16 : Nat) (u4_16 : Int) (u5_16 : Int), 2501 - u5_16 < (m_16 : Int) → (0 ≤ u4_16) → (u4_16 ≤ (σ.1 3)) → (0 ≤ u5_16) → (u4_16 + u5_16 ≤ 2500) → (u4_16 = 0 ∨ c_bk (σ.2.1 2) (σ.2.1 3) (u4_16 - 1) = h_b (t_1) n2 n3) → (∀ k : Int, u4_16 ≤ k → k < (σ.1 3) → ¬ c_eq (σ.2.1 2) (σ.2.1 3) k (t_1) n2 n3) → P16 n2 n3 u4_16 u5_16 := by
    intro m_16
    induction m_16 with
    | zero =>
      intro u4_16 u5_16 hm i16_1 i16_2 i16_3 i16_4 i16_5 i16_6
      exfalso; (first | omega | (simp only [st_s] <;> omega) | assumption | omega | fail)
    | succ m_16 ih_16 =>
      intro u4_16 u5_16 hm_16 i16_1 i16_2 i16_3 i16_4 i16_5 i16_6
      refine h16 n2 n3 u4_16 u5_16 ?_
      refine ⟨fun c6 => ?_, fun c6 => ?_⟩
      ·
        exact ⟨(show -1 ≤ (-1) from by (first | omega | (simp only [st_s] <;> omega) | assumption | omega | fail)), (show (-1) < (σ.1 3) from by (first | omega | (simp only [st_s] <;> omega) | assumption | omega | fail)), (show 0 ≤ (-1) → c_eq (σ.2.1 2) (σ.2.1 3) (-1) (t_1) n2 n3 from by (first | (intro z; exfalso; omega) | (intro _; exact q9_2 c12) | fail)), (show (-1) = -1 → ∀ n : Int, 0 ≤ n → n < (σ.1 3) → ¬ c_eq (σ.2.1 2) (σ.2.1 3) n (t_1) n2 n3 from by (first | (intro z; exfalso; omega) | (intro _ k k0 k1; exact i16_6 k (by omega) k1) | fail)), (show 0 ≤ (-1) → ∀ n : Int, (-1) < n → n < (σ.1 3) → ¬ c_eq (σ.2.1 2) (σ.2.1 3) n (t_1) n2 n3 from by (first | (intro z; exfalso; omega) | (intro _ k k0 k1; exact i16_6 k (by omega) k1) | fail))⟩
      ·
        refine ⟨fun c7 => ?_, fun c7 => ?_⟩
        ·
          exact ⟨(show -1 ≤ (-1) from by (first | omega | (simp only [st_s] <;> omega) | assumption | omega | fail)), (show (-1) < (σ.1 3) from by (first | omega | (simp only [st_s] <;> omega) | assumption | omega | fail)), (show 0 ≤ (-1) → c_eq (σ.2.1 2) (σ.2.1 3) (-1) (t_1) n2 n3 from by (first | (intro z; exfalso; omega) | (intro _; exact q9_2 c12) | fail)), (show (-1) = -1 → ∀ n : Int, 0 ≤ n → n < (σ.1 3) → ¬ c_eq (σ.2.1 2) (σ.2.1 3) n (t_1) n2 n3 from by (first | (intro z; exfalso; omega) | (intro _ k k0 k1; exact i16_6 k (by omega) k1) | fail)), (show 0 ≤ (-1) → ∀ n : Int, (-1) < n → n < (σ.1 3) → ¬ c_eq (σ.2.1 2) (σ.2.1 3) n (t_1) n2 n3 from by (first | (intro z; exfalso; omega) | (intro _ k k0 k1; exact i16_6 k (by omega) k1) | fail))⟩
        ·
          refine ⟨(⟨by (first | omega | (simp only [st_s] <;> omega) | assumption | omega | fail), by (first | omega | (simp only [st_s] <;> omega) | assumption | omega | fail)⟩ : rg (u4_16 - 1)), ?_⟩
          refine ⟨_, K2_X3_isName_t1 hT (show 0 ≤ (u4_16 - 1) from by (first | omega | (simp only [st_s] <;> omega) | assumption | omega | fail)) (show (u4_16 - 1) < 2500 from by (first | omega | (simp only [st_s] <;> omega) | assumption | omega | fail)) (show 0 ≤ n2 from by (first | omega | (simp only [st_s] <;> omega) | assumption | omega | fail)) (show n2 + n3 ≤ 2 from by (first | omega | (simp only [st_s] <;> omega) | assumption | omega | fail)), ?_⟩
          intro x10 r_x10 hq
          obtain ⟨q9_1, q9_2, q9_3⟩ := hq
          replace q9_1 : 0 ≤ x10 ∧ x10 ≤ 1 := q9_1
          replace q9_2 : ¬ x10 = 0 → c_eq (σ.2.1 2) (σ.2.1 3) (u4_16 - 1) (t_1) n2 n3 := q9_2
          replace q9_3 : x10 = 0 → ¬ c_eq (σ.2.1 2) (σ.2.1 3) (u4_16 - 1) (t_1) n2 n3 := q9_3
          refine ⟨fun c12 => ?_, fun c12 => ?_⟩
          ·
            refine ⟨(show 0 ≤ (u4_16 - 1) ∧ (u4_16 - 1) < 2500 from by (first | omega | (simp only [st_s] <;> omega) | assumption | omega | fail)), ?_⟩
            intro x14 r_x14 e_x14
            have b_x14 : 0 ≤ x14 ∧ x14 ≤ 2500 := by rw [e_x14]; exact hT.2 5 _
            have hh := p3.2 (u4_16 - 1) (by omega) (by omega)
            rw [← e_x14] at hh
            refine ⟨(⟨by (first | omega | (simp only [st_s] <;> omega) | assumption | omega | fail), by (first | omega | (simp only [st_s] <;> omega) | assumption | omega | fail)⟩ : rg (u5_16 + 1)), ?_⟩
            exact ih_16 _ _ (show (2501 - (u5_16 + 1) : Int) < ((m_16 : Nat) : Int) from by ((first | omega | (simp only [st_s] <;> omega) | assumption | omega | fail))) (show 0 ≤ x14 from by (first | omega | (simp only [st_s] <;> omega) | assumption | omega | fail)) (show x14 ≤ (σ.1 3) from by (first | omega | (simp only [st_s] <;> omega) | assumption | omega | fail)) (show 0 ≤ (u5_16 + 1) from by (first | omega | (simp only [st_s] <;> omega) | assumption | omega | fail)) (show x14 + (u5_16 + 1) ≤ 2500 from by (first | omega | (simp only [st_s] <;> omega) | assumption | omega | fail)) (show x14 = 0 ∨ c_bk (σ.2.1 2) (σ.2.1 3) (x14 - 1) = h_b (t_1) n2 n3 from by (first | (have q9 := hh.2.2.1; rcases q9 with q | q; exact Or.inl q; have q9 := i16_5; rcases q9 with r | r; exfalso; omega; exact Or.inr (q.trans r)) | (have q9 := hb.2.2.1; rcases q9 with q | q; exact Or.inl q; exact Or.inr (q.trans q1_2)) | fail)) (show ∀ k : Int, x14 ≤ k → k < (σ.1 3) → ¬ c_eq (σ.2.1 2) (σ.2.1 3) k (t_1) n2 n3 from by (first | (intro k k0 k1 e; rcases (by omega : u4_16 ≤ k ∨ k = u4_16 - 1 ∨ k < u4_16 - 1) with y | y | y; exact i16_6 k y k1 e; (rw [y] at e; exact q9_3 c12 e); (have q9 := i16_5; rcases q9 with r | r; omega; exact hh.2.2.2.1 k k0 y ((c_eq_b e).trans r.symm))) | (intro k k0 k1 e; exact hb.2.2.2 k k0 k1 ((c_eq_b e).trans q1_2.symm)) | fail))
          ·
            exact ⟨(show -1 ≤ (u4_16 - 1) from by (first | omega | (simp only [st_s] <;> omega) | assumption | omega | fail)), (show (u4_16 - 1) < (σ.1 3) from by (first | omega | (simp only [st_s] <;> omega) | assumption | omega | fail)), (show 0 ≤ (u4_16 - 1) → c_eq (σ.2.1 2) (σ.2.1 3) (u4_16 - 1) (t_1) n2 n3 from by (first | (intro z; exfalso; omega) | (intro _; exact q9_2 c12) | fail)), (show (u4_16 - 1) = -1 → ∀ n : Int, 0 ≤ n → n < (σ.1 3) → ¬ c_eq (σ.2.1 2) (σ.2.1 3) n (t_1) n2 n3 from by (first | (intro z; exfalso; omega) | (intro _ k k0 k1; exact i16_6 k (by omega) k1) | fail)), (show 0 ≤ (u4_16 - 1) → ∀ n : Int, (u4_16 - 1) < n → n < (σ.1 3) → ¬ c_eq (σ.2.1 2) (σ.2.1 3) n (t_1) n2 n3 from by (first | (intro z; exfalso; omega) | (intro _ k k0 k1; exact i16_6 k (by omega) k1) | fail))⟩
  refine ⟨_, K_X3_bucket_t1 hT (show 0 ≤ n2 from by (first | omega | (simp only [st_s] <;> omega) | assumption | omega | fail)) (show n2 + n3 ≤ 2 from by (first | omega | (simp only [st_s] <;> omega) | assumption | omega | fail)), ?_⟩
  intro x2 r_x2 hq
  obtain ⟨q1_1, q1_2⟩ := hq
  replace q1_1 : 0 ≤ x2 ∧ x2 < 4096 := q1_1
  replace q1_2 : x2 = h_b (t_1) n2 n3 := q1_2
  refine ⟨(show 0 ≤ x2 ∧ x2 < 4096 from by (first | omega | (simp only [st_s] <;> omega) | assumption | omega | fail)), ?_⟩
  intro x5 r_x5 e_x5
  have b_x5 : 0 ≤ x5 ∧ x5 ≤ 2500 := by rw [e_x5]; exact hT.2 6 _
  have hb := p3.1 x2 (by omega) (by omega)
  rw [← e_x5] at hb
  exact l_16 ((2501 - 0 : Int).toNat + 1) _ _ (show (2501 - 0 : Int) < (((2501 - 0 : Int).toNat + 1 : Nat) : Int) from by ((first | omega | (simp only [st_s] <;> omega) | assumption | omega | fail))) (show 0 ≤ x5 from by (first | omega | (simp only [st_s] <;> omega) | assumption | omega | fail)) (show x5 ≤ (σ.1 3) from by (first | omega | (simp only [st_s] <;> omega) | assumption | omega | fail)) (show 0 ≤ 0 from by (first | omega | (simp only [st_s] <;> omega) | assumption | omega | fail)) (show x5 + 0 ≤ 2500 from by (first | omega | (simp only [st_s] <;> omega) | assumption | omega | fail)) (show x5 = 0 ∨ c_bk (σ.2.1 2) (σ.2.1 3) (x5 - 1) = h_b (t_1) n2 n3 from by (first | (have q9 := hh.2.2.1; rcases q9 with q | q; exact Or.inl q; have q9 := i16_5; rcases q9 with r | r; exfalso; omega; exact Or.inr (q.trans r)) | (have q9 := hb.2.2.1; rcases q9 with q | q; exact Or.inl q; exact Or.inr (q.trans q1_2)) | fail)) (show ∀ k : Int, x5 ≤ k → k < (σ.1 3) → ¬ c_eq (σ.2.1 2) (σ.2.1 3) k (t_1) n2 n3 from by (first | (intro k k0 k1 e; rcases (by omega : u4_16 ≤ k ∨ k = u4_16 - 1 ∨ k < u4_16 - 1) with y | y | y; exact i16_6 k y k1 e; (rw [y] at e; exact q9_3 c12 e); (have q9 := i16_5; rcases q9 with r | r; omega; exact hh.2.2.2.1 k k0 y ((c_eq_b e).trans r.symm))) | (intro k k0 k1 e; exact hb.2.2.2 k k0 k1 ((c_eq_b e).trans q1_2.symm)) | fail))
set_option maxHeartbeats 1000000 in
theorem K2_X3_isName_t2 {n1 : Int} {n3 : Int} {n4 : Int} {σ : S0} (hT : c_T σ) (p1 : 0 ≤ n1) (p2 : n1 < 2500) (p3 : 0 ≤ n3) (p4 : n3 + n4 ≤ 3) : W_X3_isName_t2 n1 n3 n4 σ (fun (x : Int) => (0 ≤ x ∧ x ≤ 1) ∧ (¬ x = 0 → c_eq (σ.2.1 2) (σ.2.1 3) n1 (t_2) n3 n4) ∧ (x = 0 → ¬ c_eq (σ.2.1 2) (σ.2.1 3) n1 (t_2) n3 n4)) := by
  have A3 : ∀ j, 0 ≤ σ.2.1 3 j ∧ σ.2.1 3 j ≤ 30000 := fun j => hT.2 3 j
  intro P29 h29
  have an1 := A3 n1
  have an2 := A3 (n1 + 1)
  have l_29 : ∀ (m_29 : Nat) (u5_29 : Int) (u6_29 : Int), 100001 - u6_29 < (m_29 : Int) → (n3 + n4 ≤ 3) → (0 ≤ u5_29) → (u5_29 + n4 ≤ 30000) → (0 ≤ u6_29 ∧ u6_29 ≤ 100000 ∧ (u6_29 ≤ n4 ∨ u6_29 = 0)) → (u5_29 = σ.2.1 3 n1) → (σ.2.1 3 (n1 + 1) - σ.2.1 3 n1 = n4) → (∀ k : Int, 0 ≤ k → k < u6_29 → σ.2.1 2 (u5_29 + k) = t_2 (n3 + k)) → P29 n3 n4 u5_29 u6_29 := by
    intro m_29
    induction m_29 with
    | zero =>
      intro u5_29 u6_29 hm i29_1 i29_2 i29_3 i29_4 i29_5 i29_6 i29_7
      exfalso; (first | omega | (simp only [st_s] <;> omega) | assumption | omega | fail)
    | succ m_29 ih_29 =>
      intro u5_29 u6_29 hm_29 i29_1 i29_2 i29_3 i29_4 i29_5 i29_6 i29_7
      refine h29 n3 n4 u5_29 u6_29 ?_
      refine ⟨fun c7 => ?_, fun c7 => ?_⟩
      ·
        exact ⟨(show 0 ≤ 1 ∧ 1 ≤ 1 from by (first | omega | (simp only [st_s] <;> omega) | assumption | omega | fail)), (show ¬ 1 = 0 → c_eq (σ.2.1 2) (σ.2.1 3) n1 (t_2) n3 n4 from by (first | (intro z; exfalso; omega) | (intro _; exact ⟨i29_6, fun k h0 h1 => by have := i29_7 k h0 (by omega); rw [i29_5] at this; exact this⟩) | fail)), (show 1 = 0 → ¬ c_eq (σ.2.1 2) (σ.2.1 3) n1 (t_2) n3 n4 from by (first | (intro z; exfalso; omega) | (intro _ h; exact c6 h.1) | (intro _ h; exact c12 (by have := h.2 u6_29 (by omega) (by omega); rw [e_x9, e_x11, i29_5]; exact this)) | fail))⟩
      ·
        refine ⟨(show 0 ≤ (u5_29 + u6_29) ∧ (u5_29 + u6_29) < 30000 from by (first | omega | (simp only [st_s] <;> omega) | assumption | omega | fail)), ?_⟩
        intro x9 r_x9 e_x9
        have b_x9 : 0 ≤ x9 ∧ x9 ≤ 65535 := by rw [e_x9]; exact hT.2 2 _
        refine ⟨(show 0 ≤ (n3 + u6_29) ∧ (n3 + u6_29) < 3 from by (first | omega | (simp only [st_s] <;> omega) | assumption | omega | fail)), ?_⟩
        intro x11 r_x11 e_x11
        have b_x11 : 0 ≤ x11 ∧ x11 ≤ 127 := by rw [e_x11]; exact t_2_b _
        refine ⟨fun c12 => ?_, fun c12 => ?_⟩
        ·
          refine ⟨(⟨by (first | omega | (simp only [st_s] <;> omega) | assumption | omega | fail), by (first | omega | (simp only [st_s] <;> omega) | assumption | omega | fail)⟩ : rg (u6_29 + 1)), ?_⟩
          exact ih_29 _ _ (show (100001 - (u6_29 + 1) : Int) < ((m_29 : Nat) : Int) from by ((first | omega | (simp only [st_s] <;> omega) | assumption | omega | fail))) (show n3 + n4 ≤ 3 from by (first | omega | (simp only [st_s] <;> omega) | assumption | omega | fail)) (show 0 ≤ u5_29 from by (first | omega | (simp only [st_s] <;> omega) | assumption | omega | fail)) (show u5_29 + n4 ≤ 30000 from by (first | omega | (simp only [st_s] <;> omega) | assumption | omega | fail)) (show 0 ≤ (u6_29 + 1) ∧ (u6_29 + 1) ≤ 100000 ∧ ((u6_29 + 1) ≤ n4 ∨ (u6_29 + 1) = 0) from by (first | omega | (simp only [st_s] <;> omega) | assumption | omega | fail)) (show u5_29 = σ.2.1 3 n1 from by (first | omega | (simp only [st_s] <;> omega) | assumption | omega | fail)) (show σ.2.1 3 (n1 + 1) - σ.2.1 3 n1 = n4 from by (first | omega | (simp only [st_s] <;> omega) | assumption | omega | fail)) (show ∀ k : Int, 0 ≤ k → k < (u6_29 + 1) → σ.2.1 2 (u5_29 + k) = t_2 (n3 + k) from by (intro k h0 h1; first | (exfalso; omega) | (by_cases z : k = u6_29; (rw [z, ← e_x9, ← e_x11]; exact c12); exact i29_7 k h0 (by omega))))
        ·
          exact ⟨(show 0 ≤ 0 ∧ 0 ≤ 1 from by (first | omega | (simp only [st_s] <;> omega) | assumption | omega | fail)), (show ¬ 0 = 0 → c_eq (σ.2.1 2) (σ.2.1 3) n1 (t_2) n3 n4 from by (first | (intro z; exfalso; omega) | (intro _; exact ⟨i29_6, fun k h0 h1 => by have := i29_7 k h0 (by omega); rw [i29_5] at this; exact this⟩) | fail)), (show 0 = 0 → ¬ c_eq (σ.2.1 2) (σ.2.1 3) n1 (t_2) n3 n4 from by (first | (intro z; exfalso; omega) | (intro _ h; exact c6 h.1) | (intro _ h; exact c12 (by have := h.2 u6_29 (by omega) (by omega); rw [e_x9, e_x11, i29_5]; exact this)) | fail))⟩
  refine ⟨(show 0 ≤ n1 ∧ n1 < 2501 from by (first | omega | (simp only [st_s] <;> omega) | assumption | omega | fail)), ?_⟩
  intro x2 r_x2 e_x2
  have b_x2 : 0 ≤ x2 ∧ x2 ≤ 30000 := by rw [e_x2]; exact hT.2 3 _
  refine ⟨(show 0 ≤ (n1 + 1) ∧ (n1 + 1) < 2501 from by (first | omega | (simp only [st_s] <;> omega) | assumption | omega | fail)), ?_⟩
  intro x4 r_x4 e_x4
  have b_x4 : 0 ≤ x4 ∧ x4 ≤ 30000 := by rw [e_x4]; exact hT.2 3 _
  refine ⟨(⟨by (first | omega | (simp only [st_s] <;> omega) | assumption | omega | fail), by (first | omega | (simp only [st_s] <;> omega) | assumption | omega | fail)⟩ : rg (x4 - x2)), ?_⟩
  refine ⟨fun c6 => ?_, fun c6 => ?_⟩
  ·
    rw [e_x4, e_x2] at c6
    exact l_29 ((100001 - 0 : Int).toNat + 1) _ _ (show (100001 - 0 : Int) < (((100001 - 0 : Int).toNat + 1 : Nat) : Int) from by ((first | omega | (simp only [st_s] <;> omega) | assumption | omega | fail))) (show n3 + n4 ≤ 3 from by (first | omega | (simp only [st_s] <;> omega) | assumption | omega | fail)) (show 0 ≤ x2 from by (first | omega | (simp only [st_s] <;> omega) | assumption | omega | fail)) (show x2 + n4 ≤ 30000 from by (first | omega | (simp only [st_s] <;> omega) | assumption | omega | fail)) (show 0 ≤ 0 ∧ 0 ≤ 100000 ∧ (0 ≤ n4 ∨ 0 = 0) from by (first | omega | (simp only [st_s] <;> omega) | assumption | omega | fail)) (show x2 = σ.2.1 3 n1 from by (first | omega | (simp only [st_s] <;> omega) | assumption | omega | fail)) (show σ.2.1 3 (n1 + 1) - σ.2.1 3 n1 = n4 from by (first | omega | (simp only [st_s] <;> omega) | assumption | omega | fail)) (show ∀ k : Int, 0 ≤ k → k < 0 → σ.2.1 2 (x2 + k) = t_2 (n3 + k) from by (intro k h0 h1; first | (exfalso; omega) | (by_cases z : k = u6_29; (rw [z, ← e_x9, ← e_x11]; exact c12); exact i29_7 k h0 (by omega))))
  ·
    rw [e_x4, e_x2] at c6
    exact ⟨(show 0 ≤ 0 ∧ 0 ≤ 1 from by (first | omega | (simp only [st_s] <;> omega) | assumption | omega | fail)), (show ¬ 0 = 0 → c_eq (σ.2.1 2) (σ.2.1 3) n1 (t_2) n3 n4 from by (first | (intro z; exfalso; omega) | (intro _; exact ⟨i29_6, fun k h0 h1 => by have := i29_7 k h0 (by omega); rw [i29_5] at this; exact this⟩) | fail)), (show 0 = 0 → ¬ c_eq (σ.2.1 2) (σ.2.1 3) n1 (t_2) n3 n4 from by (first | (intro z; exfalso; omega) | (intro _ h; exact c6 h.1) | (intro _ h; exact c12 (by have := h.2 u6_29 (by omega) (by omega); rw [e_x9, e_x11, i29_5]; exact this)) | fail))⟩
set_option maxHeartbeats 1000000 in
theorem K2_X3_nameOf_t2 {n2 : Int} {n3 : Int} {σ : S0} (hT : c_T σ) (p1 : 0 ≤ n2) (p2 : n2 + n3 ≤ 3) (p3 : J_ht (σ.1 3) (σ.2.1 2) (σ.2.1 3) (σ.2.1 5) (σ.2.1 6)) : W_X3_nameOf_t2 n2 n3 σ (fun (x : Int) => (-1 ≤ x) ∧ (x < (σ.1 3)) ∧ (0 ≤ x → c_eq (σ.2.1 2) (σ.2.1 3) x (t_2) n2 n3) ∧ (x = -1 → ∀ n : Int, 0 ≤ n → n < (σ.1 3) → ¬ c_eq (σ.2.1 2) (σ.2.1 3) n (t_2) n2 n3) ∧ (0 ≤ x → ∀ n : Int, x < n → n < (σ.1 3) → ¬ c_eq (σ.2.1 2) (σ.2.1 3) n (t_2) n2 n3)) := by
  have A2 : ∀ j, 0 ≤ σ.2.1 2 j ∧ σ.2.1 2 j ≤ 65535 := fun j => hT.2 2 j
  have A3 : ∀ j, 0 ≤ σ.2.1 3 j ∧ σ.2.1 3 j ≤ 30000 := fun j => hT.2 3 j
  have A5 : ∀ j, 0 ≤ σ.2.1 5 j ∧ σ.2.1 5 j ≤ 2500 := fun j => hT.2 5 j
  have A6 : ∀ j, 0 ≤ σ.2.1 6 j ∧ σ.2.1 6 j ≤ 2500 := fun j => hT.2 6 j
  have v3 : 0 ≤ σ.1 3 ∧ σ.1 3 ≤ 2500 := hT.1 3
  intro P16 h16
  have HT : J_ht (σ.1 3) (σ.2.1 2) (σ.2.1 3) (σ.2.1 5) (σ.2.1 6) := p3
  have HT_0 := HT
  have l_16 : ∀ (m_16 : Nat) (u4_16 : Int) (u5_16 : Int), 2501 - u5_16 < (m_16 : Int) → (0 ≤ u4_16) → (u4_16 ≤ (σ.1 3)) → (0 ≤ u5_16) → (u4_16 + u5_16 ≤ 2500) → (u4_16 = 0 ∨ c_bk (σ.2.1 2) (σ.2.1 3) (u4_16 - 1) = h_b (t_2) n2 n3) → (∀ k : Int, u4_16 ≤ k → k < (σ.1 3) → ¬ c_eq (σ.2.1 2) (σ.2.1 3) k (t_2) n2 n3) → P16 n2 n3 u4_16 u5_16 := by
    intro m_16
    induction m_16 with
    | zero =>
      intro u4_16 u5_16 hm i16_1 i16_2 i16_3 i16_4 i16_5 i16_6
      exfalso; (first | omega | (simp only [st_s] <;> omega) | assumption | omega | fail)
    | succ m_16 ih_16 =>
      intro u4_16 u5_16 hm_16 i16_1 i16_2 i16_3 i16_4 i16_5 i16_6
      refine h16 n2 n3 u4_16 u5_16 ?_
      refine ⟨fun c6 => ?_, fun c6 => ?_⟩
      ·
        exact ⟨(show -1 ≤ (-1) from by (first | omega | (simp only [st_s] <;> omega) | assumption | omega | fail)), (show (-1) < (σ.1 3) from by (first | omega | (simp only [st_s] <;> omega) | assumption | omega | fail)), (show 0 ≤ (-1) → c_eq (σ.2.1 2) (σ.2.1 3) (-1) (t_2) n2 n3 from by (first | (intro z; exfalso; omega) | (intro _; exact q9_2 c12) | fail)), (show (-1) = -1 → ∀ n : Int, 0 ≤ n → n < (σ.1 3) → ¬ c_eq (σ.2.1 2) (σ.2.1 3) n (t_2) n2 n3 from by (first | (intro z; exfalso; omega) | (intro _ k k0 k1; exact i16_6 k (by omega) k1) | fail)), (show 0 ≤ (-1) → ∀ n : Int, (-1) < n → n < (σ.1 3) → ¬ c_eq (σ.2.1 2) (σ.2.1 3) n (t_2) n2 n3 from by (first | (intro z; exfalso; omega) | (intro _ k k0 k1; exact i16_6 k (by omega) k1) | fail))⟩
      ·
        refine ⟨fun c7 => ?_, fun c7 => ?_⟩
        ·
          exact ⟨(show -1 ≤ (-1) from by (first | omega | (simp only [st_s] <;> omega) | assumption | omega | fail)), (show (-1) < (σ.1 3) from by (first | omega | (simp only [st_s] <;> omega) | assumption | omega | fail)), (show 0 ≤ (-1) → c_eq (σ.2.1 2) (σ.2.1 3) (-1) (t_2) n2 n3 from by (first | (intro z; exfalso; omega) | (intro _; exact q9_2 c12) | fail)), (show (-1) = -1 → ∀ n : Int, 0 ≤ n → n < (σ.1 3) → ¬ c_eq (σ.2.1 2) (σ.2.1 3) n (t_2) n2 n3 from by (first | (intro z; exfalso; omega) | (intro _ k k0 k1; exact i16_6 k (by omega) k1) | fail)), (show 0 ≤ (-1) → ∀ n : Int, (-1) < n → n < (σ.1 3) → ¬ c_eq (σ.2.1 2) (σ.2.1 3) n (t_2) n2 n3 from by (first | (intro z; exfalso; omega) | (intro _ k k0 k1; exact i16_6 k (by omega) k1) | fail))⟩
        ·
          refine ⟨(⟨by (first | omega | (simp only [st_s] <;> omega) | assumption | omega | fail), by (first | omega | (simp only [st_s] <;> omega) | assumption | omega | fail)⟩ : rg (u4_16 - 1)), ?_⟩
          refine ⟨_, K2_X3_isName_t2 hT (show 0 ≤ (u4_16 - 1) from by (first | omega | (simp only [st_s] <;> omega) | assumption | omega | fail)) (show (u4_16 - 1) < 2500 from by (first | omega | (simp only [st_s] <;> omega) | assumption | omega | fail)) (show 0 ≤ n2 from by (first | omega | (simp only [st_s] <;> omega) | assumption | omega | fail)) (show n2 + n3 ≤ 3 from by (first | omega | (simp only [st_s] <;> omega) | assumption | omega | fail)), ?_⟩
          intro x10 r_x10 hq
          obtain ⟨q9_1, q9_2, q9_3⟩ := hq
          replace q9_1 : 0 ≤ x10 ∧ x10 ≤ 1 := q9_1
          replace q9_2 : ¬ x10 = 0 → c_eq (σ.2.1 2) (σ.2.1 3) (u4_16 - 1) (t_2) n2 n3 := q9_2
          replace q9_3 : x10 = 0 → ¬ c_eq (σ.2.1 2) (σ.2.1 3) (u4_16 - 1) (t_2) n2 n3 := q9_3
          refine ⟨fun c12 => ?_, fun c12 => ?_⟩
          ·
            refine ⟨(show 0 ≤ (u4_16 - 1) ∧ (u4_16 - 1) < 2500 from by (first | omega | (simp only [st_s] <;> omega) | assumption | omega | fail)), ?_⟩
            intro x14 r_x14 e_x14
            have b_x14 : 0 ≤ x14 ∧ x14 ≤ 2500 := by rw [e_x14]; exact hT.2 5 _
            have hh := p3.2 (u4_16 - 1) (by omega) (by omega)
            rw [← e_x14] at hh
            refine ⟨(⟨by (first | omega | (simp only [st_s] <;> omega) | assumption | omega | fail), by (first | omega | (simp only [st_s] <;> omega) | assumption | omega | fail)⟩ : rg (u5_16 + 1)), ?_⟩
            exact ih_16 _ _ (show (2501 - (u5_16 + 1) : Int) < ((m_16 : Nat) : Int) from by ((first | omega | (simp only [st_s] <;> omega) | assumption | omega | fail))) (show 0 ≤ x14 from by (first | omega | (simp only [st_s] <;> omega) | assumption | omega | fail)) (show x14 ≤ (σ.1 3) from by (first | omega | (simp only [st_s] <;> omega) | assumption | omega | fail)) (show 0 ≤ (u5_16 + 1) from by (first | omega | (simp only [st_s] <;> omega) | assumption | omega | fail)) (show x14 + (u5_16 + 1) ≤ 2500 from by (first | omega | (simp only [st_s] <;> omega) | assumption | omega | fail)) (show x14 = 0 ∨ c_bk (σ.2.1 2) (σ.2.1 3) (x14 - 1) = h_b (t_2) n2 n3 from by (first | (have q9 := hh.2.2.1; rcases q9 with q | q; exact Or.inl q; have q9 := i16_5; rcases q9 with r | r; exfalso; omega; exact Or.inr (q.trans r)) | (have q9 := hb.2.2.1; rcases q9 with q | q; exact Or.inl q; exact Or.inr (q.trans q1_2)) | fail)) (show ∀ k : Int, x14 ≤ k → k < (σ.1 3) → ¬ c_eq (σ.2.1 2) (σ.2.1 3) k (t_2) n2 n3 from by (first | (intro k k0 k1 e; rcases (by omega : u4_16 ≤ k ∨ k = u4_16 - 1 ∨ k < u4_16 - 1) with y | y | y; exact i16_6 k y k1 e; (rw [y] at e; exact q9_3 c12 e); (have q9 := i16_5; rcases q9 with r | r; omega; exact hh.2.2.2.1 k k0 y ((c_eq_b e).trans r.symm))) | (intro k k0 k1 e; exact hb.2.2.2 k k0 k1 ((c_eq_b e).trans q1_2.symm)) | fail))
          ·
            exact ⟨(show -1 ≤ (u4_16 - 1) from by (first | omega | (simp only [st_s] <;> omega) | assumption | omega | fail)), (show (u4_16 - 1) < (σ.1 3) from by (first | omega | (simp only [st_s] <;> omega) | assumption | omega | fail)), (show 0 ≤ (u4_16 - 1) → c_eq (σ.2.1 2) (σ.2.1 3) (u4_16 - 1) (t_2) n2 n3 from by (first | (intro z; exfalso; omega) | (intro _; exact q9_2 c12) | fail)), (show (u4_16 - 1) = -1 → ∀ n : Int, 0 ≤ n → n < (σ.1 3) → ¬ c_eq (σ.2.1 2) (σ.2.1 3) n (t_2) n2 n3 from by (first | (intro z; exfalso; omega) | (intro _ k k0 k1; exact i16_6 k (by omega) k1) | fail)), (show 0 ≤ (u4_16 - 1) → ∀ n : Int, (u4_16 - 1) < n → n < (σ.1 3) → ¬ c_eq (σ.2.1 2) (σ.2.1 3) n (t_2) n2 n3 from by (first | (intro z; exfalso; omega) | (intro _ k k0 k1; exact i16_6 k (by omega) k1) | fail))⟩
  refine ⟨_, K_X3_bucket_t2 hT (show 0 ≤ n2 from by (first | omega | (simp only [st_s] <;> omega) | assumption | omega | fail)) (show n2 + n3 ≤ 3 from by (first | omega | (simp only [st_s] <;> omega) | assumption | omega | fail)), ?_⟩
  intro x2 r_x2 hq
  obtain ⟨q1_1, q1_2⟩ := hq
  replace q1_1 : 0 ≤ x2 ∧ x2 < 4096 := q1_1
  replace q1_2 : x2 = h_b (t_2) n2 n3 := q1_2
  refine ⟨(show 0 ≤ x2 ∧ x2 < 4096 from by (first | omega | (simp only [st_s] <;> omega) | assumption | omega | fail)), ?_⟩
  intro x5 r_x5 e_x5
  have b_x5 : 0 ≤ x5 ∧ x5 ≤ 2500 := by rw [e_x5]; exact hT.2 6 _
  have hb := p3.1 x2 (by omega) (by omega)
  rw [← e_x5] at hb
  exact l_16 ((2501 - 0 : Int).toNat + 1) _ _ (show (2501 - 0 : Int) < (((2501 - 0 : Int).toNat + 1 : Nat) : Int) from by ((first | omega | (simp only [st_s] <;> omega) | assumption | omega | fail))) (show 0 ≤ x5 from by (first | omega | (simp only [st_s] <;> omega) | assumption | omega | fail)) (show x5 ≤ (σ.1 3) from by (first | omega | (simp only [st_s] <;> omega) | assumption | omega | fail)) (show 0 ≤ 0 from by (first | omega | (simp only [st_s] <;> omega) | assumption | omega | fail)) (show x5 + 0 ≤ 2500 from by (first | omega | (simp only [st_s] <;> omega) | assumption | omega | fail)) (show x5 = 0 ∨ c_bk (σ.2.1 2) (σ.2.1 3) (x5 - 1) = h_b (t_2) n2 n3 from by (first | (have q9 := hh.2.2.1; rcases q9 with q | q; exact Or.inl q; have q9 := i16_5; rcases q9 with r | r; exfalso; omega; exact Or.inr (q.trans r)) | (have q9 := hb.2.2.1; rcases q9 with q | q; exact Or.inl q; exact Or.inr (q.trans q1_2)) | fail)) (show ∀ k : Int, x5 ≤ k → k < (σ.1 3) → ¬ c_eq (σ.2.1 2) (σ.2.1 3) k (t_2) n2 n3 from by (first | (intro k k0 k1 e; rcases (by omega : u4_16 ≤ k ∨ k = u4_16 - 1 ∨ k < u4_16 - 1) with y | y | y; exact i16_6 k y k1 e; (rw [y] at e; exact q9_3 c12 e); (have q9 := i16_5; rcases q9 with r | r; omega; exact hh.2.2.2.1 k k0 y ((c_eq_b e).trans r.symm))) | (intro k k0 k1 e; exact hb.2.2.2 k k0 k1 ((c_eq_b e).trans q1_2.symm)) | fail))
