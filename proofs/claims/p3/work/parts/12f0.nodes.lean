-- pure: trees of the model
/-- steps over a stretch -/
def y_wy (row : Int → Int) (W : Int → Int → Int → Prop) (f : Int → Int) (i j n : Int) (D : Int → Int) : Prop := D 0 = i ∧ D n = j ∧ ∀ m : Int, 0 ≤ m → m < n → y_stp row W (f (m + 1)) (D m) (D (m + 1))
/-- the chart, done, of the row at hand -/
def y_TC (ρ : Int → Int → Int → Int) (σ : S0) : Prop := (y_QD σ ∧ 0 ≤ σ.1 50 ∧ σ.1 50 ≤ σ.1 5) ∧ (∀ t p q : Int, 0 ≤ p → p < q → q ≤ σ.1 45 → y_ok (σ.1 50) (y_In σ) (y_hd σ) (y_nn σ) (y_f σ) (σ.2.1 72) (y_ls (σ.1 3) (σ.2.1 71) (σ.2.1 73)) (y_W1 (σ.1 3) (σ.2.1 71) (σ.2.1 75)) (y_W2 (σ.1 3) (σ.2.1 71) (σ.2.1 75)) ρ t p q) ∧
  (∀ t p q : Int, 0 ≤ t → t < σ.1 3 → 0 ≤ σ.2.1 71 t → 0 ≤ p → p < q → q ≤ σ.1 45 → y_mb σ (σ.2.1 75) (σ.2.1 76) (σ.1 50) t p q) ∧ n_J σ ∧ m_J σ
abbrev y_Wσ (σ : S0) : Int → Int → Int → Prop := y_W1 (σ.1 3) (σ.2.1 71) (σ.2.1 75)
abbrev y_Vσ (σ : S0) : Int → Int → Int → Prop := y_W2 (σ.1 3) (σ.2.1 71) (σ.2.1 75)
/-- a cell that is reached once -/
def y_c0 (σ : S0) (c i j : Int) : Prop := (0 ≤ i ∧ i < j ∧ j ≤ σ.1 45) ∧ ∃ t : Int, σ.2.1 71 t = c ∧ y_Wσ σ t i j ∧ ¬ y_Vσ σ t i j
/-- a node's weight -/
noncomputable def y_wt (ρ : Int → Int → Int → Int) (σ : S0) (c i j : Int) : Int := 1 + ρ (y_inv (σ.1 3) (σ.2.1 71) c) i j + 200 * (j - i - 1)
theorem y_wt_b {ρ : Int → Int → Int → Int} {σ : S0} {c i j : Int} (h : y_TC ρ σ) (n : y_c0 σ c i j) : 1 + 200 * (j - i - 1) ≤ y_wt ρ σ c i j ∧ y_wt ρ σ c i j ≤ 100 + 200 * (j - i - 1) := by
  obtain ⟨⟨a, b, d⟩, t, e, w, _⟩ := n
  have inj := h.1.1.2.2.1.2
  have k := ((h.2.1 t i j a b d).2.2 w).1
  unfold y_wt
  rw [← e, y_inv_s inj w.1.1 w.1.2.1 w.1.2.2]
  omega
theorem y_p2_t {row : Int → Int} {W V : Int → Int → Int → Prop} {f : Int → Int} {i : Int} {k : Nat} {p q : Int} (ip : i ≤ p) (s : y_stp row W (f ((k : Int) + 1)) p q) (h : ¬ y_p2 row W V f i (k + 1) q) : ¬ y_p2 row W V f i k p ∧ (y_p1 row W f i k p → f ((k : Int) + 1) < 0 → ¬ V (-2 - f ((k : Int) + 1)) p q) := by
  constructor
  · intro g
    rcases s with ⟨a, b, c⟩ | ⟨a, b, c⟩
    · exact h (Or.inl ⟨a, by omega, by rw [b, show p + 1 - 1 = p by omega]; exact c, by rw [b, show p + 1 - 1 = p by omega]; exact g⟩)
    · exact h (Or.inr ⟨a, Or.inl ⟨p, ⟨ip, b⟩, Or.inl ⟨g, c⟩⟩⟩)
  · intro g z v
    rcases s with ⟨a, _⟩ | ⟨_, b, _⟩
    · omega
    · exact h (Or.inr ⟨z, Or.inl ⟨p, ⟨ip, b⟩, Or.inr ⟨g, v⟩⟩⟩)
/-- how many variables a rule has in its symbols -/
def y_vi (σ : S0) (r m : Int) : Int := if y_f σ r (m + 1) < 0 then 1 else 0
/-- a rule's hypotheses stand among its symbols -/
theorem y_rh {σ : S0} (J : n_J σ) (hT : m_T σ) {r : Int} (r0 : 0 ≤ r) (r1 : r < σ.1 5) (h : y_In σ r) : (∀ m : Int, 0 ≤ m → m < y_nn σ r → y_f σ r (m + 1) < 0 → ∃ k : Int, (0 ≤ k ∧ k < σ.2.1 19 r) ∧ σ.2.1 16 (σ.2.1 14 (σ.2.1 20 (σ.2.1 18 r + k)) + 1) = σ.2.1 16 (σ.2.1 14 r + 1 + m)) ∧
    (∀ k : Int, 0 ≤ k → k < σ.2.1 19 r → ∃ m : Int, (0 ≤ m ∧ m < y_nn σ r) ∧ y_f σ r (m + 1) < 0 ∧ σ.2.1 16 (σ.2.1 14 (σ.2.1 20 (σ.2.1 18 r + k)) + 1) = σ.2.1 16 (σ.2.1 14 r + 1 + m)) ∧
    (∀ k o : Int, 0 ≤ o → o < k → k < σ.2.1 19 r → σ.2.1 16 (σ.2.1 14 (σ.2.1 20 (σ.2.1 18 r + o)) + 1) ≠ σ.2.1 16 (σ.2.1 14 (σ.2.1 20 (σ.2.1 18 r + k)) + 1)) ∧
    ∀ m o : Int, 0 ≤ o → o < m → m < y_nn σ r → y_f σ r (m + 1) < 0 → σ.2.1 16 (σ.2.1 14 r + 1 + o) ≠ σ.2.1 16 (σ.2.1 14 r + 1 + m) := by
  obtain ⟨⟨k2, t2, iv0, tu⟩, hh, h2⟩ := h.1
  obtain ⟨jA, jB, _⟩ := J r r0 r1
  obtain ⟨⟨a1, a2, a3, a4⟩, _, a6⟩ := jA
  obtain ⟨b1, b2, b3, b4⟩ := jB (by omega)
  have nn : y_nn σ r = σ.2.1 15 r - 1 := rfl
  have tx0 : ∀ p : Int, 0 ≤ σ.2.1 16 p := fun p => (hT.2 16 p).1
  have IV : ∀ m : Int, y_f σ r (m + 1) < 0 → ¬ σ.2.1 8 (σ.2.1 16 (σ.2.1 14 r + 1 + m)) = 0 := fun m z q => by
    unfold y_f at z
    rw [show σ.2.1 14 r + (m + 1) = σ.2.1 14 r + 1 + m by omega, if_pos q] at z
    have := tx0 (σ.2.1 14 r + 1 + m); omega
  have VI : ∀ m : Int, ¬ σ.2.1 8 (σ.2.1 16 (σ.2.1 14 r + 1 + m)) = 0 → y_f σ r (m + 1) < 0 := fun m z => by
    unfold y_f
    rw [show σ.2.1 14 r + (m + 1) = σ.2.1 14 r + 1 + m by omega, if_neg z]
    have : -1 ≤ σ.2.1 10 (σ.2.1 16 (σ.2.1 14 r + 1 + m)) := (hT.2 10 _).1
    omega
  have kd0 : ∀ k : Int, 0 ≤ k → k < σ.2.1 19 r → σ.2.1 13 (σ.2.1 20 (σ.2.1 18 r + k)) = 0 := fun k a b => (hh (σ.2.1 18 r + k) (by omega) (by omega)).1
  refine ⟨fun m m0 mn z => ?_, fun k k0 k1 => ?_, fun k o o0 ok k1 => ?_, fun m o o0 om mn z e => ?_⟩
  · have iv := IV m z
    obtain ⟨k, k0, k1, e⟩ := b2 (σ.2.1 14 r + 1 + m) (by omega) (by omega) iv
    rcases (a6 (σ.2.1 14 r + 1 + m) (by omega) (by omega)).2 with w | w
    · exact absurd w.1 iv
    · exact ⟨k, ⟨k0, k1⟩, by rw [e]; exact w.2.2.2.2⟩
  · rcases b3 with ⟨o, o0, o1, oe⟩ | w
    · have := kd0 o o0 o1; omega
    · obtain ⟨_, p, p0, p1, e⟩ := w k k0 k1
      have iv : ¬ σ.2.1 8 (σ.2.1 16 p) = 0 := by
        have hlt := b1 k k0 k1
        have h0 : 0 ≤ σ.2.1 20 (σ.2.1 18 r + k) := (hT.2 20 _).1
        obtain ⟨_, c2, _⟩ := (J _ h0 (by omega)).1
        rw [e]; exact (c2 (kd0 k k0 k1)).2.2.1
      have pne : p ≠ σ.2.1 14 r := fun q => iv (by rw [q]; exact iv0)
      refine ⟨p - σ.2.1 14 r - 1, by omega, VI _ ?_, ?_⟩
      · rw [show σ.2.1 14 r + 1 + (p - σ.2.1 14 r - 1) = p by omega]; exact iv
      · rw [show σ.2.1 14 r + 1 + (p - σ.2.1 14 r - 1) = p by omega]; exact e.symm
  · exact b4 k o o0 ok k1 (kd0 o o0 (by omega)) (kd0 k (by omega) k1)
  · exact h2 (σ.2.1 14 r + 1 + m) (by omega) (by omega) (σ.2.1 14 r + 1 + o) (by omega) (by omega) (IV m z) e
set_option maxHeartbeats 1000000 in
theorem K_X13_treeSort {n1 : Int} {σ : S0} (hT : m_T σ) (p1 : 0 ≤ n1) (p2 : n1 < 1001) : W_X13_treeSort n1 σ (fun (x : Int) => (-1 ≤ x ∧ x ≤ 99) ∧ (σ.2.1 8 n1 = 0 → ¬ n1 = (σ.1 11) → x = σ.2.1 71 n1) ∧ (n1 = (σ.1 11) → σ.2.1 8 n1 = 0 → 0 ≤ (σ.1 10) → σ.2.1 8 (σ.1 10) = 0 → x = σ.2.1 71 (σ.1 10)) ∧ (0 ≤ x → (¬ n1 = (σ.1 11) ∧ σ.2.1 8 n1 = 0 ∧ x = σ.2.1 71 n1) ∨ (n1 = (σ.1 11) ∧ σ.2.1 8 n1 = 0 ∧ 0 ≤ (σ.1 10) ∧ σ.2.1 8 (σ.1 10) = 0 ∧ x = σ.2.1 71 (σ.1 10)))) := by
  have A8 : ∀ j, 0 ≤ σ.2.1 8 j ∧ σ.2.1 8 j ≤ 1 := fun j => hT.2 8 j
  have A71 : ∀ j, (-1) ≤ σ.2.1 71 j ∧ σ.2.1 71 j ≤ 99 := fun j => hT.2 71 j
  have v10 : (-1) ≤ σ.1 10 ∧ σ.1 10 ≤ 999 := hT.1 10
  have v11 : (-1) ≤ σ.1 11 ∧ σ.1 11 ≤ 999 := hT.1 11
  have a8_10 : 0 ≤ σ.2.1 8 (σ.1 10) ∧ σ.2.1 8 (σ.1 10) ≤ 1 := hT.2 8 _
  have a71_10 : (-1) ≤ σ.2.1 71 (σ.1 10) ∧ σ.2.1 71 (σ.1 10) ≤ 99 := hT.2 71 _
  unfold W_X13_treeSort
  refine ⟨(show 0 ≤ n1 ∧ n1 < 1001 from by (first | omega | (simp only [st_s] <;> omega) | assumption | omega | fail)), ?_⟩
  intro x2 r_x2 e_x2
  have b_x2 : 0 ≤ x2 ∧ x2 ≤ 1 := by rw [e_x2]; exact hT.2 8 _
  refine ⟨fun c3 => ?_, fun c3 => ?_⟩
  ·
    refine ⟨fun c4 => ?_, fun c4 => ?_⟩
    ·
      refine ⟨fun c5 => ?_, fun c5 => ?_⟩
      ·
        exact ⟨(show -1 ≤ (-1) ∧ (-1) ≤ 99 from by (first | omega | (simp only [st_s] <;> omega) | assumption | omega | fail)), (show σ.2.1 8 n1 = 0 → ¬ n1 = (σ.1 11) → (-1) = σ.2.1 71 n1 from by (intros; first | omega | (exfalso; omega) | (exact Or.inl ⟨by omega, by omega, by omega⟩) | (exact Or.inr ⟨by omega, by omega, by omega, by omega, by omega⟩))), (show n1 = (σ.1 11) → σ.2.1 8 n1 = 0 → 0 ≤ (σ.1 10) → σ.2.1 8 (σ.1 10) = 0 → (-1) = σ.2.1 71 (σ.1 10) from by (intros; first | omega | (exfalso; omega) | (exact Or.inl ⟨by omega, by omega, by omega⟩) | (exact Or.inr ⟨by omega, by omega, by omega, by omega, by omega⟩))), (show 0 ≤ (-1) → (¬ n1 = (σ.1 11) ∧ σ.2.1 8 n1 = 0 ∧ (-1) = σ.2.1 71 n1) ∨ (n1 = (σ.1 11) ∧ σ.2.1 8 n1 = 0 ∧ 0 ≤ (σ.1 10) ∧ σ.2.1 8 (σ.1 10) = 0 ∧ (-1) = σ.2.1 71 (σ.1 10)) from by (intros; first | omega | (exfalso; omega) | (exact Or.inl ⟨by omega, by omega, by omega⟩) | (exact Or.inr ⟨by omega, by omega, by omega, by omega, by omega⟩)))⟩
      ·
        refine ⟨(show 0 ≤ σ.1 10 ∧ σ.1 10 < 1001 from by (first | omega | (simp only [st_s] <;> omega) | assumption | omega | fail)), ?_⟩
        intro x7 r_x7 e_x7
        have b_x7 : 0 ≤ x7 ∧ x7 ≤ 1 := by rw [e_x7]; exact hT.2 8 _
        refine ⟨fun c8 => ?_, fun c8 => ?_⟩
        ·
          intro x9 r_x9 e_x9
          have b_x9 : (-1) ≤ x9 ∧ x9 ≤ 99 := by rw [e_x9]; exact hT.2 71 _
          exact ⟨(show -1 ≤ x9 ∧ x9 ≤ 99 from by (first | omega | (simp only [st_s] <;> omega) | assumption | omega | fail)), (show σ.2.1 8 n1 = 0 → ¬ n1 = (σ.1 11) → x9 = σ.2.1 71 n1 from by (intros; first | omega | (exfalso; omega) | (exact Or.inl ⟨by omega, by omega, by omega⟩) | (exact Or.inr ⟨by omega, by omega, by omega, by omega, by omega⟩))), (show n1 = (σ.1 11) → σ.2.1 8 n1 = 0 → 0 ≤ (σ.1 10) → σ.2.1 8 (σ.1 10) = 0 → x9 = σ.2.1 71 (σ.1 10) from by (intros; first | omega | (exfalso; omega) | (exact Or.inl ⟨by omega, by omega, by omega⟩) | (exact Or.inr ⟨by omega, by omega, by omega, by omega, by omega⟩))), (show 0 ≤ x9 → (¬ n1 = (σ.1 11) ∧ σ.2.1 8 n1 = 0 ∧ x9 = σ.2.1 71 n1) ∨ (n1 = (σ.1 11) ∧ σ.2.1 8 n1 = 0 ∧ 0 ≤ (σ.1 10) ∧ σ.2.1 8 (σ.1 10) = 0 ∧ x9 = σ.2.1 71 (σ.1 10)) from by (intros; first | omega | (exfalso; omega) | (exact Or.inl ⟨by omega, by omega, by omega⟩) | (exact Or.inr ⟨by omega, by omega, by omega, by omega, by omega⟩)))⟩
        ·
          exact ⟨(show -1 ≤ (-1) ∧ (-1) ≤ 99 from by (first | omega | (simp only [st_s] <;> omega) | assumption | omega | fail)), (show σ.2.1 8 n1 = 0 → ¬ n1 = (σ.1 11) → (-1) = σ.2.1 71 n1 from by (intros; first | omega | (exfalso; omega) | (exact Or.inl ⟨by omega, by omega, by omega⟩) | (exact Or.inr ⟨by omega, by omega, by omega, by omega, by omega⟩))), (show n1 = (σ.1 11) → σ.2.1 8 n1 = 0 → 0 ≤ (σ.1 10) → σ.2.1 8 (σ.1 10) = 0 → (-1) = σ.2.1 71 (σ.1 10) from by (intros; first | omega | (exfalso; omega) | (exact Or.inl ⟨by omega, by omega, by omega⟩) | (exact Or.inr ⟨by omega, by omega, by omega, by omega, by omega⟩))), (show 0 ≤ (-1) → (¬ n1 = (σ.1 11) ∧ σ.2.1 8 n1 = 0 ∧ (-1) = σ.2.1 71 n1) ∨ (n1 = (σ.1 11) ∧ σ.2.1 8 n1 = 0 ∧ 0 ≤ (σ.1 10) ∧ σ.2.1 8 (σ.1 10) = 0 ∧ (-1) = σ.2.1 71 (σ.1 10)) from by (intros; first | omega | (exfalso; omega) | (exact Or.inl ⟨by omega, by omega, by omega⟩) | (exact Or.inr ⟨by omega, by omega, by omega, by omega, by omega⟩)))⟩
    ·
      intro x10 r_x10 e_x10
      have b_x10 : (-1) ≤ x10 ∧ x10 ≤ 99 := by rw [e_x10]; exact hT.2 71 _
      exact ⟨(show -1 ≤ x10 ∧ x10 ≤ 99 from by (first | omega | (simp only [st_s] <;> omega) | assumption | omega | fail)), (show σ.2.1 8 n1 = 0 → ¬ n1 = (σ.1 11) → x10 = σ.2.1 71 n1 from by (intros; first | omega | (exfalso; omega) | (exact Or.inl ⟨by omega, by omega, by omega⟩) | (exact Or.inr ⟨by omega, by omega, by omega, by omega, by omega⟩))), (show n1 = (σ.1 11) → σ.2.1 8 n1 = 0 → 0 ≤ (σ.1 10) → σ.2.1 8 (σ.1 10) = 0 → x10 = σ.2.1 71 (σ.1 10) from by (intros; first | omega | (exfalso; omega) | (exact Or.inl ⟨by omega, by omega, by omega⟩) | (exact Or.inr ⟨by omega, by omega, by omega, by omega, by omega⟩))), (show 0 ≤ x10 → (¬ n1 = (σ.1 11) ∧ σ.2.1 8 n1 = 0 ∧ x10 = σ.2.1 71 n1) ∨ (n1 = (σ.1 11) ∧ σ.2.1 8 n1 = 0 ∧ 0 ≤ (σ.1 10) ∧ σ.2.1 8 (σ.1 10) = 0 ∧ x10 = σ.2.1 71 (σ.1 10)) from by (intros; first | omega | (exfalso; omega) | (exact Or.inl ⟨by omega, by omega, by omega⟩) | (exact Or.inr ⟨by omega, by omega, by omega, by omega, by omega⟩)))⟩
  ·
    exact ⟨(show -1 ≤ (-1) ∧ (-1) ≤ 99 from by (first | omega | (simp only [st_s] <;> omega) | assumption | omega | fail)), (show σ.2.1 8 n1 = 0 → ¬ n1 = (σ.1 11) → (-1) = σ.2.1 71 n1 from by (intros; first | omega | (exfalso; omega) | (exact Or.inl ⟨by omega, by omega, by omega⟩) | (exact Or.inr ⟨by omega, by omega, by omega, by omega, by omega⟩))), (show n1 = (σ.1 11) → σ.2.1 8 n1 = 0 → 0 ≤ (σ.1 10) → σ.2.1 8 (σ.1 10) = 0 → (-1) = σ.2.1 71 (σ.1 10) from by (intros; first | omega | (exfalso; omega) | (exact Or.inl ⟨by omega, by omega, by omega⟩) | (exact Or.inr ⟨by omega, by omega, by omega, by omega, by omega⟩))), (show 0 ≤ (-1) → (¬ n1 = (σ.1 11) ∧ σ.2.1 8 n1 = 0 ∧ (-1) = σ.2.1 71 n1) ∨ (n1 = (σ.1 11) ∧ σ.2.1 8 n1 = 0 ∧ 0 ≤ (σ.1 10) ∧ σ.2.1 8 (σ.1 10) = 0 ∧ (-1) = σ.2.1 71 (σ.1 10)) from by (intros; first | omega | (exfalso; omega) | (exact Or.inl ⟨by omega, by omega, by omega⟩) | (exact Or.inr ⟨by omega, by omega, by omega, by omega, by omega⟩)))⟩
set_option maxHeartbeats 4000000 in
theorem K_X13_takeStatement {n1 : Int} {σ : S0} (hT : m_T σ) (p1 : 0 ≤ n1) (p2 : n1 < (σ.1 5)) (p3 : σ.2.1 15 n1 ≤ 60) (p4 : 1 ≤ σ.2.1 15 n1) (p5 : ca (σ.2.1 12) ((σ.1 3)) ≤ (σ.1 4)) : W_X13_takeStatement n1 σ (fun (τ : S0) => (m_T τ) ∧ (y_so (σ.1 3) (σ.1 11) (τ.1 46) (σ.2.1 12) (σ.2.1 8) (τ.2.1 71)) ∧ ((τ.1 45) = σ.2.1 15 n1 - 1) ∧ (∀ k : Int, 0 ≤ k → k < (σ.2.1 15 n1 - 1) → τ.2.1 72 k = σ.2.1 16 (σ.2.1 14 n1 + 1 + k) ∧ τ.2.1 74 k = σ.2.1 17 (σ.2.1 14 n1 + 1 + k) ∧ ((σ.2.1 17 (σ.2.1 14 n1 + 1 + k) = -1 ∧ τ.2.1 73 k = -1) ∨ (¬ σ.2.1 17 (σ.2.1 14 n1 + 1 + k) = -1 ∧ τ.2.1 73 k = τ.2.1 71 (σ.2.1 16 (σ.2.1 14 (σ.2.1 17 (σ.2.1 14 n1 + 1 + k)))))))) := by
  have A8 : ∀ j, 0 ≤ σ.2.1 8 j ∧ σ.2.1 8 j ≤ 1 := fun j => hT.2 8 j
  have A12 : ∀ j, 0 ≤ σ.2.1 12 j ∧ σ.2.1 12 j ≤ 1 := fun j => hT.2 12 j
  have A14 : ∀ j, 0 ≤ σ.2.1 14 j ∧ σ.2.1 14 j ≤ 30000 := fun j => hT.2 14 j
  have A15 : ∀ j, 0 ≤ σ.2.1 15 j ∧ σ.2.1 15 j ≤ 300 := fun j => hT.2 15 j
  have A16 : ∀ j, 0 ≤ σ.2.1 16 j ∧ σ.2.1 16 j ≤ 999 := fun j => hT.2 16 j
  have A17 : ∀ j, (-1) ≤ σ.2.1 17 j ∧ σ.2.1 17 j ≤ 1499 := fun j => hT.2 17 j
  have A71 : ∀ j, (-1) ≤ σ.2.1 71 j ∧ σ.2.1 71 j ≤ 99 := fun j => hT.2 71 j
  have A72 : ∀ j, 0 ≤ σ.2.1 72 j ∧ σ.2.1 72 j ≤ 999 := fun j => hT.2 72 j
  have A73 : ∀ j, (-1) ≤ σ.2.1 73 j ∧ σ.2.1 73 j ≤ 99 := fun j => hT.2 73 j
  have A74 : ∀ j, (-1) ≤ σ.2.1 74 j ∧ σ.2.1 74 j ≤ 1499 := fun j => hT.2 74 j
  have v3 : 0 ≤ σ.1 3 ∧ σ.1 3 ≤ 1000 := hT.1 3
  have v4 : 0 ≤ σ.1 4 ∧ σ.1 4 ≤ 100 := hT.1 4
  have v5 : 0 ≤ σ.1 5 ∧ σ.1 5 ≤ 1500 := hT.1 5
  have v11 : (-1) ≤ σ.1 11 ∧ σ.1 11 ≤ 999 := hT.1 11
  have v45 : 0 ≤ σ.1 45 ∧ σ.1 45 ≤ 59 := hT.1 45
  have v46 : 0 ≤ σ.1 46 ∧ σ.1 46 ≤ 100 := hT.1 46
  have W3 : σ.1 3 = σ.1 3 := rfl
  have W4 : σ.1 4 = σ.1 4 := rfl
  have W5 : σ.1 5 = σ.1 5 := rfl
  have W11 : σ.1 11 = σ.1 11 := rfl
  have G8 : σ.2.1 8 = σ.2.1 8 := rfl
  have G12 : σ.2.1 12 = σ.2.1 12 := rfl
  have G14 : σ.2.1 14 = σ.2.1 14 := rfl
  have G15 : σ.2.1 15 = σ.2.1 15 := rfl
  have G16 : σ.2.1 16 = σ.2.1 16 := rfl
  have G17 : σ.2.1 17 = σ.2.1 17 := rfl
  intro P18 P93 h18 h93
  have a14 := A14 n1
  have Y20 : ca (σ.2.1 12) ((σ.1 3)) ≤ (σ.1 4) := p5
  have Y20_0 := Y20
  have l_18 : ∀ (m_18 : Nat) (u2_18 : Int) (τ_18 : S0), 60 - u2_18 < (m_18 : Int) → (m_T τ_18) → (τ_18.1 3 = σ.1 3) → (τ_18.1 4 = σ.1 4) → (τ_18.1 5 = σ.1 5) → (τ_18.1 11 = σ.1 11) → (τ_18.2.1 8 = σ.2.1 8) → (τ_18.2.1 12 = σ.2.1 12) → (τ_18.2.1 14 = σ.2.1 14) → (τ_18.2.1 15 = σ.2.1 15) → (τ_18.2.1 16 = σ.2.1 16) → (τ_18.2.1 17 = σ.2.1 17) → (0 ≤ u2_18) → (u2_18 ≤ σ.2.1 15 n1 - 1) → ((τ_18.1 45) = σ.2.1 15 n1 - 1) → (y_so (σ.1 3) (σ.1 11) (τ_18.1 46) (σ.2.1 12) (σ.2.1 8) (τ_18.2.1 71)) → (∀ k : Int, 0 ≤ k → k < u2_18 → τ_18.2.1 72 k = σ.2.1 16 (σ.2.1 14 n1 + 1 + k) ∧ τ_18.2.1 74 k = σ.2.1 17 (σ.2.1 14 n1 + 1 + k) ∧ ((σ.2.1 17 (σ.2.1 14 n1 + 1 + k) = -1 ∧ τ_18.2.1 73 k = -1) ∨ (¬ σ.2.1 17 (σ.2.1 14 n1 + 1 + k) = -1 ∧ τ_18.2.1 73 k = τ_18.2.1 71 (σ.2.1 16 (σ.2.1 14 (σ.2.1 17 (σ.2.1 14 n1 + 1 + k))))))) → P18 n1 u2_18 τ_18 := by
    intro m_18
    induction m_18 with
    | zero =>
      intro u2_18 τ_18 hm hT W3 W4 W5 W11 G8 G12 G14 G15 G16 G17 i18_1 i18_2 i18_3 i18_4 i18_5
      have A8 : ∀ j, 0 ≤ τ_18.2.1 8 j ∧ τ_18.2.1 8 j ≤ 1 := fun j => hT.2 8 j
      have A12 : ∀ j, 0 ≤ τ_18.2.1 12 j ∧ τ_18.2.1 12 j ≤ 1 := fun j => hT.2 12 j
      have A14 : ∀ j, 0 ≤ τ_18.2.1 14 j ∧ τ_18.2.1 14 j ≤ 30000 := fun j => hT.2 14 j
      have A15 : ∀ j, 0 ≤ τ_18.2.1 15 j ∧ τ_18.2.1 15 j ≤ 300 := fun j => hT.2 15 j
      have A16 : ∀ j, 0 ≤ τ_18.2.1 16 j ∧ τ_18.2.1 16 j ≤ 999 := fun j => hT.2 16 j
      have A17 : ∀ j, (-1) ≤ τ_18.2.1 17 j ∧ τ_18.2.1 17 j ≤ 1499 := fun j => hT.2 17 j
      have A71 : ∀ j, (-1) ≤ τ_18.2.1 71 j ∧ τ_18.2.1 71 j ≤ 99 := fun j => hT.2 71 j
      have A72 : ∀ j, 0 ≤ τ_18.2.1 72 j ∧ τ_18.2.1 72 j ≤ 999 := fun j => hT.2 72 j
      have A73 : ∀ j, (-1) ≤ τ_18.2.1 73 j ∧ τ_18.2.1 73 j ≤ 99 := fun j => hT.2 73 j
      have A74 : ∀ j, (-1) ≤ τ_18.2.1 74 j ∧ τ_18.2.1 74 j ≤ 1499 := fun j => hT.2 74 j
      have v3 : 0 ≤ τ_18.1 3 ∧ τ_18.1 3 ≤ 1000 := hT.1 3
      have v4 : 0 ≤ τ_18.1 4 ∧ τ_18.1 4 ≤ 100 := hT.1 4
      have v5 : 0 ≤ τ_18.1 5 ∧ τ_18.1 5 ≤ 1500 := hT.1 5
      have v11 : (-1) ≤ τ_18.1 11 ∧ τ_18.1 11 ≤ 999 := hT.1 11
      have v45 : 0 ≤ τ_18.1 45 ∧ τ_18.1 45 ≤ 59 := hT.1 45
      have v46 : 0 ≤ τ_18.1 46 ∧ τ_18.1 46 ≤ 100 := hT.1 46
      exfalso; (first | omega | (simp only [st_s] <;> omega) | assumption | omega | fail)
    | succ m_18 ih_18 =>
      intro u2_18 τ_18 hm_18 hT W3 W4 W5 W11 G8 G12 G14 G15 G16 G17 i18_1 i18_2 i18_3 i18_4 i18_5
      have A8 : ∀ j, 0 ≤ τ_18.2.1 8 j ∧ τ_18.2.1 8 j ≤ 1 := fun j => hT.2 8 j
      have A12 : ∀ j, 0 ≤ τ_18.2.1 12 j ∧ τ_18.2.1 12 j ≤ 1 := fun j => hT.2 12 j
      have A14 : ∀ j, 0 ≤ τ_18.2.1 14 j ∧ τ_18.2.1 14 j ≤ 30000 := fun j => hT.2 14 j
      have A15 : ∀ j, 0 ≤ τ_18.2.1 15 j ∧ τ_18.2.1 15 j ≤ 300 := fun j => hT.2 15 j
      have A16 : ∀ j, 0 ≤ τ_18.2.1 16 j ∧ τ_18.2.1 16 j ≤ 999 := fun j => hT.2 16 j
      have A17 : ∀ j, (-1) ≤ τ_18.2.1 17 j ∧ τ_18.2.1 17 j ≤ 1499 := fun j => hT.2 17 j
      have A71 : ∀ j, (-1) ≤ τ_18.2.1 71 j ∧ τ_18.2.1 71 j ≤ 99 := fun j => hT.2 71 j
      have A72 : ∀ j, 0 ≤ τ_18.2.1 72 j ∧ τ_18.2.1 72 j ≤ 999 := fun j => hT.2 72 j
      have A73 : ∀ j, (-1) ≤ τ_18.2.1 73 j ∧ τ_18.2.1 73 j ≤ 99 := fun j => hT.2 73 j
      have A74 : ∀ j, (-1) ≤ τ_18.2.1 74 j ∧ τ_18.2.1 74 j ≤ 1499 := fun j => hT.2 74 j
      have v3 : 0 ≤ τ_18.1 3 ∧ τ_18.1 3 ≤ 1000 := hT.1 3
      have v4 : 0 ≤ τ_18.1 4 ∧ τ_18.1 4 ≤ 100 := hT.1 4
      have v5 : 0 ≤ τ_18.1 5 ∧ τ_18.1 5 ≤ 1500 := hT.1 5
      have v11 : (-1) ≤ τ_18.1 11 ∧ τ_18.1 11 ≤ 999 := hT.1 11
      have v45 : 0 ≤ τ_18.1 45 ∧ τ_18.1 45 ≤ 59 := hT.1 45
      have v46 : 0 ≤ τ_18.1 46 ∧ τ_18.1 46 ≤ 100 := hT.1 46
      have Y20 : ca (τ_18.2.1 12) ((τ_18.1 3)) ≤ (τ_18.1 4) := by rw [show (ca (τ_18.2.1 12) ((τ_18.1 3)) ≤ (τ_18.1 4)) = (ca (σ.2.1 12) ((σ.1 3)) ≤ (σ.1 4)) from by rw [W3, W4, G12]]; exact Y20_0
      refine h18 n1 u2_18 τ_18 ?_
      refine ⟨fun c7 => ?_, fun c7 => ?_⟩
      ·
        exact ⟨hT, (show y_so (σ.1 3) (σ.1 11) (τ_18.1 46) (σ.2.1 12) (σ.2.1 8) (τ_18.2.1 71) from by exact i18_4), (show (τ_18.1 45) = σ.2.1 15 n1 - 1 from by (first | omega | (simp only [st_s] <;> omega) | assumption | omega | fail)), (show ∀ k : Int, 0 ≤ k → k < (σ.2.1 15 n1 - 1) → τ_18.2.1 72 k = σ.2.1 16 (σ.2.1 14 n1 + 1 + k) ∧ τ_18.2.1 74 k = σ.2.1 17 (σ.2.1 14 n1 + 1 + k) ∧ ((σ.2.1 17 (σ.2.1 14 n1 + 1 + k) = -1 ∧ τ_18.2.1 73 k = -1) ∨ (¬ σ.2.1 17 (σ.2.1 14 n1 + 1 + k) = -1 ∧ τ_18.2.1 73 k = τ_18.2.1 71 (σ.2.1 16 (σ.2.1 14 (σ.2.1 17 (σ.2.1 14 n1 + 1 + k)))))) from by (rw [show σ.2.1 15 n1 - 1 = u2_18 from by omega]; exact i18_5))⟩
      ·
        refine ⟨(show 0 ≤ n1 ∧ n1 < 1501 from by (first | omega | (simp only [st_s] <;> omega) | assumption | omega | fail)), ?_⟩
        intro x9 r_x9 e_x9
        have b_x9 : 0 ≤ x9 ∧ x9 ≤ 30000 := by rw [e_x9]; exact hT.2 14 _
        rw [G14] at e_x9
        refine ⟨(show 0 ≤ ((x9 + 1) + u2_18) ∧ ((x9 + 1) + u2_18) < 30400 from by (first | omega | (simp only [st_s] <;> omega) | assumption | omega | fail)), ?_⟩
        intro x11 r_x11 e_x11
        have b_x11 : (-1) ≤ x11 ∧ x11 ≤ 1499 := by rw [e_x11]; exact hT.2 17 _
        rw [G17] at e_x11
        have f11 : x11 = σ.2.1 17 (σ.2.1 14 n1 + 1 + u2_18) := by rw [e_x11, e_x9]
        intro x12 r_x12 e_x12
        have b_x12 : 0 ≤ x12 ∧ x12 ≤ 30000 := by rw [e_x12]; exact hT.2 14 _
        rw [G14] at e_x12
        refine ⟨(show 0 ≤ ((x12 + 1) + u2_18) ∧ ((x12 + 1) + u2_18) < 30400 from by (first | omega | (simp only [st_s] <;> omega) | assumption | omega | fail)), ?_⟩
        intro x14 r_x14 e_x14
        have b_x14 : 0 ≤ x14 ∧ x14 ≤ 999 := by rw [e_x14]; exact hT.2 16 _
        rw [G16] at e_x14
        have f14 : x14 = σ.2.1 16 (σ.2.1 14 n1 + 1 + u2_18) := by rw [e_x14, e_x12]
        refine ⟨(show 0 ≤ u2_18 ∧ u2_18 < 64 from by (first | omega | (simp only [st_s] <;> omega) | assumption | omega | fail)), ?_⟩
        replace hT := mT_a (k := 72) (j := u2_18) hT (show (0 : Int) ≤ x14 ∧ x14 ≤ 999 from by (first | omega | (simp only [st_s] <;> omega) | assumption | omega | fail))
        refine ⟨fun c16 => ?_, fun c16 => ?_⟩
        ·
          refine ⟨(show 0 ≤ x11 ∧ x11 < 1501 from by (first | omega | (simp only [st_s] <;> omega) | assumption | omega | fail)), ?_⟩
          intro x18 r_x18 e_x18
          have b_x18 : 0 ≤ x18 ∧ x18 ≤ 30000 := by rw [e_x18]; exact hT.2 14 _
          rw [G14] at e_x18
          refine ⟨(show 0 ≤ x18 ∧ x18 < 30400 from by (first | omega | (simp only [st_s] <;> omega) | assumption | omega | fail)), ?_⟩
          intro x20 r_x20 e_x20
          have b_x20 : 0 ≤ x20 ∧ x20 ≤ 999 := by rw [e_x20]; exact hT.2 16 _
          rw [G16] at e_x20
          refine ⟨(show 0 ≤ x20 ∧ x20 < 1001 from by (first | omega | (simp only [st_s] <;> omega) | assumption | omega | fail)), ?_⟩
          intro x22 r_x22 e_x22
          have b_x22 : (-1) ≤ x22 ∧ x22 ≤ 99 := by rw [e_x22]; exact hT.2 71 _
          have f22 : x22 = τ_18.2.1 71 (σ.2.1 16 (σ.2.1 14 x11)) := by rw [e_x22, e_x20, e_x18]
          obtain ⟨τ_93, e_τ_93⟩ : ∃ z : S0, z = s_a τ_18 72 u2_18 x14 := ⟨_, rfl⟩
          rw [← e_τ_93]
          replace hT : m_T τ_93 := by rw [e_τ_93]; exact hT
          have w3_τ_93 : τ_93.1 3 = τ_18.1 3 := by rw [e_τ_93]; rfl
          have w4_τ_93 : τ_93.1 4 = τ_18.1 4 := by rw [e_τ_93]; rfl
          have w5_τ_93 : τ_93.1 5 = τ_18.1 5 := by rw [e_τ_93]; rfl
          have w11_τ_93 : τ_93.1 11 = τ_18.1 11 := by rw [e_τ_93]; rfl
          have w45_τ_93 : τ_93.1 45 = τ_18.1 45 := by rw [e_τ_93]; rfl
          have w46_τ_93 : τ_93.1 46 = τ_18.1 46 := by rw [e_τ_93]; rfl
          have g8_τ_93 : τ_93.2.1 8 = τ_18.2.1 8 := by rw [e_τ_93]; rfl
          have g12_τ_93 : τ_93.2.1 12 = τ_18.2.1 12 := by rw [e_τ_93]; rfl
          have g14_τ_93 : τ_93.2.1 14 = τ_18.2.1 14 := by rw [e_τ_93]; rfl
          have g15_τ_93 : τ_93.2.1 15 = τ_18.2.1 15 := by rw [e_τ_93]; rfl
          have g16_τ_93 : τ_93.2.1 16 = τ_18.2.1 16 := by rw [e_τ_93]; rfl
          have g17_τ_93 : τ_93.2.1 17 = τ_18.2.1 17 := by rw [e_τ_93]; rfl
          have g71_τ_93 : τ_93.2.1 71 = τ_18.2.1 71 := by rw [e_τ_93]; rfl
          have g72_τ_93 : τ_93.2.1 72 = (st (τ_18.2.1 72) u2_18 x14) := by rw [e_τ_93]; rfl
          have g73_τ_93 : τ_93.2.1 73 = τ_18.2.1 73 := by rw [e_τ_93]; rfl
          have g74_τ_93 : τ_93.2.1 74 = τ_18.2.1 74 := by rw [e_τ_93]; rfl
          have W3 : τ_93.1 3 = σ.1 3 := by first | exact w3_τ_93.trans W3 | omega
          have W4 : τ_93.1 4 = σ.1 4 := by first | exact w4_τ_93.trans W4 | omega
          have W5 : τ_93.1 5 = σ.1 5 := by first | exact w5_τ_93.trans W5 | omega
          have W11 : τ_93.1 11 = σ.1 11 := by first | exact w11_τ_93.trans W11 | omega
          have G8 : τ_93.2.1 8 = σ.2.1 8 := (g8_τ_93).trans G8
          have G12 : τ_93.2.1 12 = σ.2.1 12 := (g12_τ_93).trans G12
          have G14 : τ_93.2.1 14 = σ.2.1 14 := (g14_τ_93).trans G14
          have G15 : τ_93.2.1 15 = σ.2.1 15 := (g15_τ_93).trans G15
          have G16 : τ_93.2.1 16 = σ.2.1 16 := (g16_τ_93).trans G16
          have G17 : τ_93.2.1 17 = σ.2.1 17 := (g17_τ_93).trans G17
          have Y20 : ca (τ_93.2.1 12) ((τ_93.1 3)) ≤ (τ_93.1 4) := by rw [show (ca (τ_93.2.1 12) ((τ_93.1 3)) ≤ (τ_93.1 4)) = (ca (τ_18.2.1 12) ((τ_18.1 3)) ≤ (τ_18.1 4)) from by rw [w3_τ_93, w4_τ_93, g12_τ_93]]; exact Y20
          have A8 : ∀ j, 0 ≤ τ_93.2.1 8 j ∧ τ_93.2.1 8 j ≤ 1 := fun j => hT.2 8 j
          have A12 : ∀ j, 0 ≤ τ_93.2.1 12 j ∧ τ_93.2.1 12 j ≤ 1 := fun j => hT.2 12 j
          have A14 : ∀ j, 0 ≤ τ_93.2.1 14 j ∧ τ_93.2.1 14 j ≤ 30000 := fun j => hT.2 14 j
          have A15 : ∀ j, 0 ≤ τ_93.2.1 15 j ∧ τ_93.2.1 15 j ≤ 300 := fun j => hT.2 15 j
          have A16 : ∀ j, 0 ≤ τ_93.2.1 16 j ∧ τ_93.2.1 16 j ≤ 999 := fun j => hT.2 16 j
          have A17 : ∀ j, (-1) ≤ τ_93.2.1 17 j ∧ τ_93.2.1 17 j ≤ 1499 := fun j => hT.2 17 j
          have A71 : ∀ j, (-1) ≤ τ_93.2.1 71 j ∧ τ_93.2.1 71 j ≤ 99 := fun j => hT.2 71 j
          have A72 : ∀ j, 0 ≤ τ_93.2.1 72 j ∧ τ_93.2.1 72 j ≤ 999 := fun j => hT.2 72 j
          have A73 : ∀ j, (-1) ≤ τ_93.2.1 73 j ∧ τ_93.2.1 73 j ≤ 99 := fun j => hT.2 73 j
          have A74 : ∀ j, (-1) ≤ τ_93.2.1 74 j ∧ τ_93.2.1 74 j ≤ 1499 := fun j => hT.2 74 j
          have v3 : 0 ≤ τ_93.1 3 ∧ τ_93.1 3 ≤ 1000 := hT.1 3
          have v4 : 0 ≤ τ_93.1 4 ∧ τ_93.1 4 ≤ 100 := hT.1 4
          have v5 : 0 ≤ τ_93.1 5 ∧ τ_93.1 5 ≤ 1500 := hT.1 5
          have v11 : (-1) ≤ τ_93.1 11 ∧ τ_93.1 11 ≤ 999 := hT.1 11
          have v45 : 0 ≤ τ_93.1 45 ∧ τ_93.1 45 ≤ 59 := hT.1 45
          have v46 : 0 ≤ τ_93.1 46 ∧ τ_93.1 46 ≤ 100 := hT.1 46
          refine h93 _ _ _ _ _ _ ?_
          refine ⟨(show 0 ≤ u2_18 ∧ u2_18 < 64 from by (first | omega | (simp only [st_s] <;> omega) | assumption | omega | fail)), ?_⟩
          replace hT := mT_a (k := 73) (j := u2_18) hT (show (-1 : Int) ≤ x22 ∧ x22 ≤ 99 from by (first | omega | (simp only [st_s] <;> omega) | assumption | omega | fail))
          refine ⟨(show 0 ≤ u2_18 ∧ u2_18 < 64 from by (first | omega | (simp only [st_s] <;> omega) | assumption | omega | fail)), ?_⟩
          replace hT := mT_a (k := 74) (j := u2_18) hT (show (-1 : Int) ≤ x11 ∧ x11 ≤ 1499 from by (first | omega | (simp only [st_s] <;> omega) | assumption | omega | fail))
          refine ⟨(⟨by (first | omega | (simp only [st_s] <;> omega) | assumption | omega | fail), by (first | omega | (simp only [st_s] <;> omega) | assumption | omega | fail)⟩ : rg (u2_18 + 1)), ?_⟩
          exact ih_18 _ _ (show (60 - (u2_18 + 1) : Int) < ((m_18 : Nat) : Int) from by ((first | omega | (simp only [st_s] <;> omega) | assumption | omega | fail))) hT (show τ_93.1 3 = σ.1 3 from by first | exact W3 | omega) (show τ_93.1 4 = σ.1 4 from by first | exact W4 | omega) (show τ_93.1 5 = σ.1 5 from by first | exact W5 | omega) (show τ_93.1 11 = σ.1 11 from by first | exact W11 | omega) G8 G12 G14 G15 G16 G17 (show 0 ≤ (u2_18 + 1) from by (first | omega | (simp only [st_s] <;> omega) | assumption | omega | fail)) (show (u2_18 + 1) ≤ σ.2.1 15 n1 - 1 from by (first | omega | (simp only [st_s] <;> omega) | assumption | omega | fail)) (show (τ_93.1 45) = σ.2.1 15 n1 - 1 from by (first | omega | (simp only [st_s] <;> omega) | assumption | omega | fail)) (show y_so (σ.1 3) (σ.1 11) (τ_93.1 46) (σ.2.1 12) (σ.2.1 8) (τ_93.2.1 71) from by (first | exact q1_1 | exact i18_4 | (rw [e_τ_93]; exact i18_4) | fail)) (show ∀ k : Int, 0 ≤ k → k < (u2_18 + 1) → τ_93.2.1 72 k = σ.2.1 16 (σ.2.1 14 n1 + 1 + k) ∧ (st (τ_93.2.1 74) u2_18 x11) k = σ.2.1 17 (σ.2.1 14 n1 + 1 + k) ∧ ((σ.2.1 17 (σ.2.1 14 n1 + 1 + k) = -1 ∧ (st (τ_93.2.1 73) u2_18 x22) k = -1) ∨ (¬ σ.2.1 17 (σ.2.1 14 n1 + 1 + k) = -1 ∧ (st (τ_93.2.1 73) u2_18 x22) k = τ_93.2.1 71 (σ.2.1 16 (σ.2.1 14 (σ.2.1 17 (σ.2.1 14 n1 + 1 + k)))))) from by (first | (intro k a b; exfalso; omega) | (rw [e_τ_93, show (s_a τ_18 72 u2_18 x14).2.1 72 = st (τ_18.2.1 72) u2_18 x14 from rfl, show (s_a τ_18 72 u2_18 x14).2.1 71 = τ_18.2.1 71 from rfl, show (s_a τ_18 72 u2_18 x14).2.1 73 = τ_18.2.1 73 from rfl, show (s_a τ_18 72 u2_18 x14).2.1 74 = τ_18.2.1 74 from rfl]; intro k a b; rcases (by omega : k < u2_18 ∨ k = u2_18) with q | q; (rw [st_n _ _ (by omega), st_n _ _ (by omega), st_n _ _ (by omega)]; exact i18_5 k a q); (rw [q, st_s, st_s, st_s]; refine ⟨f14, f11, ?_⟩; rw [← f11]; first | exact Or.inl ⟨by omega, rfl⟩ | exact Or.inr ⟨by omega, f22⟩)) | fail))
        ·
          obtain ⟨τ_93, e_τ_93⟩ : ∃ z : S0, z = s_a τ_18 72 u2_18 x14 := ⟨_, rfl⟩
          rw [← e_τ_93]
          replace hT : m_T τ_93 := by rw [e_τ_93]; exact hT
          have w3_τ_93 : τ_93.1 3 = τ_18.1 3 := by rw [e_τ_93]; rfl
          have w4_τ_93 : τ_93.1 4 = τ_18.1 4 := by rw [e_τ_93]; rfl
          have w5_τ_93 : τ_93.1 5 = τ_18.1 5 := by rw [e_τ_93]; rfl
          have w11_τ_93 : τ_93.1 11 = τ_18.1 11 := by rw [e_τ_93]; rfl
          have w45_τ_93 : τ_93.1 45 = τ_18.1 45 := by rw [e_τ_93]; rfl
          have w46_τ_93 : τ_93.1 46 = τ_18.1 46 := by rw [e_τ_93]; rfl
          have g8_τ_93 : τ_93.2.1 8 = τ_18.2.1 8 := by rw [e_τ_93]; rfl
          have g12_τ_93 : τ_93.2.1 12 = τ_18.2.1 12 := by rw [e_τ_93]; rfl
          have g14_τ_93 : τ_93.2.1 14 = τ_18.2.1 14 := by rw [e_τ_93]; rfl
          have g15_τ_93 : τ_93.2.1 15 = τ_18.2.1 15 := by rw [e_τ_93]; rfl
          have g16_τ_93 : τ_93.2.1 16 = τ_18.2.1 16 := by rw [e_τ_93]; rfl
          have g17_τ_93 : τ_93.2.1 17 = τ_18.2.1 17 := by rw [e_τ_93]; rfl
          have g71_τ_93 : τ_93.2.1 71 = τ_18.2.1 71 := by rw [e_τ_93]; rfl
          have g72_τ_93 : τ_93.2.1 72 = (st (τ_18.2.1 72) u2_18 x14) := by rw [e_τ_93]; rfl
          have g73_τ_93 : τ_93.2.1 73 = τ_18.2.1 73 := by rw [e_τ_93]; rfl
          have g74_τ_93 : τ_93.2.1 74 = τ_18.2.1 74 := by rw [e_τ_93]; rfl
          have W3 : τ_93.1 3 = σ.1 3 := by first | exact w3_τ_93.trans W3 | omega
          have W4 : τ_93.1 4 = σ.1 4 := by first | exact w4_τ_93.trans W4 | omega
          have W5 : τ_93.1 5 = σ.1 5 := by first | exact w5_τ_93.trans W5 | omega
          have W11 : τ_93.1 11 = σ.1 11 := by first | exact w11_τ_93.trans W11 | omega
          have G8 : τ_93.2.1 8 = σ.2.1 8 := (g8_τ_93).trans G8
          have G12 : τ_93.2.1 12 = σ.2.1 12 := (g12_τ_93).trans G12
          have G14 : τ_93.2.1 14 = σ.2.1 14 := (g14_τ_93).trans G14
          have G15 : τ_93.2.1 15 = σ.2.1 15 := (g15_τ_93).trans G15
          have G16 : τ_93.2.1 16 = σ.2.1 16 := (g16_τ_93).trans G16
          have G17 : τ_93.2.1 17 = σ.2.1 17 := (g17_τ_93).trans G17
          have Y20 : ca (τ_93.2.1 12) ((τ_93.1 3)) ≤ (τ_93.1 4) := by rw [show (ca (τ_93.2.1 12) ((τ_93.1 3)) ≤ (τ_93.1 4)) = (ca (τ_18.2.1 12) ((τ_18.1 3)) ≤ (τ_18.1 4)) from by rw [w3_τ_93, w4_τ_93, g12_τ_93]]; exact Y20
          have A8 : ∀ j, 0 ≤ τ_93.2.1 8 j ∧ τ_93.2.1 8 j ≤ 1 := fun j => hT.2 8 j
          have A12 : ∀ j, 0 ≤ τ_93.2.1 12 j ∧ τ_93.2.1 12 j ≤ 1 := fun j => hT.2 12 j
          have A14 : ∀ j, 0 ≤ τ_93.2.1 14 j ∧ τ_93.2.1 14 j ≤ 30000 := fun j => hT.2 14 j
          have A15 : ∀ j, 0 ≤ τ_93.2.1 15 j ∧ τ_93.2.1 15 j ≤ 300 := fun j => hT.2 15 j
          have A16 : ∀ j, 0 ≤ τ_93.2.1 16 j ∧ τ_93.2.1 16 j ≤ 999 := fun j => hT.2 16 j
          have A17 : ∀ j, (-1) ≤ τ_93.2.1 17 j ∧ τ_93.2.1 17 j ≤ 1499 := fun j => hT.2 17 j
          have A71 : ∀ j, (-1) ≤ τ_93.2.1 71 j ∧ τ_93.2.1 71 j ≤ 99 := fun j => hT.2 71 j
          have A72 : ∀ j, 0 ≤ τ_93.2.1 72 j ∧ τ_93.2.1 72 j ≤ 999 := fun j => hT.2 72 j
          have A73 : ∀ j, (-1) ≤ τ_93.2.1 73 j ∧ τ_93.2.1 73 j ≤ 99 := fun j => hT.2 73 j
          have A74 : ∀ j, (-1) ≤ τ_93.2.1 74 j ∧ τ_93.2.1 74 j ≤ 1499 := fun j => hT.2 74 j
          have v3 : 0 ≤ τ_93.1 3 ∧ τ_93.1 3 ≤ 1000 := hT.1 3
          have v4 : 0 ≤ τ_93.1 4 ∧ τ_93.1 4 ≤ 100 := hT.1 4
          have v5 : 0 ≤ τ_93.1 5 ∧ τ_93.1 5 ≤ 1500 := hT.1 5
          have v11 : (-1) ≤ τ_93.1 11 ∧ τ_93.1 11 ≤ 999 := hT.1 11
          have v45 : 0 ≤ τ_93.1 45 ∧ τ_93.1 45 ≤ 59 := hT.1 45
          have v46 : 0 ≤ τ_93.1 46 ∧ τ_93.1 46 ≤ 100 := hT.1 46
          refine h93 _ _ _ _ _ _ ?_
          refine ⟨(show 0 ≤ u2_18 ∧ u2_18 < 64 from by (first | omega | (simp only [st_s] <;> omega) | assumption | omega | fail)), ?_⟩
          replace hT := mT_a (k := 73) (j := u2_18) hT (show (-1 : Int) ≤ (-1) ∧ (-1) ≤ 99 from by (first | omega | (simp only [st_s] <;> omega) | assumption | omega | fail))
          refine ⟨(show 0 ≤ u2_18 ∧ u2_18 < 64 from by (first | omega | (simp only [st_s] <;> omega) | assumption | omega | fail)), ?_⟩
          replace hT := mT_a (k := 74) (j := u2_18) hT (show (-1 : Int) ≤ x11 ∧ x11 ≤ 1499 from by (first | omega | (simp only [st_s] <;> omega) | assumption | omega | fail))
          refine ⟨(⟨by (first | omega | (simp only [st_s] <;> omega) | assumption | omega | fail), by (first | omega | (simp only [st_s] <;> omega) | assumption | omega | fail)⟩ : rg (u2_18 + 1)), ?_⟩
          exact ih_18 _ _ (show (60 - (u2_18 + 1) : Int) < ((m_18 : Nat) : Int) from by ((first | omega | (simp only [st_s] <;> omega) | assumption | omega | fail))) hT (show τ_93.1 3 = σ.1 3 from by first | exact W3 | omega) (show τ_93.1 4 = σ.1 4 from by first | exact W4 | omega) (show τ_93.1 5 = σ.1 5 from by first | exact W5 | omega) (show τ_93.1 11 = σ.1 11 from by first | exact W11 | omega) G8 G12 G14 G15 G16 G17 (show 0 ≤ (u2_18 + 1) from by (first | omega | (simp only [st_s] <;> omega) | assumption | omega | fail)) (show (u2_18 + 1) ≤ σ.2.1 15 n1 - 1 from by (first | omega | (simp only [st_s] <;> omega) | assumption | omega | fail)) (show (τ_93.1 45) = σ.2.1 15 n1 - 1 from by (first | omega | (simp only [st_s] <;> omega) | assumption | omega | fail)) (show y_so (σ.1 3) (σ.1 11) (τ_93.1 46) (σ.2.1 12) (σ.2.1 8) (τ_93.2.1 71) from by (first | exact q1_1 | exact i18_4 | (rw [e_τ_93]; exact i18_4) | fail)) (show ∀ k : Int, 0 ≤ k → k < (u2_18 + 1) → τ_93.2.1 72 k = σ.2.1 16 (σ.2.1 14 n1 + 1 + k) ∧ (st (τ_93.2.1 74) u2_18 x11) k = σ.2.1 17 (σ.2.1 14 n1 + 1 + k) ∧ ((σ.2.1 17 (σ.2.1 14 n1 + 1 + k) = -1 ∧ (st (τ_93.2.1 73) u2_18 (-1)) k = -1) ∨ (¬ σ.2.1 17 (σ.2.1 14 n1 + 1 + k) = -1 ∧ (st (τ_93.2.1 73) u2_18 (-1)) k = τ_93.2.1 71 (σ.2.1 16 (σ.2.1 14 (σ.2.1 17 (σ.2.1 14 n1 + 1 + k)))))) from by (first | (intro k a b; exfalso; omega) | (rw [e_τ_93, show (s_a τ_18 72 u2_18 x14).2.1 72 = st (τ_18.2.1 72) u2_18 x14 from rfl, show (s_a τ_18 72 u2_18 x14).2.1 71 = τ_18.2.1 71 from rfl, show (s_a τ_18 72 u2_18 x14).2.1 73 = τ_18.2.1 73 from rfl, show (s_a τ_18 72 u2_18 x14).2.1 74 = τ_18.2.1 74 from rfl]; intro k a b; rcases (by omega : k < u2_18 ∨ k = u2_18) with q | q; (rw [st_n _ _ (by omega), st_n _ _ (by omega), st_n _ _ (by omega)]; exact i18_5 k a q); (rw [q, st_s, st_s, st_s]; refine ⟨f14, f11, ?_⟩; rw [← f11]; first | exact Or.inl ⟨by omega, rfl⟩ | exact Or.inr ⟨by omega, f22⟩)) | fail))
  refine ⟨_, K_X13_findSorts hT (show ca (σ.2.1 12) ((σ.1 3)) ≤ (σ.1 4) from Y20), ?_⟩
  intro τ3 hn_τ3 hf_τ3 hq
  obtain ⟨hT, q1_1⟩ := hq
  replace q1_1 : y_so ((σ.1 3)) (σ.1 11) (τ3.1 46) (σ.2.1 12) (σ.2.1 8) (τ3.2.1 71) := q1_1
  have w3_τ3 : τ3.1 3 = σ.1 3 := hf_τ3.1 3 (by decide)
  have w4_τ3 : τ3.1 4 = σ.1 4 := hf_τ3.1 4 (by decide)
  have w5_τ3 : τ3.1 5 = σ.1 5 := hf_τ3.1 5 (by decide)
  have w11_τ3 : τ3.1 11 = σ.1 11 := hf_τ3.1 11 (by decide)
  have w45_τ3 : τ3.1 45 = σ.1 45 := hf_τ3.1 45 (by decide)
  have g8_τ3 : τ3.2.1 8 = σ.2.1 8 := hf_τ3.2.1 8 (by decide)
  have g12_τ3 : τ3.2.1 12 = σ.2.1 12 := hf_τ3.2.1 12 (by decide)
  have g14_τ3 : τ3.2.1 14 = σ.2.1 14 := hf_τ3.2.1 14 (by decide)
  have g15_τ3 : τ3.2.1 15 = σ.2.1 15 := hf_τ3.2.1 15 (by decide)
  have g16_τ3 : τ3.2.1 16 = σ.2.1 16 := hf_τ3.2.1 16 (by decide)
  have g17_τ3 : τ3.2.1 17 = σ.2.1 17 := hf_τ3.2.1 17 (by decide)
  have g72_τ3 : τ3.2.1 72 = σ.2.1 72 := hf_τ3.2.1 72 (by decide)
  have g73_τ3 : τ3.2.1 73 = σ.2.1 73 := hf_τ3.2.1 73 (by decide)
  have g74_τ3 : τ3.2.1 74 = σ.2.1 74 := hf_τ3.2.1 74 (by decide)
  have W3 : τ3.1 3 = σ.1 3 := by first | exact w3_τ3.trans W3 | omega
  have W4 : τ3.1 4 = σ.1 4 := by first | exact w4_τ3.trans W4 | omega
  have W5 : τ3.1 5 = σ.1 5 := by first | exact w5_τ3.trans W5 | omega
  have W11 : τ3.1 11 = σ.1 11 := by first | exact w11_τ3.trans W11 | omega
  have G8 : τ3.2.1 8 = σ.2.1 8 := (g8_τ3).trans G8
  have G12 : τ3.2.1 12 = σ.2.1 12 := (g12_τ3).trans G12
  have G14 : τ3.2.1 14 = σ.2.1 14 := (g14_τ3).trans G14
  have G15 : τ3.2.1 15 = σ.2.1 15 := (g15_τ3).trans G15
  have G16 : τ3.2.1 16 = σ.2.1 16 := (g16_τ3).trans G16
  have G17 : τ3.2.1 17 = σ.2.1 17 := (g17_τ3).trans G17
  have Y20 : ca (τ3.2.1 12) ((τ3.1 3)) ≤ (τ3.1 4) := by rw [show (ca (τ3.2.1 12) ((τ3.1 3)) ≤ (τ3.1 4)) = (ca (σ.2.1 12) ((σ.1 3)) ≤ (σ.1 4)) from by rw [w3_τ3, w4_τ3, g12_τ3]]; exact Y20
  have A8 : ∀ j, 0 ≤ τ3.2.1 8 j ∧ τ3.2.1 8 j ≤ 1 := fun j => hT.2 8 j
  have A12 : ∀ j, 0 ≤ τ3.2.1 12 j ∧ τ3.2.1 12 j ≤ 1 := fun j => hT.2 12 j
  have A14 : ∀ j, 0 ≤ τ3.2.1 14 j ∧ τ3.2.1 14 j ≤ 30000 := fun j => hT.2 14 j
  have A15 : ∀ j, 0 ≤ τ3.2.1 15 j ∧ τ3.2.1 15 j ≤ 300 := fun j => hT.2 15 j
  have A16 : ∀ j, 0 ≤ τ3.2.1 16 j ∧ τ3.2.1 16 j ≤ 999 := fun j => hT.2 16 j
  have A17 : ∀ j, (-1) ≤ τ3.2.1 17 j ∧ τ3.2.1 17 j ≤ 1499 := fun j => hT.2 17 j
  have A71 : ∀ j, (-1) ≤ τ3.2.1 71 j ∧ τ3.2.1 71 j ≤ 99 := fun j => hT.2 71 j
  have A72 : ∀ j, 0 ≤ τ3.2.1 72 j ∧ τ3.2.1 72 j ≤ 999 := fun j => hT.2 72 j
  have A73 : ∀ j, (-1) ≤ τ3.2.1 73 j ∧ τ3.2.1 73 j ≤ 99 := fun j => hT.2 73 j
  have A74 : ∀ j, (-1) ≤ τ3.2.1 74 j ∧ τ3.2.1 74 j ≤ 1499 := fun j => hT.2 74 j
  have v3 : 0 ≤ τ3.1 3 ∧ τ3.1 3 ≤ 1000 := hT.1 3
  have v4 : 0 ≤ τ3.1 4 ∧ τ3.1 4 ≤ 100 := hT.1 4
  have v5 : 0 ≤ τ3.1 5 ∧ τ3.1 5 ≤ 1500 := hT.1 5
  have v11 : (-1) ≤ τ3.1 11 ∧ τ3.1 11 ≤ 999 := hT.1 11
  have v45 : 0 ≤ τ3.1 45 ∧ τ3.1 45 ≤ 59 := hT.1 45
  have v46 : 0 ≤ τ3.1 46 ∧ τ3.1 46 ≤ 100 := hT.1 46
  refine ⟨(show 0 ≤ n1 ∧ n1 < 1501 from by (first | omega | (simp only [st_s] <;> omega) | assumption | omega | fail)), ?_⟩
  intro x5 r_x5 e_x5
  have b_x5 : 0 ≤ x5 ∧ x5 ≤ 300 := by rw [e_x5]; exact hT.2 15 _
  rw [G15] at e_x5
  refine ⟨(⟨by (first | omega | (simp only [st_s] <;> omega) | assumption | omega | fail), by (first | omega | (simp only [st_s] <;> omega) | assumption | omega | fail)⟩ : rg (x5 - 1)), ?_⟩
  replace hT := mT_v (i := 45) hT (show 0 ≤ (x5 - 1) ∧ (x5 - 1) ≤ 59 from by (first | omega | (simp only [st_s] <;> omega) | assumption | omega | fail))
  exact l_18 ((60 - 0 : Int).toNat + 1) _ _ (show (60 - 0 : Int) < (((60 - 0 : Int).toNat + 1 : Nat) : Int) from by ((first | omega | (simp only [st_s] <;> omega) | assumption | omega | fail))) hT (show τ3.1 3 = σ.1 3 from by first | exact W3 | omega) (show τ3.1 4 = σ.1 4 from by first | exact W4 | omega) (show τ3.1 5 = σ.1 5 from by first | exact W5 | omega) (show τ3.1 11 = σ.1 11 from by first | exact W11 | omega) G8 G12 G14 G15 G16 G17 (show 0 ≤ 0 from by (first | omega | (simp only [st_s] <;> omega) | assumption | omega | fail)) (show 0 ≤ σ.2.1 15 n1 - 1 from by (first | omega | (simp only [st_s] <;> omega) | assumption | omega | fail)) (show ((x5 - 1)) = σ.2.1 15 n1 - 1 from by (first | omega | (simp only [st_s] <;> omega) | assumption | omega | fail)) (show y_so (σ.1 3) (σ.1 11) (τ3.1 46) (σ.2.1 12) (σ.2.1 8) (τ3.2.1 71) from by (first | exact q1_1 | exact i18_4 | (rw [e_τ_93]; exact i18_4) | fail)) (show ∀ k : Int, 0 ≤ k → k < 0 → τ3.2.1 72 k = σ.2.1 16 (σ.2.1 14 n1 + 1 + k) ∧ τ3.2.1 74 k = σ.2.1 17 (σ.2.1 14 n1 + 1 + k) ∧ ((σ.2.1 17 (σ.2.1 14 n1 + 1 + k) = -1 ∧ τ3.2.1 73 k = -1) ∨ (¬ σ.2.1 17 (σ.2.1 14 n1 + 1 + k) = -1 ∧ τ3.2.1 73 k = τ3.2.1 71 (σ.2.1 16 (σ.2.1 14 (σ.2.1 17 (σ.2.1 14 n1 + 1 + k)))))) from by (first | (intro k a b; exfalso; omega) | (rw [e_τ_93, show (s_a τ_18 72 u2_18 x14).2.1 72 = st (τ_18.2.1 72) u2_18 x14 from rfl, show (s_a τ_18 72 u2_18 x14).2.1 71 = τ_18.2.1 71 from rfl, show (s_a τ_18 72 u2_18 x14).2.1 73 = τ_18.2.1 73 from rfl, show (s_a τ_18 72 u2_18 x14).2.1 74 = τ_18.2.1 74 from rfl]; intro k a b; rcases (by omega : k < u2_18 ∨ k = u2_18) with q | q; (rw [st_n _ _ (by omega), st_n _ _ (by omega), st_n _ _ (by omega)]; exact i18_5 k a q); (rw [q, st_s, st_s, st_s]; refine ⟨f14, f11, ?_⟩; rw [← f11]; first | exact Or.inl ⟨by omega, rfl⟩ | exact Or.inr ⟨by omega, f22⟩)) | fail))
set_option maxHeartbeats 1000000 in
theorem K_X13_newNode {n1 : Int} {n2 : Int} {n3 : Int} {σ : S0} (hT : m_T σ) (p1 : (σ.1 51) < 60000) (p2 : -1 ≤ n1 ∧ n1 ≤ 99) (p3 : 0 ≤ n2 ∧ n2 ≤ 59) (p4 : 0 ≤ n3 ∧ n3 ≤ 59) : W_X13_newNode n1 n2 n3 σ (fun (x : Int) (τ : S0) => (m_T τ) ∧ (x = (σ.1 51)) ∧ ((τ.1 51) = (σ.1 51) + 1) ∧ (τ.2.1 90 = st (σ.2.1 90) (σ.1 51) n1) ∧ (τ.2.1 88 = st (σ.2.1 88) (σ.1 51) n2) ∧ (τ.2.1 89 = st (σ.2.1 89) (σ.1 51) n3)) := by
  have A88 : ∀ j, 0 ≤ σ.2.1 88 j ∧ σ.2.1 88 j ≤ 59 := fun j => hT.2 88 j
  have A89 : ∀ j, 0 ≤ σ.2.1 89 j ∧ σ.2.1 89 j ≤ 59 := fun j => hT.2 89 j
  have A90 : ∀ j, (-1) ≤ σ.2.1 90 j ∧ σ.2.1 90 j ≤ 99 := fun j => hT.2 90 j
  have v51 : 0 ≤ σ.1 51 ∧ σ.1 51 ≤ 60000 := hT.1 51
  unfold W_X13_newNode
  refine ⟨(show 0 ≤ σ.1 51 ∧ σ.1 51 < 60000 from by (first | omega | (simp only [st_s] <;> omega) | assumption | omega | fail)), ?_⟩
  replace hT := mT_a (k := 90) (j := (σ.1 51)) hT (show (-1 : Int) ≤ n1 ∧ n1 ≤ 99 from by (first | omega | (simp only [st_s] <;> omega) | assumption | omega | fail))
  replace hT := mT_a (k := 88) (j := (σ.1 51)) hT (show (0 : Int) ≤ n2 ∧ n2 ≤ 59 from by (first | omega | (simp only [st_s] <;> omega) | assumption | omega | fail))
  replace hT := mT_a (k := 89) (j := (σ.1 51)) hT (show (0 : Int) ≤ n3 ∧ n3 ≤ 59 from by (first | omega | (simp only [st_s] <;> omega) | assumption | omega | fail))
  refine ⟨(⟨by (first | omega | (simp only [st_s] <;> omega) | assumption | omega | fail), by (first | omega | (simp only [st_s] <;> omega) | assumption | omega | fail)⟩ : rg (σ.1 51 + 1)), ?_⟩
  replace hT := mT_v (i := 51) hT (show 0 ≤ (σ.1 51 + 1) ∧ (σ.1 51 + 1) ≤ 60000 from by (first | omega | (simp only [st_s] <;> omega) | assumption | omega | fail))
  refine ⟨(⟨by (first | omega | (simp only [st_s] <;> omega) | assumption | omega | fail), by (first | omega | (simp only [st_s] <;> omega) | assumption | omega | fail)⟩ : rg ((σ.1 51 + 1) - 1)), ?_⟩
  exact ⟨hT, (show ((σ.1 51 + 1) - 1) = (σ.1 51) from by (first | omega | (simp only [st_s] <;> omega) | assumption | omega | fail)), (show ((σ.1 51 + 1)) = (σ.1 51) + 1 from by (first | omega | (simp only [st_s] <;> omega) | assumption | omega | fail)), (show (st (σ.2.1 90) (σ.1 51) n1) = st (σ.2.1 90) (σ.1 51) n1 from by (first | omega | (simp only [st_s] <;> omega) | assumption | omega | fail)), (show (st (σ.2.1 88) (σ.1 51) n2) = st (σ.2.1 88) (σ.1 51) n2 from by (first | omega | (simp only [st_s] <;> omega) | assumption | omega | fail)), (show (st (σ.2.1 89) (σ.1 51) n3) = st (σ.2.1 89) (σ.1 51) n3 from by (first | omega | (simp only [st_s] <;> omega) | assumption | omega | fail))⟩
set_option maxHeartbeats 1000000 in
theorem K_X13_hypOf {n1 : Int} {n2 : Int} {σ : S0} (hT : m_T σ) (p1 : 0 ≤ n1) (p2 : n1 < (σ.1 5)) : W_X13_hypOf n1 n2 σ (fun (x : Int) => (-1 ≤ x ∧ x < σ.2.1 19 n1 ∨ x = -1) ∧ (0 ≤ x → x < σ.2.1 19 n1 ∧ σ.2.1 16 (σ.2.1 14 (σ.2.1 20 (σ.2.1 18 n1 + x)) + 1) = n2) ∧ (x = -1 → ∀ k : Int, 0 ≤ k → k < σ.2.1 19 n1 → σ.2.1 16 (σ.2.1 14 (σ.2.1 20 (σ.2.1 18 n1 + k)) + 1) ≠ n2)) := by
  have A14 : ∀ j, 0 ≤ σ.2.1 14 j ∧ σ.2.1 14 j ≤ 30000 := fun j => hT.2 14 j
  have A16 : ∀ j, 0 ≤ σ.2.1 16 j ∧ σ.2.1 16 j ≤ 999 := fun j => hT.2 16 j
  have A18 : ∀ j, 0 ≤ σ.2.1 18 j ∧ σ.2.1 18 j ≤ 90000 := fun j => hT.2 18 j
  have A19 : ∀ j, 0 ≤ σ.2.1 19 j ∧ σ.2.1 19 j ≤ 60 := fun j => hT.2 19 j
  have A20 : ∀ j, 0 ≤ σ.2.1 20 j ∧ σ.2.1 20 j ≤ 1499 := fun j => hT.2 20 j
  have v5 : 0 ≤ σ.1 5 ∧ σ.1 5 ≤ 1500 := hT.1 5
  intro P2 h2
  have a19 := A19 n1
  have a18 := A18 n1
  have B14 := A14
  have l_2 : ∀ (m_2 : Nat) (u3_2 : Int), 61 - u3_2 < (m_2 : Int) → (0 ≤ u3_2) → (u3_2 ≤ 60) → (∀ k : Int, 0 ≤ k → k < u3_2 → σ.2.1 16 (σ.2.1 14 (σ.2.1 20 (σ.2.1 18 n1 + k)) + 1) ≠ n2) → P2 n1 n2 u3_2 := by
    intro m_2
    induction m_2 with
    | zero =>
      intro u3_2 hm i2_1 i2_2 i2_3
      exfalso; (first | omega | (simp only [st_s] <;> omega) | assumption | omega | fail)
    | succ m_2 ih_2 =>
      intro u3_2 hm_2 i2_1 i2_2 i2_3
      refine h2 n1 n2 u3_2 ?_
      refine ⟨(show 0 ≤ n1 ∧ n1 < 1501 from by (first | omega | (simp only [st_s] <;> omega) | assumption | omega | fail)), ?_⟩
      intro x2 r_x2 e_x2
      have b_x2 : 0 ≤ x2 ∧ x2 ≤ 60 := by rw [e_x2]; exact hT.2 19 _
      refine ⟨fun c3 => ?_, fun c3 => ?_⟩
      ·
        exact ⟨(show -1 ≤ (-1) ∧ (-1) < σ.2.1 19 n1 ∨ (-1) = -1 from by (first | omega | (simp only [st_s] <;> omega) | assumption | omega | fail)), (show 0 ≤ (-1) → (-1) < σ.2.1 19 n1 ∧ σ.2.1 16 (σ.2.1 14 (σ.2.1 20 (σ.2.1 18 n1 + (-1))) + 1) = n2 from by (first | (intro z; exfalso; omega) | (intro z; exact ⟨by omega, by rw [← e_x4, ← e_x6, ← e_x8, ← e_x10]; omega⟩) | fail)), (show (-1) = -1 → ∀ k : Int, 0 ≤ k → k < σ.2.1 19 n1 → σ.2.1 16 (σ.2.1 14 (σ.2.1 20 (σ.2.1 18 n1 + k)) + 1) ≠ n2 from by (first | (intro z; exfalso; omega) | (intro z k a b; exact i2_3 k a (by omega)) | fail))⟩
      ·
        intro x4 r_x4 e_x4
        have b_x4 : 0 ≤ x4 ∧ x4 ≤ 90000 := by rw [e_x4]; exact hT.2 18 _
        refine ⟨(show 0 ≤ (x4 + u3_2) ∧ (x4 + u3_2) < 90100 from by (first | omega | (simp only [st_s] <;> omega) | assumption | omega | fail)), ?_⟩
        intro x6 r_x6 e_x6
        have b_x6 : 0 ≤ x6 ∧ x6 ≤ 1499 := by rw [e_x6]; exact hT.2 20 _
        refine ⟨(show 0 ≤ x6 ∧ x6 < 1501 from by (first | omega | (simp only [st_s] <;> omega) | assumption | omega | fail)), ?_⟩
        intro x8 r_x8 e_x8
        have b_x8 : 0 ≤ x8 ∧ x8 ≤ 30000 := by rw [e_x8]; exact hT.2 14 _
        have b8 := B14 x6
        refine ⟨(show 0 ≤ (x8 + 1) ∧ (x8 + 1) < 30400 from by (first | omega | (simp only [st_s] <;> omega) | assumption | omega | fail)), ?_⟩
        intro x10 r_x10 e_x10
        have b_x10 : 0 ≤ x10 ∧ x10 ≤ 999 := by rw [e_x10]; exact hT.2 16 _
        refine ⟨fun c11 => ?_, fun c11 => ?_⟩
        ·
          refine ⟨(⟨by (first | omega | (simp only [st_s] <;> omega) | assumption | omega | fail), by (first | omega | (simp only [st_s] <;> omega) | assumption | omega | fail)⟩ : rg (u3_2 + 1)), ?_⟩
          exact ih_2 _ (show (61 - (u3_2 + 1) : Int) < ((m_2 : Nat) : Int) from by ((first | omega | (simp only [st_s] <;> omega) | assumption | omega | fail))) (show 0 ≤ (u3_2 + 1) from by (first | omega | (simp only [st_s] <;> omega) | assumption | omega | fail)) (show (u3_2 + 1) ≤ 60 from by (first | omega | (simp only [st_s] <;> omega) | assumption | omega | fail)) (show ∀ k : Int, 0 ≤ k → k < (u3_2 + 1) → σ.2.1 16 (σ.2.1 14 (σ.2.1 20 (σ.2.1 18 n1 + k)) + 1) ≠ n2 from by (first | (intro k a b; exfalso; omega) | (intro k a b; rcases (by omega : k < u3_2 ∨ k = u3_2) with q | q; (exact i2_3 k a q); (rw [q, ← e_x4, ← e_x6, ← e_x8, ← e_x10]; assumption)) | fail))
        ·
          exact ⟨(show -1 ≤ u3_2 ∧ u3_2 < σ.2.1 19 n1 ∨ u3_2 = -1 from by (first | omega | (simp only [st_s] <;> omega) | assumption | omega | fail)), (show 0 ≤ u3_2 → u3_2 < σ.2.1 19 n1 ∧ σ.2.1 16 (σ.2.1 14 (σ.2.1 20 (σ.2.1 18 n1 + u3_2)) + 1) = n2 from by (first | (intro z; exfalso; omega) | (intro z; exact ⟨by omega, by rw [← e_x4, ← e_x6, ← e_x8, ← e_x10]; omega⟩) | fail)), (show u3_2 = -1 → ∀ k : Int, 0 ≤ k → k < σ.2.1 19 n1 → σ.2.1 16 (σ.2.1 14 (σ.2.1 20 (σ.2.1 18 n1 + k)) + 1) ≠ n2 from by (first | (intro z; exfalso; omega) | (intro z k a b; exact i2_3 k a (by omega)) | fail))⟩
  exact l_2 ((61 - 0 : Int).toNat + 1) _ (show (61 - 0 : Int) < (((61 - 0 : Int).toNat + 1 : Nat) : Int) from by ((first | omega | (simp only [st_s] <;> omega) | assumption | omega | fail))) (show 0 ≤ 0 from by (first | omega | (simp only [st_s] <;> omega) | assumption | omega | fail)) (show 0 ≤ 60 from by (first | omega | (simp only [st_s] <;> omega) | assumption | omega | fail)) (show ∀ k : Int, 0 ≤ k → k < 0 → σ.2.1 16 (σ.2.1 14 (σ.2.1 20 (σ.2.1 18 n1 + k)) + 1) ≠ n2 from by (first | (intro k a b; exfalso; omega) | (intro k a b; rcases (by omega : k < u3_2 ∨ k = u3_2) with q | q; (exact i2_3 k a q); (rw [q, ← e_x4, ← e_x6, ← e_x8, ← e_x10]; assumption)) | fail))
