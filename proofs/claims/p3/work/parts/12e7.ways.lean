-- pure: the model's chart
theorem y_ok_x {lim p q t : Int} {In : Int → Prop} {hd nn : Int → Int} {f : Int → Int → Int} {row ls : Int → Int} {W V W' V' : Int → Int → Int → Prop} {ρ ρ' : Int → Int → Int → Int} (vw : ∀ t p q : Int, V t p q → W t p q) (vw' : ∀ t p q : Int, V' t p q → W' t p q) (n1 : ∀ r : Int, In r → 1 ≤ nn r) (pq : p < q) (e : ∀ s a b : Int, p ≤ a → a < b → b ≤ q → (W s a b ↔ W' s a b) ∧ (V s a b ↔ V' s a b)) (er : ∀ s : Int, ρ s p q = ρ' s p q) (h : y_ok lim In hd nn f row ls W V ρ t p q) : y_ok lim In hd nn f row ls W' V' ρ' t p q := by
  have P : ∀ r : Int, In r → (y_p1 row W (f r) p (nn r).toNat q ↔ y_p1 row W' (f r) p (nn r).toNat q) ∧ (y_p2 row W V (f r) p (nn r).toNat q ↔ y_p2 row W' V' (f r) p (nn r).toNat q) := fun r hr => by
    have g : ∀ o : Int, 1 ≤ o → o ≤ ((nn r).toNat : Int) → f r o < 0 → ∀ a b : Int, p + o - 1 ≤ a → a < b → b ≤ q - (((nn r).toNat : Int) - o) → (o = 1 → a = p) → (W (-2 - f r o) a b ↔ W' (-2 - f r o) a b) ∧ (V (-2 - f r o) a b ↔ V' (-2 - f r o) a b) := fun o a1 a2 a3 a b a4 a5 a6 _ => e _ a b (by omega) a5 (by omega)
    exact ⟨y_p1_x _ _ (fun _ _ _ => rfl) (fun o a1 a2 a3 a b a4 a5 a6 a7 => (g o a1 a2 a3 a b a4 a5 a6 a7).1), y_p2_x vw vw' _ _ (fun _ _ _ => rfl) g⟩
  have w := e t p q (Int.le_refl _) pq (Int.le_refl _)
  obtain ⟨h1, h2, h3⟩ := h
  refine ⟨w.1.symm.trans (h1.trans (or_congr Iff.rfl ⟨fun ⟨r, c, g⟩ => ⟨r, c, (P r c.2.1).1.mp g⟩, fun ⟨r, c, g⟩ => ⟨r, c, (P r c.2.1).1.mpr g⟩⟩)), w.2.symm.trans (h2.trans (or_congr (and_congr Iff.rfl ⟨fun ⟨r, c, g⟩ => ⟨r, c, (P r c.2.1).1.mp g⟩, fun ⟨r, c, g⟩ => ⟨r, c, (P r c.2.1).1.mpr g⟩⟩) (or_congr ⟨fun ⟨r, c, g⟩ => ⟨r, c, (P r c.2.1).2.mp g⟩, fun ⟨r, c, g⟩ => ⟨r, c, (P r c.2.1).2.mpr g⟩⟩ ⟨fun ⟨r, s, l, ⟨c, g⟩, c2, g2⟩ => ⟨r, s, l, ⟨c, (P r c.2.1).1.mp g⟩, c2, (P s c2.2.1).1.mp g2⟩, fun ⟨r, s, l, ⟨c, g⟩, c2, g2⟩ => ⟨r, s, l, ⟨c, (P r c.2.1).1.mpr g⟩, c2, (P s c2.2.1).1.mpr g2⟩⟩))), fun y => ?_⟩
  obtain ⟨g1, g2⟩ := h3 (w.1.mpr y)
  rw [er t] at g1
  refine ⟨g1, g2.imp id (fun ⟨r, c, g, k⟩ => ⟨r, c, (P r c.2.1).1.mp g, fun a b => ?_⟩)⟩
  have := k a b
  rw [er, er] at this
  exact this
/-- which cells are done -/
def y_dn (i j p q : Int) : Prop := i < p ∨ (p = i ∧ q < j)
def y_mb (σ : S0) (wn by_ : Int → Int) (lim t p q : Int) : Prop := (0 ≤ wn ((σ.2.1 71 t * 61 + p) * 61 + q) ∧ wn ((σ.2.1 71 t * 61 + p) * 61 + q) ≤ 2) ∧ ((by_ ((σ.2.1 71 t * 61 + p) * 61 + q) = -1 ∧ ¬ ∃ r : Int, y_cb lim (y_RN σ) (y_hd σ) t r ∧ y_p1 (σ.2.1 72) (y_W1 (σ.1 3) (σ.2.1 71) wn) (y_f σ r) p (y_nn σ r).toNat q) ∨ ∃ r : Int, y_cb lim (y_RN σ) (y_hd σ) t r ∧ y_p1 (σ.2.1 72) (y_W1 (σ.1 3) (σ.2.1 71) wn) (y_f σ r) p (y_nn σ r).toNat q ∧ by_ ((σ.2.1 71 t * 61 + p) * 61 + q) = r)
def y_GD (σ : S0) (wn by_ : Int → Int) (lim i j : Int) : Prop := (∃ ρ : Int → Int → Int → Int, ∀ t p q : Int, 0 ≤ p → p < q → q ≤ σ.1 45 → y_dn i j p q → y_ok lim (y_In σ) (y_hd σ) (y_nn σ) (y_f σ) (σ.2.1 72) (y_ls (σ.1 3) (σ.2.1 71) (σ.2.1 73)) (y_W1 (σ.1 3) (σ.2.1 71) wn) (y_W2 (σ.1 3) (σ.2.1 71) wn) ρ t p q) ∧
  (∀ t p q : Int, 0 ≤ t → t < σ.1 3 → 0 ≤ σ.2.1 71 t → 0 ≤ p → p < q → q ≤ σ.1 45 → y_dn i j p q → y_mb σ wn by_ lim t p q) ∧
  ∀ s p q : Int, 0 ≤ s → s < σ.1 46 → 0 ≤ p → p < q → q ≤ σ.1 45 → ¬ y_dn i j p q → wn ((s * 61 + p) * 61 + q) = 0 ∧ by_ ((s * 61 + p) * 61 + q) = -1
theorem y_GD_e {σ : S0} {wn by_ : Int → Int} {lim i j i' j' : Int} (h : y_GD σ wn by_ lim i j) (e : ∀ p q : Int, 0 ≤ p → p < q → q ≤ σ.1 45 → (y_dn i' j' p q ↔ y_dn i j p q)) : y_GD σ wn by_ lim i' j' := by
  obtain ⟨⟨ρ, h1⟩, h2, h3⟩ := h
  exact ⟨⟨ρ, fun t p q a b c d => h1 t p q a b c ((e p q a b c).mp d)⟩, fun t p q x y z a b c d => h2 t p q x y z a b c ((e p q a b c).mp d), fun s p q x y a b c d => h3 s p q x y a b c (fun w => d ((e p q a b c).mpr w))⟩
theorem y_nn1 {σ : S0} (r : Int) (h : y_In σ r) : 1 ≤ y_nn σ r := by
  have w := h.1.1.2.1
  show 1 ≤ σ.2.1 15 r - 1
  omega
/-- one cell more -/
theorem y_GD_s {σ τ : S0} {wn by_ : Int → Int} {lim i j : Int} (SD : y_SD σ τ) (e3 : τ.1 3 = σ.1 3) (e45 : τ.1 45 = σ.1 45) (e46 : τ.1 46 = σ.1 46) (e71 : τ.2.1 71 = σ.2.1 71) (e72 : τ.2.1 72 = σ.2.1 72) (e73 : τ.2.1 73 = σ.2.1 73) (soS : ∀ t : Int, 0 ≤ t → t < σ.1 3 → 0 ≤ σ.2.1 71 t → σ.2.1 71 t < σ.1 46) (l59 : σ.1 45 ≤ 59) (i0 : 0 ≤ i) (ij : i < j) (h : y_GD σ (τ.2.1 75) (τ.2.1 76) lim i j) (c : y_CS τ wn by_ i j lim) : y_GD σ wn by_ lim i (j + 1) := by
  obtain ⟨_, s2, s3, s4, s5, _, s7⟩ := y_SD_e SD
  obtain ⟨c1, ⟨r, c2⟩, c3⟩ := c
  rw [e46] at c1
  rw [s2, s3, s4, s5, e3, e71, e72, e73] at c2
  rw [s7, s3, s4, s5, e3, e71, e72] at c3
  obtain ⟨⟨ρ, h1⟩, h2, h3⟩ := h
  have ag : ∀ t a b : Int, 0 ≤ a → a < b → b ≤ σ.1 45 → ¬ (a = i ∧ b = j) → (y_W1 (σ.1 3) (σ.2.1 71) (τ.2.1 75) t a b ↔ y_W1 (σ.1 3) (σ.2.1 71) wn t a b) ∧ (y_W2 (σ.1 3) (σ.2.1 71) (τ.2.1 75) t a b ↔ y_W2 (σ.1 3) (σ.2.1 71) wn t a b) := fun t a b a0 ab bl n => by
    unfold y_W1 y_W2
    have x := fun hh : 0 ≤ t ∧ t < σ.1 3 ∧ 0 ≤ σ.2.1 71 t => (c1 _ hh.2.2 (soS t hh.1 hh.2.1 hh.2.2) a b a0 (by omega) (by omega) (by omega) n).1
    exact ⟨⟨fun ⟨y, z⟩ => ⟨y, by rw [x y]; exact z⟩, fun ⟨y, z⟩ => ⟨y, by rw [← x y]; exact z⟩⟩, ⟨fun ⟨y, z⟩ => ⟨y, by rw [x y]; exact z⟩, fun ⟨y, z⟩ => ⟨y, by rw [← x y]; exact z⟩⟩⟩
  have old : ∀ p q : Int, 0 ≤ p → p < q → q ≤ σ.1 45 → y_dn i j p q → ∀ s a b : Int, p ≤ a → a < b → b ≤ q → (y_W1 (σ.1 3) (σ.2.1 71) (τ.2.1 75) s a b ↔ y_W1 (σ.1 3) (σ.2.1 71) wn s a b) ∧ (y_W2 (σ.1 3) (σ.2.1 71) (τ.2.1 75) s a b ↔ y_W2 (σ.1 3) (σ.2.1 71) wn s a b) := fun p q p0 pq ql d s a b pa ab bq => ag s a b (by omega) ab (by omega) (by unfold y_dn at d; omega)
  have cas : ∀ p q : Int, p < q → y_dn i (j + 1) p q → y_dn i j p q ∨ (p = i ∧ q = j) := fun p q _ d => by unfold y_dn at d ⊢; omega
  refine ⟨⟨fun t p q => if p = i ∧ q = j then r t else ρ t p q, fun t p q p0 pq ql d => ?_⟩, fun t p q t0 t1 ts p0 pq ql d => ?_, fun s p q s0 s1 p0 pq ql d => ?_⟩
  · rcases cas p q pq d with z | ⟨z1, z2⟩
    · have nz : ¬ (p = i ∧ q = j) := by unfold y_dn at z; omega
      exact y_ok_x (y_W21 _ _ _) (y_W21 _ _ _) y_nn1 pq (old p q p0 pq ql z) (fun s => (if_neg nz).symm) (h1 t p q p0 pq ql z)
    · subst z1; subst z2
      exact y_ok_x (y_W21 _ _ _) (y_W21 _ _ _) y_nn1 pq (fun _ _ _ _ _ _ => ⟨Iff.rfl, Iff.rfl⟩) (fun s => (if_pos ⟨rfl, rfl⟩).symm) (c2 t)
  · rcases cas p q pq d with z | ⟨z1, z2⟩
    · have nz : ¬ (p = i ∧ q = j) := by unfold y_dn at z; omega
      obtain ⟨m1, m2⟩ := h2 t p q t0 t1 ts p0 pq ql z
      obtain ⟨w1, w2⟩ := c1 _ ts (soS t t0 t1 ts) p q p0 (by omega) (by omega) (by omega) nz
      have P : ∀ r : Int, y_RN σ r → (y_p1 (σ.2.1 72) (y_W1 (σ.1 3) (σ.2.1 71) (τ.2.1 75)) (y_f σ r) p (y_nn σ r).toNat q ↔ y_p1 (σ.2.1 72) (y_W1 (σ.1 3) (σ.2.1 71) wn) (y_f σ r) p (y_nn σ r).toNat q) := fun r hr => y_p1_x _ _ (fun _ _ _ => rfl) (fun o a1 a2 a3 a b a4 a5 a6 _ => (old p q p0 pq ql z _ a b (by omega) a5 (by omega)).1)
      refine ⟨by rw [w1]; exact m1, ?_⟩
      rw [w2]
      exact m2.imp (fun ⟨x, y⟩ => ⟨x, fun ⟨r, cr, g⟩ => y ⟨r, cr, (P r cr.2.1).mpr g⟩⟩) (fun ⟨r, cr, g, k⟩ => ⟨r, cr, (P r cr.2.1).mp g, k⟩)
    · subst z1; subst z2
      exact c3 t t0 t1 ts
  · have nz : ¬ (p = i ∧ q = j) := by unfold y_dn at d; omega
    have nd : ¬ y_dn i j p q := by unfold y_dn at d ⊢; omega
    obtain ⟨w1, w2⟩ := c1 s s0 s1 p q p0 (by omega) (by omega) (by omega) nz
    rw [w1, w2]; exact h3 s p q s0 s1 p0 pq ql nd
/-- what the chart is made of stays -/
theorem y_QD_h {σ τ : S0} {wv wa wb : List Nat} (h : y_QD σ) (hf : f_r wv wa wb σ τ) (d1 : [3, 5, 11, 45, 46, 47, 48].all (fun i => !wv.contains i) = true) (d2 : [8, 10, 12, 13, 14, 15, 16, 18, 19, 20, 71, 73, 77, 78, 79, 80, 81, 82, 83, 84].all (fun i => !wa.contains i) = true) : y_QD τ := by
  have V : ∀ i : Nat, i ∈ [3, 5, 11, 45, 46, 47, 48] → τ.1 i = σ.1 i := fun i hi => hf.1 i (by simpa using List.all_eq_true.mp d1 i hi)
  have A : ∀ i : Nat, i ∈ [8, 10, 12, 13, 14, 15, 16, 18, 19, 20, 71, 73, 77, 78, 79, 80, 81, 82, 83, 84] → τ.2.1 i = σ.2.1 i := fun i hi => hf.2.1 i (by simpa using List.all_eq_true.mp d2 i hi)
  have SD : y_SD σ τ := ⟨V 11 (by simp), A 8 (by simp), A 10 (by simp), A 13 (by simp), A 14 (by simp), A 15 (by simp), A 16 (by simp), A 18 (by simp), A 19 (by simp), A 20 (by simp)⟩
  obtain ⟨_, s2, s3, s4, s5, s6, s7⟩ := y_SD_e SD
  obtain ⟨h1, h2, h3, h4, h5⟩ := h
  unfold y_QD y_TT y_Un
  rw [s2, s3, s4, s5, s6, s7, V 3 (by simp), V 5 (by simp), V 11 (by simp), V 45 (by simp), V 46 (by simp), V 47 (by simp), V 48 (by simp), A 8 (by simp), A 12 (by simp), A 71 (by simp), A 73 (by simp), A 77 (by simp), A 78 (by simp), A 79 (by simp), A 80 (by simp), A 81 (by simp), A 82 (by simp), A 83 (by simp), A 84 (by simp)]
  exact ⟨h1, h2, h3, h4, h5⟩
/-- rules are of sorts, their variables of types -/
theorem y_tyJ {σ : S0} (J : n_J σ) (hT : m_T σ) (hS : y_so (σ.1 3) (σ.1 11) (σ.1 46) (σ.2.1 12) (σ.2.1 8) (σ.2.1 71)) : ∀ r : Int, 0 ≤ r → r < σ.1 5 → y_In σ r → (0 ≤ y_hd σ r ∧ y_hd σ r < σ.1 3 ∧ 0 ≤ σ.2.1 71 (y_hd σ r)) ∧ ∀ k : Int, 1 ≤ k → k ≤ y_nn σ r → y_f σ r k < 0 → 0 ≤ -2 - y_f σ r k ∧ -2 - y_f σ r k < σ.1 3 := fun r r0 r1 hr => by
  obtain ⟨⟨a1, a2, a3, a4⟩, _, a6⟩ := (J r r0 r1).1
  obtain ⟨b1, b2, b3, b4⟩ := hr.1.1
  have h0 : 0 ≤ σ.2.1 16 (σ.2.1 14 r) := (hT.2 16 _).1
  have h1 := (a6 (σ.2.1 14 r) (Int.le_refl _) (by omega)).1
  refine ⟨⟨h0, h1, ?_⟩, fun k k1 kn z => ?_⟩
  · rcases hS.1 _ h0 h1 with w | w
    · exact absurd ⟨a4, a3, b4⟩ w.2
    · exact w.1.1
  · have kn : k ≤ σ.2.1 15 r - 1 := kn
    have t0 : 0 ≤ σ.2.1 16 (σ.2.1 14 r + k) := (hT.2 16 _).1
    have e := y_ty z t0
    have iv : ¬ σ.2.1 8 (σ.2.1 16 (σ.2.1 14 r + k)) = 0 := fun q => by
      unfold y_f at z; rw [if_pos q] at z; omega
    rcases (a6 (σ.2.1 14 r + k) (by omega) (by omega)).2 with w | ⟨_, w1, w2, w3, w4⟩
    · exact absurd w.1 iv
    · obtain ⟨_, c2, c3⟩ := (J _ w1 (by omega)).1
      obtain ⟨d1, _, _, d4⟩ := c2 w3
      have e5 := (c3 _ (Int.le_refl _) (by omega)).1
      have e6 : 0 ≤ σ.2.1 16 (σ.2.1 14 (σ.2.1 17 (σ.2.1 14 r + k))) := (hT.2 16 _).1
      rw [e, ← w4, d4]
      omega
/-- fronts as a row begins -/
theorem y_Fr_0 {N lim i : Int} {D : Int → Prop} {row up sp le : Int → Int} {W V : Int → Int → Int → Prop} {a b : Int → Int64} (vw : ∀ t p q : Int, V t p q → W t p q) (i0 : 0 ≤ i) (i1 : i < 60) (h : ∀ x : Int, 1 ≤ x → x < N → (up x = 0 ∧ a x = j_shl 1 i ∧ b x = 0) ∨ (¬ up x = 0 ∧ a x = 0 ∧ b x = 0)) (nD : ∀ x : Int, ¬ D x) : y_Fr N lim i (i + 1) D row W V up sp le a b := fun x x1 xN lx k hd f hp q q0 q1 => by
  cases k with
  | zero =>
    rcases h x x1 xN with ⟨_, c2, c3⟩ | ⟨c, _⟩
    · rw [c2, c3, j_b_one i0 (by omega) q0 q1]
      exact ⟨⟨fun z => ⟨Or.inl (by omega), z⟩, fun z => z.2⟩, ⟨fun z => absurd z (j_b_0 q), fun z => z.2.elim⟩⟩
    · exact absurd hp.2.1 c
  | succ k =>
    have u1 := y_pt_1 k _ hp.2.2
    have n1 : ¬ ((q < i + 1 ∨ (q = i + 1 ∧ D x)) ∧ y_p1 row W f i (k + 1) q) := fun z => by
      have l := y_p1_l (k + 1) q z.2
      rcases z.1 with y | y
      · omega
      · exact nD x y.2
    rcases h x x1 xN with ⟨c, _⟩ | ⟨_, c2, c3⟩
    · omega
    · rw [c2, c3]
      exact ⟨⟨fun z => absurd z (j_b_0 q), fun z => absurd z n1⟩, ⟨fun z => absurd z (j_b_0 q), fun z => absurd ⟨z.1, y_p21 vw _ _ z.2⟩ n1⟩⟩
theorem y_St_e {sy len i J i' J' : Int} {so : Int → Int} {W V : Int → Int → Int → Prop} {s1 s2 : Int → Int64} (h : y_St sy len i J so W V s1 s2) (e : ∀ p q : Int, 0 ≤ p → q ≤ len → (((i' < p ∨ (p = i' ∧ q ≤ J')) ∧ p < q) ↔ ((i < p ∨ (p = i ∧ q ≤ J)) ∧ p < q))) : y_St sy len i' J' so W V s1 s2 := fun t a b c q q0 ql p p0 p1 => by
  have w := h t a b c q q0 ql p p0 p1
  rw [e p q p0 ql]; exact w
theorem y_St_0 {sy len S i : Int} {so : Int → Int} {W V : Int → Int → Int → Prop} {s1 s2 : Int → Int64} (soS : ∀ t : Int, 0 ≤ t → t < sy → 0 ≤ so t → so t < S) (z : ∀ s q : Int, 0 ≤ s → s < S → 0 ≤ q → q ≤ len → s1 (61 * s + q) = 0 ∧ s2 (61 * s + q) = 0) (l : len ≤ i + 1) : y_St sy len i i so W V s1 s2 := fun t a b c q q0 ql p p0 p1 => by
  obtain ⟨z1, z2⟩ := z _ q c (soS t a b c) q0 ql
  rw [z1, z2]
  exact ⟨⟨fun y => absurd y (j_b_0 p), fun y => by have := y.1; omega⟩, ⟨fun y => absurd y (j_b_0 p), fun y => by have := y.1; omega⟩⟩
theorem y_Fr_n {N lim i j : Int} {row up sp le : Int → Int} {W V : Int → Int → Int → Prop} {a b : Int → Int64} (h : y_Fr N lim i j (fun _ => True) row W V up sp le a b) : y_Fr N lim i (j + 1) (fun _ => False) row W V up sp le a b := fun x x1 xN lx k hd f hp q q0 q1 => by
  have w := h x x1 xN lx k hd f hp q q0 q1
  have e : (q < j ∨ (q = j ∧ True)) ↔ (q < j + 1 ∨ (q = j + 1 ∧ False)) := ⟨fun z => Or.inl (by rcases z with z | z <;> omega), fun z => by
    rcases z with z | z
    · rcases (by omega : q < j ∨ q = j) with y | y
      · exact Or.inl y
      · exact Or.inr ⟨y, trivial⟩
    · exact z.2.elim⟩
  have w1 : (q < j ∨ (q = j ∧ (fun _ : Int => True) x)) ↔ (q < j + 1 ∨ (q = j + 1 ∧ (fun _ : Int => False) x)) := e
  rw [← w1]
  exact w
theorem y_QD_m {σ τ : S0} (SD : y_SD σ τ) (e3 : τ.1 3 = σ.1 3) (e5 : τ.1 5 = σ.1 5) (e45 : τ.1 45 = σ.1 45) (e46 : τ.1 46 = σ.1 46) (e12 : τ.2.1 12 = σ.2.1 12) (e71 : τ.2.1 71 = σ.2.1 71) (e73 : τ.2.1 73 = σ.2.1 73) (hTT : y_TT τ τ (τ.1 5) (τ.1 5)) (hU : y_Un τ (τ.1 5) (τ.1 48) (τ.2.1 84)) (hS : y_so (σ.1 3) (σ.1 11) (σ.1 46) (σ.2.1 12) (σ.2.1 8) (σ.2.1 71))
    (ty : ∀ r : Int, 0 ≤ r → r < σ.1 5 → y_In σ r → (0 ≤ y_hd σ r ∧ y_hd σ r < σ.1 3 ∧ 0 ≤ σ.2.1 71 (y_hd σ r)) ∧ ∀ k : Int, 1 ≤ k → k ≤ y_nn σ r → y_f σ r k < 0 → 0 ≤ -2 - y_f σ r k ∧ -2 - y_f σ r k < σ.1 3) (lf : ∀ k : Int, 0 ≤ k → k < σ.1 45 → σ.2.1 73 k = -1 ∨ (0 ≤ σ.2.1 73 k ∧ ∃ t : Int, (0 ≤ t ∧ t < σ.1 3) ∧ σ.2.1 71 t = σ.2.1 73 k)) : y_QD τ := by
  obtain ⟨_, s2, s3, s4, s5, _, _⟩ := y_SD_e SD
  refine ⟨hTT, hU, ?_, ?_, ?_⟩
  · rw [e3, e46, e12, e71, SD.1, SD.2.1]; exact hS
  · rw [s2, s3, s4, s5, e3, e5, e71]; exact ty
  · rw [e3, e45, e71, e73]; exact lf
set_option maxHeartbeats 16000000 in
theorem K_X13_countWays {n1 : Int} {n2 : Int} {σ : S0} (hT : m_T σ) (p1 : -1 ≤ n1 ∧ n1 < (σ.1 46)) (p2 : 0 ≤ n2 ∧ n2 ≤ (σ.1 5)) (p3 : (σ.1 49) = 0 ∨ (y_TT σ σ (σ.1 5) (σ.1 5) ∧ y_Un σ (σ.1 5) (σ.1 48) (σ.2.1 84))) (p4 : y_so (σ.1 3) (σ.1 11) (σ.1 46) (σ.2.1 12) (σ.2.1 8) (σ.2.1 71)) (p5 : ∀ k : Int, 0 ≤ k → k < (σ.1 45) → σ.2.1 73 k = -1 ∨ (0 ≤ σ.2.1 73 k ∧ ∃ t : Int, (0 ≤ t ∧ t < (σ.1 3)) ∧ σ.2.1 71 t = σ.2.1 73 k)) (p6 : n_J σ) (p7 : m_J σ) : W_X13_countWays n1 n2 σ (fun (x : Int) (τ : S0) => (m_T τ) ∧ (y_QD τ) ∧ (¬ (τ.1 49) = 0) ∧ ((τ.1 50) = n2) ∧ (y_GD σ (τ.2.1 75) (τ.2.1 76) n2 (-1) (0)) ∧ (n1 = -1 ∨ (σ.1 45) = 0 → x = 0) ∧ (0 ≤ n1 → 0 < (σ.1 45) → x = τ.2.1 75 ((n1 * 61 + 0) * 61 + (σ.1 45)))) := by
  have A8 : ∀ j, 0 ≤ σ.2.1 8 j ∧ σ.2.1 8 j ≤ 1 := fun j => hT.2 8 j
  have A10 : ∀ j, (-1) ≤ σ.2.1 10 j ∧ σ.2.1 10 j ≤ 999 := fun j => hT.2 10 j
  have A11 : ∀ j, (-1) ≤ σ.2.1 11 j ∧ σ.2.1 11 j ≤ 1499 := fun j => hT.2 11 j
  have A12 : ∀ j, 0 ≤ σ.2.1 12 j ∧ σ.2.1 12 j ≤ 1 := fun j => hT.2 12 j
  have A13 : ∀ j, 0 ≤ σ.2.1 13 j ∧ σ.2.1 13 j ≤ 4 := fun j => hT.2 13 j
  have A14 : ∀ j, 0 ≤ σ.2.1 14 j ∧ σ.2.1 14 j ≤ 30000 := fun j => hT.2 14 j
  have A15 : ∀ j, 0 ≤ σ.2.1 15 j ∧ σ.2.1 15 j ≤ 300 := fun j => hT.2 15 j
  have A16 : ∀ j, 0 ≤ σ.2.1 16 j ∧ σ.2.1 16 j ≤ 999 := fun j => hT.2 16 j
  have A18 : ∀ j, 0 ≤ σ.2.1 18 j ∧ σ.2.1 18 j ≤ 90000 := fun j => hT.2 18 j
  have A19 : ∀ j, 0 ≤ σ.2.1 19 j ∧ σ.2.1 19 j ≤ 60 := fun j => hT.2 19 j
  have A20 : ∀ j, 0 ≤ σ.2.1 20 j ∧ σ.2.1 20 j ≤ 1499 := fun j => hT.2 20 j
  have A71 : ∀ j, (-1) ≤ σ.2.1 71 j ∧ σ.2.1 71 j ≤ 99 := fun j => hT.2 71 j
  have A72 : ∀ j, 0 ≤ σ.2.1 72 j ∧ σ.2.1 72 j ≤ 999 := fun j => hT.2 72 j
  have A73 : ∀ j, (-1) ≤ σ.2.1 73 j ∧ σ.2.1 73 j ≤ 99 := fun j => hT.2 73 j
  have A75 : ∀ j, 0 ≤ σ.2.1 75 j ∧ σ.2.1 75 j ≤ 3 := fun j => hT.2 75 j
  have A76 : ∀ j, (-1) ≤ σ.2.1 76 j ∧ σ.2.1 76 j ≤ 1499 := fun j => hT.2 76 j
  have A77 : ∀ j, (-1001) ≤ σ.2.1 77 j ∧ σ.2.1 77 j ≤ 999 := fun j => hT.2 77 j
  have A78 : ∀ j, (-1) ≤ σ.2.1 78 j ∧ σ.2.1 78 j ≤ 30001 := fun j => hT.2 78 j
  have A83 : ∀ j, 0 ≤ σ.2.1 83 j ∧ σ.2.1 83 j ≤ 1500 := fun j => hT.2 83 j
  have A21 : ∀ j, 0 ≤ σ.2.1 21 j ∧ σ.2.1 21 j ≤ 20000 := fun j => hT.2 21 j
  have A22 : ∀ j, 0 ≤ σ.2.1 22 j ∧ σ.2.1 22 j ≤ 20000 := fun j => hT.2 22 j
  have A25 : ∀ j, 0 ≤ σ.2.1 25 j ∧ σ.2.1 25 j ≤ 20000 := fun j => hT.2 25 j
  have A26 : ∀ j, 0 ≤ σ.2.1 26 j ∧ σ.2.1 26 j ≤ 20000 := fun j => hT.2 26 j
  have A28 : ∀ j, 0 ≤ σ.2.1 28 j ∧ σ.2.1 28 j ≤ 1 := fun j => hT.2 28 j
  have v3 : 0 ≤ σ.1 3 ∧ σ.1 3 ≤ 1000 := hT.1 3
  have v5 : 0 ≤ σ.1 5 ∧ σ.1 5 ≤ 1500 := hT.1 5
  have v6 : 0 ≤ σ.1 6 ∧ σ.1 6 ≤ 30000 := hT.1 6
  have v7 : 0 ≤ σ.1 7 ∧ σ.1 7 ≤ 90000 := hT.1 7
  have v8 : 0 ≤ σ.1 8 ∧ σ.1 8 ≤ 20000 := hT.1 8
  have v9 : 0 ≤ σ.1 9 ∧ σ.1 9 ≤ 20000 := hT.1 9
  have v11 : (-1) ≤ σ.1 11 ∧ σ.1 11 ≤ 999 := hT.1 11
  have v45 : 0 ≤ σ.1 45 ∧ σ.1 45 ≤ 59 := hT.1 45
  have v46 : 0 ≤ σ.1 46 ∧ σ.1 46 ≤ 100 := hT.1 46
  have v47 : 0 ≤ σ.1 47 ∧ σ.1 47 ≤ 30001 := hT.1 47
  have v48 : 0 ≤ σ.1 48 ∧ σ.1 48 ≤ 1500 := hT.1 48
  have v49 : 0 ≤ σ.1 49 ∧ σ.1 49 ≤ 1 := hT.1 49
  have v50 : 0 ≤ σ.1 50 ∧ σ.1 50 ≤ 1500 := hT.1 50
  have W3 : σ.1 3 = σ.1 3 := rfl
  have W5 : σ.1 5 = σ.1 5 := rfl
  have W6 : σ.1 6 = σ.1 6 := rfl
  have W7 : σ.1 7 = σ.1 7 := rfl
  have W8 : σ.1 8 = σ.1 8 := rfl
  have W9 : σ.1 9 = σ.1 9 := rfl
  have W11 : σ.1 11 = σ.1 11 := rfl
  have W45 : σ.1 45 = σ.1 45 := rfl
  have W46 : σ.1 46 = σ.1 46 := rfl
  have G8 : σ.2.1 8 = σ.2.1 8 := rfl
  have G10 : σ.2.1 10 = σ.2.1 10 := rfl
  have G11 : σ.2.1 11 = σ.2.1 11 := rfl
  have G12 : σ.2.1 12 = σ.2.1 12 := rfl
  have G13 : σ.2.1 13 = σ.2.1 13 := rfl
  have G14 : σ.2.1 14 = σ.2.1 14 := rfl
  have G15 : σ.2.1 15 = σ.2.1 15 := rfl
  have G16 : σ.2.1 16 = σ.2.1 16 := rfl
  have G18 : σ.2.1 18 = σ.2.1 18 := rfl
  have G19 : σ.2.1 19 = σ.2.1 19 := rfl
  have G20 : σ.2.1 20 = σ.2.1 20 := rfl
  have G71 : σ.2.1 71 = σ.2.1 71 := rfl
  have G72 : σ.2.1 72 = σ.2.1 72 := rfl
  have G73 : σ.2.1 73 = σ.2.1 73 := rfl
  have G21 : σ.2.1 21 = σ.2.1 21 := rfl
  have G22 : σ.2.1 22 = σ.2.1 22 := rfl
  have G25 : σ.2.1 25 = σ.2.1 25 := rfl
  have G26 : σ.2.1 26 = σ.2.1 26 := rfl
  have G28 : σ.2.1 28 = σ.2.1 28 := rfl
  intro P18 P29 P70 P134 P141 P172 P192 h18 h29 h70 h134 h141 h172 h192
  have inj := p4.2
  have soS := y_soS p4
  have hTσ := hT
  have ty := y_tyJ p6 hT p4
  have l59 : σ.1 45 ≤ 59 := v45.2
  have QD0 : ¬ σ.1 49 = 0 → y_QD (s_v σ 50 n2) := fun z => by (have w := p3.resolve_left z; exact y_QD_m (σ := σ) (τ := s_v σ 50 n2) ⟨rfl, rfl, rfl, rfl, rfl, rfl, rfl, rfl, rfl, rfl⟩ rfl rfl rfl rfl rfl rfl rfl w.1 w.2 p4 ty p5)
  have l_134 : ∀ (m_134 : Nat) (u3_134 : Int) (τ_134 : S0), u3_134 + 1 < (m_134 : Int) → (m_T τ_134) → (τ_134.1 3 = σ.1 3) → (τ_134.1 5 = σ.1 5) → (τ_134.1 6 = σ.1 6) → (τ_134.1 7 = σ.1 7) → (τ_134.1 8 = σ.1 8) → (τ_134.1 9 = σ.1 9) → (τ_134.1 11 = σ.1 11) → (τ_134.1 45 = σ.1 45) → (τ_134.1 46 = σ.1 46) → (τ_134.2.1 8 = σ.2.1 8) → (τ_134.2.1 10 = σ.2.1 10) → (τ_134.2.1 11 = σ.2.1 11) → (τ_134.2.1 12 = σ.2.1 12) → (τ_134.2.1 13 = σ.2.1 13) → (τ_134.2.1 14 = σ.2.1 14) → (τ_134.2.1 15 = σ.2.1 15) → (τ_134.2.1 16 = σ.2.1 16) → (τ_134.2.1 18 = σ.2.1 18) → (τ_134.2.1 19 = σ.2.1 19) → (τ_134.2.1 20 = σ.2.1 20) → (τ_134.2.1 71 = σ.2.1 71) → (τ_134.2.1 72 = σ.2.1 72) → (τ_134.2.1 73 = σ.2.1 73) → (τ_134.2.1 21 = σ.2.1 21) → (τ_134.2.1 22 = σ.2.1 22) → (τ_134.2.1 25 = σ.2.1 25) → (τ_134.2.1 26 = σ.2.1 26) → (τ_134.2.1 28 = σ.2.1 28) → (-1 ≤ u3_134 ∧ u3_134 < (σ.1 45) ∨ (u3_134 = -1)) → (y_QD τ_134) → (¬ (τ_134.1 49) = 0) → ((τ_134.1 50) = n2) → (y_GD σ (τ_134.2.1 75) (τ_134.2.1 76) n2 (u3_134) (0)) → (y_St (σ.1 3) (σ.1 45) (u3_134) (u3_134) (σ.2.1 71) (y_W1 (σ.1 3) (σ.2.1 71) (τ_134.2.1 75)) (y_W2 (σ.1 3) (σ.2.1 71) (τ_134.2.1 75)) (τ_134.2.2 3) (τ_134.2.2 4)) → P134 n1 n2 u3_134 τ_134 := by
    intro m_134
    induction m_134 with
    | zero =>
      intro u3_134 τ_134 hm hT W3 W5 W6 W7 W8 W9 W11 W45 W46 G8 G10 G11 G12 G13 G14 G15 G16 G18 G19 G20 G71 G72 G73 G21 G22 G25 G26 G28 i134_1 i134_2 i134_3 i134_4 i134_5 i134_6
      have A8 : ∀ j, 0 ≤ τ_134.2.1 8 j ∧ τ_134.2.1 8 j ≤ 1 := fun j => hT.2 8 j
      have A10 : ∀ j, (-1) ≤ τ_134.2.1 10 j ∧ τ_134.2.1 10 j ≤ 999 := fun j => hT.2 10 j
      have A11 : ∀ j, (-1) ≤ τ_134.2.1 11 j ∧ τ_134.2.1 11 j ≤ 1499 := fun j => hT.2 11 j
      have A12 : ∀ j, 0 ≤ τ_134.2.1 12 j ∧ τ_134.2.1 12 j ≤ 1 := fun j => hT.2 12 j
      have A13 : ∀ j, 0 ≤ τ_134.2.1 13 j ∧ τ_134.2.1 13 j ≤ 4 := fun j => hT.2 13 j
      have A14 : ∀ j, 0 ≤ τ_134.2.1 14 j ∧ τ_134.2.1 14 j ≤ 30000 := fun j => hT.2 14 j
      have A15 : ∀ j, 0 ≤ τ_134.2.1 15 j ∧ τ_134.2.1 15 j ≤ 300 := fun j => hT.2 15 j
      have A16 : ∀ j, 0 ≤ τ_134.2.1 16 j ∧ τ_134.2.1 16 j ≤ 999 := fun j => hT.2 16 j
      have A18 : ∀ j, 0 ≤ τ_134.2.1 18 j ∧ τ_134.2.1 18 j ≤ 90000 := fun j => hT.2 18 j
      have A19 : ∀ j, 0 ≤ τ_134.2.1 19 j ∧ τ_134.2.1 19 j ≤ 60 := fun j => hT.2 19 j
      have A20 : ∀ j, 0 ≤ τ_134.2.1 20 j ∧ τ_134.2.1 20 j ≤ 1499 := fun j => hT.2 20 j
      have A71 : ∀ j, (-1) ≤ τ_134.2.1 71 j ∧ τ_134.2.1 71 j ≤ 99 := fun j => hT.2 71 j
      have A72 : ∀ j, 0 ≤ τ_134.2.1 72 j ∧ τ_134.2.1 72 j ≤ 999 := fun j => hT.2 72 j
      have A73 : ∀ j, (-1) ≤ τ_134.2.1 73 j ∧ τ_134.2.1 73 j ≤ 99 := fun j => hT.2 73 j
      have A75 : ∀ j, 0 ≤ τ_134.2.1 75 j ∧ τ_134.2.1 75 j ≤ 3 := fun j => hT.2 75 j
      have A76 : ∀ j, (-1) ≤ τ_134.2.1 76 j ∧ τ_134.2.1 76 j ≤ 1499 := fun j => hT.2 76 j
      have A77 : ∀ j, (-1001) ≤ τ_134.2.1 77 j ∧ τ_134.2.1 77 j ≤ 999 := fun j => hT.2 77 j
      have A78 : ∀ j, (-1) ≤ τ_134.2.1 78 j ∧ τ_134.2.1 78 j ≤ 30001 := fun j => hT.2 78 j
      have A83 : ∀ j, 0 ≤ τ_134.2.1 83 j ∧ τ_134.2.1 83 j ≤ 1500 := fun j => hT.2 83 j
      have A21 : ∀ j, 0 ≤ τ_134.2.1 21 j ∧ τ_134.2.1 21 j ≤ 20000 := fun j => hT.2 21 j
      have A22 : ∀ j, 0 ≤ τ_134.2.1 22 j ∧ τ_134.2.1 22 j ≤ 20000 := fun j => hT.2 22 j
      have A25 : ∀ j, 0 ≤ τ_134.2.1 25 j ∧ τ_134.2.1 25 j ≤ 20000 := fun j => hT.2 25 j
      have A26 : ∀ j, 0 ≤ τ_134.2.1 26 j ∧ τ_134.2.1 26 j ≤ 20000 := fun j => hT.2 26 j
      have A28 : ∀ j, 0 ≤ τ_134.2.1 28 j ∧ τ_134.2.1 28 j ≤ 1 := fun j => hT.2 28 j
      have v3 : 0 ≤ τ_134.1 3 ∧ τ_134.1 3 ≤ 1000 := hT.1 3
      have v5 : 0 ≤ τ_134.1 5 ∧ τ_134.1 5 ≤ 1500 := hT.1 5
      have v6 : 0 ≤ τ_134.1 6 ∧ τ_134.1 6 ≤ 30000 := hT.1 6
      have v7 : 0 ≤ τ_134.1 7 ∧ τ_134.1 7 ≤ 90000 := hT.1 7
      have v8 : 0 ≤ τ_134.1 8 ∧ τ_134.1 8 ≤ 20000 := hT.1 8
      have v9 : 0 ≤ τ_134.1 9 ∧ τ_134.1 9 ≤ 20000 := hT.1 9
      have v11 : (-1) ≤ τ_134.1 11 ∧ τ_134.1 11 ≤ 999 := hT.1 11
      have v45 : 0 ≤ τ_134.1 45 ∧ τ_134.1 45 ≤ 59 := hT.1 45
      have v46 : 0 ≤ τ_134.1 46 ∧ τ_134.1 46 ≤ 100 := hT.1 46
      have v47 : 0 ≤ τ_134.1 47 ∧ τ_134.1 47 ≤ 30001 := hT.1 47
      have v48 : 0 ≤ τ_134.1 48 ∧ τ_134.1 48 ≤ 1500 := hT.1 48
      have v49 : 0 ≤ τ_134.1 49 ∧ τ_134.1 49 ≤ 1 := hT.1 49
      have v50 : 0 ≤ τ_134.1 50 ∧ τ_134.1 50 ≤ 1500 := hT.1 50
      exfalso; (first | omega | (simp only [st_s] <;> omega) | assumption | omega | fail)
    | succ m_134 ih_134 =>
      intro u3_134 τ_134 hm_134 hT W3 W5 W6 W7 W8 W9 W11 W45 W46 G8 G10 G11 G12 G13 G14 G15 G16 G18 G19 G20 G71 G72 G73 G21 G22 G25 G26 G28 i134_1 i134_2 i134_3 i134_4 i134_5 i134_6
      have A8 : ∀ j, 0 ≤ τ_134.2.1 8 j ∧ τ_134.2.1 8 j ≤ 1 := fun j => hT.2 8 j
      have A10 : ∀ j, (-1) ≤ τ_134.2.1 10 j ∧ τ_134.2.1 10 j ≤ 999 := fun j => hT.2 10 j
      have A11 : ∀ j, (-1) ≤ τ_134.2.1 11 j ∧ τ_134.2.1 11 j ≤ 1499 := fun j => hT.2 11 j
      have A12 : ∀ j, 0 ≤ τ_134.2.1 12 j ∧ τ_134.2.1 12 j ≤ 1 := fun j => hT.2 12 j
      have A13 : ∀ j, 0 ≤ τ_134.2.1 13 j ∧ τ_134.2.1 13 j ≤ 4 := fun j => hT.2 13 j
      have A14 : ∀ j, 0 ≤ τ_134.2.1 14 j ∧ τ_134.2.1 14 j ≤ 30000 := fun j => hT.2 14 j
      have A15 : ∀ j, 0 ≤ τ_134.2.1 15 j ∧ τ_134.2.1 15 j ≤ 300 := fun j => hT.2 15 j
      have A16 : ∀ j, 0 ≤ τ_134.2.1 16 j ∧ τ_134.2.1 16 j ≤ 999 := fun j => hT.2 16 j
      have A18 : ∀ j, 0 ≤ τ_134.2.1 18 j ∧ τ_134.2.1 18 j ≤ 90000 := fun j => hT.2 18 j
      have A19 : ∀ j, 0 ≤ τ_134.2.1 19 j ∧ τ_134.2.1 19 j ≤ 60 := fun j => hT.2 19 j
      have A20 : ∀ j, 0 ≤ τ_134.2.1 20 j ∧ τ_134.2.1 20 j ≤ 1499 := fun j => hT.2 20 j
      have A71 : ∀ j, (-1) ≤ τ_134.2.1 71 j ∧ τ_134.2.1 71 j ≤ 99 := fun j => hT.2 71 j
      have A72 : ∀ j, 0 ≤ τ_134.2.1 72 j ∧ τ_134.2.1 72 j ≤ 999 := fun j => hT.2 72 j
      have A73 : ∀ j, (-1) ≤ τ_134.2.1 73 j ∧ τ_134.2.1 73 j ≤ 99 := fun j => hT.2 73 j
      have A75 : ∀ j, 0 ≤ τ_134.2.1 75 j ∧ τ_134.2.1 75 j ≤ 3 := fun j => hT.2 75 j
      have A76 : ∀ j, (-1) ≤ τ_134.2.1 76 j ∧ τ_134.2.1 76 j ≤ 1499 := fun j => hT.2 76 j
      have A77 : ∀ j, (-1001) ≤ τ_134.2.1 77 j ∧ τ_134.2.1 77 j ≤ 999 := fun j => hT.2 77 j
      have A78 : ∀ j, (-1) ≤ τ_134.2.1 78 j ∧ τ_134.2.1 78 j ≤ 30001 := fun j => hT.2 78 j
      have A83 : ∀ j, 0 ≤ τ_134.2.1 83 j ∧ τ_134.2.1 83 j ≤ 1500 := fun j => hT.2 83 j
      have A21 : ∀ j, 0 ≤ τ_134.2.1 21 j ∧ τ_134.2.1 21 j ≤ 20000 := fun j => hT.2 21 j
      have A22 : ∀ j, 0 ≤ τ_134.2.1 22 j ∧ τ_134.2.1 22 j ≤ 20000 := fun j => hT.2 22 j
      have A25 : ∀ j, 0 ≤ τ_134.2.1 25 j ∧ τ_134.2.1 25 j ≤ 20000 := fun j => hT.2 25 j
      have A26 : ∀ j, 0 ≤ τ_134.2.1 26 j ∧ τ_134.2.1 26 j ≤ 20000 := fun j => hT.2 26 j
      have A28 : ∀ j, 0 ≤ τ_134.2.1 28 j ∧ τ_134.2.1 28 j ≤ 1 := fun j => hT.2 28 j
      have v3 : 0 ≤ τ_134.1 3 ∧ τ_134.1 3 ≤ 1000 := hT.1 3
      have v5 : 0 ≤ τ_134.1 5 ∧ τ_134.1 5 ≤ 1500 := hT.1 5
      have v6 : 0 ≤ τ_134.1 6 ∧ τ_134.1 6 ≤ 30000 := hT.1 6
      have v7 : 0 ≤ τ_134.1 7 ∧ τ_134.1 7 ≤ 90000 := hT.1 7
      have v8 : 0 ≤ τ_134.1 8 ∧ τ_134.1 8 ≤ 20000 := hT.1 8
      have v9 : 0 ≤ τ_134.1 9 ∧ τ_134.1 9 ≤ 20000 := hT.1 9
      have v11 : (-1) ≤ τ_134.1 11 ∧ τ_134.1 11 ≤ 999 := hT.1 11
      have v45 : 0 ≤ τ_134.1 45 ∧ τ_134.1 45 ≤ 59 := hT.1 45
      have v46 : 0 ≤ τ_134.1 46 ∧ τ_134.1 46 ≤ 100 := hT.1 46
      have v47 : 0 ≤ τ_134.1 47 ∧ τ_134.1 47 ≤ 30001 := hT.1 47
      have v48 : 0 ≤ τ_134.1 48 ∧ τ_134.1 48 ≤ 1500 := hT.1 48
      have v49 : 0 ≤ τ_134.1 49 ∧ τ_134.1 49 ≤ 1 := hT.1 49
      have v50 : 0 ≤ τ_134.1 50 ∧ τ_134.1 50 ≤ 1500 := hT.1 50
      have l_192 : ∀ (m_192 : Nat) (u3_192 : Int) (u4_192 : Int) (τ_192 : S0), 61 - u4_192 < (m_192 : Int) → (m_T τ_192) → (τ_192.1 3 = σ.1 3) → (τ_192.1 5 = σ.1 5) → (τ_192.1 6 = σ.1 6) → (τ_192.1 7 = σ.1 7) → (τ_192.1 8 = σ.1 8) → (τ_192.1 9 = σ.1 9) → (τ_192.1 11 = σ.1 11) → (τ_192.1 45 = σ.1 45) → (τ_192.1 46 = σ.1 46) → (τ_192.2.1 8 = σ.2.1 8) → (τ_192.2.1 10 = σ.2.1 10) → (τ_192.2.1 11 = σ.2.1 11) → (τ_192.2.1 12 = σ.2.1 12) → (τ_192.2.1 13 = σ.2.1 13) → (τ_192.2.1 14 = σ.2.1 14) → (τ_192.2.1 15 = σ.2.1 15) → (τ_192.2.1 16 = σ.2.1 16) → (τ_192.2.1 18 = σ.2.1 18) → (τ_192.2.1 19 = σ.2.1 19) → (τ_192.2.1 20 = σ.2.1 20) → (τ_192.2.1 71 = σ.2.1 71) → (τ_192.2.1 72 = σ.2.1 72) → (τ_192.2.1 73 = σ.2.1 73) → (τ_192.2.1 21 = σ.2.1 21) → (τ_192.2.1 22 = σ.2.1 22) → (τ_192.2.1 25 = σ.2.1 25) → (τ_192.2.1 26 = σ.2.1 26) → (τ_192.2.1 28 = σ.2.1 28) → (0 ≤ u3_192 ∧ u3_192 < (σ.1 45)) → (u3_192 < u4_192 ∧ u4_192 ≤ 60 ∧ u4_192 ≤ (σ.1 45) + 1) → (y_QD τ_192) → (¬ (τ_192.1 49) = 0) → ((τ_192.1 50) = n2) → (y_GD σ (τ_192.2.1 75) (τ_192.2.1 76) n2 (u3_192) (u4_192)) → (y_St (σ.1 3) (σ.1 45) (u3_192) (u4_192 - 1) (σ.2.1 71) (y_W1 (σ.1 3) (σ.2.1 71) (τ_192.2.1 75)) (y_W2 (σ.1 3) (σ.2.1 71) (τ_192.2.1 75)) (τ_192.2.2 3) (τ_192.2.2 4)) → (y_Fr (τ_192.1 47) n2 (u3_192) (u4_192) (fun _ => False) (σ.2.1 72) (y_W1 (σ.1 3) (σ.2.1 71) (τ_192.2.1 75)) (y_W2 (σ.1 3) (σ.2.1 71) (τ_192.2.1 75)) (τ_192.2.1 78) (τ_192.2.1 77) (τ_192.2.1 83) (τ_192.2.2 5) (τ_192.2.2 6)) → (u3_192 < (m_134 : Int)) → P192 n1 n2 u3_192 u4_192 τ_192 := by
        intro m_192
        induction m_192 with
        | zero =>
          intro u3_192 u4_192 τ_192 hm hT W3 W5 W6 W7 W8 W9 W11 W45 W46 G8 G10 G11 G12 G13 G14 G15 G16 G18 G19 G20 G71 G72 G73 G21 G22 G25 G26 G28 i192_1 i192_2 i192_3 i192_4 i192_5 i192_6 i192_7 i192_8 i192_9
          have A8 : ∀ j, 0 ≤ τ_192.2.1 8 j ∧ τ_192.2.1 8 j ≤ 1 := fun j => hT.2 8 j
          have A10 : ∀ j, (-1) ≤ τ_192.2.1 10 j ∧ τ_192.2.1 10 j ≤ 999 := fun j => hT.2 10 j
          have A11 : ∀ j, (-1) ≤ τ_192.2.1 11 j ∧ τ_192.2.1 11 j ≤ 1499 := fun j => hT.2 11 j
          have A12 : ∀ j, 0 ≤ τ_192.2.1 12 j ∧ τ_192.2.1 12 j ≤ 1 := fun j => hT.2 12 j
          have A13 : ∀ j, 0 ≤ τ_192.2.1 13 j ∧ τ_192.2.1 13 j ≤ 4 := fun j => hT.2 13 j
          have A14 : ∀ j, 0 ≤ τ_192.2.1 14 j ∧ τ_192.2.1 14 j ≤ 30000 := fun j => hT.2 14 j
          have A15 : ∀ j, 0 ≤ τ_192.2.1 15 j ∧ τ_192.2.1 15 j ≤ 300 := fun j => hT.2 15 j
          have A16 : ∀ j, 0 ≤ τ_192.2.1 16 j ∧ τ_192.2.1 16 j ≤ 999 := fun j => hT.2 16 j
          have A18 : ∀ j, 0 ≤ τ_192.2.1 18 j ∧ τ_192.2.1 18 j ≤ 90000 := fun j => hT.2 18 j
          have A19 : ∀ j, 0 ≤ τ_192.2.1 19 j ∧ τ_192.2.1 19 j ≤ 60 := fun j => hT.2 19 j
          have A20 : ∀ j, 0 ≤ τ_192.2.1 20 j ∧ τ_192.2.1 20 j ≤ 1499 := fun j => hT.2 20 j
          have A71 : ∀ j, (-1) ≤ τ_192.2.1 71 j ∧ τ_192.2.1 71 j ≤ 99 := fun j => hT.2 71 j
          have A72 : ∀ j, 0 ≤ τ_192.2.1 72 j ∧ τ_192.2.1 72 j ≤ 999 := fun j => hT.2 72 j
          have A73 : ∀ j, (-1) ≤ τ_192.2.1 73 j ∧ τ_192.2.1 73 j ≤ 99 := fun j => hT.2 73 j
          have A75 : ∀ j, 0 ≤ τ_192.2.1 75 j ∧ τ_192.2.1 75 j ≤ 3 := fun j => hT.2 75 j
          have A76 : ∀ j, (-1) ≤ τ_192.2.1 76 j ∧ τ_192.2.1 76 j ≤ 1499 := fun j => hT.2 76 j
          have A77 : ∀ j, (-1001) ≤ τ_192.2.1 77 j ∧ τ_192.2.1 77 j ≤ 999 := fun j => hT.2 77 j
          have A78 : ∀ j, (-1) ≤ τ_192.2.1 78 j ∧ τ_192.2.1 78 j ≤ 30001 := fun j => hT.2 78 j
          have A83 : ∀ j, 0 ≤ τ_192.2.1 83 j ∧ τ_192.2.1 83 j ≤ 1500 := fun j => hT.2 83 j
          have A21 : ∀ j, 0 ≤ τ_192.2.1 21 j ∧ τ_192.2.1 21 j ≤ 20000 := fun j => hT.2 21 j
          have A22 : ∀ j, 0 ≤ τ_192.2.1 22 j ∧ τ_192.2.1 22 j ≤ 20000 := fun j => hT.2 22 j
          have A25 : ∀ j, 0 ≤ τ_192.2.1 25 j ∧ τ_192.2.1 25 j ≤ 20000 := fun j => hT.2 25 j
          have A26 : ∀ j, 0 ≤ τ_192.2.1 26 j ∧ τ_192.2.1 26 j ≤ 20000 := fun j => hT.2 26 j
          have A28 : ∀ j, 0 ≤ τ_192.2.1 28 j ∧ τ_192.2.1 28 j ≤ 1 := fun j => hT.2 28 j
          have v3 : 0 ≤ τ_192.1 3 ∧ τ_192.1 3 ≤ 1000 := hT.1 3
          have v5 : 0 ≤ τ_192.1 5 ∧ τ_192.1 5 ≤ 1500 := hT.1 5
          have v6 : 0 ≤ τ_192.1 6 ∧ τ_192.1 6 ≤ 30000 := hT.1 6
          have v7 : 0 ≤ τ_192.1 7 ∧ τ_192.1 7 ≤ 90000 := hT.1 7
          have v8 : 0 ≤ τ_192.1 8 ∧ τ_192.1 8 ≤ 20000 := hT.1 8
          have v9 : 0 ≤ τ_192.1 9 ∧ τ_192.1 9 ≤ 20000 := hT.1 9
          have v11 : (-1) ≤ τ_192.1 11 ∧ τ_192.1 11 ≤ 999 := hT.1 11
          have v45 : 0 ≤ τ_192.1 45 ∧ τ_192.1 45 ≤ 59 := hT.1 45
          have v46 : 0 ≤ τ_192.1 46 ∧ τ_192.1 46 ≤ 100 := hT.1 46
          have v47 : 0 ≤ τ_192.1 47 ∧ τ_192.1 47 ≤ 30001 := hT.1 47
          have v48 : 0 ≤ τ_192.1 48 ∧ τ_192.1 48 ≤ 1500 := hT.1 48
          have v49 : 0 ≤ τ_192.1 49 ∧ τ_192.1 49 ≤ 1 := hT.1 49
          have v50 : 0 ≤ τ_192.1 50 ∧ τ_192.1 50 ≤ 1500 := hT.1 50
          exfalso; (first | omega | (simp only [st_s] <;> omega) | assumption | omega | fail)
        | succ m_192 ih_192 =>
          intro u3_192 u4_192 τ_192 hm_192 hT W3 W5 W6 W7 W8 W9 W11 W45 W46 G8 G10 G11 G12 G13 G14 G15 G16 G18 G19 G20 G71 G72 G73 G21 G22 G25 G26 G28 i192_1 i192_2 i192_3 i192_4 i192_5 i192_6 i192_7 i192_8 i192_9
          have A8 : ∀ j, 0 ≤ τ_192.2.1 8 j ∧ τ_192.2.1 8 j ≤ 1 := fun j => hT.2 8 j
          have A10 : ∀ j, (-1) ≤ τ_192.2.1 10 j ∧ τ_192.2.1 10 j ≤ 999 := fun j => hT.2 10 j
          have A11 : ∀ j, (-1) ≤ τ_192.2.1 11 j ∧ τ_192.2.1 11 j ≤ 1499 := fun j => hT.2 11 j
          have A12 : ∀ j, 0 ≤ τ_192.2.1 12 j ∧ τ_192.2.1 12 j ≤ 1 := fun j => hT.2 12 j
          have A13 : ∀ j, 0 ≤ τ_192.2.1 13 j ∧ τ_192.2.1 13 j ≤ 4 := fun j => hT.2 13 j
          have A14 : ∀ j, 0 ≤ τ_192.2.1 14 j ∧ τ_192.2.1 14 j ≤ 30000 := fun j => hT.2 14 j
          have A15 : ∀ j, 0 ≤ τ_192.2.1 15 j ∧ τ_192.2.1 15 j ≤ 300 := fun j => hT.2 15 j
          have A16 : ∀ j, 0 ≤ τ_192.2.1 16 j ∧ τ_192.2.1 16 j ≤ 999 := fun j => hT.2 16 j
          have A18 : ∀ j, 0 ≤ τ_192.2.1 18 j ∧ τ_192.2.1 18 j ≤ 90000 := fun j => hT.2 18 j
          have A19 : ∀ j, 0 ≤ τ_192.2.1 19 j ∧ τ_192.2.1 19 j ≤ 60 := fun j => hT.2 19 j
          have A20 : ∀ j, 0 ≤ τ_192.2.1 20 j ∧ τ_192.2.1 20 j ≤ 1499 := fun j => hT.2 20 j
          have A71 : ∀ j, (-1) ≤ τ_192.2.1 71 j ∧ τ_192.2.1 71 j ≤ 99 := fun j => hT.2 71 j
          have A72 : ∀ j, 0 ≤ τ_192.2.1 72 j ∧ τ_192.2.1 72 j ≤ 999 := fun j => hT.2 72 j
          have A73 : ∀ j, (-1) ≤ τ_192.2.1 73 j ∧ τ_192.2.1 73 j ≤ 99 := fun j => hT.2 73 j
          have A75 : ∀ j, 0 ≤ τ_192.2.1 75 j ∧ τ_192.2.1 75 j ≤ 3 := fun j => hT.2 75 j
          have A76 : ∀ j, (-1) ≤ τ_192.2.1 76 j ∧ τ_192.2.1 76 j ≤ 1499 := fun j => hT.2 76 j
          have A77 : ∀ j, (-1001) ≤ τ_192.2.1 77 j ∧ τ_192.2.1 77 j ≤ 999 := fun j => hT.2 77 j
          have A78 : ∀ j, (-1) ≤ τ_192.2.1 78 j ∧ τ_192.2.1 78 j ≤ 30001 := fun j => hT.2 78 j
          have A83 : ∀ j, 0 ≤ τ_192.2.1 83 j ∧ τ_192.2.1 83 j ≤ 1500 := fun j => hT.2 83 j
          have A21 : ∀ j, 0 ≤ τ_192.2.1 21 j ∧ τ_192.2.1 21 j ≤ 20000 := fun j => hT.2 21 j
          have A22 : ∀ j, 0 ≤ τ_192.2.1 22 j ∧ τ_192.2.1 22 j ≤ 20000 := fun j => hT.2 22 j
          have A25 : ∀ j, 0 ≤ τ_192.2.1 25 j ∧ τ_192.2.1 25 j ≤ 20000 := fun j => hT.2 25 j
          have A26 : ∀ j, 0 ≤ τ_192.2.1 26 j ∧ τ_192.2.1 26 j ≤ 20000 := fun j => hT.2 26 j
          have A28 : ∀ j, 0 ≤ τ_192.2.1 28 j ∧ τ_192.2.1 28 j ≤ 1 := fun j => hT.2 28 j
          have v3 : 0 ≤ τ_192.1 3 ∧ τ_192.1 3 ≤ 1000 := hT.1 3
          have v5 : 0 ≤ τ_192.1 5 ∧ τ_192.1 5 ≤ 1500 := hT.1 5
          have v6 : 0 ≤ τ_192.1 6 ∧ τ_192.1 6 ≤ 30000 := hT.1 6
          have v7 : 0 ≤ τ_192.1 7 ∧ τ_192.1 7 ≤ 90000 := hT.1 7
          have v8 : 0 ≤ τ_192.1 8 ∧ τ_192.1 8 ≤ 20000 := hT.1 8
          have v9 : 0 ≤ τ_192.1 9 ∧ τ_192.1 9 ≤ 20000 := hT.1 9
          have v11 : (-1) ≤ τ_192.1 11 ∧ τ_192.1 11 ≤ 999 := hT.1 11
          have v45 : 0 ≤ τ_192.1 45 ∧ τ_192.1 45 ≤ 59 := hT.1 45
          have v46 : 0 ≤ τ_192.1 46 ∧ τ_192.1 46 ≤ 100 := hT.1 46
          have v47 : 0 ≤ τ_192.1 47 ∧ τ_192.1 47 ≤ 30001 := hT.1 47
          have v48 : 0 ≤ τ_192.1 48 ∧ τ_192.1 48 ≤ 1500 := hT.1 48
          have v49 : 0 ≤ τ_192.1 49 ∧ τ_192.1 49 ≤ 1 := hT.1 49
          have v50 : 0 ≤ τ_192.1 50 ∧ τ_192.1 50 ≤ 1500 := hT.1 50
          refine h192 n1 n2 u3_192 u4_192 τ_192 ?_
          refine ⟨fun c36 => ?_, fun c36 => ?_⟩
          ·
            refine ⟨(⟨by (first | omega | (simp only [st_s] <;> omega) | assumption | omega | fail), by (first | omega | (simp only [st_s] <;> omega) | assumption | omega | fail)⟩ : rg (u3_192 + (-1))), ?_⟩
            exact ih_134 _ _ (show ((u3_192 + (-1)) + 1 : Int) < ((m_134 : Nat) : Int) from by ((first | omega | (simp only [st_s] <;> omega) | assumption | omega | fail))) hT (show τ_192.1 3 = σ.1 3 from by first | exact W3 | omega) (show τ_192.1 5 = σ.1 5 from by first | exact W5 | omega) (show τ_192.1 6 = σ.1 6 from by first | exact W6 | omega) (show τ_192.1 7 = σ.1 7 from by first | exact W7 | omega) (show τ_192.1 8 = σ.1 8 from by first | exact W8 | omega) (show τ_192.1 9 = σ.1 9 from by first | exact W9 | omega) (show τ_192.1 11 = σ.1 11 from by first | exact W11 | omega) (show τ_192.1 45 = σ.1 45 from by first | exact W45 | omega) (show τ_192.1 46 = σ.1 46 from by first | exact W46 | omega) G8 G10 G11 G12 G13 G14 G15 G16 G18 G19 G20 G71 G72 G73 G21 G22 G25 G26 G28 (show -1 ≤ (u3_192 + (-1)) ∧ (u3_192 + (-1)) < (σ.1 45) ∨ ((u3_192 + (-1)) = -1) from by (first | omega | (simp only [st_s] <;> omega) | assumption | omega | fail)) (show y_QD τ_192 from by (first | exact i18_2 | exact i192_3 | fail)) (show ¬ (τ_192.1 49) = 0 from by (first | omega | (simp only [st_s] <;> omega) | assumption | omega | fail)) (show (τ_192.1 50) = n2 from by (first | omega | (simp only [st_s] <;> omega) | assumption | omega | fail)) (show y_GD σ (τ_192.2.1 75) (τ_192.2.1 76) n2 ((u3_192 + (-1))) (0) from by (first | exact ⟨⟨fun _ _ _ => 0, fun t p q a b c d => by exfalso; unfold y_dn at d; omega⟩, fun t p q x y z a b c d => by exfalso; unfold y_dn at d; omega, fun s p q x y a b c d => i18_5 s p q x (by omega) a b c (by omega)⟩ | exact y_GD_e i192_6 (fun p q a b c => by unfold y_dn; omega) | fail)) (show y_St (σ.1 3) (σ.1 45) ((u3_192 + (-1))) ((u3_192 + (-1))) (σ.2.1 71) (y_W1 (σ.1 3) (σ.2.1 71) (τ_192.2.1 75)) (y_W2 (σ.1 3) (σ.2.1 71) (τ_192.2.1 75)) (τ_192.2.2 3) (τ_192.2.2 4) from by (first | exact y_St_0 soS (fun s q a b c d => i18_6 s q a b c d (by omega)) (by omega) | exact y_St_e i192_7 (fun p q a b => by omega) | fail))
          ·
            have SD : y_SD σ τ_192 := ⟨W11, G8, G10, G13, G14, G15, G16, G18, G19, G20⟩
            have H3 := W3
            have H45 := W45
            have H46 := W46
            have H71 := G71
            have H72 := G72
            have H73 := G73
            refine ⟨_, K_X13_countStretch hT (show 0 ≤ u3_192 from by (first | omega | (simp only [st_s] <;> omega) | assumption | omega | fail)) (show u3_192 < u4_192 from by (first | omega | (simp only [st_s] <;> omega) | assumption | omega | fail)) (show u4_192 ≤ (τ_192.1 45) from by (first | omega | (simp only [st_s] <;> omega) | assumption | omega | fail)) (show 0 ≤ n2 ∧ n2 ≤ (τ_192.1 5) from by (first | omega | (simp only [st_s] <;> omega) | assumption | omega | fail)) (show y_QD τ_192 from by exact i192_3) (show ∀ s : Int, 0 ≤ s → s < (τ_192.1 46) → τ_192.2.1 75 ((s * 61 + u3_192) * 61 + u4_192) = 0 ∧ τ_192.2.1 76 ((s * 61 + u3_192) * 61 + u4_192) = -1 from by (rw [W46]; exact fun s a b => i192_6.2.2 s u3_192 u4_192 a b (by omega) (by omega) (by omega) (by unfold y_dn; omega))) (show y_Fr (τ_192.1 47) n2 u3_192 u4_192 (fun _ => False) (τ_192.2.1 72) (y_W1 (τ_192.1 3) (τ_192.2.1 71) (τ_192.2.1 75)) (y_W2 (τ_192.1 3) (τ_192.2.1 71) (τ_192.2.1 75)) (τ_192.2.1 78) (τ_192.2.1 77) (τ_192.2.1 83) (τ_192.2.2 5) (τ_192.2.2 6) from by (rw [G72, W3, G71]; exact i192_8)) (show y_St (τ_192.1 3) (τ_192.1 45) u3_192 (u4_192 - 1) (τ_192.2.1 71) (y_W1 (τ_192.1 3) (τ_192.2.1 71) (τ_192.2.1 75)) (y_W2 (τ_192.1 3) (τ_192.2.1 71) (τ_192.2.1 75)) (τ_192.2.2 3) (τ_192.2.2 4) from by (rw [W3, W45, G71]; exact i192_7)), ?_⟩
            intro τ40 hn_τ40 hf_τ40 hq
            obtain ⟨hT, q38_1, q38_2, q38_3⟩ := hq
            replace q38_1 : y_CS τ_192 (τ40.2.1 75) (τ40.2.1 76) u3_192 u4_192 n2 := q38_1
            replace q38_2 : y_Fr (τ_192.1 47) n2 u3_192 u4_192 (fun _ => True) (τ_192.2.1 72) (y_W1 (τ_192.1 3) (τ_192.2.1 71) (τ40.2.1 75)) (y_W2 (τ_192.1 3) (τ_192.2.1 71) (τ40.2.1 75)) (τ_192.2.1 78) (τ_192.2.1 77) (τ_192.2.1 83) (τ40.2.2 5) (τ40.2.2 6) := q38_2
            replace q38_3 : y_St (τ_192.1 3) (τ_192.1 45) u3_192 (u4_192) (τ_192.2.1 71) (y_W1 (τ_192.1 3) (τ_192.2.1 71) (τ40.2.1 75)) (y_W2 (τ_192.1 3) (τ_192.2.1 71) (τ40.2.1 75)) (τ40.2.2 3) (τ40.2.2 4) := q38_3
            have w3_τ40 : τ40.1 3 = τ_192.1 3 := hf_τ40.1 3 (by decide)
            have w5_τ40 : τ40.1 5 = τ_192.1 5 := hf_τ40.1 5 (by decide)
            have w6_τ40 : τ40.1 6 = τ_192.1 6 := hf_τ40.1 6 (by decide)
            have w7_τ40 : τ40.1 7 = τ_192.1 7 := hf_τ40.1 7 (by decide)
            have w8_τ40 : τ40.1 8 = τ_192.1 8 := hf_τ40.1 8 (by decide)
            have w9_τ40 : τ40.1 9 = τ_192.1 9 := hf_τ40.1 9 (by decide)
            have w11_τ40 : τ40.1 11 = τ_192.1 11 := hf_τ40.1 11 (by decide)
            have w45_τ40 : τ40.1 45 = τ_192.1 45 := hf_τ40.1 45 (by decide)
            have w46_τ40 : τ40.1 46 = τ_192.1 46 := hf_τ40.1 46 (by decide)
            have w47_τ40 : τ40.1 47 = τ_192.1 47 := hf_τ40.1 47 (by decide)
            have w48_τ40 : τ40.1 48 = τ_192.1 48 := hf_τ40.1 48 (by decide)
            have w49_τ40 : τ40.1 49 = τ_192.1 49 := hf_τ40.1 49 (by decide)
            have w50_τ40 : τ40.1 50 = τ_192.1 50 := hf_τ40.1 50 (by decide)
            have g8_τ40 : τ40.2.1 8 = τ_192.2.1 8 := hf_τ40.2.1 8 (by decide)
            have g10_τ40 : τ40.2.1 10 = τ_192.2.1 10 := hf_τ40.2.1 10 (by decide)
            have g11_τ40 : τ40.2.1 11 = τ_192.2.1 11 := hf_τ40.2.1 11 (by decide)
            have g12_τ40 : τ40.2.1 12 = τ_192.2.1 12 := hf_τ40.2.1 12 (by decide)
            have g13_τ40 : τ40.2.1 13 = τ_192.2.1 13 := hf_τ40.2.1 13 (by decide)
            have g14_τ40 : τ40.2.1 14 = τ_192.2.1 14 := hf_τ40.2.1 14 (by decide)
            have g15_τ40 : τ40.2.1 15 = τ_192.2.1 15 := hf_τ40.2.1 15 (by decide)
            have g16_τ40 : τ40.2.1 16 = τ_192.2.1 16 := hf_τ40.2.1 16 (by decide)
            have g18_τ40 : τ40.2.1 18 = τ_192.2.1 18 := hf_τ40.2.1 18 (by decide)
            have g19_τ40 : τ40.2.1 19 = τ_192.2.1 19 := hf_τ40.2.1 19 (by decide)
            have g20_τ40 : τ40.2.1 20 = τ_192.2.1 20 := hf_τ40.2.1 20 (by decide)
            have g71_τ40 : τ40.2.1 71 = τ_192.2.1 71 := hf_τ40.2.1 71 (by decide)
            have g72_τ40 : τ40.2.1 72 = τ_192.2.1 72 := hf_τ40.2.1 72 (by decide)
            have g73_τ40 : τ40.2.1 73 = τ_192.2.1 73 := hf_τ40.2.1 73 (by decide)
            have g77_τ40 : τ40.2.1 77 = τ_192.2.1 77 := hf_τ40.2.1 77 (by decide)
            have g78_τ40 : τ40.2.1 78 = τ_192.2.1 78 := hf_τ40.2.1 78 (by decide)
            have g83_τ40 : τ40.2.1 83 = τ_192.2.1 83 := hf_τ40.2.1 83 (by decide)
            have g21_τ40 : τ40.2.1 21 = τ_192.2.1 21 := hf_τ40.2.1 21 (by decide)
            have g22_τ40 : τ40.2.1 22 = τ_192.2.1 22 := hf_τ40.2.1 22 (by decide)
            have g25_τ40 : τ40.2.1 25 = τ_192.2.1 25 := hf_τ40.2.1 25 (by decide)
            have g26_τ40 : τ40.2.1 26 = τ_192.2.1 26 := hf_τ40.2.1 26 (by decide)
            have g28_τ40 : τ40.2.1 28 = τ_192.2.1 28 := hf_τ40.2.1 28 (by decide)
            have W3 : τ40.1 3 = σ.1 3 := by first | exact w3_τ40.trans W3 | omega
            have W5 : τ40.1 5 = σ.1 5 := by first | exact w5_τ40.trans W5 | omega
            have W6 : τ40.1 6 = σ.1 6 := by first | exact w6_τ40.trans W6 | omega
            have W7 : τ40.1 7 = σ.1 7 := by first | exact w7_τ40.trans W7 | omega
            have W8 : τ40.1 8 = σ.1 8 := by first | exact w8_τ40.trans W8 | omega
            have W9 : τ40.1 9 = σ.1 9 := by first | exact w9_τ40.trans W9 | omega
            have W11 : τ40.1 11 = σ.1 11 := by first | exact w11_τ40.trans W11 | omega
            have W45 : τ40.1 45 = σ.1 45 := by first | exact w45_τ40.trans W45 | omega
            have W46 : τ40.1 46 = σ.1 46 := by first | exact w46_τ40.trans W46 | omega
            have G8 : τ40.2.1 8 = σ.2.1 8 := (g8_τ40).trans G8
            have G10 : τ40.2.1 10 = σ.2.1 10 := (g10_τ40).trans G10
            have G11 : τ40.2.1 11 = σ.2.1 11 := (g11_τ40).trans G11
            have G12 : τ40.2.1 12 = σ.2.1 12 := (g12_τ40).trans G12
            have G13 : τ40.2.1 13 = σ.2.1 13 := (g13_τ40).trans G13
            have G14 : τ40.2.1 14 = σ.2.1 14 := (g14_τ40).trans G14
            have G15 : τ40.2.1 15 = σ.2.1 15 := (g15_τ40).trans G15
            have G16 : τ40.2.1 16 = σ.2.1 16 := (g16_τ40).trans G16
            have G18 : τ40.2.1 18 = σ.2.1 18 := (g18_τ40).trans G18
            have G19 : τ40.2.1 19 = σ.2.1 19 := (g19_τ40).trans G19
            have G20 : τ40.2.1 20 = σ.2.1 20 := (g20_τ40).trans G20
            have G71 : τ40.2.1 71 = σ.2.1 71 := (g71_τ40).trans G71
            have G72 : τ40.2.1 72 = σ.2.1 72 := (g72_τ40).trans G72
            have G73 : τ40.2.1 73 = σ.2.1 73 := (g73_τ40).trans G73
            have G21 : τ40.2.1 21 = σ.2.1 21 := (g21_τ40).trans G21
            have G22 : τ40.2.1 22 = σ.2.1 22 := (g22_τ40).trans G22
            have G25 : τ40.2.1 25 = σ.2.1 25 := (g25_τ40).trans G25
            have G26 : τ40.2.1 26 = σ.2.1 26 := (g26_τ40).trans G26
            have G28 : τ40.2.1 28 = σ.2.1 28 := (g28_τ40).trans G28
            have A8 : ∀ j, 0 ≤ τ40.2.1 8 j ∧ τ40.2.1 8 j ≤ 1 := fun j => hT.2 8 j
            have A10 : ∀ j, (-1) ≤ τ40.2.1 10 j ∧ τ40.2.1 10 j ≤ 999 := fun j => hT.2 10 j
            have A11 : ∀ j, (-1) ≤ τ40.2.1 11 j ∧ τ40.2.1 11 j ≤ 1499 := fun j => hT.2 11 j
            have A12 : ∀ j, 0 ≤ τ40.2.1 12 j ∧ τ40.2.1 12 j ≤ 1 := fun j => hT.2 12 j
            have A13 : ∀ j, 0 ≤ τ40.2.1 13 j ∧ τ40.2.1 13 j ≤ 4 := fun j => hT.2 13 j
            have A14 : ∀ j, 0 ≤ τ40.2.1 14 j ∧ τ40.2.1 14 j ≤ 30000 := fun j => hT.2 14 j
            have A15 : ∀ j, 0 ≤ τ40.2.1 15 j ∧ τ40.2.1 15 j ≤ 300 := fun j => hT.2 15 j
            have A16 : ∀ j, 0 ≤ τ40.2.1 16 j ∧ τ40.2.1 16 j ≤ 999 := fun j => hT.2 16 j
            have A18 : ∀ j, 0 ≤ τ40.2.1 18 j ∧ τ40.2.1 18 j ≤ 90000 := fun j => hT.2 18 j
            have A19 : ∀ j, 0 ≤ τ40.2.1 19 j ∧ τ40.2.1 19 j ≤ 60 := fun j => hT.2 19 j
            have A20 : ∀ j, 0 ≤ τ40.2.1 20 j ∧ τ40.2.1 20 j ≤ 1499 := fun j => hT.2 20 j
            have A71 : ∀ j, (-1) ≤ τ40.2.1 71 j ∧ τ40.2.1 71 j ≤ 99 := fun j => hT.2 71 j
            have A72 : ∀ j, 0 ≤ τ40.2.1 72 j ∧ τ40.2.1 72 j ≤ 999 := fun j => hT.2 72 j
            have A73 : ∀ j, (-1) ≤ τ40.2.1 73 j ∧ τ40.2.1 73 j ≤ 99 := fun j => hT.2 73 j
            have A75 : ∀ j, 0 ≤ τ40.2.1 75 j ∧ τ40.2.1 75 j ≤ 3 := fun j => hT.2 75 j
            have A76 : ∀ j, (-1) ≤ τ40.2.1 76 j ∧ τ40.2.1 76 j ≤ 1499 := fun j => hT.2 76 j
            have A77 : ∀ j, (-1001) ≤ τ40.2.1 77 j ∧ τ40.2.1 77 j ≤ 999 := fun j => hT.2 77 j
            have A78 : ∀ j, (-1) ≤ τ40.2.1 78 j ∧ τ40.2.1 78 j ≤ 30001 := fun j => hT.2 78 j
            have A83 : ∀ j, 0 ≤ τ40.2.1 83 j ∧ τ40.2.1 83 j ≤ 1500 := fun j => hT.2 83 j
            have A21 : ∀ j, 0 ≤ τ40.2.1 21 j ∧ τ40.2.1 21 j ≤ 20000 := fun j => hT.2 21 j
            have A22 : ∀ j, 0 ≤ τ40.2.1 22 j ∧ τ40.2.1 22 j ≤ 20000 := fun j => hT.2 22 j
            have A25 : ∀ j, 0 ≤ τ40.2.1 25 j ∧ τ40.2.1 25 j ≤ 20000 := fun j => hT.2 25 j
            have A26 : ∀ j, 0 ≤ τ40.2.1 26 j ∧ τ40.2.1 26 j ≤ 20000 := fun j => hT.2 26 j
            have A28 : ∀ j, 0 ≤ τ40.2.1 28 j ∧ τ40.2.1 28 j ≤ 1 := fun j => hT.2 28 j
            have v3 : 0 ≤ τ40.1 3 ∧ τ40.1 3 ≤ 1000 := hT.1 3
            have v5 : 0 ≤ τ40.1 5 ∧ τ40.1 5 ≤ 1500 := hT.1 5
            have v6 : 0 ≤ τ40.1 6 ∧ τ40.1 6 ≤ 30000 := hT.1 6
            have v7 : 0 ≤ τ40.1 7 ∧ τ40.1 7 ≤ 90000 := hT.1 7
            have v8 : 0 ≤ τ40.1 8 ∧ τ40.1 8 ≤ 20000 := hT.1 8
            have v9 : 0 ≤ τ40.1 9 ∧ τ40.1 9 ≤ 20000 := hT.1 9
            have v11 : (-1) ≤ τ40.1 11 ∧ τ40.1 11 ≤ 999 := hT.1 11
            have v45 : 0 ≤ τ40.1 45 ∧ τ40.1 45 ≤ 59 := hT.1 45
            have v46 : 0 ≤ τ40.1 46 ∧ τ40.1 46 ≤ 100 := hT.1 46
            have v47 : 0 ≤ τ40.1 47 ∧ τ40.1 47 ≤ 30001 := hT.1 47
            have v48 : 0 ≤ τ40.1 48 ∧ τ40.1 48 ≤ 1500 := hT.1 48
            have v49 : 0 ≤ τ40.1 49 ∧ τ40.1 49 ≤ 1 := hT.1 49
            have v50 : 0 ≤ τ40.1 50 ∧ τ40.1 50 ≤ 1500 := hT.1 50
            have gd := y_GD_s SD H3 H45 H46 H71 H72 H73 soS l59 i192_1.1 i192_2.1 i192_6 q38_1
            rw [H72, H3, H71] at q38_2
            rw [H3, H45, H71] at q38_3
            have qd : y_QD τ40 := y_QD_h i192_3 hf_τ40 rfl rfl
            have fr := y_Fr_n q38_2
            refine ⟨(⟨by (first | omega | (simp only [st_s] <;> omega) | assumption | omega | fail), by (first | omega | (simp only [st_s] <;> omega) | assumption | omega | fail)⟩ : rg (u4_192 + 1)), ?_⟩
            exact ih_192 _ _ _ (show (61 - (u4_192 + 1) : Int) < ((m_192 : Nat) : Int) from by ((first | omega | (simp only [st_s] <;> omega) | assumption | omega | fail))) hT (show τ40.1 3 = σ.1 3 from by first | exact W3 | omega) (show τ40.1 5 = σ.1 5 from by first | exact W5 | omega) (show τ40.1 6 = σ.1 6 from by first | exact W6 | omega) (show τ40.1 7 = σ.1 7 from by first | exact W7 | omega) (show τ40.1 8 = σ.1 8 from by first | exact W8 | omega) (show τ40.1 9 = σ.1 9 from by first | exact W9 | omega) (show τ40.1 11 = σ.1 11 from by first | exact W11 | omega) (show τ40.1 45 = σ.1 45 from by first | exact W45 | omega) (show τ40.1 46 = σ.1 46 from by first | exact W46 | omega) G8 G10 G11 G12 G13 G14 G15 G16 G18 G19 G20 G71 G72 G73 G21 G22 G25 G26 G28 (show 0 ≤ u3_192 ∧ u3_192 < (σ.1 45) from by (first | omega | (simp only [st_s] <;> omega) | assumption | omega | fail)) (show u3_192 < (u4_192 + 1) ∧ (u4_192 + 1) ≤ 60 ∧ (u4_192 + 1) ≤ (σ.1 45) + 1 from by (first | omega | (simp only [st_s] <;> omega) | assumption | omega | fail)) (show y_QD τ40 from by (first | exact i141_3 | exact qd | fail)) (show ¬ (τ40.1 49) = 0 from by (first | omega | (simp only [st_s] <;> omega) | assumption | omega | fail)) (show (τ40.1 50) = n2 from by (first | omega | (simp only [st_s] <;> omega) | assumption | omega | fail)) (show y_GD σ (τ40.2.1 75) (τ40.2.1 76) n2 (u3_192) ((u4_192 + 1)) from by (first | exact gd | exact y_GD_e i141_6 (fun p q a b c => by unfold y_dn; omega) | fail)) (show y_St (σ.1 3) (σ.1 45) (u3_192) ((u4_192 + 1) - 1) (σ.2.1 71) (y_W1 (σ.1 3) (σ.2.1 71) (τ40.2.1 75)) (y_W2 (σ.1 3) (σ.2.1 71) (τ40.2.1 75)) (τ40.2.2 3) (τ40.2.2 4) from by (first | exact y_St_e i141_7 (fun p q a b => by omega) | (rw [show u4_192 + 1 - 1 = u4_192 from by omega]; exact q38_3) | fail)) (show y_Fr (τ40.1 47) n2 (u3_192) ((u4_192 + 1)) (fun _ => False) (σ.2.1 72) (y_W1 (σ.1 3) (σ.2.1 71) (τ40.2.1 75)) (y_W2 (σ.1 3) (σ.2.1 71) (τ40.2.1 75)) (τ40.2.1 78) (τ40.2.1 77) (τ40.2.1 83) (τ40.2.2 5) (τ40.2.2 6) from by (first | exact y_Fr_0 (y_W21 _ _ _) (by omega) (by omega) (fun x a b => i141_8 x a (by omega)) (fun x => id) | (rw [w47_τ40, g78_τ40, g77_τ40, g83_τ40]; exact fr) | fail)) (show u3_192 < (m_134 : Int) from by (first | omega | (simp only [st_s] <;> omega) | assumption | omega | fail))
      have l_141 : ∀ (m_141 : Nat) (u3_141 : Int) (u4_141 : Int) (τ_141 : S0), 30003 - u4_141 < (m_141 : Int) → (m_T τ_141) → (τ_141.1 3 = σ.1 3) → (τ_141.1 5 = σ.1 5) → (τ_141.1 6 = σ.1 6) → (τ_141.1 7 = σ.1 7) → (τ_141.1 8 = σ.1 8) → (τ_141.1 9 = σ.1 9) → (τ_141.1 11 = σ.1 11) → (τ_141.1 45 = σ.1 45) → (τ_141.1 46 = σ.1 46) → (τ_141.2.1 8 = σ.2.1 8) → (τ_141.2.1 10 = σ.2.1 10) → (τ_141.2.1 11 = σ.2.1 11) → (τ_141.2.1 12 = σ.2.1 12) → (τ_141.2.1 13 = σ.2.1 13) → (τ_141.2.1 14 = σ.2.1 14) → (τ_141.2.1 15 = σ.2.1 15) → (τ_141.2.1 16 = σ.2.1 16) → (τ_141.2.1 18 = σ.2.1 18) → (τ_141.2.1 19 = σ.2.1 19) → (τ_141.2.1 20 = σ.2.1 20) → (τ_141.2.1 71 = σ.2.1 71) → (τ_141.2.1 72 = σ.2.1 72) → (τ_141.2.1 73 = σ.2.1 73) → (τ_141.2.1 21 = σ.2.1 21) → (τ_141.2.1 22 = σ.2.1 22) → (τ_141.2.1 25 = σ.2.1 25) → (τ_141.2.1 26 = σ.2.1 26) → (τ_141.2.1 28 = σ.2.1 28) → (0 ≤ u3_141 ∧ u3_141 < (σ.1 45)) → (1 ≤ u4_141 ∧ u4_141 ≤ 30002) → (y_QD τ_141) → (¬ (τ_141.1 49) = 0) → ((τ_141.1 50) = n2) → (y_GD σ (τ_141.2.1 75) (τ_141.2.1 76) n2 (u3_141) (0)) → (y_St (σ.1 3) (σ.1 45) (u3_141) (u3_141) (σ.2.1 71) (y_W1 (σ.1 3) (σ.2.1 71) (τ_141.2.1 75)) (y_W2 (σ.1 3) (σ.2.1 71) (τ_141.2.1 75)) (τ_141.2.2 3) (τ_141.2.2 4)) → (∀ x : Int, 1 ≤ x → x < u4_141 → (τ_141.2.1 78 x = 0 ∧ τ_141.2.2 5 x = j_shl 1 u3_141 ∧ τ_141.2.2 6 x = 0) ∨ (¬ τ_141.2.1 78 x = 0 ∧ τ_141.2.2 5 x = 0 ∧ τ_141.2.2 6 x = 0)) → (u3_141 < (m_134 : Int)) → P141 n1 n2 u3_141 u4_141 τ_141 := by
        intro m_141
        induction m_141 with
        | zero =>
          intro u3_141 u4_141 τ_141 hm hT W3 W5 W6 W7 W8 W9 W11 W45 W46 G8 G10 G11 G12 G13 G14 G15 G16 G18 G19 G20 G71 G72 G73 G21 G22 G25 G26 G28 i141_1 i141_2 i141_3 i141_4 i141_5 i141_6 i141_7 i141_8 i141_9
          have A8 : ∀ j, 0 ≤ τ_141.2.1 8 j ∧ τ_141.2.1 8 j ≤ 1 := fun j => hT.2 8 j
          have A10 : ∀ j, (-1) ≤ τ_141.2.1 10 j ∧ τ_141.2.1 10 j ≤ 999 := fun j => hT.2 10 j
          have A11 : ∀ j, (-1) ≤ τ_141.2.1 11 j ∧ τ_141.2.1 11 j ≤ 1499 := fun j => hT.2 11 j
          have A12 : ∀ j, 0 ≤ τ_141.2.1 12 j ∧ τ_141.2.1 12 j ≤ 1 := fun j => hT.2 12 j
          have A13 : ∀ j, 0 ≤ τ_141.2.1 13 j ∧ τ_141.2.1 13 j ≤ 4 := fun j => hT.2 13 j
          have A14 : ∀ j, 0 ≤ τ_141.2.1 14 j ∧ τ_141.2.1 14 j ≤ 30000 := fun j => hT.2 14 j
          have A15 : ∀ j, 0 ≤ τ_141.2.1 15 j ∧ τ_141.2.1 15 j ≤ 300 := fun j => hT.2 15 j
          have A16 : ∀ j, 0 ≤ τ_141.2.1 16 j ∧ τ_141.2.1 16 j ≤ 999 := fun j => hT.2 16 j
          have A18 : ∀ j, 0 ≤ τ_141.2.1 18 j ∧ τ_141.2.1 18 j ≤ 90000 := fun j => hT.2 18 j
          have A19 : ∀ j, 0 ≤ τ_141.2.1 19 j ∧ τ_141.2.1 19 j ≤ 60 := fun j => hT.2 19 j
          have A20 : ∀ j, 0 ≤ τ_141.2.1 20 j ∧ τ_141.2.1 20 j ≤ 1499 := fun j => hT.2 20 j
          have A71 : ∀ j, (-1) ≤ τ_141.2.1 71 j ∧ τ_141.2.1 71 j ≤ 99 := fun j => hT.2 71 j
          have A72 : ∀ j, 0 ≤ τ_141.2.1 72 j ∧ τ_141.2.1 72 j ≤ 999 := fun j => hT.2 72 j
          have A73 : ∀ j, (-1) ≤ τ_141.2.1 73 j ∧ τ_141.2.1 73 j ≤ 99 := fun j => hT.2 73 j
          have A75 : ∀ j, 0 ≤ τ_141.2.1 75 j ∧ τ_141.2.1 75 j ≤ 3 := fun j => hT.2 75 j
          have A76 : ∀ j, (-1) ≤ τ_141.2.1 76 j ∧ τ_141.2.1 76 j ≤ 1499 := fun j => hT.2 76 j
          have A77 : ∀ j, (-1001) ≤ τ_141.2.1 77 j ∧ τ_141.2.1 77 j ≤ 999 := fun j => hT.2 77 j
          have A78 : ∀ j, (-1) ≤ τ_141.2.1 78 j ∧ τ_141.2.1 78 j ≤ 30001 := fun j => hT.2 78 j
          have A83 : ∀ j, 0 ≤ τ_141.2.1 83 j ∧ τ_141.2.1 83 j ≤ 1500 := fun j => hT.2 83 j
          have A21 : ∀ j, 0 ≤ τ_141.2.1 21 j ∧ τ_141.2.1 21 j ≤ 20000 := fun j => hT.2 21 j
          have A22 : ∀ j, 0 ≤ τ_141.2.1 22 j ∧ τ_141.2.1 22 j ≤ 20000 := fun j => hT.2 22 j
          have A25 : ∀ j, 0 ≤ τ_141.2.1 25 j ∧ τ_141.2.1 25 j ≤ 20000 := fun j => hT.2 25 j
          have A26 : ∀ j, 0 ≤ τ_141.2.1 26 j ∧ τ_141.2.1 26 j ≤ 20000 := fun j => hT.2 26 j
          have A28 : ∀ j, 0 ≤ τ_141.2.1 28 j ∧ τ_141.2.1 28 j ≤ 1 := fun j => hT.2 28 j
          have v3 : 0 ≤ τ_141.1 3 ∧ τ_141.1 3 ≤ 1000 := hT.1 3
          have v5 : 0 ≤ τ_141.1 5 ∧ τ_141.1 5 ≤ 1500 := hT.1 5
          have v6 : 0 ≤ τ_141.1 6 ∧ τ_141.1 6 ≤ 30000 := hT.1 6
          have v7 : 0 ≤ τ_141.1 7 ∧ τ_141.1 7 ≤ 90000 := hT.1 7
          have v8 : 0 ≤ τ_141.1 8 ∧ τ_141.1 8 ≤ 20000 := hT.1 8
          have v9 : 0 ≤ τ_141.1 9 ∧ τ_141.1 9 ≤ 20000 := hT.1 9
          have v11 : (-1) ≤ τ_141.1 11 ∧ τ_141.1 11 ≤ 999 := hT.1 11
          have v45 : 0 ≤ τ_141.1 45 ∧ τ_141.1 45 ≤ 59 := hT.1 45
          have v46 : 0 ≤ τ_141.1 46 ∧ τ_141.1 46 ≤ 100 := hT.1 46
          have v47 : 0 ≤ τ_141.1 47 ∧ τ_141.1 47 ≤ 30001 := hT.1 47
          have v48 : 0 ≤ τ_141.1 48 ∧ τ_141.1 48 ≤ 1500 := hT.1 48
          have v49 : 0 ≤ τ_141.1 49 ∧ τ_141.1 49 ≤ 1 := hT.1 49
          have v50 : 0 ≤ τ_141.1 50 ∧ τ_141.1 50 ≤ 1500 := hT.1 50
          exfalso; (first | omega | (simp only [st_s] <;> omega) | assumption | omega | fail)
        | succ m_141 ih_141 =>
          intro u3_141 u4_141 τ_141 hm_141 hT W3 W5 W6 W7 W8 W9 W11 W45 W46 G8 G10 G11 G12 G13 G14 G15 G16 G18 G19 G20 G71 G72 G73 G21 G22 G25 G26 G28 i141_1 i141_2 i141_3 i141_4 i141_5 i141_6 i141_7 i141_8 i141_9
          have A8 : ∀ j, 0 ≤ τ_141.2.1 8 j ∧ τ_141.2.1 8 j ≤ 1 := fun j => hT.2 8 j
          have A10 : ∀ j, (-1) ≤ τ_141.2.1 10 j ∧ τ_141.2.1 10 j ≤ 999 := fun j => hT.2 10 j
          have A11 : ∀ j, (-1) ≤ τ_141.2.1 11 j ∧ τ_141.2.1 11 j ≤ 1499 := fun j => hT.2 11 j
          have A12 : ∀ j, 0 ≤ τ_141.2.1 12 j ∧ τ_141.2.1 12 j ≤ 1 := fun j => hT.2 12 j
          have A13 : ∀ j, 0 ≤ τ_141.2.1 13 j ∧ τ_141.2.1 13 j ≤ 4 := fun j => hT.2 13 j
          have A14 : ∀ j, 0 ≤ τ_141.2.1 14 j ∧ τ_141.2.1 14 j ≤ 30000 := fun j => hT.2 14 j
          have A15 : ∀ j, 0 ≤ τ_141.2.1 15 j ∧ τ_141.2.1 15 j ≤ 300 := fun j => hT.2 15 j
          have A16 : ∀ j, 0 ≤ τ_141.2.1 16 j ∧ τ_141.2.1 16 j ≤ 999 := fun j => hT.2 16 j
          have A18 : ∀ j, 0 ≤ τ_141.2.1 18 j ∧ τ_141.2.1 18 j ≤ 90000 := fun j => hT.2 18 j
          have A19 : ∀ j, 0 ≤ τ_141.2.1 19 j ∧ τ_141.2.1 19 j ≤ 60 := fun j => hT.2 19 j
          have A20 : ∀ j, 0 ≤ τ_141.2.1 20 j ∧ τ_141.2.1 20 j ≤ 1499 := fun j => hT.2 20 j
          have A71 : ∀ j, (-1) ≤ τ_141.2.1 71 j ∧ τ_141.2.1 71 j ≤ 99 := fun j => hT.2 71 j
          have A72 : ∀ j, 0 ≤ τ_141.2.1 72 j ∧ τ_141.2.1 72 j ≤ 999 := fun j => hT.2 72 j
          have A73 : ∀ j, (-1) ≤ τ_141.2.1 73 j ∧ τ_141.2.1 73 j ≤ 99 := fun j => hT.2 73 j
          have A75 : ∀ j, 0 ≤ τ_141.2.1 75 j ∧ τ_141.2.1 75 j ≤ 3 := fun j => hT.2 75 j
          have A76 : ∀ j, (-1) ≤ τ_141.2.1 76 j ∧ τ_141.2.1 76 j ≤ 1499 := fun j => hT.2 76 j
          have A77 : ∀ j, (-1001) ≤ τ_141.2.1 77 j ∧ τ_141.2.1 77 j ≤ 999 := fun j => hT.2 77 j
          have A78 : ∀ j, (-1) ≤ τ_141.2.1 78 j ∧ τ_141.2.1 78 j ≤ 30001 := fun j => hT.2 78 j
          have A83 : ∀ j, 0 ≤ τ_141.2.1 83 j ∧ τ_141.2.1 83 j ≤ 1500 := fun j => hT.2 83 j
          have A21 : ∀ j, 0 ≤ τ_141.2.1 21 j ∧ τ_141.2.1 21 j ≤ 20000 := fun j => hT.2 21 j
          have A22 : ∀ j, 0 ≤ τ_141.2.1 22 j ∧ τ_141.2.1 22 j ≤ 20000 := fun j => hT.2 22 j
          have A25 : ∀ j, 0 ≤ τ_141.2.1 25 j ∧ τ_141.2.1 25 j ≤ 20000 := fun j => hT.2 25 j
          have A26 : ∀ j, 0 ≤ τ_141.2.1 26 j ∧ τ_141.2.1 26 j ≤ 20000 := fun j => hT.2 26 j
          have A28 : ∀ j, 0 ≤ τ_141.2.1 28 j ∧ τ_141.2.1 28 j ≤ 1 := fun j => hT.2 28 j
          have v3 : 0 ≤ τ_141.1 3 ∧ τ_141.1 3 ≤ 1000 := hT.1 3
          have v5 : 0 ≤ τ_141.1 5 ∧ τ_141.1 5 ≤ 1500 := hT.1 5
          have v6 : 0 ≤ τ_141.1 6 ∧ τ_141.1 6 ≤ 30000 := hT.1 6
          have v7 : 0 ≤ τ_141.1 7 ∧ τ_141.1 7 ≤ 90000 := hT.1 7
          have v8 : 0 ≤ τ_141.1 8 ∧ τ_141.1 8 ≤ 20000 := hT.1 8
          have v9 : 0 ≤ τ_141.1 9 ∧ τ_141.1 9 ≤ 20000 := hT.1 9
          have v11 : (-1) ≤ τ_141.1 11 ∧ τ_141.1 11 ≤ 999 := hT.1 11
          have v45 : 0 ≤ τ_141.1 45 ∧ τ_141.1 45 ≤ 59 := hT.1 45
          have v46 : 0 ≤ τ_141.1 46 ∧ τ_141.1 46 ≤ 100 := hT.1 46
          have v47 : 0 ≤ τ_141.1 47 ∧ τ_141.1 47 ≤ 30001 := hT.1 47
          have v48 : 0 ≤ τ_141.1 48 ∧ τ_141.1 48 ≤ 1500 := hT.1 48
          have v49 : 0 ≤ τ_141.1 49 ∧ τ_141.1 49 ≤ 1 := hT.1 49
          have v50 : 0 ≤ τ_141.1 50 ∧ τ_141.1 50 ≤ 1500 := hT.1 50
          refine h141 n1 n2 u3_141 u4_141 τ_141 ?_
          refine ⟨fun c19 => ?_, fun c19 => ?_⟩
          ·
            refine ⟨(⟨by (first | omega | (simp only [st_s] <;> omega) | assumption | omega | fail), by (first | omega | (simp only [st_s] <;> omega) | assumption | omega | fail)⟩ : rg (u3_141 + 1)), ?_⟩
            exact l_192 ((61 - (u3_141 + 1) : Int).toNat + 1) _ _ _ (show (61 - (u3_141 + 1) : Int) < (((61 - (u3_141 + 1) : Int).toNat + 1 : Nat) : Int) from by ((first | omega | (simp only [st_s] <;> omega) | assumption | omega | fail))) hT (show τ_141.1 3 = σ.1 3 from by first | exact W3 | omega) (show τ_141.1 5 = σ.1 5 from by first | exact W5 | omega) (show τ_141.1 6 = σ.1 6 from by first | exact W6 | omega) (show τ_141.1 7 = σ.1 7 from by first | exact W7 | omega) (show τ_141.1 8 = σ.1 8 from by first | exact W8 | omega) (show τ_141.1 9 = σ.1 9 from by first | exact W9 | omega) (show τ_141.1 11 = σ.1 11 from by first | exact W11 | omega) (show τ_141.1 45 = σ.1 45 from by first | exact W45 | omega) (show τ_141.1 46 = σ.1 46 from by first | exact W46 | omega) G8 G10 G11 G12 G13 G14 G15 G16 G18 G19 G20 G71 G72 G73 G21 G22 G25 G26 G28 (show 0 ≤ u3_141 ∧ u3_141 < (σ.1 45) from by (first | omega | (simp only [st_s] <;> omega) | assumption | omega | fail)) (show u3_141 < (u3_141 + 1) ∧ (u3_141 + 1) ≤ 60 ∧ (u3_141 + 1) ≤ (σ.1 45) + 1 from by (first | omega | (simp only [st_s] <;> omega) | assumption | omega | fail)) (show y_QD τ_141 from by (first | exact i141_3 | exact qd | fail)) (show ¬ (τ_141.1 49) = 0 from by (first | omega | (simp only [st_s] <;> omega) | assumption | omega | fail)) (show (τ_141.1 50) = n2 from by (first | omega | (simp only [st_s] <;> omega) | assumption | omega | fail)) (show y_GD σ (τ_141.2.1 75) (τ_141.2.1 76) n2 (u3_141) ((u3_141 + 1)) from by (first | exact gd | exact y_GD_e i141_6 (fun p q a b c => by unfold y_dn; omega) | fail)) (show y_St (σ.1 3) (σ.1 45) (u3_141) ((u3_141 + 1) - 1) (σ.2.1 71) (y_W1 (σ.1 3) (σ.2.1 71) (τ_141.2.1 75)) (y_W2 (σ.1 3) (σ.2.1 71) (τ_141.2.1 75)) (τ_141.2.2 3) (τ_141.2.2 4) from by (first | exact y_St_e i141_7 (fun p q a b => by omega) | (rw [show u4_192 + 1 - 1 = u4_192 from by omega]; exact q38_3) | fail)) (show y_Fr (τ_141.1 47) n2 (u3_141) ((u3_141 + 1)) (fun _ => False) (σ.2.1 72) (y_W1 (σ.1 3) (σ.2.1 71) (τ_141.2.1 75)) (y_W2 (σ.1 3) (σ.2.1 71) (τ_141.2.1 75)) (τ_141.2.1 78) (τ_141.2.1 77) (τ_141.2.1 83) (τ_141.2.2 5) (τ_141.2.2 6) from by (first | exact y_Fr_0 (y_W21 _ _ _) (by omega) (by omega) (fun x a b => i141_8 x a (by omega)) (fun x => id) | (rw [w47_τ40, g78_τ40, g77_τ40, g83_τ40]; exact fr) | fail)) (show u3_141 < (m_134 : Int) from by (first | omega | (simp only [st_s] <;> omega) | assumption | omega | fail))
          ·
            refine ⟨_, K_X13_isSortNode hT (show 0 ≤ u4_141 from by (first | omega | (simp only [st_s] <;> omega) | assumption | omega | fail)) (show u4_141 < 30002 from by (first | omega | (simp only [st_s] <;> omega) | assumption | omega | fail)), ?_⟩
            intro x22 r_x22 hq
            obtain ⟨q21_1, q21_2⟩ := hq
            replace q21_1 : 0 ≤ x22 ∧ x22 ≤ 1 := q21_1
            replace q21_2 : ¬ x22 = 0 ↔ τ_141.2.1 78 u4_141 = 0 := q21_2
            refine ⟨fun c24 => ?_, fun c24 => ?_⟩
            ·
              refine h172 _ _ _ _ _ _ _ ?_
              refine ⟨(show 0 ≤ u4_141 ∧ u4_141 < 30002 from by (first | omega | (simp only [st_s] <;> omega) | assumption | omega | fail)), ?_⟩
              replace hT := mT_b (k := 5) (j := u4_141) (x := 0) hT
              refine ⟨(show 0 ≤ u4_141 ∧ u4_141 < 30002 from by (first | omega | (simp only [st_s] <;> omega) | assumption | omega | fail)), ?_⟩
              replace hT := mT_b (k := 6) (j := u4_141) (x := 0) hT
              refine ⟨(⟨by (first | omega | (simp only [st_s] <;> omega) | assumption | omega | fail), by (first | omega | (simp only [st_s] <;> omega) | assumption | omega | fail)⟩ : rg (u4_141 + 1)), ?_⟩
              exact ih_141 _ _ _ (show (30003 - (u4_141 + 1) : Int) < ((m_141 : Nat) : Int) from by ((first | omega | (simp only [st_s] <;> omega) | assumption | omega | fail))) hT (show τ_141.1 3 = σ.1 3 from by first | exact W3 | omega) (show τ_141.1 5 = σ.1 5 from by first | exact W5 | omega) (show τ_141.1 6 = σ.1 6 from by first | exact W6 | omega) (show τ_141.1 7 = σ.1 7 from by first | exact W7 | omega) (show τ_141.1 8 = σ.1 8 from by first | exact W8 | omega) (show τ_141.1 9 = σ.1 9 from by first | exact W9 | omega) (show τ_141.1 11 = σ.1 11 from by first | exact W11 | omega) (show τ_141.1 45 = σ.1 45 from by first | exact W45 | omega) (show τ_141.1 46 = σ.1 46 from by first | exact W46 | omega) G8 G10 G11 G12 G13 G14 G15 G16 G18 G19 G20 G71 G72 G73 G21 G22 G25 G26 G28 (show 0 ≤ u3_141 ∧ u3_141 < (σ.1 45) from by (first | omega | (simp only [st_s] <;> omega) | assumption | omega | fail)) (show 1 ≤ (u4_141 + 1) ∧ (u4_141 + 1) ≤ 30002 from by (first | omega | (simp only [st_s] <;> omega) | assumption | omega | fail)) (show y_QD (s_b (s_b τ_141 5 u4_141 0) 6 u4_141 0) from by (first | exact i134_2 | exact i141_3 | fail)) (show ¬ (τ_141.1 49) = 0 from by (first | omega | (simp only [st_s] <;> omega) | assumption | omega | fail)) (show (τ_141.1 50) = n2 from by (first | omega | (simp only [st_s] <;> omega) | assumption | omega | fail)) (show y_GD σ (τ_141.2.1 75) (τ_141.2.1 76) n2 (u3_141) (0) from by (first | exact i134_5 | exact i141_6 | fail)) (show y_St (σ.1 3) (σ.1 45) (u3_141) (u3_141) (σ.2.1 71) (y_W1 (σ.1 3) (σ.2.1 71) (τ_141.2.1 75)) (y_W2 (σ.1 3) (σ.2.1 71) (τ_141.2.1 75)) (τ_141.2.2 3) (τ_141.2.2 4) from by (first | exact i134_6 | exact i141_7 | fail)) (show ∀ x : Int, 1 ≤ x → x < (u4_141 + 1) → (τ_141.2.1 78 x = 0 ∧ (st (τ_141.2.2 5) u4_141 0) x = j_shl 1 u3_141 ∧ (st (τ_141.2.2 6) u4_141 0) x = 0) ∨ (¬ τ_141.2.1 78 x = 0 ∧ (st (τ_141.2.2 5) u4_141 0) x = 0 ∧ (st (τ_141.2.2 6) u4_141 0) x = 0) from by (first | (intro x a b; exfalso; omega) | (intro x a b; rcases (by omega : x < u4_141 ∨ x = u4_141) with z | z; (rw [st_n _ _ (by omega), st_n _ _ (by omega)]; exact i141_8 x a z); (rw [z, st_s, st_s]; first | exact Or.inl ⟨q21_2.mp (by assumption), rfl, rfl⟩ | exact Or.inr ⟨fun y => absurd (q21_2.mpr y) (by omega), rfl, rfl⟩)) | fail)) (show u3_141 < (m_134 : Int) from by (first | omega | (simp only [st_s] <;> omega) | assumption | omega | fail))
            ·
              refine h172 _ _ _ _ _ _ _ ?_
              refine ⟨(show 0 ≤ u4_141 ∧ u4_141 < 30002 from by (first | omega | (simp only [st_s] <;> omega) | assumption | omega | fail)), ?_⟩
              replace hT := mT_b (k := 5) (j := u4_141) (x := (j_shl 1 u3_141)) hT
              refine ⟨(show 0 ≤ u4_141 ∧ u4_141 < 30002 from by (first | omega | (simp only [st_s] <;> omega) | assumption | omega | fail)), ?_⟩
              replace hT := mT_b (k := 6) (j := u4_141) (x := 0) hT
              refine ⟨(⟨by (first | omega | (simp only [st_s] <;> omega) | assumption | omega | fail), by (first | omega | (simp only [st_s] <;> omega) | assumption | omega | fail)⟩ : rg (u4_141 + 1)), ?_⟩
              exact ih_141 _ _ _ (show (30003 - (u4_141 + 1) : Int) < ((m_141 : Nat) : Int) from by ((first | omega | (simp only [st_s] <;> omega) | assumption | omega | fail))) hT (show τ_141.1 3 = σ.1 3 from by first | exact W3 | omega) (show τ_141.1 5 = σ.1 5 from by first | exact W5 | omega) (show τ_141.1 6 = σ.1 6 from by first | exact W6 | omega) (show τ_141.1 7 = σ.1 7 from by first | exact W7 | omega) (show τ_141.1 8 = σ.1 8 from by first | exact W8 | omega) (show τ_141.1 9 = σ.1 9 from by first | exact W9 | omega) (show τ_141.1 11 = σ.1 11 from by first | exact W11 | omega) (show τ_141.1 45 = σ.1 45 from by first | exact W45 | omega) (show τ_141.1 46 = σ.1 46 from by first | exact W46 | omega) G8 G10 G11 G12 G13 G14 G15 G16 G18 G19 G20 G71 G72 G73 G21 G22 G25 G26 G28 (show 0 ≤ u3_141 ∧ u3_141 < (σ.1 45) from by (first | omega | (simp only [st_s] <;> omega) | assumption | omega | fail)) (show 1 ≤ (u4_141 + 1) ∧ (u4_141 + 1) ≤ 30002 from by (first | omega | (simp only [st_s] <;> omega) | assumption | omega | fail)) (show y_QD (s_b (s_b τ_141 5 u4_141 (j_shl 1 u3_141)) 6 u4_141 0) from by (first | exact i134_2 | exact i141_3 | fail)) (show ¬ (τ_141.1 49) = 0 from by (first | omega | (simp only [st_s] <;> omega) | assumption | omega | fail)) (show (τ_141.1 50) = n2 from by (first | omega | (simp only [st_s] <;> omega) | assumption | omega | fail)) (show y_GD σ (τ_141.2.1 75) (τ_141.2.1 76) n2 (u3_141) (0) from by (first | exact i134_5 | exact i141_6 | fail)) (show y_St (σ.1 3) (σ.1 45) (u3_141) (u3_141) (σ.2.1 71) (y_W1 (σ.1 3) (σ.2.1 71) (τ_141.2.1 75)) (y_W2 (σ.1 3) (σ.2.1 71) (τ_141.2.1 75)) (τ_141.2.2 3) (τ_141.2.2 4) from by (first | exact i134_6 | exact i141_7 | fail)) (show ∀ x : Int, 1 ≤ x → x < (u4_141 + 1) → (τ_141.2.1 78 x = 0 ∧ (st (τ_141.2.2 5) u4_141 (j_shl 1 u3_141)) x = j_shl 1 u3_141 ∧ (st (τ_141.2.2 6) u4_141 0) x = 0) ∨ (¬ τ_141.2.1 78 x = 0 ∧ (st (τ_141.2.2 5) u4_141 (j_shl 1 u3_141)) x = 0 ∧ (st (τ_141.2.2 6) u4_141 0) x = 0) from by (first | (intro x a b; exfalso; omega) | (intro x a b; rcases (by omega : x < u4_141 ∨ x = u4_141) with z | z; (rw [st_n _ _ (by omega), st_n _ _ (by omega)]; exact i141_8 x a z); (rw [z, st_s, st_s]; first | exact Or.inl ⟨q21_2.mp (by assumption), rfl, rfl⟩ | exact Or.inr ⟨fun y => absurd (q21_2.mpr y) (by omega), rfl, rfl⟩)) | fail)) (show u3_141 < (m_134 : Int) from by (first | omega | (simp only [st_s] <;> omega) | assumption | omega | fail))
      refine h134 n1 n2 u3_134 τ_134 ?_
      refine ⟨fun c7 => ?_, fun c7 => ?_⟩
      ·
        refine ⟨fun c8 => ?_, fun c8 => ?_⟩
        ·
          exact ⟨hT, (show y_QD τ_134 from by exact i134_2), (show ¬ (τ_134.1 49) = 0 from by (first | omega | (simp only [st_s] <;> omega) | assumption | omega | fail)), (show (τ_134.1 50) = n2 from by (first | omega | (simp only [st_s] <;> omega) | assumption | omega | fail)), (show y_GD σ (τ_134.2.1 75) (τ_134.2.1 76) n2 (-1) (0) from by (rw [show (-1 : Int) = u3_134 from by omega]; exact i134_5)), (show n1 = -1 ∨ (σ.1 45) = 0 → 0 = 0 from by (first | omega | (simp only [st_s] <;> omega) | assumption | omega | fail)), (show 0 ≤ n1 → 0 < (σ.1 45) → 0 = τ_134.2.1 75 ((n1 * 61 + 0) * 61 + (σ.1 45)) from by (first | (intro a b; exfalso; omega) | (intro a b; rw [e_x14, q10_1, W45]) | fail))⟩
        ·
          refine ⟨fun c9 => ?_, fun c9 => ?_⟩
          ·
            refine ⟨_, K_X13_wayAt hT (show 0 ≤ n1 ∧ n1 ≤ 99 from by (first | omega | (simp only [st_s] <;> omega) | assumption | omega | fail)) (show 0 ≤ (0 : Int) ∧ (0 : Int) ≤ 60 from by (first | omega | (simp only [st_s] <;> omega) | assumption | omega | fail)) (show 0 ≤ (τ_134.1 45) ∧ (τ_134.1 45) ≤ 60 from by (first | omega | (simp only [st_s] <;> omega) | assumption | omega | fail)), ?_⟩
            intro x11 r_x11 hq
            obtain ⟨q10_1, q10_2⟩ := hq
            replace q10_1 : x11 = (n1 * 61 + (0 : Int)) * 61 + (τ_134.1 45) := q10_1
            replace q10_2 : 0 ≤ x11 ∧ x11 < 372100 := q10_2
            refine ⟨(show 0 ≤ x11 ∧ x11 < 372100 from by (first | omega | (simp only [st_s] <;> omega) | assumption | omega | fail)), ?_⟩
            intro x14 r_x14 e_x14
            have b_x14 : 0 ≤ x14 ∧ x14 ≤ 3 := by rw [e_x14]; exact hT.2 75 _
            exact ⟨hT, (show y_QD τ_134 from by exact i134_2), (show ¬ (τ_134.1 49) = 0 from by (first | omega | (simp only [st_s] <;> omega) | assumption | omega | fail)), (show (τ_134.1 50) = n2 from by (first | omega | (simp only [st_s] <;> omega) | assumption | omega | fail)), (show y_GD σ (τ_134.2.1 75) (τ_134.2.1 76) n2 (-1) (0) from by (rw [show (-1 : Int) = u3_134 from by omega]; exact i134_5)), (show n1 = -1 ∨ (σ.1 45) = 0 → x14 = 0 from by (first | omega | (simp only [st_s] <;> omega) | assumption | omega | fail)), (show 0 ≤ n1 → 0 < (σ.1 45) → x14 = τ_134.2.1 75 ((n1 * 61 + 0) * 61 + (σ.1 45)) from by (first | (intro a b; exfalso; omega) | (intro a b; rw [e_x14, q10_1, W45]) | fail))⟩
          ·
            exact ⟨hT, (show y_QD τ_134 from by exact i134_2), (show ¬ (τ_134.1 49) = 0 from by (first | omega | (simp only [st_s] <;> omega) | assumption | omega | fail)), (show (τ_134.1 50) = n2 from by (first | omega | (simp only [st_s] <;> omega) | assumption | omega | fail)), (show y_GD σ (τ_134.2.1 75) (τ_134.2.1 76) n2 (-1) (0) from by (rw [show (-1 : Int) = u3_134 from by omega]; exact i134_5)), (show n1 = -1 ∨ (σ.1 45) = 0 → 0 = 0 from by (first | omega | (simp only [st_s] <;> omega) | assumption | omega | fail)), (show 0 ≤ n1 → 0 < (σ.1 45) → 0 = τ_134.2.1 75 ((n1 * 61 + 0) * 61 + (σ.1 45)) from by (first | (intro a b; exfalso; omega) | (intro a b; rw [e_x14, q10_1, W45]) | fail))⟩
      ·
        exact l_141 ((30003 - 1 : Int).toNat + 1) _ _ _ (show (30003 - 1 : Int) < (((30003 - 1 : Int).toNat + 1 : Nat) : Int) from by ((first | omega | (simp only [st_s] <;> omega) | assumption | omega | fail))) hT (show τ_134.1 3 = σ.1 3 from by first | exact W3 | omega) (show τ_134.1 5 = σ.1 5 from by first | exact W5 | omega) (show τ_134.1 6 = σ.1 6 from by first | exact W6 | omega) (show τ_134.1 7 = σ.1 7 from by first | exact W7 | omega) (show τ_134.1 8 = σ.1 8 from by first | exact W8 | omega) (show τ_134.1 9 = σ.1 9 from by first | exact W9 | omega) (show τ_134.1 11 = σ.1 11 from by first | exact W11 | omega) (show τ_134.1 45 = σ.1 45 from by first | exact W45 | omega) (show τ_134.1 46 = σ.1 46 from by first | exact W46 | omega) G8 G10 G11 G12 G13 G14 G15 G16 G18 G19 G20 G71 G72 G73 G21 G22 G25 G26 G28 (show 0 ≤ u3_134 ∧ u3_134 < (σ.1 45) from by (first | omega | (simp only [st_s] <;> omega) | assumption | omega | fail)) (show 1 ≤ 1 ∧ 1 ≤ 30002 from by (first | omega | (simp only [st_s] <;> omega) | assumption | omega | fail)) (show y_QD τ_134 from by (first | exact i134_2 | exact i141_3 | fail)) (show ¬ (τ_134.1 49) = 0 from by (first | omega | (simp only [st_s] <;> omega) | assumption | omega | fail)) (show (τ_134.1 50) = n2 from by (first | omega | (simp only [st_s] <;> omega) | assumption | omega | fail)) (show y_GD σ (τ_134.2.1 75) (τ_134.2.1 76) n2 (u3_134) (0) from by (first | exact i134_5 | exact i141_6 | fail)) (show y_St (σ.1 3) (σ.1 45) (u3_134) (u3_134) (σ.2.1 71) (y_W1 (σ.1 3) (σ.2.1 71) (τ_134.2.1 75)) (y_W2 (σ.1 3) (σ.2.1 71) (τ_134.2.1 75)) (τ_134.2.2 3) (τ_134.2.2 4) from by (first | exact i134_6 | exact i141_7 | fail)) (show ∀ x : Int, 1 ≤ x → x < 1 → (τ_134.2.1 78 x = 0 ∧ τ_134.2.2 5 x = j_shl 1 u3_134 ∧ τ_134.2.2 6 x = 0) ∨ (¬ τ_134.2.1 78 x = 0 ∧ τ_134.2.2 5 x = 0 ∧ τ_134.2.2 6 x = 0) from by (first | (intro x a b; exfalso; omega) | (intro x a b; rcases (by omega : x < u4_141 ∨ x = u4_141) with z | z; (rw [st_n _ _ (by omega), st_n _ _ (by omega)]; exact i141_8 x a z); (rw [z, st_s, st_s]; first | exact Or.inl ⟨q21_2.mp (by assumption), rfl, rfl⟩ | exact Or.inr ⟨fun y => absurd (q21_2.mpr y) (by omega), rfl, rfl⟩)) | fail)) (show u3_134 < (m_134 : Int) from by (first | omega | (simp only [st_s] <;> omega) | assumption | omega | fail))
  have l_18 : ∀ (m_18 : Nat) (u3_18 : Int) (τ_18 : S0), 101 - u3_18 < (m_18 : Int) → (m_T τ_18) → (τ_18.1 3 = σ.1 3) → (τ_18.1 5 = σ.1 5) → (τ_18.1 6 = σ.1 6) → (τ_18.1 7 = σ.1 7) → (τ_18.1 8 = σ.1 8) → (τ_18.1 9 = σ.1 9) → (τ_18.1 11 = σ.1 11) → (τ_18.1 45 = σ.1 45) → (τ_18.1 46 = σ.1 46) → (τ_18.2.1 8 = σ.2.1 8) → (τ_18.2.1 10 = σ.2.1 10) → (τ_18.2.1 11 = σ.2.1 11) → (τ_18.2.1 12 = σ.2.1 12) → (τ_18.2.1 13 = σ.2.1 13) → (τ_18.2.1 14 = σ.2.1 14) → (τ_18.2.1 15 = σ.2.1 15) → (τ_18.2.1 16 = σ.2.1 16) → (τ_18.2.1 18 = σ.2.1 18) → (τ_18.2.1 19 = σ.2.1 19) → (τ_18.2.1 20 = σ.2.1 20) → (τ_18.2.1 71 = σ.2.1 71) → (τ_18.2.1 72 = σ.2.1 72) → (τ_18.2.1 73 = σ.2.1 73) → (τ_18.2.1 21 = σ.2.1 21) → (τ_18.2.1 22 = σ.2.1 22) → (τ_18.2.1 25 = σ.2.1 25) → (τ_18.2.1 26 = σ.2.1 26) → (τ_18.2.1 28 = σ.2.1 28) → (0 ≤ u3_18 ∧ u3_18 ≤ (σ.1 46)) → (y_QD τ_18) → (¬ (τ_18.1 49) = 0) → ((τ_18.1 50) = n2) → (∀ s p q : Int, 0 ≤ s → s < (σ.1 46) → 0 ≤ p → p < q → q ≤ (σ.1 45) → (s < u3_18) → τ_18.2.1 75 ((s * 61 + p) * 61 + q) = 0 ∧ τ_18.2.1 76 ((s * 61 + p) * 61 + q) = -1) → (∀ s q : Int, 0 ≤ s → s < (σ.1 46) → 0 ≤ q → q ≤ (σ.1 45) → (s < u3_18) → τ_18.2.2 3 (61 * s + q) = 0 ∧ τ_18.2.2 4 (61 * s + q) = 0) → P18 n1 n2 u3_18 τ_18 := by
    intro m_18
    induction m_18 with
    | zero =>
      intro u3_18 τ_18 hm hT W3 W5 W6 W7 W8 W9 W11 W45 W46 G8 G10 G11 G12 G13 G14 G15 G16 G18 G19 G20 G71 G72 G73 G21 G22 G25 G26 G28 i18_1 i18_2 i18_3 i18_4 i18_5 i18_6
      have A8 : ∀ j, 0 ≤ τ_18.2.1 8 j ∧ τ_18.2.1 8 j ≤ 1 := fun j => hT.2 8 j
      have A10 : ∀ j, (-1) ≤ τ_18.2.1 10 j ∧ τ_18.2.1 10 j ≤ 999 := fun j => hT.2 10 j
      have A11 : ∀ j, (-1) ≤ τ_18.2.1 11 j ∧ τ_18.2.1 11 j ≤ 1499 := fun j => hT.2 11 j
      have A12 : ∀ j, 0 ≤ τ_18.2.1 12 j ∧ τ_18.2.1 12 j ≤ 1 := fun j => hT.2 12 j
      have A13 : ∀ j, 0 ≤ τ_18.2.1 13 j ∧ τ_18.2.1 13 j ≤ 4 := fun j => hT.2 13 j
      have A14 : ∀ j, 0 ≤ τ_18.2.1 14 j ∧ τ_18.2.1 14 j ≤ 30000 := fun j => hT.2 14 j
      have A15 : ∀ j, 0 ≤ τ_18.2.1 15 j ∧ τ_18.2.1 15 j ≤ 300 := fun j => hT.2 15 j
      have A16 : ∀ j, 0 ≤ τ_18.2.1 16 j ∧ τ_18.2.1 16 j ≤ 999 := fun j => hT.2 16 j
      have A18 : ∀ j, 0 ≤ τ_18.2.1 18 j ∧ τ_18.2.1 18 j ≤ 90000 := fun j => hT.2 18 j
      have A19 : ∀ j, 0 ≤ τ_18.2.1 19 j ∧ τ_18.2.1 19 j ≤ 60 := fun j => hT.2 19 j
      have A20 : ∀ j, 0 ≤ τ_18.2.1 20 j ∧ τ_18.2.1 20 j ≤ 1499 := fun j => hT.2 20 j
      have A71 : ∀ j, (-1) ≤ τ_18.2.1 71 j ∧ τ_18.2.1 71 j ≤ 99 := fun j => hT.2 71 j
      have A72 : ∀ j, 0 ≤ τ_18.2.1 72 j ∧ τ_18.2.1 72 j ≤ 999 := fun j => hT.2 72 j
      have A73 : ∀ j, (-1) ≤ τ_18.2.1 73 j ∧ τ_18.2.1 73 j ≤ 99 := fun j => hT.2 73 j
      have A75 : ∀ j, 0 ≤ τ_18.2.1 75 j ∧ τ_18.2.1 75 j ≤ 3 := fun j => hT.2 75 j
      have A76 : ∀ j, (-1) ≤ τ_18.2.1 76 j ∧ τ_18.2.1 76 j ≤ 1499 := fun j => hT.2 76 j
      have A77 : ∀ j, (-1001) ≤ τ_18.2.1 77 j ∧ τ_18.2.1 77 j ≤ 999 := fun j => hT.2 77 j
      have A78 : ∀ j, (-1) ≤ τ_18.2.1 78 j ∧ τ_18.2.1 78 j ≤ 30001 := fun j => hT.2 78 j
      have A83 : ∀ j, 0 ≤ τ_18.2.1 83 j ∧ τ_18.2.1 83 j ≤ 1500 := fun j => hT.2 83 j
      have A21 : ∀ j, 0 ≤ τ_18.2.1 21 j ∧ τ_18.2.1 21 j ≤ 20000 := fun j => hT.2 21 j
      have A22 : ∀ j, 0 ≤ τ_18.2.1 22 j ∧ τ_18.2.1 22 j ≤ 20000 := fun j => hT.2 22 j
      have A25 : ∀ j, 0 ≤ τ_18.2.1 25 j ∧ τ_18.2.1 25 j ≤ 20000 := fun j => hT.2 25 j
      have A26 : ∀ j, 0 ≤ τ_18.2.1 26 j ∧ τ_18.2.1 26 j ≤ 20000 := fun j => hT.2 26 j
      have A28 : ∀ j, 0 ≤ τ_18.2.1 28 j ∧ τ_18.2.1 28 j ≤ 1 := fun j => hT.2 28 j
      have v3 : 0 ≤ τ_18.1 3 ∧ τ_18.1 3 ≤ 1000 := hT.1 3
      have v5 : 0 ≤ τ_18.1 5 ∧ τ_18.1 5 ≤ 1500 := hT.1 5
      have v6 : 0 ≤ τ_18.1 6 ∧ τ_18.1 6 ≤ 30000 := hT.1 6
      have v7 : 0 ≤ τ_18.1 7 ∧ τ_18.1 7 ≤ 90000 := hT.1 7
      have v8 : 0 ≤ τ_18.1 8 ∧ τ_18.1 8 ≤ 20000 := hT.1 8
      have v9 : 0 ≤ τ_18.1 9 ∧ τ_18.1 9 ≤ 20000 := hT.1 9
      have v11 : (-1) ≤ τ_18.1 11 ∧ τ_18.1 11 ≤ 999 := hT.1 11
      have v45 : 0 ≤ τ_18.1 45 ∧ τ_18.1 45 ≤ 59 := hT.1 45
      have v46 : 0 ≤ τ_18.1 46 ∧ τ_18.1 46 ≤ 100 := hT.1 46
      have v47 : 0 ≤ τ_18.1 47 ∧ τ_18.1 47 ≤ 30001 := hT.1 47
      have v48 : 0 ≤ τ_18.1 48 ∧ τ_18.1 48 ≤ 1500 := hT.1 48
      have v49 : 0 ≤ τ_18.1 49 ∧ τ_18.1 49 ≤ 1 := hT.1 49
      have v50 : 0 ≤ τ_18.1 50 ∧ τ_18.1 50 ≤ 1500 := hT.1 50
      exfalso; (first | omega | (simp only [st_s] <;> omega) | assumption | omega | fail)
    | succ m_18 ih_18 =>
      intro u3_18 τ_18 hm_18 hT W3 W5 W6 W7 W8 W9 W11 W45 W46 G8 G10 G11 G12 G13 G14 G15 G16 G18 G19 G20 G71 G72 G73 G21 G22 G25 G26 G28 i18_1 i18_2 i18_3 i18_4 i18_5 i18_6
      have A8 : ∀ j, 0 ≤ τ_18.2.1 8 j ∧ τ_18.2.1 8 j ≤ 1 := fun j => hT.2 8 j
      have A10 : ∀ j, (-1) ≤ τ_18.2.1 10 j ∧ τ_18.2.1 10 j ≤ 999 := fun j => hT.2 10 j
      have A11 : ∀ j, (-1) ≤ τ_18.2.1 11 j ∧ τ_18.2.1 11 j ≤ 1499 := fun j => hT.2 11 j
      have A12 : ∀ j, 0 ≤ τ_18.2.1 12 j ∧ τ_18.2.1 12 j ≤ 1 := fun j => hT.2 12 j
      have A13 : ∀ j, 0 ≤ τ_18.2.1 13 j ∧ τ_18.2.1 13 j ≤ 4 := fun j => hT.2 13 j
      have A14 : ∀ j, 0 ≤ τ_18.2.1 14 j ∧ τ_18.2.1 14 j ≤ 30000 := fun j => hT.2 14 j
      have A15 : ∀ j, 0 ≤ τ_18.2.1 15 j ∧ τ_18.2.1 15 j ≤ 300 := fun j => hT.2 15 j
      have A16 : ∀ j, 0 ≤ τ_18.2.1 16 j ∧ τ_18.2.1 16 j ≤ 999 := fun j => hT.2 16 j
      have A18 : ∀ j, 0 ≤ τ_18.2.1 18 j ∧ τ_18.2.1 18 j ≤ 90000 := fun j => hT.2 18 j
      have A19 : ∀ j, 0 ≤ τ_18.2.1 19 j ∧ τ_18.2.1 19 j ≤ 60 := fun j => hT.2 19 j
      have A20 : ∀ j, 0 ≤ τ_18.2.1 20 j ∧ τ_18.2.1 20 j ≤ 1499 := fun j => hT.2 20 j
      have A71 : ∀ j, (-1) ≤ τ_18.2.1 71 j ∧ τ_18.2.1 71 j ≤ 99 := fun j => hT.2 71 j
      have A72 : ∀ j, 0 ≤ τ_18.2.1 72 j ∧ τ_18.2.1 72 j ≤ 999 := fun j => hT.2 72 j
      have A73 : ∀ j, (-1) ≤ τ_18.2.1 73 j ∧ τ_18.2.1 73 j ≤ 99 := fun j => hT.2 73 j
      have A75 : ∀ j, 0 ≤ τ_18.2.1 75 j ∧ τ_18.2.1 75 j ≤ 3 := fun j => hT.2 75 j
      have A76 : ∀ j, (-1) ≤ τ_18.2.1 76 j ∧ τ_18.2.1 76 j ≤ 1499 := fun j => hT.2 76 j
      have A77 : ∀ j, (-1001) ≤ τ_18.2.1 77 j ∧ τ_18.2.1 77 j ≤ 999 := fun j => hT.2 77 j
      have A78 : ∀ j, (-1) ≤ τ_18.2.1 78 j ∧ τ_18.2.1 78 j ≤ 30001 := fun j => hT.2 78 j
      have A83 : ∀ j, 0 ≤ τ_18.2.1 83 j ∧ τ_18.2.1 83 j ≤ 1500 := fun j => hT.2 83 j
      have A21 : ∀ j, 0 ≤ τ_18.2.1 21 j ∧ τ_18.2.1 21 j ≤ 20000 := fun j => hT.2 21 j
      have A22 : ∀ j, 0 ≤ τ_18.2.1 22 j ∧ τ_18.2.1 22 j ≤ 20000 := fun j => hT.2 22 j
      have A25 : ∀ j, 0 ≤ τ_18.2.1 25 j ∧ τ_18.2.1 25 j ≤ 20000 := fun j => hT.2 25 j
      have A26 : ∀ j, 0 ≤ τ_18.2.1 26 j ∧ τ_18.2.1 26 j ≤ 20000 := fun j => hT.2 26 j
      have A28 : ∀ j, 0 ≤ τ_18.2.1 28 j ∧ τ_18.2.1 28 j ≤ 1 := fun j => hT.2 28 j
      have v3 : 0 ≤ τ_18.1 3 ∧ τ_18.1 3 ≤ 1000 := hT.1 3
      have v5 : 0 ≤ τ_18.1 5 ∧ τ_18.1 5 ≤ 1500 := hT.1 5
      have v6 : 0 ≤ τ_18.1 6 ∧ τ_18.1 6 ≤ 30000 := hT.1 6
      have v7 : 0 ≤ τ_18.1 7 ∧ τ_18.1 7 ≤ 90000 := hT.1 7
      have v8 : 0 ≤ τ_18.1 8 ∧ τ_18.1 8 ≤ 20000 := hT.1 8
      have v9 : 0 ≤ τ_18.1 9 ∧ τ_18.1 9 ≤ 20000 := hT.1 9
      have v11 : (-1) ≤ τ_18.1 11 ∧ τ_18.1 11 ≤ 999 := hT.1 11
      have v45 : 0 ≤ τ_18.1 45 ∧ τ_18.1 45 ≤ 59 := hT.1 45
      have v46 : 0 ≤ τ_18.1 46 ∧ τ_18.1 46 ≤ 100 := hT.1 46
      have v47 : 0 ≤ τ_18.1 47 ∧ τ_18.1 47 ≤ 30001 := hT.1 47
      have v48 : 0 ≤ τ_18.1 48 ∧ τ_18.1 48 ≤ 1500 := hT.1 48
      have v49 : 0 ≤ τ_18.1 49 ∧ τ_18.1 49 ≤ 1 := hT.1 49
      have v50 : 0 ≤ τ_18.1 50 ∧ τ_18.1 50 ≤ 1500 := hT.1 50
      have l_29 : ∀ (m_29 : Nat) (u3_29 : Int) (u4_29 : Int) (τ_29 : S0), 61 - u4_29 < (m_29 : Int) → (m_T τ_29) → (τ_29.1 3 = σ.1 3) → (τ_29.1 5 = σ.1 5) → (τ_29.1 6 = σ.1 6) → (τ_29.1 7 = σ.1 7) → (τ_29.1 8 = σ.1 8) → (τ_29.1 9 = σ.1 9) → (τ_29.1 11 = σ.1 11) → (τ_29.1 45 = σ.1 45) → (τ_29.1 46 = σ.1 46) → (τ_29.2.1 8 = σ.2.1 8) → (τ_29.2.1 10 = σ.2.1 10) → (τ_29.2.1 11 = σ.2.1 11) → (τ_29.2.1 12 = σ.2.1 12) → (τ_29.2.1 13 = σ.2.1 13) → (τ_29.2.1 14 = σ.2.1 14) → (τ_29.2.1 15 = σ.2.1 15) → (τ_29.2.1 16 = σ.2.1 16) → (τ_29.2.1 18 = σ.2.1 18) → (τ_29.2.1 19 = σ.2.1 19) → (τ_29.2.1 20 = σ.2.1 20) → (τ_29.2.1 71 = σ.2.1 71) → (τ_29.2.1 72 = σ.2.1 72) → (τ_29.2.1 73 = σ.2.1 73) → (τ_29.2.1 21 = σ.2.1 21) → (τ_29.2.1 22 = σ.2.1 22) → (τ_29.2.1 25 = σ.2.1 25) → (τ_29.2.1 26 = σ.2.1 26) → (τ_29.2.1 28 = σ.2.1 28) → (0 ≤ u3_29 ∧ u3_29 < (σ.1 46)) → (0 ≤ u4_29 ∧ u4_29 ≤ 60) → (y_QD τ_29) → (¬ (τ_29.1 49) = 0) → ((τ_29.1 50) = n2) → (∀ s p q : Int, 0 ≤ s → s < (σ.1 46) → 0 ≤ p → p < q → q ≤ (σ.1 45) → (s < u3_29 ∨ (s = u3_29 ∧ p < u4_29)) → τ_29.2.1 75 ((s * 61 + p) * 61 + q) = 0 ∧ τ_29.2.1 76 ((s * 61 + p) * 61 + q) = -1) → (∀ s q : Int, 0 ≤ s → s < (σ.1 46) → 0 ≤ q → q ≤ (σ.1 45) → (s < u3_29 ∨ (s = u3_29 ∧ q < u4_29)) → τ_29.2.2 3 (61 * s + q) = 0 ∧ τ_29.2.2 4 (61 * s + q) = 0) → (u3_29 + (m_18 : Int) ≥ 101) → P29 n1 n2 u3_29 u4_29 τ_29 := by
        intro m_29
        induction m_29 with
        | zero =>
          intro u3_29 u4_29 τ_29 hm hT W3 W5 W6 W7 W8 W9 W11 W45 W46 G8 G10 G11 G12 G13 G14 G15 G16 G18 G19 G20 G71 G72 G73 G21 G22 G25 G26 G28 i29_1 i29_2 i29_3 i29_4 i29_5 i29_6 i29_7 i29_8
          have A8 : ∀ j, 0 ≤ τ_29.2.1 8 j ∧ τ_29.2.1 8 j ≤ 1 := fun j => hT.2 8 j
          have A10 : ∀ j, (-1) ≤ τ_29.2.1 10 j ∧ τ_29.2.1 10 j ≤ 999 := fun j => hT.2 10 j
          have A11 : ∀ j, (-1) ≤ τ_29.2.1 11 j ∧ τ_29.2.1 11 j ≤ 1499 := fun j => hT.2 11 j
          have A12 : ∀ j, 0 ≤ τ_29.2.1 12 j ∧ τ_29.2.1 12 j ≤ 1 := fun j => hT.2 12 j
          have A13 : ∀ j, 0 ≤ τ_29.2.1 13 j ∧ τ_29.2.1 13 j ≤ 4 := fun j => hT.2 13 j
          have A14 : ∀ j, 0 ≤ τ_29.2.1 14 j ∧ τ_29.2.1 14 j ≤ 30000 := fun j => hT.2 14 j
          have A15 : ∀ j, 0 ≤ τ_29.2.1 15 j ∧ τ_29.2.1 15 j ≤ 300 := fun j => hT.2 15 j
          have A16 : ∀ j, 0 ≤ τ_29.2.1 16 j ∧ τ_29.2.1 16 j ≤ 999 := fun j => hT.2 16 j
          have A18 : ∀ j, 0 ≤ τ_29.2.1 18 j ∧ τ_29.2.1 18 j ≤ 90000 := fun j => hT.2 18 j
          have A19 : ∀ j, 0 ≤ τ_29.2.1 19 j ∧ τ_29.2.1 19 j ≤ 60 := fun j => hT.2 19 j
          have A20 : ∀ j, 0 ≤ τ_29.2.1 20 j ∧ τ_29.2.1 20 j ≤ 1499 := fun j => hT.2 20 j
          have A71 : ∀ j, (-1) ≤ τ_29.2.1 71 j ∧ τ_29.2.1 71 j ≤ 99 := fun j => hT.2 71 j
          have A72 : ∀ j, 0 ≤ τ_29.2.1 72 j ∧ τ_29.2.1 72 j ≤ 999 := fun j => hT.2 72 j
          have A73 : ∀ j, (-1) ≤ τ_29.2.1 73 j ∧ τ_29.2.1 73 j ≤ 99 := fun j => hT.2 73 j
          have A75 : ∀ j, 0 ≤ τ_29.2.1 75 j ∧ τ_29.2.1 75 j ≤ 3 := fun j => hT.2 75 j
          have A76 : ∀ j, (-1) ≤ τ_29.2.1 76 j ∧ τ_29.2.1 76 j ≤ 1499 := fun j => hT.2 76 j
          have A77 : ∀ j, (-1001) ≤ τ_29.2.1 77 j ∧ τ_29.2.1 77 j ≤ 999 := fun j => hT.2 77 j
          have A78 : ∀ j, (-1) ≤ τ_29.2.1 78 j ∧ τ_29.2.1 78 j ≤ 30001 := fun j => hT.2 78 j
          have A83 : ∀ j, 0 ≤ τ_29.2.1 83 j ∧ τ_29.2.1 83 j ≤ 1500 := fun j => hT.2 83 j
          have A21 : ∀ j, 0 ≤ τ_29.2.1 21 j ∧ τ_29.2.1 21 j ≤ 20000 := fun j => hT.2 21 j
          have A22 : ∀ j, 0 ≤ τ_29.2.1 22 j ∧ τ_29.2.1 22 j ≤ 20000 := fun j => hT.2 22 j
          have A25 : ∀ j, 0 ≤ τ_29.2.1 25 j ∧ τ_29.2.1 25 j ≤ 20000 := fun j => hT.2 25 j
          have A26 : ∀ j, 0 ≤ τ_29.2.1 26 j ∧ τ_29.2.1 26 j ≤ 20000 := fun j => hT.2 26 j
          have A28 : ∀ j, 0 ≤ τ_29.2.1 28 j ∧ τ_29.2.1 28 j ≤ 1 := fun j => hT.2 28 j
          have v3 : 0 ≤ τ_29.1 3 ∧ τ_29.1 3 ≤ 1000 := hT.1 3
          have v5 : 0 ≤ τ_29.1 5 ∧ τ_29.1 5 ≤ 1500 := hT.1 5
          have v6 : 0 ≤ τ_29.1 6 ∧ τ_29.1 6 ≤ 30000 := hT.1 6
          have v7 : 0 ≤ τ_29.1 7 ∧ τ_29.1 7 ≤ 90000 := hT.1 7
          have v8 : 0 ≤ τ_29.1 8 ∧ τ_29.1 8 ≤ 20000 := hT.1 8
          have v9 : 0 ≤ τ_29.1 9 ∧ τ_29.1 9 ≤ 20000 := hT.1 9
          have v11 : (-1) ≤ τ_29.1 11 ∧ τ_29.1 11 ≤ 999 := hT.1 11
          have v45 : 0 ≤ τ_29.1 45 ∧ τ_29.1 45 ≤ 59 := hT.1 45
          have v46 : 0 ≤ τ_29.1 46 ∧ τ_29.1 46 ≤ 100 := hT.1 46
          have v47 : 0 ≤ τ_29.1 47 ∧ τ_29.1 47 ≤ 30001 := hT.1 47
          have v48 : 0 ≤ τ_29.1 48 ∧ τ_29.1 48 ≤ 1500 := hT.1 48
          have v49 : 0 ≤ τ_29.1 49 ∧ τ_29.1 49 ≤ 1 := hT.1 49
          have v50 : 0 ≤ τ_29.1 50 ∧ τ_29.1 50 ≤ 1500 := hT.1 50
          exfalso; (first | omega | (simp only [st_s] <;> omega) | assumption | omega | fail)
        | succ m_29 ih_29 =>
          intro u3_29 u4_29 τ_29 hm_29 hT W3 W5 W6 W7 W8 W9 W11 W45 W46 G8 G10 G11 G12 G13 G14 G15 G16 G18 G19 G20 G71 G72 G73 G21 G22 G25 G26 G28 i29_1 i29_2 i29_3 i29_4 i29_5 i29_6 i29_7 i29_8
          have A8 : ∀ j, 0 ≤ τ_29.2.1 8 j ∧ τ_29.2.1 8 j ≤ 1 := fun j => hT.2 8 j
          have A10 : ∀ j, (-1) ≤ τ_29.2.1 10 j ∧ τ_29.2.1 10 j ≤ 999 := fun j => hT.2 10 j
          have A11 : ∀ j, (-1) ≤ τ_29.2.1 11 j ∧ τ_29.2.1 11 j ≤ 1499 := fun j => hT.2 11 j
          have A12 : ∀ j, 0 ≤ τ_29.2.1 12 j ∧ τ_29.2.1 12 j ≤ 1 := fun j => hT.2 12 j
          have A13 : ∀ j, 0 ≤ τ_29.2.1 13 j ∧ τ_29.2.1 13 j ≤ 4 := fun j => hT.2 13 j
          have A14 : ∀ j, 0 ≤ τ_29.2.1 14 j ∧ τ_29.2.1 14 j ≤ 30000 := fun j => hT.2 14 j
          have A15 : ∀ j, 0 ≤ τ_29.2.1 15 j ∧ τ_29.2.1 15 j ≤ 300 := fun j => hT.2 15 j
          have A16 : ∀ j, 0 ≤ τ_29.2.1 16 j ∧ τ_29.2.1 16 j ≤ 999 := fun j => hT.2 16 j
          have A18 : ∀ j, 0 ≤ τ_29.2.1 18 j ∧ τ_29.2.1 18 j ≤ 90000 := fun j => hT.2 18 j
          have A19 : ∀ j, 0 ≤ τ_29.2.1 19 j ∧ τ_29.2.1 19 j ≤ 60 := fun j => hT.2 19 j
          have A20 : ∀ j, 0 ≤ τ_29.2.1 20 j ∧ τ_29.2.1 20 j ≤ 1499 := fun j => hT.2 20 j
          have A71 : ∀ j, (-1) ≤ τ_29.2.1 71 j ∧ τ_29.2.1 71 j ≤ 99 := fun j => hT.2 71 j
          have A72 : ∀ j, 0 ≤ τ_29.2.1 72 j ∧ τ_29.2.1 72 j ≤ 999 := fun j => hT.2 72 j
          have A73 : ∀ j, (-1) ≤ τ_29.2.1 73 j ∧ τ_29.2.1 73 j ≤ 99 := fun j => hT.2 73 j
          have A75 : ∀ j, 0 ≤ τ_29.2.1 75 j ∧ τ_29.2.1 75 j ≤ 3 := fun j => hT.2 75 j
          have A76 : ∀ j, (-1) ≤ τ_29.2.1 76 j ∧ τ_29.2.1 76 j ≤ 1499 := fun j => hT.2 76 j
          have A77 : ∀ j, (-1001) ≤ τ_29.2.1 77 j ∧ τ_29.2.1 77 j ≤ 999 := fun j => hT.2 77 j
          have A78 : ∀ j, (-1) ≤ τ_29.2.1 78 j ∧ τ_29.2.1 78 j ≤ 30001 := fun j => hT.2 78 j
          have A83 : ∀ j, 0 ≤ τ_29.2.1 83 j ∧ τ_29.2.1 83 j ≤ 1500 := fun j => hT.2 83 j
          have A21 : ∀ j, 0 ≤ τ_29.2.1 21 j ∧ τ_29.2.1 21 j ≤ 20000 := fun j => hT.2 21 j
          have A22 : ∀ j, 0 ≤ τ_29.2.1 22 j ∧ τ_29.2.1 22 j ≤ 20000 := fun j => hT.2 22 j
          have A25 : ∀ j, 0 ≤ τ_29.2.1 25 j ∧ τ_29.2.1 25 j ≤ 20000 := fun j => hT.2 25 j
          have A26 : ∀ j, 0 ≤ τ_29.2.1 26 j ∧ τ_29.2.1 26 j ≤ 20000 := fun j => hT.2 26 j
          have A28 : ∀ j, 0 ≤ τ_29.2.1 28 j ∧ τ_29.2.1 28 j ≤ 1 := fun j => hT.2 28 j
          have v3 : 0 ≤ τ_29.1 3 ∧ τ_29.1 3 ≤ 1000 := hT.1 3
          have v5 : 0 ≤ τ_29.1 5 ∧ τ_29.1 5 ≤ 1500 := hT.1 5
          have v6 : 0 ≤ τ_29.1 6 ∧ τ_29.1 6 ≤ 30000 := hT.1 6
          have v7 : 0 ≤ τ_29.1 7 ∧ τ_29.1 7 ≤ 90000 := hT.1 7
          have v8 : 0 ≤ τ_29.1 8 ∧ τ_29.1 8 ≤ 20000 := hT.1 8
          have v9 : 0 ≤ τ_29.1 9 ∧ τ_29.1 9 ≤ 20000 := hT.1 9
          have v11 : (-1) ≤ τ_29.1 11 ∧ τ_29.1 11 ≤ 999 := hT.1 11
          have v45 : 0 ≤ τ_29.1 45 ∧ τ_29.1 45 ≤ 59 := hT.1 45
          have v46 : 0 ≤ τ_29.1 46 ∧ τ_29.1 46 ≤ 100 := hT.1 46
          have v47 : 0 ≤ τ_29.1 47 ∧ τ_29.1 47 ≤ 30001 := hT.1 47
          have v48 : 0 ≤ τ_29.1 48 ∧ τ_29.1 48 ≤ 1500 := hT.1 48
          have v49 : 0 ≤ τ_29.1 49 ∧ τ_29.1 49 ≤ 1 := hT.1 49
          have v50 : 0 ≤ τ_29.1 50 ∧ τ_29.1 50 ≤ 1500 := hT.1 50
          have l_70 : ∀ (m_70 : Nat) (u3_70 : Int) (u4_70 : Int) (u5_70 : Int) (τ_70 : S0), 62 - u5_70 < (m_70 : Int) → (m_T τ_70) → (τ_70.1 3 = σ.1 3) → (τ_70.1 5 = σ.1 5) → (τ_70.1 6 = σ.1 6) → (τ_70.1 7 = σ.1 7) → (τ_70.1 8 = σ.1 8) → (τ_70.1 9 = σ.1 9) → (τ_70.1 11 = σ.1 11) → (τ_70.1 45 = σ.1 45) → (τ_70.1 46 = σ.1 46) → (τ_70.2.1 8 = σ.2.1 8) → (τ_70.2.1 10 = σ.2.1 10) → (τ_70.2.1 11 = σ.2.1 11) → (τ_70.2.1 12 = σ.2.1 12) → (τ_70.2.1 13 = σ.2.1 13) → (τ_70.2.1 14 = σ.2.1 14) → (τ_70.2.1 15 = σ.2.1 15) → (τ_70.2.1 16 = σ.2.1 16) → (τ_70.2.1 18 = σ.2.1 18) → (τ_70.2.1 19 = σ.2.1 19) → (τ_70.2.1 20 = σ.2.1 20) → (τ_70.2.1 71 = σ.2.1 71) → (τ_70.2.1 72 = σ.2.1 72) → (τ_70.2.1 73 = σ.2.1 73) → (τ_70.2.1 21 = σ.2.1 21) → (τ_70.2.1 22 = σ.2.1 22) → (τ_70.2.1 25 = σ.2.1 25) → (τ_70.2.1 26 = σ.2.1 26) → (τ_70.2.1 28 = σ.2.1 28) → (0 ≤ u3_70 ∧ u3_70 < (σ.1 46)) → (0 ≤ u4_70 ∧ u4_70 ≤ (σ.1 45)) → (u4_70 < u5_70 ∧ u5_70 ≤ 61) → (y_QD τ_70) → (¬ (τ_70.1 49) = 0) → ((τ_70.1 50) = n2) → (∀ s p q : Int, 0 ≤ s → s < (σ.1 46) → 0 ≤ p → p < q → q ≤ (σ.1 45) → (s < u3_70 ∨ (s = u3_70 ∧ (p < u4_70 ∨ (p = u4_70 ∧ q < u5_70)))) → τ_70.2.1 75 ((s * 61 + p) * 61 + q) = 0 ∧ τ_70.2.1 76 ((s * 61 + p) * 61 + q) = -1) → (∀ s q : Int, 0 ≤ s → s < (σ.1 46) → 0 ≤ q → q ≤ (σ.1 45) → (s < u3_70 ∨ (s = u3_70 ∧ q ≤ u4_70)) → τ_70.2.2 3 (61 * s + q) = 0 ∧ τ_70.2.2 4 (61 * s + q) = 0) → (u4_70 + (m_29 : Int) ≥ 61) → (u3_70 + (m_18 : Int) ≥ 101) → P70 n1 n2 u3_70 u4_70 u5_70 τ_70 := by
            intro m_70
            induction m_70 with
            | zero =>
              intro u3_70 u4_70 u5_70 τ_70 hm hT W3 W5 W6 W7 W8 W9 W11 W45 W46 G8 G10 G11 G12 G13 G14 G15 G16 G18 G19 G20 G71 G72 G73 G21 G22 G25 G26 G28 i70_1 i70_2 i70_3 i70_4 i70_5 i70_6 i70_7 i70_8 i70_9 i70_10
              have A8 : ∀ j, 0 ≤ τ_70.2.1 8 j ∧ τ_70.2.1 8 j ≤ 1 := fun j => hT.2 8 j
              have A10 : ∀ j, (-1) ≤ τ_70.2.1 10 j ∧ τ_70.2.1 10 j ≤ 999 := fun j => hT.2 10 j
              have A11 : ∀ j, (-1) ≤ τ_70.2.1 11 j ∧ τ_70.2.1 11 j ≤ 1499 := fun j => hT.2 11 j
              have A12 : ∀ j, 0 ≤ τ_70.2.1 12 j ∧ τ_70.2.1 12 j ≤ 1 := fun j => hT.2 12 j
              have A13 : ∀ j, 0 ≤ τ_70.2.1 13 j ∧ τ_70.2.1 13 j ≤ 4 := fun j => hT.2 13 j
              have A14 : ∀ j, 0 ≤ τ_70.2.1 14 j ∧ τ_70.2.1 14 j ≤ 30000 := fun j => hT.2 14 j
              have A15 : ∀ j, 0 ≤ τ_70.2.1 15 j ∧ τ_70.2.1 15 j ≤ 300 := fun j => hT.2 15 j
              have A16 : ∀ j, 0 ≤ τ_70.2.1 16 j ∧ τ_70.2.1 16 j ≤ 999 := fun j => hT.2 16 j
              have A18 : ∀ j, 0 ≤ τ_70.2.1 18 j ∧ τ_70.2.1 18 j ≤ 90000 := fun j => hT.2 18 j
              have A19 : ∀ j, 0 ≤ τ_70.2.1 19 j ∧ τ_70.2.1 19 j ≤ 60 := fun j => hT.2 19 j
              have A20 : ∀ j, 0 ≤ τ_70.2.1 20 j ∧ τ_70.2.1 20 j ≤ 1499 := fun j => hT.2 20 j
              have A71 : ∀ j, (-1) ≤ τ_70.2.1 71 j ∧ τ_70.2.1 71 j ≤ 99 := fun j => hT.2 71 j
              have A72 : ∀ j, 0 ≤ τ_70.2.1 72 j ∧ τ_70.2.1 72 j ≤ 999 := fun j => hT.2 72 j
              have A73 : ∀ j, (-1) ≤ τ_70.2.1 73 j ∧ τ_70.2.1 73 j ≤ 99 := fun j => hT.2 73 j
              have A75 : ∀ j, 0 ≤ τ_70.2.1 75 j ∧ τ_70.2.1 75 j ≤ 3 := fun j => hT.2 75 j
              have A76 : ∀ j, (-1) ≤ τ_70.2.1 76 j ∧ τ_70.2.1 76 j ≤ 1499 := fun j => hT.2 76 j
              have A77 : ∀ j, (-1001) ≤ τ_70.2.1 77 j ∧ τ_70.2.1 77 j ≤ 999 := fun j => hT.2 77 j
              have A78 : ∀ j, (-1) ≤ τ_70.2.1 78 j ∧ τ_70.2.1 78 j ≤ 30001 := fun j => hT.2 78 j
              have A83 : ∀ j, 0 ≤ τ_70.2.1 83 j ∧ τ_70.2.1 83 j ≤ 1500 := fun j => hT.2 83 j
              have A21 : ∀ j, 0 ≤ τ_70.2.1 21 j ∧ τ_70.2.1 21 j ≤ 20000 := fun j => hT.2 21 j
              have A22 : ∀ j, 0 ≤ τ_70.2.1 22 j ∧ τ_70.2.1 22 j ≤ 20000 := fun j => hT.2 22 j
              have A25 : ∀ j, 0 ≤ τ_70.2.1 25 j ∧ τ_70.2.1 25 j ≤ 20000 := fun j => hT.2 25 j
              have A26 : ∀ j, 0 ≤ τ_70.2.1 26 j ∧ τ_70.2.1 26 j ≤ 20000 := fun j => hT.2 26 j
              have A28 : ∀ j, 0 ≤ τ_70.2.1 28 j ∧ τ_70.2.1 28 j ≤ 1 := fun j => hT.2 28 j
              have v3 : 0 ≤ τ_70.1 3 ∧ τ_70.1 3 ≤ 1000 := hT.1 3
              have v5 : 0 ≤ τ_70.1 5 ∧ τ_70.1 5 ≤ 1500 := hT.1 5
              have v6 : 0 ≤ τ_70.1 6 ∧ τ_70.1 6 ≤ 30000 := hT.1 6
              have v7 : 0 ≤ τ_70.1 7 ∧ τ_70.1 7 ≤ 90000 := hT.1 7
              have v8 : 0 ≤ τ_70.1 8 ∧ τ_70.1 8 ≤ 20000 := hT.1 8
              have v9 : 0 ≤ τ_70.1 9 ∧ τ_70.1 9 ≤ 20000 := hT.1 9
              have v11 : (-1) ≤ τ_70.1 11 ∧ τ_70.1 11 ≤ 999 := hT.1 11
              have v45 : 0 ≤ τ_70.1 45 ∧ τ_70.1 45 ≤ 59 := hT.1 45
              have v46 : 0 ≤ τ_70.1 46 ∧ τ_70.1 46 ≤ 100 := hT.1 46
              have v47 : 0 ≤ τ_70.1 47 ∧ τ_70.1 47 ≤ 30001 := hT.1 47
              have v48 : 0 ≤ τ_70.1 48 ∧ τ_70.1 48 ≤ 1500 := hT.1 48
              have v49 : 0 ≤ τ_70.1 49 ∧ τ_70.1 49 ≤ 1 := hT.1 49
              have v50 : 0 ≤ τ_70.1 50 ∧ τ_70.1 50 ≤ 1500 := hT.1 50
              exfalso; (first | omega | (simp only [st_s] <;> omega) | assumption | omega | fail)
            | succ m_70 ih_70 =>
              intro u3_70 u4_70 u5_70 τ_70 hm_70 hT W3 W5 W6 W7 W8 W9 W11 W45 W46 G8 G10 G11 G12 G13 G14 G15 G16 G18 G19 G20 G71 G72 G73 G21 G22 G25 G26 G28 i70_1 i70_2 i70_3 i70_4 i70_5 i70_6 i70_7 i70_8 i70_9 i70_10
              have A8 : ∀ j, 0 ≤ τ_70.2.1 8 j ∧ τ_70.2.1 8 j ≤ 1 := fun j => hT.2 8 j
              have A10 : ∀ j, (-1) ≤ τ_70.2.1 10 j ∧ τ_70.2.1 10 j ≤ 999 := fun j => hT.2 10 j
              have A11 : ∀ j, (-1) ≤ τ_70.2.1 11 j ∧ τ_70.2.1 11 j ≤ 1499 := fun j => hT.2 11 j
              have A12 : ∀ j, 0 ≤ τ_70.2.1 12 j ∧ τ_70.2.1 12 j ≤ 1 := fun j => hT.2 12 j
              have A13 : ∀ j, 0 ≤ τ_70.2.1 13 j ∧ τ_70.2.1 13 j ≤ 4 := fun j => hT.2 13 j
              have A14 : ∀ j, 0 ≤ τ_70.2.1 14 j ∧ τ_70.2.1 14 j ≤ 30000 := fun j => hT.2 14 j
              have A15 : ∀ j, 0 ≤ τ_70.2.1 15 j ∧ τ_70.2.1 15 j ≤ 300 := fun j => hT.2 15 j
              have A16 : ∀ j, 0 ≤ τ_70.2.1 16 j ∧ τ_70.2.1 16 j ≤ 999 := fun j => hT.2 16 j
              have A18 : ∀ j, 0 ≤ τ_70.2.1 18 j ∧ τ_70.2.1 18 j ≤ 90000 := fun j => hT.2 18 j
              have A19 : ∀ j, 0 ≤ τ_70.2.1 19 j ∧ τ_70.2.1 19 j ≤ 60 := fun j => hT.2 19 j
              have A20 : ∀ j, 0 ≤ τ_70.2.1 20 j ∧ τ_70.2.1 20 j ≤ 1499 := fun j => hT.2 20 j
              have A71 : ∀ j, (-1) ≤ τ_70.2.1 71 j ∧ τ_70.2.1 71 j ≤ 99 := fun j => hT.2 71 j
              have A72 : ∀ j, 0 ≤ τ_70.2.1 72 j ∧ τ_70.2.1 72 j ≤ 999 := fun j => hT.2 72 j
              have A73 : ∀ j, (-1) ≤ τ_70.2.1 73 j ∧ τ_70.2.1 73 j ≤ 99 := fun j => hT.2 73 j
              have A75 : ∀ j, 0 ≤ τ_70.2.1 75 j ∧ τ_70.2.1 75 j ≤ 3 := fun j => hT.2 75 j
              have A76 : ∀ j, (-1) ≤ τ_70.2.1 76 j ∧ τ_70.2.1 76 j ≤ 1499 := fun j => hT.2 76 j
              have A77 : ∀ j, (-1001) ≤ τ_70.2.1 77 j ∧ τ_70.2.1 77 j ≤ 999 := fun j => hT.2 77 j
              have A78 : ∀ j, (-1) ≤ τ_70.2.1 78 j ∧ τ_70.2.1 78 j ≤ 30001 := fun j => hT.2 78 j
              have A83 : ∀ j, 0 ≤ τ_70.2.1 83 j ∧ τ_70.2.1 83 j ≤ 1500 := fun j => hT.2 83 j
              have A21 : ∀ j, 0 ≤ τ_70.2.1 21 j ∧ τ_70.2.1 21 j ≤ 20000 := fun j => hT.2 21 j
              have A22 : ∀ j, 0 ≤ τ_70.2.1 22 j ∧ τ_70.2.1 22 j ≤ 20000 := fun j => hT.2 22 j
              have A25 : ∀ j, 0 ≤ τ_70.2.1 25 j ∧ τ_70.2.1 25 j ≤ 20000 := fun j => hT.2 25 j
              have A26 : ∀ j, 0 ≤ τ_70.2.1 26 j ∧ τ_70.2.1 26 j ≤ 20000 := fun j => hT.2 26 j
              have A28 : ∀ j, 0 ≤ τ_70.2.1 28 j ∧ τ_70.2.1 28 j ≤ 1 := fun j => hT.2 28 j
              have v3 : 0 ≤ τ_70.1 3 ∧ τ_70.1 3 ≤ 1000 := hT.1 3
              have v5 : 0 ≤ τ_70.1 5 ∧ τ_70.1 5 ≤ 1500 := hT.1 5
              have v6 : 0 ≤ τ_70.1 6 ∧ τ_70.1 6 ≤ 30000 := hT.1 6
              have v7 : 0 ≤ τ_70.1 7 ∧ τ_70.1 7 ≤ 90000 := hT.1 7
              have v8 : 0 ≤ τ_70.1 8 ∧ τ_70.1 8 ≤ 20000 := hT.1 8
              have v9 : 0 ≤ τ_70.1 9 ∧ τ_70.1 9 ≤ 20000 := hT.1 9
              have v11 : (-1) ≤ τ_70.1 11 ∧ τ_70.1 11 ≤ 999 := hT.1 11
              have v45 : 0 ≤ τ_70.1 45 ∧ τ_70.1 45 ≤ 59 := hT.1 45
              have v46 : 0 ≤ τ_70.1 46 ∧ τ_70.1 46 ≤ 100 := hT.1 46
              have v47 : 0 ≤ τ_70.1 47 ∧ τ_70.1 47 ≤ 30001 := hT.1 47
              have v48 : 0 ≤ τ_70.1 48 ∧ τ_70.1 48 ≤ 1500 := hT.1 48
              have v49 : 0 ≤ τ_70.1 49 ∧ τ_70.1 49 ≤ 1 := hT.1 49
              have v50 : 0 ≤ τ_70.1 50 ∧ τ_70.1 50 ≤ 1500 := hT.1 50
              refine h70 n1 n2 u3_70 u4_70 u5_70 τ_70 ?_
              refine ⟨fun c25 => ?_, fun c25 => ?_⟩
              ·
                refine ⟨(⟨by (first | omega | (simp only [st_s] <;> omega) | assumption | omega | fail), by (first | omega | (simp only [st_s] <;> omega) | assumption | omega | fail)⟩ : rg (u4_70 + 1)), ?_⟩
                exact ih_29 _ _ _ (show (61 - (u4_70 + 1) : Int) < ((m_29 : Nat) : Int) from by ((first | omega | (simp only [st_s] <;> omega) | assumption | omega | fail))) hT (show τ_70.1 3 = σ.1 3 from by first | exact W3 | omega) (show τ_70.1 5 = σ.1 5 from by first | exact W5 | omega) (show τ_70.1 6 = σ.1 6 from by first | exact W6 | omega) (show τ_70.1 7 = σ.1 7 from by first | exact W7 | omega) (show τ_70.1 8 = σ.1 8 from by first | exact W8 | omega) (show τ_70.1 9 = σ.1 9 from by first | exact W9 | omega) (show τ_70.1 11 = σ.1 11 from by first | exact W11 | omega) (show τ_70.1 45 = σ.1 45 from by first | exact W45 | omega) (show τ_70.1 46 = σ.1 46 from by first | exact W46 | omega) G8 G10 G11 G12 G13 G14 G15 G16 G18 G19 G20 G71 G72 G73 G21 G22 G25 G26 G28 (show 0 ≤ u3_70 ∧ u3_70 < (σ.1 46) from by (first | omega | (simp only [st_s] <;> omega) | assumption | omega | fail)) (show 0 ≤ (u4_70 + 1) ∧ (u4_70 + 1) ≤ 60 from by (first | omega | (simp only [st_s] <;> omega) | assumption | omega | fail)) (show y_QD τ_70 from by (first | exact i18_2 | exact i70_4 | fail)) (show ¬ (τ_70.1 49) = 0 from by (first | omega | (simp only [st_s] <;> omega) | assumption | omega | fail)) (show (τ_70.1 50) = n2 from by (first | omega | (simp only [st_s] <;> omega) | assumption | omega | fail)) (show ∀ s p q : Int, 0 ≤ s → s < (σ.1 46) → 0 ≤ p → p < q → q ≤ (σ.1 45) → (s < u3_70 ∨ (s = u3_70 ∧ p < (u4_70 + 1))) → τ_70.2.1 75 ((s * 61 + p) * 61 + q) = 0 ∧ τ_70.2.1 76 ((s * 61 + p) * 61 + q) = -1 from by (first | (intro s p q a b c d e f; exact i18_5 s p q a b c d e (by omega)) | (intro s p q a b c d e f; exact i70_7 s p q a b c d e (by omega)) | fail)) (show ∀ s q : Int, 0 ≤ s → s < (σ.1 46) → 0 ≤ q → q ≤ (σ.1 45) → (s < u3_70 ∨ (s = u3_70 ∧ q < (u4_70 + 1))) → τ_70.2.2 3 (61 * s + q) = 0 ∧ τ_70.2.2 4 (61 * s + q) = 0 from by (first | (intro s q a b c d e; exact i18_6 s q a b c d (by omega)) | (intro s q a b c d e; exact i70_8 s q a b c d (by omega)) | fail)) (show u3_70 + (m_18 : Int) ≥ 101 from by (first | omega | (simp only [st_s] <;> omega) | assumption | omega | fail))
              ·
                refine ⟨_, K_X13_wayAt hT (show 0 ≤ u3_70 ∧ u3_70 ≤ 99 from by (first | omega | (simp only [st_s] <;> omega) | assumption | omega | fail)) (show 0 ≤ u4_70 ∧ u4_70 ≤ 60 from by (first | omega | (simp only [st_s] <;> omega) | assumption | omega | fail)) (show 0 ≤ u5_70 ∧ u5_70 ≤ 60 from by (first | omega | (simp only [st_s] <;> omega) | assumption | omega | fail)), ?_⟩
                intro x28 r_x28 hq
                obtain ⟨q27_1, q27_2⟩ := hq
                replace q27_1 : x28 = (u3_70 * 61 + u4_70) * 61 + u5_70 := q27_1
                replace q27_2 : 0 ≤ x28 ∧ x28 < 372100 := q27_2
                refine ⟨(show 0 ≤ x28 ∧ x28 < 372100 from by (first | omega | (simp only [st_s] <;> omega) | assumption | omega | fail)), ?_⟩
                replace hT := mT_a (k := 75) (j := x28) hT (show (0 : Int) ≤ 0 ∧ 0 ≤ 3 from by (first | omega | (simp only [st_s] <;> omega) | assumption | omega | fail))
                refine ⟨_, K_X13_wayAt hT (show 0 ≤ u3_70 ∧ u3_70 ≤ 99 from by (first | omega | (simp only [st_s] <;> omega) | assumption | omega | fail)) (show 0 ≤ u4_70 ∧ u4_70 ≤ 60 from by (first | omega | (simp only [st_s] <;> omega) | assumption | omega | fail)) (show 0 ≤ u5_70 ∧ u5_70 ≤ 60 from by (first | omega | (simp only [st_s] <;> omega) | assumption | omega | fail)), ?_⟩
                intro x32 r_x32 hq
                obtain ⟨q31_1, q31_2⟩ := hq
                replace q31_1 : x32 = (u3_70 * 61 + u4_70) * 61 + u5_70 := q31_1
                replace q31_2 : 0 ≤ x32 ∧ x32 < 372100 := q31_2
                refine ⟨(show 0 ≤ x32 ∧ x32 < 372100 from by (first | omega | (simp only [st_s] <;> omega) | assumption | omega | fail)), ?_⟩
                replace hT := mT_a (k := 76) (j := x32) hT (show (-1 : Int) ≤ (-1) ∧ (-1) ≤ 1499 from by (first | omega | (simp only [st_s] <;> omega) | assumption | omega | fail))
                refine ⟨(⟨by (first | omega | (simp only [st_s] <;> omega) | assumption | omega | fail), by (first | omega | (simp only [st_s] <;> omega) | assumption | omega | fail)⟩ : rg (u5_70 + 1)), ?_⟩
                exact ih_70 _ _ _ _ (show (62 - (u5_70 + 1) : Int) < ((m_70 : Nat) : Int) from by ((first | omega | (simp only [st_s] <;> omega) | assumption | omega | fail))) hT (show τ_70.1 3 = σ.1 3 from by first | exact W3 | omega) (show τ_70.1 5 = σ.1 5 from by first | exact W5 | omega) (show τ_70.1 6 = σ.1 6 from by first | exact W6 | omega) (show τ_70.1 7 = σ.1 7 from by first | exact W7 | omega) (show τ_70.1 8 = σ.1 8 from by first | exact W8 | omega) (show τ_70.1 9 = σ.1 9 from by first | exact W9 | omega) (show τ_70.1 11 = σ.1 11 from by first | exact W11 | omega) (show τ_70.1 45 = σ.1 45 from by first | exact W45 | omega) (show τ_70.1 46 = σ.1 46 from by first | exact W46 | omega) G8 G10 G11 G12 G13 G14 G15 G16 G18 G19 G20 G71 G72 G73 G21 G22 G25 G26 G28 (show 0 ≤ u3_70 ∧ u3_70 < (σ.1 46) from by (first | omega | (simp only [st_s] <;> omega) | assumption | omega | fail)) (show 0 ≤ u4_70 ∧ u4_70 ≤ (σ.1 45) from by (first | omega | (simp only [st_s] <;> omega) | assumption | omega | fail)) (show u4_70 < (u5_70 + 1) ∧ (u5_70 + 1) ≤ 61 from by (first | omega | (simp only [st_s] <;> omega) | assumption | omega | fail)) (show y_QD (s_a (s_a τ_70 75 x28 0) 76 x32 (-1)) from by (first | exact i29_3 | exact i70_4 | fail)) (show ¬ (τ_70.1 49) = 0 from by (first | omega | (simp only [st_s] <;> omega) | assumption | omega | fail)) (show (τ_70.1 50) = n2 from by (first | omega | (simp only [st_s] <;> omega) | assumption | omega | fail)) (show ∀ s p q : Int, 0 ≤ s → s < (σ.1 46) → 0 ≤ p → p < q → q ≤ (σ.1 45) → (s < u3_70 ∨ (s = u3_70 ∧ (p < u4_70 ∨ (p = u4_70 ∧ q < (u5_70 + 1))))) → (st (τ_70.2.1 75) x28 0) ((s * 61 + p) * 61 + q) = 0 ∧ (st (τ_70.2.1 76) x32 (-1)) ((s * 61 + p) * 61 + q) = -1 from by (first | (intro s p q a b c d e f; exact i29_6 s p q a b c d e (by omega)) | (intro s p q a b c d e f; by_cases z : s = u3_70 ∧ p = u4_70 ∧ q = u5_70; (have q9 := z; obtain ⟨z1, z2, z3⟩ := q9; rw [z1, z2, z3, q27_1, q31_1, st_s, st_s]; exact ⟨rfl, rfl⟩); (rw [q27_1, q31_1, st_n _ _ (by omega), st_n _ _ (by omega)]; exact i70_7 s p q a b c d e (by omega))) | fail)) (show ∀ s q : Int, 0 ≤ s → s < (σ.1 46) → 0 ≤ q → q ≤ (σ.1 45) → (s < u3_70 ∨ (s = u3_70 ∧ q ≤ u4_70)) → τ_70.2.2 3 (61 * s + q) = 0 ∧ τ_70.2.2 4 (61 * s + q) = 0 from by (first | exact i70_8 | (intro s q a b c d e; by_cases z : s = u3_29 ∧ q = u4_29; (have q9 := z; obtain ⟨z1, z2⟩ := q9; rw [z1, z2, st_s, st_s]; exact ⟨rfl, rfl⟩); (rw [st_n _ _ (by omega), st_n _ _ (by omega)]; exact i29_7 s q a b c d (by omega))) | fail)) (show u4_70 + (m_29 : Int) ≥ 61 from by (first | omega | (simp only [st_s] <;> omega) | assumption | omega | fail)) (show u3_70 + (m_18 : Int) ≥ 101 from by (first | omega | (simp only [st_s] <;> omega) | assumption | omega | fail))
          refine h29 n1 n2 u3_29 u4_29 τ_29 ?_
          refine ⟨fun c15 => ?_, fun c15 => ?_⟩
          ·
            refine ⟨(⟨by (first | omega | (simp only [st_s] <;> omega) | assumption | omega | fail), by (first | omega | (simp only [st_s] <;> omega) | assumption | omega | fail)⟩ : rg (u3_29 + 1)), ?_⟩
            exact ih_18 _ _ (show (101 - (u3_29 + 1) : Int) < ((m_18 : Nat) : Int) from by ((first | omega | (simp only [st_s] <;> omega) | assumption | omega | fail))) hT (show τ_29.1 3 = σ.1 3 from by first | exact W3 | omega) (show τ_29.1 5 = σ.1 5 from by first | exact W5 | omega) (show τ_29.1 6 = σ.1 6 from by first | exact W6 | omega) (show τ_29.1 7 = σ.1 7 from by first | exact W7 | omega) (show τ_29.1 8 = σ.1 8 from by first | exact W8 | omega) (show τ_29.1 9 = σ.1 9 from by first | exact W9 | omega) (show τ_29.1 11 = σ.1 11 from by first | exact W11 | omega) (show τ_29.1 45 = σ.1 45 from by first | exact W45 | omega) (show τ_29.1 46 = σ.1 46 from by first | exact W46 | omega) G8 G10 G11 G12 G13 G14 G15 G16 G18 G19 G20 G71 G72 G73 G21 G22 G25 G26 G28 (show 0 ≤ (u3_29 + 1) ∧ (u3_29 + 1) ≤ (σ.1 46) from by (first | omega | (simp only [st_s] <;> omega) | assumption | omega | fail)) (show y_QD τ_29 from by (first | exact QD4 | exact QD0 (by assumption) | exact i29_3 | fail)) (show ¬ (τ_29.1 49) = 0 from by (first | omega | (simp only [st_s] <;> omega) | assumption | omega | fail)) (show (τ_29.1 50) = n2 from by (first | omega | (simp only [st_s] <;> omega) | assumption | omega | fail)) (show ∀ s p q : Int, 0 ≤ s → s < (σ.1 46) → 0 ≤ p → p < q → q ≤ (σ.1 45) → (s < (u3_29 + 1)) → τ_29.2.1 75 ((s * 61 + p) * 61 + q) = 0 ∧ τ_29.2.1 76 ((s * 61 + p) * 61 + q) = -1 from by (first | (intro s p q a b c d e f; exfalso; omega) | (intro s p q a b c d e f; exact i29_6 s p q a b c d e (by omega)) | fail)) (show ∀ s q : Int, 0 ≤ s → s < (σ.1 46) → 0 ≤ q → q ≤ (σ.1 45) → (s < (u3_29 + 1)) → τ_29.2.2 3 (61 * s + q) = 0 ∧ τ_29.2.2 4 (61 * s + q) = 0 from by (first | (intro s q a b c d e; exfalso; omega) | (intro s q a b c d e; exact i29_7 s q a b c d (by omega)) | fail))
          ·
            refine ⟨(show 0 ≤ ((61 * u3_29) + u4_29) ∧ ((61 * u3_29) + u4_29) < 6200 from by (first | omega | (simp only [st_s] <;> omega) | assumption | omega | fail)), ?_⟩
            replace hT := mT_b (k := 3) (j := ((61 * u3_29) + u4_29)) (x := 0) hT
            replace hT := mT_b (k := 4) (j := ((61 * u3_29) + u4_29)) (x := 0) hT
            refine ⟨(⟨by (first | omega | (simp only [st_s] <;> omega) | assumption | omega | fail), by (first | omega | (simp only [st_s] <;> omega) | assumption | omega | fail)⟩ : rg (u4_29 + 1)), ?_⟩
            exact l_70 ((62 - (u4_29 + 1) : Int).toNat + 1) _ _ _ _ (show (62 - (u4_29 + 1) : Int) < (((62 - (u4_29 + 1) : Int).toNat + 1 : Nat) : Int) from by ((first | omega | (simp only [st_s] <;> omega) | assumption | omega | fail))) hT (show τ_29.1 3 = σ.1 3 from by first | exact W3 | omega) (show τ_29.1 5 = σ.1 5 from by first | exact W5 | omega) (show τ_29.1 6 = σ.1 6 from by first | exact W6 | omega) (show τ_29.1 7 = σ.1 7 from by first | exact W7 | omega) (show τ_29.1 8 = σ.1 8 from by first | exact W8 | omega) (show τ_29.1 9 = σ.1 9 from by first | exact W9 | omega) (show τ_29.1 11 = σ.1 11 from by first | exact W11 | omega) (show τ_29.1 45 = σ.1 45 from by first | exact W45 | omega) (show τ_29.1 46 = σ.1 46 from by first | exact W46 | omega) G8 G10 G11 G12 G13 G14 G15 G16 G18 G19 G20 G71 G72 G73 G21 G22 G25 G26 G28 (show 0 ≤ u3_29 ∧ u3_29 < (σ.1 46) from by (first | omega | (simp only [st_s] <;> omega) | assumption | omega | fail)) (show 0 ≤ u4_29 ∧ u4_29 ≤ (σ.1 45) from by (first | omega | (simp only [st_s] <;> omega) | assumption | omega | fail)) (show u4_29 < (u4_29 + 1) ∧ (u4_29 + 1) ≤ 61 from by (first | omega | (simp only [st_s] <;> omega) | assumption | omega | fail)) (show y_QD (s_b (s_b τ_29 3 ((61 * u3_29) + u4_29) 0) 4 ((61 * u3_29) + u4_29) 0) from by (first | exact i29_3 | exact i70_4 | fail)) (show ¬ (τ_29.1 49) = 0 from by (first | omega | (simp only [st_s] <;> omega) | assumption | omega | fail)) (show (τ_29.1 50) = n2 from by (first | omega | (simp only [st_s] <;> omega) | assumption | omega | fail)) (show ∀ s p q : Int, 0 ≤ s → s < (σ.1 46) → 0 ≤ p → p < q → q ≤ (σ.1 45) → (s < u3_29 ∨ (s = u3_29 ∧ (p < u4_29 ∨ (p = u4_29 ∧ q < (u4_29 + 1))))) → τ_29.2.1 75 ((s * 61 + p) * 61 + q) = 0 ∧ τ_29.2.1 76 ((s * 61 + p) * 61 + q) = -1 from by (first | (intro s p q a b c d e f; exact i29_6 s p q a b c d e (by omega)) | (intro s p q a b c d e f; by_cases z : s = u3_70 ∧ p = u4_70 ∧ q = u5_70; (have q9 := z; obtain ⟨z1, z2, z3⟩ := q9; rw [z1, z2, z3, q27_1, q31_1, st_s, st_s]; exact ⟨rfl, rfl⟩); (rw [q27_1, q31_1, st_n _ _ (by omega), st_n _ _ (by omega)]; exact i70_7 s p q a b c d e (by omega))) | fail)) (show ∀ s q : Int, 0 ≤ s → s < (σ.1 46) → 0 ≤ q → q ≤ (σ.1 45) → (s < u3_29 ∨ (s = u3_29 ∧ q ≤ u4_29)) → (st (τ_29.2.2 3) ((61 * u3_29) + u4_29) 0) (61 * s + q) = 0 ∧ (st (τ_29.2.2 4) ((61 * u3_29) + u4_29) 0) (61 * s + q) = 0 from by (first | exact i70_8 | (intro s q a b c d e; by_cases z : s = u3_29 ∧ q = u4_29; (have q9 := z; obtain ⟨z1, z2⟩ := q9; rw [z1, z2, st_s, st_s]; exact ⟨rfl, rfl⟩); (rw [st_n _ _ (by omega), st_n _ _ (by omega)]; exact i29_7 s q a b c d (by omega))) | fail)) (show u4_29 + (m_29 : Int) ≥ 61 from by (first | omega | (simp only [st_s] <;> omega) | assumption | omega | fail)) (show u3_29 + (m_18 : Int) ≥ 101 from by (first | omega | (simp only [st_s] <;> omega) | assumption | omega | fail))
      refine h18 n1 n2 u3_18 τ_18 ?_
      refine ⟨fun c5 => ?_, fun c5 => ?_⟩
      ·
        refine ⟨(⟨by (first | omega | (simp only [st_s] <;> omega) | assumption | omega | fail), by (first | omega | (simp only [st_s] <;> omega) | assumption | omega | fail)⟩ : rg (τ_18.1 45 - 1)), ?_⟩
        exact l_134 (((τ_18.1 45 - 1) + 1 : Int).toNat + 1) _ _ (show ((τ_18.1 45 - 1) + 1 : Int) < ((((τ_18.1 45 - 1) + 1 : Int).toNat + 1 : Nat) : Int) from by ((first | omega | (simp only [st_s] <;> omega) | assumption | omega | fail))) hT (show τ_18.1 3 = σ.1 3 from by first | exact W3 | omega) (show τ_18.1 5 = σ.1 5 from by first | exact W5 | omega) (show τ_18.1 6 = σ.1 6 from by first | exact W6 | omega) (show τ_18.1 7 = σ.1 7 from by first | exact W7 | omega) (show τ_18.1 8 = σ.1 8 from by first | exact W8 | omega) (show τ_18.1 9 = σ.1 9 from by first | exact W9 | omega) (show τ_18.1 11 = σ.1 11 from by first | exact W11 | omega) (show τ_18.1 45 = σ.1 45 from by first | exact W45 | omega) (show τ_18.1 46 = σ.1 46 from by first | exact W46 | omega) G8 G10 G11 G12 G13 G14 G15 G16 G18 G19 G20 G71 G72 G73 G21 G22 G25 G26 G28 (show -1 ≤ (τ_18.1 45 - 1) ∧ (τ_18.1 45 - 1) < (σ.1 45) ∨ ((τ_18.1 45 - 1) = -1) from by (first | omega | (simp only [st_s] <;> omega) | assumption | omega | fail)) (show y_QD τ_18 from by (first | exact i18_2 | exact i192_3 | fail)) (show ¬ (τ_18.1 49) = 0 from by (first | omega | (simp only [st_s] <;> omega) | assumption | omega | fail)) (show (τ_18.1 50) = n2 from by (first | omega | (simp only [st_s] <;> omega) | assumption | omega | fail)) (show y_GD σ (τ_18.2.1 75) (τ_18.2.1 76) n2 ((τ_18.1 45 - 1)) (0) from by (first | exact ⟨⟨fun _ _ _ => 0, fun t p q a b c d => by exfalso; unfold y_dn at d; omega⟩, fun t p q x y z a b c d => by exfalso; unfold y_dn at d; omega, fun s p q x y a b c d => i18_5 s p q x (by omega) a b c (by omega)⟩ | exact y_GD_e i192_6 (fun p q a b c => by unfold y_dn; omega) | fail)) (show y_St (σ.1 3) (σ.1 45) ((τ_18.1 45 - 1)) ((τ_18.1 45 - 1)) (σ.2.1 71) (y_W1 (σ.1 3) (σ.2.1 71) (τ_18.2.1 75)) (y_W2 (σ.1 3) (σ.2.1 71) (τ_18.2.1 75)) (τ_18.2.2 3) (τ_18.2.2 4) from by (first | exact y_St_0 soS (fun s q a b c d => i18_6 s q a b c d (by omega)) (by omega) | exact y_St_e i192_7 (fun p q a b => by omega) | fail))
      ·
        exact l_29 ((61 - 0 : Int).toNat + 1) _ _ _ (show (61 - 0 : Int) < (((61 - 0 : Int).toNat + 1 : Nat) : Int) from by ((first | omega | (simp only [st_s] <;> omega) | assumption | omega | fail))) hT (show τ_18.1 3 = σ.1 3 from by first | exact W3 | omega) (show τ_18.1 5 = σ.1 5 from by first | exact W5 | omega) (show τ_18.1 6 = σ.1 6 from by first | exact W6 | omega) (show τ_18.1 7 = σ.1 7 from by first | exact W7 | omega) (show τ_18.1 8 = σ.1 8 from by first | exact W8 | omega) (show τ_18.1 9 = σ.1 9 from by first | exact W9 | omega) (show τ_18.1 11 = σ.1 11 from by first | exact W11 | omega) (show τ_18.1 45 = σ.1 45 from by first | exact W45 | omega) (show τ_18.1 46 = σ.1 46 from by first | exact W46 | omega) G8 G10 G11 G12 G13 G14 G15 G16 G18 G19 G20 G71 G72 G73 G21 G22 G25 G26 G28 (show 0 ≤ u3_18 ∧ u3_18 < (σ.1 46) from by (first | omega | (simp only [st_s] <;> omega) | assumption | omega | fail)) (show 0 ≤ 0 ∧ 0 ≤ 60 from by (first | omega | (simp only [st_s] <;> omega) | assumption | omega | fail)) (show y_QD τ_18 from by (first | exact i18_2 | exact i70_4 | fail)) (show ¬ (τ_18.1 49) = 0 from by (first | omega | (simp only [st_s] <;> omega) | assumption | omega | fail)) (show (τ_18.1 50) = n2 from by (first | omega | (simp only [st_s] <;> omega) | assumption | omega | fail)) (show ∀ s p q : Int, 0 ≤ s → s < (σ.1 46) → 0 ≤ p → p < q → q ≤ (σ.1 45) → (s < u3_18 ∨ (s = u3_18 ∧ p < 0)) → τ_18.2.1 75 ((s * 61 + p) * 61 + q) = 0 ∧ τ_18.2.1 76 ((s * 61 + p) * 61 + q) = -1 from by (first | (intro s p q a b c d e f; exact i18_5 s p q a b c d e (by omega)) | (intro s p q a b c d e f; exact i70_7 s p q a b c d e (by omega)) | fail)) (show ∀ s q : Int, 0 ≤ s → s < (σ.1 46) → 0 ≤ q → q ≤ (σ.1 45) → (s < u3_18 ∨ (s = u3_18 ∧ q < 0)) → τ_18.2.2 3 (61 * s + q) = 0 ∧ τ_18.2.2 4 (61 * s + q) = 0 from by (first | (intro s q a b c d e; exact i18_6 s q a b c d (by omega)) | (intro s q a b c d e; exact i70_8 s q a b c d (by omega)) | fail)) (show u3_18 + (m_18 : Int) ≥ 101 from by (first | omega | (simp only [st_s] <;> omega) | assumption | omega | fail))
  replace hT := mT_v (i := 50) hT (show 0 ≤ n2 ∧ n2 ≤ 1500 from by (first | omega | (simp only [st_s] <;> omega) | assumption | omega | fail))
  refine ⟨fun c1 => ?_, fun c1 => ?_⟩
  ·
    exact l_18 ((101 - 0 : Int).toNat + 1) _ _ (show (101 - 0 : Int) < (((101 - 0 : Int).toNat + 1 : Nat) : Int) from by ((first | omega | (simp only [st_s] <;> omega) | assumption | omega | fail))) hT (show σ.1 3 = σ.1 3 from by first | exact W3 | omega) (show σ.1 5 = σ.1 5 from by first | exact W5 | omega) (show σ.1 6 = σ.1 6 from by first | exact W6 | omega) (show σ.1 7 = σ.1 7 from by first | exact W7 | omega) (show σ.1 8 = σ.1 8 from by first | exact W8 | omega) (show σ.1 9 = σ.1 9 from by first | exact W9 | omega) (show σ.1 11 = σ.1 11 from by first | exact W11 | omega) (show σ.1 45 = σ.1 45 from by first | exact W45 | omega) (show σ.1 46 = σ.1 46 from by first | exact W46 | omega) G8 G10 G11 G12 G13 G14 G15 G16 G18 G19 G20 G71 G72 G73 G21 G22 G25 G26 G28 (show 0 ≤ 0 ∧ 0 ≤ (σ.1 46) from by (first | omega | (simp only [st_s] <;> omega) | assumption | omega | fail)) (show y_QD (s_v σ 50 n2) from by (first | exact QD4 | exact QD0 (by assumption) | exact i29_3 | fail)) (show ¬ (σ.1 49) = 0 from by (first | omega | (simp only [st_s] <;> omega) | assumption | omega | fail)) (show (n2) = n2 from by (first | omega | (simp only [st_s] <;> omega) | assumption | omega | fail)) (show ∀ s p q : Int, 0 ≤ s → s < (σ.1 46) → 0 ≤ p → p < q → q ≤ (σ.1 45) → (s < 0) → σ.2.1 75 ((s * 61 + p) * 61 + q) = 0 ∧ σ.2.1 76 ((s * 61 + p) * 61 + q) = -1 from by (first | (intro s p q a b c d e f; exfalso; omega) | (intro s p q a b c d e f; exact i29_6 s p q a b c d e (by omega)) | fail)) (show ∀ s q : Int, 0 ≤ s → s < (σ.1 46) → 0 ≤ q → q ≤ (σ.1 45) → (s < 0) → σ.2.2 3 (61 * s + q) = 0 ∧ σ.2.2 4 (61 * s + q) = 0 from by (first | (intro s q a b c d e; exfalso; omega) | (intro s q a b c d e; exact i29_7 s q a b c d (by omega)) | fail))
  ·
    refine ⟨_, K_X13_treeRules hT (show m_J (s_v σ 50 n2) from by exact p7), ?_⟩
    intro τ4 hn_τ4 hf_τ4 hq
    obtain ⟨hT, q2_1, q2_2, q2_3⟩ := hq
    replace q2_1 : y_TT (s_v σ 50 n2) τ4 (σ.1 5) (σ.1 5) := q2_1
    replace q2_2 : y_Un (s_v σ 50 n2) (σ.1 5) (τ4.1 48) (τ4.2.1 84) := q2_2
    replace q2_3 : (τ4.1 49) = 1 := q2_3
    have w3_τ4 : τ4.1 3 = σ.1 3 := hf_τ4.1 3 (by decide)
    have w5_τ4 : τ4.1 5 = σ.1 5 := hf_τ4.1 5 (by decide)
    have w6_τ4 : τ4.1 6 = σ.1 6 := hf_τ4.1 6 (by decide)
    have w7_τ4 : τ4.1 7 = σ.1 7 := hf_τ4.1 7 (by decide)
    have w8_τ4 : τ4.1 8 = σ.1 8 := hf_τ4.1 8 (by decide)
    have w9_τ4 : τ4.1 9 = σ.1 9 := hf_τ4.1 9 (by decide)
    have w11_τ4 : τ4.1 11 = σ.1 11 := hf_τ4.1 11 (by decide)
    have w45_τ4 : τ4.1 45 = σ.1 45 := hf_τ4.1 45 (by decide)
    have w46_τ4 : τ4.1 46 = σ.1 46 := hf_τ4.1 46 (by decide)
    have w50_τ4 : τ4.1 50 = n2 := hf_τ4.1 50 (by decide)
    have g8_τ4 : τ4.2.1 8 = σ.2.1 8 := hf_τ4.2.1 8 (by decide)
    have g10_τ4 : τ4.2.1 10 = σ.2.1 10 := hf_τ4.2.1 10 (by decide)
    have g11_τ4 : τ4.2.1 11 = σ.2.1 11 := hf_τ4.2.1 11 (by decide)
    have g12_τ4 : τ4.2.1 12 = σ.2.1 12 := hf_τ4.2.1 12 (by decide)
    have g13_τ4 : τ4.2.1 13 = σ.2.1 13 := hf_τ4.2.1 13 (by decide)
    have g14_τ4 : τ4.2.1 14 = σ.2.1 14 := hf_τ4.2.1 14 (by decide)
    have g15_τ4 : τ4.2.1 15 = σ.2.1 15 := hf_τ4.2.1 15 (by decide)
    have g16_τ4 : τ4.2.1 16 = σ.2.1 16 := hf_τ4.2.1 16 (by decide)
    have g18_τ4 : τ4.2.1 18 = σ.2.1 18 := hf_τ4.2.1 18 (by decide)
    have g19_τ4 : τ4.2.1 19 = σ.2.1 19 := hf_τ4.2.1 19 (by decide)
    have g20_τ4 : τ4.2.1 20 = σ.2.1 20 := hf_τ4.2.1 20 (by decide)
    have g71_τ4 : τ4.2.1 71 = σ.2.1 71 := hf_τ4.2.1 71 (by decide)
    have g72_τ4 : τ4.2.1 72 = σ.2.1 72 := hf_τ4.2.1 72 (by decide)
    have g73_τ4 : τ4.2.1 73 = σ.2.1 73 := hf_τ4.2.1 73 (by decide)
    have g75_τ4 : τ4.2.1 75 = σ.2.1 75 := hf_τ4.2.1 75 (by decide)
    have g76_τ4 : τ4.2.1 76 = σ.2.1 76 := hf_τ4.2.1 76 (by decide)
    have g21_τ4 : τ4.2.1 21 = σ.2.1 21 := hf_τ4.2.1 21 (by decide)
    have g22_τ4 : τ4.2.1 22 = σ.2.1 22 := hf_τ4.2.1 22 (by decide)
    have g25_τ4 : τ4.2.1 25 = σ.2.1 25 := hf_τ4.2.1 25 (by decide)
    have g26_τ4 : τ4.2.1 26 = σ.2.1 26 := hf_τ4.2.1 26 (by decide)
    have g28_τ4 : τ4.2.1 28 = σ.2.1 28 := hf_τ4.2.1 28 (by decide)
    have W3 : τ4.1 3 = σ.1 3 := by first | exact w3_τ4.trans W3 | omega
    have W5 : τ4.1 5 = σ.1 5 := by first | exact w5_τ4.trans W5 | omega
    have W6 : τ4.1 6 = σ.1 6 := by first | exact w6_τ4.trans W6 | omega
    have W7 : τ4.1 7 = σ.1 7 := by first | exact w7_τ4.trans W7 | omega
    have W8 : τ4.1 8 = σ.1 8 := by first | exact w8_τ4.trans W8 | omega
    have W9 : τ4.1 9 = σ.1 9 := by first | exact w9_τ4.trans W9 | omega
    have W11 : τ4.1 11 = σ.1 11 := by first | exact w11_τ4.trans W11 | omega
    have W45 : τ4.1 45 = σ.1 45 := by first | exact w45_τ4.trans W45 | omega
    have W46 : τ4.1 46 = σ.1 46 := by first | exact w46_τ4.trans W46 | omega
    have G8 : τ4.2.1 8 = σ.2.1 8 := (g8_τ4).trans G8
    have G10 : τ4.2.1 10 = σ.2.1 10 := (g10_τ4).trans G10
    have G11 : τ4.2.1 11 = σ.2.1 11 := (g11_τ4).trans G11
    have G12 : τ4.2.1 12 = σ.2.1 12 := (g12_τ4).trans G12
    have G13 : τ4.2.1 13 = σ.2.1 13 := (g13_τ4).trans G13
    have G14 : τ4.2.1 14 = σ.2.1 14 := (g14_τ4).trans G14
    have G15 : τ4.2.1 15 = σ.2.1 15 := (g15_τ4).trans G15
    have G16 : τ4.2.1 16 = σ.2.1 16 := (g16_τ4).trans G16
    have G18 : τ4.2.1 18 = σ.2.1 18 := (g18_τ4).trans G18
    have G19 : τ4.2.1 19 = σ.2.1 19 := (g19_τ4).trans G19
    have G20 : τ4.2.1 20 = σ.2.1 20 := (g20_τ4).trans G20
    have G71 : τ4.2.1 71 = σ.2.1 71 := (g71_τ4).trans G71
    have G72 : τ4.2.1 72 = σ.2.1 72 := (g72_τ4).trans G72
    have G73 : τ4.2.1 73 = σ.2.1 73 := (g73_τ4).trans G73
    have G21 : τ4.2.1 21 = σ.2.1 21 := (g21_τ4).trans G21
    have G22 : τ4.2.1 22 = σ.2.1 22 := (g22_τ4).trans G22
    have G25 : τ4.2.1 25 = σ.2.1 25 := (g25_τ4).trans G25
    have G26 : τ4.2.1 26 = σ.2.1 26 := (g26_τ4).trans G26
    have G28 : τ4.2.1 28 = σ.2.1 28 := (g28_τ4).trans G28
    have A8 : ∀ j, 0 ≤ τ4.2.1 8 j ∧ τ4.2.1 8 j ≤ 1 := fun j => hT.2 8 j
    have A10 : ∀ j, (-1) ≤ τ4.2.1 10 j ∧ τ4.2.1 10 j ≤ 999 := fun j => hT.2 10 j
    have A11 : ∀ j, (-1) ≤ τ4.2.1 11 j ∧ τ4.2.1 11 j ≤ 1499 := fun j => hT.2 11 j
    have A12 : ∀ j, 0 ≤ τ4.2.1 12 j ∧ τ4.2.1 12 j ≤ 1 := fun j => hT.2 12 j
    have A13 : ∀ j, 0 ≤ τ4.2.1 13 j ∧ τ4.2.1 13 j ≤ 4 := fun j => hT.2 13 j
    have A14 : ∀ j, 0 ≤ τ4.2.1 14 j ∧ τ4.2.1 14 j ≤ 30000 := fun j => hT.2 14 j
    have A15 : ∀ j, 0 ≤ τ4.2.1 15 j ∧ τ4.2.1 15 j ≤ 300 := fun j => hT.2 15 j
    have A16 : ∀ j, 0 ≤ τ4.2.1 16 j ∧ τ4.2.1 16 j ≤ 999 := fun j => hT.2 16 j
    have A18 : ∀ j, 0 ≤ τ4.2.1 18 j ∧ τ4.2.1 18 j ≤ 90000 := fun j => hT.2 18 j
    have A19 : ∀ j, 0 ≤ τ4.2.1 19 j ∧ τ4.2.1 19 j ≤ 60 := fun j => hT.2 19 j
    have A20 : ∀ j, 0 ≤ τ4.2.1 20 j ∧ τ4.2.1 20 j ≤ 1499 := fun j => hT.2 20 j
    have A71 : ∀ j, (-1) ≤ τ4.2.1 71 j ∧ τ4.2.1 71 j ≤ 99 := fun j => hT.2 71 j
    have A72 : ∀ j, 0 ≤ τ4.2.1 72 j ∧ τ4.2.1 72 j ≤ 999 := fun j => hT.2 72 j
    have A73 : ∀ j, (-1) ≤ τ4.2.1 73 j ∧ τ4.2.1 73 j ≤ 99 := fun j => hT.2 73 j
    have A75 : ∀ j, 0 ≤ τ4.2.1 75 j ∧ τ4.2.1 75 j ≤ 3 := fun j => hT.2 75 j
    have A76 : ∀ j, (-1) ≤ τ4.2.1 76 j ∧ τ4.2.1 76 j ≤ 1499 := fun j => hT.2 76 j
    have A77 : ∀ j, (-1001) ≤ τ4.2.1 77 j ∧ τ4.2.1 77 j ≤ 999 := fun j => hT.2 77 j
    have A78 : ∀ j, (-1) ≤ τ4.2.1 78 j ∧ τ4.2.1 78 j ≤ 30001 := fun j => hT.2 78 j
    have A83 : ∀ j, 0 ≤ τ4.2.1 83 j ∧ τ4.2.1 83 j ≤ 1500 := fun j => hT.2 83 j
    have A21 : ∀ j, 0 ≤ τ4.2.1 21 j ∧ τ4.2.1 21 j ≤ 20000 := fun j => hT.2 21 j
    have A22 : ∀ j, 0 ≤ τ4.2.1 22 j ∧ τ4.2.1 22 j ≤ 20000 := fun j => hT.2 22 j
    have A25 : ∀ j, 0 ≤ τ4.2.1 25 j ∧ τ4.2.1 25 j ≤ 20000 := fun j => hT.2 25 j
    have A26 : ∀ j, 0 ≤ τ4.2.1 26 j ∧ τ4.2.1 26 j ≤ 20000 := fun j => hT.2 26 j
    have A28 : ∀ j, 0 ≤ τ4.2.1 28 j ∧ τ4.2.1 28 j ≤ 1 := fun j => hT.2 28 j
    have v3 : 0 ≤ τ4.1 3 ∧ τ4.1 3 ≤ 1000 := hT.1 3
    have v5 : 0 ≤ τ4.1 5 ∧ τ4.1 5 ≤ 1500 := hT.1 5
    have v6 : 0 ≤ τ4.1 6 ∧ τ4.1 6 ≤ 30000 := hT.1 6
    have v7 : 0 ≤ τ4.1 7 ∧ τ4.1 7 ≤ 90000 := hT.1 7
    have v8 : 0 ≤ τ4.1 8 ∧ τ4.1 8 ≤ 20000 := hT.1 8
    have v9 : 0 ≤ τ4.1 9 ∧ τ4.1 9 ≤ 20000 := hT.1 9
    have v11 : (-1) ≤ τ4.1 11 ∧ τ4.1 11 ≤ 999 := hT.1 11
    have v45 : 0 ≤ τ4.1 45 ∧ τ4.1 45 ≤ 59 := hT.1 45
    have v46 : 0 ≤ τ4.1 46 ∧ τ4.1 46 ≤ 100 := hT.1 46
    have v47 : 0 ≤ τ4.1 47 ∧ τ4.1 47 ≤ 30001 := hT.1 47
    have v48 : 0 ≤ τ4.1 48 ∧ τ4.1 48 ≤ 1500 := hT.1 48
    have v49 : 0 ≤ τ4.1 49 ∧ τ4.1 49 ≤ 1 := hT.1 49
    have v50 : 0 ≤ τ4.1 50 ∧ τ4.1 50 ≤ 1500 := hT.1 50
    have SD4 : y_SD (s_v σ 50 n2) τ4 := y_SD_h hf_τ4 rfl rfl
    have SD5 : y_SD σ τ4 := y_SD_t (show y_SD σ (s_v σ 50 n2) from ⟨rfl, rfl, rfl, rfl, rfl, rfl, rfl, rfl, rfl, rfl⟩) SD4
    have QD4 : y_QD τ4 := y_QD_m SD5 W3 W5 W45 W46 G12 G71 G73 (by rw [W5]; exact (y_TT_e SD4).mpr q2_1) (by rw [W5]; exact (y_Un_e SD4).mpr q2_2) p4 ty p5
    exact l_18 ((101 - 0 : Int).toNat + 1) _ _ (show (101 - 0 : Int) < (((101 - 0 : Int).toNat + 1 : Nat) : Int) from by ((first | omega | (simp only [st_s] <;> omega) | assumption | omega | fail))) hT (show τ4.1 3 = σ.1 3 from by first | exact W3 | omega) (show τ4.1 5 = σ.1 5 from by first | exact W5 | omega) (show τ4.1 6 = σ.1 6 from by first | exact W6 | omega) (show τ4.1 7 = σ.1 7 from by first | exact W7 | omega) (show τ4.1 8 = σ.1 8 from by first | exact W8 | omega) (show τ4.1 9 = σ.1 9 from by first | exact W9 | omega) (show τ4.1 11 = σ.1 11 from by first | exact W11 | omega) (show τ4.1 45 = σ.1 45 from by first | exact W45 | omega) (show τ4.1 46 = σ.1 46 from by first | exact W46 | omega) G8 G10 G11 G12 G13 G14 G15 G16 G18 G19 G20 G71 G72 G73 G21 G22 G25 G26 G28 (show 0 ≤ 0 ∧ 0 ≤ (σ.1 46) from by (first | omega | (simp only [st_s] <;> omega) | assumption | omega | fail)) (show y_QD τ4 from by (first | exact QD4 | exact QD0 (by assumption) | exact i29_3 | fail)) (show ¬ (τ4.1 49) = 0 from by (first | omega | (simp only [st_s] <;> omega) | assumption | omega | fail)) (show (τ4.1 50) = n2 from by (first | omega | (simp only [st_s] <;> omega) | assumption | omega | fail)) (show ∀ s p q : Int, 0 ≤ s → s < (σ.1 46) → 0 ≤ p → p < q → q ≤ (σ.1 45) → (s < 0) → τ4.2.1 75 ((s * 61 + p) * 61 + q) = 0 ∧ τ4.2.1 76 ((s * 61 + p) * 61 + q) = -1 from by (first | (intro s p q a b c d e f; exfalso; omega) | (intro s p q a b c d e f; exact i29_6 s p q a b c d e (by omega)) | fail)) (show ∀ s q : Int, 0 ≤ s → s < (σ.1 46) → 0 ≤ q → q ≤ (σ.1 45) → (s < 0) → τ4.2.2 3 (61 * s + q) = 0 ∧ τ4.2.2 4 (61 * s + q) = 0 from by (first | (intro s q a b c d e; exfalso; omega) | (intro s q a b c d e; exact i29_7 s q a b c d (by omega)) | fail))
