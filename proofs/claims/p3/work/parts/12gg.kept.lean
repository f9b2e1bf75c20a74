-- pure: trees are kept over a reading
/-- what stands of a statement -/
def z_ks (σ τ : S0) (r : Int) : Prop := (τ.2.1 13 r = σ.2.1 13 r ∧ τ.2.1 14 r = σ.2.1 14 r ∧ τ.2.1 15 r = σ.2.1 15 r ∧ τ.2.1 18 r = σ.2.1 18 r ∧ τ.2.1 19 r = σ.2.1 19 r) ∧ (∀ q : Int, 0 ≤ q → q < σ.2.1 15 r → (τ.2.1 16 (σ.2.1 14 r + q) = σ.2.1 16 (σ.2.1 14 r + q) ∧ τ.2.1 17 (σ.2.1 14 r + q) = σ.2.1 17 (σ.2.1 14 r + q) ∧ τ.2.1 8 (σ.2.1 16 (σ.2.1 14 r + q)) = σ.2.1 8 (σ.2.1 16 (σ.2.1 14 r + q))) ∧ (¬ σ.2.1 8 (σ.2.1 16 (σ.2.1 14 r + q)) = 0 → τ.2.1 10 (σ.2.1 16 (σ.2.1 14 r + q)) = σ.2.1 10 (σ.2.1 16 (σ.2.1 14 r + q))) ∧ 0 ≤ σ.2.1 16 (σ.2.1 14 r + q) ∧ σ.2.1 16 (σ.2.1 14 r + q) < σ.1 3) ∧ ∀ k : Int, 0 ≤ k → k < σ.2.1 19 r → τ.2.1 20 (σ.2.1 18 r + k) = σ.2.1 20 (σ.2.1 18 r + k) ∧ 0 ≤ σ.2.1 20 (σ.2.1 18 r + k)
theorem z_ks_mk {σ τ : S0} (J : n_J σ) (M : m_J σ) (g : n_kp σ τ) (rl : n_rl σ τ) (hT : m_T σ) {r : Int} (r0 : 0 ≤ r) (r5 : r < σ.1 5) : z_ks σ τ r := by
  have k13 := n_agk g 13 5 (by decide); have k14 := n_agk g 14 5 (by decide); have k15 := n_agk g 15 5 (by decide); have k16 := n_agk g 16 6 (by decide); have k17 := n_agk g 17 6 (by decide)
  have k18 := n_agk g 18 5 (by decide); have k19 := n_agk g 19 5 (by decide); have k20 := n_agk g 20 7 (by decide); have k8 := n_agk g 8 3 (by decide)
  have n14 : 0 ≤ σ.2.1 14 r := (hT.2 14 r).1
  have n18 : 0 ≤ σ.2.1 18 r := (hT.2 18 r).1
  have tu : σ.2.1 14 r + σ.2.1 15 r ≤ σ.1 6 ∧ σ.2.1 18 r + σ.2.1 19 r ≤ σ.1 7 := by have w := (M r r0 r5).1; omega
  refine ⟨⟨k13 r r5, k14 r r5, k15 r r5, k18 r r5, k19 r r5⟩, fun q q0 q1 => ?_, fun k a b => ⟨k20 _ (by omega), (hT.2 20 _).1⟩⟩
  obtain ⟨p1, p2⟩ := (J r r0 r5).1.2.2 (σ.2.1 14 r + q) (by omega) (by omega)
  have x0 : 0 ≤ σ.2.1 16 (σ.2.1 14 r + q) := (hT.2 16 _).1
  refine ⟨⟨k16 _ (by omega), k17 _ (by omega), k8 _ p1⟩, fun iv => ?_, x0, p1⟩
  rcases p2 with ⟨w, _⟩ | ⟨_, w1, w2, w3, w4⟩
  · exact absurd w iv
  · have f := ((J _ w1 (by omega)).1.2.1 w3).2.2.2
    rw [w4] at f
    refine rl.1 _ x0 p1 ?_
    rw [f]
    have : 0 ≤ σ.2.1 16 (σ.2.1 14 (σ.2.1 17 (σ.2.1 14 r + q))) := (hT.2 16 _).1
    omega
/-- the names that make statements and sorts stay -/
theorem z_nm {σ τ : S0} (n : n_tu (σ.1 3) (σ.1 10) (σ.1 11) (σ.2.1 1) (σ.2.1 2) (σ.2.1 3)) (m : n_tu (τ.1 3) (τ.1 10) (τ.1 11) (τ.2.1 1) (τ.2.1 2) (τ.2.1 3)) (nm : n_nm (σ.1 3) (σ.1 2) (σ.2.1 2) (σ.2.1 3)) (g : n_kp σ τ) (rc : n_rc σ τ) (rl : n_rl σ τ) : (0 ≤ σ.1 10 → τ.1 10 = σ.1 10) ∧ (0 ≤ σ.1 11 → τ.1 11 = σ.1 11) := by
  have k2 := n_agk g 2 3 (by decide); have k3 := n_agk g 3 3 (by decide)
  obtain ⟨⟨a1, a2, a3⟩, a4⟩ := n
  obtain ⟨⟨b1, b2, b3⟩, b4⟩ := m
  have le : σ.1 3 ≤ τ.1 3 := rl.2.2.2.2.1
  refine ⟨fun z => ?_, fun z => ?_⟩
  · obtain ⟨w1, w2, w3, w4⟩ := a2 z
    have nn := nm _ z a1.1
    refine ((b4 _ z (by omega)).1 ⟨by rw [k3 _ a1.1]; exact w1, ?_, ?_, ?_⟩).symm
    · rw [k2 _ a1.1, rc.2 _ (by omega)]; exact w2
    · rw [k2 _ a1.1, rc.2 _ (by omega)]; exact w3
    · rw [k2 _ a1.1, rc.2 _ (by omega)]; exact w4
  · obtain ⟨w1, w2, w3⟩ := a3 z
    have nn := nm _ z a1.2
    refine ((b4 _ z (by omega)).2 ⟨by rw [k3 _ a1.2]; exact w1, ?_, ?_⟩).symm
    · rw [k2 _ a1.2, rc.2 _ (by omega)]; exact w2
    · rw [k2 _ a1.2, rc.2 _ (by omega)]; exact w3
/-- all that a reading keeps -/
def z_kr (σ τ : S0) : Prop := (∀ r : Int, 0 ≤ r → r < σ.1 5 → z_ks σ τ r) ∧ (σ.1 3 ≤ τ.1 3 ∧ σ.1 5 ≤ τ.1 5) ∧ (τ.1 10 = σ.1 10 ∨ (σ.1 10 < 0 ∧ (τ.1 10 < 0 ∨ σ.1 3 ≤ τ.1 10))) ∧ (τ.1 11 = σ.1 11 ∨ (σ.1 11 < 0 ∧ (τ.1 11 < 0 ∨ σ.1 3 ≤ τ.1 11))) ∧ ((0 ≤ σ.1 10 → σ.1 10 < σ.1 3) ∧ ∀ s : Int, 0 ≤ s → s < σ.1 3 → τ.2.1 8 s = σ.2.1 8 s)
theorem z_kr_mk {σ τ : S0} (J : n_J σ) (M : m_J σ) (g : n_kp σ τ) (rl : n_rl σ τ) (hT : m_T σ) (n : n_tu (σ.1 3) (σ.1 10) (σ.1 11) (σ.2.1 1) (σ.2.1 2) (σ.2.1 3)) (m : n_tu (τ.1 3) (τ.1 10) (τ.1 11) (τ.2.1 1) (τ.2.1 2) (τ.2.1 3)) (nm : n_nm (σ.1 3) (σ.1 2) (σ.2.1 2) (σ.2.1 3)) (rc : n_rc σ τ) : z_kr σ τ := by
  obtain ⟨x1, x2⟩ := z_nm n m nm g rc rl
  have k8 := n_agk g 8 3 (by decide)
  refine ⟨fun r a b => z_ks_mk J M g rl hT a b, ⟨rl.2.2.2.2.1, g.1 5 (by decide)⟩, ?_, ?_, fun _ => n.1.1.1, fun s _ b => k8 s b⟩
  · by_cases z : 0 ≤ σ.1 10
    · exact Or.inl (x1 z)
    · rcases rl.2.2.1 with w | w
      · exact Or.inl w
      · exact Or.inr ⟨by omega, Or.inr w⟩
  · by_cases z : 0 ≤ σ.1 11
    · exact Or.inl (x2 z)
    · rcases rl.2.2.2.1 with w | w
      · exact Or.inl w
      · exact Or.inr ⟨by omega, Or.inr w⟩
section
variable {σ τ : S0}
theorem z_kr_t (K : z_kr σ τ) {x : Int} (x0 : 0 ≤ x) (x1 : x < σ.1 3) : (x = τ.1 11 ↔ x = σ.1 11) := by
  rcases K.2.2.2.1 with z | z
  · rw [z]
  · constructor
    · intro w; omega
    · intro w; omega
theorem z_kr_f (K : z_kr σ τ) (J : n_J σ) {r : Int} (r0 : 0 ≤ r) (r5 : r < σ.1 5) : (y_R τ r ↔ y_R σ r) ∧ y_hd τ r = y_hd σ r ∧ y_nn τ r = y_nn σ r ∧ ∀ k : Int, 0 ≤ k → k ≤ y_nn σ r → y_f τ r k = y_f σ r k := by
  obtain ⟨⟨e13, e14, e15, e18, e19⟩, tx, hy⟩ := K.1 r r0 r5
  have s1 := (J r r0 r5).1.1.1
  have t0 := tx 0 (Int.le_refl _) (by omega)
  rw [show σ.2.1 14 r + 0 = σ.2.1 14 r by omega] at t0
  have nn : y_nn σ r = σ.2.1 15 r - 1 := rfl
  refine ⟨?_, ?_, ?_, fun k a b => ?_⟩
  · unfold y_R y_rl
    rw [e13, e14, e15, e18, e19, t0.1.1, t0.1.2.2]
    have h0 : (¬ σ.2.1 16 (σ.2.1 14 r) = τ.1 11) ↔ ¬ σ.2.1 16 (σ.2.1 14 r) = σ.1 11 := not_congr (z_kr_t K t0.2.2.1 t0.2.2.2)
    have h2 : y_h2 (τ.2.1 8) (τ.2.1 16) (σ.2.1 14 r + 1) (σ.2.1 14 r + σ.2.1 15 r) ↔ y_h2 (σ.2.1 8) (σ.2.1 16) (σ.2.1 14 r + 1) (σ.2.1 14 r + σ.2.1 15 r) := by
      have e : ∀ q : Int, σ.2.1 14 r + 1 ≤ q → q < σ.2.1 14 r + σ.2.1 15 r → τ.2.1 16 q = σ.2.1 16 q ∧ τ.2.1 8 (σ.2.1 16 q) = σ.2.1 8 (σ.2.1 16 q) := fun q a b => by
        have w := (tx (q - σ.2.1 14 r) (by omega) (by omega)).1
        rw [show σ.2.1 14 r + (q - σ.2.1 14 r) = q by omega] at w
        exact ⟨w.1, w.2.2⟩
      constructor
      · intro h q a b p c d iv
        have x := e q a b
        have y := e p c (by omega)
        have w := h q a b p c d (by rw [x.1, x.2]; exact iv)
        rw [x.1, y.1] at w; exact w
      · intro h q a b p c d iv
        have x := e q a b
        have y := e p c (by omega)
        rw [x.1, x.2] at iv
        rw [x.1, y.1]; exact h q a b p c d iv
    have h1 : σ.2.1 13 r = 2 → (y_h1 (τ.1 11) (τ.2.1 13) (τ.2.1 14) (τ.2.1 16) (τ.2.1 20) (σ.2.1 18 r) (σ.2.1 18 r + σ.2.1 19 r) ↔ y_h1 (σ.1 11) (σ.2.1 13) (σ.2.1 14) (σ.2.1 16) (σ.2.1 20) (σ.2.1 18 r) (σ.2.1 18 r + σ.2.1 19 r)) := fun k2 => by
      have e : ∀ k : Int, σ.2.1 18 r ≤ k → k < σ.2.1 18 r + σ.2.1 19 r → τ.2.1 20 k = σ.2.1 20 k ∧ τ.2.1 13 (σ.2.1 20 k) = σ.2.1 13 (σ.2.1 20 k) ∧ τ.2.1 16 (τ.2.1 14 (σ.2.1 20 k)) = σ.2.1 16 (σ.2.1 14 (σ.2.1 20 k)) ∧ (0 ≤ σ.2.1 16 (σ.2.1 14 (σ.2.1 20 k)) ∧ σ.2.1 16 (σ.2.1 14 (σ.2.1 20 k)) < σ.1 3) := fun k a b => by
        have w := hy (k - σ.2.1 18 r) (by omega) (by omega)
        rw [show σ.2.1 18 r + (k - σ.2.1 18 r) = k by omega] at w
        have bl := (((J r r0 r5).2.1 (by omega)).1 (k - σ.2.1 18 r) (by omega) (by omega)).1
        rw [show σ.2.1 18 r + (k - σ.2.1 18 r) = k by omega] at bl
        obtain ⟨⟨d13, d14, _⟩, dx, _⟩ := K.1 _ w.2 (by omega)
        have s2 := (J _ w.2 (by omega)).1.1.1
        have d0 := dx 0 (Int.le_refl _) (by omega)
        rw [show σ.2.1 14 (σ.2.1 20 k) + 0 = σ.2.1 14 (σ.2.1 20 k) by omega] at d0
        exact ⟨w.1, d13, by rw [d14]; exact d0.1.1, d0.2.2⟩
      constructor
      · intro h k a b
        obtain ⟨x1, x2, x3, x4⟩ := e k a b
        have w := h k a b
        rw [x1, x2, x3] at w
        exact ⟨w.1, fun z => w.2 ((z_kr_t K x4.1 x4.2).mpr z)⟩
      · intro h k a b
        obtain ⟨x1, x2, x3, x4⟩ := e k a b
        rw [x1, x2, x3]
        exact ⟨(h k a b).1, fun z => (h k a b).2 ((z_kr_t K x4.1 x4.2).mp z)⟩
    constructor
    · rintro ⟨⟨c1, c2, c3, c4⟩, c5, c6⟩
      exact ⟨⟨c1, c2, c3, h0.mp c4⟩, (h1 c1).mp c5, h2.mp c6⟩
    · rintro ⟨⟨c1, c2, c3, c4⟩, c5, c6⟩
      exact ⟨⟨c1, c2, c3, h0.mpr c4⟩, (h1 c1).mpr c5, h2.mpr c6⟩
  · unfold y_hd; rw [e14]; exact t0.1.1
  · unfold y_nn; rw [e15]
  · have w := tx k a (by omega)
    unfold y_f
    rw [e14, w.1.1, w.1.2.2]
    by_cases z : σ.2.1 8 (σ.2.1 16 (σ.2.1 14 r + k)) = 0
    · rw [if_pos z, if_pos z]
    · rw [if_neg z, if_neg z, w.2.1 z]
theorem z_kr_I (K : z_kr σ τ) (J : n_J σ) {r : Int} (r0 : 0 ≤ r) (r5 : r < σ.1 5) : y_In τ r ↔ y_In σ r := by
  have w := (z_kr_f K J r0 r5).1
  have e15 := (K.1 r r0 r5).1.2.2.1
  unfold y_In
  rw [w, e15]
/-- a row's steps count up to their number alone -/
theorem z_p1 {row : Int → Int} {W : Int → Int → Int → Prop} {f g : Int → Int} {i : Int} : ∀ (n : Nat) (q : Int), (∀ k : Int, 1 ≤ k → k ≤ (n : Int) → g k = f k) → (y_p1 row W g i n q ↔ y_p1 row W f i n q)
  | 0, q, _ => Iff.rfl
  | n + 1, q, e => by
    have ih : ∀ q, (y_p1 row W g i n q ↔ y_p1 row W f i n q) := fun q => z_p1 n q (fun k a b => e k a (by omega))
    have c := e ((n : Int) + 1) (by omega) (by omega)
    show ((0 ≤ g ((n : Int) + 1) ∧ i < q ∧ row (q - 1) = g ((n : Int) + 1) ∧ y_p1 row W g i n (q - 1)) ∨ (g ((n : Int) + 1) < 0 ∧ ∃ p : Int, (i ≤ p ∧ p < q) ∧ y_p1 row W g i n p ∧ W (-2 - g ((n : Int) + 1)) p q)) ↔ _
    rw [c, ih (q - 1)]
    refine or_congr Iff.rfl (and_congr Iff.rfl (exists_congr fun p => and_congr Iff.rfl (and_congr (ih p) Iff.rfl)))
theorem z_p2 {row : Int → Int} {W V : Int → Int → Int → Prop} {f g : Int → Int} {i : Int} : ∀ (n : Nat) (q : Int), (∀ k : Int, 1 ≤ k → k ≤ (n : Int) → g k = f k) → (y_p2 row W V g i n q ↔ y_p2 row W V f i n q)
  | 0, q, _ => Iff.rfl
  | n + 1, q, e => by
    have ih : ∀ q, (y_p2 row W V g i n q ↔ y_p2 row W V f i n q) := fun q => z_p2 n q (fun k a b => e k a (by omega))
    have i1 : ∀ q, (y_p1 row W g i n q ↔ y_p1 row W f i n q) := fun q => z_p1 n q (fun k a b => e k a (by omega))
    have c := e ((n : Int) + 1) (by omega) (by omega)
    show ((0 ≤ g ((n : Int) + 1) ∧ i < q ∧ row (q - 1) = g ((n : Int) + 1) ∧ y_p2 row W V g i n (q - 1)) ∨ (g ((n : Int) + 1) < 0 ∧ ((∃ p : Int, (i ≤ p ∧ p < q) ∧ ((y_p2 row W V g i n p ∧ W (-2 - g ((n : Int) + 1)) p q) ∨ (y_p1 row W g i n p ∧ V (-2 - g ((n : Int) + 1)) p q))) ∨ ∃ p o : Int, (i ≤ p ∧ p < o ∧ o < q) ∧ (y_p1 row W g i n p ∧ W (-2 - g ((n : Int) + 1)) p q) ∧ y_p1 row W g i n o ∧ W (-2 - g ((n : Int) + 1)) o q))) ↔ _
    rw [c, ih (q - 1)]
    refine or_congr Iff.rfl (and_congr Iff.rfl (or_congr ?_ ?_))
    · exact exists_congr fun p => and_congr Iff.rfl (or_congr (and_congr (ih p) Iff.rfl) (and_congr (i1 p) Iff.rfl))
    · exact exists_congr fun p => exists_congr fun o => and_congr Iff.rfl (and_congr (and_congr (i1 p) Iff.rfl) (and_congr (i1 o) Iff.rfl))
/-- a chart counts only the rules before its limit -/
theorem z_CH {lim len : Int} {In In' : Int → Prop} {hd nn hd' nn' : Int → Int} {f f' : Int → Int → Int} {row ls row' ls' : Int → Int} {W V : Int → Int → Int → Prop} {ρ : Int → Int → Int → Int} (n1 : ∀ r : Int, In r → 1 ≤ nn r) (e : ∀ r : Int, 0 ≤ r → r < lim → (In' r ↔ In r) ∧ hd' r = hd r ∧ nn' r = nn r ∧ ∀ k : Int, 1 ≤ k → k ≤ nn r → f' r k = f r k) (er : ∀ k : Int, 0 ≤ k → k < len → row' k = row k) (el : ∀ k : Int, 0 ≤ k → k < len → ls' k = ls k) (h : y_CH lim len In hd nn f row ls W V ρ) : y_CH lim len In' hd' nn' f' row' ls' W V ρ := by
  have h := y_CH_x er el h
  refine ⟨h.1, fun t i j i0 ij jl => ?_⟩
  obtain ⟨h1, h2, h3⟩ := h.2 t i j i0 ij jl
  have cb : ∀ r : Int, y_cb lim In' hd' t r ↔ y_cb lim In hd t r := fun r => by
    constructor
    · rintro ⟨a, b, c⟩
      have w := e r a.1 a.2
      exact ⟨a, w.1.mp b, by rw [← w.2.1]; exact c⟩
    · rintro ⟨a, b, c⟩
      have w := e r a.1 a.2
      exact ⟨a, w.1.mpr b, by rw [w.2.1]; exact c⟩
  have q1 : ∀ r : Int, y_cb lim In hd t r → (y_p1 row' W (f' r) i (nn' r).toNat j ↔ y_p1 row' W (f r) i (nn r).toNat j) := fun r c => by
    have w := e r c.1.1 c.1.2
    have n := n1 r c.2.1
    rw [w.2.2.1]
    exact z_p1 _ _ (fun k a b => w.2.2.2 k a (by omega))
  have q2 : ∀ r : Int, y_cb lim In hd t r → (y_p2 row' W V (f' r) i (nn' r).toNat j ↔ y_p2 row' W V (f r) i (nn r).toNat j) := fun r c => by
    have w := e r c.1.1 c.1.2
    have n := n1 r c.2.1
    rw [w.2.2.1]
    exact z_p2 _ _ (fun k a b => w.2.2.2 k a (by omega))
  have c1 : ∀ r : Int, (y_cb lim In' hd' t r ∧ y_p1 row' W (f' r) i (nn' r).toNat j) ↔ (y_cb lim In hd t r ∧ y_p1 row' W (f r) i (nn r).toNat j) := fun r => by
    rw [cb]; exact ⟨fun w => ⟨w.1, (q1 r w.1).mp w.2⟩, fun w => ⟨w.1, (q1 r w.1).mpr w.2⟩⟩
  have c2 : ∀ r : Int, (y_cb lim In' hd' t r ∧ y_p2 row' W V (f' r) i (nn' r).toNat j) ↔ (y_cb lim In hd t r ∧ y_p2 row' W V (f r) i (nn r).toNat j) := fun r => by
    rw [cb]; exact ⟨fun w => ⟨w.1, (q2 r w.1).mp w.2⟩, fun w => ⟨w.1, (q2 r w.1).mpr w.2⟩⟩
  refine ⟨h1.trans ?_, h2.trans ?_, fun w => ?_⟩
  · exact or_congr Iff.rfl (exists_congr fun r => (c1 r).symm)
  · exact or_congr (and_congr Iff.rfl (exists_congr fun r => (c1 r).symm)) (or_congr (exists_congr fun r => (c2 r).symm) (exists_congr fun r => exists_congr fun s => and_congr Iff.rfl (by
      have a := c1 r; have b := c1 s
      exact ⟨fun w => ⟨a.mpr w.1, b.mpr w.2⟩, fun w => ⟨a.mp w.1, b.mp w.2⟩⟩)))
  · obtain ⟨x, y⟩ := h3 w
    refine ⟨x, ?_⟩
    rcases y with y | ⟨r, c, p, u⟩
    · exact Or.inl y
    · have d := (c1 r).mpr ⟨c, p⟩
      have v := e r c.1.1 c.1.2
      refine Or.inr ⟨r, d.1, d.2, fun a b => ?_⟩
      have n := n1 r c.2.1
      rw [v.2.2.1] at a
      rw [v.2.2.2 1 (Int.le_refl _) (by omega)] at b ⊢
      exact u a b
end
