-- pure: the tree of a statement, whichever nodes hold it
/-- the row at hand is a statement's -/
def y_LF (σ τ : S0) (i : Int) : Prop := ∀ k : Int, 0 ≤ k → k < σ.2.1 15 i - 1 → τ.2.1 72 k = σ.2.1 16 (σ.2.1 14 i + 1 + k) ∧ τ.2.1 74 k = σ.2.1 17 (σ.2.1 14 i + 1 + k) ∧ ((σ.2.1 17 (σ.2.1 14 i + 1 + k) = -1 ∧ τ.2.1 73 k = -1) ∨ (¬ σ.2.1 17 (σ.2.1 14 i + 1 + k) = -1 ∧ τ.2.1 73 k = τ.2.1 71 (σ.2.1 16 (σ.2.1 14 (σ.2.1 17 (σ.2.1 14 i + 1 + k))))))
/-- nodes hold the tree of a statement -/
def y_TR (σ τ : S0) (i lo hi : Int) : Prop := (y_SD σ τ ∧ τ.1 3 = σ.1 3 ∧ τ.1 5 = σ.1 5 ∧ τ.2.1 12 = σ.2.1 12) ∧ (∃ ρ : Int → Int → Int → Int, y_TC ρ τ) ∧ (τ.1 50 = i ∧ τ.1 45 = σ.2.1 15 i - 1 ∧ 1 < σ.2.1 15 i) ∧ y_LF σ τ i ∧ (lo < hi ∧ (τ.2.1 90 lo = τ.2.1 71 (y_rt σ i) ∧ τ.2.1 88 lo = 0 ∧ τ.2.1 89 lo = σ.2.1 15 i - 1) ∧ 0 ≤ y_rt σ i ∧ y_rt σ i < σ.1 3) ∧
  (∀ y : Int, lo ≤ y → y < hi → y_c0 τ (τ.2.1 90 y) (τ.2.1 88 y) (τ.2.1 89 y)) ∧ ∀ y : Int, lo ≤ y → y < hi → y_nd τ (τ.2.1 86) (τ.2.1 87) (τ.2.1 91) (τ.2.1 88) (τ.2.1 89) (τ.2.1 90) y (y + 1) hi (τ.1 52)
/-- what a node is, told of the text -/
def y_tn (σ τ : S0) (i hi t p q y : Int) : Prop := (q = p + 1 ∧ y_lf σ i p = t ∧ τ.2.1 86 y = -1 - σ.2.1 17 (σ.2.1 14 i + 1 + p) ∧ τ.2.1 86 y < 0) ∨
  (y_cb i (y_In σ) (y_hd σ) t (τ.2.1 86 y) ∧ ∃ D : Int → Int, y_wy (y_rw σ i) (y_Wσ τ) (y_f σ (τ.2.1 86 y)) p q (y_nn σ (τ.2.1 86 y)) D ∧ ∀ k : Int, 0 ≤ k → k < σ.2.1 19 (τ.2.1 86 y) → ∃ m : Int, (0 ≤ m ∧ m < y_nn σ (τ.2.1 86 y)) ∧ y_f σ (τ.2.1 86 y) (m + 1) < 0 ∧ y_hv σ (τ.2.1 86 y) k = y_sy σ (τ.2.1 86 y) m ∧ (y + 1 ≤ τ.2.1 91 (τ.2.1 87 y + k) ∧ τ.2.1 91 (τ.2.1 87 y + k) < hi) ∧ τ.2.1 90 (τ.2.1 91 (τ.2.1 87 y + k)) = τ.2.1 71 (-2 - y_f σ (τ.2.1 86 y) (m + 1)) ∧ τ.2.1 88 (τ.2.1 91 (τ.2.1 87 y + k)) = D m ∧ τ.2.1 89 (τ.2.1 91 (τ.2.1 87 y + k)) = D (m + 1))
/-- steps over a stretch stay within it -/
theorem y_wy_r {row : Int → Int} {W : Int → Int → Int → Prop} {f : Int → Int} {i j n : Int} {D : Int → Int} (w : y_wy row W f i j n D) (n0 : 0 ≤ n) : ∀ m : Int, 0 ≤ m → m ≤ n → i ≤ D m ∧ D m ≤ j := by
  have DD : ∀ m : Nat, (m : Int) ≤ n → i + (m : Int) ≤ D (m : Int) := fun m l => y_p1_l m _ (y_wp w m l)
  have up : ∀ k : Nat, ∀ m : Int, 0 ≤ m → m + (k : Int) ≤ n → D m + (k : Int) ≤ D (m + (k : Int)) := fun k => by
    induction k with
    | zero => intro m _ _; rw [show m + ((0 : Nat) : Int) = m by omega]; omega
    | succ k ih =>
      intro m a e
      have x := ih m a (by omega)
      have y := w.2.2 (m + (k : Int)) (by omega) (by omega)
      rw [show m + ((k + 1 : Nat) : Int) = m + (k : Int) + 1 by omega]
      rcases y with ⟨_, y, _⟩ | ⟨_, y, _⟩ <;> omega
  intro m a e
  have x := DD m.toNat (by omega)
  have y := up (n - m).toNat m a (by omega)
  rw [show m + (((n - m).toNat : Nat) : Int) = n by omega, w.2.1] at y
  rw [show ((m.toNat : Nat) : Int) = m by omega] at x
  omega
/-- only what stands within the stretch counts -/
theorem y_wy_x {row row2 : Int → Int} {W W2 : Int → Int → Int → Prop} {f : Int → Int} {i j n : Int} {D : Int → Int} (w : y_wy row W f i j n D) (n0 : 0 ≤ n) (er : ∀ k : Int, i ≤ k → k < j → row2 k = row k) (ew : ∀ t p q : Int, i ≤ p → p < q → q ≤ j → W t p q → W2 t p q) : y_wy row2 W2 f i j n D := by
  have R := y_wy_r w n0
  refine ⟨w.1, w.2.1, fun m m0 m1 => ?_⟩
  have a := R m m0 (by omega)
  have b := R (m + 1) (by omega) (by omega)
  rcases w.2.2 m m0 m1 with ⟨x, y, z⟩ | ⟨x, y, z⟩
  · exact Or.inl ⟨x, y, by rw [er _ a.1 (by omega)]; exact z⟩
  · exact Or.inr ⟨x, y, ew _ _ _ a.1 y b.2 z⟩
/-- one way alone -/
theorem y_wy_u {row : Int → Int} {W V : Int → Int → Int → Prop} {f : Int → Int} {i j n : Int} {D D' : Int → Int} (w : y_wy row W f i j n D) (w' : y_wy row W f i j n D') (n0 : 0 ≤ n) (h : ¬ y_p2 row W V f i n.toNat j) : ∀ m : Int, 0 ≤ m → m ≤ n → D m = D' m := by
  have R := y_wy_r w n0
  have R' := y_wy_r w' n0
  have g : ∀ k : Nat, (k : Int) ≤ n → D (n - (k : Int)) = D' (n - (k : Int)) ∧ ¬ y_p2 row W V f i (n - (k : Int)).toNat (D (n - (k : Int))) := fun k => by
    induction k with
    | zero =>
      intro _
      rw [show n - ((0 : Nat) : Int) = n by omega, w.2.1, w'.2.1]
      exact ⟨rfl, h⟩
    | succ k ih =>
      intro l
      obtain ⟨e, v⟩ := ih (by omega)
      have c : n - ((k + 1 : Nat) : Int) + 1 = n - (k : Int) := by omega
      have m0 : 0 ≤ n - ((k + 1 : Nat) : Int) := by omega
      have s := w.2.2 (n - ((k + 1 : Nat) : Int)) m0 (by omega)
      have s' := w'.2.2 (n - ((k + 1 : Nat) : Int)) m0 (by omega)
      rw [c] at s s'
      have a := R _ m0 (by omega)
      have a' := R' _ m0 (by omega)
      have nn : (n - (k : Int)).toNat = (n - ((k + 1 : Nat) : Int)).toNat + 1 := by omega
      have p := y_wp w (n - ((k + 1 : Nat) : Int)).toNat (by omega)
      have p' := y_wp w' (n - ((k + 1 : Nat) : Int)).toNat (by omega)
      rw [show (((n - ((k + 1 : Nat) : Int)).toNat : Nat) : Int) = n - ((k + 1 : Nat) : Int) by omega] at p p'
      have fc : ((n - ((k + 1 : Nat) : Int)).toNat : Int) + 1 = n - (k : Int) := by omega
      rw [nn] at v
      have d : D (n - ((k + 1 : Nat) : Int)) = D' (n - ((k + 1 : Nat) : Int)) := by
        rcases s with ⟨x, y, z⟩ | ⟨x, y, z⟩
        · rcases s' with ⟨_, y', _⟩ | ⟨x', _, _⟩
          · omega
          · omega
        · rcases s' with ⟨x', _, _⟩ | ⟨_, y', z'⟩
          · omega
          · rcases Int.lt_trichotomy (D (n - ((k + 1 : Nat) : Int))) (D' (n - ((k + 1 : Nat) : Int))) with u | u | u
            · refine absurd (Or.inr ⟨by rw [fc]; exact x, Or.inr ⟨D (n - ((k + 1 : Nat) : Int)), D' (n - ((k + 1 : Nat) : Int)), ⟨a.1, u, by rw [e]; exact y'⟩, ⟨p, by rw [fc]; exact z⟩, p', by rw [fc, e]; exact z'⟩⟩) v
            · exact u
            · refine absurd (Or.inr ⟨by rw [fc]; exact x, Or.inr ⟨D' (n - ((k + 1 : Nat) : Int)), D (n - ((k + 1 : Nat) : Int)), ⟨a'.1, u, y⟩, ⟨p', by rw [fc, e]; exact z'⟩, p, by rw [fc]; exact z⟩⟩) v
      refine ⟨d, (y_p2_t a.1 (by rw [fc]; exact s) v).1⟩
  intro m m0 m1
  have w := (g (n - m).toNat (by omega)).1
  rw [show n - (((n - m).toNat : Nat) : Int) = m by omega] at w
  exact w
section
variable {σ τ υ : S0} {i lo hi : Int}
theorem y_TR_ch (J : n_J σ) (hT : m_T σ) (i0 : 0 ≤ i) (i5 : i < σ.1 5) (h : y_TR σ τ i lo hi) : ∃ ρ : Int → Int → Int → Int, y_CH i (σ.2.1 15 i - 1) (y_In σ) (y_hd σ) (y_nn σ) (y_f σ) (y_rw σ i) (y_lf σ i) (y_Wσ τ) (y_Vσ τ) ρ := by
  obtain ⟨⟨SD, e3, e5, e12⟩, ⟨ρ, TC⟩, ⟨l50, rs, len⟩, lf, _, _, _⟩ := h
  obtain ⟨_, s2, s3, s4, s5, _, _⟩ := y_SD_e SD
  obtain ⟨⟨⟨q1, q2, so, q4, q5⟩, _, _⟩, ok, _, _, _⟩ := TC
  have so' : y_so (σ.1 3) (σ.1 11) (τ.1 46) (σ.2.1 12) (σ.2.1 8) (τ.2.1 71) := by
    rw [← e3, ← e12, ← SD.1, ← SD.2.1]; exact so
  refine ⟨ρ, y_CH_x (row := τ.2.1 72) (ls := y_ls (τ.1 3) (τ.2.1 71) (τ.2.1 73)) (fun k a b => (lf k a b).1.symm) (y_el J hT i0 i5 e3 so' lf) ⟨y_W21 _ _ _, fun t p q a b c => ?_⟩⟩
  have w := ok t p q a b (by omega)
  rw [l50, s2, s3, s4, s5] at w
  exact w
/-- each node, told of the text -/
theorem y_TR_n (J : n_J σ) (hT : m_T σ) (hS : m_T τ) (i0 : 0 ≤ i) (i5 : i < σ.1 5) (h : y_TR σ τ i lo hi) {y : Int} (y0 : lo ≤ y) (y1 : y < hi) : (0 ≤ τ.2.1 88 y ∧ τ.2.1 88 y < τ.2.1 89 y ∧ τ.2.1 89 y ≤ σ.2.1 15 i - 1) ∧ ∃ t : Int, (0 ≤ t ∧ t < σ.1 3) ∧ (τ.2.1 71 t = τ.2.1 90 y ∧ 0 ≤ τ.2.1 90 y) ∧ (y_Wσ τ t (τ.2.1 88 y) (τ.2.1 89 y) ∧ ¬ y_Vσ τ t (τ.2.1 88 y) (τ.2.1 89 y)) ∧ y_tn σ τ i hi t (τ.2.1 88 y) (τ.2.1 89 y) y := by
  have CHx := y_TR_ch J hT i0 i5 h
  obtain ⟨⟨SD, e3, e5, e12⟩, ⟨ρ, TC⟩, ⟨l50, rs, len⟩, lf, _, c0, nd⟩ := h
  obtain ⟨_, s2, s3, s4, s5, _, _⟩ := y_SD_e SD
  have J' := TC.2.2.2.1
  have RHx := fun {r : Int} (a : 0 ≤ r) (b : r < τ.1 5) (c : y_In τ r) => y_rh J' hS a b c
  obtain ⟨⟨⟨q1, q2, so, q4, q5⟩, _, l5⟩, ok, _, _, _⟩ := TC
  have so' : y_so (σ.1 3) (σ.1 11) (τ.1 46) (σ.2.1 12) (σ.2.1 8) (τ.2.1 71) := by
    rw [← e3, ← e12, ← SD.1, ← SD.2.1]; exact so
  obtain ⟨⟨cc1, cc2, cc3⟩, t, ct, cw, cv⟩ := c0 y y0 y1
  have inj := so'.2
  have cw0 : 0 ≤ t ∧ t < σ.1 3 ∧ 0 ≤ τ.2.1 71 t := by have w := cw.1; rw [e3] at w; exact w
  have un : ∀ s : Int, 0 ≤ s → s < σ.1 3 → 0 ≤ τ.2.1 71 s → τ.2.1 71 s = τ.2.1 71 t → s = t := fun s a b c d => by
    rcases Int.lt_trichotomy s t with z | z | z
    · exact absurd d (inj _ _ a z cw0.2.1 c)
    · exact z
    · exact absurd d.symm (inj _ _ cw0.1 z b cw0.2.2)
  refine ⟨⟨cc1, cc2, by omega⟩, t, ⟨cw0.1, cw0.2.1⟩, ⟨ct, by rw [← ct]; exact cw0.2.2⟩, ⟨cw, cv⟩, ?_⟩
  rcases nd y y0 y1 with ⟨n1, n2, n3, n4⟩ | ⟨n1, n2, n3, n4, D, n5, n6⟩
  · have kb : τ.2.1 88 y < σ.2.1 15 i - 1 := by omega
    have f := lf _ cc1 kb
    refine Or.inl ⟨n3, ?_, by rw [n1, f.2.1], n2⟩
    rw [y_el J hT i0 i5 e3 so' lf _ cc1 kb]
    have l0 : 0 ≤ τ.2.1 73 (τ.2.1 88 y) := by rw [n4, ← ct]; exact cw0.2.2
    unfold y_ls
    rw [if_pos l0, n4, ← ct, e3]
    exact y_inv_s inj cw0.1 cw0.2.1 cw0.2.2
  · have r5 : τ.2.1 86 y < τ.1 5 := by have := n1.2; omega
    have qq := (q4 _ n1.1 r5 n2).1
    rw [s3, e3] at qq
    obtain ⟨_, h2, h3, _⟩ := RHx n1.1 r5 n2
    have nn1 := y_nn1 _ n2
    rw [s2] at n2
    rw [s3] at n3
    rw [s4, s5] at n5
    rw [s4] at nn1
    refine Or.inr ⟨⟨⟨n1.1, by omega⟩, n2, un _ qq.1 qq.2.1 qq.2.2 (n3.trans ct.symm)⟩, D, y_wy_x n5 (by omega) (fun k a b => (lf k (by omega) (by omega)).1.symm) (fun _ _ _ _ _ _ w => w), fun k k0 k1 => ?_⟩
    obtain ⟨_, _, _, d13, d14, d15, d16, d18, d19, d20⟩ := SD
    have hv : ∀ k : Int, y_hv τ (τ.2.1 86 y) k = y_hv σ (τ.2.1 86 y) k := fun k => by unfold y_hv; rw [d14, d16, d18, d20]
    have sy : ∀ m : Int, y_sy τ (τ.2.1 86 y) m = y_sy σ (τ.2.1 86 y) m := fun m => by unfold y_sy; rw [d14, d16]
    have k1' : k < τ.2.1 19 (τ.2.1 86 y) := by rw [d19]; exact k1
    obtain ⟨m, m1, m2, m3⟩ := h2 k k0 k1'
    obtain ⟨k', l0, l1, l2, l3, l4, l5⟩ := n6 m m1.1 m1.2 m2
    have m3' : y_hv τ (τ.2.1 86 y) k = y_sy τ (τ.2.1 86 y) m := m3
    have e : k' = k := by
      have e := l1.trans m3'.symm
      rcases Int.lt_trichotomy k' k with z | z | z
      · exact absurd e (h3 k k' l0.1 z k1')
      · exact z
      · exact absurd e.symm (h3 k' k k0 z l0.2)
    rw [e] at l2 l3 l4 l5
    rw [s4] at m1
    rw [s5] at m2 l3
    refine ⟨m, m1, m2, by rw [← hv, ← sy]; exact m3', l2, l3, l4, l5⟩
/-- nodes of the same cell, in two places -/
def y_sc (τ υ : S0) (y z : Int) : Prop := ∃ t : Int, τ.2.1 71 t = τ.2.1 90 y ∧ υ.2.1 71 t = υ.2.1 90 z ∧ (0 ≤ t ∧ t < τ.1 3) ∧ τ.2.1 88 y = υ.2.1 88 z ∧ τ.2.1 89 y = υ.2.1 89 z
/-- the same cell is made the same way -/
theorem y_TR_b {lo' hi' : Int} (J : n_J σ) (hT : m_T σ) (hS : m_T τ) (hU : m_T υ) (i0 : 0 ≤ i) (i5 : i < σ.1 5) (h : y_TR σ τ i lo hi) (g : y_TR σ υ i lo' hi') {y z : Int} (y0 : lo ≤ y) (y1 : y < hi) (z0 : lo' ≤ z) (z1 : z < hi') (c : y_sc τ υ y z) : υ.2.1 86 z = τ.2.1 86 y ∧ (0 ≤ τ.2.1 86 y → ∀ k : Int, 0 ≤ k → k < σ.2.1 19 (τ.2.1 86 y) → (y + 1 ≤ τ.2.1 91 (τ.2.1 87 y + k) ∧ τ.2.1 91 (τ.2.1 87 y + k) < hi) ∧ (z + 1 ≤ υ.2.1 91 (υ.2.1 87 z + k) ∧ υ.2.1 91 (υ.2.1 87 z + k) < hi') ∧ y_sc τ υ (τ.2.1 91 (τ.2.1 87 y + k)) (υ.2.1 91 (υ.2.1 87 z + k))) := by
  obtain ⟨ρ, ch⟩ := y_TR_ch J hT i0 i5 h
  obtain ⟨ρ', cg⟩ := y_TR_ch J hT i0 i5 g
  obtain ⟨⟨p0, pq, ql⟩, t, t0, ⟨ct, ct0⟩, ⟨cw, cv⟩, n⟩ := y_TR_n J hT hS i0 i5 h y0 y1
  obtain ⟨_, t', t0', ⟨ct', ct0'⟩, _, n'⟩ := y_TR_n J hT hU i0 i5 g z0 z1
  obtain ⟨s, cs, cs', s0, ep, eq⟩ := c
  have e3 : τ.1 3 = σ.1 3 := h.1.2.1
  have e3' : υ.1 3 = σ.1 3 := g.1.2.1
  have inj : ∀ a b : Int, 0 ≤ a → a < b → b < σ.1 3 → 0 ≤ τ.2.1 71 a → τ.2.1 71 a ≠ τ.2.1 71 b := by
    have w := h.2.1
    obtain ⟨_, TC⟩ := w
    have x := TC.1.1.2.2.1.2
    rw [e3] at x; exact x
  have inj' : ∀ a b : Int, 0 ≤ a → a < b → b < σ.1 3 → 0 ≤ υ.2.1 71 a → υ.2.1 71 a ≠ υ.2.1 71 b := by
    have w := g.2.1
    obtain ⟨_, TC⟩ := w
    have x := TC.1.1.2.2.1.2
    rw [e3'] at x; exact x
  have ts : t = s := by
    rcases Int.lt_trichotomy t s with w | w | w
    · exact absurd (ct.trans cs.symm) (inj _ _ t0.1 w (by omega) (by omega))
    · exact w
    · exact absurd (cs.trans ct.symm) (inj _ _ s0.1 w t0.2 (by omega))
  have ts' : t' = s := by
    rcases Int.lt_trichotomy t' s with w | w | w
    · exact absurd (ct'.trans cs'.symm) (inj' _ _ t0'.1 w (by omega) (by omega))
    · exact w
    · exact absurd (cs'.trans ct'.symm) (inj' _ _ s0.1 w t0'.2 (by omega))
  subst ts
  rw [ts', ← ep, ← eq] at n'
  have un := fun (t p q : Int) (a : 0 ≤ p) (b : p < q) (c : q ≤ σ.2.1 15 i - 1) => y_un y_nn1 ch cg (σ.2.1 15 i).toNat t p q a b c (by omega)
  have ok := ch.2 t _ _ p0 pq ql
  have nv2 : ∀ r : Int, y_cb i (y_In σ) (y_hd σ) t r → ¬ y_p2 (y_rw σ i) (y_Wσ τ) (y_Vσ τ) (y_f σ r) (τ.2.1 88 y) (y_nn σ r).toNat (τ.2.1 89 y) := fun r cr q => cv (ok.2.1.mpr (Or.inr (Or.inl ⟨r, cr, q⟩)))
  have p1of : ∀ (r : Int) (D : Int → Int), y_cb i (y_In σ) (y_hd σ) t r → y_wy (y_rw σ i) (y_Wσ τ) (y_f σ r) (τ.2.1 88 y) (τ.2.1 89 y) (y_nn σ r) D → y_p1 (y_rw σ i) (y_Wσ τ) (y_f σ r) (τ.2.1 88 y) (y_nn σ r).toNat (τ.2.1 89 y) := fun r D cr w => by
    have nn1 := y_nn1 r cr.2.1
    have p := y_wp w (y_nn σ r).toNat (by omega)
    rw [show (((y_nn σ r).toNat : Nat) : Int) = y_nn σ r by omega, w.2.1] at p
    exact p
  have LL : ∀ r : Int, τ.2.1 89 y = τ.2.1 88 y + 1 → y_lf σ i (τ.2.1 88 y) = t → y_cb i (y_In σ) (y_hd σ) t r → y_p1 (y_rw σ i) (y_Wσ τ) (y_f σ r) (τ.2.1 88 y) (y_nn σ r).toNat (τ.2.1 89 y) → False := fun r a b cr p => cv (ok.2.1.mpr (Or.inl ⟨⟨a, t0.1, b⟩, r, cr, p⟩))
  have wx : ∀ (r : Int) (D : Int → Int), y_cb i (y_In σ) (y_hd σ) t r → y_wy (y_rw σ i) (y_Wσ υ) (y_f σ r) (τ.2.1 88 y) (τ.2.1 89 y) (y_nn σ r) D → y_wy (y_rw σ i) (y_Wσ τ) (y_f σ r) (τ.2.1 88 y) (τ.2.1 89 y) (y_nn σ r) D := fun r D cr w => by
    have nn1 := y_nn1 r cr.2.1
    exact y_wy_x w (by omega) (fun _ _ _ => rfl) (fun s p q a b c x => ((un s p q (by omega) b (by omega)).1).mpr x)
  rcases n with ⟨a1, a2, a3, a4⟩ | ⟨a1, D, a2, a3⟩
  · rcases n' with ⟨_, _, b3, _⟩ | ⟨b1, D', b2, _⟩
    · exact ⟨b3.trans a3.symm, fun q => by omega⟩
    · exact (LL _ a1 a2 b1 (p1of _ _ b1 (wx _ _ b1 b2))).elim
  · rcases n' with ⟨b1, b2, _, _⟩ | ⟨b1, D', b2, b3⟩
    · exact (LL _ b1 b2 a1 (p1of _ _ a1 a2)).elim
    · have b2 := wx _ _ b1 b2
      have er : υ.2.1 86 z = τ.2.1 86 y := by
        have x := p1of _ _ a1 a2
        have x' := p1of _ _ b1 b2
        rcases Int.lt_trichotomy (υ.2.1 86 z) (τ.2.1 86 y) with w | w | w
        · exact (cv (ok.2.1.mpr (Or.inr (Or.inr ⟨_, _, w, ⟨b1, x'⟩, a1, x⟩)))).elim
        · exact w
        · exact (cv (ok.2.1.mpr (Or.inr (Or.inr ⟨_, _, w, ⟨a1, x⟩, b1, x'⟩)))).elim
      refine ⟨er, fun _ k k0 k1 => ?_⟩
      rw [er] at b2 b3
      have nn1 := y_nn1 _ a1.2.1
      have DD := y_wy_u a2 b2 (by omega) (nv2 _ a1)
      obtain ⟨m, c1, c2, c3, c4, c5, c6, c7⟩ := a3 k k0 k1
      obtain ⟨o, d1, d2, d3, d4, d5, d6, d7⟩ := b3 k k0 k1
      obtain ⟨_, _, _, h4⟩ := y_rh J hT a1.1.1 (by have := a1.1.2; omega) a1.2.1
      have em : o = m := by
        have e : y_sy σ (τ.2.1 86 y) o = y_sy σ (τ.2.1 86 y) m := d3.symm.trans c3
        rcases Int.lt_trichotomy o m with w | w | w
        · exact absurd e (h4 m o d1.1 w c1.2 c2)
        · exact w
        · exact absurd e.symm (h4 o m c1.1 w d1.2 d2)
      rw [em] at d5 d6 d7
      have ty : 0 ≤ -2 - y_f σ (τ.2.1 86 y) (m + 1) ∧ -2 - y_f σ (τ.2.1 86 y) (m + 1) < σ.1 3 := by
        rcases a2.2.2 m c1.1 c1.2 with ⟨w, _⟩ | ⟨_, _, w⟩
        · omega
        · have w := w.1; rw [e3] at w; exact ⟨w.1, w.2.1⟩
      refine ⟨c4, d4, _, c5.symm, d5.symm, ⟨ty.1, by rw [e3]; exact ty.2⟩, ?_, ?_⟩
      · rw [c6, d6]; exact DD m c1.1 (by omega)
      · rw [c7, d7]; exact DD (m + 1) (by omega) (by omega)
end
