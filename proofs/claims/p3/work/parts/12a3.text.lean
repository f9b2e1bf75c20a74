-- pure: the model reads statements' symbols
/-- the symbols of the statement that is read -/
def n_N (a b sy : Int) (iv fo bg tx fl : Int → Int) : Prop := (a < b ∧ iv (tx a) = 0 ∧ fl a = -1 ∧ tx a < sy ∧ ¬ bg (tx a) = 0) ∧ ∀ p : Int, a < p → p < b → tx p < sy ∧ ((iv (tx p) = 0 ∧ fl p = -1) ∨ (¬ iv (tx p) = 0 ∧ ¬ fl p = -1 ∧ fl p = fo (tx p)))
theorem n_N_1 {a sy x : Int} {iv fo bg tx fl tx' fl' : Int → Int} (e1 : tx' = st tx a x) (e2 : fl' = st fl a (-1)) (h1 : iv x = 0) (h2 : x < sy) (h3 : ¬ bg x = 0) : n_N a (a + 1) sy iv fo bg tx' fl' := by
  refine ⟨?_, fun p p0 p1 => by omega⟩
  rw [e1, e2, st_s, st_s]
  exact ⟨by omega, h1, rfl, h2, h3⟩
theorem n_N_a {a b sy x y : Int} {iv fo bg tx fl tx' fl' : Int → Int} (h : n_N a b sy iv fo bg tx fl) (e1 : tx' = st tx b x) (e2 : fl' = st fl b y) (h2 : x < sy) (h3 : (iv x = 0 ∧ y = -1) ∨ (¬ iv x = 0 ∧ ¬ y = -1 ∧ y = fo x)) : n_N a (b + 1) sy iv fo bg tx' fl' := by
  obtain ⟨⟨a1, a2, a3, a4, a5⟩, a6⟩ := h
  refine ⟨?_, fun p p0 p1 => ?_⟩
  · rw [e1, e2, st_n _ _ (by omega), st_n _ _ (by omega)]
    exact ⟨by omega, a2, a3, a4, a5⟩
  · rw [e1, e2]
    by_cases z : p = b
    · rw [z, st_s, st_s]; exact ⟨h2, h3⟩
    · rw [st_n _ _ z, st_n _ _ z]; exact a6 p p0 (by omega)
/-- the frame that is made -/
def n_F (n u h a : Int) (kd ta tx hy ah mk : Int → Int) : Prop := (∀ j : Int, 0 ≤ j → j < h → hy (a + j) < n ∧ kd (hy (a + j)) ≤ 1 ∧ (∃ k : Int, 0 ≤ k ∧ k < u ∧ ah k = hy (a + j)) ∧ (kd (hy (a + j)) = 1 ∨ ¬ mk (tx (ta (hy (a + j)) + 1)) = 0)) ∧ (∀ j o : Int, 0 ≤ o → o < j → j < h → hy (a + o) < hy (a + j)) ∧ ∀ k : Int, 0 ≤ k → k < u → (kd (ah k) = 1 ∨ ¬ mk (tx (ta (ah k) + 1)) = 0) → ∃ j : Int, 0 ≤ j ∧ j < h ∧ hy (a + j) = ah k
theorem n_F_0 (n a : Int) (kd ta tx hy ah mk : Int → Int) : n_F n 0 0 a kd ta tx hy ah mk := ⟨fun j a b => by omega, fun j o a b c => by omega, fun k a b => by omega⟩
theorem n_F_n {n u h a : Int} {kd ta tx hy ah mk : Int → Int} (f : n_F n u h a kd ta tx hy ah mk) (z1 : ¬ kd (ah u) = 1) (z2 : mk (tx (ta (ah u) + 1)) = 0) : n_F n (u + 1) h a kd ta tx hy ah mk := by
  obtain ⟨f1, f2, f3⟩ := f
  refine ⟨fun j j0 j1 => ?_, f2, fun k k0 k1 z => ?_⟩
  · obtain ⟨a1, a2, ⟨k, b1, b2, b3⟩, a4⟩ := f1 j j0 j1
    exact ⟨a1, a2, ⟨k, b1, by omega, b3⟩, a4⟩
  · rcases (by omega : k < u ∨ k = u) with q | q
    · exact f3 k k0 q z
    · rw [q] at z
      rcases z with y | y
      · exact absurd y z1
      · exact absurd z2 y
theorem n_F_a {n u h a x y : Int} {kd ta tx hy ah mk hy' : Int → Int} (f : n_F n u h a kd ta tx hy ah mk) (e : hy' = st hy y x) (ey : y = a + h) (hx : x = ah u) (u0 : 0 ≤ u) (h0 : 0 ≤ h) (x1 : ah u < n) (x2 : kd (ah u) ≤ 1) (z : kd (ah u) = 1 ∨ ¬ mk (tx (ta (ah u) + 1)) = 0) (inc : ∀ o : Int, 0 ≤ o → o < u → ah o < ah u) : n_F n (u + 1) (h + 1) a kd ta tx hy' ah mk := by
  obtain ⟨f1, f2, f3⟩ := f
  have e1 : ∀ j : Int, 0 ≤ j → j < h → hy' (a + j) = hy (a + j) := fun j j0 j1 => by rw [e, st_n _ _ (by omega)]
  have e2 : hy' (a + h) = ah u := by rw [e, ey, st_s, hx]
  refine ⟨fun j j0 j1 => ?_, fun j o o0 oj j1 => ?_, fun k k0 k1 q => ?_⟩
  · rcases (by omega : j < h ∨ j = h) with q | q
    · rw [e1 j j0 q]
      obtain ⟨a1, a2, ⟨k, b1, b2, b3⟩, a4⟩ := f1 j j0 q
      exact ⟨a1, a2, ⟨k, b1, by omega, b3⟩, a4⟩
    · rw [q, e2]; exact ⟨x1, x2, ⟨u, u0, by omega, rfl⟩, z⟩
  · rcases (by omega : j < h ∨ j = h) with q | q
    · rw [e1 j (by omega) q, e1 o o0 (by omega)]; exact f2 j o o0 oj q
    · rw [q, e2, e1 o o0 (by omega)]
      obtain ⟨k, b1, b2, b3⟩ := (f1 o o0 (by omega)).2.2.1
      rw [← b3]; exact inc k b1 b2
  · rcases (by omega : k < u ∨ k = u) with y | y
    · obtain ⟨j, j0, j1, j2⟩ := f3 k k0 y q
      exact ⟨j, j0, by omega, by rw [e1 j j0 j1]; exact j2⟩
    · exact ⟨h, h0, by omega, by rw [e2, y]⟩
def n_mk0 (a b u sy : Int) (kd tx ah mk : Int → Int) : Prop := (∀ p : Int, a ≤ p → p < b → ¬ mk (tx p) = 0) ∧ ((∃ k : Int, 0 ≤ k ∧ k < u ∧ kd (ah k) = 1) ∨ ∀ s : Int, 0 ≤ s → s < sy → ¬ mk s = 0 → ∃ p : Int, a ≤ p ∧ p < b ∧ tx p = s)
theorem n_B_e {σ : S0} {mk hs hy : Int → Int} {n : Int} (n20 : ∀ j, 0 ≤ hy j) (f : n_F n (σ.1 13) (hs n) (σ.2.1 18 n) (σ.2.1 13) (σ.2.1 14) (σ.2.1 16) hy (σ.2.1 31) mk) (m : n_mk0 (σ.2.1 14 n) (σ.2.1 14 n + σ.2.1 15 n) (σ.1 13) (σ.1 3) (σ.2.1 13) (σ.2.1 16) (σ.2.1 31) mk) (t : n_N (σ.2.1 14 n) (σ.2.1 14 n + σ.2.1 15 n) (σ.1 3) (σ.2.1 8) (σ.2.1 11) (σ.2.1 12) (σ.2.1 16) (σ.2.1 17)) (s : n_S σ) (hj : n_J σ) (hT : m_T σ) (en : n = σ.1 5) : n_B n (σ.2.1 8) (σ.2.1 13) (σ.2.1 14) (σ.2.1 15) (σ.2.1 16) (σ.2.1 17) (σ.2.1 18) hs hy := by
  obtain ⟨f1, f2, f3⟩ := f
  obtain ⟨m1, m2⟩ := m
  obtain ⟨s1, s2, s3⟩ := s
  have n16 : ∀ j, 0 ≤ σ.2.1 16 j := fun j => (hT.2 16 j).1
  have n13 : ∀ j, 0 ≤ σ.2.1 13 j := fun j => (hT.2 13 j).1
  refine ⟨fun k k0 k1 => ⟨(f1 k k0 k1).1, (f1 k k0 k1).2.1⟩, fun p p0 p1 z => ?_, ?_, fun k o o0 ok k1 z1 z2 e => ?_⟩
  · rcases (by omega : σ.2.1 14 n < p ∨ p = σ.2.1 14 n) with q | q
    · obtain ⟨c1, c2⟩ := t.2 p q p1
      rcases c2 with ⟨c3, _⟩ | ⟨_, c4, c5⟩
      · exact absurd c3 z
      · have w := s3 (σ.2.1 16 p) (n16 p) c1 (by rw [← c5]; exact c4)
        obtain ⟨⟨k, k0, k1, k2⟩, w2, w3⟩ := w
        obtain ⟨j, j0, j1, j2⟩ := f3 k k0 k1 (Or.inr (by rw [k2, w3]; exact m1 p p0 p1))
        exact ⟨j, j0, j1, by rw [j2, k2, c5]⟩
    · rw [q] at z; exact absurd t.1.2.1 z
  · by_cases q : ∃ k : Int, 0 ≤ k ∧ k < hs n ∧ σ.2.1 13 (hy (σ.2.1 18 n + k)) = 1
    · exact Or.inl q
    · refine Or.inr (fun k k0 k1 => ?_)
      obtain ⟨a1, a2, _, a4⟩ := f1 k k0 k1
      have z : σ.2.1 13 (hy (σ.2.1 18 n + k)) = 0 := by
        have b := n13 (hy (σ.2.1 18 n + k))
        rcases (by omega : σ.2.1 13 (hy (σ.2.1 18 n + k)) = 0 ∨ σ.2.1 13 (hy (σ.2.1 18 n + k)) = 1) with y | y
        · exact y
        · exact absurd ⟨k, k0, k1, y⟩ q
      refine ⟨z, ?_⟩
      have hA := (hj _ (n20 (σ.2.1 18 n + k)) (by omega)).1
      have v := (hA.2.2 (σ.2.1 14 (hy (σ.2.1 18 n + k)) + 1) (by omega) (by have := (hA.2.1 z).1; omega)).1
      rcases m2 with ⟨j, j0, j1, j2⟩ | m2
      · obtain ⟨x, x0, x1, x2⟩ := f3 j j0 j1 (Or.inl j2)
        exact absurd ⟨x, x0, x1, by rw [x2]; exact j2⟩ q
      · obtain ⟨p, p0, p1, p2⟩ := m2 _ (n16 _) v (a4.resolve_left (by omega))
        exact ⟨p, p0, p1, p2⟩
  · obtain ⟨_, _, ⟨i1, b0, b1, b2⟩, _⟩ := f1 k (by omega) k1
    obtain ⟨_, _, ⟨i2, d0, d1, d2⟩, _⟩ := f1 o o0 (by omega)
    have u1 := (s1 i1 b0 b1).2.2 (by rw [b2]; exact z2)
    have u2 := (s1 i2 d0 d1).2.2 (by rw [d2]; exact z1)
    rw [b2] at u1; rw [d2] at u2
    rw [e, u1] at u2
    have := f2 k o o0 ok k1
    omega
/-- a floating hypothesis more -/
theorem n_S_f {σ τ : S0} {s : Int} (h : n_S σ) (hT : m_T σ) (s0 : 0 ≤ s) (s1 : s < σ.1 3) (z : σ.2.1 11 s = -1) (w3 : τ.1 3 = σ.1 3) (w5 : τ.1 5 = σ.1 5 + 1) (w13 : τ.1 13 = σ.1 13 + 1) (g13 : τ.2.1 13 = st (σ.2.1 13) (σ.1 5) 0) (g14 : τ.2.1 14 = σ.2.1 14) (g16 : τ.2.1 16 = σ.2.1 16) (g11 : τ.2.1 11 = st (σ.2.1 11) s (σ.1 5)) (g31 : τ.2.1 31 = st (σ.2.1 31) (σ.1 13) (σ.1 5)) (e : σ.2.1 16 (σ.2.1 14 (σ.1 5) + 1) = s) (c0 : 0 ≤ σ.1 13) : n_S τ := by
  obtain ⟨h1, h2, h3⟩ := h
  unfold n_S
  rw [w3, w5, w13, g13, g14, g16, g11, g31]
  refine ⟨fun k k0 k1 => ?_, fun k o o0 ok k1 => ?_, fun x x0 x1 y => ?_⟩
  · rcases (by omega : k < σ.1 13 ∨ k = σ.1 13) with q | q
    · obtain ⟨a1, a2, a3⟩ := h1 k k0 q
      rw [st_n _ _ (by omega), st_n _ _ (by omega)]
      refine ⟨by omega, a2, fun y => ?_⟩
      have w := a3 y
      by_cases v : σ.2.1 16 (σ.2.1 14 (σ.2.1 31 k) + 1) = s
      · rw [v] at w
        have := (hT.2 31 k).1
        have : 0 ≤ σ.2.1 31 k := this
        omega
      · rw [st_n _ _ v]; exact w
    · rw [q, st_s, st_s, e, st_s]; exact ⟨by omega, by omega, fun _ => rfl⟩
  · rcases (by omega : k < σ.1 13 ∨ k = σ.1 13) with q | q
    · rw [st_n _ _ (by omega), st_n _ _ (by omega)]; exact h2 k o o0 ok q
    · rw [q, st_s, st_n _ _ (by omega)]; exact (h1 o o0 (by omega)).1
  · by_cases v : x = s
    · rw [v, st_s, st_s]
      exact ⟨⟨σ.1 13, c0, by omega, st_s _ _ _⟩, rfl, e⟩
    · rw [st_n _ _ v] at y ⊢
      obtain ⟨⟨k, k0, k1, k2⟩, b2, b3⟩ := h3 x x0 x1 y
      have a1 := (h1 k k0 k1).1
      rw [k2] at a1
      rw [st_n _ _ (by omega)]
      exact ⟨⟨k, k0, by omega, by rw [st_n _ _ (by omega)]; exact k2⟩, b2, b3⟩
/-- an essential hypothesis more -/
theorem n_S_e {σ τ : S0} (h : n_S σ) (w3 : τ.1 3 = σ.1 3) (w5 : τ.1 5 = σ.1 5 + 1) (w13 : τ.1 13 = σ.1 13 + 1) (g13 : τ.2.1 13 = st (σ.2.1 13) (σ.1 5) 1) (g14 : τ.2.1 14 = σ.2.1 14) (g16 : τ.2.1 16 = σ.2.1 16) (g11 : τ.2.1 11 = σ.2.1 11) (g31 : τ.2.1 31 = st (σ.2.1 31) (σ.1 13) (σ.1 5)) : n_S τ := by
  obtain ⟨h1, h2, h3⟩ := h
  unfold n_S
  rw [w3, w5, w13, g13, g14, g16, g11, g31]
  refine ⟨fun k k0 k1 => ?_, fun k o o0 ok k1 => ?_, fun x x0 x1 y => ?_⟩
  · rcases (by omega : k < σ.1 13 ∨ k = σ.1 13) with q | q
    · obtain ⟨a1, a2, a3⟩ := h1 k k0 q
      rw [st_n _ _ (by omega), st_n _ _ (by omega)]
      exact ⟨by omega, a2, a3⟩
    · rw [q, st_s, st_s]; exact ⟨by omega, by omega, fun y => by omega⟩
  · rcases (by omega : k < σ.1 13 ∨ k = σ.1 13) with q | q
    · rw [st_n _ _ (by omega), st_n _ _ (by omega)]; exact h2 k o o0 ok q
    · rw [q, st_s, st_n _ _ (by omega)]; exact (h1 o o0 (by omega)).1
  · obtain ⟨⟨k, k0, k1, k2⟩, b2, b3⟩ := h3 x x0 x1 y
    have a1 := (h1 k k0 k1).1
    rw [k2] at a1
    rw [st_n _ _ (by omega)]
    exact ⟨⟨k, k0, by omega, by rw [st_n _ _ (by omega)]; exact k2⟩, b2, b3⟩
/-- an assertion more -/
theorem n_S_k {σ τ : S0} {x : Int} (h : n_S σ) (w3 : τ.1 3 = σ.1 3) (w5 : τ.1 5 = σ.1 5 + 1) (w13 : τ.1 13 = σ.1 13) (g13 : τ.2.1 13 = st (σ.2.1 13) (σ.1 5) x) (g14 : τ.2.1 14 = σ.2.1 14) (g16 : τ.2.1 16 = σ.2.1 16) (g11 : τ.2.1 11 = σ.2.1 11) (g31 : τ.2.1 31 = σ.2.1 31) : n_S τ := by
  obtain ⟨h1, h2, h3⟩ := h
  unfold n_S
  rw [w3, w5, w13, g13, g14, g16, g11, g31]
  refine ⟨fun k k0 k1 => ?_, h2, fun s x0 x1 y => ?_⟩
  · obtain ⟨a1, a2, a3⟩ := h1 k k0 k1
    rw [st_n _ _ (by omega)]; exact ⟨by omega, a2, a3⟩
  · obtain ⟨⟨k, k0, k1, k2⟩, b2, b3⟩ := h3 s x0 x1 y
    have a1 := (h1 k k0 k1).1
    rw [k2] at a1
    rw [st_n _ _ (by omega)]
    exact ⟨⟨k, k0, k1, k2⟩, b2, b3⟩
/-- the symbols of a statement that is read become those of a statement -/
theorem n_A_e {σ τ : S0} {k n : Int} (t : n_N (τ.2.1 14 n) (τ.2.1 14 n + τ.2.1 15 n) (σ.1 3) (σ.2.1 8) (σ.2.1 11) (τ.2.1 12) (τ.2.1 16) (τ.2.1 17)) (s : n_S σ) (hT : m_T σ) (k1 : 1 ≤ k) (ts : τ.2.1 15 n ≤ 300) (en : n = σ.1 5) (w3 : τ.1 3 = σ.1 3) (g8 : τ.2.1 8 = σ.2.1 8) (g13 : τ.2.1 13 = st (σ.2.1 13) n k) (g14 : τ.2.1 14 = σ.2.1 14) (g16 : ∀ p : Int, p < τ.2.1 14 n → τ.2.1 16 p = σ.2.1 16 p) (mj : ∀ i : Int, 0 ≤ i → i < n → σ.2.1 14 i + σ.2.1 15 i ≤ τ.2.1 14 n) (hj : n_J σ) (hT2 : m_T τ) : n_A n (τ.1 3) (τ.2.1 8) (τ.2.1 10) (τ.2.1 12) (τ.2.1 13) (τ.2.1 14) (τ.2.1 15) (τ.2.1 16) (τ.2.1 17) := by
  obtain ⟨⟨a1, a2, a3, a4, a5⟩, a6⟩ := t
  obtain ⟨s1, s2, s3⟩ := s
  unfold n_A
  rw [w3, g8, g13]
  have n16 : ∀ p : Int, 0 ≤ σ.2.1 16 p := fun p => (hT.2 16 p).1
  have n31 : ∀ p : Int, 0 ≤ σ.2.1 31 p := fun p => (hT.2 31 p).1
  refine ⟨⟨by omega, ts, a2, a5⟩, fun z => by rw [st_s] at z; omega, fun p p0 p1 => ?_⟩
  rcases (by omega : p = τ.2.1 14 n ∨ τ.2.1 14 n < p) with q | q
  · rw [q]; exact ⟨a4, Or.inl ⟨a2, a3⟩⟩
  · obtain ⟨b1, b2⟩ := a6 p q p1
    refine ⟨b1, ?_⟩
    rcases b2 with b2 | ⟨b2, b3, b4⟩
    · exact Or.inl b2
    · refine Or.inr ⟨b2, ?_⟩
      have x0 : 0 ≤ τ.2.1 16 p := (hT2.2 16 p).1
      obtain ⟨⟨k2, k3, k4, k5⟩, c2, c3⟩ := s3 (τ.2.1 16 p) x0 b1 (by rw [← b4]; exact b3)
      have c1 := (s1 k2 k3 k4).1
      rw [k5] at c1
      have c0 := n31 k2
      rw [k5] at c0
      have hA := (hj _ c0 c1).1.2.1 c2
      have m := mj _ c0 (by omega)
      rw [b4, st_n _ _ (by omega), g14, g16 (σ.2.1 14 (σ.2.1 11 (τ.2.1 16 p)) + 1) (by omega)]
      exact ⟨c0, by omega, c2, c3⟩
set_option maxHeartbeats 1000000 in
theorem K3_X13_addSymbol {n1 : Int} {n2 : Int} {σ : S0} (hT : m_T σ) (p1 : 0 ≤ n1) (p2 : n1 < 1000) (p3 : -1 ≤ n2) (p4 : n2 ≤ 1499) (p5 : (σ.1 6) < 30000) (p6 : σ.2.1 15 (σ.1 22) < 300) (p7 : (σ.1 22) = (σ.1 5)) : W_X13_addSymbol n1 n2 σ (fun (τ : S0) => (m_T τ) ∧ ((τ.1 6) = (σ.1 6) + 1) ∧ (τ.2.1 15 (τ.1 22) = σ.2.1 15 (σ.1 22) + 1) ∧ (m_ag σ τ) ∧ (τ.2.1 16 = st (σ.2.1 16) (σ.1 6) n1) ∧ (τ.2.1 17 = st (σ.2.1 17) (σ.1 6) n2)) := by
  have A15 : ∀ j, 0 ≤ σ.2.1 15 j ∧ σ.2.1 15 j ≤ 300 := fun j => hT.2 15 j
  have A16 : ∀ j, 0 ≤ σ.2.1 16 j ∧ σ.2.1 16 j ≤ 999 := fun j => hT.2 16 j
  have A17 : ∀ j, (-1) ≤ σ.2.1 17 j ∧ σ.2.1 17 j ≤ 1499 := fun j => hT.2 17 j
  have v3 : 0 ≤ σ.1 3 ∧ σ.1 3 ≤ 1000 := hT.1 3
  have v5 : 0 ≤ σ.1 5 ∧ σ.1 5 ≤ 1500 := hT.1 5
  have v6 : 0 ≤ σ.1 6 ∧ σ.1 6 ≤ 30000 := hT.1 6
  have v7 : 0 ≤ σ.1 7 ∧ σ.1 7 ≤ 90000 := hT.1 7
  have v8 : 0 ≤ σ.1 8 ∧ σ.1 8 ≤ 20000 := hT.1 8
  have v9 : 0 ≤ σ.1 9 ∧ σ.1 9 ≤ 20000 := hT.1 9
  have v22 : 0 ≤ σ.1 22 ∧ σ.1 22 ≤ 1499 := hT.1 22
  have a15_22 : 0 ≤ σ.2.1 15 (σ.1 22) ∧ σ.2.1 15 (σ.1 22) ≤ 300 := hT.2 15 _
  have W3 : σ.1 3 = σ.1 3 := rfl
  have W5 : σ.1 5 = σ.1 5 := rfl
  have W7 : σ.1 7 = σ.1 7 := rfl
  have W8 : σ.1 8 = σ.1 8 := rfl
  have W9 : σ.1 9 = σ.1 9 := rfl
  have W22 : σ.1 22 = σ.1 22 := rfl
  have ag : m_ag σ σ := ag_0 σ
  unfold W_X13_addSymbol
  refine ⟨(show 0 ≤ σ.1 6 ∧ σ.1 6 < 30400 from by (first | omega | (simp only [st_s] <;> omega) | assumption | omega | fail)), ?_⟩
  replace ag := ag_w (k := 16) (x := n1) 6 0 ag rfl (show σ.1 6 + 0 ≤ (σ.1 6) from by (first | omega | (simp only [st_s] <;> omega) | assumption | omega | fail))
  replace hT := mT_a (k := 16) (j := (σ.1 6)) hT (show (0 : Int) ≤ n1 ∧ n1 ≤ 999 from by (first | omega | (simp only [st_s] <;> omega) | assumption | omega | fail))
  replace ag := ag_w (k := 17) (x := n2) 6 0 ag rfl (show σ.1 6 + 0 ≤ (σ.1 6) from by (first | omega | (simp only [st_s] <;> omega) | assumption | omega | fail))
  replace hT := mT_a (k := 17) (j := (σ.1 6)) hT (show (-1 : Int) ≤ n2 ∧ n2 ≤ 1499 from by (first | omega | (simp only [st_s] <;> omega) | assumption | omega | fail))
  refine ⟨(⟨by (first | omega | (simp only [st_s] <;> omega) | assumption | omega | fail), by (first | omega | (simp only [st_s] <;> omega) | assumption | omega | fail)⟩ : rg (σ.1 6 + 1)), ?_⟩
  replace ag := ag_v (i := 6) (x := (σ.1 6 + 1)) ag (Or.inr (show σ.1 6 ≤ (σ.1 6 + 1) from by (first | omega | (simp only [st_s] <;> omega) | assumption | omega | fail)))
  replace hT := mT_v (i := 6) hT (show 0 ≤ (σ.1 6 + 1) ∧ (σ.1 6 + 1) ≤ 30000 from by (first | omega | (simp only [st_s] <;> omega) | assumption | omega | fail))
  refine ⟨(show 0 ≤ σ.1 22 ∧ σ.1 22 < 1501 from by (first | omega | (simp only [st_s] <;> omega) | assumption | omega | fail)), ?_⟩
  intro x4 r_x4 e_x4
  have b_x4 : 0 ≤ x4 ∧ x4 ≤ 300 := by rw [e_x4]; exact hT.2 15 _
  refine ⟨(⟨by (first | omega | (simp only [st_s] <;> omega) | assumption | omega | fail), by (first | omega | (simp only [st_s] <;> omega) | assumption | omega | fail)⟩ : rg (x4 + 1)), ?_⟩
  replace ag := ag_w (k := 15) (x := (x4 + 1)) 5 0 ag rfl (show σ.1 5 + 0 ≤ (σ.1 22) from by (first | omega | (simp only [st_s] <;> omega) | assumption | omega | fail))
  replace hT := mT_a (k := 15) (j := (σ.1 22)) hT (show (0 : Int) ≤ (x4 + 1) ∧ (x4 + 1) ≤ 300 from by (first | omega | (simp only [st_s] <;> omega) | assumption | omega | fail))
  exact ⟨hT, (show ((σ.1 6 + 1)) = (σ.1 6) + 1 from by (first | omega | (simp only [st_s] <;> omega) | assumption | omega | fail)), (show (st (σ.2.1 15) (σ.1 22) (x4 + 1)) (σ.1 22) = σ.2.1 15 (σ.1 22) + 1 from by (first | omega | (simp only [st_s] <;> omega) | assumption | omega | fail)), ag, (show (st (σ.2.1 16) (σ.1 6) n1) = st (σ.2.1 16) (σ.1 6) n1 from by (first | omega | (simp only [st_s] <;> omega) | assumption | omega | fail)), (show (st (σ.2.1 17) (σ.1 6) n2) = st (σ.2.1 17) (σ.1 6) n2 from by (first | omega | (simp only [st_s] <;> omega) | assumption | omega | fail))⟩
set_option maxHeartbeats 1000000 in
theorem K3_X13_readFirst {σ : S0} (hT : m_T σ) (p1 : (σ.1 17) + (σ.1 18) ≤ (σ.1 0)) (p2 : oc (σ.2.1 6) < 4096) (p3 : σ.2.1 15 (σ.1 22) = 0) (p4 : (σ.1 22) = (σ.1 5)) (p5 : σ.2.1 14 (σ.1 22) + σ.2.1 15 (σ.1 22) = (σ.1 6)) (p6 : ca (σ.2.1 12) ((σ.1 3)) ≤ (σ.1 4)) (p7 : j_l2 (σ.2.1 6) (σ.1 3)) : W_X13_readFirst σ (fun (τ : S0) => (m_T τ) ∧ ((τ.1 20) = 0 → τ.2.1 15 (τ.1 22) = 1) ∧ (τ.2.1 15 (τ.1 22) ≤ 1) ∧ (¬ (σ.1 20) = 0 → (τ.1 20) = (σ.1 20)) ∧ (τ.2.1 14 (τ.1 22) + τ.2.1 15 (τ.1 22) = (τ.1 6)) ∧ (ca (τ.2.1 12) ((τ.1 3)) ≤ (τ.1 4)) ∧ (m_ag σ τ) ∧ ((τ.1 20) = 0 → n_N (τ.2.1 14 (τ.1 22)) (τ.2.1 14 (τ.1 22) + τ.2.1 15 (τ.1 22)) (σ.1 3) (σ.2.1 8) (σ.2.1 11) (τ.2.1 12) (τ.2.1 16) (τ.2.1 17)) ∧ (n_rl σ τ) ∧ (∀ s : Int, ¬ σ.2.1 12 s = 0 → ¬ τ.2.1 12 s = 0)) := by
  have A6 : ∀ j, (-1) ≤ σ.2.1 6 j ∧ σ.2.1 6 j ≤ 999 := fun j => hT.2 6 j
  have A8 : ∀ j, 0 ≤ σ.2.1 8 j ∧ σ.2.1 8 j ≤ 1 := fun j => hT.2 8 j
  have A10 : ∀ j, (-1) ≤ σ.2.1 10 j ∧ σ.2.1 10 j ≤ 999 := fun j => hT.2 10 j
  have A11 : ∀ j, (-1) ≤ σ.2.1 11 j ∧ σ.2.1 11 j ≤ 1499 := fun j => hT.2 11 j
  have A12 : ∀ j, 0 ≤ σ.2.1 12 j ∧ σ.2.1 12 j ≤ 1 := fun j => hT.2 12 j
  have A14 : ∀ j, 0 ≤ σ.2.1 14 j ∧ σ.2.1 14 j ≤ 30000 := fun j => hT.2 14 j
  have A15 : ∀ j, 0 ≤ σ.2.1 15 j ∧ σ.2.1 15 j ≤ 300 := fun j => hT.2 15 j
  have A16 : ∀ j, 0 ≤ σ.2.1 16 j ∧ σ.2.1 16 j ≤ 999 := fun j => hT.2 16 j
  have A17 : ∀ j, (-1) ≤ σ.2.1 17 j ∧ σ.2.1 17 j ≤ 1499 := fun j => hT.2 17 j
  have v0 : 0 ≤ σ.1 0 ∧ σ.1 0 ≤ 60000 := hT.1 0
  have v3 : 0 ≤ σ.1 3 ∧ σ.1 3 ≤ 1000 := hT.1 3
  have v4 : 0 ≤ σ.1 4 ∧ σ.1 4 ≤ 100 := hT.1 4
  have v5 : 0 ≤ σ.1 5 ∧ σ.1 5 ≤ 1500 := hT.1 5
  have v6 : 0 ≤ σ.1 6 ∧ σ.1 6 ≤ 30000 := hT.1 6
  have v7 : 0 ≤ σ.1 7 ∧ σ.1 7 ≤ 90000 := hT.1 7
  have v8 : 0 ≤ σ.1 8 ∧ σ.1 8 ≤ 20000 := hT.1 8
  have v9 : 0 ≤ σ.1 9 ∧ σ.1 9 ≤ 20000 := hT.1 9
  have v10 : (-1) ≤ σ.1 10 ∧ σ.1 10 ≤ 999 := hT.1 10
  have v11 : (-1) ≤ σ.1 11 ∧ σ.1 11 ≤ 999 := hT.1 11
  have v17 : 0 ≤ σ.1 17 ∧ σ.1 17 ≤ 60000 := hT.1 17
  have v18 : 0 ≤ σ.1 18 ∧ σ.1 18 ≤ 60000 := hT.1 18
  have v19 : (-1) ≤ σ.1 19 ∧ σ.1 19 ≤ 125 := hT.1 19
  have v20 : 0 ≤ σ.1 20 ∧ σ.1 20 ≤ 19 := hT.1 20
  have v22 : 0 ≤ σ.1 22 ∧ σ.1 22 ≤ 1499 := hT.1 22
  have a14_22 : 0 ≤ σ.2.1 14 (σ.1 22) ∧ σ.2.1 14 (σ.1 22) ≤ 30000 := hT.2 14 _
  have a15_22 : 0 ≤ σ.2.1 15 (σ.1 22) ∧ σ.2.1 15 (σ.1 22) ≤ 300 := hT.2 15 _
  have W0 : σ.1 0 = σ.1 0 := rfl
  have W3 : σ.1 3 = σ.1 3 := rfl
  have W5 : σ.1 5 = σ.1 5 := rfl
  have W7 : σ.1 7 = σ.1 7 := rfl
  have W8 : σ.1 8 = σ.1 8 := rfl
  have W9 : σ.1 9 = σ.1 9 := rfl
  have W10 : σ.1 10 = σ.1 10 := rfl
  have W11 : σ.1 11 = σ.1 11 := rfl
  have W17 : σ.1 17 = σ.1 17 := rfl
  have W18 : σ.1 18 = σ.1 18 := rfl
  have W19 : σ.1 19 = σ.1 19 := rfl
  have W22 : σ.1 22 = σ.1 22 := rfl
  have G6 : σ.2.1 6 = σ.2.1 6 := rfl
  have G8 : σ.2.1 8 = σ.2.1 8 := rfl
  have G10 : σ.2.1 10 = σ.2.1 10 := rfl
  have G11 : σ.2.1 11 = σ.2.1 11 := rfl
  have G14 : σ.2.1 14 = σ.2.1 14 := rfl
  have ag : m_ag σ σ := ag_0 σ
  intro P38 P71 P79 P102 P111 P143 h38 h71 h79 h102 h111 h143
  have Z1 : σ.2.1 14 (σ.1 22) + σ.2.1 15 (σ.1 22) = (σ.1 6) := p5
  have Y20 : ca (σ.2.1 12) ((σ.1 3)) ≤ (σ.1 4) := p6
  have Y1 : j_l2 (σ.2.1 6) (σ.1 3) := p7
  have STt : j_l2 (σ.2.1 6) (σ.1 3) := p7
  have STt_0 := STt
  have Y1_0 := Y1
  have Y20_0 := Y20
  have Z1_0 := Z1
  refine ⟨fun c1 => ?_, fun c1 => ?_⟩
  ·
    refine ⟨_, K_X13_symbolHere hT (show (σ.1 17) + (σ.1 18) ≤ 60000 from by (first | omega | (simp only [st_s] <;> omega) | assumption | omega | fail)) (show oc (σ.2.1 6) < 4096 from by (first | omega | (simp only [st_s] <;> omega) | assumption | omega | fail)), ?_⟩
    intro x3 r_x3 hq
    obtain ⟨q2_1, q2_2⟩ := hq
    replace q2_1 : -1 ≤ x3 ∧ x3 ≤ 999 := q2_1
    replace q2_2 : x3 = -1 ∨ ∃ e : Int, (0 ≤ e ∧ e < 4096) ∧ x3 = σ.2.1 6 e := q2_2
    have x3lt : ¬ x3 = -1 → x3 < σ.1 3 := fun z => by (have q := q2_2.resolve_left z; obtain ⟨e, e1, e2⟩ := q; rw [e2]; exact p7 e e1.1 e1.2)
    clear q2_2
    refine ⟨fun c5 => ?_, fun c5 => ?_⟩
    ·
      refine h38 _ _ _ ?_
      refine ⟨fun c12 => ?_, fun c12 => ?_⟩
      ·
        refine h71 _ ?_
        refine ⟨_, K_X13_failHere hT (show 0 ≤ (5 : Int) from by (first | omega | (simp only [st_s] <;> omega) | assumption | omega | fail)) (show (5 : Int) ≤ 19 from by (first | omega | (simp only [st_s] <;> omega) | assumption | omega | fail)), ?_⟩
        intro τ20 hn_τ20 hf_τ20 hq
        obtain ⟨hT, q18_1, q18_2⟩ := hq
        replace q18_1 : ¬ (σ.1 20) = 0 → (τ20.1 20) = (σ.1 20) := q18_1
        replace q18_2 : (σ.1 20) = 0 → (τ20.1 20) = (5 : Int) := q18_2
        replace ag : m_ag σ τ20 := ag_r ag hf_τ20 rfl rfl
        have w0_τ20 : τ20.1 0 = σ.1 0 := hf_τ20.1 0 (by decide)
        have w3_τ20 : τ20.1 3 = σ.1 3 := hf_τ20.1 3 (by decide)
        have w4_τ20 : τ20.1 4 = σ.1 4 := hf_τ20.1 4 (by decide)
        have w5_τ20 : τ20.1 5 = σ.1 5 := hf_τ20.1 5 (by decide)
        have w6_τ20 : τ20.1 6 = σ.1 6 := hf_τ20.1 6 (by decide)
        have w7_τ20 : τ20.1 7 = σ.1 7 := hf_τ20.1 7 (by decide)
        have w8_τ20 : τ20.1 8 = σ.1 8 := hf_τ20.1 8 (by decide)
        have w9_τ20 : τ20.1 9 = σ.1 9 := hf_τ20.1 9 (by decide)
        have w10_τ20 : τ20.1 10 = σ.1 10 := hf_τ20.1 10 (by decide)
        have w11_τ20 : τ20.1 11 = σ.1 11 := hf_τ20.1 11 (by decide)
        have w17_τ20 : τ20.1 17 = σ.1 17 := hf_τ20.1 17 (by decide)
        have w18_τ20 : τ20.1 18 = σ.1 18 := hf_τ20.1 18 (by decide)
        have w19_τ20 : τ20.1 19 = σ.1 19 := hf_τ20.1 19 (by decide)
        have w22_τ20 : τ20.1 22 = σ.1 22 := hf_τ20.1 22 (by decide)
        have g6_τ20 : τ20.2.1 6 = σ.2.1 6 := hf_τ20.2.1 6 (by decide)
        have g8_τ20 : τ20.2.1 8 = σ.2.1 8 := hf_τ20.2.1 8 (by decide)
        have g10_τ20 : τ20.2.1 10 = σ.2.1 10 := hf_τ20.2.1 10 (by decide)
        have g11_τ20 : τ20.2.1 11 = σ.2.1 11 := hf_τ20.2.1 11 (by decide)
        have g12_τ20 : τ20.2.1 12 = σ.2.1 12 := hf_τ20.2.1 12 (by decide)
        have g14_τ20 : τ20.2.1 14 = σ.2.1 14 := hf_τ20.2.1 14 (by decide)
        have g15_τ20 : τ20.2.1 15 = σ.2.1 15 := hf_τ20.2.1 15 (by decide)
        have g16_τ20 : τ20.2.1 16 = σ.2.1 16 := hf_τ20.2.1 16 (by decide)
        have g17_τ20 : τ20.2.1 17 = σ.2.1 17 := hf_τ20.2.1 17 (by decide)
        first | (have o6_τ20 := congrArg oc g6_τ20) | skip
        have W0 : τ20.1 0 = σ.1 0 := by first | exact w0_τ20.trans W0 | omega
        have W3 : τ20.1 3 = σ.1 3 := by first | exact w3_τ20.trans W3 | omega
        have W5 : τ20.1 5 = σ.1 5 := by first | exact w5_τ20.trans W5 | omega
        have W7 : τ20.1 7 = σ.1 7 := by first | exact w7_τ20.trans W7 | omega
        have W8 : τ20.1 8 = σ.1 8 := by first | exact w8_τ20.trans W8 | omega
        have W9 : τ20.1 9 = σ.1 9 := by first | exact w9_τ20.trans W9 | omega
        have W10 : τ20.1 10 = σ.1 10 := by first | exact w10_τ20.trans W10 | omega
        have W11 : τ20.1 11 = σ.1 11 := by first | exact w11_τ20.trans W11 | omega
        have W17 : τ20.1 17 = σ.1 17 := by first | exact w17_τ20.trans W17 | omega
        have W18 : τ20.1 18 = σ.1 18 := by first | exact w18_τ20.trans W18 | omega
        have W19 : τ20.1 19 = σ.1 19 := by first | exact w19_τ20.trans W19 | omega
        have W22 : τ20.1 22 = σ.1 22 := by first | exact w22_τ20.trans W22 | omega
        have G6 : τ20.2.1 6 = σ.2.1 6 := (g6_τ20).trans G6
        have G8 : τ20.2.1 8 = σ.2.1 8 := (g8_τ20).trans G8
        have G10 : τ20.2.1 10 = σ.2.1 10 := (g10_τ20).trans G10
        have G11 : τ20.2.1 11 = σ.2.1 11 := (g11_τ20).trans G11
        have G14 : τ20.2.1 14 = σ.2.1 14 := (g14_τ20).trans G14
        have y14_22_τ20 : τ20.2.1 14 (τ20.1 22) = (σ.2.1 14) (σ.1 22) := by rw [g14_τ20, w22_τ20]
        have y15_22_τ20 : τ20.2.1 15 (τ20.1 22) = (σ.2.1 15) (σ.1 22) := by rw [g15_τ20, w22_τ20]
        have Z1 : τ20.2.1 14 (τ20.1 22) + τ20.2.1 15 (τ20.1 22) = (τ20.1 6) := by rw [show (τ20.2.1 14 (τ20.1 22) + τ20.2.1 15 (τ20.1 22) = (τ20.1 6)) = (σ.2.1 14 (σ.1 22) + σ.2.1 15 (σ.1 22) = (σ.1 6)) from by rw [w6_τ20, w22_τ20, g14_τ20, g15_τ20]]; exact Z1
        have Y20 : ca (τ20.2.1 12) ((τ20.1 3)) ≤ (τ20.1 4) := by rw [show (ca (τ20.2.1 12) ((τ20.1 3)) ≤ (τ20.1 4)) = (ca (σ.2.1 12) ((σ.1 3)) ≤ (σ.1 4)) from by rw [w3_τ20, w4_τ20, g12_τ20]]; exact Y20
        have Y1 : j_l2 (τ20.2.1 6) (τ20.1 3) := by rw [show (j_l2 (τ20.2.1 6) (τ20.1 3)) = (j_l2 (σ.2.1 6) (σ.1 3)) from by rw [w3_τ20, g6_τ20]]; exact Y1
        have STt : j_l2 (τ20.2.1 6) (τ20.1 3) := by rw [show (j_l2 (τ20.2.1 6) (τ20.1 3)) = (j_l2 (σ.2.1 6) (σ.1 3)) from by rw [w3_τ20, g6_τ20]]; exact STt
        have A6 : ∀ j, (-1) ≤ τ20.2.1 6 j ∧ τ20.2.1 6 j ≤ 999 := fun j => hT.2 6 j
        have A8 : ∀ j, 0 ≤ τ20.2.1 8 j ∧ τ20.2.1 8 j ≤ 1 := fun j => hT.2 8 j
        have A10 : ∀ j, (-1) ≤ τ20.2.1 10 j ∧ τ20.2.1 10 j ≤ 999 := fun j => hT.2 10 j
        have A11 : ∀ j, (-1) ≤ τ20.2.1 11 j ∧ τ20.2.1 11 j ≤ 1499 := fun j => hT.2 11 j
        have A12 : ∀ j, 0 ≤ τ20.2.1 12 j ∧ τ20.2.1 12 j ≤ 1 := fun j => hT.2 12 j
        have A14 : ∀ j, 0 ≤ τ20.2.1 14 j ∧ τ20.2.1 14 j ≤ 30000 := fun j => hT.2 14 j
        have A15 : ∀ j, 0 ≤ τ20.2.1 15 j ∧ τ20.2.1 15 j ≤ 300 := fun j => hT.2 15 j
        have A16 : ∀ j, 0 ≤ τ20.2.1 16 j ∧ τ20.2.1 16 j ≤ 999 := fun j => hT.2 16 j
        have A17 : ∀ j, (-1) ≤ τ20.2.1 17 j ∧ τ20.2.1 17 j ≤ 1499 := fun j => hT.2 17 j
        have v0 : 0 ≤ τ20.1 0 ∧ τ20.1 0 ≤ 60000 := hT.1 0
        have v3 : 0 ≤ τ20.1 3 ∧ τ20.1 3 ≤ 1000 := hT.1 3
        have v4 : 0 ≤ τ20.1 4 ∧ τ20.1 4 ≤ 100 := hT.1 4
        have v5 : 0 ≤ τ20.1 5 ∧ τ20.1 5 ≤ 1500 := hT.1 5
        have v6 : 0 ≤ τ20.1 6 ∧ τ20.1 6 ≤ 30000 := hT.1 6
        have v7 : 0 ≤ τ20.1 7 ∧ τ20.1 7 ≤ 90000 := hT.1 7
        have v8 : 0 ≤ τ20.1 8 ∧ τ20.1 8 ≤ 20000 := hT.1 8
        have v9 : 0 ≤ τ20.1 9 ∧ τ20.1 9 ≤ 20000 := hT.1 9
        have v10 : (-1) ≤ τ20.1 10 ∧ τ20.1 10 ≤ 999 := hT.1 10
        have v11 : (-1) ≤ τ20.1 11 ∧ τ20.1 11 ≤ 999 := hT.1 11
        have v17 : 0 ≤ τ20.1 17 ∧ τ20.1 17 ≤ 60000 := hT.1 17
        have v18 : 0 ≤ τ20.1 18 ∧ τ20.1 18 ≤ 60000 := hT.1 18
        have v19 : (-1) ≤ τ20.1 19 ∧ τ20.1 19 ≤ 125 := hT.1 19
        have v20 : 0 ≤ τ20.1 20 ∧ τ20.1 20 ≤ 19 := hT.1 20
        have v22 : 0 ≤ τ20.1 22 ∧ τ20.1 22 ≤ 1499 := hT.1 22
        have a14_22 : 0 ≤ τ20.2.1 14 (τ20.1 22) ∧ τ20.2.1 14 (τ20.1 22) ≤ 30000 := hT.2 14 _
        have a15_22 : 0 ≤ τ20.2.1 15 (τ20.1 22) ∧ τ20.2.1 15 (τ20.1 22) ≤ 300 := hT.2 15 _
        have av6 : σ.1 6 ≤ τ20.1 6 := ag.1 6 (by decide)
        exact ⟨hT, (show (τ20.1 20) = 0 → τ20.2.1 15 (τ20.1 22) = 1 from by (first | omega | (simp only [st_s] <;> omega) | assumption | omega | fail)), (show τ20.2.1 15 (τ20.1 22) ≤ 1 from by (first | omega | (simp only [st_s] <;> omega) | assumption | omega | fail)), (show ¬ (σ.1 20) = 0 → (τ20.1 20) = (σ.1 20) from by (first | omega | (simp only [st_s] <;> omega) | assumption | omega | fail)), (show τ20.2.1 14 (τ20.1 22) + τ20.2.1 15 (τ20.1 22) = (τ20.1 6) from Z1), (show ca (τ20.2.1 12) ((τ20.1 3)) ≤ (τ20.1 4) from Y20), ag, (show (τ20.1 20) = 0 → n_N (τ20.2.1 14 (τ20.1 22)) (τ20.2.1 14 (τ20.1 22) + τ20.2.1 15 (τ20.1 22)) (σ.1 3) (σ.2.1 8) (σ.2.1 11) (τ20.2.1 12) (τ20.2.1 16) (τ20.2.1 17) from by (first | (intro z; exfalso; omega) | (intro _; rw [show τ41.2.1 14 (τ41.1 22) = σ.1 6 from by omega, show σ.1 6 + τ41.2.1 15 (τ41.1 22) = σ.1 6 + 1 from by omega]; exact n_N_1 q39_4 q39_5 (by omega) (x3lt (by omega)) (by rw [g12_τ41, st_s]; decide)) | fail)), (show n_rl σ τ20 from by (first | exact n_rl_h hf_τ11 rfl rfl | exact n_rl_h hf_τ20 rfl rfl | exact n_rl_h hf_τ29 rfl rfl | exact n_rl_h hf_τ36 rfl rfl | exact ⟨fun s _ _ _ => by rw [g10_τ41], fun s _ _ h => by (rw [g12_τ41]; by_cases z : s = x3; (rw [z, st_s]; decide); (rw [st_n _ _ z]; exact h)), Or.inl (by omega), Or.inl (by omega), by omega, fun zt s a b => by (rw [g10_τ41]; have h3 := zt s a (by omega); omega)⟩ | fail)), (show ∀ s : Int, ¬ σ.2.1 12 s = 0 → ¬ τ20.2.1 12 s = 0 from by (first | exact fun s h => by (rw [G12]; exact h) | exact fun s h => by (rw [g12_τ41]; by_cases z : s = x3; (rw [z, st_s]; decide); (rw [st_n _ _ z]; exact h)) | (intro s h; first | (rw [hf_τ11.2.1 12 (by decide)]; exact h) | (rw [hf_τ20.2.1 12 (by decide)]; exact h) | (rw [hf_τ29.2.1 12 (by decide)]; exact h) | (rw [hf_τ36.2.1 12 (by decide)]; exact h)) | fail))⟩
      ·
        refine ⟨fun c13 => ?_, fun c13 => ?_⟩
        ·
          refine h79 _ _ _ ?_
          refine ⟨fun c21 => ?_, fun c21 => ?_⟩
          ·
            refine h102 _ ?_
            refine ⟨_, K_X13_failHere hT (show 0 ≤ (9 : Int) from by (first | omega | (simp only [st_s] <;> omega) | assumption | omega | fail)) (show (9 : Int) ≤ 19 from by (first | omega | (simp only [st_s] <;> omega) | assumption | omega | fail)), ?_⟩
            intro τ29 hn_τ29 hf_τ29 hq
            obtain ⟨hT, q27_1, q27_2⟩ := hq
            replace q27_1 : ¬ (σ.1 20) = 0 → (τ29.1 20) = (σ.1 20) := q27_1
            replace q27_2 : (σ.1 20) = 0 → (τ29.1 20) = (9 : Int) := q27_2
            replace ag : m_ag σ τ29 := ag_r ag hf_τ29 rfl rfl
            have w0_τ29 : τ29.1 0 = σ.1 0 := hf_τ29.1 0 (by decide)
            have w3_τ29 : τ29.1 3 = σ.1 3 := hf_τ29.1 3 (by decide)
            have w4_τ29 : τ29.1 4 = σ.1 4 := hf_τ29.1 4 (by decide)
            have w5_τ29 : τ29.1 5 = σ.1 5 := hf_τ29.1 5 (by decide)
            have w6_τ29 : τ29.1 6 = σ.1 6 := hf_τ29.1 6 (by decide)
            have w7_τ29 : τ29.1 7 = σ.1 7 := hf_τ29.1 7 (by decide)
            have w8_τ29 : τ29.1 8 = σ.1 8 := hf_τ29.1 8 (by decide)
            have w9_τ29 : τ29.1 9 = σ.1 9 := hf_τ29.1 9 (by decide)
            have w10_τ29 : τ29.1 10 = σ.1 10 := hf_τ29.1 10 (by decide)
            have w11_τ29 : τ29.1 11 = σ.1 11 := hf_τ29.1 11 (by decide)
            have w17_τ29 : τ29.1 17 = σ.1 17 := hf_τ29.1 17 (by decide)
            have w18_τ29 : τ29.1 18 = σ.1 18 := hf_τ29.1 18 (by decide)
            have w19_τ29 : τ29.1 19 = σ.1 19 := hf_τ29.1 19 (by decide)
            have w22_τ29 : τ29.1 22 = σ.1 22 := hf_τ29.1 22 (by decide)
            have g6_τ29 : τ29.2.1 6 = σ.2.1 6 := hf_τ29.2.1 6 (by decide)
            have g8_τ29 : τ29.2.1 8 = σ.2.1 8 := hf_τ29.2.1 8 (by decide)
            have g10_τ29 : τ29.2.1 10 = σ.2.1 10 := hf_τ29.2.1 10 (by decide)
            have g11_τ29 : τ29.2.1 11 = σ.2.1 11 := hf_τ29.2.1 11 (by decide)
            have g12_τ29 : τ29.2.1 12 = σ.2.1 12 := hf_τ29.2.1 12 (by decide)
            have g14_τ29 : τ29.2.1 14 = σ.2.1 14 := hf_τ29.2.1 14 (by decide)
            have g15_τ29 : τ29.2.1 15 = σ.2.1 15 := hf_τ29.2.1 15 (by decide)
            have g16_τ29 : τ29.2.1 16 = σ.2.1 16 := hf_τ29.2.1 16 (by decide)
            have g17_τ29 : τ29.2.1 17 = σ.2.1 17 := hf_τ29.2.1 17 (by decide)
            first | (have o6_τ29 := congrArg oc g6_τ29) | skip
            have W0 : τ29.1 0 = σ.1 0 := by first | exact w0_τ29.trans W0 | omega
            have W3 : τ29.1 3 = σ.1 3 := by first | exact w3_τ29.trans W3 | omega
            have W5 : τ29.1 5 = σ.1 5 := by first | exact w5_τ29.trans W5 | omega
            have W7 : τ29.1 7 = σ.1 7 := by first | exact w7_τ29.trans W7 | omega
            have W8 : τ29.1 8 = σ.1 8 := by first | exact w8_τ29.trans W8 | omega
            have W9 : τ29.1 9 = σ.1 9 := by first | exact w9_τ29.trans W9 | omega
            have W10 : τ29.1 10 = σ.1 10 := by first | exact w10_τ29.trans W10 | omega
            have W11 : τ29.1 11 = σ.1 11 := by first | exact w11_τ29.trans W11 | omega
            have W17 : τ29.1 17 = σ.1 17 := by first | exact w17_τ29.trans W17 | omega
            have W18 : τ29.1 18 = σ.1 18 := by first | exact w18_τ29.trans W18 | omega
            have W19 : τ29.1 19 = σ.1 19 := by first | exact w19_τ29.trans W19 | omega
            have W22 : τ29.1 22 = σ.1 22 := by first | exact w22_τ29.trans W22 | omega
            have G6 : τ29.2.1 6 = σ.2.1 6 := (g6_τ29).trans G6
            have G8 : τ29.2.1 8 = σ.2.1 8 := (g8_τ29).trans G8
            have G10 : τ29.2.1 10 = σ.2.1 10 := (g10_τ29).trans G10
            have G11 : τ29.2.1 11 = σ.2.1 11 := (g11_τ29).trans G11
            have G14 : τ29.2.1 14 = σ.2.1 14 := (g14_τ29).trans G14
            have y14_22_τ29 : τ29.2.1 14 (τ29.1 22) = (σ.2.1 14) (σ.1 22) := by rw [g14_τ29, w22_τ29]
            have y15_22_τ29 : τ29.2.1 15 (τ29.1 22) = (σ.2.1 15) (σ.1 22) := by rw [g15_τ29, w22_τ29]
            have Z1 : τ29.2.1 14 (τ29.1 22) + τ29.2.1 15 (τ29.1 22) = (τ29.1 6) := by rw [show (τ29.2.1 14 (τ29.1 22) + τ29.2.1 15 (τ29.1 22) = (τ29.1 6)) = (σ.2.1 14 (σ.1 22) + σ.2.1 15 (σ.1 22) = (σ.1 6)) from by rw [w6_τ29, w22_τ29, g14_τ29, g15_τ29]]; exact Z1
            have Y20 : ca (τ29.2.1 12) ((τ29.1 3)) ≤ (τ29.1 4) := by rw [show (ca (τ29.2.1 12) ((τ29.1 3)) ≤ (τ29.1 4)) = (ca (σ.2.1 12) ((σ.1 3)) ≤ (σ.1 4)) from by rw [w3_τ29, w4_τ29, g12_τ29]]; exact Y20
            have Y1 : j_l2 (τ29.2.1 6) (τ29.1 3) := by rw [show (j_l2 (τ29.2.1 6) (τ29.1 3)) = (j_l2 (σ.2.1 6) (σ.1 3)) from by rw [w3_τ29, g6_τ29]]; exact Y1
            have STt : j_l2 (τ29.2.1 6) (τ29.1 3) := by rw [show (j_l2 (τ29.2.1 6) (τ29.1 3)) = (j_l2 (σ.2.1 6) (σ.1 3)) from by rw [w3_τ29, g6_τ29]]; exact STt
            have A6 : ∀ j, (-1) ≤ τ29.2.1 6 j ∧ τ29.2.1 6 j ≤ 999 := fun j => hT.2 6 j
            have A8 : ∀ j, 0 ≤ τ29.2.1 8 j ∧ τ29.2.1 8 j ≤ 1 := fun j => hT.2 8 j
            have A10 : ∀ j, (-1) ≤ τ29.2.1 10 j ∧ τ29.2.1 10 j ≤ 999 := fun j => hT.2 10 j
            have A11 : ∀ j, (-1) ≤ τ29.2.1 11 j ∧ τ29.2.1 11 j ≤ 1499 := fun j => hT.2 11 j
            have A12 : ∀ j, 0 ≤ τ29.2.1 12 j ∧ τ29.2.1 12 j ≤ 1 := fun j => hT.2 12 j
            have A14 : ∀ j, 0 ≤ τ29.2.1 14 j ∧ τ29.2.1 14 j ≤ 30000 := fun j => hT.2 14 j
            have A15 : ∀ j, 0 ≤ τ29.2.1 15 j ∧ τ29.2.1 15 j ≤ 300 := fun j => hT.2 15 j
            have A16 : ∀ j, 0 ≤ τ29.2.1 16 j ∧ τ29.2.1 16 j ≤ 999 := fun j => hT.2 16 j
            have A17 : ∀ j, (-1) ≤ τ29.2.1 17 j ∧ τ29.2.1 17 j ≤ 1499 := fun j => hT.2 17 j
            have v0 : 0 ≤ τ29.1 0 ∧ τ29.1 0 ≤ 60000 := hT.1 0
            have v3 : 0 ≤ τ29.1 3 ∧ τ29.1 3 ≤ 1000 := hT.1 3
            have v4 : 0 ≤ τ29.1 4 ∧ τ29.1 4 ≤ 100 := hT.1 4
            have v5 : 0 ≤ τ29.1 5 ∧ τ29.1 5 ≤ 1500 := hT.1 5
            have v6 : 0 ≤ τ29.1 6 ∧ τ29.1 6 ≤ 30000 := hT.1 6
            have v7 : 0 ≤ τ29.1 7 ∧ τ29.1 7 ≤ 90000 := hT.1 7
            have v8 : 0 ≤ τ29.1 8 ∧ τ29.1 8 ≤ 20000 := hT.1 8
            have v9 : 0 ≤ τ29.1 9 ∧ τ29.1 9 ≤ 20000 := hT.1 9
            have v10 : (-1) ≤ τ29.1 10 ∧ τ29.1 10 ≤ 999 := hT.1 10
            have v11 : (-1) ≤ τ29.1 11 ∧ τ29.1 11 ≤ 999 := hT.1 11
            have v17 : 0 ≤ τ29.1 17 ∧ τ29.1 17 ≤ 60000 := hT.1 17
            have v18 : 0 ≤ τ29.1 18 ∧ τ29.1 18 ≤ 60000 := hT.1 18
            have v19 : (-1) ≤ τ29.1 19 ∧ τ29.1 19 ≤ 125 := hT.1 19
            have v20 : 0 ≤ τ29.1 20 ∧ τ29.1 20 ≤ 19 := hT.1 20
            have v22 : 0 ≤ τ29.1 22 ∧ τ29.1 22 ≤ 1499 := hT.1 22
            have a14_22 : 0 ≤ τ29.2.1 14 (τ29.1 22) ∧ τ29.2.1 14 (τ29.1 22) ≤ 30000 := hT.2 14 _
            have a15_22 : 0 ≤ τ29.2.1 15 (τ29.1 22) ∧ τ29.2.1 15 (τ29.1 22) ≤ 300 := hT.2 15 _
            have av6 : σ.1 6 ≤ τ29.1 6 := ag.1 6 (by decide)
            exact ⟨hT, (show (τ29.1 20) = 0 → τ29.2.1 15 (τ29.1 22) = 1 from by (first | omega | (simp only [st_s] <;> omega) | assumption | omega | fail)), (show τ29.2.1 15 (τ29.1 22) ≤ 1 from by (first | omega | (simp only [st_s] <;> omega) | assumption | omega | fail)), (show ¬ (σ.1 20) = 0 → (τ29.1 20) = (σ.1 20) from by (first | omega | (simp only [st_s] <;> omega) | assumption | omega | fail)), (show τ29.2.1 14 (τ29.1 22) + τ29.2.1 15 (τ29.1 22) = (τ29.1 6) from Z1), (show ca (τ29.2.1 12) ((τ29.1 3)) ≤ (τ29.1 4) from Y20), ag, (show (τ29.1 20) = 0 → n_N (τ29.2.1 14 (τ29.1 22)) (τ29.2.1 14 (τ29.1 22) + τ29.2.1 15 (τ29.1 22)) (σ.1 3) (σ.2.1 8) (σ.2.1 11) (τ29.2.1 12) (τ29.2.1 16) (τ29.2.1 17) from by (first | (intro z; exfalso; omega) | (intro _; rw [show τ41.2.1 14 (τ41.1 22) = σ.1 6 from by omega, show σ.1 6 + τ41.2.1 15 (τ41.1 22) = σ.1 6 + 1 from by omega]; exact n_N_1 q39_4 q39_5 (by omega) (x3lt (by omega)) (by rw [g12_τ41, st_s]; decide)) | fail)), (show n_rl σ τ29 from by (first | exact n_rl_h hf_τ11 rfl rfl | exact n_rl_h hf_τ20 rfl rfl | exact n_rl_h hf_τ29 rfl rfl | exact n_rl_h hf_τ36 rfl rfl | exact ⟨fun s _ _ _ => by rw [g10_τ41], fun s _ _ h => by (rw [g12_τ41]; by_cases z : s = x3; (rw [z, st_s]; decide); (rw [st_n _ _ z]; exact h)), Or.inl (by omega), Or.inl (by omega), by omega, fun zt s a b => by (rw [g10_τ41]; have h3 := zt s a (by omega); omega)⟩ | fail)), (show ∀ s : Int, ¬ σ.2.1 12 s = 0 → ¬ τ29.2.1 12 s = 0 from by (first | exact fun s h => by (rw [G12]; exact h) | exact fun s h => by (rw [g12_τ41]; by_cases z : s = x3; (rw [z, st_s]; decide); (rw [st_n _ _ z]; exact h)) | (intro s h; first | (rw [hf_τ11.2.1 12 (by decide)]; exact h) | (rw [hf_τ20.2.1 12 (by decide)]; exact h) | (rw [hf_τ29.2.1 12 (by decide)]; exact h) | (rw [hf_τ36.2.1 12 (by decide)]; exact h)) | fail))⟩
          ·
            refine ⟨(show 0 ≤ x3 ∧ x3 < 1001 from by (first | omega | (simp only [st_s] <;> omega) | assumption | omega | fail)), ?_⟩
            intro x23 r_x23 e_x23
            have b_x23 : 0 ≤ x23 ∧ x23 ≤ 1 := by rw [e_x23]; exact hT.2 8 _
            refine ⟨fun c24 => ?_, fun c24 => ?_⟩
            ·
              refine h111 _ _ _ ?_
              refine ⟨fun c30 => ?_, fun c30 => ?_⟩
              ·
                refine ⟨(show 0 ≤ x3 ∧ x3 < 1001 from by (first | omega | (simp only [st_s] <;> omega) | assumption | omega | fail)), ?_⟩
                intro x32 r_x32 e_x32
                have b_x32 : 0 ≤ x32 ∧ x32 ≤ 1 := by rw [e_x32]; exact hT.2 12 _
                refine ⟨fun c33 => ?_, fun c33 => ?_⟩
                ·
                  refine h143 _ _ _ _ ?_
                  refine ⟨(⟨by (first | omega | (simp only [st_s] <;> omega) | assumption | omega | fail), by (first | omega | (simp only [st_s] <;> omega) | assumption | omega | fail)⟩ : rg ((σ.1 4) + 1)), ?_⟩
                  replace ag := ag_v (i := 4) (x := ((σ.1 4) + 1)) ag (Or.inl rfl)
                  replace hT := mT_v (i := 4) hT (show 0 ≤ ((σ.1 4) + 1) ∧ ((σ.1 4) + 1) ≤ 100 from by (first | omega | (simp only [st_s] <;> omega) | assumption | omega | fail))
                  have ct0 := ca_t0 (σ.2.1 12) x3 ((σ.1 3)) 1 (by omega) (by omega)
                  have ct2 := ca_t2 (σ.2.1 12) (e := x3) ((σ.1 3)) 1 (by omega) (by omega)
                  refine ⟨(show 0 ≤ x3 ∧ x3 < 1001 from by (first | omega | (simp only [st_s] <;> omega) | assumption | omega | fail)), ?_⟩
                  replace ag := ag_a (k := 12) (e := x3) (x := 1) ag rfl
                  replace hT := mT_a (k := 12) (j := x3) hT (show (0 : Int) ≤ 1 ∧ 1 ≤ 1 from by (first | omega | (simp only [st_s] <;> omega) | assumption | omega | fail))
                  have y14q : σ.2.1 14 (σ.1 22) = σ.1 6 := by omega
                  refine ⟨_, K3_X13_addSymbol hT (show 0 ≤ x3 from by (first | omega | (simp only [st_s] <;> omega) | assumption | omega | fail)) (show x3 < 1000 from by (first | omega | (simp only [st_s] <;> omega) | assumption | omega | fail)) (show -1 ≤ (-1 : Int) from by (first | omega | (simp only [st_s] <;> omega) | assumption | omega | fail)) (show (-1 : Int) ≤ 1499 from by (first | omega | (simp only [st_s] <;> omega) | assumption | omega | fail)) (show (σ.1 6) < 30000 from by (first | omega | (simp only [st_s] <;> omega) | assumption | omega | fail)) (show σ.2.1 15 (σ.1 22) < 300 from by (first | omega | (simp only [st_s] <;> omega) | assumption | omega | fail)) (show (σ.1 22) = (σ.1 5) from by (first | omega | (simp only [st_s] <;> omega) | assumption | omega | fail)), ?_⟩
                  intro τ41 hn_τ41 hf_τ41 hq
                  obtain ⟨hT, q39_1, q39_2, q39_3, q39_4, q39_5⟩ := hq
                  replace q39_1 : (τ41.1 6) = (σ.1 6) + 1 := q39_1
                  replace q39_2 : τ41.2.1 15 (τ41.1 22) = σ.2.1 15 (σ.1 22) + 1 := q39_2
                  replace q39_3 : m_ag (s_a (s_v σ 4 ((σ.1 4) + 1)) 12 x3 1) τ41 := q39_3
                  replace q39_4 : τ41.2.1 16 = st (σ.2.1 16) (σ.1 6) x3 := q39_4
                  replace q39_5 : τ41.2.1 17 = st (σ.2.1 17) (σ.1 6) (-1 : Int) := q39_5
                  replace ag : m_ag σ τ41 := ag_t ag q39_3 rfl
                  have w0_τ41 : τ41.1 0 = σ.1 0 := hf_τ41.1 0 (by decide)
                  have w3_τ41 : τ41.1 3 = σ.1 3 := hf_τ41.1 3 (by decide)
                  have w4_τ41 : τ41.1 4 = ((σ.1 4) + 1) := hf_τ41.1 4 (by decide)
                  have w5_τ41 : τ41.1 5 = σ.1 5 := hf_τ41.1 5 (by decide)
                  have w7_τ41 : τ41.1 7 = σ.1 7 := hf_τ41.1 7 (by decide)
                  have w8_τ41 : τ41.1 8 = σ.1 8 := hf_τ41.1 8 (by decide)
                  have w9_τ41 : τ41.1 9 = σ.1 9 := hf_τ41.1 9 (by decide)
                  have w10_τ41 : τ41.1 10 = σ.1 10 := hf_τ41.1 10 (by decide)
                  have w11_τ41 : τ41.1 11 = σ.1 11 := hf_τ41.1 11 (by decide)
                  have w17_τ41 : τ41.1 17 = σ.1 17 := hf_τ41.1 17 (by decide)
                  have w18_τ41 : τ41.1 18 = σ.1 18 := hf_τ41.1 18 (by decide)
                  have w19_τ41 : τ41.1 19 = σ.1 19 := hf_τ41.1 19 (by decide)
                  have w20_τ41 : τ41.1 20 = σ.1 20 := hf_τ41.1 20 (by decide)
                  have w22_τ41 : τ41.1 22 = σ.1 22 := hf_τ41.1 22 (by decide)
                  have g6_τ41 : τ41.2.1 6 = σ.2.1 6 := hf_τ41.2.1 6 (by decide)
                  have g8_τ41 : τ41.2.1 8 = σ.2.1 8 := hf_τ41.2.1 8 (by decide)
                  have g10_τ41 : τ41.2.1 10 = σ.2.1 10 := hf_τ41.2.1 10 (by decide)
                  have g11_τ41 : τ41.2.1 11 = σ.2.1 11 := hf_τ41.2.1 11 (by decide)
                  have g12_τ41 : τ41.2.1 12 = (st (σ.2.1 12) x3 1) := hf_τ41.2.1 12 (by decide)
                  have g14_τ41 : τ41.2.1 14 = σ.2.1 14 := hf_τ41.2.1 14 (by decide)
                  first | (have o6_τ41 := congrArg oc g6_τ41) | skip
                  have W0 : τ41.1 0 = σ.1 0 := by first | exact w0_τ41.trans W0 | omega
                  have W3 : τ41.1 3 = σ.1 3 := by first | exact w3_τ41.trans W3 | omega
                  have W5 : τ41.1 5 = σ.1 5 := by first | exact w5_τ41.trans W5 | omega
                  have W7 : τ41.1 7 = σ.1 7 := by first | exact w7_τ41.trans W7 | omega
                  have W8 : τ41.1 8 = σ.1 8 := by first | exact w8_τ41.trans W8 | omega
                  have W9 : τ41.1 9 = σ.1 9 := by first | exact w9_τ41.trans W9 | omega
                  have W10 : τ41.1 10 = σ.1 10 := by first | exact w10_τ41.trans W10 | omega
                  have W11 : τ41.1 11 = σ.1 11 := by first | exact w11_τ41.trans W11 | omega
                  have W17 : τ41.1 17 = σ.1 17 := by first | exact w17_τ41.trans W17 | omega
                  have W18 : τ41.1 18 = σ.1 18 := by first | exact w18_τ41.trans W18 | omega
                  have W19 : τ41.1 19 = σ.1 19 := by first | exact w19_τ41.trans W19 | omega
                  have W22 : τ41.1 22 = σ.1 22 := by first | exact w22_τ41.trans W22 | omega
                  have G6 : τ41.2.1 6 = σ.2.1 6 := (g6_τ41).trans G6
                  have G8 : τ41.2.1 8 = σ.2.1 8 := (g8_τ41).trans G8
                  have G10 : τ41.2.1 10 = σ.2.1 10 := (g10_τ41).trans G10
                  have G11 : τ41.2.1 11 = σ.2.1 11 := (g11_τ41).trans G11
                  have G14 : τ41.2.1 14 = σ.2.1 14 := (g14_τ41).trans G14
                  have y14_22_τ41 : τ41.2.1 14 (τ41.1 22) = (σ.2.1 14) (σ.1 22) := by rw [g14_τ41, w22_τ41]
                  have Y1 : j_l2 (τ41.2.1 6) (τ41.1 3) := by rw [show (j_l2 (τ41.2.1 6) (τ41.1 3)) = (j_l2 (σ.2.1 6) (σ.1 3)) from by rw [w3_τ41, g6_τ41]]; exact Y1
                  have STt : j_l2 (τ41.2.1 6) (τ41.1 3) := by rw [show (j_l2 (τ41.2.1 6) (τ41.1 3)) = (j_l2 (σ.2.1 6) (σ.1 3)) from by rw [w3_τ41, g6_τ41]]; exact STt
                  have A6 : ∀ j, (-1) ≤ τ41.2.1 6 j ∧ τ41.2.1 6 j ≤ 999 := fun j => hT.2 6 j
                  have A8 : ∀ j, 0 ≤ τ41.2.1 8 j ∧ τ41.2.1 8 j ≤ 1 := fun j => hT.2 8 j
                  have A10 : ∀ j, (-1) ≤ τ41.2.1 10 j ∧ τ41.2.1 10 j ≤ 999 := fun j => hT.2 10 j
                  have A11 : ∀ j, (-1) ≤ τ41.2.1 11 j ∧ τ41.2.1 11 j ≤ 1499 := fun j => hT.2 11 j
                  have A12 : ∀ j, 0 ≤ τ41.2.1 12 j ∧ τ41.2.1 12 j ≤ 1 := fun j => hT.2 12 j
                  have A14 : ∀ j, 0 ≤ τ41.2.1 14 j ∧ τ41.2.1 14 j ≤ 30000 := fun j => hT.2 14 j
                  have A15 : ∀ j, 0 ≤ τ41.2.1 15 j ∧ τ41.2.1 15 j ≤ 300 := fun j => hT.2 15 j
                  have A16 : ∀ j, 0 ≤ τ41.2.1 16 j ∧ τ41.2.1 16 j ≤ 999 := fun j => hT.2 16 j
                  have A17 : ∀ j, (-1) ≤ τ41.2.1 17 j ∧ τ41.2.1 17 j ≤ 1499 := fun j => hT.2 17 j
                  have v0 : 0 ≤ τ41.1 0 ∧ τ41.1 0 ≤ 60000 := hT.1 0
                  have v3 : 0 ≤ τ41.1 3 ∧ τ41.1 3 ≤ 1000 := hT.1 3
                  have v4 : 0 ≤ τ41.1 4 ∧ τ41.1 4 ≤ 100 := hT.1 4
                  have v5 : 0 ≤ τ41.1 5 ∧ τ41.1 5 ≤ 1500 := hT.1 5
                  have v6 : 0 ≤ τ41.1 6 ∧ τ41.1 6 ≤ 30000 := hT.1 6
                  have v7 : 0 ≤ τ41.1 7 ∧ τ41.1 7 ≤ 90000 := hT.1 7
                  have v8 : 0 ≤ τ41.1 8 ∧ τ41.1 8 ≤ 20000 := hT.1 8
                  have v9 : 0 ≤ τ41.1 9 ∧ τ41.1 9 ≤ 20000 := hT.1 9
                  have v10 : (-1) ≤ τ41.1 10 ∧ τ41.1 10 ≤ 999 := hT.1 10
                  have v11 : (-1) ≤ τ41.1 11 ∧ τ41.1 11 ≤ 999 := hT.1 11
                  have v17 : 0 ≤ τ41.1 17 ∧ τ41.1 17 ≤ 60000 := hT.1 17
                  have v18 : 0 ≤ τ41.1 18 ∧ τ41.1 18 ≤ 60000 := hT.1 18
                  have v19 : (-1) ≤ τ41.1 19 ∧ τ41.1 19 ≤ 125 := hT.1 19
                  have v20 : 0 ≤ τ41.1 20 ∧ τ41.1 20 ≤ 19 := hT.1 20
                  have v22 : 0 ≤ τ41.1 22 ∧ τ41.1 22 ≤ 1499 := hT.1 22
                  have a14_22 : 0 ≤ τ41.2.1 14 (τ41.1 22) ∧ τ41.2.1 14 (τ41.1 22) ≤ 30000 := hT.2 14 _
                  have a15_22 : 0 ≤ τ41.2.1 15 (τ41.1 22) ∧ τ41.2.1 15 (τ41.1 22) ≤ 300 := hT.2 15 _
                  have av6 : σ.1 6 ≤ τ41.1 6 := ag.1 6 (by decide)
                  have Y20 : ca (τ41.2.1 12) (τ41.1 3) ≤ τ41.1 4 := by rw [g12_τ41, w3_τ41]; omega
                  have Z1 : τ41.2.1 14 (τ41.1 22) + τ41.2.1 15 (τ41.1 22) = τ41.1 6 := by omega
                  exact ⟨hT, (show (τ41.1 20) = 0 → τ41.2.1 15 (τ41.1 22) = 1 from by (first | omega | (simp only [st_s] <;> omega) | assumption | omega | fail)), (show τ41.2.1 15 (τ41.1 22) ≤ 1 from by (first | omega | (simp only [st_s] <;> omega) | assumption | omega | fail)), (show ¬ (σ.1 20) = 0 → (τ41.1 20) = (σ.1 20) from by (first | omega | (simp only [st_s] <;> omega) | assumption | omega | fail)), (show τ41.2.1 14 (τ41.1 22) + τ41.2.1 15 (τ41.1 22) = (τ41.1 6) from Z1), (show ca (τ41.2.1 12) ((τ41.1 3)) ≤ (τ41.1 4) from Y20), ag, (show (τ41.1 20) = 0 → n_N (τ41.2.1 14 (τ41.1 22)) (τ41.2.1 14 (τ41.1 22) + τ41.2.1 15 (τ41.1 22)) (σ.1 3) (σ.2.1 8) (σ.2.1 11) (τ41.2.1 12) (τ41.2.1 16) (τ41.2.1 17) from by (first | (intro z; exfalso; omega) | (intro _; rw [show τ41.2.1 14 (τ41.1 22) = σ.1 6 from by omega, show σ.1 6 + τ41.2.1 15 (τ41.1 22) = σ.1 6 + 1 from by omega]; exact n_N_1 q39_4 q39_5 (by omega) (x3lt (by omega)) (by rw [g12_τ41, st_s]; decide)) | fail)), (show n_rl σ τ41 from by (first | exact n_rl_h hf_τ11 rfl rfl | exact n_rl_h hf_τ20 rfl rfl | exact n_rl_h hf_τ29 rfl rfl | exact n_rl_h hf_τ36 rfl rfl | exact ⟨fun s _ _ _ => by rw [g10_τ41], fun s _ _ h => by (rw [g12_τ41]; by_cases z : s = x3; (rw [z, st_s]; decide); (rw [st_n _ _ z]; exact h)), Or.inl (by omega), Or.inl (by omega), by omega, fun zt s a b => by (rw [g10_τ41]; have h3 := zt s a (by omega); omega)⟩ | fail)), (show ∀ s : Int, ¬ σ.2.1 12 s = 0 → ¬ τ41.2.1 12 s = 0 from by (first | exact fun s h => by (rw [G12]; exact h) | exact fun s h => by (rw [g12_τ41]; by_cases z : s = x3; (rw [z, st_s]; decide); (rw [st_n _ _ z]; exact h)) | (intro s h; first | (rw [hf_τ11.2.1 12 (by decide)]; exact h) | (rw [hf_τ20.2.1 12 (by decide)]; exact h) | (rw [hf_τ29.2.1 12 (by decide)]; exact h) | (rw [hf_τ36.2.1 12 (by decide)]; exact h)) | fail))⟩
                ·
                  refine h143 _ _ _ _ ?_
                  refine ⟨(⟨by (first | omega | (simp only [st_s] <;> omega) | assumption | omega | fail), by (first | omega | (simp only [st_s] <;> omega) | assumption | omega | fail)⟩ : rg ((σ.1 4) + 0)), ?_⟩
                  replace ag := ag_v (i := 4) (x := ((σ.1 4) + 0)) ag (Or.inl rfl)
                  replace hT := mT_v (i := 4) hT (show 0 ≤ ((σ.1 4) + 0) ∧ ((σ.1 4) + 0) ≤ 100 from by (first | omega | (simp only [st_s] <;> omega) | assumption | omega | fail))
                  have ct0 := ca_t0 (σ.2.1 12) x3 ((σ.1 3)) 1 (by omega) (by omega)
                  have ct2 := ca_t2 (σ.2.1 12) (e := x3) ((σ.1 3)) 1 (by omega) (by omega)
                  refine ⟨(show 0 ≤ x3 ∧ x3 < 1001 from by (first | omega | (simp only [st_s] <;> omega) | assumption | omega | fail)), ?_⟩
                  replace ag := ag_a (k := 12) (e := x3) (x := 1) ag rfl
                  replace hT := mT_a (k := 12) (j := x3) hT (show (0 : Int) ≤ 1 ∧ 1 ≤ 1 from by (first | omega | (simp only [st_s] <;> omega) | assumption | omega | fail))
                  have y14q : σ.2.1 14 (σ.1 22) = σ.1 6 := by omega
                  refine ⟨_, K3_X13_addSymbol hT (show 0 ≤ x3 from by (first | omega | (simp only [st_s] <;> omega) | assumption | omega | fail)) (show x3 < 1000 from by (first | omega | (simp only [st_s] <;> omega) | assumption | omega | fail)) (show -1 ≤ (-1 : Int) from by (first | omega | (simp only [st_s] <;> omega) | assumption | omega | fail)) (show (-1 : Int) ≤ 1499 from by (first | omega | (simp only [st_s] <;> omega) | assumption | omega | fail)) (show (σ.1 6) < 30000 from by (first | omega | (simp only [st_s] <;> omega) | assumption | omega | fail)) (show σ.2.1 15 (σ.1 22) < 300 from by (first | omega | (simp only [st_s] <;> omega) | assumption | omega | fail)) (show (σ.1 22) = (σ.1 5) from by (first | omega | (simp only [st_s] <;> omega) | assumption | omega | fail)), ?_⟩
                  intro τ41 hn_τ41 hf_τ41 hq
                  obtain ⟨hT, q39_1, q39_2, q39_3, q39_4, q39_5⟩ := hq
                  replace q39_1 : (τ41.1 6) = (σ.1 6) + 1 := q39_1
                  replace q39_2 : τ41.2.1 15 (τ41.1 22) = σ.2.1 15 (σ.1 22) + 1 := q39_2
                  replace q39_3 : m_ag (s_a (s_v σ 4 ((σ.1 4) + 0)) 12 x3 1) τ41 := q39_3
                  replace q39_4 : τ41.2.1 16 = st (σ.2.1 16) (σ.1 6) x3 := q39_4
                  replace q39_5 : τ41.2.1 17 = st (σ.2.1 17) (σ.1 6) (-1 : Int) := q39_5
                  replace ag : m_ag σ τ41 := ag_t ag q39_3 rfl
                  have w0_τ41 : τ41.1 0 = σ.1 0 := hf_τ41.1 0 (by decide)
                  have w3_τ41 : τ41.1 3 = σ.1 3 := hf_τ41.1 3 (by decide)
                  have w4_τ41 : τ41.1 4 = ((σ.1 4) + 0) := hf_τ41.1 4 (by decide)
                  have w5_τ41 : τ41.1 5 = σ.1 5 := hf_τ41.1 5 (by decide)
                  have w7_τ41 : τ41.1 7 = σ.1 7 := hf_τ41.1 7 (by decide)
                  have w8_τ41 : τ41.1 8 = σ.1 8 := hf_τ41.1 8 (by decide)
                  have w9_τ41 : τ41.1 9 = σ.1 9 := hf_τ41.1 9 (by decide)
                  have w10_τ41 : τ41.1 10 = σ.1 10 := hf_τ41.1 10 (by decide)
                  have w11_τ41 : τ41.1 11 = σ.1 11 := hf_τ41.1 11 (by decide)
                  have w17_τ41 : τ41.1 17 = σ.1 17 := hf_τ41.1 17 (by decide)
                  have w18_τ41 : τ41.1 18 = σ.1 18 := hf_τ41.1 18 (by decide)
                  have w19_τ41 : τ41.1 19 = σ.1 19 := hf_τ41.1 19 (by decide)
                  have w20_τ41 : τ41.1 20 = σ.1 20 := hf_τ41.1 20 (by decide)
                  have w22_τ41 : τ41.1 22 = σ.1 22 := hf_τ41.1 22 (by decide)
                  have g6_τ41 : τ41.2.1 6 = σ.2.1 6 := hf_τ41.2.1 6 (by decide)
                  have g8_τ41 : τ41.2.1 8 = σ.2.1 8 := hf_τ41.2.1 8 (by decide)
                  have g10_τ41 : τ41.2.1 10 = σ.2.1 10 := hf_τ41.2.1 10 (by decide)
                  have g11_τ41 : τ41.2.1 11 = σ.2.1 11 := hf_τ41.2.1 11 (by decide)
                  have g12_τ41 : τ41.2.1 12 = (st (σ.2.1 12) x3 1) := hf_τ41.2.1 12 (by decide)
                  have g14_τ41 : τ41.2.1 14 = σ.2.1 14 := hf_τ41.2.1 14 (by decide)
                  first | (have o6_τ41 := congrArg oc g6_τ41) | skip
                  have W0 : τ41.1 0 = σ.1 0 := by first | exact w0_τ41.trans W0 | omega
                  have W3 : τ41.1 3 = σ.1 3 := by first | exact w3_τ41.trans W3 | omega
                  have W5 : τ41.1 5 = σ.1 5 := by first | exact w5_τ41.trans W5 | omega
                  have W7 : τ41.1 7 = σ.1 7 := by first | exact w7_τ41.trans W7 | omega
                  have W8 : τ41.1 8 = σ.1 8 := by first | exact w8_τ41.trans W8 | omega
                  have W9 : τ41.1 9 = σ.1 9 := by first | exact w9_τ41.trans W9 | omega
                  have W10 : τ41.1 10 = σ.1 10 := by first | exact w10_τ41.trans W10 | omega
                  have W11 : τ41.1 11 = σ.1 11 := by first | exact w11_τ41.trans W11 | omega
                  have W17 : τ41.1 17 = σ.1 17 := by first | exact w17_τ41.trans W17 | omega
                  have W18 : τ41.1 18 = σ.1 18 := by first | exact w18_τ41.trans W18 | omega
                  have W19 : τ41.1 19 = σ.1 19 := by first | exact w19_τ41.trans W19 | omega
                  have W22 : τ41.1 22 = σ.1 22 := by first | exact w22_τ41.trans W22 | omega
                  have G6 : τ41.2.1 6 = σ.2.1 6 := (g6_τ41).trans G6
                  have G8 : τ41.2.1 8 = σ.2.1 8 := (g8_τ41).trans G8
                  have G10 : τ41.2.1 10 = σ.2.1 10 := (g10_τ41).trans G10
                  have G11 : τ41.2.1 11 = σ.2.1 11 := (g11_τ41).trans G11
                  have G14 : τ41.2.1 14 = σ.2.1 14 := (g14_τ41).trans G14
                  have y14_22_τ41 : τ41.2.1 14 (τ41.1 22) = (σ.2.1 14) (σ.1 22) := by rw [g14_τ41, w22_τ41]
                  have Y1 : j_l2 (τ41.2.1 6) (τ41.1 3) := by rw [show (j_l2 (τ41.2.1 6) (τ41.1 3)) = (j_l2 (σ.2.1 6) (σ.1 3)) from by rw [w3_τ41, g6_τ41]]; exact Y1
                  have STt : j_l2 (τ41.2.1 6) (τ41.1 3) := by rw [show (j_l2 (τ41.2.1 6) (τ41.1 3)) = (j_l2 (σ.2.1 6) (σ.1 3)) from by rw [w3_τ41, g6_τ41]]; exact STt
                  have A6 : ∀ j, (-1) ≤ τ41.2.1 6 j ∧ τ41.2.1 6 j ≤ 999 := fun j => hT.2 6 j
                  have A8 : ∀ j, 0 ≤ τ41.2.1 8 j ∧ τ41.2.1 8 j ≤ 1 := fun j => hT.2 8 j
                  have A10 : ∀ j, (-1) ≤ τ41.2.1 10 j ∧ τ41.2.1 10 j ≤ 999 := fun j => hT.2 10 j
                  have A11 : ∀ j, (-1) ≤ τ41.2.1 11 j ∧ τ41.2.1 11 j ≤ 1499 := fun j => hT.2 11 j
                  have A12 : ∀ j, 0 ≤ τ41.2.1 12 j ∧ τ41.2.1 12 j ≤ 1 := fun j => hT.2 12 j
                  have A14 : ∀ j, 0 ≤ τ41.2.1 14 j ∧ τ41.2.1 14 j ≤ 30000 := fun j => hT.2 14 j
                  have A15 : ∀ j, 0 ≤ τ41.2.1 15 j ∧ τ41.2.1 15 j ≤ 300 := fun j => hT.2 15 j
                  have A16 : ∀ j, 0 ≤ τ41.2.1 16 j ∧ τ41.2.1 16 j ≤ 999 := fun j => hT.2 16 j
                  have A17 : ∀ j, (-1) ≤ τ41.2.1 17 j ∧ τ41.2.1 17 j ≤ 1499 := fun j => hT.2 17 j
                  have v0 : 0 ≤ τ41.1 0 ∧ τ41.1 0 ≤ 60000 := hT.1 0
                  have v3 : 0 ≤ τ41.1 3 ∧ τ41.1 3 ≤ 1000 := hT.1 3
                  have v4 : 0 ≤ τ41.1 4 ∧ τ41.1 4 ≤ 100 := hT.1 4
                  have v5 : 0 ≤ τ41.1 5 ∧ τ41.1 5 ≤ 1500 := hT.1 5
                  have v6 : 0 ≤ τ41.1 6 ∧ τ41.1 6 ≤ 30000 := hT.1 6
                  have v7 : 0 ≤ τ41.1 7 ∧ τ41.1 7 ≤ 90000 := hT.1 7
                  have v8 : 0 ≤ τ41.1 8 ∧ τ41.1 8 ≤ 20000 := hT.1 8
                  have v9 : 0 ≤ τ41.1 9 ∧ τ41.1 9 ≤ 20000 := hT.1 9
                  have v10 : (-1) ≤ τ41.1 10 ∧ τ41.1 10 ≤ 999 := hT.1 10
                  have v11 : (-1) ≤ τ41.1 11 ∧ τ41.1 11 ≤ 999 := hT.1 11
                  have v17 : 0 ≤ τ41.1 17 ∧ τ41.1 17 ≤ 60000 := hT.1 17
                  have v18 : 0 ≤ τ41.1 18 ∧ τ41.1 18 ≤ 60000 := hT.1 18
                  have v19 : (-1) ≤ τ41.1 19 ∧ τ41.1 19 ≤ 125 := hT.1 19
                  have v20 : 0 ≤ τ41.1 20 ∧ τ41.1 20 ≤ 19 := hT.1 20
                  have v22 : 0 ≤ τ41.1 22 ∧ τ41.1 22 ≤ 1499 := hT.1 22
                  have a14_22 : 0 ≤ τ41.2.1 14 (τ41.1 22) ∧ τ41.2.1 14 (τ41.1 22) ≤ 30000 := hT.2 14 _
                  have a15_22 : 0 ≤ τ41.2.1 15 (τ41.1 22) ∧ τ41.2.1 15 (τ41.1 22) ≤ 300 := hT.2 15 _
                  have av6 : σ.1 6 ≤ τ41.1 6 := ag.1 6 (by decide)
                  have Y20 : ca (τ41.2.1 12) (τ41.1 3) ≤ τ41.1 4 := by rw [g12_τ41, w3_τ41]; omega
                  have Z1 : τ41.2.1 14 (τ41.1 22) + τ41.2.1 15 (τ41.1 22) = τ41.1 6 := by omega
                  exact ⟨hT, (show (τ41.1 20) = 0 → τ41.2.1 15 (τ41.1 22) = 1 from by (first | omega | (simp only [st_s] <;> omega) | assumption | omega | fail)), (show τ41.2.1 15 (τ41.1 22) ≤ 1 from by (first | omega | (simp only [st_s] <;> omega) | assumption | omega | fail)), (show ¬ (σ.1 20) = 0 → (τ41.1 20) = (σ.1 20) from by (first | omega | (simp only [st_s] <;> omega) | assumption | omega | fail)), (show τ41.2.1 14 (τ41.1 22) + τ41.2.1 15 (τ41.1 22) = (τ41.1 6) from Z1), (show ca (τ41.2.1 12) ((τ41.1 3)) ≤ (τ41.1 4) from Y20), ag, (show (τ41.1 20) = 0 → n_N (τ41.2.1 14 (τ41.1 22)) (τ41.2.1 14 (τ41.1 22) + τ41.2.1 15 (τ41.1 22)) (σ.1 3) (σ.2.1 8) (σ.2.1 11) (τ41.2.1 12) (τ41.2.1 16) (τ41.2.1 17) from by (first | (intro z; exfalso; omega) | (intro _; rw [show τ41.2.1 14 (τ41.1 22) = σ.1 6 from by omega, show σ.1 6 + τ41.2.1 15 (τ41.1 22) = σ.1 6 + 1 from by omega]; exact n_N_1 q39_4 q39_5 (by omega) (x3lt (by omega)) (by rw [g12_τ41, st_s]; decide)) | fail)), (show n_rl σ τ41 from by (first | exact n_rl_h hf_τ11 rfl rfl | exact n_rl_h hf_τ20 rfl rfl | exact n_rl_h hf_τ29 rfl rfl | exact n_rl_h hf_τ36 rfl rfl | exact ⟨fun s _ _ _ => by rw [g10_τ41], fun s _ _ h => by (rw [g12_τ41]; by_cases z : s = x3; (rw [z, st_s]; decide); (rw [st_n _ _ z]; exact h)), Or.inl (by omega), Or.inl (by omega), by omega, fun zt s a b => by (rw [g10_τ41]; have h3 := zt s a (by omega); omega)⟩ | fail)), (show ∀ s : Int, ¬ σ.2.1 12 s = 0 → ¬ τ41.2.1 12 s = 0 from by (first | exact fun s h => by (rw [G12]; exact h) | exact fun s h => by (rw [g12_τ41]; by_cases z : s = x3; (rw [z, st_s]; decide); (rw [st_n _ _ z]; exact h)) | (intro s h; first | (rw [hf_τ11.2.1 12 (by decide)]; exact h) | (rw [hf_τ20.2.1 12 (by decide)]; exact h) | (rw [hf_τ29.2.1 12 (by decide)]; exact h) | (rw [hf_τ36.2.1 12 (by decide)]; exact h)) | fail))⟩
              ·
                refine ⟨_, K_X13_failHere hT (show 0 ≤ (10 : Int) from by (first | omega | (simp only [st_s] <;> omega) | assumption | omega | fail)) (show (10 : Int) ≤ 19 from by (first | omega | (simp only [st_s] <;> omega) | assumption | omega | fail)), ?_⟩
                intro τ36 hn_τ36 hf_τ36 hq
                obtain ⟨hT, q34_1, q34_2⟩ := hq
                replace q34_1 : ¬ (σ.1 20) = 0 → (τ36.1 20) = (σ.1 20) := q34_1
                replace q34_2 : (σ.1 20) = 0 → (τ36.1 20) = (10 : Int) := q34_2
                replace ag : m_ag σ τ36 := ag_r ag hf_τ36 rfl rfl
                have w0_τ36 : τ36.1 0 = σ.1 0 := hf_τ36.1 0 (by decide)
                have w3_τ36 : τ36.1 3 = σ.1 3 := hf_τ36.1 3 (by decide)
                have w4_τ36 : τ36.1 4 = σ.1 4 := hf_τ36.1 4 (by decide)
                have w5_τ36 : τ36.1 5 = σ.1 5 := hf_τ36.1 5 (by decide)
                have w6_τ36 : τ36.1 6 = σ.1 6 := hf_τ36.1 6 (by decide)
                have w7_τ36 : τ36.1 7 = σ.1 7 := hf_τ36.1 7 (by decide)
                have w8_τ36 : τ36.1 8 = σ.1 8 := hf_τ36.1 8 (by decide)
                have w9_τ36 : τ36.1 9 = σ.1 9 := hf_τ36.1 9 (by decide)
                have w10_τ36 : τ36.1 10 = σ.1 10 := hf_τ36.1 10 (by decide)
                have w11_τ36 : τ36.1 11 = σ.1 11 := hf_τ36.1 11 (by decide)
                have w17_τ36 : τ36.1 17 = σ.1 17 := hf_τ36.1 17 (by decide)
                have w18_τ36 : τ36.1 18 = σ.1 18 := hf_τ36.1 18 (by decide)
                have w19_τ36 : τ36.1 19 = σ.1 19 := hf_τ36.1 19 (by decide)
                have w22_τ36 : τ36.1 22 = σ.1 22 := hf_τ36.1 22 (by decide)
                have g6_τ36 : τ36.2.1 6 = σ.2.1 6 := hf_τ36.2.1 6 (by decide)
                have g8_τ36 : τ36.2.1 8 = σ.2.1 8 := hf_τ36.2.1 8 (by decide)
                have g10_τ36 : τ36.2.1 10 = σ.2.1 10 := hf_τ36.2.1 10 (by decide)
                have g11_τ36 : τ36.2.1 11 = σ.2.1 11 := hf_τ36.2.1 11 (by decide)
                have g12_τ36 : τ36.2.1 12 = σ.2.1 12 := hf_τ36.2.1 12 (by decide)
                have g14_τ36 : τ36.2.1 14 = σ.2.1 14 := hf_τ36.2.1 14 (by decide)
                have g15_τ36 : τ36.2.1 15 = σ.2.1 15 := hf_τ36.2.1 15 (by decide)
                have g16_τ36 : τ36.2.1 16 = σ.2.1 16 := hf_τ36.2.1 16 (by decide)
                have g17_τ36 : τ36.2.1 17 = σ.2.1 17 := hf_τ36.2.1 17 (by decide)
                first | (have o6_τ36 := congrArg oc g6_τ36) | skip
                have W0 : τ36.1 0 = σ.1 0 := by first | exact w0_τ36.trans W0 | omega
                have W3 : τ36.1 3 = σ.1 3 := by first | exact w3_τ36.trans W3 | omega
                have W5 : τ36.1 5 = σ.1 5 := by first | exact w5_τ36.trans W5 | omega
                have W7 : τ36.1 7 = σ.1 7 := by first | exact w7_τ36.trans W7 | omega
                have W8 : τ36.1 8 = σ.1 8 := by first | exact w8_τ36.trans W8 | omega
                have W9 : τ36.1 9 = σ.1 9 := by first | exact w9_τ36.trans W9 | omega
                have W10 : τ36.1 10 = σ.1 10 := by first | exact w10_τ36.trans W10 | omega
                have W11 : τ36.1 11 = σ.1 11 := by first | exact w11_τ36.trans W11 | omega
                have W17 : τ36.1 17 = σ.1 17 := by first | exact w17_τ36.trans W17 | omega
                have W18 : τ36.1 18 = σ.1 18 := by first | exact w18_τ36.trans W18 | omega
                have W19 : τ36.1 19 = σ.1 19 := by first | exact w19_τ36.trans W19 | omega
                have W22 : τ36.1 22 = σ.1 22 := by first | exact w22_τ36.trans W22 | omega
                have G6 : τ36.2.1 6 = σ.2.1 6 := (g6_τ36).trans G6
                have G8 : τ36.2.1 8 = σ.2.1 8 := (g8_τ36).trans G8
                have G10 : τ36.2.1 10 = σ.2.1 10 := (g10_τ36).trans G10
                have G11 : τ36.2.1 11 = σ.2.1 11 := (g11_τ36).trans G11
                have G14 : τ36.2.1 14 = σ.2.1 14 := (g14_τ36).trans G14
                have y14_22_τ36 : τ36.2.1 14 (τ36.1 22) = (σ.2.1 14) (σ.1 22) := by rw [g14_τ36, w22_τ36]
                have y15_22_τ36 : τ36.2.1 15 (τ36.1 22) = (σ.2.1 15) (σ.1 22) := by rw [g15_τ36, w22_τ36]
                have Z1 : τ36.2.1 14 (τ36.1 22) + τ36.2.1 15 (τ36.1 22) = (τ36.1 6) := by rw [show (τ36.2.1 14 (τ36.1 22) + τ36.2.1 15 (τ36.1 22) = (τ36.1 6)) = (σ.2.1 14 (σ.1 22) + σ.2.1 15 (σ.1 22) = (σ.1 6)) from by rw [w6_τ36, w22_τ36, g14_τ36, g15_τ36]]; exact Z1
                have Y20 : ca (τ36.2.1 12) ((τ36.1 3)) ≤ (τ36.1 4) := by rw [show (ca (τ36.2.1 12) ((τ36.1 3)) ≤ (τ36.1 4)) = (ca (σ.2.1 12) ((σ.1 3)) ≤ (σ.1 4)) from by rw [w3_τ36, w4_τ36, g12_τ36]]; exact Y20
                have Y1 : j_l2 (τ36.2.1 6) (τ36.1 3) := by rw [show (j_l2 (τ36.2.1 6) (τ36.1 3)) = (j_l2 (σ.2.1 6) (σ.1 3)) from by rw [w3_τ36, g6_τ36]]; exact Y1
                have STt : j_l2 (τ36.2.1 6) (τ36.1 3) := by rw [show (j_l2 (τ36.2.1 6) (τ36.1 3)) = (j_l2 (σ.2.1 6) (σ.1 3)) from by rw [w3_τ36, g6_τ36]]; exact STt
                have A6 : ∀ j, (-1) ≤ τ36.2.1 6 j ∧ τ36.2.1 6 j ≤ 999 := fun j => hT.2 6 j
                have A8 : ∀ j, 0 ≤ τ36.2.1 8 j ∧ τ36.2.1 8 j ≤ 1 := fun j => hT.2 8 j
                have A10 : ∀ j, (-1) ≤ τ36.2.1 10 j ∧ τ36.2.1 10 j ≤ 999 := fun j => hT.2 10 j
                have A11 : ∀ j, (-1) ≤ τ36.2.1 11 j ∧ τ36.2.1 11 j ≤ 1499 := fun j => hT.2 11 j
                have A12 : ∀ j, 0 ≤ τ36.2.1 12 j ∧ τ36.2.1 12 j ≤ 1 := fun j => hT.2 12 j
                have A14 : ∀ j, 0 ≤ τ36.2.1 14 j ∧ τ36.2.1 14 j ≤ 30000 := fun j => hT.2 14 j
                have A15 : ∀ j, 0 ≤ τ36.2.1 15 j ∧ τ36.2.1 15 j ≤ 300 := fun j => hT.2 15 j
                have A16 : ∀ j, 0 ≤ τ36.2.1 16 j ∧ τ36.2.1 16 j ≤ 999 := fun j => hT.2 16 j
                have A17 : ∀ j, (-1) ≤ τ36.2.1 17 j ∧ τ36.2.1 17 j ≤ 1499 := fun j => hT.2 17 j
                have v0 : 0 ≤ τ36.1 0 ∧ τ36.1 0 ≤ 60000 := hT.1 0
                have v3 : 0 ≤ τ36.1 3 ∧ τ36.1 3 ≤ 1000 := hT.1 3
                have v4 : 0 ≤ τ36.1 4 ∧ τ36.1 4 ≤ 100 := hT.1 4
                have v5 : 0 ≤ τ36.1 5 ∧ τ36.1 5 ≤ 1500 := hT.1 5
                have v6 : 0 ≤ τ36.1 6 ∧ τ36.1 6 ≤ 30000 := hT.1 6
                have v7 : 0 ≤ τ36.1 7 ∧ τ36.1 7 ≤ 90000 := hT.1 7
                have v8 : 0 ≤ τ36.1 8 ∧ τ36.1 8 ≤ 20000 := hT.1 8
                have v9 : 0 ≤ τ36.1 9 ∧ τ36.1 9 ≤ 20000 := hT.1 9
                have v10 : (-1) ≤ τ36.1 10 ∧ τ36.1 10 ≤ 999 := hT.1 10
                have v11 : (-1) ≤ τ36.1 11 ∧ τ36.1 11 ≤ 999 := hT.1 11
                have v17 : 0 ≤ τ36.1 17 ∧ τ36.1 17 ≤ 60000 := hT.1 17
                have v18 : 0 ≤ τ36.1 18 ∧ τ36.1 18 ≤ 60000 := hT.1 18
                have v19 : (-1) ≤ τ36.1 19 ∧ τ36.1 19 ≤ 125 := hT.1 19
                have v20 : 0 ≤ τ36.1 20 ∧ τ36.1 20 ≤ 19 := hT.1 20
                have v22 : 0 ≤ τ36.1 22 ∧ τ36.1 22 ≤ 1499 := hT.1 22
                have a14_22 : 0 ≤ τ36.2.1 14 (τ36.1 22) ∧ τ36.2.1 14 (τ36.1 22) ≤ 30000 := hT.2 14 _
                have a15_22 : 0 ≤ τ36.2.1 15 (τ36.1 22) ∧ τ36.2.1 15 (τ36.1 22) ≤ 300 := hT.2 15 _
                have av6 : σ.1 6 ≤ τ36.1 6 := ag.1 6 (by decide)
                exact ⟨hT, (show (τ36.1 20) = 0 → τ36.2.1 15 (τ36.1 22) = 1 from by (first | omega | (simp only [st_s] <;> omega) | assumption | omega | fail)), (show τ36.2.1 15 (τ36.1 22) ≤ 1 from by (first | omega | (simp only [st_s] <;> omega) | assumption | omega | fail)), (show ¬ (σ.1 20) = 0 → (τ36.1 20) = (σ.1 20) from by (first | omega | (simp only [st_s] <;> omega) | assumption | omega | fail)), (show τ36.2.1 14 (τ36.1 22) + τ36.2.1 15 (τ36.1 22) = (τ36.1 6) from Z1), (show ca (τ36.2.1 12) ((τ36.1 3)) ≤ (τ36.1 4) from Y20), ag, (show (τ36.1 20) = 0 → n_N (τ36.2.1 14 (τ36.1 22)) (τ36.2.1 14 (τ36.1 22) + τ36.2.1 15 (τ36.1 22)) (σ.1 3) (σ.2.1 8) (σ.2.1 11) (τ36.2.1 12) (τ36.2.1 16) (τ36.2.1 17) from by (first | (intro z; exfalso; omega) | (intro _; rw [show τ41.2.1 14 (τ41.1 22) = σ.1 6 from by omega, show σ.1 6 + τ41.2.1 15 (τ41.1 22) = σ.1 6 + 1 from by omega]; exact n_N_1 q39_4 q39_5 (by omega) (x3lt (by omega)) (by rw [g12_τ41, st_s]; decide)) | fail)), (show n_rl σ τ36 from by (first | exact n_rl_h hf_τ11 rfl rfl | exact n_rl_h hf_τ20 rfl rfl | exact n_rl_h hf_τ29 rfl rfl | exact n_rl_h hf_τ36 rfl rfl | exact ⟨fun s _ _ _ => by rw [g10_τ41], fun s _ _ h => by (rw [g12_τ41]; by_cases z : s = x3; (rw [z, st_s]; decide); (rw [st_n _ _ z]; exact h)), Or.inl (by omega), Or.inl (by omega), by omega, fun zt s a b => by (rw [g10_τ41]; have h3 := zt s a (by omega); omega)⟩ | fail)), (show ∀ s : Int, ¬ σ.2.1 12 s = 0 → ¬ τ36.2.1 12 s = 0 from by (first | exact fun s h => by (rw [G12]; exact h) | exact fun s h => by (rw [g12_τ41]; by_cases z : s = x3; (rw [z, st_s]; decide); (rw [st_n _ _ z]; exact h)) | (intro s h; first | (rw [hf_τ11.2.1 12 (by decide)]; exact h) | (rw [hf_τ20.2.1 12 (by decide)]; exact h) | (rw [hf_τ29.2.1 12 (by decide)]; exact h) | (rw [hf_τ36.2.1 12 (by decide)]; exact h)) | fail))⟩
            ·
              intro x25 r_x25 e_x25
              have b_x25 : 0 ≤ x25 ∧ x25 ≤ 1 := by rw [e_x25]; exact hT.2 9 _
              refine ⟨fun c26 => ?_, fun c26 => ?_⟩
              ·
                refine h111 _ _ _ ?_
                refine ⟨fun c30 => ?_, fun c30 => ?_⟩
                ·
                  refine ⟨(show 0 ≤ x3 ∧ x3 < 1001 from by (first | omega | (simp only [st_s] <;> omega) | assumption | omega | fail)), ?_⟩
                  intro x32 r_x32 e_x32
                  have b_x32 : 0 ≤ x32 ∧ x32 ≤ 1 := by rw [e_x32]; exact hT.2 12 _
                  refine ⟨fun c33 => ?_, fun c33 => ?_⟩
                  ·
                    refine h143 _ _ _ _ ?_
                    refine ⟨(⟨by (first | omega | (simp only [st_s] <;> omega) | assumption | omega | fail), by (first | omega | (simp only [st_s] <;> omega) | assumption | omega | fail)⟩ : rg ((σ.1 4) + 1)), ?_⟩
                    replace ag := ag_v (i := 4) (x := ((σ.1 4) + 1)) ag (Or.inl rfl)
                    replace hT := mT_v (i := 4) hT (show 0 ≤ ((σ.1 4) + 1) ∧ ((σ.1 4) + 1) ≤ 100 from by (first | omega | (simp only [st_s] <;> omega) | assumption | omega | fail))
                    have ct0 := ca_t0 (σ.2.1 12) x3 ((σ.1 3)) 1 (by omega) (by omega)
                    have ct2 := ca_t2 (σ.2.1 12) (e := x3) ((σ.1 3)) 1 (by omega) (by omega)
                    refine ⟨(show 0 ≤ x3 ∧ x3 < 1001 from by (first | omega | (simp only [st_s] <;> omega) | assumption | omega | fail)), ?_⟩
                    replace ag := ag_a (k := 12) (e := x3) (x := 1) ag rfl
                    replace hT := mT_a (k := 12) (j := x3) hT (show (0 : Int) ≤ 1 ∧ 1 ≤ 1 from by (first | omega | (simp only [st_s] <;> omega) | assumption | omega | fail))
                    have y14q : σ.2.1 14 (σ.1 22) = σ.1 6 := by omega
                    refine ⟨_, K3_X13_addSymbol hT (show 0 ≤ x3 from by (first | omega | (simp only [st_s] <;> omega) | assumption | omega | fail)) (show x3 < 1000 from by (first | omega | (simp only [st_s] <;> omega) | assumption | omega | fail)) (show -1 ≤ (-1 : Int) from by (first | omega | (simp only [st_s] <;> omega) | assumption | omega | fail)) (show (-1 : Int) ≤ 1499 from by (first | omega | (simp only [st_s] <;> omega) | assumption | omega | fail)) (show (σ.1 6) < 30000 from by (first | omega | (simp only [st_s] <;> omega) | assumption | omega | fail)) (show σ.2.1 15 (σ.1 22) < 300 from by (first | omega | (simp only [st_s] <;> omega) | assumption | omega | fail)) (show (σ.1 22) = (σ.1 5) from by (first | omega | (simp only [st_s] <;> omega) | assumption | omega | fail)), ?_⟩
                    intro τ41 hn_τ41 hf_τ41 hq
                    obtain ⟨hT, q39_1, q39_2, q39_3, q39_4, q39_5⟩ := hq
                    replace q39_1 : (τ41.1 6) = (σ.1 6) + 1 := q39_1
                    replace q39_2 : τ41.2.1 15 (τ41.1 22) = σ.2.1 15 (σ.1 22) + 1 := q39_2
                    replace q39_3 : m_ag (s_a (s_v σ 4 ((σ.1 4) + 1)) 12 x3 1) τ41 := q39_3
                    replace q39_4 : τ41.2.1 16 = st (σ.2.1 16) (σ.1 6) x3 := q39_4
                    replace q39_5 : τ41.2.1 17 = st (σ.2.1 17) (σ.1 6) (-1 : Int) := q39_5
                    replace ag : m_ag σ τ41 := ag_t ag q39_3 rfl
                    have w0_τ41 : τ41.1 0 = σ.1 0 := hf_τ41.1 0 (by decide)
                    have w3_τ41 : τ41.1 3 = σ.1 3 := hf_τ41.1 3 (by decide)
                    have w4_τ41 : τ41.1 4 = ((σ.1 4) + 1) := hf_τ41.1 4 (by decide)
                    have w5_τ41 : τ41.1 5 = σ.1 5 := hf_τ41.1 5 (by decide)
                    have w7_τ41 : τ41.1 7 = σ.1 7 := hf_τ41.1 7 (by decide)
                    have w8_τ41 : τ41.1 8 = σ.1 8 := hf_τ41.1 8 (by decide)
                    have w9_τ41 : τ41.1 9 = σ.1 9 := hf_τ41.1 9 (by decide)
                    have w10_τ41 : τ41.1 10 = σ.1 10 := hf_τ41.1 10 (by decide)
                    have w11_τ41 : τ41.1 11 = σ.1 11 := hf_τ41.1 11 (by decide)
                    have w17_τ41 : τ41.1 17 = σ.1 17 := hf_τ41.1 17 (by decide)
                    have w18_τ41 : τ41.1 18 = σ.1 18 := hf_τ41.1 18 (by decide)
                    have w19_τ41 : τ41.1 19 = σ.1 19 := hf_τ41.1 19 (by decide)
                    have w20_τ41 : τ41.1 20 = σ.1 20 := hf_τ41.1 20 (by decide)
                    have w22_τ41 : τ41.1 22 = σ.1 22 := hf_τ41.1 22 (by decide)
                    have g6_τ41 : τ41.2.1 6 = σ.2.1 6 := hf_τ41.2.1 6 (by decide)
                    have g8_τ41 : τ41.2.1 8 = σ.2.1 8 := hf_τ41.2.1 8 (by decide)
                    have g10_τ41 : τ41.2.1 10 = σ.2.1 10 := hf_τ41.2.1 10 (by decide)
                    have g11_τ41 : τ41.2.1 11 = σ.2.1 11 := hf_τ41.2.1 11 (by decide)
                    have g12_τ41 : τ41.2.1 12 = (st (σ.2.1 12) x3 1) := hf_τ41.2.1 12 (by decide)
                    have g14_τ41 : τ41.2.1 14 = σ.2.1 14 := hf_τ41.2.1 14 (by decide)
                    first | (have o6_τ41 := congrArg oc g6_τ41) | skip
                    have W0 : τ41.1 0 = σ.1 0 := by first | exact w0_τ41.trans W0 | omega
                    have W3 : τ41.1 3 = σ.1 3 := by first | exact w3_τ41.trans W3 | omega
                    have W5 : τ41.1 5 = σ.1 5 := by first | exact w5_τ41.trans W5 | omega
                    have W7 : τ41.1 7 = σ.1 7 := by first | exact w7_τ41.trans W7 | omega
                    have W8 : τ41.1 8 = σ.1 8 := by first | exact w8_τ41.trans W8 | omega
                    have W9 : τ41.1 9 = σ.1 9 := by first | exact w9_τ41.trans W9 | omega
                    have W10 : τ41.1 10 = σ.1 10 := by first | exact w10_τ41.trans W10 | omega
                    have W11 : τ41.1 11 = σ.1 11 := by first | exact w11_τ41.trans W11 | omega
                    have W17 : τ41.1 17 = σ.1 17 := by first | exact w17_τ41.trans W17 | omega
                    have W18 : τ41.1 18 = σ.1 18 := by first | exact w18_τ41.trans W18 | omega
                    have W19 : τ41.1 19 = σ.1 19 := by first | exact w19_τ41.trans W19 | omega
                    have W22 : τ41.1 22 = σ.1 22 := by first | exact w22_τ41.trans W22 | omega
                    have G6 : τ41.2.1 6 = σ.2.1 6 := (g6_τ41).trans G6
                    have G8 : τ41.2.1 8 = σ.2.1 8 := (g8_τ41).trans G8
                    have G10 : τ41.2.1 10 = σ.2.1 10 := (g10_τ41).trans G10
                    have G11 : τ41.2.1 11 = σ.2.1 11 := (g11_τ41).trans G11
                    have G14 : τ41.2.1 14 = σ.2.1 14 := (g14_τ41).trans G14
                    have y14_22_τ41 : τ41.2.1 14 (τ41.1 22) = (σ.2.1 14) (σ.1 22) := by rw [g14_τ41, w22_τ41]
                    have Y1 : j_l2 (τ41.2.1 6) (τ41.1 3) := by rw [show (j_l2 (τ41.2.1 6) (τ41.1 3)) = (j_l2 (σ.2.1 6) (σ.1 3)) from by rw [w3_τ41, g6_τ41]]; exact Y1
                    have STt : j_l2 (τ41.2.1 6) (τ41.1 3) := by rw [show (j_l2 (τ41.2.1 6) (τ41.1 3)) = (j_l2 (σ.2.1 6) (σ.1 3)) from by rw [w3_τ41, g6_τ41]]; exact STt
                    have A6 : ∀ j, (-1) ≤ τ41.2.1 6 j ∧ τ41.2.1 6 j ≤ 999 := fun j => hT.2 6 j
                    have A8 : ∀ j, 0 ≤ τ41.2.1 8 j ∧ τ41.2.1 8 j ≤ 1 := fun j => hT.2 8 j
                    have A10 : ∀ j, (-1) ≤ τ41.2.1 10 j ∧ τ41.2.1 10 j ≤ 999 := fun j => hT.2 10 j
                    have A11 : ∀ j, (-1) ≤ τ41.2.1 11 j ∧ τ41.2.1 11 j ≤ 1499 := fun j => hT.2 11 j
                    have A12 : ∀ j, 0 ≤ τ41.2.1 12 j ∧ τ41.2.1 12 j ≤ 1 := fun j => hT.2 12 j
                    have A14 : ∀ j, 0 ≤ τ41.2.1 14 j ∧ τ41.2.1 14 j ≤ 30000 := fun j => hT.2 14 j
                    have A15 : ∀ j, 0 ≤ τ41.2.1 15 j ∧ τ41.2.1 15 j ≤ 300 := fun j => hT.2 15 j
                    have A16 : ∀ j, 0 ≤ τ41.2.1 16 j ∧ τ41.2.1 16 j ≤ 999 := fun j => hT.2 16 j
                    have A17 : ∀ j, (-1) ≤ τ41.2.1 17 j ∧ τ41.2.1 17 j ≤ 1499 := fun j => hT.2 17 j
                    have v0 : 0 ≤ τ41.1 0 ∧ τ41.1 0 ≤ 60000 := hT.1 0
                    have v3 : 0 ≤ τ41.1 3 ∧ τ41.1 3 ≤ 1000 := hT.1 3
                    have v4 : 0 ≤ τ41.1 4 ∧ τ41.1 4 ≤ 100 := hT.1 4
                    have v5 : 0 ≤ τ41.1 5 ∧ τ41.1 5 ≤ 1500 := hT.1 5
                    have v6 : 0 ≤ τ41.1 6 ∧ τ41.1 6 ≤ 30000 := hT.1 6
                    have v7 : 0 ≤ τ41.1 7 ∧ τ41.1 7 ≤ 90000 := hT.1 7
                    have v8 : 0 ≤ τ41.1 8 ∧ τ41.1 8 ≤ 20000 := hT.1 8
                    have v9 : 0 ≤ τ41.1 9 ∧ τ41.1 9 ≤ 20000 := hT.1 9
                    have v10 : (-1) ≤ τ41.1 10 ∧ τ41.1 10 ≤ 999 := hT.1 10
                    have v11 : (-1) ≤ τ41.1 11 ∧ τ41.1 11 ≤ 999 := hT.1 11
                    have v17 : 0 ≤ τ41.1 17 ∧ τ41.1 17 ≤ 60000 := hT.1 17
                    have v18 : 0 ≤ τ41.1 18 ∧ τ41.1 18 ≤ 60000 := hT.1 18
                    have v19 : (-1) ≤ τ41.1 19 ∧ τ41.1 19 ≤ 125 := hT.1 19
                    have v20 : 0 ≤ τ41.1 20 ∧ τ41.1 20 ≤ 19 := hT.1 20
                    have v22 : 0 ≤ τ41.1 22 ∧ τ41.1 22 ≤ 1499 := hT.1 22
                    have a14_22 : 0 ≤ τ41.2.1 14 (τ41.1 22) ∧ τ41.2.1 14 (τ41.1 22) ≤ 30000 := hT.2 14 _
                    have a15_22 : 0 ≤ τ41.2.1 15 (τ41.1 22) ∧ τ41.2.1 15 (τ41.1 22) ≤ 300 := hT.2 15 _
                    have av6 : σ.1 6 ≤ τ41.1 6 := ag.1 6 (by decide)
                    have Y20 : ca (τ41.2.1 12) (τ41.1 3) ≤ τ41.1 4 := by rw [g12_τ41, w3_τ41]; omega
                    have Z1 : τ41.2.1 14 (τ41.1 22) + τ41.2.1 15 (τ41.1 22) = τ41.1 6 := by omega
                    exact ⟨hT, (show (τ41.1 20) = 0 → τ41.2.1 15 (τ41.1 22) = 1 from by (first | omega | (simp only [st_s] <;> omega) | assumption | omega | fail)), (show τ41.2.1 15 (τ41.1 22) ≤ 1 from by (first | omega | (simp only [st_s] <;> omega) | assumption | omega | fail)), (show ¬ (σ.1 20) = 0 → (τ41.1 20) = (σ.1 20) from by (first | omega | (simp only [st_s] <;> omega) | assumption | omega | fail)), (show τ41.2.1 14 (τ41.1 22) + τ41.2.1 15 (τ41.1 22) = (τ41.1 6) from Z1), (show ca (τ41.2.1 12) ((τ41.1 3)) ≤ (τ41.1 4) from Y20), ag, (show (τ41.1 20) = 0 → n_N (τ41.2.1 14 (τ41.1 22)) (τ41.2.1 14 (τ41.1 22) + τ41.2.1 15 (τ41.1 22)) (σ.1 3) (σ.2.1 8) (σ.2.1 11) (τ41.2.1 12) (τ41.2.1 16) (τ41.2.1 17) from by (first | (intro z; exfalso; omega) | (intro _; rw [show τ41.2.1 14 (τ41.1 22) = σ.1 6 from by omega, show σ.1 6 + τ41.2.1 15 (τ41.1 22) = σ.1 6 + 1 from by omega]; exact n_N_1 q39_4 q39_5 (by omega) (x3lt (by omega)) (by rw [g12_τ41, st_s]; decide)) | fail)), (show n_rl σ τ41 from by (first | exact n_rl_h hf_τ11 rfl rfl | exact n_rl_h hf_τ20 rfl rfl | exact n_rl_h hf_τ29 rfl rfl | exact n_rl_h hf_τ36 rfl rfl | exact ⟨fun s _ _ _ => by rw [g10_τ41], fun s _ _ h => by (rw [g12_τ41]; by_cases z : s = x3; (rw [z, st_s]; decide); (rw [st_n _ _ z]; exact h)), Or.inl (by omega), Or.inl (by omega), by omega, fun zt s a b => by (rw [g10_τ41]; have h3 := zt s a (by omega); omega)⟩ | fail)), (show ∀ s : Int, ¬ σ.2.1 12 s = 0 → ¬ τ41.2.1 12 s = 0 from by (first | exact fun s h => by (rw [G12]; exact h) | exact fun s h => by (rw [g12_τ41]; by_cases z : s = x3; (rw [z, st_s]; decide); (rw [st_n _ _ z]; exact h)) | (intro s h; first | (rw [hf_τ11.2.1 12 (by decide)]; exact h) | (rw [hf_τ20.2.1 12 (by decide)]; exact h) | (rw [hf_τ29.2.1 12 (by decide)]; exact h) | (rw [hf_τ36.2.1 12 (by decide)]; exact h)) | fail))⟩
                  ·
                    refine h143 _ _ _ _ ?_
                    refine ⟨(⟨by (first | omega | (simp only [st_s] <;> omega) | assumption | omega | fail), by (first | omega | (simp only [st_s] <;> omega) | assumption | omega | fail)⟩ : rg ((σ.1 4) + 0)), ?_⟩
                    replace ag := ag_v (i := 4) (x := ((σ.1 4) + 0)) ag (Or.inl rfl)
                    replace hT := mT_v (i := 4) hT (show 0 ≤ ((σ.1 4) + 0) ∧ ((σ.1 4) + 0) ≤ 100 from by (first | omega | (simp only [st_s] <;> omega) | assumption | omega | fail))
                    have ct0 := ca_t0 (σ.2.1 12) x3 ((σ.1 3)) 1 (by omega) (by omega)
                    have ct2 := ca_t2 (σ.2.1 12) (e := x3) ((σ.1 3)) 1 (by omega) (by omega)
                    refine ⟨(show 0 ≤ x3 ∧ x3 < 1001 from by (first | omega | (simp only [st_s] <;> omega) | assumption | omega | fail)), ?_⟩
                    replace ag := ag_a (k := 12) (e := x3) (x := 1) ag rfl
                    replace hT := mT_a (k := 12) (j := x3) hT (show (0 : Int) ≤ 1 ∧ 1 ≤ 1 from by (first | omega | (simp only [st_s] <;> omega) | assumption | omega | fail))
                    have y14q : σ.2.1 14 (σ.1 22) = σ.1 6 := by omega
                    refine ⟨_, K3_X13_addSymbol hT (show 0 ≤ x3 from by (first | omega | (simp only [st_s] <;> omega) | assumption | omega | fail)) (show x3 < 1000 from by (first | omega | (simp only [st_s] <;> omega) | assumption | omega | fail)) (show -1 ≤ (-1 : Int) from by (first | omega | (simp only [st_s] <;> omega) | assumption | omega | fail)) (show (-1 : Int) ≤ 1499 from by (first | omega | (simp only [st_s] <;> omega) | assumption | omega | fail)) (show (σ.1 6) < 30000 from by (first | omega | (simp only [st_s] <;> omega) | assumption | omega | fail)) (show σ.2.1 15 (σ.1 22) < 300 from by (first | omega | (simp only [st_s] <;> omega) | assumption | omega | fail)) (show (σ.1 22) = (σ.1 5) from by (first | omega | (simp only [st_s] <;> omega) | assumption | omega | fail)), ?_⟩
                    intro τ41 hn_τ41 hf_τ41 hq
                    obtain ⟨hT, q39_1, q39_2, q39_3, q39_4, q39_5⟩ := hq
                    replace q39_1 : (τ41.1 6) = (σ.1 6) + 1 := q39_1
                    replace q39_2 : τ41.2.1 15 (τ41.1 22) = σ.2.1 15 (σ.1 22) + 1 := q39_2
                    replace q39_3 : m_ag (s_a (s_v σ 4 ((σ.1 4) + 0)) 12 x3 1) τ41 := q39_3
                    replace q39_4 : τ41.2.1 16 = st (σ.2.1 16) (σ.1 6) x3 := q39_4
                    replace q39_5 : τ41.2.1 17 = st (σ.2.1 17) (σ.1 6) (-1 : Int) := q39_5
                    replace ag : m_ag σ τ41 := ag_t ag q39_3 rfl
                    have w0_τ41 : τ41.1 0 = σ.1 0 := hf_τ41.1 0 (by decide)
                    have w3_τ41 : τ41.1 3 = σ.1 3 := hf_τ41.1 3 (by decide)
                    have w4_τ41 : τ41.1 4 = ((σ.1 4) + 0) := hf_τ41.1 4 (by decide)
                    have w5_τ41 : τ41.1 5 = σ.1 5 := hf_τ41.1 5 (by decide)
                    have w7_τ41 : τ41.1 7 = σ.1 7 := hf_τ41.1 7 (by decide)
                    have w8_τ41 : τ41.1 8 = σ.1 8 := hf_τ41.1 8 (by decide)
                    have w9_τ41 : τ41.1 9 = σ.1 9 := hf_τ41.1 9 (by decide)
                    have w10_τ41 : τ41.1 10 = σ.1 10 := hf_τ41.1 10 (by decide)
                    have w11_τ41 : τ41.1 11 = σ.1 11 := hf_τ41.1 11 (by decide)
                    have w17_τ41 : τ41.1 17 = σ.1 17 := hf_τ41.1 17 (by decide)
                    have w18_τ41 : τ41.1 18 = σ.1 18 := hf_τ41.1 18 (by decide)
                    have w19_τ41 : τ41.1 19 = σ.1 19 := hf_τ41.1 19 (by decide)
                    have w20_τ41 : τ41.1 20 = σ.1 20 := hf_τ41.1 20 (by decide)
                    have w22_τ41 : τ41.1 22 = σ.1 22 := hf_τ41.1 22 (by decide)
                    have g6_τ41 : τ41.2.1 6 = σ.2.1 6 := hf_τ41.2.1 6 (by decide)
                    have g8_τ41 : τ41.2.1 8 = σ.2.1 8 := hf_τ41.2.1 8 (by decide)
                    have g10_τ41 : τ41.2.1 10 = σ.2.1 10 := hf_τ41.2.1 10 (by decide)
                    have g11_τ41 : τ41.2.1 11 = σ.2.1 11 := hf_τ41.2.1 11 (by decide)
                    have g12_τ41 : τ41.2.1 12 = (st (σ.2.1 12) x3 1) := hf_τ41.2.1 12 (by decide)
                    have g14_τ41 : τ41.2.1 14 = σ.2.1 14 := hf_τ41.2.1 14 (by decide)
                    first | (have o6_τ41 := congrArg oc g6_τ41) | skip
                    have W0 : τ41.1 0 = σ.1 0 := by first | exact w0_τ41.trans W0 | omega
                    have W3 : τ41.1 3 = σ.1 3 := by first | exact w3_τ41.trans W3 | omega
                    have W5 : τ41.1 5 = σ.1 5 := by first | exact w5_τ41.trans W5 | omega
                    have W7 : τ41.1 7 = σ.1 7 := by first | exact w7_τ41.trans W7 | omega
                    have W8 : τ41.1 8 = σ.1 8 := by first | exact w8_τ41.trans W8 | omega
                    have W9 : τ41.1 9 = σ.1 9 := by first | exact w9_τ41.trans W9 | omega
                    have W10 : τ41.1 10 = σ.1 10 := by first | exact w10_τ41.trans W10 | omega
                    have W11 : τ41.1 11 = σ.1 11 := by first | exact w11_τ41.trans W11 | omega
                    have W17 : τ41.1 17 = σ.1 17 := by first | exact w17_τ41.trans W17 | omega
                    have W18 : τ41.1 18 = σ.1 18 := by first | exact w18_τ41.trans W18 | omega
                    have W19 : τ41.1 19 = σ.1 19 := by first | exact w19_τ41.trans W19 | omega
                    have W22 : τ41.1 22 = σ.1 22 := by first | exact w22_τ41.trans W22 | omega
                    have G6 : τ41.2.1 6 = σ.2.1 6 := (g6_τ41).trans G6
                    have G8 : τ41.2.1 8 = σ.2.1 8 := (g8_τ41).trans G8
                    have G10 : τ41.2.1 10 = σ.2.1 10 := (g10_τ41).trans G10
                    have G11 : τ41.2.1 11 = σ.2.1 11 := (g11_τ41).trans G11
                    have G14 : τ41.2.1 14 = σ.2.1 14 := (g14_τ41).trans G14
                    have y14_22_τ41 : τ41.2.1 14 (τ41.1 22) = (σ.2.1 14) (σ.1 22) := by rw [g14_τ41, w22_τ41]
                    have Y1 : j_l2 (τ41.2.1 6) (τ41.1 3) := by rw [show (j_l2 (τ41.2.1 6) (τ41.1 3)) = (j_l2 (σ.2.1 6) (σ.1 3)) from by rw [w3_τ41, g6_τ41]]; exact Y1
                    have STt : j_l2 (τ41.2.1 6) (τ41.1 3) := by rw [show (j_l2 (τ41.2.1 6) (τ41.1 3)) = (j_l2 (σ.2.1 6) (σ.1 3)) from by rw [w3_τ41, g6_τ41]]; exact STt
                    have A6 : ∀ j, (-1) ≤ τ41.2.1 6 j ∧ τ41.2.1 6 j ≤ 999 := fun j => hT.2 6 j
                    have A8 : ∀ j, 0 ≤ τ41.2.1 8 j ∧ τ41.2.1 8 j ≤ 1 := fun j => hT.2 8 j
                    have A10 : ∀ j, (-1) ≤ τ41.2.1 10 j ∧ τ41.2.1 10 j ≤ 999 := fun j => hT.2 10 j
                    have A11 : ∀ j, (-1) ≤ τ41.2.1 11 j ∧ τ41.2.1 11 j ≤ 1499 := fun j => hT.2 11 j
                    have A12 : ∀ j, 0 ≤ τ41.2.1 12 j ∧ τ41.2.1 12 j ≤ 1 := fun j => hT.2 12 j
                    have A14 : ∀ j, 0 ≤ τ41.2.1 14 j ∧ τ41.2.1 14 j ≤ 30000 := fun j => hT.2 14 j
                    have A15 : ∀ j, 0 ≤ τ41.2.1 15 j ∧ τ41.2.1 15 j ≤ 300 := fun j => hT.2 15 j
                    have A16 : ∀ j, 0 ≤ τ41.2.1 16 j ∧ τ41.2.1 16 j ≤ 999 := fun j => hT.2 16 j
                    have A17 : ∀ j, (-1) ≤ τ41.2.1 17 j ∧ τ41.2.1 17 j ≤ 1499 := fun j => hT.2 17 j
                    have v0 : 0 ≤ τ41.1 0 ∧ τ41.1 0 ≤ 60000 := hT.1 0
                    have v3 : 0 ≤ τ41.1 3 ∧ τ41.1 3 ≤ 1000 := hT.1 3
                    have v4 : 0 ≤ τ41.1 4 ∧ τ41.1 4 ≤ 100 := hT.1 4
                    have v5 : 0 ≤ τ41.1 5 ∧ τ41.1 5 ≤ 1500 := hT.1 5
                    have v6 : 0 ≤ τ41.1 6 ∧ τ41.1 6 ≤ 30000 := hT.1 6
                    have v7 : 0 ≤ τ41.1 7 ∧ τ41.1 7 ≤ 90000 := hT.1 7
                    have v8 : 0 ≤ τ41.1 8 ∧ τ41.1 8 ≤ 20000 := hT.1 8
                    have v9 : 0 ≤ τ41.1 9 ∧ τ41.1 9 ≤ 20000 := hT.1 9
                    have v10 : (-1) ≤ τ41.1 10 ∧ τ41.1 10 ≤ 999 := hT.1 10
                    have v11 : (-1) ≤ τ41.1 11 ∧ τ41.1 11 ≤ 999 := hT.1 11
                    have v17 : 0 ≤ τ41.1 17 ∧ τ41.1 17 ≤ 60000 := hT.1 17
                    have v18 : 0 ≤ τ41.1 18 ∧ τ41.1 18 ≤ 60000 := hT.1 18
                    have v19 : (-1) ≤ τ41.1 19 ∧ τ41.1 19 ≤ 125 := hT.1 19
                    have v20 : 0 ≤ τ41.1 20 ∧ τ41.1 20 ≤ 19 := hT.1 20
                    have v22 : 0 ≤ τ41.1 22 ∧ τ41.1 22 ≤ 1499 := hT.1 22
                    have a14_22 : 0 ≤ τ41.2.1 14 (τ41.1 22) ∧ τ41.2.1 14 (τ41.1 22) ≤ 30000 := hT.2 14 _
                    have a15_22 : 0 ≤ τ41.2.1 15 (τ41.1 22) ∧ τ41.2.1 15 (τ41.1 22) ≤ 300 := hT.2 15 _
                    have av6 : σ.1 6 ≤ τ41.1 6 := ag.1 6 (by decide)
                    have Y20 : ca (τ41.2.1 12) (τ41.1 3) ≤ τ41.1 4 := by rw [g12_τ41, w3_τ41]; omega
                    have Z1 : τ41.2.1 14 (τ41.1 22) + τ41.2.1 15 (τ41.1 22) = τ41.1 6 := by omega
                    exact ⟨hT, (show (τ41.1 20) = 0 → τ41.2.1 15 (τ41.1 22) = 1 from by (first | omega | (simp only [st_s] <;> omega) | assumption | omega | fail)), (show τ41.2.1 15 (τ41.1 22) ≤ 1 from by (first | omega | (simp only [st_s] <;> omega) | assumption | omega | fail)), (show ¬ (σ.1 20) = 0 → (τ41.1 20) = (σ.1 20) from by (first | omega | (simp only [st_s] <;> omega) | assumption | omega | fail)), (show τ41.2.1 14 (τ41.1 22) + τ41.2.1 15 (τ41.1 22) = (τ41.1 6) from Z1), (show ca (τ41.2.1 12) ((τ41.1 3)) ≤ (τ41.1 4) from Y20), ag, (show (τ41.1 20) = 0 → n_N (τ41.2.1 14 (τ41.1 22)) (τ41.2.1 14 (τ41.1 22) + τ41.2.1 15 (τ41.1 22)) (σ.1 3) (σ.2.1 8) (σ.2.1 11) (τ41.2.1 12) (τ41.2.1 16) (τ41.2.1 17) from by (first | (intro z; exfalso; omega) | (intro _; rw [show τ41.2.1 14 (τ41.1 22) = σ.1 6 from by omega, show σ.1 6 + τ41.2.1 15 (τ41.1 22) = σ.1 6 + 1 from by omega]; exact n_N_1 q39_4 q39_5 (by omega) (x3lt (by omega)) (by rw [g12_τ41, st_s]; decide)) | fail)), (show n_rl σ τ41 from by (first | exact n_rl_h hf_τ11 rfl rfl | exact n_rl_h hf_τ20 rfl rfl | exact n_rl_h hf_τ29 rfl rfl | exact n_rl_h hf_τ36 rfl rfl | exact ⟨fun s _ _ _ => by rw [g10_τ41], fun s _ _ h => by (rw [g12_τ41]; by_cases z : s = x3; (rw [z, st_s]; decide); (rw [st_n _ _ z]; exact h)), Or.inl (by omega), Or.inl (by omega), by omega, fun zt s a b => by (rw [g10_τ41]; have h3 := zt s a (by omega); omega)⟩ | fail)), (show ∀ s : Int, ¬ σ.2.1 12 s = 0 → ¬ τ41.2.1 12 s = 0 from by (first | exact fun s h => by (rw [G12]; exact h) | exact fun s h => by (rw [g12_τ41]; by_cases z : s = x3; (rw [z, st_s]; decide); (rw [st_n _ _ z]; exact h)) | (intro s h; first | (rw [hf_τ11.2.1 12 (by decide)]; exact h) | (rw [hf_τ20.2.1 12 (by decide)]; exact h) | (rw [hf_τ29.2.1 12 (by decide)]; exact h) | (rw [hf_τ36.2.1 12 (by decide)]; exact h)) | fail))⟩
                ·
                  refine ⟨_, K_X13_failHere hT (show 0 ≤ (10 : Int) from by (first | omega | (simp only [st_s] <;> omega) | assumption | omega | fail)) (show (10 : Int) ≤ 19 from by (first | omega | (simp only [st_s] <;> omega) | assumption | omega | fail)), ?_⟩
                  intro τ36 hn_τ36 hf_τ36 hq
                  obtain ⟨hT, q34_1, q34_2⟩ := hq
                  replace q34_1 : ¬ (σ.1 20) = 0 → (τ36.1 20) = (σ.1 20) := q34_1
                  replace q34_2 : (σ.1 20) = 0 → (τ36.1 20) = (10 : Int) := q34_2
                  replace ag : m_ag σ τ36 := ag_r ag hf_τ36 rfl rfl
                  have w0_τ36 : τ36.1 0 = σ.1 0 := hf_τ36.1 0 (by decide)
                  have w3_τ36 : τ36.1 3 = σ.1 3 := hf_τ36.1 3 (by decide)
                  have w4_τ36 : τ36.1 4 = σ.1 4 := hf_τ36.1 4 (by decide)
                  have w5_τ36 : τ36.1 5 = σ.1 5 := hf_τ36.1 5 (by decide)
                  have w6_τ36 : τ36.1 6 = σ.1 6 := hf_τ36.1 6 (by decide)
                  have w7_τ36 : τ36.1 7 = σ.1 7 := hf_τ36.1 7 (by decide)
                  have w8_τ36 : τ36.1 8 = σ.1 8 := hf_τ36.1 8 (by decide)
                  have w9_τ36 : τ36.1 9 = σ.1 9 := hf_τ36.1 9 (by decide)
                  have w10_τ36 : τ36.1 10 = σ.1 10 := hf_τ36.1 10 (by decide)
                  have w11_τ36 : τ36.1 11 = σ.1 11 := hf_τ36.1 11 (by decide)
                  have w17_τ36 : τ36.1 17 = σ.1 17 := hf_τ36.1 17 (by decide)
                  have w18_τ36 : τ36.1 18 = σ.1 18 := hf_τ36.1 18 (by decide)
                  have w19_τ36 : τ36.1 19 = σ.1 19 := hf_τ36.1 19 (by decide)
                  have w22_τ36 : τ36.1 22 = σ.1 22 := hf_τ36.1 22 (by decide)
                  have g6_τ36 : τ36.2.1 6 = σ.2.1 6 := hf_τ36.2.1 6 (by decide)
                  have g8_τ36 : τ36.2.1 8 = σ.2.1 8 := hf_τ36.2.1 8 (by decide)
                  have g10_τ36 : τ36.2.1 10 = σ.2.1 10 := hf_τ36.2.1 10 (by decide)
                  have g11_τ36 : τ36.2.1 11 = σ.2.1 11 := hf_τ36.2.1 11 (by decide)
                  have g12_τ36 : τ36.2.1 12 = σ.2.1 12 := hf_τ36.2.1 12 (by decide)
                  have g14_τ36 : τ36.2.1 14 = σ.2.1 14 := hf_τ36.2.1 14 (by decide)
                  have g15_τ36 : τ36.2.1 15 = σ.2.1 15 := hf_τ36.2.1 15 (by decide)
                  have g16_τ36 : τ36.2.1 16 = σ.2.1 16 := hf_τ36.2.1 16 (by decide)
                  have g17_τ36 : τ36.2.1 17 = σ.2.1 17 := hf_τ36.2.1 17 (by decide)
                  first | (have o6_τ36 := congrArg oc g6_τ36) | skip
                  have W0 : τ36.1 0 = σ.1 0 := by first | exact w0_τ36.trans W0 | omega
                  have W3 : τ36.1 3 = σ.1 3 := by first | exact w3_τ36.trans W3 | omega
                  have W5 : τ36.1 5 = σ.1 5 := by first | exact w5_τ36.trans W5 | omega
                  have W7 : τ36.1 7 = σ.1 7 := by first | exact w7_τ36.trans W7 | omega
                  have W8 : τ36.1 8 = σ.1 8 := by first | exact w8_τ36.trans W8 | omega
                  have W9 : τ36.1 9 = σ.1 9 := by first | exact w9_τ36.trans W9 | omega
                  have W10 : τ36.1 10 = σ.1 10 := by first | exact w10_τ36.trans W10 | omega
                  have W11 : τ36.1 11 = σ.1 11 := by first | exact w11_τ36.trans W11 | omega
                  have W17 : τ36.1 17 = σ.1 17 := by first | exact w17_τ36.trans W17 | omega
                  have W18 : τ36.1 18 = σ.1 18 := by first | exact w18_τ36.trans W18 | omega
                  have W19 : τ36.1 19 = σ.1 19 := by first | exact w19_τ36.trans W19 | omega
                  have W22 : τ36.1 22 = σ.1 22 := by first | exact w22_τ36.trans W22 | omega
                  have G6 : τ36.2.1 6 = σ.2.1 6 := (g6_τ36).trans G6
                  have G8 : τ36.2.1 8 = σ.2.1 8 := (g8_τ36).trans G8
                  have G10 : τ36.2.1 10 = σ.2.1 10 := (g10_τ36).trans G10
                  have G11 : τ36.2.1 11 = σ.2.1 11 := (g11_τ36).trans G11
                  have G14 : τ36.2.1 14 = σ.2.1 14 := (g14_τ36).trans G14
                  have y14_22_τ36 : τ36.2.1 14 (τ36.1 22) = (σ.2.1 14) (σ.1 22) := by rw [g14_τ36, w22_τ36]
                  have y15_22_τ36 : τ36.2.1 15 (τ36.1 22) = (σ.2.1 15) (σ.1 22) := by rw [g15_τ36, w22_τ36]
                  have Z1 : τ36.2.1 14 (τ36.1 22) + τ36.2.1 15 (τ36.1 22) = (τ36.1 6) := by rw [show (τ36.2.1 14 (τ36.1 22) + τ36.2.1 15 (τ36.1 22) = (τ36.1 6)) = (σ.2.1 14 (σ.1 22) + σ.2.1 15 (σ.1 22) = (σ.1 6)) from by rw [w6_τ36, w22_τ36, g14_τ36, g15_τ36]]; exact Z1
                  have Y20 : ca (τ36.2.1 12) ((τ36.1 3)) ≤ (τ36.1 4) := by rw [show (ca (τ36.2.1 12) ((τ36.1 3)) ≤ (τ36.1 4)) = (ca (σ.2.1 12) ((σ.1 3)) ≤ (σ.1 4)) from by rw [w3_τ36, w4_τ36, g12_τ36]]; exact Y20
                  have Y1 : j_l2 (τ36.2.1 6) (τ36.1 3) := by rw [show (j_l2 (τ36.2.1 6) (τ36.1 3)) = (j_l2 (σ.2.1 6) (σ.1 3)) from by rw [w3_τ36, g6_τ36]]; exact Y1
                  have STt : j_l2 (τ36.2.1 6) (τ36.1 3) := by rw [show (j_l2 (τ36.2.1 6) (τ36.1 3)) = (j_l2 (σ.2.1 6) (σ.1 3)) from by rw [w3_τ36, g6_τ36]]; exact STt
                  have A6 : ∀ j, (-1) ≤ τ36.2.1 6 j ∧ τ36.2.1 6 j ≤ 999 := fun j => hT.2 6 j
                  have A8 : ∀ j, 0 ≤ τ36.2.1 8 j ∧ τ36.2.1 8 j ≤ 1 := fun j => hT.2 8 j
                  have A10 : ∀ j, (-1) ≤ τ36.2.1 10 j ∧ τ36.2.1 10 j ≤ 999 := fun j => hT.2 10 j
                  have A11 : ∀ j, (-1) ≤ τ36.2.1 11 j ∧ τ36.2.1 11 j ≤ 1499 := fun j => hT.2 11 j
                  have A12 : ∀ j, 0 ≤ τ36.2.1 12 j ∧ τ36.2.1 12 j ≤ 1 := fun j => hT.2 12 j
                  have A14 : ∀ j, 0 ≤ τ36.2.1 14 j ∧ τ36.2.1 14 j ≤ 30000 := fun j => hT.2 14 j
                  have A15 : ∀ j, 0 ≤ τ36.2.1 15 j ∧ τ36.2.1 15 j ≤ 300 := fun j => hT.2 15 j
                  have A16 : ∀ j, 0 ≤ τ36.2.1 16 j ∧ τ36.2.1 16 j ≤ 999 := fun j => hT.2 16 j
                  have A17 : ∀ j, (-1) ≤ τ36.2.1 17 j ∧ τ36.2.1 17 j ≤ 1499 := fun j => hT.2 17 j
                  have v0 : 0 ≤ τ36.1 0 ∧ τ36.1 0 ≤ 60000 := hT.1 0
                  have v3 : 0 ≤ τ36.1 3 ∧ τ36.1 3 ≤ 1000 := hT.1 3
                  have v4 : 0 ≤ τ36.1 4 ∧ τ36.1 4 ≤ 100 := hT.1 4
                  have v5 : 0 ≤ τ36.1 5 ∧ τ36.1 5 ≤ 1500 := hT.1 5
                  have v6 : 0 ≤ τ36.1 6 ∧ τ36.1 6 ≤ 30000 := hT.1 6
                  have v7 : 0 ≤ τ36.1 7 ∧ τ36.1 7 ≤ 90000 := hT.1 7
                  have v8 : 0 ≤ τ36.1 8 ∧ τ36.1 8 ≤ 20000 := hT.1 8
                  have v9 : 0 ≤ τ36.1 9 ∧ τ36.1 9 ≤ 20000 := hT.1 9
                  have v10 : (-1) ≤ τ36.1 10 ∧ τ36.1 10 ≤ 999 := hT.1 10
                  have v11 : (-1) ≤ τ36.1 11 ∧ τ36.1 11 ≤ 999 := hT.1 11
                  have v17 : 0 ≤ τ36.1 17 ∧ τ36.1 17 ≤ 60000 := hT.1 17
                  have v18 : 0 ≤ τ36.1 18 ∧ τ36.1 18 ≤ 60000 := hT.1 18
                  have v19 : (-1) ≤ τ36.1 19 ∧ τ36.1 19 ≤ 125 := hT.1 19
                  have v20 : 0 ≤ τ36.1 20 ∧ τ36.1 20 ≤ 19 := hT.1 20
                  have v22 : 0 ≤ τ36.1 22 ∧ τ36.1 22 ≤ 1499 := hT.1 22
                  have a14_22 : 0 ≤ τ36.2.1 14 (τ36.1 22) ∧ τ36.2.1 14 (τ36.1 22) ≤ 30000 := hT.2 14 _
                  have a15_22 : 0 ≤ τ36.2.1 15 (τ36.1 22) ∧ τ36.2.1 15 (τ36.1 22) ≤ 300 := hT.2 15 _
                  have av6 : σ.1 6 ≤ τ36.1 6 := ag.1 6 (by decide)
                  exact ⟨hT, (show (τ36.1 20) = 0 → τ36.2.1 15 (τ36.1 22) = 1 from by (first | omega | (simp only [st_s] <;> omega) | assumption | omega | fail)), (show τ36.2.1 15 (τ36.1 22) ≤ 1 from by (first | omega | (simp only [st_s] <;> omega) | assumption | omega | fail)), (show ¬ (σ.1 20) = 0 → (τ36.1 20) = (σ.1 20) from by (first | omega | (simp only [st_s] <;> omega) | assumption | omega | fail)), (show τ36.2.1 14 (τ36.1 22) + τ36.2.1 15 (τ36.1 22) = (τ36.1 6) from Z1), (show ca (τ36.2.1 12) ((τ36.1 3)) ≤ (τ36.1 4) from Y20), ag, (show (τ36.1 20) = 0 → n_N (τ36.2.1 14 (τ36.1 22)) (τ36.2.1 14 (τ36.1 22) + τ36.2.1 15 (τ36.1 22)) (σ.1 3) (σ.2.1 8) (σ.2.1 11) (τ36.2.1 12) (τ36.2.1 16) (τ36.2.1 17) from by (first | (intro z; exfalso; omega) | (intro _; rw [show τ41.2.1 14 (τ41.1 22) = σ.1 6 from by omega, show σ.1 6 + τ41.2.1 15 (τ41.1 22) = σ.1 6 + 1 from by omega]; exact n_N_1 q39_4 q39_5 (by omega) (x3lt (by omega)) (by rw [g12_τ41, st_s]; decide)) | fail)), (show n_rl σ τ36 from by (first | exact n_rl_h hf_τ11 rfl rfl | exact n_rl_h hf_τ20 rfl rfl | exact n_rl_h hf_τ29 rfl rfl | exact n_rl_h hf_τ36 rfl rfl | exact ⟨fun s _ _ _ => by rw [g10_τ41], fun s _ _ h => by (rw [g12_τ41]; by_cases z : s = x3; (rw [z, st_s]; decide); (rw [st_n _ _ z]; exact h)), Or.inl (by omega), Or.inl (by omega), by omega, fun zt s a b => by (rw [g10_τ41]; have h3 := zt s a (by omega); omega)⟩ | fail)), (show ∀ s : Int, ¬ σ.2.1 12 s = 0 → ¬ τ36.2.1 12 s = 0 from by (first | exact fun s h => by (rw [G12]; exact h) | exact fun s h => by (rw [g12_τ41]; by_cases z : s = x3; (rw [z, st_s]; decide); (rw [st_n _ _ z]; exact h)) | (intro s h; first | (rw [hf_τ11.2.1 12 (by decide)]; exact h) | (rw [hf_τ20.2.1 12 (by decide)]; exact h) | (rw [hf_τ29.2.1 12 (by decide)]; exact h) | (rw [hf_τ36.2.1 12 (by decide)]; exact h)) | fail))⟩
              ·
                refine h102 _ ?_
                refine ⟨_, K_X13_failHere hT (show 0 ≤ (9 : Int) from by (first | omega | (simp only [st_s] <;> omega) | assumption | omega | fail)) (show (9 : Int) ≤ 19 from by (first | omega | (simp only [st_s] <;> omega) | assumption | omega | fail)), ?_⟩
                intro τ29 hn_τ29 hf_τ29 hq
                obtain ⟨hT, q27_1, q27_2⟩ := hq
                replace q27_1 : ¬ (σ.1 20) = 0 → (τ29.1 20) = (σ.1 20) := q27_1
                replace q27_2 : (σ.1 20) = 0 → (τ29.1 20) = (9 : Int) := q27_2
                replace ag : m_ag σ τ29 := ag_r ag hf_τ29 rfl rfl
                have w0_τ29 : τ29.1 0 = σ.1 0 := hf_τ29.1 0 (by decide)
                have w3_τ29 : τ29.1 3 = σ.1 3 := hf_τ29.1 3 (by decide)
                have w4_τ29 : τ29.1 4 = σ.1 4 := hf_τ29.1 4 (by decide)
                have w5_τ29 : τ29.1 5 = σ.1 5 := hf_τ29.1 5 (by decide)
                have w6_τ29 : τ29.1 6 = σ.1 6 := hf_τ29.1 6 (by decide)
                have w7_τ29 : τ29.1 7 = σ.1 7 := hf_τ29.1 7 (by decide)
                have w8_τ29 : τ29.1 8 = σ.1 8 := hf_τ29.1 8 (by decide)
                have w9_τ29 : τ29.1 9 = σ.1 9 := hf_τ29.1 9 (by decide)
                have w10_τ29 : τ29.1 10 = σ.1 10 := hf_τ29.1 10 (by decide)
                have w11_τ29 : τ29.1 11 = σ.1 11 := hf_τ29.1 11 (by decide)
                have w17_τ29 : τ29.1 17 = σ.1 17 := hf_τ29.1 17 (by decide)
                have w18_τ29 : τ29.1 18 = σ.1 18 := hf_τ29.1 18 (by decide)
                have w19_τ29 : τ29.1 19 = σ.1 19 := hf_τ29.1 19 (by decide)
                have w22_τ29 : τ29.1 22 = σ.1 22 := hf_τ29.1 22 (by decide)
                have g6_τ29 : τ29.2.1 6 = σ.2.1 6 := hf_τ29.2.1 6 (by decide)
                have g8_τ29 : τ29.2.1 8 = σ.2.1 8 := hf_τ29.2.1 8 (by decide)
                have g10_τ29 : τ29.2.1 10 = σ.2.1 10 := hf_τ29.2.1 10 (by decide)
                have g11_τ29 : τ29.2.1 11 = σ.2.1 11 := hf_τ29.2.1 11 (by decide)
                have g12_τ29 : τ29.2.1 12 = σ.2.1 12 := hf_τ29.2.1 12 (by decide)
                have g14_τ29 : τ29.2.1 14 = σ.2.1 14 := hf_τ29.2.1 14 (by decide)
                have g15_τ29 : τ29.2.1 15 = σ.2.1 15 := hf_τ29.2.1 15 (by decide)
                have g16_τ29 : τ29.2.1 16 = σ.2.1 16 := hf_τ29.2.1 16 (by decide)
                have g17_τ29 : τ29.2.1 17 = σ.2.1 17 := hf_τ29.2.1 17 (by decide)
                first | (have o6_τ29 := congrArg oc g6_τ29) | skip
                have W0 : τ29.1 0 = σ.1 0 := by first | exact w0_τ29.trans W0 | omega
                have W3 : τ29.1 3 = σ.1 3 := by first | exact w3_τ29.trans W3 | omega
                have W5 : τ29.1 5 = σ.1 5 := by first | exact w5_τ29.trans W5 | omega
                have W7 : τ29.1 7 = σ.1 7 := by first | exact w7_τ29.trans W7 | omega
                have W8 : τ29.1 8 = σ.1 8 := by first | exact w8_τ29.trans W8 | omega
                have W9 : τ29.1 9 = σ.1 9 := by first | exact w9_τ29.trans W9 | omega
                have W10 : τ29.1 10 = σ.1 10 := by first | exact w10_τ29.trans W10 | omega
                have W11 : τ29.1 11 = σ.1 11 := by first | exact w11_τ29.trans W11 | omega
                have W17 : τ29.1 17 = σ.1 17 := by first | exact w17_τ29.trans W17 | omega
                have W18 : τ29.1 18 = σ.1 18 := by first | exact w18_τ29.trans W18 | omega
                have W19 : τ29.1 19 = σ.1 19 := by first | exact w19_τ29.trans W19 | omega
                have W22 : τ29.1 22 = σ.1 22 := by first | exact w22_τ29.trans W22 | omega
                have G6 : τ29.2.1 6 = σ.2.1 6 := (g6_τ29).trans G6
                have G8 : τ29.2.1 8 = σ.2.1 8 := (g8_τ29).trans G8
                have G10 : τ29.2.1 10 = σ.2.1 10 := (g10_τ29).trans G10
                have G11 : τ29.2.1 11 = σ.2.1 11 := (g11_τ29).trans G11
                have G14 : τ29.2.1 14 = σ.2.1 14 := (g14_τ29).trans G14
                have y14_22_τ29 : τ29.2.1 14 (τ29.1 22) = (σ.2.1 14) (σ.1 22) := by rw [g14_τ29, w22_τ29]
                have y15_22_τ29 : τ29.2.1 15 (τ29.1 22) = (σ.2.1 15) (σ.1 22) := by rw [g15_τ29, w22_τ29]
                have Z1 : τ29.2.1 14 (τ29.1 22) + τ29.2.1 15 (τ29.1 22) = (τ29.1 6) := by rw [show (τ29.2.1 14 (τ29.1 22) + τ29.2.1 15 (τ29.1 22) = (τ29.1 6)) = (σ.2.1 14 (σ.1 22) + σ.2.1 15 (σ.1 22) = (σ.1 6)) from by rw [w6_τ29, w22_τ29, g14_τ29, g15_τ29]]; exact Z1
                have Y20 : ca (τ29.2.1 12) ((τ29.1 3)) ≤ (τ29.1 4) := by rw [show (ca (τ29.2.1 12) ((τ29.1 3)) ≤ (τ29.1 4)) = (ca (σ.2.1 12) ((σ.1 3)) ≤ (σ.1 4)) from by rw [w3_τ29, w4_τ29, g12_τ29]]; exact Y20
                have Y1 : j_l2 (τ29.2.1 6) (τ29.1 3) := by rw [show (j_l2 (τ29.2.1 6) (τ29.1 3)) = (j_l2 (σ.2.1 6) (σ.1 3)) from by rw [w3_τ29, g6_τ29]]; exact Y1
                have STt : j_l2 (τ29.2.1 6) (τ29.1 3) := by rw [show (j_l2 (τ29.2.1 6) (τ29.1 3)) = (j_l2 (σ.2.1 6) (σ.1 3)) from by rw [w3_τ29, g6_τ29]]; exact STt
                have A6 : ∀ j, (-1) ≤ τ29.2.1 6 j ∧ τ29.2.1 6 j ≤ 999 := fun j => hT.2 6 j
                have A8 : ∀ j, 0 ≤ τ29.2.1 8 j ∧ τ29.2.1 8 j ≤ 1 := fun j => hT.2 8 j
                have A10 : ∀ j, (-1) ≤ τ29.2.1 10 j ∧ τ29.2.1 10 j ≤ 999 := fun j => hT.2 10 j
                have A11 : ∀ j, (-1) ≤ τ29.2.1 11 j ∧ τ29.2.1 11 j ≤ 1499 := fun j => hT.2 11 j
                have A12 : ∀ j, 0 ≤ τ29.2.1 12 j ∧ τ29.2.1 12 j ≤ 1 := fun j => hT.2 12 j
                have A14 : ∀ j, 0 ≤ τ29.2.1 14 j ∧ τ29.2.1 14 j ≤ 30000 := fun j => hT.2 14 j
                have A15 : ∀ j, 0 ≤ τ29.2.1 15 j ∧ τ29.2.1 15 j ≤ 300 := fun j => hT.2 15 j
                have A16 : ∀ j, 0 ≤ τ29.2.1 16 j ∧ τ29.2.1 16 j ≤ 999 := fun j => hT.2 16 j
                have A17 : ∀ j, (-1) ≤ τ29.2.1 17 j ∧ τ29.2.1 17 j ≤ 1499 := fun j => hT.2 17 j
                have v0 : 0 ≤ τ29.1 0 ∧ τ29.1 0 ≤ 60000 := hT.1 0
                have v3 : 0 ≤ τ29.1 3 ∧ τ29.1 3 ≤ 1000 := hT.1 3
                have v4 : 0 ≤ τ29.1 4 ∧ τ29.1 4 ≤ 100 := hT.1 4
                have v5 : 0 ≤ τ29.1 5 ∧ τ29.1 5 ≤ 1500 := hT.1 5
                have v6 : 0 ≤ τ29.1 6 ∧ τ29.1 6 ≤ 30000 := hT.1 6
                have v7 : 0 ≤ τ29.1 7 ∧ τ29.1 7 ≤ 90000 := hT.1 7
                have v8 : 0 ≤ τ29.1 8 ∧ τ29.1 8 ≤ 20000 := hT.1 8
                have v9 : 0 ≤ τ29.1 9 ∧ τ29.1 9 ≤ 20000 := hT.1 9
                have v10 : (-1) ≤ τ29.1 10 ∧ τ29.1 10 ≤ 999 := hT.1 10
                have v11 : (-1) ≤ τ29.1 11 ∧ τ29.1 11 ≤ 999 := hT.1 11
                have v17 : 0 ≤ τ29.1 17 ∧ τ29.1 17 ≤ 60000 := hT.1 17
                have v18 : 0 ≤ τ29.1 18 ∧ τ29.1 18 ≤ 60000 := hT.1 18
                have v19 : (-1) ≤ τ29.1 19 ∧ τ29.1 19 ≤ 125 := hT.1 19
                have v20 : 0 ≤ τ29.1 20 ∧ τ29.1 20 ≤ 19 := hT.1 20
                have v22 : 0 ≤ τ29.1 22 ∧ τ29.1 22 ≤ 1499 := hT.1 22
                have a14_22 : 0 ≤ τ29.2.1 14 (τ29.1 22) ∧ τ29.2.1 14 (τ29.1 22) ≤ 30000 := hT.2 14 _
                have a15_22 : 0 ≤ τ29.2.1 15 (τ29.1 22) ∧ τ29.2.1 15 (τ29.1 22) ≤ 300 := hT.2 15 _
                have av6 : σ.1 6 ≤ τ29.1 6 := ag.1 6 (by decide)
                exact ⟨hT, (show (τ29.1 20) = 0 → τ29.2.1 15 (τ29.1 22) = 1 from by (first | omega | (simp only [st_s] <;> omega) | assumption | omega | fail)), (show τ29.2.1 15 (τ29.1 22) ≤ 1 from by (first | omega | (simp only [st_s] <;> omega) | assumption | omega | fail)), (show ¬ (σ.1 20) = 0 → (τ29.1 20) = (σ.1 20) from by (first | omega | (simp only [st_s] <;> omega) | assumption | omega | fail)), (show τ29.2.1 14 (τ29.1 22) + τ29.2.1 15 (τ29.1 22) = (τ29.1 6) from Z1), (show ca (τ29.2.1 12) ((τ29.1 3)) ≤ (τ29.1 4) from Y20), ag, (show (τ29.1 20) = 0 → n_N (τ29.2.1 14 (τ29.1 22)) (τ29.2.1 14 (τ29.1 22) + τ29.2.1 15 (τ29.1 22)) (σ.1 3) (σ.2.1 8) (σ.2.1 11) (τ29.2.1 12) (τ29.2.1 16) (τ29.2.1 17) from by (first | (intro z; exfalso; omega) | (intro _; rw [show τ41.2.1 14 (τ41.1 22) = σ.1 6 from by omega, show σ.1 6 + τ41.2.1 15 (τ41.1 22) = σ.1 6 + 1 from by omega]; exact n_N_1 q39_4 q39_5 (by omega) (x3lt (by omega)) (by rw [g12_τ41, st_s]; decide)) | fail)), (show n_rl σ τ29 from by (first | exact n_rl_h hf_τ11 rfl rfl | exact n_rl_h hf_τ20 rfl rfl | exact n_rl_h hf_τ29 rfl rfl | exact n_rl_h hf_τ36 rfl rfl | exact ⟨fun s _ _ _ => by rw [g10_τ41], fun s _ _ h => by (rw [g12_τ41]; by_cases z : s = x3; (rw [z, st_s]; decide); (rw [st_n _ _ z]; exact h)), Or.inl (by omega), Or.inl (by omega), by omega, fun zt s a b => by (rw [g10_τ41]; have h3 := zt s a (by omega); omega)⟩ | fail)), (show ∀ s : Int, ¬ σ.2.1 12 s = 0 → ¬ τ29.2.1 12 s = 0 from by (first | exact fun s h => by (rw [G12]; exact h) | exact fun s h => by (rw [g12_τ41]; by_cases z : s = x3; (rw [z, st_s]; decide); (rw [st_n _ _ z]; exact h)) | (intro s h; first | (rw [hf_τ11.2.1 12 (by decide)]; exact h) | (rw [hf_τ20.2.1 12 (by decide)]; exact h) | (rw [hf_τ29.2.1 12 (by decide)]; exact h) | (rw [hf_τ36.2.1 12 (by decide)]; exact h)) | fail))⟩
        ·
          refine ⟨(show 0 ≤ x3 ∧ x3 < 1001 from by (first | omega | (simp only [st_s] <;> omega) | assumption | omega | fail)), ?_⟩
          intro x15 r_x15 e_x15
          have b_x15 : 0 ≤ x15 ∧ x15 ≤ 1 := by rw [e_x15]; exact hT.2 12 _
          refine ⟨fun c16 => ?_, fun c16 => ?_⟩
          ·
            refine h79 _ _ _ ?_
            refine ⟨fun c21 => ?_, fun c21 => ?_⟩
            ·
              refine h102 _ ?_
              refine ⟨_, K_X13_failHere hT (show 0 ≤ (9 : Int) from by (first | omega | (simp only [st_s] <;> omega) | assumption | omega | fail)) (show (9 : Int) ≤ 19 from by (first | omega | (simp only [st_s] <;> omega) | assumption | omega | fail)), ?_⟩
              intro τ29 hn_τ29 hf_τ29 hq
              obtain ⟨hT, q27_1, q27_2⟩ := hq
              replace q27_1 : ¬ (σ.1 20) = 0 → (τ29.1 20) = (σ.1 20) := q27_1
              replace q27_2 : (σ.1 20) = 0 → (τ29.1 20) = (9 : Int) := q27_2
              replace ag : m_ag σ τ29 := ag_r ag hf_τ29 rfl rfl
              have w0_τ29 : τ29.1 0 = σ.1 0 := hf_τ29.1 0 (by decide)
              have w3_τ29 : τ29.1 3 = σ.1 3 := hf_τ29.1 3 (by decide)
              have w4_τ29 : τ29.1 4 = σ.1 4 := hf_τ29.1 4 (by decide)
              have w5_τ29 : τ29.1 5 = σ.1 5 := hf_τ29.1 5 (by decide)
              have w6_τ29 : τ29.1 6 = σ.1 6 := hf_τ29.1 6 (by decide)
              have w7_τ29 : τ29.1 7 = σ.1 7 := hf_τ29.1 7 (by decide)
              have w8_τ29 : τ29.1 8 = σ.1 8 := hf_τ29.1 8 (by decide)
              have w9_τ29 : τ29.1 9 = σ.1 9 := hf_τ29.1 9 (by decide)
              have w10_τ29 : τ29.1 10 = σ.1 10 := hf_τ29.1 10 (by decide)
              have w11_τ29 : τ29.1 11 = σ.1 11 := hf_τ29.1 11 (by decide)
              have w17_τ29 : τ29.1 17 = σ.1 17 := hf_τ29.1 17 (by decide)
              have w18_τ29 : τ29.1 18 = σ.1 18 := hf_τ29.1 18 (by decide)
              have w19_τ29 : τ29.1 19 = σ.1 19 := hf_τ29.1 19 (by decide)
              have w22_τ29 : τ29.1 22 = σ.1 22 := hf_τ29.1 22 (by decide)
              have g6_τ29 : τ29.2.1 6 = σ.2.1 6 := hf_τ29.2.1 6 (by decide)
              have g8_τ29 : τ29.2.1 8 = σ.2.1 8 := hf_τ29.2.1 8 (by decide)
              have g10_τ29 : τ29.2.1 10 = σ.2.1 10 := hf_τ29.2.1 10 (by decide)
              have g11_τ29 : τ29.2.1 11 = σ.2.1 11 := hf_τ29.2.1 11 (by decide)
              have g12_τ29 : τ29.2.1 12 = σ.2.1 12 := hf_τ29.2.1 12 (by decide)
              have g14_τ29 : τ29.2.1 14 = σ.2.1 14 := hf_τ29.2.1 14 (by decide)
              have g15_τ29 : τ29.2.1 15 = σ.2.1 15 := hf_τ29.2.1 15 (by decide)
              have g16_τ29 : τ29.2.1 16 = σ.2.1 16 := hf_τ29.2.1 16 (by decide)
              have g17_τ29 : τ29.2.1 17 = σ.2.1 17 := hf_τ29.2.1 17 (by decide)
              first | (have o6_τ29 := congrArg oc g6_τ29) | skip
              have W0 : τ29.1 0 = σ.1 0 := by first | exact w0_τ29.trans W0 | omega
              have W3 : τ29.1 3 = σ.1 3 := by first | exact w3_τ29.trans W3 | omega
              have W5 : τ29.1 5 = σ.1 5 := by first | exact w5_τ29.trans W5 | omega
              have W7 : τ29.1 7 = σ.1 7 := by first | exact w7_τ29.trans W7 | omega
              have W8 : τ29.1 8 = σ.1 8 := by first | exact w8_τ29.trans W8 | omega
              have W9 : τ29.1 9 = σ.1 9 := by first | exact w9_τ29.trans W9 | omega
              have W10 : τ29.1 10 = σ.1 10 := by first | exact w10_τ29.trans W10 | omega
              have W11 : τ29.1 11 = σ.1 11 := by first | exact w11_τ29.trans W11 | omega
              have W17 : τ29.1 17 = σ.1 17 := by first | exact w17_τ29.trans W17 | omega
              have W18 : τ29.1 18 = σ.1 18 := by first | exact w18_τ29.trans W18 | omega
              have W19 : τ29.1 19 = σ.1 19 := by first | exact w19_τ29.trans W19 | omega
              have W22 : τ29.1 22 = σ.1 22 := by first | exact w22_τ29.trans W22 | omega
              have G6 : τ29.2.1 6 = σ.2.1 6 := (g6_τ29).trans G6
              have G8 : τ29.2.1 8 = σ.2.1 8 := (g8_τ29).trans G8
              have G10 : τ29.2.1 10 = σ.2.1 10 := (g10_τ29).trans G10
              have G11 : τ29.2.1 11 = σ.2.1 11 := (g11_τ29).trans G11
              have G14 : τ29.2.1 14 = σ.2.1 14 := (g14_τ29).trans G14
              have y14_22_τ29 : τ29.2.1 14 (τ29.1 22) = (σ.2.1 14) (σ.1 22) := by rw [g14_τ29, w22_τ29]
              have y15_22_τ29 : τ29.2.1 15 (τ29.1 22) = (σ.2.1 15) (σ.1 22) := by rw [g15_τ29, w22_τ29]
              have Z1 : τ29.2.1 14 (τ29.1 22) + τ29.2.1 15 (τ29.1 22) = (τ29.1 6) := by rw [show (τ29.2.1 14 (τ29.1 22) + τ29.2.1 15 (τ29.1 22) = (τ29.1 6)) = (σ.2.1 14 (σ.1 22) + σ.2.1 15 (σ.1 22) = (σ.1 6)) from by rw [w6_τ29, w22_τ29, g14_τ29, g15_τ29]]; exact Z1
              have Y20 : ca (τ29.2.1 12) ((τ29.1 3)) ≤ (τ29.1 4) := by rw [show (ca (τ29.2.1 12) ((τ29.1 3)) ≤ (τ29.1 4)) = (ca (σ.2.1 12) ((σ.1 3)) ≤ (σ.1 4)) from by rw [w3_τ29, w4_τ29, g12_τ29]]; exact Y20
              have Y1 : j_l2 (τ29.2.1 6) (τ29.1 3) := by rw [show (j_l2 (τ29.2.1 6) (τ29.1 3)) = (j_l2 (σ.2.1 6) (σ.1 3)) from by rw [w3_τ29, g6_τ29]]; exact Y1
              have STt : j_l2 (τ29.2.1 6) (τ29.1 3) := by rw [show (j_l2 (τ29.2.1 6) (τ29.1 3)) = (j_l2 (σ.2.1 6) (σ.1 3)) from by rw [w3_τ29, g6_τ29]]; exact STt
              have A6 : ∀ j, (-1) ≤ τ29.2.1 6 j ∧ τ29.2.1 6 j ≤ 999 := fun j => hT.2 6 j
              have A8 : ∀ j, 0 ≤ τ29.2.1 8 j ∧ τ29.2.1 8 j ≤ 1 := fun j => hT.2 8 j
              have A10 : ∀ j, (-1) ≤ τ29.2.1 10 j ∧ τ29.2.1 10 j ≤ 999 := fun j => hT.2 10 j
              have A11 : ∀ j, (-1) ≤ τ29.2.1 11 j ∧ τ29.2.1 11 j ≤ 1499 := fun j => hT.2 11 j
              have A12 : ∀ j, 0 ≤ τ29.2.1 12 j ∧ τ29.2.1 12 j ≤ 1 := fun j => hT.2 12 j
              have A14 : ∀ j, 0 ≤ τ29.2.1 14 j ∧ τ29.2.1 14 j ≤ 30000 := fun j => hT.2 14 j
              have A15 : ∀ j, 0 ≤ τ29.2.1 15 j ∧ τ29.2.1 15 j ≤ 300 := fun j => hT.2 15 j
              have A16 : ∀ j, 0 ≤ τ29.2.1 16 j ∧ τ29.2.1 16 j ≤ 999 := fun j => hT.2 16 j
              have A17 : ∀ j, (-1) ≤ τ29.2.1 17 j ∧ τ29.2.1 17 j ≤ 1499 := fun j => hT.2 17 j
              have v0 : 0 ≤ τ29.1 0 ∧ τ29.1 0 ≤ 60000 := hT.1 0
              have v3 : 0 ≤ τ29.1 3 ∧ τ29.1 3 ≤ 1000 := hT.1 3
              have v4 : 0 ≤ τ29.1 4 ∧ τ29.1 4 ≤ 100 := hT.1 4
              have v5 : 0 ≤ τ29.1 5 ∧ τ29.1 5 ≤ 1500 := hT.1 5
              have v6 : 0 ≤ τ29.1 6 ∧ τ29.1 6 ≤ 30000 := hT.1 6
              have v7 : 0 ≤ τ29.1 7 ∧ τ29.1 7 ≤ 90000 := hT.1 7
              have v8 : 0 ≤ τ29.1 8 ∧ τ29.1 8 ≤ 20000 := hT.1 8
              have v9 : 0 ≤ τ29.1 9 ∧ τ29.1 9 ≤ 20000 := hT.1 9
              have v10 : (-1) ≤ τ29.1 10 ∧ τ29.1 10 ≤ 999 := hT.1 10
              have v11 : (-1) ≤ τ29.1 11 ∧ τ29.1 11 ≤ 999 := hT.1 11
              have v17 : 0 ≤ τ29.1 17 ∧ τ29.1 17 ≤ 60000 := hT.1 17
              have v18 : 0 ≤ τ29.1 18 ∧ τ29.1 18 ≤ 60000 := hT.1 18
              have v19 : (-1) ≤ τ29.1 19 ∧ τ29.1 19 ≤ 125 := hT.1 19
              have v20 : 0 ≤ τ29.1 20 ∧ τ29.1 20 ≤ 19 := hT.1 20
              have v22 : 0 ≤ τ29.1 22 ∧ τ29.1 22 ≤ 1499 := hT.1 22
              have a14_22 : 0 ≤ τ29.2.1 14 (τ29.1 22) ∧ τ29.2.1 14 (τ29.1 22) ≤ 30000 := hT.2 14 _
              have a15_22 : 0 ≤ τ29.2.1 15 (τ29.1 22) ∧ τ29.2.1 15 (τ29.1 22) ≤ 300 := hT.2 15 _
              have av6 : σ.1 6 ≤ τ29.1 6 := ag.1 6 (by decide)
              exact ⟨hT, (show (τ29.1 20) = 0 → τ29.2.1 15 (τ29.1 22) = 1 from by (first | omega | (simp only [st_s] <;> omega) | assumption | omega | fail)), (show τ29.2.1 15 (τ29.1 22) ≤ 1 from by (first | omega | (simp only [st_s] <;> omega) | assumption | omega | fail)), (show ¬ (σ.1 20) = 0 → (τ29.1 20) = (σ.1 20) from by (first | omega | (simp only [st_s] <;> omega) | assumption | omega | fail)), (show τ29.2.1 14 (τ29.1 22) + τ29.2.1 15 (τ29.1 22) = (τ29.1 6) from Z1), (show ca (τ29.2.1 12) ((τ29.1 3)) ≤ (τ29.1 4) from Y20), ag, (show (τ29.1 20) = 0 → n_N (τ29.2.1 14 (τ29.1 22)) (τ29.2.1 14 (τ29.1 22) + τ29.2.1 15 (τ29.1 22)) (σ.1 3) (σ.2.1 8) (σ.2.1 11) (τ29.2.1 12) (τ29.2.1 16) (τ29.2.1 17) from by (first | (intro z; exfalso; omega) | (intro _; rw [show τ41.2.1 14 (τ41.1 22) = σ.1 6 from by omega, show σ.1 6 + τ41.2.1 15 (τ41.1 22) = σ.1 6 + 1 from by omega]; exact n_N_1 q39_4 q39_5 (by omega) (x3lt (by omega)) (by rw [g12_τ41, st_s]; decide)) | fail)), (show n_rl σ τ29 from by (first | exact n_rl_h hf_τ11 rfl rfl | exact n_rl_h hf_τ20 rfl rfl | exact n_rl_h hf_τ29 rfl rfl | exact n_rl_h hf_τ36 rfl rfl | exact ⟨fun s _ _ _ => by rw [g10_τ41], fun s _ _ h => by (rw [g12_τ41]; by_cases z : s = x3; (rw [z, st_s]; decide); (rw [st_n _ _ z]; exact h)), Or.inl (by omega), Or.inl (by omega), by omega, fun zt s a b => by (rw [g10_τ41]; have h3 := zt s a (by omega); omega)⟩ | fail)), (show ∀ s : Int, ¬ σ.2.1 12 s = 0 → ¬ τ29.2.1 12 s = 0 from by (first | exact fun s h => by (rw [G12]; exact h) | exact fun s h => by (rw [g12_τ41]; by_cases z : s = x3; (rw [z, st_s]; decide); (rw [st_n _ _ z]; exact h)) | (intro s h; first | (rw [hf_τ11.2.1 12 (by decide)]; exact h) | (rw [hf_τ20.2.1 12 (by decide)]; exact h) | (rw [hf_τ29.2.1 12 (by decide)]; exact h) | (rw [hf_τ36.2.1 12 (by decide)]; exact h)) | fail))⟩
            ·
              refine ⟨(show 0 ≤ x3 ∧ x3 < 1001 from by (first | omega | (simp only [st_s] <;> omega) | assumption | omega | fail)), ?_⟩
              intro x23 r_x23 e_x23
              have b_x23 : 0 ≤ x23 ∧ x23 ≤ 1 := by rw [e_x23]; exact hT.2 8 _
              refine ⟨fun c24 => ?_, fun c24 => ?_⟩
              ·
                refine h111 _ _ _ ?_
                refine ⟨fun c30 => ?_, fun c30 => ?_⟩
                ·
                  refine ⟨(show 0 ≤ x3 ∧ x3 < 1001 from by (first | omega | (simp only [st_s] <;> omega) | assumption | omega | fail)), ?_⟩
                  intro x32 r_x32 e_x32
                  have b_x32 : 0 ≤ x32 ∧ x32 ≤ 1 := by rw [e_x32]; exact hT.2 12 _
                  refine ⟨fun c33 => ?_, fun c33 => ?_⟩
                  ·
                    refine h143 _ _ _ _ ?_
                    refine ⟨(⟨by (first | omega | (simp only [st_s] <;> omega) | assumption | omega | fail), by (first | omega | (simp only [st_s] <;> omega) | assumption | omega | fail)⟩ : rg ((σ.1 4) + 1)), ?_⟩
                    replace ag := ag_v (i := 4) (x := ((σ.1 4) + 1)) ag (Or.inl rfl)
                    replace hT := mT_v (i := 4) hT (show 0 ≤ ((σ.1 4) + 1) ∧ ((σ.1 4) + 1) ≤ 100 from by (first | omega | (simp only [st_s] <;> omega) | assumption | omega | fail))
                    have ct0 := ca_t0 (σ.2.1 12) x3 ((σ.1 3)) 1 (by omega) (by omega)
                    have ct2 := ca_t2 (σ.2.1 12) (e := x3) ((σ.1 3)) 1 (by omega) (by omega)
                    refine ⟨(show 0 ≤ x3 ∧ x3 < 1001 from by (first | omega | (simp only [st_s] <;> omega) | assumption | omega | fail)), ?_⟩
                    replace ag := ag_a (k := 12) (e := x3) (x := 1) ag rfl
                    replace hT := mT_a (k := 12) (j := x3) hT (show (0 : Int) ≤ 1 ∧ 1 ≤ 1 from by (first | omega | (simp only [st_s] <;> omega) | assumption | omega | fail))
                    have y14q : σ.2.1 14 (σ.1 22) = σ.1 6 := by omega
                    refine ⟨_, K3_X13_addSymbol hT (show 0 ≤ x3 from by (first | omega | (simp only [st_s] <;> omega) | assumption | omega | fail)) (show x3 < 1000 from by (first | omega | (simp only [st_s] <;> omega) | assumption | omega | fail)) (show -1 ≤ (-1 : Int) from by (first | omega | (simp only [st_s] <;> omega) | assumption | omega | fail)) (show (-1 : Int) ≤ 1499 from by (first | omega | (simp only [st_s] <;> omega) | assumption | omega | fail)) (show (σ.1 6) < 30000 from by (first | omega | (simp only [st_s] <;> omega) | assumption | omega | fail)) (show σ.2.1 15 (σ.1 22) < 300 from by (first | omega | (simp only [st_s] <;> omega) | assumption | omega | fail)) (show (σ.1 22) = (σ.1 5) from by (first | omega | (simp only [st_s] <;> omega) | assumption | omega | fail)), ?_⟩
                    intro τ41 hn_τ41 hf_τ41 hq
                    obtain ⟨hT, q39_1, q39_2, q39_3, q39_4, q39_5⟩ := hq
                    replace q39_1 : (τ41.1 6) = (σ.1 6) + 1 := q39_1
                    replace q39_2 : τ41.2.1 15 (τ41.1 22) = σ.2.1 15 (σ.1 22) + 1 := q39_2
                    replace q39_3 : m_ag (s_a (s_v σ 4 ((σ.1 4) + 1)) 12 x3 1) τ41 := q39_3
                    replace q39_4 : τ41.2.1 16 = st (σ.2.1 16) (σ.1 6) x3 := q39_4
                    replace q39_5 : τ41.2.1 17 = st (σ.2.1 17) (σ.1 6) (-1 : Int) := q39_5
                    replace ag : m_ag σ τ41 := ag_t ag q39_3 rfl
                    have w0_τ41 : τ41.1 0 = σ.1 0 := hf_τ41.1 0 (by decide)
                    have w3_τ41 : τ41.1 3 = σ.1 3 := hf_τ41.1 3 (by decide)
                    have w4_τ41 : τ41.1 4 = ((σ.1 4) + 1) := hf_τ41.1 4 (by decide)
                    have w5_τ41 : τ41.1 5 = σ.1 5 := hf_τ41.1 5 (by decide)
                    have w7_τ41 : τ41.1 7 = σ.1 7 := hf_τ41.1 7 (by decide)
                    have w8_τ41 : τ41.1 8 = σ.1 8 := hf_τ41.1 8 (by decide)
                    have w9_τ41 : τ41.1 9 = σ.1 9 := hf_τ41.1 9 (by decide)
                    have w10_τ41 : τ41.1 10 = σ.1 10 := hf_τ41.1 10 (by decide)
                    have w11_τ41 : τ41.1 11 = σ.1 11 := hf_τ41.1 11 (by decide)
                    have w17_τ41 : τ41.1 17 = σ.1 17 := hf_τ41.1 17 (by decide)
                    have w18_τ41 : τ41.1 18 = σ.1 18 := hf_τ41.1 18 (by decide)
                    have w19_τ41 : τ41.1 19 = σ.1 19 := hf_τ41.1 19 (by decide)
                    have w20_τ41 : τ41.1 20 = σ.1 20 := hf_τ41.1 20 (by decide)
                    have w22_τ41 : τ41.1 22 = σ.1 22 := hf_τ41.1 22 (by decide)
                    have g6_τ41 : τ41.2.1 6 = σ.2.1 6 := hf_τ41.2.1 6 (by decide)
                    have g8_τ41 : τ41.2.1 8 = σ.2.1 8 := hf_τ41.2.1 8 (by decide)
                    have g10_τ41 : τ41.2.1 10 = σ.2.1 10 := hf_τ41.2.1 10 (by decide)
                    have g11_τ41 : τ41.2.1 11 = σ.2.1 11 := hf_τ41.2.1 11 (by decide)
                    have g12_τ41 : τ41.2.1 12 = (st (σ.2.1 12) x3 1) := hf_τ41.2.1 12 (by decide)
                    have g14_τ41 : τ41.2.1 14 = σ.2.1 14 := hf_τ41.2.1 14 (by decide)
                    first | (have o6_τ41 := congrArg oc g6_τ41) | skip
                    have W0 : τ41.1 0 = σ.1 0 := by first | exact w0_τ41.trans W0 | omega
                    have W3 : τ41.1 3 = σ.1 3 := by first | exact w3_τ41.trans W3 | omega
                    have W5 : τ41.1 5 = σ.1 5 := by first | exact w5_τ41.trans W5 | omega
                    have W7 : τ41.1 7 = σ.1 7 := by first | exact w7_τ41.trans W7 | omega
                    have W8 : τ41.1 8 = σ.1 8 := by first | exact w8_τ41.trans W8 | omega
                    have W9 : τ41.1 9 = σ.1 9 := by first | exact w9_τ41.trans W9 | omega
                    have W10 : τ41.1 10 = σ.1 10 := by first | exact w10_τ41.trans W10 | omega
                    have W11 : τ41.1 11 = σ.1 11 := by first | exact w11_τ41.trans W11 | omega
                    have W17 : τ41.1 17 = σ.1 17 := by first | exact w17_τ41.trans W17 | omega
                    have W18 : τ41.1 18 = σ.1 18 := by first | exact w18_τ41.trans W18 | omega
                    have W19 : τ41.1 19 = σ.1 19 := by first | exact w19_τ41.trans W19 | omega
                    have W22 : τ41.1 22 = σ.1 22 := by first | exact w22_τ41.trans W22 | omega
                    have G6 : τ41.2.1 6 = σ.2.1 6 := (g6_τ41).trans G6
                    have G8 : τ41.2.1 8 = σ.2.1 8 := (g8_τ41).trans G8
                    have G10 : τ41.2.1 10 = σ.2.1 10 := (g10_τ41).trans G10
                    have G11 : τ41.2.1 11 = σ.2.1 11 := (g11_τ41).trans G11
                    have G14 : τ41.2.1 14 = σ.2.1 14 := (g14_τ41).trans G14
                    have y14_22_τ41 : τ41.2.1 14 (τ41.1 22) = (σ.2.1 14) (σ.1 22) := by rw [g14_τ41, w22_τ41]
                    have Y1 : j_l2 (τ41.2.1 6) (τ41.1 3) := by rw [show (j_l2 (τ41.2.1 6) (τ41.1 3)) = (j_l2 (σ.2.1 6) (σ.1 3)) from by rw [w3_τ41, g6_τ41]]; exact Y1
                    have STt : j_l2 (τ41.2.1 6) (τ41.1 3) := by rw [show (j_l2 (τ41.2.1 6) (τ41.1 3)) = (j_l2 (σ.2.1 6) (σ.1 3)) from by rw [w3_τ41, g6_τ41]]; exact STt
                    have A6 : ∀ j, (-1) ≤ τ41.2.1 6 j ∧ τ41.2.1 6 j ≤ 999 := fun j => hT.2 6 j
                    have A8 : ∀ j, 0 ≤ τ41.2.1 8 j ∧ τ41.2.1 8 j ≤ 1 := fun j => hT.2 8 j
                    have A10 : ∀ j, (-1) ≤ τ41.2.1 10 j ∧ τ41.2.1 10 j ≤ 999 := fun j => hT.2 10 j
                    have A11 : ∀ j, (-1) ≤ τ41.2.1 11 j ∧ τ41.2.1 11 j ≤ 1499 := fun j => hT.2 11 j
                    have A12 : ∀ j, 0 ≤ τ41.2.1 12 j ∧ τ41.2.1 12 j ≤ 1 := fun j => hT.2 12 j
                    have A14 : ∀ j, 0 ≤ τ41.2.1 14 j ∧ τ41.2.1 14 j ≤ 30000 := fun j => hT.2 14 j
                    have A15 : ∀ j, 0 ≤ τ41.2.1 15 j ∧ τ41.2.1 15 j ≤ 300 := fun j => hT.2 15 j
                    have A16 : ∀ j, 0 ≤ τ41.2.1 16 j ∧ τ41.2.1 16 j ≤ 999 := fun j => hT.2 16 j
                    have A17 : ∀ j, (-1) ≤ τ41.2.1 17 j ∧ τ41.2.1 17 j ≤ 1499 := fun j => hT.2 17 j
                    have v0 : 0 ≤ τ41.1 0 ∧ τ41.1 0 ≤ 60000 := hT.1 0
                    have v3 : 0 ≤ τ41.1 3 ∧ τ41.1 3 ≤ 1000 := hT.1 3
                    have v4 : 0 ≤ τ41.1 4 ∧ τ41.1 4 ≤ 100 := hT.1 4
                    have v5 : 0 ≤ τ41.1 5 ∧ τ41.1 5 ≤ 1500 := hT.1 5
                    have v6 : 0 ≤ τ41.1 6 ∧ τ41.1 6 ≤ 30000 := hT.1 6
                    have v7 : 0 ≤ τ41.1 7 ∧ τ41.1 7 ≤ 90000 := hT.1 7
                    have v8 : 0 ≤ τ41.1 8 ∧ τ41.1 8 ≤ 20000 := hT.1 8
                    have v9 : 0 ≤ τ41.1 9 ∧ τ41.1 9 ≤ 20000 := hT.1 9
                    have v10 : (-1) ≤ τ41.1 10 ∧ τ41.1 10 ≤ 999 := hT.1 10
                    have v11 : (-1) ≤ τ41.1 11 ∧ τ41.1 11 ≤ 999 := hT.1 11
                    have v17 : 0 ≤ τ41.1 17 ∧ τ41.1 17 ≤ 60000 := hT.1 17
                    have v18 : 0 ≤ τ41.1 18 ∧ τ41.1 18 ≤ 60000 := hT.1 18
                    have v19 : (-1) ≤ τ41.1 19 ∧ τ41.1 19 ≤ 125 := hT.1 19
                    have v20 : 0 ≤ τ41.1 20 ∧ τ41.1 20 ≤ 19 := hT.1 20
                    have v22 : 0 ≤ τ41.1 22 ∧ τ41.1 22 ≤ 1499 := hT.1 22
                    have a14_22 : 0 ≤ τ41.2.1 14 (τ41.1 22) ∧ τ41.2.1 14 (τ41.1 22) ≤ 30000 := hT.2 14 _
                    have a15_22 : 0 ≤ τ41.2.1 15 (τ41.1 22) ∧ τ41.2.1 15 (τ41.1 22) ≤ 300 := hT.2 15 _
                    have av6 : σ.1 6 ≤ τ41.1 6 := ag.1 6 (by decide)
                    have Y20 : ca (τ41.2.1 12) (τ41.1 3) ≤ τ41.1 4 := by rw [g12_τ41, w3_τ41]; omega
                    have Z1 : τ41.2.1 14 (τ41.1 22) + τ41.2.1 15 (τ41.1 22) = τ41.1 6 := by omega
                    exact ⟨hT, (show (τ41.1 20) = 0 → τ41.2.1 15 (τ41.1 22) = 1 from by (first | omega | (simp only [st_s] <;> omega) | assumption | omega | fail)), (show τ41.2.1 15 (τ41.1 22) ≤ 1 from by (first | omega | (simp only [st_s] <;> omega) | assumption | omega | fail)), (show ¬ (σ.1 20) = 0 → (τ41.1 20) = (σ.1 20) from by (first | omega | (simp only [st_s] <;> omega) | assumption | omega | fail)), (show τ41.2.1 14 (τ41.1 22) + τ41.2.1 15 (τ41.1 22) = (τ41.1 6) from Z1), (show ca (τ41.2.1 12) ((τ41.1 3)) ≤ (τ41.1 4) from Y20), ag, (show (τ41.1 20) = 0 → n_N (τ41.2.1 14 (τ41.1 22)) (τ41.2.1 14 (τ41.1 22) + τ41.2.1 15 (τ41.1 22)) (σ.1 3) (σ.2.1 8) (σ.2.1 11) (τ41.2.1 12) (τ41.2.1 16) (τ41.2.1 17) from by (first | (intro z; exfalso; omega) | (intro _; rw [show τ41.2.1 14 (τ41.1 22) = σ.1 6 from by omega, show σ.1 6 + τ41.2.1 15 (τ41.1 22) = σ.1 6 + 1 from by omega]; exact n_N_1 q39_4 q39_5 (by omega) (x3lt (by omega)) (by rw [g12_τ41, st_s]; decide)) | fail)), (show n_rl σ τ41 from by (first | exact n_rl_h hf_τ11 rfl rfl | exact n_rl_h hf_τ20 rfl rfl | exact n_rl_h hf_τ29 rfl rfl | exact n_rl_h hf_τ36 rfl rfl | exact ⟨fun s _ _ _ => by rw [g10_τ41], fun s _ _ h => by (rw [g12_τ41]; by_cases z : s = x3; (rw [z, st_s]; decide); (rw [st_n _ _ z]; exact h)), Or.inl (by omega), Or.inl (by omega), by omega, fun zt s a b => by (rw [g10_τ41]; have h3 := zt s a (by omega); omega)⟩ | fail)), (show ∀ s : Int, ¬ σ.2.1 12 s = 0 → ¬ τ41.2.1 12 s = 0 from by (first | exact fun s h => by (rw [G12]; exact h) | exact fun s h => by (rw [g12_τ41]; by_cases z : s = x3; (rw [z, st_s]; decide); (rw [st_n _ _ z]; exact h)) | (intro s h; first | (rw [hf_τ11.2.1 12 (by decide)]; exact h) | (rw [hf_τ20.2.1 12 (by decide)]; exact h) | (rw [hf_τ29.2.1 12 (by decide)]; exact h) | (rw [hf_τ36.2.1 12 (by decide)]; exact h)) | fail))⟩
                  ·
                    refine h143 _ _ _ _ ?_
                    refine ⟨(⟨by (first | omega | (simp only [st_s] <;> omega) | assumption | omega | fail), by (first | omega | (simp only [st_s] <;> omega) | assumption | omega | fail)⟩ : rg ((σ.1 4) + 0)), ?_⟩
                    replace ag := ag_v (i := 4) (x := ((σ.1 4) + 0)) ag (Or.inl rfl)
                    replace hT := mT_v (i := 4) hT (show 0 ≤ ((σ.1 4) + 0) ∧ ((σ.1 4) + 0) ≤ 100 from by (first | omega | (simp only [st_s] <;> omega) | assumption | omega | fail))
                    have ct0 := ca_t0 (σ.2.1 12) x3 ((σ.1 3)) 1 (by omega) (by omega)
                    have ct2 := ca_t2 (σ.2.1 12) (e := x3) ((σ.1 3)) 1 (by omega) (by omega)
                    refine ⟨(show 0 ≤ x3 ∧ x3 < 1001 from by (first | omega | (simp only [st_s] <;> omega) | assumption | omega | fail)), ?_⟩
                    replace ag := ag_a (k := 12) (e := x3) (x := 1) ag rfl
                    replace hT := mT_a (k := 12) (j := x3) hT (show (0 : Int) ≤ 1 ∧ 1 ≤ 1 from by (first | omega | (simp only [st_s] <;> omega) | assumption | omega | fail))
                    have y14q : σ.2.1 14 (σ.1 22) = σ.1 6 := by omega
                    refine ⟨_, K3_X13_addSymbol hT (show 0 ≤ x3 from by (first | omega | (simp only [st_s] <;> omega) | assumption | omega | fail)) (show x3 < 1000 from by (first | omega | (simp only [st_s] <;> omega) | assumption | omega | fail)) (show -1 ≤ (-1 : Int) from by (first | omega | (simp only [st_s] <;> omega) | assumption | omega | fail)) (show (-1 : Int) ≤ 1499 from by (first | omega | (simp only [st_s] <;> omega) | assumption | omega | fail)) (show (σ.1 6) < 30000 from by (first | omega | (simp only [st_s] <;> omega) | assumption | omega | fail)) (show σ.2.1 15 (σ.1 22) < 300 from by (first | omega | (simp only [st_s] <;> omega) | assumption | omega | fail)) (show (σ.1 22) = (σ.1 5) from by (first | omega | (simp only [st_s] <;> omega) | assumption | omega | fail)), ?_⟩
                    intro τ41 hn_τ41 hf_τ41 hq
                    obtain ⟨hT, q39_1, q39_2, q39_3, q39_4, q39_5⟩ := hq
                    replace q39_1 : (τ41.1 6) = (σ.1 6) + 1 := q39_1
                    replace q39_2 : τ41.2.1 15 (τ41.1 22) = σ.2.1 15 (σ.1 22) + 1 := q39_2
                    replace q39_3 : m_ag (s_a (s_v σ 4 ((σ.1 4) + 0)) 12 x3 1) τ41 := q39_3
                    replace q39_4 : τ41.2.1 16 = st (σ.2.1 16) (σ.1 6) x3 := q39_4
                    replace q39_5 : τ41.2.1 17 = st (σ.2.1 17) (σ.1 6) (-1 : Int) := q39_5
                    replace ag : m_ag σ τ41 := ag_t ag q39_3 rfl
                    have w0_τ41 : τ41.1 0 = σ.1 0 := hf_τ41.1 0 (by decide)
                    have w3_τ41 : τ41.1 3 = σ.1 3 := hf_τ41.1 3 (by decide)
                    have w4_τ41 : τ41.1 4 = ((σ.1 4) + 0) := hf_τ41.1 4 (by decide)
                    have w5_τ41 : τ41.1 5 = σ.1 5 := hf_τ41.1 5 (by decide)
                    have w7_τ41 : τ41.1 7 = σ.1 7 := hf_τ41.1 7 (by decide)
                    have w8_τ41 : τ41.1 8 = σ.1 8 := hf_τ41.1 8 (by decide)
                    have w9_τ41 : τ41.1 9 = σ.1 9 := hf_τ41.1 9 (by decide)
                    have w10_τ41 : τ41.1 10 = σ.1 10 := hf_τ41.1 10 (by decide)
                    have w11_τ41 : τ41.1 11 = σ.1 11 := hf_τ41.1 11 (by decide)
                    have w17_τ41 : τ41.1 17 = σ.1 17 := hf_τ41.1 17 (by decide)
                    have w18_τ41 : τ41.1 18 = σ.1 18 := hf_τ41.1 18 (by decide)
                    have w19_τ41 : τ41.1 19 = σ.1 19 := hf_τ41.1 19 (by decide)
                    have w20_τ41 : τ41.1 20 = σ.1 20 := hf_τ41.1 20 (by decide)
                    have w22_τ41 : τ41.1 22 = σ.1 22 := hf_τ41.1 22 (by decide)
                    have g6_τ41 : τ41.2.1 6 = σ.2.1 6 := hf_τ41.2.1 6 (by decide)
                    have g8_τ41 : τ41.2.1 8 = σ.2.1 8 := hf_τ41.2.1 8 (by decide)
                    have g10_τ41 : τ41.2.1 10 = σ.2.1 10 := hf_τ41.2.1 10 (by decide)
                    have g11_τ41 : τ41.2.1 11 = σ.2.1 11 := hf_τ41.2.1 11 (by decide)
                    have g12_τ41 : τ41.2.1 12 = (st (σ.2.1 12) x3 1) := hf_τ41.2.1 12 (by decide)
                    have g14_τ41 : τ41.2.1 14 = σ.2.1 14 := hf_τ41.2.1 14 (by decide)
                    first | (have o6_τ41 := congrArg oc g6_τ41) | skip
                    have W0 : τ41.1 0 = σ.1 0 := by first | exact w0_τ41.trans W0 | omega
                    have W3 : τ41.1 3 = σ.1 3 := by first | exact w3_τ41.trans W3 | omega
                    have W5 : τ41.1 5 = σ.1 5 := by first | exact w5_τ41.trans W5 | omega
                    have W7 : τ41.1 7 = σ.1 7 := by first | exact w7_τ41.trans W7 | omega
                    have W8 : τ41.1 8 = σ.1 8 := by first | exact w8_τ41.trans W8 | omega
                    have W9 : τ41.1 9 = σ.1 9 := by first | exact w9_τ41.trans W9 | omega
                    have W10 : τ41.1 10 = σ.1 10 := by first | exact w10_τ41.trans W10 | omega
                    have W11 : τ41.1 11 = σ.1 11 := by first | exact w11_τ41.trans W11 | omega
                    have W17 : τ41.1 17 = σ.1 17 := by first | exact w17_τ41.trans W17 | omega
                    have W18 : τ41.1 18 = σ.1 18 := by first | exact w18_τ41.trans W18 | omega
                    have W19 : τ41.1 19 = σ.1 19 := by first | exact w19_τ41.trans W19 | omega
                    have W22 : τ41.1 22 = σ.1 22 := by first | exact w22_τ41.trans W22 | omega
                    have G6 : τ41.2.1 6 = σ.2.1 6 := (g6_τ41).trans G6
                    have G8 : τ41.2.1 8 = σ.2.1 8 := (g8_τ41).trans G8
                    have G10 : τ41.2.1 10 = σ.2.1 10 := (g10_τ41).trans G10
                    have G11 : τ41.2.1 11 = σ.2.1 11 := (g11_τ41).trans G11
                    have G14 : τ41.2.1 14 = σ.2.1 14 := (g14_τ41).trans G14
                    have y14_22_τ41 : τ41.2.1 14 (τ41.1 22) = (σ.2.1 14) (σ.1 22) := by rw [g14_τ41, w22_τ41]
                    have Y1 : j_l2 (τ41.2.1 6) (τ41.1 3) := by rw [show (j_l2 (τ41.2.1 6) (τ41.1 3)) = (j_l2 (σ.2.1 6) (σ.1 3)) from by rw [w3_τ41, g6_τ41]]; exact Y1
                    have STt : j_l2 (τ41.2.1 6) (τ41.1 3) := by rw [show (j_l2 (τ41.2.1 6) (τ41.1 3)) = (j_l2 (σ.2.1 6) (σ.1 3)) from by rw [w3_τ41, g6_τ41]]; exact STt
                    have A6 : ∀ j, (-1) ≤ τ41.2.1 6 j ∧ τ41.2.1 6 j ≤ 999 := fun j => hT.2 6 j
                    have A8 : ∀ j, 0 ≤ τ41.2.1 8 j ∧ τ41.2.1 8 j ≤ 1 := fun j => hT.2 8 j
                    have A10 : ∀ j, (-1) ≤ τ41.2.1 10 j ∧ τ41.2.1 10 j ≤ 999 := fun j => hT.2 10 j
                    have A11 : ∀ j, (-1) ≤ τ41.2.1 11 j ∧ τ41.2.1 11 j ≤ 1499 := fun j => hT.2 11 j
                    have A12 : ∀ j, 0 ≤ τ41.2.1 12 j ∧ τ41.2.1 12 j ≤ 1 := fun j => hT.2 12 j
                    have A14 : ∀ j, 0 ≤ τ41.2.1 14 j ∧ τ41.2.1 14 j ≤ 30000 := fun j => hT.2 14 j
                    have A15 : ∀ j, 0 ≤ τ41.2.1 15 j ∧ τ41.2.1 15 j ≤ 300 := fun j => hT.2 15 j
                    have A16 : ∀ j, 0 ≤ τ41.2.1 16 j ∧ τ41.2.1 16 j ≤ 999 := fun j => hT.2 16 j
                    have A17 : ∀ j, (-1) ≤ τ41.2.1 17 j ∧ τ41.2.1 17 j ≤ 1499 := fun j => hT.2 17 j
                    have v0 : 0 ≤ τ41.1 0 ∧ τ41.1 0 ≤ 60000 := hT.1 0
                    have v3 : 0 ≤ τ41.1 3 ∧ τ41.1 3 ≤ 1000 := hT.1 3
                    have v4 : 0 ≤ τ41.1 4 ∧ τ41.1 4 ≤ 100 := hT.1 4
                    have v5 : 0 ≤ τ41.1 5 ∧ τ41.1 5 ≤ 1500 := hT.1 5
                    have v6 : 0 ≤ τ41.1 6 ∧ τ41.1 6 ≤ 30000 := hT.1 6
                    have v7 : 0 ≤ τ41.1 7 ∧ τ41.1 7 ≤ 90000 := hT.1 7
                    have v8 : 0 ≤ τ41.1 8 ∧ τ41.1 8 ≤ 20000 := hT.1 8
                    have v9 : 0 ≤ τ41.1 9 ∧ τ41.1 9 ≤ 20000 := hT.1 9
                    have v10 : (-1) ≤ τ41.1 10 ∧ τ41.1 10 ≤ 999 := hT.1 10
                    have v11 : (-1) ≤ τ41.1 11 ∧ τ41.1 11 ≤ 999 := hT.1 11
                    have v17 : 0 ≤ τ41.1 17 ∧ τ41.1 17 ≤ 60000 := hT.1 17
                    have v18 : 0 ≤ τ41.1 18 ∧ τ41.1 18 ≤ 60000 := hT.1 18
                    have v19 : (-1) ≤ τ41.1 19 ∧ τ41.1 19 ≤ 125 := hT.1 19
                    have v20 : 0 ≤ τ41.1 20 ∧ τ41.1 20 ≤ 19 := hT.1 20
                    have v22 : 0 ≤ τ41.1 22 ∧ τ41.1 22 ≤ 1499 := hT.1 22
                    have a14_22 : 0 ≤ τ41.2.1 14 (τ41.1 22) ∧ τ41.2.1 14 (τ41.1 22) ≤ 30000 := hT.2 14 _
                    have a15_22 : 0 ≤ τ41.2.1 15 (τ41.1 22) ∧ τ41.2.1 15 (τ41.1 22) ≤ 300 := hT.2 15 _
                    have av6 : σ.1 6 ≤ τ41.1 6 := ag.1 6 (by decide)
                    have Y20 : ca (τ41.2.1 12) (τ41.1 3) ≤ τ41.1 4 := by rw [g12_τ41, w3_τ41]; omega
                    have Z1 : τ41.2.1 14 (τ41.1 22) + τ41.2.1 15 (τ41.1 22) = τ41.1 6 := by omega
                    exact ⟨hT, (show (τ41.1 20) = 0 → τ41.2.1 15 (τ41.1 22) = 1 from by (first | omega | (simp only [st_s] <;> omega) | assumption | omega | fail)), (show τ41.2.1 15 (τ41.1 22) ≤ 1 from by (first | omega | (simp only [st_s] <;> omega) | assumption | omega | fail)), (show ¬ (σ.1 20) = 0 → (τ41.1 20) = (σ.1 20) from by (first | omega | (simp only [st_s] <;> omega) | assumption | omega | fail)), (show τ41.2.1 14 (τ41.1 22) + τ41.2.1 15 (τ41.1 22) = (τ41.1 6) from Z1), (show ca (τ41.2.1 12) ((τ41.1 3)) ≤ (τ41.1 4) from Y20), ag, (show (τ41.1 20) = 0 → n_N (τ41.2.1 14 (τ41.1 22)) (τ41.2.1 14 (τ41.1 22) + τ41.2.1 15 (τ41.1 22)) (σ.1 3) (σ.2.1 8) (σ.2.1 11) (τ41.2.1 12) (τ41.2.1 16) (τ41.2.1 17) from by (first | (intro z; exfalso; omega) | (intro _; rw [show τ41.2.1 14 (τ41.1 22) = σ.1 6 from by omega, show σ.1 6 + τ41.2.1 15 (τ41.1 22) = σ.1 6 + 1 from by omega]; exact n_N_1 q39_4 q39_5 (by omega) (x3lt (by omega)) (by rw [g12_τ41, st_s]; decide)) | fail)), (show n_rl σ τ41 from by (first | exact n_rl_h hf_τ11 rfl rfl | exact n_rl_h hf_τ20 rfl rfl | exact n_rl_h hf_τ29 rfl rfl | exact n_rl_h hf_τ36 rfl rfl | exact ⟨fun s _ _ _ => by rw [g10_τ41], fun s _ _ h => by (rw [g12_τ41]; by_cases z : s = x3; (rw [z, st_s]; decide); (rw [st_n _ _ z]; exact h)), Or.inl (by omega), Or.inl (by omega), by omega, fun zt s a b => by (rw [g10_τ41]; have h3 := zt s a (by omega); omega)⟩ | fail)), (show ∀ s : Int, ¬ σ.2.1 12 s = 0 → ¬ τ41.2.1 12 s = 0 from by (first | exact fun s h => by (rw [G12]; exact h) | exact fun s h => by (rw [g12_τ41]; by_cases z : s = x3; (rw [z, st_s]; decide); (rw [st_n _ _ z]; exact h)) | (intro s h; first | (rw [hf_τ11.2.1 12 (by decide)]; exact h) | (rw [hf_τ20.2.1 12 (by decide)]; exact h) | (rw [hf_τ29.2.1 12 (by decide)]; exact h) | (rw [hf_τ36.2.1 12 (by decide)]; exact h)) | fail))⟩
                ·
                  refine ⟨_, K_X13_failHere hT (show 0 ≤ (10 : Int) from by (first | omega | (simp only [st_s] <;> omega) | assumption | omega | fail)) (show (10 : Int) ≤ 19 from by (first | omega | (simp only [st_s] <;> omega) | assumption | omega | fail)), ?_⟩
                  intro τ36 hn_τ36 hf_τ36 hq
                  obtain ⟨hT, q34_1, q34_2⟩ := hq
                  replace q34_1 : ¬ (σ.1 20) = 0 → (τ36.1 20) = (σ.1 20) := q34_1
                  replace q34_2 : (σ.1 20) = 0 → (τ36.1 20) = (10 : Int) := q34_2
                  replace ag : m_ag σ τ36 := ag_r ag hf_τ36 rfl rfl
                  have w0_τ36 : τ36.1 0 = σ.1 0 := hf_τ36.1 0 (by decide)
                  have w3_τ36 : τ36.1 3 = σ.1 3 := hf_τ36.1 3 (by decide)
                  have w4_τ36 : τ36.1 4 = σ.1 4 := hf_τ36.1 4 (by decide)
                  have w5_τ36 : τ36.1 5 = σ.1 5 := hf_τ36.1 5 (by decide)
                  have w6_τ36 : τ36.1 6 = σ.1 6 := hf_τ36.1 6 (by decide)
                  have w7_τ36 : τ36.1 7 = σ.1 7 := hf_τ36.1 7 (by decide)
                  have w8_τ36 : τ36.1 8 = σ.1 8 := hf_τ36.1 8 (by decide)
                  have w9_τ36 : τ36.1 9 = σ.1 9 := hf_τ36.1 9 (by decide)
                  have w10_τ36 : τ36.1 10 = σ.1 10 := hf_τ36.1 10 (by decide)
                  have w11_τ36 : τ36.1 11 = σ.1 11 := hf_τ36.1 11 (by decide)
                  have w17_τ36 : τ36.1 17 = σ.1 17 := hf_τ36.1 17 (by decide)
                  have w18_τ36 : τ36.1 18 = σ.1 18 := hf_τ36.1 18 (by decide)
                  have w19_τ36 : τ36.1 19 = σ.1 19 := hf_τ36.1 19 (by decide)
                  have w22_τ36 : τ36.1 22 = σ.1 22 := hf_τ36.1 22 (by decide)
                  have g6_τ36 : τ36.2.1 6 = σ.2.1 6 := hf_τ36.2.1 6 (by decide)
                  have g8_τ36 : τ36.2.1 8 = σ.2.1 8 := hf_τ36.2.1 8 (by decide)
                  have g10_τ36 : τ36.2.1 10 = σ.2.1 10 := hf_τ36.2.1 10 (by decide)
                  have g11_τ36 : τ36.2.1 11 = σ.2.1 11 := hf_τ36.2.1 11 (by decide)
                  have g12_τ36 : τ36.2.1 12 = σ.2.1 12 := hf_τ36.2.1 12 (by decide)
                  have g14_τ36 : τ36.2.1 14 = σ.2.1 14 := hf_τ36.2.1 14 (by decide)
                  have g15_τ36 : τ36.2.1 15 = σ.2.1 15 := hf_τ36.2.1 15 (by decide)
                  have g16_τ36 : τ36.2.1 16 = σ.2.1 16 := hf_τ36.2.1 16 (by decide)
                  have g17_τ36 : τ36.2.1 17 = σ.2.1 17 := hf_τ36.2.1 17 (by decide)
                  first | (have o6_τ36 := congrArg oc g6_τ36) | skip
                  have W0 : τ36.1 0 = σ.1 0 := by first | exact w0_τ36.trans W0 | omega
                  have W3 : τ36.1 3 = σ.1 3 := by first | exact w3_τ36.trans W3 | omega
                  have W5 : τ36.1 5 = σ.1 5 := by first | exact w5_τ36.trans W5 | omega
                  have W7 : τ36.1 7 = σ.1 7 := by first | exact w7_τ36.trans W7 | omega
                  have W8 : τ36.1 8 = σ.1 8 := by first | exact w8_τ36.trans W8 | omega
                  have W9 : τ36.1 9 = σ.1 9 := by first | exact w9_τ36.trans W9 | omega
                  have W10 : τ36.1 10 = σ.1 10 := by first | exact w10_τ36.trans W10 | omega
                  have W11 : τ36.1 11 = σ.1 11 := by first | exact w11_τ36.trans W11 | omega
                  have W17 : τ36.1 17 = σ.1 17 := by first | exact w17_τ36.trans W17 | omega
                  have W18 : τ36.1 18 = σ.1 18 := by first | exact w18_τ36.trans W18 | omega
                  have W19 : τ36.1 19 = σ.1 19 := by first | exact w19_τ36.trans W19 | omega
                  have W22 : τ36.1 22 = σ.1 22 := by first | exact w22_τ36.trans W22 | omega
                  have G6 : τ36.2.1 6 = σ.2.1 6 := (g6_τ36).trans G6
                  have G8 : τ36.2.1 8 = σ.2.1 8 := (g8_τ36).trans G8
                  have G10 : τ36.2.1 10 = σ.2.1 10 := (g10_τ36).trans G10
                  have G11 : τ36.2.1 11 = σ.2.1 11 := (g11_τ36).trans G11
                  have G14 : τ36.2.1 14 = σ.2.1 14 := (g14_τ36).trans G14
                  have y14_22_τ36 : τ36.2.1 14 (τ36.1 22) = (σ.2.1 14) (σ.1 22) := by rw [g14_τ36, w22_τ36]
                  have y15_22_τ36 : τ36.2.1 15 (τ36.1 22) = (σ.2.1 15) (σ.1 22) := by rw [g15_τ36, w22_τ36]
                  have Z1 : τ36.2.1 14 (τ36.1 22) + τ36.2.1 15 (τ36.1 22) = (τ36.1 6) := by rw [show (τ36.2.1 14 (τ36.1 22) + τ36.2.1 15 (τ36.1 22) = (τ36.1 6)) = (σ.2.1 14 (σ.1 22) + σ.2.1 15 (σ.1 22) = (σ.1 6)) from by rw [w6_τ36, w22_τ36, g14_τ36, g15_τ36]]; exact Z1
                  have Y20 : ca (τ36.2.1 12) ((τ36.1 3)) ≤ (τ36.1 4) := by rw [show (ca (τ36.2.1 12) ((τ36.1 3)) ≤ (τ36.1 4)) = (ca (σ.2.1 12) ((σ.1 3)) ≤ (σ.1 4)) from by rw [w3_τ36, w4_τ36, g12_τ36]]; exact Y20
                  have Y1 : j_l2 (τ36.2.1 6) (τ36.1 3) := by rw [show (j_l2 (τ36.2.1 6) (τ36.1 3)) = (j_l2 (σ.2.1 6) (σ.1 3)) from by rw [w3_τ36, g6_τ36]]; exact Y1
                  have STt : j_l2 (τ36.2.1 6) (τ36.1 3) := by rw [show (j_l2 (τ36.2.1 6) (τ36.1 3)) = (j_l2 (σ.2.1 6) (σ.1 3)) from by rw [w3_τ36, g6_τ36]]; exact STt
                  have A6 : ∀ j, (-1) ≤ τ36.2.1 6 j ∧ τ36.2.1 6 j ≤ 999 := fun j => hT.2 6 j
                  have A8 : ∀ j, 0 ≤ τ36.2.1 8 j ∧ τ36.2.1 8 j ≤ 1 := fun j => hT.2 8 j
                  have A10 : ∀ j, (-1) ≤ τ36.2.1 10 j ∧ τ36.2.1 10 j ≤ 999 := fun j => hT.2 10 j
                  have A11 : ∀ j, (-1) ≤ τ36.2.1 11 j ∧ τ36.2.1 11 j ≤ 1499 := fun j => hT.2 11 j
                  have A12 : ∀ j, 0 ≤ τ36.2.1 12 j ∧ τ36.2.1 12 j ≤ 1 := fun j => hT.2 12 j
                  have A14 : ∀ j, 0 ≤ τ36.2.1 14 j ∧ τ36.2.1 14 j ≤ 30000 := fun j => hT.2 14 j
                  have A15 : ∀ j, 0 ≤ τ36.2.1 15 j ∧ τ36.2.1 15 j ≤ 300 := fun j => hT.2 15 j
                  have A16 : ∀ j, 0 ≤ τ36.2.1 16 j ∧ τ36.2.1 16 j ≤ 999 := fun j => hT.2 16 j
                  have A17 : ∀ j, (-1) ≤ τ36.2.1 17 j ∧ τ36.2.1 17 j ≤ 1499 := fun j => hT.2 17 j
                  have v0 : 0 ≤ τ36.1 0 ∧ τ36.1 0 ≤ 60000 := hT.1 0
                  have v3 : 0 ≤ τ36.1 3 ∧ τ36.1 3 ≤ 1000 := hT.1 3
                  have v4 : 0 ≤ τ36.1 4 ∧ τ36.1 4 ≤ 100 := hT.1 4
                  have v5 : 0 ≤ τ36.1 5 ∧ τ36.1 5 ≤ 1500 := hT.1 5
                  have v6 : 0 ≤ τ36.1 6 ∧ τ36.1 6 ≤ 30000 := hT.1 6
                  have v7 : 0 ≤ τ36.1 7 ∧ τ36.1 7 ≤ 90000 := hT.1 7
                  have v8 : 0 ≤ τ36.1 8 ∧ τ36.1 8 ≤ 20000 := hT.1 8
                  have v9 : 0 ≤ τ36.1 9 ∧ τ36.1 9 ≤ 20000 := hT.1 9
                  have v10 : (-1) ≤ τ36.1 10 ∧ τ36.1 10 ≤ 999 := hT.1 10
                  have v11 : (-1) ≤ τ36.1 11 ∧ τ36.1 11 ≤ 999 := hT.1 11
                  have v17 : 0 ≤ τ36.1 17 ∧ τ36.1 17 ≤ 60000 := hT.1 17
                  have v18 : 0 ≤ τ36.1 18 ∧ τ36.1 18 ≤ 60000 := hT.1 18
                  have v19 : (-1) ≤ τ36.1 19 ∧ τ36.1 19 ≤ 125 := hT.1 19
                  have v20 : 0 ≤ τ36.1 20 ∧ τ36.1 20 ≤ 19 := hT.1 20
                  have v22 : 0 ≤ τ36.1 22 ∧ τ36.1 22 ≤ 1499 := hT.1 22
                  have a14_22 : 0 ≤ τ36.2.1 14 (τ36.1 22) ∧ τ36.2.1 14 (τ36.1 22) ≤ 30000 := hT.2 14 _
                  have a15_22 : 0 ≤ τ36.2.1 15 (τ36.1 22) ∧ τ36.2.1 15 (τ36.1 22) ≤ 300 := hT.2 15 _
                  have av6 : σ.1 6 ≤ τ36.1 6 := ag.1 6 (by decide)
                  exact ⟨hT, (show (τ36.1 20) = 0 → τ36.2.1 15 (τ36.1 22) = 1 from by (first | omega | (simp only [st_s] <;> omega) | assumption | omega | fail)), (show τ36.2.1 15 (τ36.1 22) ≤ 1 from by (first | omega | (simp only [st_s] <;> omega) | assumption | omega | fail)), (show ¬ (σ.1 20) = 0 → (τ36.1 20) = (σ.1 20) from by (first | omega | (simp only [st_s] <;> omega) | assumption | omega | fail)), (show τ36.2.1 14 (τ36.1 22) + τ36.2.1 15 (τ36.1 22) = (τ36.1 6) from Z1), (show ca (τ36.2.1 12) ((τ36.1 3)) ≤ (τ36.1 4) from Y20), ag, (show (τ36.1 20) = 0 → n_N (τ36.2.1 14 (τ36.1 22)) (τ36.2.1 14 (τ36.1 22) + τ36.2.1 15 (τ36.1 22)) (σ.1 3) (σ.2.1 8) (σ.2.1 11) (τ36.2.1 12) (τ36.2.1 16) (τ36.2.1 17) from by (first | (intro z; exfalso; omega) | (intro _; rw [show τ41.2.1 14 (τ41.1 22) = σ.1 6 from by omega, show σ.1 6 + τ41.2.1 15 (τ41.1 22) = σ.1 6 + 1 from by omega]; exact n_N_1 q39_4 q39_5 (by omega) (x3lt (by omega)) (by rw [g12_τ41, st_s]; decide)) | fail)), (show n_rl σ τ36 from by (first | exact n_rl_h hf_τ11 rfl rfl | exact n_rl_h hf_τ20 rfl rfl | exact n_rl_h hf_τ29 rfl rfl | exact n_rl_h hf_τ36 rfl rfl | exact ⟨fun s _ _ _ => by rw [g10_τ41], fun s _ _ h => by (rw [g12_τ41]; by_cases z : s = x3; (rw [z, st_s]; decide); (rw [st_n _ _ z]; exact h)), Or.inl (by omega), Or.inl (by omega), by omega, fun zt s a b => by (rw [g10_τ41]; have h3 := zt s a (by omega); omega)⟩ | fail)), (show ∀ s : Int, ¬ σ.2.1 12 s = 0 → ¬ τ36.2.1 12 s = 0 from by (first | exact fun s h => by (rw [G12]; exact h) | exact fun s h => by (rw [g12_τ41]; by_cases z : s = x3; (rw [z, st_s]; decide); (rw [st_n _ _ z]; exact h)) | (intro s h; first | (rw [hf_τ11.2.1 12 (by decide)]; exact h) | (rw [hf_τ20.2.1 12 (by decide)]; exact h) | (rw [hf_τ29.2.1 12 (by decide)]; exact h) | (rw [hf_τ36.2.1 12 (by decide)]; exact h)) | fail))⟩
              ·
                intro x25 r_x25 e_x25
                have b_x25 : 0 ≤ x25 ∧ x25 ≤ 1 := by rw [e_x25]; exact hT.2 9 _
                refine ⟨fun c26 => ?_, fun c26 => ?_⟩
                ·
                  refine h111 _ _ _ ?_
                  refine ⟨fun c30 => ?_, fun c30 => ?_⟩
                  ·
                    refine ⟨(show 0 ≤ x3 ∧ x3 < 1001 from by (first | omega | (simp only [st_s] <;> omega) | assumption | omega | fail)), ?_⟩
                    intro x32 r_x32 e_x32
                    have b_x32 : 0 ≤ x32 ∧ x32 ≤ 1 := by rw [e_x32]; exact hT.2 12 _
                    refine ⟨fun c33 => ?_, fun c33 => ?_⟩
                    ·
                      refine h143 _ _ _ _ ?_
                      refine ⟨(⟨by (first | omega | (simp only [st_s] <;> omega) | assumption | omega | fail), by (first | omega | (simp only [st_s] <;> omega) | assumption | omega | fail)⟩ : rg ((σ.1 4) + 1)), ?_⟩
                      replace ag := ag_v (i := 4) (x := ((σ.1 4) + 1)) ag (Or.inl rfl)
                      replace hT := mT_v (i := 4) hT (show 0 ≤ ((σ.1 4) + 1) ∧ ((σ.1 4) + 1) ≤ 100 from by (first | omega | (simp only [st_s] <;> omega) | assumption | omega | fail))
                      have ct0 := ca_t0 (σ.2.1 12) x3 ((σ.1 3)) 1 (by omega) (by omega)
                      have ct2 := ca_t2 (σ.2.1 12) (e := x3) ((σ.1 3)) 1 (by omega) (by omega)
                      refine ⟨(show 0 ≤ x3 ∧ x3 < 1001 from by (first | omega | (simp only [st_s] <;> omega) | assumption | omega | fail)), ?_⟩
                      replace ag := ag_a (k := 12) (e := x3) (x := 1) ag rfl
                      replace hT := mT_a (k := 12) (j := x3) hT (show (0 : Int) ≤ 1 ∧ 1 ≤ 1 from by (first | omega | (simp only [st_s] <;> omega) | assumption | omega | fail))
                      have y14q : σ.2.1 14 (σ.1 22) = σ.1 6 := by omega
                      refine ⟨_, K3_X13_addSymbol hT (show 0 ≤ x3 from by (first | omega | (simp only [st_s] <;> omega) | assumption | omega | fail)) (show x3 < 1000 from by (first | omega | (simp only [st_s] <;> omega) | assumption | omega | fail)) (show -1 ≤ (-1 : Int) from by (first | omega | (simp only [st_s] <;> omega) | assumption | omega | fail)) (show (-1 : Int) ≤ 1499 from by (first | omega | (simp only [st_s] <;> omega) | assumption | omega | fail)) (show (σ.1 6) < 30000 from by (first | omega | (simp only [st_s] <;> omega) | assumption | omega | fail)) (show σ.2.1 15 (σ.1 22) < 300 from by (first | omega | (simp only [st_s] <;> omega) | assumption | omega | fail)) (show (σ.1 22) = (σ.1 5) from by (first | omega | (simp only [st_s] <;> omega) | assumption | omega | fail)), ?_⟩
                      intro τ41 hn_τ41 hf_τ41 hq
                      obtain ⟨hT, q39_1, q39_2, q39_3, q39_4, q39_5⟩ := hq
                      replace q39_1 : (τ41.1 6) = (σ.1 6) + 1 := q39_1
                      replace q39_2 : τ41.2.1 15 (τ41.1 22) = σ.2.1 15 (σ.1 22) + 1 := q39_2
                      replace q39_3 : m_ag (s_a (s_v σ 4 ((σ.1 4) + 1)) 12 x3 1) τ41 := q39_3
                      replace q39_4 : τ41.2.1 16 = st (σ.2.1 16) (σ.1 6) x3 := q39_4
                      replace q39_5 : τ41.2.1 17 = st (σ.2.1 17) (σ.1 6) (-1 : Int) := q39_5
                      replace ag : m_ag σ τ41 := ag_t ag q39_3 rfl
                      have w0_τ41 : τ41.1 0 = σ.1 0 := hf_τ41.1 0 (by decide)
                      have w3_τ41 : τ41.1 3 = σ.1 3 := hf_τ41.1 3 (by decide)
                      have w4_τ41 : τ41.1 4 = ((σ.1 4) + 1) := hf_τ41.1 4 (by decide)
                      have w5_τ41 : τ41.1 5 = σ.1 5 := hf_τ41.1 5 (by decide)
                      have w7_τ41 : τ41.1 7 = σ.1 7 := hf_τ41.1 7 (by decide)
                      have w8_τ41 : τ41.1 8 = σ.1 8 := hf_τ41.1 8 (by decide)
                      have w9_τ41 : τ41.1 9 = σ.1 9 := hf_τ41.1 9 (by decide)
                      have w10_τ41 : τ41.1 10 = σ.1 10 := hf_τ41.1 10 (by decide)
                      have w11_τ41 : τ41.1 11 = σ.1 11 := hf_τ41.1 11 (by decide)
                      have w17_τ41 : τ41.1 17 = σ.1 17 := hf_τ41.1 17 (by decide)
                      have w18_τ41 : τ41.1 18 = σ.1 18 := hf_τ41.1 18 (by decide)
                      have w19_τ41 : τ41.1 19 = σ.1 19 := hf_τ41.1 19 (by decide)
                      have w20_τ41 : τ41.1 20 = σ.1 20 := hf_τ41.1 20 (by decide)
                      have w22_τ41 : τ41.1 22 = σ.1 22 := hf_τ41.1 22 (by decide)
                      have g6_τ41 : τ41.2.1 6 = σ.2.1 6 := hf_τ41.2.1 6 (by decide)
                      have g8_τ41 : τ41.2.1 8 = σ.2.1 8 := hf_τ41.2.1 8 (by decide)
                      have g10_τ41 : τ41.2.1 10 = σ.2.1 10 := hf_τ41.2.1 10 (by decide)
                      have g11_τ41 : τ41.2.1 11 = σ.2.1 11 := hf_τ41.2.1 11 (by decide)
                      have g12_τ41 : τ41.2.1 12 = (st (σ.2.1 12) x3 1) := hf_τ41.2.1 12 (by decide)
                      have g14_τ41 : τ41.2.1 14 = σ.2.1 14 := hf_τ41.2.1 14 (by decide)
                      first | (have o6_τ41 := congrArg oc g6_τ41) | skip
                      have W0 : τ41.1 0 = σ.1 0 := by first | exact w0_τ41.trans W0 | omega
                      have W3 : τ41.1 3 = σ.1 3 := by first | exact w3_τ41.trans W3 | omega
                      have W5 : τ41.1 5 = σ.1 5 := by first | exact w5_τ41.trans W5 | omega
                      have W7 : τ41.1 7 = σ.1 7 := by first | exact w7_τ41.trans W7 | omega
                      have W8 : τ41.1 8 = σ.1 8 := by first | exact w8_τ41.trans W8 | omega
                      have W9 : τ41.1 9 = σ.1 9 := by first | exact w9_τ41.trans W9 | omega
                      have W10 : τ41.1 10 = σ.1 10 := by first | exact w10_τ41.trans W10 | omega
                      have W11 : τ41.1 11 = σ.1 11 := by first | exact w11_τ41.trans W11 | omega
                      have W17 : τ41.1 17 = σ.1 17 := by first | exact w17_τ41.trans W17 | omega
                      have W18 : τ41.1 18 = σ.1 18 := by first | exact w18_τ41.trans W18 | omega
                      have W19 : τ41.1 19 = σ.1 19 := by first | exact w19_τ41.trans W19 | omega
                      have W22 : τ41.1 22 = σ.1 22 := by first | exact w22_τ41.trans W22 | omega
                      have G6 : τ41.2.1 6 = σ.2.1 6 := (g6_τ41).trans G6
                      have G8 : τ41.2.1 8 = σ.2.1 8 := (g8_τ41).trans G8
                      have G10 : τ41.2.1 10 = σ.2.1 10 := (g10_τ41).trans G10
                      have G11 : τ41.2.1 11 = σ.2.1 11 := (g11_τ41).trans G11
                      have G14 : τ41.2.1 14 = σ.2.1 14 := (g14_τ41).trans G14
                      have y14_22_τ41 : τ41.2.1 14 (τ41.1 22) = (σ.2.1 14) (σ.1 22) := by rw [g14_τ41, w22_τ41]
                      have Y1 : j_l2 (τ41.2.1 6) (τ41.1 3) := by rw [show (j_l2 (τ41.2.1 6) (τ41.1 3)) = (j_l2 (σ.2.1 6) (σ.1 3)) from by rw [w3_τ41, g6_τ41]]; exact Y1
                      have STt : j_l2 (τ41.2.1 6) (τ41.1 3) := by rw [show (j_l2 (τ41.2.1 6) (τ41.1 3)) = (j_l2 (σ.2.1 6) (σ.1 3)) from by rw [w3_τ41, g6_τ41]]; exact STt
                      have A6 : ∀ j, (-1) ≤ τ41.2.1 6 j ∧ τ41.2.1 6 j ≤ 999 := fun j => hT.2 6 j
                      have A8 : ∀ j, 0 ≤ τ41.2.1 8 j ∧ τ41.2.1 8 j ≤ 1 := fun j => hT.2 8 j
                      have A10 : ∀ j, (-1) ≤ τ41.2.1 10 j ∧ τ41.2.1 10 j ≤ 999 := fun j => hT.2 10 j
                      have A11 : ∀ j, (-1) ≤ τ41.2.1 11 j ∧ τ41.2.1 11 j ≤ 1499 := fun j => hT.2 11 j
                      have A12 : ∀ j, 0 ≤ τ41.2.1 12 j ∧ τ41.2.1 12 j ≤ 1 := fun j => hT.2 12 j
                      have A14 : ∀ j, 0 ≤ τ41.2.1 14 j ∧ τ41.2.1 14 j ≤ 30000 := fun j => hT.2 14 j
                      have A15 : ∀ j, 0 ≤ τ41.2.1 15 j ∧ τ41.2.1 15 j ≤ 300 := fun j => hT.2 15 j
                      have A16 : ∀ j, 0 ≤ τ41.2.1 16 j ∧ τ41.2.1 16 j ≤ 999 := fun j => hT.2 16 j
                      have A17 : ∀ j, (-1) ≤ τ41.2.1 17 j ∧ τ41.2.1 17 j ≤ 1499 := fun j => hT.2 17 j
                      have v0 : 0 ≤ τ41.1 0 ∧ τ41.1 0 ≤ 60000 := hT.1 0
                      have v3 : 0 ≤ τ41.1 3 ∧ τ41.1 3 ≤ 1000 := hT.1 3
                      have v4 : 0 ≤ τ41.1 4 ∧ τ41.1 4 ≤ 100 := hT.1 4
                      have v5 : 0 ≤ τ41.1 5 ∧ τ41.1 5 ≤ 1500 := hT.1 5
                      have v6 : 0 ≤ τ41.1 6 ∧ τ41.1 6 ≤ 30000 := hT.1 6
                      have v7 : 0 ≤ τ41.1 7 ∧ τ41.1 7 ≤ 90000 := hT.1 7
                      have v8 : 0 ≤ τ41.1 8 ∧ τ41.1 8 ≤ 20000 := hT.1 8
                      have v9 : 0 ≤ τ41.1 9 ∧ τ41.1 9 ≤ 20000 := hT.1 9
                      have v10 : (-1) ≤ τ41.1 10 ∧ τ41.1 10 ≤ 999 := hT.1 10
                      have v11 : (-1) ≤ τ41.1 11 ∧ τ41.1 11 ≤ 999 := hT.1 11
                      have v17 : 0 ≤ τ41.1 17 ∧ τ41.1 17 ≤ 60000 := hT.1 17
                      have v18 : 0 ≤ τ41.1 18 ∧ τ41.1 18 ≤ 60000 := hT.1 18
                      have v19 : (-1) ≤ τ41.1 19 ∧ τ41.1 19 ≤ 125 := hT.1 19
                      have v20 : 0 ≤ τ41.1 20 ∧ τ41.1 20 ≤ 19 := hT.1 20
                      have v22 : 0 ≤ τ41.1 22 ∧ τ41.1 22 ≤ 1499 := hT.1 22
                      have a14_22 : 0 ≤ τ41.2.1 14 (τ41.1 22) ∧ τ41.2.1 14 (τ41.1 22) ≤ 30000 := hT.2 14 _
                      have a15_22 : 0 ≤ τ41.2.1 15 (τ41.1 22) ∧ τ41.2.1 15 (τ41.1 22) ≤ 300 := hT.2 15 _
                      have av6 : σ.1 6 ≤ τ41.1 6 := ag.1 6 (by decide)
                      have Y20 : ca (τ41.2.1 12) (τ41.1 3) ≤ τ41.1 4 := by rw [g12_τ41, w3_τ41]; omega
                      have Z1 : τ41.2.1 14 (τ41.1 22) + τ41.2.1 15 (τ41.1 22) = τ41.1 6 := by omega
                      exact ⟨hT, (show (τ41.1 20) = 0 → τ41.2.1 15 (τ41.1 22) = 1 from by (first | omega | (simp only [st_s] <;> omega) | assumption | omega | fail)), (show τ41.2.1 15 (τ41.1 22) ≤ 1 from by (first | omega | (simp only [st_s] <;> omega) | assumption | omega | fail)), (show ¬ (σ.1 20) = 0 → (τ41.1 20) = (σ.1 20) from by (first | omega | (simp only [st_s] <;> omega) | assumption | omega | fail)), (show τ41.2.1 14 (τ41.1 22) + τ41.2.1 15 (τ41.1 22) = (τ41.1 6) from Z1), (show ca (τ41.2.1 12) ((τ41.1 3)) ≤ (τ41.1 4) from Y20), ag, (show (τ41.1 20) = 0 → n_N (τ41.2.1 14 (τ41.1 22)) (τ41.2.1 14 (τ41.1 22) + τ41.2.1 15 (τ41.1 22)) (σ.1 3) (σ.2.1 8) (σ.2.1 11) (τ41.2.1 12) (τ41.2.1 16) (τ41.2.1 17) from by (first | (intro z; exfalso; omega) | (intro _; rw [show τ41.2.1 14 (τ41.1 22) = σ.1 6 from by omega, show σ.1 6 + τ41.2.1 15 (τ41.1 22) = σ.1 6 + 1 from by omega]; exact n_N_1 q39_4 q39_5 (by omega) (x3lt (by omega)) (by rw [g12_τ41, st_s]; decide)) | fail)), (show n_rl σ τ41 from by (first | exact n_rl_h hf_τ11 rfl rfl | exact n_rl_h hf_τ20 rfl rfl | exact n_rl_h hf_τ29 rfl rfl | exact n_rl_h hf_τ36 rfl rfl | exact ⟨fun s _ _ _ => by rw [g10_τ41], fun s _ _ h => by (rw [g12_τ41]; by_cases z : s = x3; (rw [z, st_s]; decide); (rw [st_n _ _ z]; exact h)), Or.inl (by omega), Or.inl (by omega), by omega, fun zt s a b => by (rw [g10_τ41]; have h3 := zt s a (by omega); omega)⟩ | fail)), (show ∀ s : Int, ¬ σ.2.1 12 s = 0 → ¬ τ41.2.1 12 s = 0 from by (first | exact fun s h => by (rw [G12]; exact h) | exact fun s h => by (rw [g12_τ41]; by_cases z : s = x3; (rw [z, st_s]; decide); (rw [st_n _ _ z]; exact h)) | (intro s h; first | (rw [hf_τ11.2.1 12 (by decide)]; exact h) | (rw [hf_τ20.2.1 12 (by decide)]; exact h) | (rw [hf_τ29.2.1 12 (by decide)]; exact h) | (rw [hf_τ36.2.1 12 (by decide)]; exact h)) | fail))⟩
                    ·
                      refine h143 _ _ _ _ ?_
                      refine ⟨(⟨by (first | omega | (simp only [st_s] <;> omega) | assumption | omega | fail), by (first | omega | (simp only [st_s] <;> omega) | assumption | omega | fail)⟩ : rg ((σ.1 4) + 0)), ?_⟩
                      replace ag := ag_v (i := 4) (x := ((σ.1 4) + 0)) ag (Or.inl rfl)
                      replace hT := mT_v (i := 4) hT (show 0 ≤ ((σ.1 4) + 0) ∧ ((σ.1 4) + 0) ≤ 100 from by (first | omega | (simp only [st_s] <;> omega) | assumption | omega | fail))
                      have ct0 := ca_t0 (σ.2.1 12) x3 ((σ.1 3)) 1 (by omega) (by omega)
                      have ct2 := ca_t2 (σ.2.1 12) (e := x3) ((σ.1 3)) 1 (by omega) (by omega)
                      refine ⟨(show 0 ≤ x3 ∧ x3 < 1001 from by (first | omega | (simp only [st_s] <;> omega) | assumption | omega | fail)), ?_⟩
                      replace ag := ag_a (k := 12) (e := x3) (x := 1) ag rfl
                      replace hT := mT_a (k := 12) (j := x3) hT (show (0 : Int) ≤ 1 ∧ 1 ≤ 1 from by (first | omega | (simp only [st_s] <;> omega) | assumption | omega | fail))
                      have y14q : σ.2.1 14 (σ.1 22) = σ.1 6 := by omega
                      refine ⟨_, K3_X13_addSymbol hT (show 0 ≤ x3 from by (first | omega | (simp only [st_s] <;> omega) | assumption | omega | fail)) (show x3 < 1000 from by (first | omega | (simp only [st_s] <;> omega) | assumption | omega | fail)) (show -1 ≤ (-1 : Int) from by (first | omega | (simp only [st_s] <;> omega) | assumption | omega | fail)) (show (-1 : Int) ≤ 1499 from by (first | omega | (simp only [st_s] <;> omega) | assumption | omega | fail)) (show (σ.1 6) < 30000 from by (first | omega | (simp only [st_s] <;> omega) | assumption | omega | fail)) (show σ.2.1 15 (σ.1 22) < 300 from by (first | omega | (simp only [st_s] <;> omega) | assumption | omega | fail)) (show (σ.1 22) = (σ.1 5) from by (first | omega | (simp only [st_s] <;> omega) | assumption | omega | fail)), ?_⟩
                      intro τ41 hn_τ41 hf_τ41 hq
                      obtain ⟨hT, q39_1, q39_2, q39_3, q39_4, q39_5⟩ := hq
                      replace q39_1 : (τ41.1 6) = (σ.1 6) + 1 := q39_1
                      replace q39_2 : τ41.2.1 15 (τ41.1 22) = σ.2.1 15 (σ.1 22) + 1 := q39_2
                      replace q39_3 : m_ag (s_a (s_v σ 4 ((σ.1 4) + 0)) 12 x3 1) τ41 := q39_3
                      replace q39_4 : τ41.2.1 16 = st (σ.2.1 16) (σ.1 6) x3 := q39_4
                      replace q39_5 : τ41.2.1 17 = st (σ.2.1 17) (σ.1 6) (-1 : Int) := q39_5
                      replace ag : m_ag σ τ41 := ag_t ag q39_3 rfl
                      have w0_τ41 : τ41.1 0 = σ.1 0 := hf_τ41.1 0 (by decide)
                      have w3_τ41 : τ41.1 3 = σ.1 3 := hf_τ41.1 3 (by decide)
                      have w4_τ41 : τ41.1 4 = ((σ.1 4) + 0) := hf_τ41.1 4 (by decide)
                      have w5_τ41 : τ41.1 5 = σ.1 5 := hf_τ41.1 5 (by decide)
                      have w7_τ41 : τ41.1 7 = σ.1 7 := hf_τ41.1 7 (by decide)
                      have w8_τ41 : τ41.1 8 = σ.1 8 := hf_τ41.1 8 (by decide)
                      have w9_τ41 : τ41.1 9 = σ.1 9 := hf_τ41.1 9 (by decide)
                      have w10_τ41 : τ41.1 10 = σ.1 10 := hf_τ41.1 10 (by decide)
                      have w11_τ41 : τ41.1 11 = σ.1 11 := hf_τ41.1 11 (by decide)
                      have w17_τ41 : τ41.1 17 = σ.1 17 := hf_τ41.1 17 (by decide)
                      have w18_τ41 : τ41.1 18 = σ.1 18 := hf_τ41.1 18 (by decide)
                      have w19_τ41 : τ41.1 19 = σ.1 19 := hf_τ41.1 19 (by decide)
                      have w20_τ41 : τ41.1 20 = σ.1 20 := hf_τ41.1 20 (by decide)
                      have w22_τ41 : τ41.1 22 = σ.1 22 := hf_τ41.1 22 (by decide)
                      have g6_τ41 : τ41.2.1 6 = σ.2.1 6 := hf_τ41.2.1 6 (by decide)
                      have g8_τ41 : τ41.2.1 8 = σ.2.1 8 := hf_τ41.2.1 8 (by decide)
                      have g10_τ41 : τ41.2.1 10 = σ.2.1 10 := hf_τ41.2.1 10 (by decide)
                      have g11_τ41 : τ41.2.1 11 = σ.2.1 11 := hf_τ41.2.1 11 (by decide)
                      have g12_τ41 : τ41.2.1 12 = (st (σ.2.1 12) x3 1) := hf_τ41.2.1 12 (by decide)
                      have g14_τ41 : τ41.2.1 14 = σ.2.1 14 := hf_τ41.2.1 14 (by decide)
                      first | (have o6_τ41 := congrArg oc g6_τ41) | skip
                      have W0 : τ41.1 0 = σ.1 0 := by first | exact w0_τ41.trans W0 | omega
                      have W3 : τ41.1 3 = σ.1 3 := by first | exact w3_τ41.trans W3 | omega
                      have W5 : τ41.1 5 = σ.1 5 := by first | exact w5_τ41.trans W5 | omega
                      have W7 : τ41.1 7 = σ.1 7 := by first | exact w7_τ41.trans W7 | omega
                      have W8 : τ41.1 8 = σ.1 8 := by first | exact w8_τ41.trans W8 | omega
                      have W9 : τ41.1 9 = σ.1 9 := by first | exact w9_τ41.trans W9 | omega
                      have W10 : τ41.1 10 = σ.1 10 := by first | exact w10_τ41.trans W10 | omega
                      have W11 : τ41.1 11 = σ.1 11 := by first | exact w11_τ41.trans W11 | omega
                      have W17 : τ41.1 17 = σ.1 17 := by first | exact w17_τ41.trans W17 | omega
                      have W18 : τ41.1 18 = σ.1 18 := by first | exact w18_τ41.trans W18 | omega
                      have W19 : τ41.1 19 = σ.1 19 := by first | exact w19_τ41.trans W19 | omega
                      have W22 : τ41.1 22 = σ.1 22 := by first | exact w22_τ41.trans W22 | omega
                      have G6 : τ41.2.1 6 = σ.2.1 6 := (g6_τ41).trans G6
                      have G8 : τ41.2.1 8 = σ.2.1 8 := (g8_τ41).trans G8
                      have G10 : τ41.2.1 10 = σ.2.1 10 := (g10_τ41).trans G10
                      have G11 : τ41.2.1 11 = σ.2.1 11 := (g11_τ41).trans G11
                      have G14 : τ41.2.1 14 = σ.2.1 14 := (g14_τ41).trans G14
                      have y14_22_τ41 : τ41.2.1 14 (τ41.1 22) = (σ.2.1 14) (σ.1 22) := by rw [g14_τ41, w22_τ41]
                      have Y1 : j_l2 (τ41.2.1 6) (τ41.1 3) := by rw [show (j_l2 (τ41.2.1 6) (τ41.1 3)) = (j_l2 (σ.2.1 6) (σ.1 3)) from by rw [w3_τ41, g6_τ41]]; exact Y1
                      have STt : j_l2 (τ41.2.1 6) (τ41.1 3) := by rw [show (j_l2 (τ41.2.1 6) (τ41.1 3)) = (j_l2 (σ.2.1 6) (σ.1 3)) from by rw [w3_τ41, g6_τ41]]; exact STt
                      have A6 : ∀ j, (-1) ≤ τ41.2.1 6 j ∧ τ41.2.1 6 j ≤ 999 := fun j => hT.2 6 j
                      have A8 : ∀ j, 0 ≤ τ41.2.1 8 j ∧ τ41.2.1 8 j ≤ 1 := fun j => hT.2 8 j
                      have A10 : ∀ j, (-1) ≤ τ41.2.1 10 j ∧ τ41.2.1 10 j ≤ 999 := fun j => hT.2 10 j
                      have A11 : ∀ j, (-1) ≤ τ41.2.1 11 j ∧ τ41.2.1 11 j ≤ 1499 := fun j => hT.2 11 j
                      have A12 : ∀ j, 0 ≤ τ41.2.1 12 j ∧ τ41.2.1 12 j ≤ 1 := fun j => hT.2 12 j
                      have A14 : ∀ j, 0 ≤ τ41.2.1 14 j ∧ τ41.2.1 14 j ≤ 30000 := fun j => hT.2 14 j
                      have A15 : ∀ j, 0 ≤ τ41.2.1 15 j ∧ τ41.2.1 15 j ≤ 300 := fun j => hT.2 15 j
                      have A16 : ∀ j, 0 ≤ τ41.2.1 16 j ∧ τ41.2.1 16 j ≤ 999 := fun j => hT.2 16 j
                      have A17 : ∀ j, (-1) ≤ τ41.2.1 17 j ∧ τ41.2.1 17 j ≤ 1499 := fun j => hT.2 17 j
                      have v0 : 0 ≤ τ41.1 0 ∧ τ41.1 0 ≤ 60000 := hT.1 0
                      have v3 : 0 ≤ τ41.1 3 ∧ τ41.1 3 ≤ 1000 := hT.1 3
                      have v4 : 0 ≤ τ41.1 4 ∧ τ41.1 4 ≤ 100 := hT.1 4
                      have v5 : 0 ≤ τ41.1 5 ∧ τ41.1 5 ≤ 1500 := hT.1 5
                      have v6 : 0 ≤ τ41.1 6 ∧ τ41.1 6 ≤ 30000 := hT.1 6
                      have v7 : 0 ≤ τ41.1 7 ∧ τ41.1 7 ≤ 90000 := hT.1 7
                      have v8 : 0 ≤ τ41.1 8 ∧ τ41.1 8 ≤ 20000 := hT.1 8
                      have v9 : 0 ≤ τ41.1 9 ∧ τ41.1 9 ≤ 20000 := hT.1 9
                      have v10 : (-1) ≤ τ41.1 10 ∧ τ41.1 10 ≤ 999 := hT.1 10
                      have v11 : (-1) ≤ τ41.1 11 ∧ τ41.1 11 ≤ 999 := hT.1 11
                      have v17 : 0 ≤ τ41.1 17 ∧ τ41.1 17 ≤ 60000 := hT.1 17
                      have v18 : 0 ≤ τ41.1 18 ∧ τ41.1 18 ≤ 60000 := hT.1 18
                      have v19 : (-1) ≤ τ41.1 19 ∧ τ41.1 19 ≤ 125 := hT.1 19
                      have v20 : 0 ≤ τ41.1 20 ∧ τ41.1 20 ≤ 19 := hT.1 20
                      have v22 : 0 ≤ τ41.1 22 ∧ τ41.1 22 ≤ 1499 := hT.1 22
                      have a14_22 : 0 ≤ τ41.2.1 14 (τ41.1 22) ∧ τ41.2.1 14 (τ41.1 22) ≤ 30000 := hT.2 14 _
                      have a15_22 : 0 ≤ τ41.2.1 15 (τ41.1 22) ∧ τ41.2.1 15 (τ41.1 22) ≤ 300 := hT.2 15 _
                      have av6 : σ.1 6 ≤ τ41.1 6 := ag.1 6 (by decide)
                      have Y20 : ca (τ41.2.1 12) (τ41.1 3) ≤ τ41.1 4 := by rw [g12_τ41, w3_τ41]; omega
                      have Z1 : τ41.2.1 14 (τ41.1 22) + τ41.2.1 15 (τ41.1 22) = τ41.1 6 := by omega
                      exact ⟨hT, (show (τ41.1 20) = 0 → τ41.2.1 15 (τ41.1 22) = 1 from by (first | omega | (simp only [st_s] <;> omega) | assumption | omega | fail)), (show τ41.2.1 15 (τ41.1 22) ≤ 1 from by (first | omega | (simp only [st_s] <;> omega) | assumption | omega | fail)), (show ¬ (σ.1 20) = 0 → (τ41.1 20) = (σ.1 20) from by (first | omega | (simp only [st_s] <;> omega) | assumption | omega | fail)), (show τ41.2.1 14 (τ41.1 22) + τ41.2.1 15 (τ41.1 22) = (τ41.1 6) from Z1), (show ca (τ41.2.1 12) ((τ41.1 3)) ≤ (τ41.1 4) from Y20), ag, (show (τ41.1 20) = 0 → n_N (τ41.2.1 14 (τ41.1 22)) (τ41.2.1 14 (τ41.1 22) + τ41.2.1 15 (τ41.1 22)) (σ.1 3) (σ.2.1 8) (σ.2.1 11) (τ41.2.1 12) (τ41.2.1 16) (τ41.2.1 17) from by (first | (intro z; exfalso; omega) | (intro _; rw [show τ41.2.1 14 (τ41.1 22) = σ.1 6 from by omega, show σ.1 6 + τ41.2.1 15 (τ41.1 22) = σ.1 6 + 1 from by omega]; exact n_N_1 q39_4 q39_5 (by omega) (x3lt (by omega)) (by rw [g12_τ41, st_s]; decide)) | fail)), (show n_rl σ τ41 from by (first | exact n_rl_h hf_τ11 rfl rfl | exact n_rl_h hf_τ20 rfl rfl | exact n_rl_h hf_τ29 rfl rfl | exact n_rl_h hf_τ36 rfl rfl | exact ⟨fun s _ _ _ => by rw [g10_τ41], fun s _ _ h => by (rw [g12_τ41]; by_cases z : s = x3; (rw [z, st_s]; decide); (rw [st_n _ _ z]; exact h)), Or.inl (by omega), Or.inl (by omega), by omega, fun zt s a b => by (rw [g10_τ41]; have h3 := zt s a (by omega); omega)⟩ | fail)), (show ∀ s : Int, ¬ σ.2.1 12 s = 0 → ¬ τ41.2.1 12 s = 0 from by (first | exact fun s h => by (rw [G12]; exact h) | exact fun s h => by (rw [g12_τ41]; by_cases z : s = x3; (rw [z, st_s]; decide); (rw [st_n _ _ z]; exact h)) | (intro s h; first | (rw [hf_τ11.2.1 12 (by decide)]; exact h) | (rw [hf_τ20.2.1 12 (by decide)]; exact h) | (rw [hf_τ29.2.1 12 (by decide)]; exact h) | (rw [hf_τ36.2.1 12 (by decide)]; exact h)) | fail))⟩
                  ·
                    refine ⟨_, K_X13_failHere hT (show 0 ≤ (10 : Int) from by (first | omega | (simp only [st_s] <;> omega) | assumption | omega | fail)) (show (10 : Int) ≤ 19 from by (first | omega | (simp only [st_s] <;> omega) | assumption | omega | fail)), ?_⟩
                    intro τ36 hn_τ36 hf_τ36 hq
                    obtain ⟨hT, q34_1, q34_2⟩ := hq
                    replace q34_1 : ¬ (σ.1 20) = 0 → (τ36.1 20) = (σ.1 20) := q34_1
                    replace q34_2 : (σ.1 20) = 0 → (τ36.1 20) = (10 : Int) := q34_2
                    replace ag : m_ag σ τ36 := ag_r ag hf_τ36 rfl rfl
                    have w0_τ36 : τ36.1 0 = σ.1 0 := hf_τ36.1 0 (by decide)
                    have w3_τ36 : τ36.1 3 = σ.1 3 := hf_τ36.1 3 (by decide)
                    have w4_τ36 : τ36.1 4 = σ.1 4 := hf_τ36.1 4 (by decide)
                    have w5_τ36 : τ36.1 5 = σ.1 5 := hf_τ36.1 5 (by decide)
                    have w6_τ36 : τ36.1 6 = σ.1 6 := hf_τ36.1 6 (by decide)
                    have w7_τ36 : τ36.1 7 = σ.1 7 := hf_τ36.1 7 (by decide)
                    have w8_τ36 : τ36.1 8 = σ.1 8 := hf_τ36.1 8 (by decide)
                    have w9_τ36 : τ36.1 9 = σ.1 9 := hf_τ36.1 9 (by decide)
                    have w10_τ36 : τ36.1 10 = σ.1 10 := hf_τ36.1 10 (by decide)
                    have w11_τ36 : τ36.1 11 = σ.1 11 := hf_τ36.1 11 (by decide)
                    have w17_τ36 : τ36.1 17 = σ.1 17 := hf_τ36.1 17 (by decide)
                    have w18_τ36 : τ36.1 18 = σ.1 18 := hf_τ36.1 18 (by decide)
                    have w19_τ36 : τ36.1 19 = σ.1 19 := hf_τ36.1 19 (by decide)
                    have w22_τ36 : τ36.1 22 = σ.1 22 := hf_τ36.1 22 (by decide)
                    have g6_τ36 : τ36.2.1 6 = σ.2.1 6 := hf_τ36.2.1 6 (by decide)
                    have g8_τ36 : τ36.2.1 8 = σ.2.1 8 := hf_τ36.2.1 8 (by decide)
                    have g10_τ36 : τ36.2.1 10 = σ.2.1 10 := hf_τ36.2.1 10 (by decide)
                    have g11_τ36 : τ36.2.1 11 = σ.2.1 11 := hf_τ36.2.1 11 (by decide)
                    have g12_τ36 : τ36.2.1 12 = σ.2.1 12 := hf_τ36.2.1 12 (by decide)
                    have g14_τ36 : τ36.2.1 14 = σ.2.1 14 := hf_τ36.2.1 14 (by decide)
                    have g15_τ36 : τ36.2.1 15 = σ.2.1 15 := hf_τ36.2.1 15 (by decide)
                    have g16_τ36 : τ36.2.1 16 = σ.2.1 16 := hf_τ36.2.1 16 (by decide)
                    have g17_τ36 : τ36.2.1 17 = σ.2.1 17 := hf_τ36.2.1 17 (by decide)
                    first | (have o6_τ36 := congrArg oc g6_τ36) | skip
                    have W0 : τ36.1 0 = σ.1 0 := by first | exact w0_τ36.trans W0 | omega
                    have W3 : τ36.1 3 = σ.1 3 := by first | exact w3_τ36.trans W3 | omega
                    have W5 : τ36.1 5 = σ.1 5 := by first | exact w5_τ36.trans W5 | omega
                    have W7 : τ36.1 7 = σ.1 7 := by first | exact w7_τ36.trans W7 | omega
                    have W8 : τ36.1 8 = σ.1 8 := by first | exact w8_τ36.trans W8 | omega
                    have W9 : τ36.1 9 = σ.1 9 := by first | exact w9_τ36.trans W9 | omega
                    have W10 : τ36.1 10 = σ.1 10 := by first | exact w10_τ36.trans W10 | omega
                    have W11 : τ36.1 11 = σ.1 11 := by first | exact w11_τ36.trans W11 | omega
                    have W17 : τ36.1 17 = σ.1 17 := by first | exact w17_τ36.trans W17 | omega
                    have W18 : τ36.1 18 = σ.1 18 := by first | exact w18_τ36.trans W18 | omega
                    have W19 : τ36.1 19 = σ.1 19 := by first | exact w19_τ36.trans W19 | omega
                    have W22 : τ36.1 22 = σ.1 22 := by first | exact w22_τ36.trans W22 | omega
                    have G6 : τ36.2.1 6 = σ.2.1 6 := (g6_τ36).trans G6
                    have G8 : τ36.2.1 8 = σ.2.1 8 := (g8_τ36).trans G8
                    have G10 : τ36.2.1 10 = σ.2.1 10 := (g10_τ36).trans G10
                    have G11 : τ36.2.1 11 = σ.2.1 11 := (g11_τ36).trans G11
                    have G14 : τ36.2.1 14 = σ.2.1 14 := (g14_τ36).trans G14
                    have y14_22_τ36 : τ36.2.1 14 (τ36.1 22) = (σ.2.1 14) (σ.1 22) := by rw [g14_τ36, w22_τ36]
                    have y15_22_τ36 : τ36.2.1 15 (τ36.1 22) = (σ.2.1 15) (σ.1 22) := by rw [g15_τ36, w22_τ36]
                    have Z1 : τ36.2.1 14 (τ36.1 22) + τ36.2.1 15 (τ36.1 22) = (τ36.1 6) := by rw [show (τ36.2.1 14 (τ36.1 22) + τ36.2.1 15 (τ36.1 22) = (τ36.1 6)) = (σ.2.1 14 (σ.1 22) + σ.2.1 15 (σ.1 22) = (σ.1 6)) from by rw [w6_τ36, w22_τ36, g14_τ36, g15_τ36]]; exact Z1
                    have Y20 : ca (τ36.2.1 12) ((τ36.1 3)) ≤ (τ36.1 4) := by rw [show (ca (τ36.2.1 12) ((τ36.1 3)) ≤ (τ36.1 4)) = (ca (σ.2.1 12) ((σ.1 3)) ≤ (σ.1 4)) from by rw [w3_τ36, w4_τ36, g12_τ36]]; exact Y20
                    have Y1 : j_l2 (τ36.2.1 6) (τ36.1 3) := by rw [show (j_l2 (τ36.2.1 6) (τ36.1 3)) = (j_l2 (σ.2.1 6) (σ.1 3)) from by rw [w3_τ36, g6_τ36]]; exact Y1
                    have STt : j_l2 (τ36.2.1 6) (τ36.1 3) := by rw [show (j_l2 (τ36.2.1 6) (τ36.1 3)) = (j_l2 (σ.2.1 6) (σ.1 3)) from by rw [w3_τ36, g6_τ36]]; exact STt
                    have A6 : ∀ j, (-1) ≤ τ36.2.1 6 j ∧ τ36.2.1 6 j ≤ 999 := fun j => hT.2 6 j
                    have A8 : ∀ j, 0 ≤ τ36.2.1 8 j ∧ τ36.2.1 8 j ≤ 1 := fun j => hT.2 8 j
                    have A10 : ∀ j, (-1) ≤ τ36.2.1 10 j ∧ τ36.2.1 10 j ≤ 999 := fun j => hT.2 10 j
                    have A11 : ∀ j, (-1) ≤ τ36.2.1 11 j ∧ τ36.2.1 11 j ≤ 1499 := fun j => hT.2 11 j
                    have A12 : ∀ j, 0 ≤ τ36.2.1 12 j ∧ τ36.2.1 12 j ≤ 1 := fun j => hT.2 12 j
                    have A14 : ∀ j, 0 ≤ τ36.2.1 14 j ∧ τ36.2.1 14 j ≤ 30000 := fun j => hT.2 14 j
                    have A15 : ∀ j, 0 ≤ τ36.2.1 15 j ∧ τ36.2.1 15 j ≤ 300 := fun j => hT.2 15 j
                    have A16 : ∀ j, 0 ≤ τ36.2.1 16 j ∧ τ36.2.1 16 j ≤ 999 := fun j => hT.2 16 j
                    have A17 : ∀ j, (-1) ≤ τ36.2.1 17 j ∧ τ36.2.1 17 j ≤ 1499 := fun j => hT.2 17 j
                    have v0 : 0 ≤ τ36.1 0 ∧ τ36.1 0 ≤ 60000 := hT.1 0
                    have v3 : 0 ≤ τ36.1 3 ∧ τ36.1 3 ≤ 1000 := hT.1 3
                    have v4 : 0 ≤ τ36.1 4 ∧ τ36.1 4 ≤ 100 := hT.1 4
                    have v5 : 0 ≤ τ36.1 5 ∧ τ36.1 5 ≤ 1500 := hT.1 5
                    have v6 : 0 ≤ τ36.1 6 ∧ τ36.1 6 ≤ 30000 := hT.1 6
                    have v7 : 0 ≤ τ36.1 7 ∧ τ36.1 7 ≤ 90000 := hT.1 7
                    have v8 : 0 ≤ τ36.1 8 ∧ τ36.1 8 ≤ 20000 := hT.1 8
                    have v9 : 0 ≤ τ36.1 9 ∧ τ36.1 9 ≤ 20000 := hT.1 9
                    have v10 : (-1) ≤ τ36.1 10 ∧ τ36.1 10 ≤ 999 := hT.1 10
                    have v11 : (-1) ≤ τ36.1 11 ∧ τ36.1 11 ≤ 999 := hT.1 11
                    have v17 : 0 ≤ τ36.1 17 ∧ τ36.1 17 ≤ 60000 := hT.1 17
                    have v18 : 0 ≤ τ36.1 18 ∧ τ36.1 18 ≤ 60000 := hT.1 18
                    have v19 : (-1) ≤ τ36.1 19 ∧ τ36.1 19 ≤ 125 := hT.1 19
                    have v20 : 0 ≤ τ36.1 20 ∧ τ36.1 20 ≤ 19 := hT.1 20
                    have v22 : 0 ≤ τ36.1 22 ∧ τ36.1 22 ≤ 1499 := hT.1 22
                    have a14_22 : 0 ≤ τ36.2.1 14 (τ36.1 22) ∧ τ36.2.1 14 (τ36.1 22) ≤ 30000 := hT.2 14 _
                    have a15_22 : 0 ≤ τ36.2.1 15 (τ36.1 22) ∧ τ36.2.1 15 (τ36.1 22) ≤ 300 := hT.2 15 _
                    have av6 : σ.1 6 ≤ τ36.1 6 := ag.1 6 (by decide)
                    exact ⟨hT, (show (τ36.1 20) = 0 → τ36.2.1 15 (τ36.1 22) = 1 from by (first | omega | (simp only [st_s] <;> omega) | assumption | omega | fail)), (show τ36.2.1 15 (τ36.1 22) ≤ 1 from by (first | omega | (simp only [st_s] <;> omega) | assumption | omega | fail)), (show ¬ (σ.1 20) = 0 → (τ36.1 20) = (σ.1 20) from by (first | omega | (simp only [st_s] <;> omega) | assumption | omega | fail)), (show τ36.2.1 14 (τ36.1 22) + τ36.2.1 15 (τ36.1 22) = (τ36.1 6) from Z1), (show ca (τ36.2.1 12) ((τ36.1 3)) ≤ (τ36.1 4) from Y20), ag, (show (τ36.1 20) = 0 → n_N (τ36.2.1 14 (τ36.1 22)) (τ36.2.1 14 (τ36.1 22) + τ36.2.1 15 (τ36.1 22)) (σ.1 3) (σ.2.1 8) (σ.2.1 11) (τ36.2.1 12) (τ36.2.1 16) (τ36.2.1 17) from by (first | (intro z; exfalso; omega) | (intro _; rw [show τ41.2.1 14 (τ41.1 22) = σ.1 6 from by omega, show σ.1 6 + τ41.2.1 15 (τ41.1 22) = σ.1 6 + 1 from by omega]; exact n_N_1 q39_4 q39_5 (by omega) (x3lt (by omega)) (by rw [g12_τ41, st_s]; decide)) | fail)), (show n_rl σ τ36 from by (first | exact n_rl_h hf_τ11 rfl rfl | exact n_rl_h hf_τ20 rfl rfl | exact n_rl_h hf_τ29 rfl rfl | exact n_rl_h hf_τ36 rfl rfl | exact ⟨fun s _ _ _ => by rw [g10_τ41], fun s _ _ h => by (rw [g12_τ41]; by_cases z : s = x3; (rw [z, st_s]; decide); (rw [st_n _ _ z]; exact h)), Or.inl (by omega), Or.inl (by omega), by omega, fun zt s a b => by (rw [g10_τ41]; have h3 := zt s a (by omega); omega)⟩ | fail)), (show ∀ s : Int, ¬ σ.2.1 12 s = 0 → ¬ τ36.2.1 12 s = 0 from by (first | exact fun s h => by (rw [G12]; exact h) | exact fun s h => by (rw [g12_τ41]; by_cases z : s = x3; (rw [z, st_s]; decide); (rw [st_n _ _ z]; exact h)) | (intro s h; first | (rw [hf_τ11.2.1 12 (by decide)]; exact h) | (rw [hf_τ20.2.1 12 (by decide)]; exact h) | (rw [hf_τ29.2.1 12 (by decide)]; exact h) | (rw [hf_τ36.2.1 12 (by decide)]; exact h)) | fail))⟩
                ·
                  refine h102 _ ?_
                  refine ⟨_, K_X13_failHere hT (show 0 ≤ (9 : Int) from by (first | omega | (simp only [st_s] <;> omega) | assumption | omega | fail)) (show (9 : Int) ≤ 19 from by (first | omega | (simp only [st_s] <;> omega) | assumption | omega | fail)), ?_⟩
                  intro τ29 hn_τ29 hf_τ29 hq
                  obtain ⟨hT, q27_1, q27_2⟩ := hq
                  replace q27_1 : ¬ (σ.1 20) = 0 → (τ29.1 20) = (σ.1 20) := q27_1
                  replace q27_2 : (σ.1 20) = 0 → (τ29.1 20) = (9 : Int) := q27_2
                  replace ag : m_ag σ τ29 := ag_r ag hf_τ29 rfl rfl
                  have w0_τ29 : τ29.1 0 = σ.1 0 := hf_τ29.1 0 (by decide)
                  have w3_τ29 : τ29.1 3 = σ.1 3 := hf_τ29.1 3 (by decide)
                  have w4_τ29 : τ29.1 4 = σ.1 4 := hf_τ29.1 4 (by decide)
                  have w5_τ29 : τ29.1 5 = σ.1 5 := hf_τ29.1 5 (by decide)
                  have w6_τ29 : τ29.1 6 = σ.1 6 := hf_τ29.1 6 (by decide)
                  have w7_τ29 : τ29.1 7 = σ.1 7 := hf_τ29.1 7 (by decide)
                  have w8_τ29 : τ29.1 8 = σ.1 8 := hf_τ29.1 8 (by decide)
                  have w9_τ29 : τ29.1 9 = σ.1 9 := hf_τ29.1 9 (by decide)
                  have w10_τ29 : τ29.1 10 = σ.1 10 := hf_τ29.1 10 (by decide)
                  have w11_τ29 : τ29.1 11 = σ.1 11 := hf_τ29.1 11 (by decide)
                  have w17_τ29 : τ29.1 17 = σ.1 17 := hf_τ29.1 17 (by decide)
                  have w18_τ29 : τ29.1 18 = σ.1 18 := hf_τ29.1 18 (by decide)
                  have w19_τ29 : τ29.1 19 = σ.1 19 := hf_τ29.1 19 (by decide)
                  have w22_τ29 : τ29.1 22 = σ.1 22 := hf_τ29.1 22 (by decide)
                  have g6_τ29 : τ29.2.1 6 = σ.2.1 6 := hf_τ29.2.1 6 (by decide)
                  have g8_τ29 : τ29.2.1 8 = σ.2.1 8 := hf_τ29.2.1 8 (by decide)
                  have g10_τ29 : τ29.2.1 10 = σ.2.1 10 := hf_τ29.2.1 10 (by decide)
                  have g11_τ29 : τ29.2.1 11 = σ.2.1 11 := hf_τ29.2.1 11 (by decide)
                  have g12_τ29 : τ29.2.1 12 = σ.2.1 12 := hf_τ29.2.1 12 (by decide)
                  have g14_τ29 : τ29.2.1 14 = σ.2.1 14 := hf_τ29.2.1 14 (by decide)
                  have g15_τ29 : τ29.2.1 15 = σ.2.1 15 := hf_τ29.2.1 15 (by decide)
                  have g16_τ29 : τ29.2.1 16 = σ.2.1 16 := hf_τ29.2.1 16 (by decide)
                  have g17_τ29 : τ29.2.1 17 = σ.2.1 17 := hf_τ29.2.1 17 (by decide)
                  first | (have o6_τ29 := congrArg oc g6_τ29) | skip
                  have W0 : τ29.1 0 = σ.1 0 := by first | exact w0_τ29.trans W0 | omega
                  have W3 : τ29.1 3 = σ.1 3 := by first | exact w3_τ29.trans W3 | omega
                  have W5 : τ29.1 5 = σ.1 5 := by first | exact w5_τ29.trans W5 | omega
                  have W7 : τ29.1 7 = σ.1 7 := by first | exact w7_τ29.trans W7 | omega
                  have W8 : τ29.1 8 = σ.1 8 := by first | exact w8_τ29.trans W8 | omega
                  have W9 : τ29.1 9 = σ.1 9 := by first | exact w9_τ29.trans W9 | omega
                  have W10 : τ29.1 10 = σ.1 10 := by first | exact w10_τ29.trans W10 | omega
                  have W11 : τ29.1 11 = σ.1 11 := by first | exact w11_τ29.trans W11 | omega
                  have W17 : τ29.1 17 = σ.1 17 := by first | exact w17_τ29.trans W17 | omega
                  have W18 : τ29.1 18 = σ.1 18 := by first | exact w18_τ29.trans W18 | omega
                  have W19 : τ29.1 19 = σ.1 19 := by first | exact w19_τ29.trans W19 | omega
                  have W22 : τ29.1 22 = σ.1 22 := by first | exact w22_τ29.trans W22 | omega
                  have G6 : τ29.2.1 6 = σ.2.1 6 := (g6_τ29).trans G6
                  have G8 : τ29.2.1 8 = σ.2.1 8 := (g8_τ29).trans G8
                  have G10 : τ29.2.1 10 = σ.2.1 10 := (g10_τ29).trans G10
                  have G11 : τ29.2.1 11 = σ.2.1 11 := (g11_τ29).trans G11
                  have G14 : τ29.2.1 14 = σ.2.1 14 := (g14_τ29).trans G14
                  have y14_22_τ29 : τ29.2.1 14 (τ29.1 22) = (σ.2.1 14) (σ.1 22) := by rw [g14_τ29, w22_τ29]
                  have y15_22_τ29 : τ29.2.1 15 (τ29.1 22) = (σ.2.1 15) (σ.1 22) := by rw [g15_τ29, w22_τ29]
                  have Z1 : τ29.2.1 14 (τ29.1 22) + τ29.2.1 15 (τ29.1 22) = (τ29.1 6) := by rw [show (τ29.2.1 14 (τ29.1 22) + τ29.2.1 15 (τ29.1 22) = (τ29.1 6)) = (σ.2.1 14 (σ.1 22) + σ.2.1 15 (σ.1 22) = (σ.1 6)) from by rw [w6_τ29, w22_τ29, g14_τ29, g15_τ29]]; exact Z1
                  have Y20 : ca (τ29.2.1 12) ((τ29.1 3)) ≤ (τ29.1 4) := by rw [show (ca (τ29.2.1 12) ((τ29.1 3)) ≤ (τ29.1 4)) = (ca (σ.2.1 12) ((σ.1 3)) ≤ (σ.1 4)) from by rw [w3_τ29, w4_τ29, g12_τ29]]; exact Y20
                  have Y1 : j_l2 (τ29.2.1 6) (τ29.1 3) := by rw [show (j_l2 (τ29.2.1 6) (τ29.1 3)) = (j_l2 (σ.2.1 6) (σ.1 3)) from by rw [w3_τ29, g6_τ29]]; exact Y1
                  have STt : j_l2 (τ29.2.1 6) (τ29.1 3) := by rw [show (j_l2 (τ29.2.1 6) (τ29.1 3)) = (j_l2 (σ.2.1 6) (σ.1 3)) from by rw [w3_τ29, g6_τ29]]; exact STt
                  have A6 : ∀ j, (-1) ≤ τ29.2.1 6 j ∧ τ29.2.1 6 j ≤ 999 := fun j => hT.2 6 j
                  have A8 : ∀ j, 0 ≤ τ29.2.1 8 j ∧ τ29.2.1 8 j ≤ 1 := fun j => hT.2 8 j
                  have A10 : ∀ j, (-1) ≤ τ29.2.1 10 j ∧ τ29.2.1 10 j ≤ 999 := fun j => hT.2 10 j
                  have A11 : ∀ j, (-1) ≤ τ29.2.1 11 j ∧ τ29.2.1 11 j ≤ 1499 := fun j => hT.2 11 j
                  have A12 : ∀ j, 0 ≤ τ29.2.1 12 j ∧ τ29.2.1 12 j ≤ 1 := fun j => hT.2 12 j
                  have A14 : ∀ j, 0 ≤ τ29.2.1 14 j ∧ τ29.2.1 14 j ≤ 30000 := fun j => hT.2 14 j
                  have A15 : ∀ j, 0 ≤ τ29.2.1 15 j ∧ τ29.2.1 15 j ≤ 300 := fun j => hT.2 15 j
                  have A16 : ∀ j, 0 ≤ τ29.2.1 16 j ∧ τ29.2.1 16 j ≤ 999 := fun j => hT.2 16 j
                  have A17 : ∀ j, (-1) ≤ τ29.2.1 17 j ∧ τ29.2.1 17 j ≤ 1499 := fun j => hT.2 17 j
                  have v0 : 0 ≤ τ29.1 0 ∧ τ29.1 0 ≤ 60000 := hT.1 0
                  have v3 : 0 ≤ τ29.1 3 ∧ τ29.1 3 ≤ 1000 := hT.1 3
                  have v4 : 0 ≤ τ29.1 4 ∧ τ29.1 4 ≤ 100 := hT.1 4
                  have v5 : 0 ≤ τ29.1 5 ∧ τ29.1 5 ≤ 1500 := hT.1 5
                  have v6 : 0 ≤ τ29.1 6 ∧ τ29.1 6 ≤ 30000 := hT.1 6
                  have v7 : 0 ≤ τ29.1 7 ∧ τ29.1 7 ≤ 90000 := hT.1 7
                  have v8 : 0 ≤ τ29.1 8 ∧ τ29.1 8 ≤ 20000 := hT.1 8
                  have v9 : 0 ≤ τ29.1 9 ∧ τ29.1 9 ≤ 20000 := hT.1 9
                  have v10 : (-1) ≤ τ29.1 10 ∧ τ29.1 10 ≤ 999 := hT.1 10
                  have v11 : (-1) ≤ τ29.1 11 ∧ τ29.1 11 ≤ 999 := hT.1 11
                  have v17 : 0 ≤ τ29.1 17 ∧ τ29.1 17 ≤ 60000 := hT.1 17
                  have v18 : 0 ≤ τ29.1 18 ∧ τ29.1 18 ≤ 60000 := hT.1 18
                  have v19 : (-1) ≤ τ29.1 19 ∧ τ29.1 19 ≤ 125 := hT.1 19
                  have v20 : 0 ≤ τ29.1 20 ∧ τ29.1 20 ≤ 19 := hT.1 20
                  have v22 : 0 ≤ τ29.1 22 ∧ τ29.1 22 ≤ 1499 := hT.1 22
                  have a14_22 : 0 ≤ τ29.2.1 14 (τ29.1 22) ∧ τ29.2.1 14 (τ29.1 22) ≤ 30000 := hT.2 14 _
                  have a15_22 : 0 ≤ τ29.2.1 15 (τ29.1 22) ∧ τ29.2.1 15 (τ29.1 22) ≤ 300 := hT.2 15 _
                  have av6 : σ.1 6 ≤ τ29.1 6 := ag.1 6 (by decide)
                  exact ⟨hT, (show (τ29.1 20) = 0 → τ29.2.1 15 (τ29.1 22) = 1 from by (first | omega | (simp only [st_s] <;> omega) | assumption | omega | fail)), (show τ29.2.1 15 (τ29.1 22) ≤ 1 from by (first | omega | (simp only [st_s] <;> omega) | assumption | omega | fail)), (show ¬ (σ.1 20) = 0 → (τ29.1 20) = (σ.1 20) from by (first | omega | (simp only [st_s] <;> omega) | assumption | omega | fail)), (show τ29.2.1 14 (τ29.1 22) + τ29.2.1 15 (τ29.1 22) = (τ29.1 6) from Z1), (show ca (τ29.2.1 12) ((τ29.1 3)) ≤ (τ29.1 4) from Y20), ag, (show (τ29.1 20) = 0 → n_N (τ29.2.1 14 (τ29.1 22)) (τ29.2.1 14 (τ29.1 22) + τ29.2.1 15 (τ29.1 22)) (σ.1 3) (σ.2.1 8) (σ.2.1 11) (τ29.2.1 12) (τ29.2.1 16) (τ29.2.1 17) from by (first | (intro z; exfalso; omega) | (intro _; rw [show τ41.2.1 14 (τ41.1 22) = σ.1 6 from by omega, show σ.1 6 + τ41.2.1 15 (τ41.1 22) = σ.1 6 + 1 from by omega]; exact n_N_1 q39_4 q39_5 (by omega) (x3lt (by omega)) (by rw [g12_τ41, st_s]; decide)) | fail)), (show n_rl σ τ29 from by (first | exact n_rl_h hf_τ11 rfl rfl | exact n_rl_h hf_τ20 rfl rfl | exact n_rl_h hf_τ29 rfl rfl | exact n_rl_h hf_τ36 rfl rfl | exact ⟨fun s _ _ _ => by rw [g10_τ41], fun s _ _ h => by (rw [g12_τ41]; by_cases z : s = x3; (rw [z, st_s]; decide); (rw [st_n _ _ z]; exact h)), Or.inl (by omega), Or.inl (by omega), by omega, fun zt s a b => by (rw [g10_τ41]; have h3 := zt s a (by omega); omega)⟩ | fail)), (show ∀ s : Int, ¬ σ.2.1 12 s = 0 → ¬ τ29.2.1 12 s = 0 from by (first | exact fun s h => by (rw [G12]; exact h) | exact fun s h => by (rw [g12_τ41]; by_cases z : s = x3; (rw [z, st_s]; decide); (rw [st_n _ _ z]; exact h)) | (intro s h; first | (rw [hf_τ11.2.1 12 (by decide)]; exact h) | (rw [hf_τ20.2.1 12 (by decide)]; exact h) | (rw [hf_τ29.2.1 12 (by decide)]; exact h) | (rw [hf_τ36.2.1 12 (by decide)]; exact h)) | fail))⟩
          ·
            refine ⟨fun c17 => ?_, fun c17 => ?_⟩
            ·
              refine h79 _ _ _ ?_
              refine ⟨fun c21 => ?_, fun c21 => ?_⟩
              ·
                refine h102 _ ?_
                refine ⟨_, K_X13_failHere hT (show 0 ≤ (9 : Int) from by (first | omega | (simp only [st_s] <;> omega) | assumption | omega | fail)) (show (9 : Int) ≤ 19 from by (first | omega | (simp only [st_s] <;> omega) | assumption | omega | fail)), ?_⟩
                intro τ29 hn_τ29 hf_τ29 hq
                obtain ⟨hT, q27_1, q27_2⟩ := hq
                replace q27_1 : ¬ (σ.1 20) = 0 → (τ29.1 20) = (σ.1 20) := q27_1
                replace q27_2 : (σ.1 20) = 0 → (τ29.1 20) = (9 : Int) := q27_2
                replace ag : m_ag σ τ29 := ag_r ag hf_τ29 rfl rfl
                have w0_τ29 : τ29.1 0 = σ.1 0 := hf_τ29.1 0 (by decide)
                have w3_τ29 : τ29.1 3 = σ.1 3 := hf_τ29.1 3 (by decide)
                have w4_τ29 : τ29.1 4 = σ.1 4 := hf_τ29.1 4 (by decide)
                have w5_τ29 : τ29.1 5 = σ.1 5 := hf_τ29.1 5 (by decide)
                have w6_τ29 : τ29.1 6 = σ.1 6 := hf_τ29.1 6 (by decide)
                have w7_τ29 : τ29.1 7 = σ.1 7 := hf_τ29.1 7 (by decide)
                have w8_τ29 : τ29.1 8 = σ.1 8 := hf_τ29.1 8 (by decide)
                have w9_τ29 : τ29.1 9 = σ.1 9 := hf_τ29.1 9 (by decide)
                have w10_τ29 : τ29.1 10 = σ.1 10 := hf_τ29.1 10 (by decide)
                have w11_τ29 : τ29.1 11 = σ.1 11 := hf_τ29.1 11 (by decide)
                have w17_τ29 : τ29.1 17 = σ.1 17 := hf_τ29.1 17 (by decide)
                have w18_τ29 : τ29.1 18 = σ.1 18 := hf_τ29.1 18 (by decide)
                have w19_τ29 : τ29.1 19 = σ.1 19 := hf_τ29.1 19 (by decide)
                have w22_τ29 : τ29.1 22 = σ.1 22 := hf_τ29.1 22 (by decide)
                have g6_τ29 : τ29.2.1 6 = σ.2.1 6 := hf_τ29.2.1 6 (by decide)
                have g8_τ29 : τ29.2.1 8 = σ.2.1 8 := hf_τ29.2.1 8 (by decide)
                have g10_τ29 : τ29.2.1 10 = σ.2.1 10 := hf_τ29.2.1 10 (by decide)
                have g11_τ29 : τ29.2.1 11 = σ.2.1 11 := hf_τ29.2.1 11 (by decide)
                have g12_τ29 : τ29.2.1 12 = σ.2.1 12 := hf_τ29.2.1 12 (by decide)
                have g14_τ29 : τ29.2.1 14 = σ.2.1 14 := hf_τ29.2.1 14 (by decide)
                have g15_τ29 : τ29.2.1 15 = σ.2.1 15 := hf_τ29.2.1 15 (by decide)
                have g16_τ29 : τ29.2.1 16 = σ.2.1 16 := hf_τ29.2.1 16 (by decide)
                have g17_τ29 : τ29.2.1 17 = σ.2.1 17 := hf_τ29.2.1 17 (by decide)
                first | (have o6_τ29 := congrArg oc g6_τ29) | skip
                have W0 : τ29.1 0 = σ.1 0 := by first | exact w0_τ29.trans W0 | omega
                have W3 : τ29.1 3 = σ.1 3 := by first | exact w3_τ29.trans W3 | omega
                have W5 : τ29.1 5 = σ.1 5 := by first | exact w5_τ29.trans W5 | omega
                have W7 : τ29.1 7 = σ.1 7 := by first | exact w7_τ29.trans W7 | omega
                have W8 : τ29.1 8 = σ.1 8 := by first | exact w8_τ29.trans W8 | omega
                have W9 : τ29.1 9 = σ.1 9 := by first | exact w9_τ29.trans W9 | omega
                have W10 : τ29.1 10 = σ.1 10 := by first | exact w10_τ29.trans W10 | omega
                have W11 : τ29.1 11 = σ.1 11 := by first | exact w11_τ29.trans W11 | omega
                have W17 : τ29.1 17 = σ.1 17 := by first | exact w17_τ29.trans W17 | omega
                have W18 : τ29.1 18 = σ.1 18 := by first | exact w18_τ29.trans W18 | omega
                have W19 : τ29.1 19 = σ.1 19 := by first | exact w19_τ29.trans W19 | omega
                have W22 : τ29.1 22 = σ.1 22 := by first | exact w22_τ29.trans W22 | omega
                have G6 : τ29.2.1 6 = σ.2.1 6 := (g6_τ29).trans G6
                have G8 : τ29.2.1 8 = σ.2.1 8 := (g8_τ29).trans G8
                have G10 : τ29.2.1 10 = σ.2.1 10 := (g10_τ29).trans G10
                have G11 : τ29.2.1 11 = σ.2.1 11 := (g11_τ29).trans G11
                have G14 : τ29.2.1 14 = σ.2.1 14 := (g14_τ29).trans G14
                have y14_22_τ29 : τ29.2.1 14 (τ29.1 22) = (σ.2.1 14) (σ.1 22) := by rw [g14_τ29, w22_τ29]
                have y15_22_τ29 : τ29.2.1 15 (τ29.1 22) = (σ.2.1 15) (σ.1 22) := by rw [g15_τ29, w22_τ29]
                have Z1 : τ29.2.1 14 (τ29.1 22) + τ29.2.1 15 (τ29.1 22) = (τ29.1 6) := by rw [show (τ29.2.1 14 (τ29.1 22) + τ29.2.1 15 (τ29.1 22) = (τ29.1 6)) = (σ.2.1 14 (σ.1 22) + σ.2.1 15 (σ.1 22) = (σ.1 6)) from by rw [w6_τ29, w22_τ29, g14_τ29, g15_τ29]]; exact Z1
                have Y20 : ca (τ29.2.1 12) ((τ29.1 3)) ≤ (τ29.1 4) := by rw [show (ca (τ29.2.1 12) ((τ29.1 3)) ≤ (τ29.1 4)) = (ca (σ.2.1 12) ((σ.1 3)) ≤ (σ.1 4)) from by rw [w3_τ29, w4_τ29, g12_τ29]]; exact Y20
                have Y1 : j_l2 (τ29.2.1 6) (τ29.1 3) := by rw [show (j_l2 (τ29.2.1 6) (τ29.1 3)) = (j_l2 (σ.2.1 6) (σ.1 3)) from by rw [w3_τ29, g6_τ29]]; exact Y1
                have STt : j_l2 (τ29.2.1 6) (τ29.1 3) := by rw [show (j_l2 (τ29.2.1 6) (τ29.1 3)) = (j_l2 (σ.2.1 6) (σ.1 3)) from by rw [w3_τ29, g6_τ29]]; exact STt
                have A6 : ∀ j, (-1) ≤ τ29.2.1 6 j ∧ τ29.2.1 6 j ≤ 999 := fun j => hT.2 6 j
                have A8 : ∀ j, 0 ≤ τ29.2.1 8 j ∧ τ29.2.1 8 j ≤ 1 := fun j => hT.2 8 j
                have A10 : ∀ j, (-1) ≤ τ29.2.1 10 j ∧ τ29.2.1 10 j ≤ 999 := fun j => hT.2 10 j
                have A11 : ∀ j, (-1) ≤ τ29.2.1 11 j ∧ τ29.2.1 11 j ≤ 1499 := fun j => hT.2 11 j
                have A12 : ∀ j, 0 ≤ τ29.2.1 12 j ∧ τ29.2.1 12 j ≤ 1 := fun j => hT.2 12 j
                have A14 : ∀ j, 0 ≤ τ29.2.1 14 j ∧ τ29.2.1 14 j ≤ 30000 := fun j => hT.2 14 j
                have A15 : ∀ j, 0 ≤ τ29.2.1 15 j ∧ τ29.2.1 15 j ≤ 300 := fun j => hT.2 15 j
                have A16 : ∀ j, 0 ≤ τ29.2.1 16 j ∧ τ29.2.1 16 j ≤ 999 := fun j => hT.2 16 j
                have A17 : ∀ j, (-1) ≤ τ29.2.1 17 j ∧ τ29.2.1 17 j ≤ 1499 := fun j => hT.2 17 j
                have v0 : 0 ≤ τ29.1 0 ∧ τ29.1 0 ≤ 60000 := hT.1 0
                have v3 : 0 ≤ τ29.1 3 ∧ τ29.1 3 ≤ 1000 := hT.1 3
                have v4 : 0 ≤ τ29.1 4 ∧ τ29.1 4 ≤ 100 := hT.1 4
                have v5 : 0 ≤ τ29.1 5 ∧ τ29.1 5 ≤ 1500 := hT.1 5
                have v6 : 0 ≤ τ29.1 6 ∧ τ29.1 6 ≤ 30000 := hT.1 6
                have v7 : 0 ≤ τ29.1 7 ∧ τ29.1 7 ≤ 90000 := hT.1 7
                have v8 : 0 ≤ τ29.1 8 ∧ τ29.1 8 ≤ 20000 := hT.1 8
                have v9 : 0 ≤ τ29.1 9 ∧ τ29.1 9 ≤ 20000 := hT.1 9
                have v10 : (-1) ≤ τ29.1 10 ∧ τ29.1 10 ≤ 999 := hT.1 10
                have v11 : (-1) ≤ τ29.1 11 ∧ τ29.1 11 ≤ 999 := hT.1 11
                have v17 : 0 ≤ τ29.1 17 ∧ τ29.1 17 ≤ 60000 := hT.1 17
                have v18 : 0 ≤ τ29.1 18 ∧ τ29.1 18 ≤ 60000 := hT.1 18
                have v19 : (-1) ≤ τ29.1 19 ∧ τ29.1 19 ≤ 125 := hT.1 19
                have v20 : 0 ≤ τ29.1 20 ∧ τ29.1 20 ≤ 19 := hT.1 20
                have v22 : 0 ≤ τ29.1 22 ∧ τ29.1 22 ≤ 1499 := hT.1 22
                have a14_22 : 0 ≤ τ29.2.1 14 (τ29.1 22) ∧ τ29.2.1 14 (τ29.1 22) ≤ 30000 := hT.2 14 _
                have a15_22 : 0 ≤ τ29.2.1 15 (τ29.1 22) ∧ τ29.2.1 15 (τ29.1 22) ≤ 300 := hT.2 15 _
                have av6 : σ.1 6 ≤ τ29.1 6 := ag.1 6 (by decide)
                exact ⟨hT, (show (τ29.1 20) = 0 → τ29.2.1 15 (τ29.1 22) = 1 from by (first | omega | (simp only [st_s] <;> omega) | assumption | omega | fail)), (show τ29.2.1 15 (τ29.1 22) ≤ 1 from by (first | omega | (simp only [st_s] <;> omega) | assumption | omega | fail)), (show ¬ (σ.1 20) = 0 → (τ29.1 20) = (σ.1 20) from by (first | omega | (simp only [st_s] <;> omega) | assumption | omega | fail)), (show τ29.2.1 14 (τ29.1 22) + τ29.2.1 15 (τ29.1 22) = (τ29.1 6) from Z1), (show ca (τ29.2.1 12) ((τ29.1 3)) ≤ (τ29.1 4) from Y20), ag, (show (τ29.1 20) = 0 → n_N (τ29.2.1 14 (τ29.1 22)) (τ29.2.1 14 (τ29.1 22) + τ29.2.1 15 (τ29.1 22)) (σ.1 3) (σ.2.1 8) (σ.2.1 11) (τ29.2.1 12) (τ29.2.1 16) (τ29.2.1 17) from by (first | (intro z; exfalso; omega) | (intro _; rw [show τ41.2.1 14 (τ41.1 22) = σ.1 6 from by omega, show σ.1 6 + τ41.2.1 15 (τ41.1 22) = σ.1 6 + 1 from by omega]; exact n_N_1 q39_4 q39_5 (by omega) (x3lt (by omega)) (by rw [g12_τ41, st_s]; decide)) | fail)), (show n_rl σ τ29 from by (first | exact n_rl_h hf_τ11 rfl rfl | exact n_rl_h hf_τ20 rfl rfl | exact n_rl_h hf_τ29 rfl rfl | exact n_rl_h hf_τ36 rfl rfl | exact ⟨fun s _ _ _ => by rw [g10_τ41], fun s _ _ h => by (rw [g12_τ41]; by_cases z : s = x3; (rw [z, st_s]; decide); (rw [st_n _ _ z]; exact h)), Or.inl (by omega), Or.inl (by omega), by omega, fun zt s a b => by (rw [g10_τ41]; have h3 := zt s a (by omega); omega)⟩ | fail)), (show ∀ s : Int, ¬ σ.2.1 12 s = 0 → ¬ τ29.2.1 12 s = 0 from by (first | exact fun s h => by (rw [G12]; exact h) | exact fun s h => by (rw [g12_τ41]; by_cases z : s = x3; (rw [z, st_s]; decide); (rw [st_n _ _ z]; exact h)) | (intro s h; first | (rw [hf_τ11.2.1 12 (by decide)]; exact h) | (rw [hf_τ20.2.1 12 (by decide)]; exact h) | (rw [hf_τ29.2.1 12 (by decide)]; exact h) | (rw [hf_τ36.2.1 12 (by decide)]; exact h)) | fail))⟩
              ·
                refine ⟨(show 0 ≤ x3 ∧ x3 < 1001 from by (first | omega | (simp only [st_s] <;> omega) | assumption | omega | fail)), ?_⟩
                intro x23 r_x23 e_x23
                have b_x23 : 0 ≤ x23 ∧ x23 ≤ 1 := by rw [e_x23]; exact hT.2 8 _
                refine ⟨fun c24 => ?_, fun c24 => ?_⟩
                ·
                  refine h111 _ _ _ ?_
                  refine ⟨fun c30 => ?_, fun c30 => ?_⟩
                  ·
                    refine ⟨(show 0 ≤ x3 ∧ x3 < 1001 from by (first | omega | (simp only [st_s] <;> omega) | assumption | omega | fail)), ?_⟩
                    intro x32 r_x32 e_x32
                    have b_x32 : 0 ≤ x32 ∧ x32 ≤ 1 := by rw [e_x32]; exact hT.2 12 _
                    refine ⟨fun c33 => ?_, fun c33 => ?_⟩
                    ·
                      refine h143 _ _ _ _ ?_
                      refine ⟨(⟨by (first | omega | (simp only [st_s] <;> omega) | assumption | omega | fail), by (first | omega | (simp only [st_s] <;> omega) | assumption | omega | fail)⟩ : rg ((σ.1 4) + 1)), ?_⟩
                      replace ag := ag_v (i := 4) (x := ((σ.1 4) + 1)) ag (Or.inl rfl)
                      replace hT := mT_v (i := 4) hT (show 0 ≤ ((σ.1 4) + 1) ∧ ((σ.1 4) + 1) ≤ 100 from by (first | omega | (simp only [st_s] <;> omega) | assumption | omega | fail))
                      have ct0 := ca_t0 (σ.2.1 12) x3 ((σ.1 3)) 1 (by omega) (by omega)
                      have ct2 := ca_t2 (σ.2.1 12) (e := x3) ((σ.1 3)) 1 (by omega) (by omega)
                      refine ⟨(show 0 ≤ x3 ∧ x3 < 1001 from by (first | omega | (simp only [st_s] <;> omega) | assumption | omega | fail)), ?_⟩
                      replace ag := ag_a (k := 12) (e := x3) (x := 1) ag rfl
                      replace hT := mT_a (k := 12) (j := x3) hT (show (0 : Int) ≤ 1 ∧ 1 ≤ 1 from by (first | omega | (simp only [st_s] <;> omega) | assumption | omega | fail))
                      have y14q : σ.2.1 14 (σ.1 22) = σ.1 6 := by omega
                      refine ⟨_, K3_X13_addSymbol hT (show 0 ≤ x3 from by (first | omega | (simp only [st_s] <;> omega) | assumption | omega | fail)) (show x3 < 1000 from by (first | omega | (simp only [st_s] <;> omega) | assumption | omega | fail)) (show -1 ≤ (-1 : Int) from by (first | omega | (simp only [st_s] <;> omega) | assumption | omega | fail)) (show (-1 : Int) ≤ 1499 from by (first | omega | (simp only [st_s] <;> omega) | assumption | omega | fail)) (show (σ.1 6) < 30000 from by (first | omega | (simp only [st_s] <;> omega) | assumption | omega | fail)) (show σ.2.1 15 (σ.1 22) < 300 from by (first | omega | (simp only [st_s] <;> omega) | assumption | omega | fail)) (show (σ.1 22) = (σ.1 5) from by (first | omega | (simp only [st_s] <;> omega) | assumption | omega | fail)), ?_⟩
                      intro τ41 hn_τ41 hf_τ41 hq
                      obtain ⟨hT, q39_1, q39_2, q39_3, q39_4, q39_5⟩ := hq
                      replace q39_1 : (τ41.1 6) = (σ.1 6) + 1 := q39_1
                      replace q39_2 : τ41.2.1 15 (τ41.1 22) = σ.2.1 15 (σ.1 22) + 1 := q39_2
                      replace q39_3 : m_ag (s_a (s_v σ 4 ((σ.1 4) + 1)) 12 x3 1) τ41 := q39_3
                      replace q39_4 : τ41.2.1 16 = st (σ.2.1 16) (σ.1 6) x3 := q39_4
                      replace q39_5 : τ41.2.1 17 = st (σ.2.1 17) (σ.1 6) (-1 : Int) := q39_5
                      replace ag : m_ag σ τ41 := ag_t ag q39_3 rfl
                      have w0_τ41 : τ41.1 0 = σ.1 0 := hf_τ41.1 0 (by decide)
                      have w3_τ41 : τ41.1 3 = σ.1 3 := hf_τ41.1 3 (by decide)
                      have w4_τ41 : τ41.1 4 = ((σ.1 4) + 1) := hf_τ41.1 4 (by decide)
                      have w5_τ41 : τ41.1 5 = σ.1 5 := hf_τ41.1 5 (by decide)
                      have w7_τ41 : τ41.1 7 = σ.1 7 := hf_τ41.1 7 (by decide)
                      have w8_τ41 : τ41.1 8 = σ.1 8 := hf_τ41.1 8 (by decide)
                      have w9_τ41 : τ41.1 9 = σ.1 9 := hf_τ41.1 9 (by decide)
                      have w10_τ41 : τ41.1 10 = σ.1 10 := hf_τ41.1 10 (by decide)
                      have w11_τ41 : τ41.1 11 = σ.1 11 := hf_τ41.1 11 (by decide)
                      have w17_τ41 : τ41.1 17 = σ.1 17 := hf_τ41.1 17 (by decide)
                      have w18_τ41 : τ41.1 18 = σ.1 18 := hf_τ41.1 18 (by decide)
                      have w19_τ41 : τ41.1 19 = σ.1 19 := hf_τ41.1 19 (by decide)
                      have w20_τ41 : τ41.1 20 = σ.1 20 := hf_τ41.1 20 (by decide)
                      have w22_τ41 : τ41.1 22 = σ.1 22 := hf_τ41.1 22 (by decide)
                      have g6_τ41 : τ41.2.1 6 = σ.2.1 6 := hf_τ41.2.1 6 (by decide)
                      have g8_τ41 : τ41.2.1 8 = σ.2.1 8 := hf_τ41.2.1 8 (by decide)
                      have g10_τ41 : τ41.2.1 10 = σ.2.1 10 := hf_τ41.2.1 10 (by decide)
                      have g11_τ41 : τ41.2.1 11 = σ.2.1 11 := hf_τ41.2.1 11 (by decide)
                      have g12_τ41 : τ41.2.1 12 = (st (σ.2.1 12) x3 1) := hf_τ41.2.1 12 (by decide)
                      have g14_τ41 : τ41.2.1 14 = σ.2.1 14 := hf_τ41.2.1 14 (by decide)
                      first | (have o6_τ41 := congrArg oc g6_τ41) | skip
                      have W0 : τ41.1 0 = σ.1 0 := by first | exact w0_τ41.trans W0 | omega
                      have W3 : τ41.1 3 = σ.1 3 := by first | exact w3_τ41.trans W3 | omega
                      have W5 : τ41.1 5 = σ.1 5 := by first | exact w5_τ41.trans W5 | omega
                      have W7 : τ41.1 7 = σ.1 7 := by first | exact w7_τ41.trans W7 | omega
                      have W8 : τ41.1 8 = σ.1 8 := by first | exact w8_τ41.trans W8 | omega
                      have W9 : τ41.1 9 = σ.1 9 := by first | exact w9_τ41.trans W9 | omega
                      have W10 : τ41.1 10 = σ.1 10 := by first | exact w10_τ41.trans W10 | omega
                      have W11 : τ41.1 11 = σ.1 11 := by first | exact w11_τ41.trans W11 | omega
                      have W17 : τ41.1 17 = σ.1 17 := by first | exact w17_τ41.trans W17 | omega
                      have W18 : τ41.1 18 = σ.1 18 := by first | exact w18_τ41.trans W18 | omega
                      have W19 : τ41.1 19 = σ.1 19 := by first | exact w19_τ41.trans W19 | omega
                      have W22 : τ41.1 22 = σ.1 22 := by first | exact w22_τ41.trans W22 | omega
                      have G6 : τ41.2.1 6 = σ.2.1 6 := (g6_τ41).trans G6
                      have G8 : τ41.2.1 8 = σ.2.1 8 := (g8_τ41).trans G8
                      have G10 : τ41.2.1 10 = σ.2.1 10 := (g10_τ41).trans G10
                      have G11 : τ41.2.1 11 = σ.2.1 11 := (g11_τ41).trans G11
                      have G14 : τ41.2.1 14 = σ.2.1 14 := (g14_τ41).trans G14
                      have y14_22_τ41 : τ41.2.1 14 (τ41.1 22) = (σ.2.1 14) (σ.1 22) := by rw [g14_τ41, w22_τ41]
                      have Y1 : j_l2 (τ41.2.1 6) (τ41.1 3) := by rw [show (j_l2 (τ41.2.1 6) (τ41.1 3)) = (j_l2 (σ.2.1 6) (σ.1 3)) from by rw [w3_τ41, g6_τ41]]; exact Y1
                      have STt : j_l2 (τ41.2.1 6) (τ41.1 3) := by rw [show (j_l2 (τ41.2.1 6) (τ41.1 3)) = (j_l2 (σ.2.1 6) (σ.1 3)) from by rw [w3_τ41, g6_τ41]]; exact STt
                      have A6 : ∀ j, (-1) ≤ τ41.2.1 6 j ∧ τ41.2.1 6 j ≤ 999 := fun j => hT.2 6 j
                      have A8 : ∀ j, 0 ≤ τ41.2.1 8 j ∧ τ41.2.1 8 j ≤ 1 := fun j => hT.2 8 j
                      have A10 : ∀ j, (-1) ≤ τ41.2.1 10 j ∧ τ41.2.1 10 j ≤ 999 := fun j => hT.2 10 j
                      have A11 : ∀ j, (-1) ≤ τ41.2.1 11 j ∧ τ41.2.1 11 j ≤ 1499 := fun j => hT.2 11 j
                      have A12 : ∀ j, 0 ≤ τ41.2.1 12 j ∧ τ41.2.1 12 j ≤ 1 := fun j => hT.2 12 j
                      have A14 : ∀ j, 0 ≤ τ41.2.1 14 j ∧ τ41.2.1 14 j ≤ 30000 := fun j => hT.2 14 j
                      have A15 : ∀ j, 0 ≤ τ41.2.1 15 j ∧ τ41.2.1 15 j ≤ 300 := fun j => hT.2 15 j
                      have A16 : ∀ j, 0 ≤ τ41.2.1 16 j ∧ τ41.2.1 16 j ≤ 999 := fun j => hT.2 16 j
                      have A17 : ∀ j, (-1) ≤ τ41.2.1 17 j ∧ τ41.2.1 17 j ≤ 1499 := fun j => hT.2 17 j
                      have v0 : 0 ≤ τ41.1 0 ∧ τ41.1 0 ≤ 60000 := hT.1 0
                      have v3 : 0 ≤ τ41.1 3 ∧ τ41.1 3 ≤ 1000 := hT.1 3
                      have v4 : 0 ≤ τ41.1 4 ∧ τ41.1 4 ≤ 100 := hT.1 4
                      have v5 : 0 ≤ τ41.1 5 ∧ τ41.1 5 ≤ 1500 := hT.1 5
                      have v6 : 0 ≤ τ41.1 6 ∧ τ41.1 6 ≤ 30000 := hT.1 6
                      have v7 : 0 ≤ τ41.1 7 ∧ τ41.1 7 ≤ 90000 := hT.1 7
                      have v8 : 0 ≤ τ41.1 8 ∧ τ41.1 8 ≤ 20000 := hT.1 8
                      have v9 : 0 ≤ τ41.1 9 ∧ τ41.1 9 ≤ 20000 := hT.1 9
                      have v10 : (-1) ≤ τ41.1 10 ∧ τ41.1 10 ≤ 999 := hT.1 10
                      have v11 : (-1) ≤ τ41.1 11 ∧ τ41.1 11 ≤ 999 := hT.1 11
                      have v17 : 0 ≤ τ41.1 17 ∧ τ41.1 17 ≤ 60000 := hT.1 17
                      have v18 : 0 ≤ τ41.1 18 ∧ τ41.1 18 ≤ 60000 := hT.1 18
                      have v19 : (-1) ≤ τ41.1 19 ∧ τ41.1 19 ≤ 125 := hT.1 19
                      have v20 : 0 ≤ τ41.1 20 ∧ τ41.1 20 ≤ 19 := hT.1 20
                      have v22 : 0 ≤ τ41.1 22 ∧ τ41.1 22 ≤ 1499 := hT.1 22
                      have a14_22 : 0 ≤ τ41.2.1 14 (τ41.1 22) ∧ τ41.2.1 14 (τ41.1 22) ≤ 30000 := hT.2 14 _
                      have a15_22 : 0 ≤ τ41.2.1 15 (τ41.1 22) ∧ τ41.2.1 15 (τ41.1 22) ≤ 300 := hT.2 15 _
                      have av6 : σ.1 6 ≤ τ41.1 6 := ag.1 6 (by decide)
                      have Y20 : ca (τ41.2.1 12) (τ41.1 3) ≤ τ41.1 4 := by rw [g12_τ41, w3_τ41]; omega
                      have Z1 : τ41.2.1 14 (τ41.1 22) + τ41.2.1 15 (τ41.1 22) = τ41.1 6 := by omega
                      exact ⟨hT, (show (τ41.1 20) = 0 → τ41.2.1 15 (τ41.1 22) = 1 from by (first | omega | (simp only [st_s] <;> omega) | assumption | omega | fail)), (show τ41.2.1 15 (τ41.1 22) ≤ 1 from by (first | omega | (simp only [st_s] <;> omega) | assumption | omega | fail)), (show ¬ (σ.1 20) = 0 → (τ41.1 20) = (σ.1 20) from by (first | omega | (simp only [st_s] <;> omega) | assumption | omega | fail)), (show τ41.2.1 14 (τ41.1 22) + τ41.2.1 15 (τ41.1 22) = (τ41.1 6) from Z1), (show ca (τ41.2.1 12) ((τ41.1 3)) ≤ (τ41.1 4) from Y20), ag, (show (τ41.1 20) = 0 → n_N (τ41.2.1 14 (τ41.1 22)) (τ41.2.1 14 (τ41.1 22) + τ41.2.1 15 (τ41.1 22)) (σ.1 3) (σ.2.1 8) (σ.2.1 11) (τ41.2.1 12) (τ41.2.1 16) (τ41.2.1 17) from by (first | (intro z; exfalso; omega) | (intro _; rw [show τ41.2.1 14 (τ41.1 22) = σ.1 6 from by omega, show σ.1 6 + τ41.2.1 15 (τ41.1 22) = σ.1 6 + 1 from by omega]; exact n_N_1 q39_4 q39_5 (by omega) (x3lt (by omega)) (by rw [g12_τ41, st_s]; decide)) | fail)), (show n_rl σ τ41 from by (first | exact n_rl_h hf_τ11 rfl rfl | exact n_rl_h hf_τ20 rfl rfl | exact n_rl_h hf_τ29 rfl rfl | exact n_rl_h hf_τ36 rfl rfl | exact ⟨fun s _ _ _ => by rw [g10_τ41], fun s _ _ h => by (rw [g12_τ41]; by_cases z : s = x3; (rw [z, st_s]; decide); (rw [st_n _ _ z]; exact h)), Or.inl (by omega), Or.inl (by omega), by omega, fun zt s a b => by (rw [g10_τ41]; have h3 := zt s a (by omega); omega)⟩ | fail)), (show ∀ s : Int, ¬ σ.2.1 12 s = 0 → ¬ τ41.2.1 12 s = 0 from by (first | exact fun s h => by (rw [G12]; exact h) | exact fun s h => by (rw [g12_τ41]; by_cases z : s = x3; (rw [z, st_s]; decide); (rw [st_n _ _ z]; exact h)) | (intro s h; first | (rw [hf_τ11.2.1 12 (by decide)]; exact h) | (rw [hf_τ20.2.1 12 (by decide)]; exact h) | (rw [hf_τ29.2.1 12 (by decide)]; exact h) | (rw [hf_τ36.2.1 12 (by decide)]; exact h)) | fail))⟩
                    ·
                      refine h143 _ _ _ _ ?_
                      refine ⟨(⟨by (first | omega | (simp only [st_s] <;> omega) | assumption | omega | fail), by (first | omega | (simp only [st_s] <;> omega) | assumption | omega | fail)⟩ : rg ((σ.1 4) + 0)), ?_⟩
                      replace ag := ag_v (i := 4) (x := ((σ.1 4) + 0)) ag (Or.inl rfl)
                      replace hT := mT_v (i := 4) hT (show 0 ≤ ((σ.1 4) + 0) ∧ ((σ.1 4) + 0) ≤ 100 from by (first | omega | (simp only [st_s] <;> omega) | assumption | omega | fail))
                      have ct0 := ca_t0 (σ.2.1 12) x3 ((σ.1 3)) 1 (by omega) (by omega)
                      have ct2 := ca_t2 (σ.2.1 12) (e := x3) ((σ.1 3)) 1 (by omega) (by omega)
                      refine ⟨(show 0 ≤ x3 ∧ x3 < 1001 from by (first | omega | (simp only [st_s] <;> omega) | assumption | omega | fail)), ?_⟩
                      replace ag := ag_a (k := 12) (e := x3) (x := 1) ag rfl
                      replace hT := mT_a (k := 12) (j := x3) hT (show (0 : Int) ≤ 1 ∧ 1 ≤ 1 from by (first | omega | (simp only [st_s] <;> omega) | assumption | omega | fail))
                      have y14q : σ.2.1 14 (σ.1 22) = σ.1 6 := by omega
                      refine ⟨_, K3_X13_addSymbol hT (show 0 ≤ x3 from by (first | omega | (simp only [st_s] <;> omega) | assumption | omega | fail)) (show x3 < 1000 from by (first | omega | (simp only [st_s] <;> omega) | assumption | omega | fail)) (show -1 ≤ (-1 : Int) from by (first | omega | (simp only [st_s] <;> omega) | assumption | omega | fail)) (show (-1 : Int) ≤ 1499 from by (first | omega | (simp only [st_s] <;> omega) | assumption | omega | fail)) (show (σ.1 6) < 30000 from by (first | omega | (simp only [st_s] <;> omega) | assumption | omega | fail)) (show σ.2.1 15 (σ.1 22) < 300 from by (first | omega | (simp only [st_s] <;> omega) | assumption | omega | fail)) (show (σ.1 22) = (σ.1 5) from by (first | omega | (simp only [st_s] <;> omega) | assumption | omega | fail)), ?_⟩
                      intro τ41 hn_τ41 hf_τ41 hq
                      obtain ⟨hT, q39_1, q39_2, q39_3, q39_4, q39_5⟩ := hq
                      replace q39_1 : (τ41.1 6) = (σ.1 6) + 1 := q39_1
                      replace q39_2 : τ41.2.1 15 (τ41.1 22) = σ.2.1 15 (σ.1 22) + 1 := q39_2
                      replace q39_3 : m_ag (s_a (s_v σ 4 ((σ.1 4) + 0)) 12 x3 1) τ41 := q39_3
                      replace q39_4 : τ41.2.1 16 = st (σ.2.1 16) (σ.1 6) x3 := q39_4
                      replace q39_5 : τ41.2.1 17 = st (σ.2.1 17) (σ.1 6) (-1 : Int) := q39_5
                      replace ag : m_ag σ τ41 := ag_t ag q39_3 rfl
                      have w0_τ41 : τ41.1 0 = σ.1 0 := hf_τ41.1 0 (by decide)
                      have w3_τ41 : τ41.1 3 = σ.1 3 := hf_τ41.1 3 (by decide)
                      have w4_τ41 : τ41.1 4 = ((σ.1 4) + 0) := hf_τ41.1 4 (by decide)
                      have w5_τ41 : τ41.1 5 = σ.1 5 := hf_τ41.1 5 (by decide)
                      have w7_τ41 : τ41.1 7 = σ.1 7 := hf_τ41.1 7 (by decide)
                      have w8_τ41 : τ41.1 8 = σ.1 8 := hf_τ41.1 8 (by decide)
                      have w9_τ41 : τ41.1 9 = σ.1 9 := hf_τ41.1 9 (by decide)
                      have w10_τ41 : τ41.1 10 = σ.1 10 := hf_τ41.1 10 (by decide)
                      have w11_τ41 : τ41.1 11 = σ.1 11 := hf_τ41.1 11 (by decide)
                      have w17_τ41 : τ41.1 17 = σ.1 17 := hf_τ41.1 17 (by decide)
                      have w18_τ41 : τ41.1 18 = σ.1 18 := hf_τ41.1 18 (by decide)
                      have w19_τ41 : τ41.1 19 = σ.1 19 := hf_τ41.1 19 (by decide)
                      have w20_τ41 : τ41.1 20 = σ.1 20 := hf_τ41.1 20 (by decide)
                      have w22_τ41 : τ41.1 22 = σ.1 22 := hf_τ41.1 22 (by decide)
                      have g6_τ41 : τ41.2.1 6 = σ.2.1 6 := hf_τ41.2.1 6 (by decide)
                      have g8_τ41 : τ41.2.1 8 = σ.2.1 8 := hf_τ41.2.1 8 (by decide)
                      have g10_τ41 : τ41.2.1 10 = σ.2.1 10 := hf_τ41.2.1 10 (by decide)
                      have g11_τ41 : τ41.2.1 11 = σ.2.1 11 := hf_τ41.2.1 11 (by decide)
                      have g12_τ41 : τ41.2.1 12 = (st (σ.2.1 12) x3 1) := hf_τ41.2.1 12 (by decide)
                      have g14_τ41 : τ41.2.1 14 = σ.2.1 14 := hf_τ41.2.1 14 (by decide)
                      first | (have o6_τ41 := congrArg oc g6_τ41) | skip
                      have W0 : τ41.1 0 = σ.1 0 := by first | exact w0_τ41.trans W0 | omega
                      have W3 : τ41.1 3 = σ.1 3 := by first | exact w3_τ41.trans W3 | omega
                      have W5 : τ41.1 5 = σ.1 5 := by first | exact w5_τ41.trans W5 | omega
                      have W7 : τ41.1 7 = σ.1 7 := by first | exact w7_τ41.trans W7 | omega
                      have W8 : τ41.1 8 = σ.1 8 := by first | exact w8_τ41.trans W8 | omega
                      have W9 : τ41.1 9 = σ.1 9 := by first | exact w9_τ41.trans W9 | omega
                      have W10 : τ41.1 10 = σ.1 10 := by first | exact w10_τ41.trans W10 | omega
                      have W11 : τ41.1 11 = σ.1 11 := by first | exact w11_τ41.trans W11 | omega
                      have W17 : τ41.1 17 = σ.1 17 := by first | exact w17_τ41.trans W17 | omega
                      have W18 : τ41.1 18 = σ.1 18 := by first | exact w18_τ41.trans W18 | omega
                      have W19 : τ41.1 19 = σ.1 19 := by first | exact w19_τ41.trans W19 | omega
                      have W22 : τ41.1 22 = σ.1 22 := by first | exact w22_τ41.trans W22 | omega
                      have G6 : τ41.2.1 6 = σ.2.1 6 := (g6_τ41).trans G6
                      have G8 : τ41.2.1 8 = σ.2.1 8 := (g8_τ41).trans G8
                      have G10 : τ41.2.1 10 = σ.2.1 10 := (g10_τ41).trans G10
                      have G11 : τ41.2.1 11 = σ.2.1 11 := (g11_τ41).trans G11
                      have G14 : τ41.2.1 14 = σ.2.1 14 := (g14_τ41).trans G14
                      have y14_22_τ41 : τ41.2.1 14 (τ41.1 22) = (σ.2.1 14) (σ.1 22) := by rw [g14_τ41, w22_τ41]
                      have Y1 : j_l2 (τ41.2.1 6) (τ41.1 3) := by rw [show (j_l2 (τ41.2.1 6) (τ41.1 3)) = (j_l2 (σ.2.1 6) (σ.1 3)) from by rw [w3_τ41, g6_τ41]]; exact Y1
                      have STt : j_l2 (τ41.2.1 6) (τ41.1 3) := by rw [show (j_l2 (τ41.2.1 6) (τ41.1 3)) = (j_l2 (σ.2.1 6) (σ.1 3)) from by rw [w3_τ41, g6_τ41]]; exact STt
                      have A6 : ∀ j, (-1) ≤ τ41.2.1 6 j ∧ τ41.2.1 6 j ≤ 999 := fun j => hT.2 6 j
                      have A8 : ∀ j, 0 ≤ τ41.2.1 8 j ∧ τ41.2.1 8 j ≤ 1 := fun j => hT.2 8 j
                      have A10 : ∀ j, (-1) ≤ τ41.2.1 10 j ∧ τ41.2.1 10 j ≤ 999 := fun j => hT.2 10 j
                      have A11 : ∀ j, (-1) ≤ τ41.2.1 11 j ∧ τ41.2.1 11 j ≤ 1499 := fun j => hT.2 11 j
                      have A12 : ∀ j, 0 ≤ τ41.2.1 12 j ∧ τ41.2.1 12 j ≤ 1 := fun j => hT.2 12 j
                      have A14 : ∀ j, 0 ≤ τ41.2.1 14 j ∧ τ41.2.1 14 j ≤ 30000 := fun j => hT.2 14 j
                      have A15 : ∀ j, 0 ≤ τ41.2.1 15 j ∧ τ41.2.1 15 j ≤ 300 := fun j => hT.2 15 j
                      have A16 : ∀ j, 0 ≤ τ41.2.1 16 j ∧ τ41.2.1 16 j ≤ 999 := fun j => hT.2 16 j
                      have A17 : ∀ j, (-1) ≤ τ41.2.1 17 j ∧ τ41.2.1 17 j ≤ 1499 := fun j => hT.2 17 j
                      have v0 : 0 ≤ τ41.1 0 ∧ τ41.1 0 ≤ 60000 := hT.1 0
                      have v3 : 0 ≤ τ41.1 3 ∧ τ41.1 3 ≤ 1000 := hT.1 3
                      have v4 : 0 ≤ τ41.1 4 ∧ τ41.1 4 ≤ 100 := hT.1 4
                      have v5 : 0 ≤ τ41.1 5 ∧ τ41.1 5 ≤ 1500 := hT.1 5
                      have v6 : 0 ≤ τ41.1 6 ∧ τ41.1 6 ≤ 30000 := hT.1 6
                      have v7 : 0 ≤ τ41.1 7 ∧ τ41.1 7 ≤ 90000 := hT.1 7
                      have v8 : 0 ≤ τ41.1 8 ∧ τ41.1 8 ≤ 20000 := hT.1 8
                      have v9 : 0 ≤ τ41.1 9 ∧ τ41.1 9 ≤ 20000 := hT.1 9
                      have v10 : (-1) ≤ τ41.1 10 ∧ τ41.1 10 ≤ 999 := hT.1 10
                      have v11 : (-1) ≤ τ41.1 11 ∧ τ41.1 11 ≤ 999 := hT.1 11
                      have v17 : 0 ≤ τ41.1 17 ∧ τ41.1 17 ≤ 60000 := hT.1 17
                      have v18 : 0 ≤ τ41.1 18 ∧ τ41.1 18 ≤ 60000 := hT.1 18
                      have v19 : (-1) ≤ τ41.1 19 ∧ τ41.1 19 ≤ 125 := hT.1 19
                      have v20 : 0 ≤ τ41.1 20 ∧ τ41.1 20 ≤ 19 := hT.1 20
                      have v22 : 0 ≤ τ41.1 22 ∧ τ41.1 22 ≤ 1499 := hT.1 22
                      have a14_22 : 0 ≤ τ41.2.1 14 (τ41.1 22) ∧ τ41.2.1 14 (τ41.1 22) ≤ 30000 := hT.2 14 _
                      have a15_22 : 0 ≤ τ41.2.1 15 (τ41.1 22) ∧ τ41.2.1 15 (τ41.1 22) ≤ 300 := hT.2 15 _
                      have av6 : σ.1 6 ≤ τ41.1 6 := ag.1 6 (by decide)
                      have Y20 : ca (τ41.2.1 12) (τ41.1 3) ≤ τ41.1 4 := by rw [g12_τ41, w3_τ41]; omega
                      have Z1 : τ41.2.1 14 (τ41.1 22) + τ41.2.1 15 (τ41.1 22) = τ41.1 6 := by omega
                      exact ⟨hT, (show (τ41.1 20) = 0 → τ41.2.1 15 (τ41.1 22) = 1 from by (first | omega | (simp only [st_s] <;> omega) | assumption | omega | fail)), (show τ41.2.1 15 (τ41.1 22) ≤ 1 from by (first | omega | (simp only [st_s] <;> omega) | assumption | omega | fail)), (show ¬ (σ.1 20) = 0 → (τ41.1 20) = (σ.1 20) from by (first | omega | (simp only [st_s] <;> omega) | assumption | omega | fail)), (show τ41.2.1 14 (τ41.1 22) + τ41.2.1 15 (τ41.1 22) = (τ41.1 6) from Z1), (show ca (τ41.2.1 12) ((τ41.1 3)) ≤ (τ41.1 4) from Y20), ag, (show (τ41.1 20) = 0 → n_N (τ41.2.1 14 (τ41.1 22)) (τ41.2.1 14 (τ41.1 22) + τ41.2.1 15 (τ41.1 22)) (σ.1 3) (σ.2.1 8) (σ.2.1 11) (τ41.2.1 12) (τ41.2.1 16) (τ41.2.1 17) from by (first | (intro z; exfalso; omega) | (intro _; rw [show τ41.2.1 14 (τ41.1 22) = σ.1 6 from by omega, show σ.1 6 + τ41.2.1 15 (τ41.1 22) = σ.1 6 + 1 from by omega]; exact n_N_1 q39_4 q39_5 (by omega) (x3lt (by omega)) (by rw [g12_τ41, st_s]; decide)) | fail)), (show n_rl σ τ41 from by (first | exact n_rl_h hf_τ11 rfl rfl | exact n_rl_h hf_τ20 rfl rfl | exact n_rl_h hf_τ29 rfl rfl | exact n_rl_h hf_τ36 rfl rfl | exact ⟨fun s _ _ _ => by rw [g10_τ41], fun s _ _ h => by (rw [g12_τ41]; by_cases z : s = x3; (rw [z, st_s]; decide); (rw [st_n _ _ z]; exact h)), Or.inl (by omega), Or.inl (by omega), by omega, fun zt s a b => by (rw [g10_τ41]; have h3 := zt s a (by omega); omega)⟩ | fail)), (show ∀ s : Int, ¬ σ.2.1 12 s = 0 → ¬ τ41.2.1 12 s = 0 from by (first | exact fun s h => by (rw [G12]; exact h) | exact fun s h => by (rw [g12_τ41]; by_cases z : s = x3; (rw [z, st_s]; decide); (rw [st_n _ _ z]; exact h)) | (intro s h; first | (rw [hf_τ11.2.1 12 (by decide)]; exact h) | (rw [hf_τ20.2.1 12 (by decide)]; exact h) | (rw [hf_τ29.2.1 12 (by decide)]; exact h) | (rw [hf_τ36.2.1 12 (by decide)]; exact h)) | fail))⟩
                  ·
                    refine ⟨_, K_X13_failHere hT (show 0 ≤ (10 : Int) from by (first | omega | (simp only [st_s] <;> omega) | assumption | omega | fail)) (show (10 : Int) ≤ 19 from by (first | omega | (simp only [st_s] <;> omega) | assumption | omega | fail)), ?_⟩
                    intro τ36 hn_τ36 hf_τ36 hq
                    obtain ⟨hT, q34_1, q34_2⟩ := hq
                    replace q34_1 : ¬ (σ.1 20) = 0 → (τ36.1 20) = (σ.1 20) := q34_1
                    replace q34_2 : (σ.1 20) = 0 → (τ36.1 20) = (10 : Int) := q34_2
                    replace ag : m_ag σ τ36 := ag_r ag hf_τ36 rfl rfl
                    have w0_τ36 : τ36.1 0 = σ.1 0 := hf_τ36.1 0 (by decide)
                    have w3_τ36 : τ36.1 3 = σ.1 3 := hf_τ36.1 3 (by decide)
                    have w4_τ36 : τ36.1 4 = σ.1 4 := hf_τ36.1 4 (by decide)
                    have w5_τ36 : τ36.1 5 = σ.1 5 := hf_τ36.1 5 (by decide)
                    have w6_τ36 : τ36.1 6 = σ.1 6 := hf_τ36.1 6 (by decide)
                    have w7_τ36 : τ36.1 7 = σ.1 7 := hf_τ36.1 7 (by decide)
                    have w8_τ36 : τ36.1 8 = σ.1 8 := hf_τ36.1 8 (by decide)
                    have w9_τ36 : τ36.1 9 = σ.1 9 := hf_τ36.1 9 (by decide)
                    have w10_τ36 : τ36.1 10 = σ.1 10 := hf_τ36.1 10 (by decide)
                    have w11_τ36 : τ36.1 11 = σ.1 11 := hf_τ36.1 11 (by decide)
                    have w17_τ36 : τ36.1 17 = σ.1 17 := hf_τ36.1 17 (by decide)
                    have w18_τ36 : τ36.1 18 = σ.1 18 := hf_τ36.1 18 (by decide)
                    have w19_τ36 : τ36.1 19 = σ.1 19 := hf_τ36.1 19 (by decide)
                    have w22_τ36 : τ36.1 22 = σ.1 22 := hf_τ36.1 22 (by decide)
                    have g6_τ36 : τ36.2.1 6 = σ.2.1 6 := hf_τ36.2.1 6 (by decide)
                    have g8_τ36 : τ36.2.1 8 = σ.2.1 8 := hf_τ36.2.1 8 (by decide)
                    have g10_τ36 : τ36.2.1 10 = σ.2.1 10 := hf_τ36.2.1 10 (by decide)
                    have g11_τ36 : τ36.2.1 11 = σ.2.1 11 := hf_τ36.2.1 11 (by decide)
                    have g12_τ36 : τ36.2.1 12 = σ.2.1 12 := hf_τ36.2.1 12 (by decide)
                    have g14_τ36 : τ36.2.1 14 = σ.2.1 14 := hf_τ36.2.1 14 (by decide)
                    have g15_τ36 : τ36.2.1 15 = σ.2.1 15 := hf_τ36.2.1 15 (by decide)
                    have g16_τ36 : τ36.2.1 16 = σ.2.1 16 := hf_τ36.2.1 16 (by decide)
                    have g17_τ36 : τ36.2.1 17 = σ.2.1 17 := hf_τ36.2.1 17 (by decide)
                    first | (have o6_τ36 := congrArg oc g6_τ36) | skip
                    have W0 : τ36.1 0 = σ.1 0 := by first | exact w0_τ36.trans W0 | omega
                    have W3 : τ36.1 3 = σ.1 3 := by first | exact w3_τ36.trans W3 | omega
                    have W5 : τ36.1 5 = σ.1 5 := by first | exact w5_τ36.trans W5 | omega
                    have W7 : τ36.1 7 = σ.1 7 := by first | exact w7_τ36.trans W7 | omega
                    have W8 : τ36.1 8 = σ.1 8 := by first | exact w8_τ36.trans W8 | omega
                    have W9 : τ36.1 9 = σ.1 9 := by first | exact w9_τ36.trans W9 | omega
                    have W10 : τ36.1 10 = σ.1 10 := by first | exact w10_τ36.trans W10 | omega
                    have W11 : τ36.1 11 = σ.1 11 := by first | exact w11_τ36.trans W11 | omega
                    have W17 : τ36.1 17 = σ.1 17 := by first | exact w17_τ36.trans W17 | omega
                    have W18 : τ36.1 18 = σ.1 18 := by first | exact w18_τ36.trans W18 | omega
                    have W19 : τ36.1 19 = σ.1 19 := by first | exact w19_τ36.trans W19 | omega
                    have W22 : τ36.1 22 = σ.1 22 := by first | exact w22_τ36.trans W22 | omega
                    have G6 : τ36.2.1 6 = σ.2.1 6 := (g6_τ36).trans G6
                    have G8 : τ36.2.1 8 = σ.2.1 8 := (g8_τ36).trans G8
                    have G10 : τ36.2.1 10 = σ.2.1 10 := (g10_τ36).trans G10
                    have G11 : τ36.2.1 11 = σ.2.1 11 := (g11_τ36).trans G11
                    have G14 : τ36.2.1 14 = σ.2.1 14 := (g14_τ36).trans G14
                    have y14_22_τ36 : τ36.2.1 14 (τ36.1 22) = (σ.2.1 14) (σ.1 22) := by rw [g14_τ36, w22_τ36]
                    have y15_22_τ36 : τ36.2.1 15 (τ36.1 22) = (σ.2.1 15) (σ.1 22) := by rw [g15_τ36, w22_τ36]
                    have Z1 : τ36.2.1 14 (τ36.1 22) + τ36.2.1 15 (τ36.1 22) = (τ36.1 6) := by rw [show (τ36.2.1 14 (τ36.1 22) + τ36.2.1 15 (τ36.1 22) = (τ36.1 6)) = (σ.2.1 14 (σ.1 22) + σ.2.1 15 (σ.1 22) = (σ.1 6)) from by rw [w6_τ36, w22_τ36, g14_τ36, g15_τ36]]; exact Z1
                    have Y20 : ca (τ36.2.1 12) ((τ36.1 3)) ≤ (τ36.1 4) := by rw [show (ca (τ36.2.1 12) ((τ36.1 3)) ≤ (τ36.1 4)) = (ca (σ.2.1 12) ((σ.1 3)) ≤ (σ.1 4)) from by rw [w3_τ36, w4_τ36, g12_τ36]]; exact Y20
                    have Y1 : j_l2 (τ36.2.1 6) (τ36.1 3) := by rw [show (j_l2 (τ36.2.1 6) (τ36.1 3)) = (j_l2 (σ.2.1 6) (σ.1 3)) from by rw [w3_τ36, g6_τ36]]; exact Y1
                    have STt : j_l2 (τ36.2.1 6) (τ36.1 3) := by rw [show (j_l2 (τ36.2.1 6) (τ36.1 3)) = (j_l2 (σ.2.1 6) (σ.1 3)) from by rw [w3_τ36, g6_τ36]]; exact STt
                    have A6 : ∀ j, (-1) ≤ τ36.2.1 6 j ∧ τ36.2.1 6 j ≤ 999 := fun j => hT.2 6 j
                    have A8 : ∀ j, 0 ≤ τ36.2.1 8 j ∧ τ36.2.1 8 j ≤ 1 := fun j => hT.2 8 j
                    have A10 : ∀ j, (-1) ≤ τ36.2.1 10 j ∧ τ36.2.1 10 j ≤ 999 := fun j => hT.2 10 j
                    have A11 : ∀ j, (-1) ≤ τ36.2.1 11 j ∧ τ36.2.1 11 j ≤ 1499 := fun j => hT.2 11 j
                    have A12 : ∀ j, 0 ≤ τ36.2.1 12 j ∧ τ36.2.1 12 j ≤ 1 := fun j => hT.2 12 j
                    have A14 : ∀ j, 0 ≤ τ36.2.1 14 j ∧ τ36.2.1 14 j ≤ 30000 := fun j => hT.2 14 j
                    have A15 : ∀ j, 0 ≤ τ36.2.1 15 j ∧ τ36.2.1 15 j ≤ 300 := fun j => hT.2 15 j
                    have A16 : ∀ j, 0 ≤ τ36.2.1 16 j ∧ τ36.2.1 16 j ≤ 999 := fun j => hT.2 16 j
                    have A17 : ∀ j, (-1) ≤ τ36.2.1 17 j ∧ τ36.2.1 17 j ≤ 1499 := fun j => hT.2 17 j
                    have v0 : 0 ≤ τ36.1 0 ∧ τ36.1 0 ≤ 60000 := hT.1 0
                    have v3 : 0 ≤ τ36.1 3 ∧ τ36.1 3 ≤ 1000 := hT.1 3
                    have v4 : 0 ≤ τ36.1 4 ∧ τ36.1 4 ≤ 100 := hT.1 4
                    have v5 : 0 ≤ τ36.1 5 ∧ τ36.1 5 ≤ 1500 := hT.1 5
                    have v6 : 0 ≤ τ36.1 6 ∧ τ36.1 6 ≤ 30000 := hT.1 6
                    have v7 : 0 ≤ τ36.1 7 ∧ τ36.1 7 ≤ 90000 := hT.1 7
                    have v8 : 0 ≤ τ36.1 8 ∧ τ36.1 8 ≤ 20000 := hT.1 8
                    have v9 : 0 ≤ τ36.1 9 ∧ τ36.1 9 ≤ 20000 := hT.1 9
                    have v10 : (-1) ≤ τ36.1 10 ∧ τ36.1 10 ≤ 999 := hT.1 10
                    have v11 : (-1) ≤ τ36.1 11 ∧ τ36.1 11 ≤ 999 := hT.1 11
                    have v17 : 0 ≤ τ36.1 17 ∧ τ36.1 17 ≤ 60000 := hT.1 17
                    have v18 : 0 ≤ τ36.1 18 ∧ τ36.1 18 ≤ 60000 := hT.1 18
                    have v19 : (-1) ≤ τ36.1 19 ∧ τ36.1 19 ≤ 125 := hT.1 19
                    have v20 : 0 ≤ τ36.1 20 ∧ τ36.1 20 ≤ 19 := hT.1 20
                    have v22 : 0 ≤ τ36.1 22 ∧ τ36.1 22 ≤ 1499 := hT.1 22
                    have a14_22 : 0 ≤ τ36.2.1 14 (τ36.1 22) ∧ τ36.2.1 14 (τ36.1 22) ≤ 30000 := hT.2 14 _
                    have a15_22 : 0 ≤ τ36.2.1 15 (τ36.1 22) ∧ τ36.2.1 15 (τ36.1 22) ≤ 300 := hT.2 15 _
                    have av6 : σ.1 6 ≤ τ36.1 6 := ag.1 6 (by decide)
                    exact ⟨hT, (show (τ36.1 20) = 0 → τ36.2.1 15 (τ36.1 22) = 1 from by (first | omega | (simp only [st_s] <;> omega) | assumption | omega | fail)), (show τ36.2.1 15 (τ36.1 22) ≤ 1 from by (first | omega | (simp only [st_s] <;> omega) | assumption | omega | fail)), (show ¬ (σ.1 20) = 0 → (τ36.1 20) = (σ.1 20) from by (first | omega | (simp only [st_s] <;> omega) | assumption | omega | fail)), (show τ36.2.1 14 (τ36.1 22) + τ36.2.1 15 (τ36.1 22) = (τ36.1 6) from Z1), (show ca (τ36.2.1 12) ((τ36.1 3)) ≤ (τ36.1 4) from Y20), ag, (show (τ36.1 20) = 0 → n_N (τ36.2.1 14 (τ36.1 22)) (τ36.2.1 14 (τ36.1 22) + τ36.2.1 15 (τ36.1 22)) (σ.1 3) (σ.2.1 8) (σ.2.1 11) (τ36.2.1 12) (τ36.2.1 16) (τ36.2.1 17) from by (first | (intro z; exfalso; omega) | (intro _; rw [show τ41.2.1 14 (τ41.1 22) = σ.1 6 from by omega, show σ.1 6 + τ41.2.1 15 (τ41.1 22) = σ.1 6 + 1 from by omega]; exact n_N_1 q39_4 q39_5 (by omega) (x3lt (by omega)) (by rw [g12_τ41, st_s]; decide)) | fail)), (show n_rl σ τ36 from by (first | exact n_rl_h hf_τ11 rfl rfl | exact n_rl_h hf_τ20 rfl rfl | exact n_rl_h hf_τ29 rfl rfl | exact n_rl_h hf_τ36 rfl rfl | exact ⟨fun s _ _ _ => by rw [g10_τ41], fun s _ _ h => by (rw [g12_τ41]; by_cases z : s = x3; (rw [z, st_s]; decide); (rw [st_n _ _ z]; exact h)), Or.inl (by omega), Or.inl (by omega), by omega, fun zt s a b => by (rw [g10_τ41]; have h3 := zt s a (by omega); omega)⟩ | fail)), (show ∀ s : Int, ¬ σ.2.1 12 s = 0 → ¬ τ36.2.1 12 s = 0 from by (first | exact fun s h => by (rw [G12]; exact h) | exact fun s h => by (rw [g12_τ41]; by_cases z : s = x3; (rw [z, st_s]; decide); (rw [st_n _ _ z]; exact h)) | (intro s h; first | (rw [hf_τ11.2.1 12 (by decide)]; exact h) | (rw [hf_τ20.2.1 12 (by decide)]; exact h) | (rw [hf_τ29.2.1 12 (by decide)]; exact h) | (rw [hf_τ36.2.1 12 (by decide)]; exact h)) | fail))⟩
                ·
                  intro x25 r_x25 e_x25
                  have b_x25 : 0 ≤ x25 ∧ x25 ≤ 1 := by rw [e_x25]; exact hT.2 9 _
                  refine ⟨fun c26 => ?_, fun c26 => ?_⟩
                  ·
                    refine h111 _ _ _ ?_
                    refine ⟨fun c30 => ?_, fun c30 => ?_⟩
                    ·
                      refine ⟨(show 0 ≤ x3 ∧ x3 < 1001 from by (first | omega | (simp only [st_s] <;> omega) | assumption | omega | fail)), ?_⟩
                      intro x32 r_x32 e_x32
                      have b_x32 : 0 ≤ x32 ∧ x32 ≤ 1 := by rw [e_x32]; exact hT.2 12 _
                      refine ⟨fun c33 => ?_, fun c33 => ?_⟩
                      ·
                        refine h143 _ _ _ _ ?_
                        refine ⟨(⟨by (first | omega | (simp only [st_s] <;> omega) | assumption | omega | fail), by (first | omega | (simp only [st_s] <;> omega) | assumption | omega | fail)⟩ : rg ((σ.1 4) + 1)), ?_⟩
                        replace ag := ag_v (i := 4) (x := ((σ.1 4) + 1)) ag (Or.inl rfl)
                        replace hT := mT_v (i := 4) hT (show 0 ≤ ((σ.1 4) + 1) ∧ ((σ.1 4) + 1) ≤ 100 from by (first | omega | (simp only [st_s] <;> omega) | assumption | omega | fail))
                        have ct0 := ca_t0 (σ.2.1 12) x3 ((σ.1 3)) 1 (by omega) (by omega)
                        have ct2 := ca_t2 (σ.2.1 12) (e := x3) ((σ.1 3)) 1 (by omega) (by omega)
                        refine ⟨(show 0 ≤ x3 ∧ x3 < 1001 from by (first | omega | (simp only [st_s] <;> omega) | assumption | omega | fail)), ?_⟩
                        replace ag := ag_a (k := 12) (e := x3) (x := 1) ag rfl
                        replace hT := mT_a (k := 12) (j := x3) hT (show (0 : Int) ≤ 1 ∧ 1 ≤ 1 from by (first | omega | (simp only [st_s] <;> omega) | assumption | omega | fail))
                        have y14q : σ.2.1 14 (σ.1 22) = σ.1 6 := by omega
                        refine ⟨_, K3_X13_addSymbol hT (show 0 ≤ x3 from by (first | omega | (simp only [st_s] <;> omega) | assumption | omega | fail)) (show x3 < 1000 from by (first | omega | (simp only [st_s] <;> omega) | assumption | omega | fail)) (show -1 ≤ (-1 : Int) from by (first | omega | (simp only [st_s] <;> omega) | assumption | omega | fail)) (show (-1 : Int) ≤ 1499 from by (first | omega | (simp only [st_s] <;> omega) | assumption | omega | fail)) (show (σ.1 6) < 30000 from by (first | omega | (simp only [st_s] <;> omega) | assumption | omega | fail)) (show σ.2.1 15 (σ.1 22) < 300 from by (first | omega | (simp only [st_s] <;> omega) | assumption | omega | fail)) (show (σ.1 22) = (σ.1 5) from by (first | omega | (simp only [st_s] <;> omega) | assumption | omega | fail)), ?_⟩
                        intro τ41 hn_τ41 hf_τ41 hq
                        obtain ⟨hT, q39_1, q39_2, q39_3, q39_4, q39_5⟩ := hq
                        replace q39_1 : (τ41.1 6) = (σ.1 6) + 1 := q39_1
                        replace q39_2 : τ41.2.1 15 (τ41.1 22) = σ.2.1 15 (σ.1 22) + 1 := q39_2
                        replace q39_3 : m_ag (s_a (s_v σ 4 ((σ.1 4) + 1)) 12 x3 1) τ41 := q39_3
                        replace q39_4 : τ41.2.1 16 = st (σ.2.1 16) (σ.1 6) x3 := q39_4
                        replace q39_5 : τ41.2.1 17 = st (σ.2.1 17) (σ.1 6) (-1 : Int) := q39_5
                        replace ag : m_ag σ τ41 := ag_t ag q39_3 rfl
                        have w0_τ41 : τ41.1 0 = σ.1 0 := hf_τ41.1 0 (by decide)
                        have w3_τ41 : τ41.1 3 = σ.1 3 := hf_τ41.1 3 (by decide)
                        have w4_τ41 : τ41.1 4 = ((σ.1 4) + 1) := hf_τ41.1 4 (by decide)
                        have w5_τ41 : τ41.1 5 = σ.1 5 := hf_τ41.1 5 (by decide)
                        have w7_τ41 : τ41.1 7 = σ.1 7 := hf_τ41.1 7 (by decide)
                        have w8_τ41 : τ41.1 8 = σ.1 8 := hf_τ41.1 8 (by decide)
                        have w9_τ41 : τ41.1 9 = σ.1 9 := hf_τ41.1 9 (by decide)
                        have w10_τ41 : τ41.1 10 = σ.1 10 := hf_τ41.1 10 (by decide)
                        have w11_τ41 : τ41.1 11 = σ.1 11 := hf_τ41.1 11 (by decide)
                        have w17_τ41 : τ41.1 17 = σ.1 17 := hf_τ41.1 17 (by decide)
                        have w18_τ41 : τ41.1 18 = σ.1 18 := hf_τ41.1 18 (by decide)
                        have w19_τ41 : τ41.1 19 = σ.1 19 := hf_τ41.1 19 (by decide)
                        have w20_τ41 : τ41.1 20 = σ.1 20 := hf_τ41.1 20 (by decide)
                        have w22_τ41 : τ41.1 22 = σ.1 22 := hf_τ41.1 22 (by decide)
                        have g6_τ41 : τ41.2.1 6 = σ.2.1 6 := hf_τ41.2.1 6 (by decide)
                        have g8_τ41 : τ41.2.1 8 = σ.2.1 8 := hf_τ41.2.1 8 (by decide)
                        have g10_τ41 : τ41.2.1 10 = σ.2.1 10 := hf_τ41.2.1 10 (by decide)
                        have g11_τ41 : τ41.2.1 11 = σ.2.1 11 := hf_τ41.2.1 11 (by decide)
                        have g12_τ41 : τ41.2.1 12 = (st (σ.2.1 12) x3 1) := hf_τ41.2.1 12 (by decide)
                        have g14_τ41 : τ41.2.1 14 = σ.2.1 14 := hf_τ41.2.1 14 (by decide)
                        first | (have o6_τ41 := congrArg oc g6_τ41) | skip
                        have W0 : τ41.1 0 = σ.1 0 := by first | exact w0_τ41.trans W0 | omega
                        have W3 : τ41.1 3 = σ.1 3 := by first | exact w3_τ41.trans W3 | omega
                        have W5 : τ41.1 5 = σ.1 5 := by first | exact w5_τ41.trans W5 | omega
                        have W7 : τ41.1 7 = σ.1 7 := by first | exact w7_τ41.trans W7 | omega
                        have W8 : τ41.1 8 = σ.1 8 := by first | exact w8_τ41.trans W8 | omega
                        have W9 : τ41.1 9 = σ.1 9 := by first | exact w9_τ41.trans W9 | omega
                        have W10 : τ41.1 10 = σ.1 10 := by first | exact w10_τ41.trans W10 | omega
                        have W11 : τ41.1 11 = σ.1 11 := by first | exact w11_τ41.trans W11 | omega
                        have W17 : τ41.1 17 = σ.1 17 := by first | exact w17_τ41.trans W17 | omega
                        have W18 : τ41.1 18 = σ.1 18 := by first | exact w18_τ41.trans W18 | omega
                        have W19 : τ41.1 19 = σ.1 19 := by first | exact w19_τ41.trans W19 | omega
                        have W22 : τ41.1 22 = σ.1 22 := by first | exact w22_τ41.trans W22 | omega
                        have G6 : τ41.2.1 6 = σ.2.1 6 := (g6_τ41).trans G6
                        have G8 : τ41.2.1 8 = σ.2.1 8 := (g8_τ41).trans G8
                        have G10 : τ41.2.1 10 = σ.2.1 10 := (g10_τ41).trans G10
                        have G11 : τ41.2.1 11 = σ.2.1 11 := (g11_τ41).trans G11
                        have G14 : τ41.2.1 14 = σ.2.1 14 := (g14_τ41).trans G14
                        have y14_22_τ41 : τ41.2.1 14 (τ41.1 22) = (σ.2.1 14) (σ.1 22) := by rw [g14_τ41, w22_τ41]
                        have Y1 : j_l2 (τ41.2.1 6) (τ41.1 3) := by rw [show (j_l2 (τ41.2.1 6) (τ41.1 3)) = (j_l2 (σ.2.1 6) (σ.1 3)) from by rw [w3_τ41, g6_τ41]]; exact Y1
                        have STt : j_l2 (τ41.2.1 6) (τ41.1 3) := by rw [show (j_l2 (τ41.2.1 6) (τ41.1 3)) = (j_l2 (σ.2.1 6) (σ.1 3)) from by rw [w3_τ41, g6_τ41]]; exact STt
                        have A6 : ∀ j, (-1) ≤ τ41.2.1 6 j ∧ τ41.2.1 6 j ≤ 999 := fun j => hT.2 6 j
                        have A8 : ∀ j, 0 ≤ τ41.2.1 8 j ∧ τ41.2.1 8 j ≤ 1 := fun j => hT.2 8 j
                        have A10 : ∀ j, (-1) ≤ τ41.2.1 10 j ∧ τ41.2.1 10 j ≤ 999 := fun j => hT.2 10 j
                        have A11 : ∀ j, (-1) ≤ τ41.2.1 11 j ∧ τ41.2.1 11 j ≤ 1499 := fun j => hT.2 11 j
                        have A12 : ∀ j, 0 ≤ τ41.2.1 12 j ∧ τ41.2.1 12 j ≤ 1 := fun j => hT.2 12 j
                        have A14 : ∀ j, 0 ≤ τ41.2.1 14 j ∧ τ41.2.1 14 j ≤ 30000 := fun j => hT.2 14 j
                        have A15 : ∀ j, 0 ≤ τ41.2.1 15 j ∧ τ41.2.1 15 j ≤ 300 := fun j => hT.2 15 j
                        have A16 : ∀ j, 0 ≤ τ41.2.1 16 j ∧ τ41.2.1 16 j ≤ 999 := fun j => hT.2 16 j
                        have A17 : ∀ j, (-1) ≤ τ41.2.1 17 j ∧ τ41.2.1 17 j ≤ 1499 := fun j => hT.2 17 j
                        have v0 : 0 ≤ τ41.1 0 ∧ τ41.1 0 ≤ 60000 := hT.1 0
                        have v3 : 0 ≤ τ41.1 3 ∧ τ41.1 3 ≤ 1000 := hT.1 3
                        have v4 : 0 ≤ τ41.1 4 ∧ τ41.1 4 ≤ 100 := hT.1 4
                        have v5 : 0 ≤ τ41.1 5 ∧ τ41.1 5 ≤ 1500 := hT.1 5
                        have v6 : 0 ≤ τ41.1 6 ∧ τ41.1 6 ≤ 30000 := hT.1 6
                        have v7 : 0 ≤ τ41.1 7 ∧ τ41.1 7 ≤ 90000 := hT.1 7
                        have v8 : 0 ≤ τ41.1 8 ∧ τ41.1 8 ≤ 20000 := hT.1 8
                        have v9 : 0 ≤ τ41.1 9 ∧ τ41.1 9 ≤ 20000 := hT.1 9
                        have v10 : (-1) ≤ τ41.1 10 ∧ τ41.1 10 ≤ 999 := hT.1 10
                        have v11 : (-1) ≤ τ41.1 11 ∧ τ41.1 11 ≤ 999 := hT.1 11
                        have v17 : 0 ≤ τ41.1 17 ∧ τ41.1 17 ≤ 60000 := hT.1 17
                        have v18 : 0 ≤ τ41.1 18 ∧ τ41.1 18 ≤ 60000 := hT.1 18
                        have v19 : (-1) ≤ τ41.1 19 ∧ τ41.1 19 ≤ 125 := hT.1 19
                        have v20 : 0 ≤ τ41.1 20 ∧ τ41.1 20 ≤ 19 := hT.1 20
                        have v22 : 0 ≤ τ41.1 22 ∧ τ41.1 22 ≤ 1499 := hT.1 22
                        have a14_22 : 0 ≤ τ41.2.1 14 (τ41.1 22) ∧ τ41.2.1 14 (τ41.1 22) ≤ 30000 := hT.2 14 _
                        have a15_22 : 0 ≤ τ41.2.1 15 (τ41.1 22) ∧ τ41.2.1 15 (τ41.1 22) ≤ 300 := hT.2 15 _
                        have av6 : σ.1 6 ≤ τ41.1 6 := ag.1 6 (by decide)
                        have Y20 : ca (τ41.2.1 12) (τ41.1 3) ≤ τ41.1 4 := by rw [g12_τ41, w3_τ41]; omega
                        have Z1 : τ41.2.1 14 (τ41.1 22) + τ41.2.1 15 (τ41.1 22) = τ41.1 6 := by omega
                        exact ⟨hT, (show (τ41.1 20) = 0 → τ41.2.1 15 (τ41.1 22) = 1 from by (first | omega | (simp only [st_s] <;> omega) | assumption | omega | fail)), (show τ41.2.1 15 (τ41.1 22) ≤ 1 from by (first | omega | (simp only [st_s] <;> omega) | assumption | omega | fail)), (show ¬ (σ.1 20) = 0 → (τ41.1 20) = (σ.1 20) from by (first | omega | (simp only [st_s] <;> omega) | assumption | omega | fail)), (show τ41.2.1 14 (τ41.1 22) + τ41.2.1 15 (τ41.1 22) = (τ41.1 6) from Z1), (show ca (τ41.2.1 12) ((τ41.1 3)) ≤ (τ41.1 4) from Y20), ag, (show (τ41.1 20) = 0 → n_N (τ41.2.1 14 (τ41.1 22)) (τ41.2.1 14 (τ41.1 22) + τ41.2.1 15 (τ41.1 22)) (σ.1 3) (σ.2.1 8) (σ.2.1 11) (τ41.2.1 12) (τ41.2.1 16) (τ41.2.1 17) from by (first | (intro z; exfalso; omega) | (intro _; rw [show τ41.2.1 14 (τ41.1 22) = σ.1 6 from by omega, show σ.1 6 + τ41.2.1 15 (τ41.1 22) = σ.1 6 + 1 from by omega]; exact n_N_1 q39_4 q39_5 (by omega) (x3lt (by omega)) (by rw [g12_τ41, st_s]; decide)) | fail)), (show n_rl σ τ41 from by (first | exact n_rl_h hf_τ11 rfl rfl | exact n_rl_h hf_τ20 rfl rfl | exact n_rl_h hf_τ29 rfl rfl | exact n_rl_h hf_τ36 rfl rfl | exact ⟨fun s _ _ _ => by rw [g10_τ41], fun s _ _ h => by (rw [g12_τ41]; by_cases z : s = x3; (rw [z, st_s]; decide); (rw [st_n _ _ z]; exact h)), Or.inl (by omega), Or.inl (by omega), by omega, fun zt s a b => by (rw [g10_τ41]; have h3 := zt s a (by omega); omega)⟩ | fail)), (show ∀ s : Int, ¬ σ.2.1 12 s = 0 → ¬ τ41.2.1 12 s = 0 from by (first | exact fun s h => by (rw [G12]; exact h) | exact fun s h => by (rw [g12_τ41]; by_cases z : s = x3; (rw [z, st_s]; decide); (rw [st_n _ _ z]; exact h)) | (intro s h; first | (rw [hf_τ11.2.1 12 (by decide)]; exact h) | (rw [hf_τ20.2.1 12 (by decide)]; exact h) | (rw [hf_τ29.2.1 12 (by decide)]; exact h) | (rw [hf_τ36.2.1 12 (by decide)]; exact h)) | fail))⟩
                      ·
                        refine h143 _ _ _ _ ?_
                        refine ⟨(⟨by (first | omega | (simp only [st_s] <;> omega) | assumption | omega | fail), by (first | omega | (simp only [st_s] <;> omega) | assumption | omega | fail)⟩ : rg ((σ.1 4) + 0)), ?_⟩
                        replace ag := ag_v (i := 4) (x := ((σ.1 4) + 0)) ag (Or.inl rfl)
                        replace hT := mT_v (i := 4) hT (show 0 ≤ ((σ.1 4) + 0) ∧ ((σ.1 4) + 0) ≤ 100 from by (first | omega | (simp only [st_s] <;> omega) | assumption | omega | fail))
                        have ct0 := ca_t0 (σ.2.1 12) x3 ((σ.1 3)) 1 (by omega) (by omega)
                        have ct2 := ca_t2 (σ.2.1 12) (e := x3) ((σ.1 3)) 1 (by omega) (by omega)
                        refine ⟨(show 0 ≤ x3 ∧ x3 < 1001 from by (first | omega | (simp only [st_s] <;> omega) | assumption | omega | fail)), ?_⟩
                        replace ag := ag_a (k := 12) (e := x3) (x := 1) ag rfl
                        replace hT := mT_a (k := 12) (j := x3) hT (show (0 : Int) ≤ 1 ∧ 1 ≤ 1 from by (first | omega | (simp only [st_s] <;> omega) | assumption | omega | fail))
                        have y14q : σ.2.1 14 (σ.1 22) = σ.1 6 := by omega
                        refine ⟨_, K3_X13_addSymbol hT (show 0 ≤ x3 from by (first | omega | (simp only [st_s] <;> omega) | assumption | omega | fail)) (show x3 < 1000 from by (first | omega | (simp only [st_s] <;> omega) | assumption | omega | fail)) (show -1 ≤ (-1 : Int) from by (first | omega | (simp only [st_s] <;> omega) | assumption | omega | fail)) (show (-1 : Int) ≤ 1499 from by (first | omega | (simp only [st_s] <;> omega) | assumption | omega | fail)) (show (σ.1 6) < 30000 from by (first | omega | (simp only [st_s] <;> omega) | assumption | omega | fail)) (show σ.2.1 15 (σ.1 22) < 300 from by (first | omega | (simp only [st_s] <;> omega) | assumption | omega | fail)) (show (σ.1 22) = (σ.1 5) from by (first | omega | (simp only [st_s] <;> omega) | assumption | omega | fail)), ?_⟩
                        intro τ41 hn_τ41 hf_τ41 hq
                        obtain ⟨hT, q39_1, q39_2, q39_3, q39_4, q39_5⟩ := hq
                        replace q39_1 : (τ41.1 6) = (σ.1 6) + 1 := q39_1
                        replace q39_2 : τ41.2.1 15 (τ41.1 22) = σ.2.1 15 (σ.1 22) + 1 := q39_2
                        replace q39_3 : m_ag (s_a (s_v σ 4 ((σ.1 4) + 0)) 12 x3 1) τ41 := q39_3
                        replace q39_4 : τ41.2.1 16 = st (σ.2.1 16) (σ.1 6) x3 := q39_4
                        replace q39_5 : τ41.2.1 17 = st (σ.2.1 17) (σ.1 6) (-1 : Int) := q39_5
                        replace ag : m_ag σ τ41 := ag_t ag q39_3 rfl
                        have w0_τ41 : τ41.1 0 = σ.1 0 := hf_τ41.1 0 (by decide)
                        have w3_τ41 : τ41.1 3 = σ.1 3 := hf_τ41.1 3 (by decide)
                        have w4_τ41 : τ41.1 4 = ((σ.1 4) + 0) := hf_τ41.1 4 (by decide)
                        have w5_τ41 : τ41.1 5 = σ.1 5 := hf_τ41.1 5 (by decide)
                        have w7_τ41 : τ41.1 7 = σ.1 7 := hf_τ41.1 7 (by decide)
                        have w8_τ41 : τ41.1 8 = σ.1 8 := hf_τ41.1 8 (by decide)
                        have w9_τ41 : τ41.1 9 = σ.1 9 := hf_τ41.1 9 (by decide)
                        have w10_τ41 : τ41.1 10 = σ.1 10 := hf_τ41.1 10 (by decide)
                        have w11_τ41 : τ41.1 11 = σ.1 11 := hf_τ41.1 11 (by decide)
                        have w17_τ41 : τ41.1 17 = σ.1 17 := hf_τ41.1 17 (by decide)
                        have w18_τ41 : τ41.1 18 = σ.1 18 := hf_τ41.1 18 (by decide)
                        have w19_τ41 : τ41.1 19 = σ.1 19 := hf_τ41.1 19 (by decide)
                        have w20_τ41 : τ41.1 20 = σ.1 20 := hf_τ41.1 20 (by decide)
                        have w22_τ41 : τ41.1 22 = σ.1 22 := hf_τ41.1 22 (by decide)
                        have g6_τ41 : τ41.2.1 6 = σ.2.1 6 := hf_τ41.2.1 6 (by decide)
                        have g8_τ41 : τ41.2.1 8 = σ.2.1 8 := hf_τ41.2.1 8 (by decide)
                        have g10_τ41 : τ41.2.1 10 = σ.2.1 10 := hf_τ41.2.1 10 (by decide)
                        have g11_τ41 : τ41.2.1 11 = σ.2.1 11 := hf_τ41.2.1 11 (by decide)
                        have g12_τ41 : τ41.2.1 12 = (st (σ.2.1 12) x3 1) := hf_τ41.2.1 12 (by decide)
                        have g14_τ41 : τ41.2.1 14 = σ.2.1 14 := hf_τ41.2.1 14 (by decide)
                        first | (have o6_τ41 := congrArg oc g6_τ41) | skip
                        have W0 : τ41.1 0 = σ.1 0 := by first | exact w0_τ41.trans W0 | omega
                        have W3 : τ41.1 3 = σ.1 3 := by first | exact w3_τ41.trans W3 | omega
                        have W5 : τ41.1 5 = σ.1 5 := by first | exact w5_τ41.trans W5 | omega
                        have W7 : τ41.1 7 = σ.1 7 := by first | exact w7_τ41.trans W7 | omega
                        have W8 : τ41.1 8 = σ.1 8 := by first | exact w8_τ41.trans W8 | omega
                        have W9 : τ41.1 9 = σ.1 9 := by first | exact w9_τ41.trans W9 | omega
                        have W10 : τ41.1 10 = σ.1 10 := by first | exact w10_τ41.trans W10 | omega
                        have W11 : τ41.1 11 = σ.1 11 := by first | exact w11_τ41.trans W11 | omega
                        have W17 : τ41.1 17 = σ.1 17 := by first | exact w17_τ41.trans W17 | omega
                        have W18 : τ41.1 18 = σ.1 18 := by first | exact w18_τ41.trans W18 | omega
                        have W19 : τ41.1 19 = σ.1 19 := by first | exact w19_τ41.trans W19 | omega
                        have W22 : τ41.1 22 = σ.1 22 := by first | exact w22_τ41.trans W22 | omega
                        have G6 : τ41.2.1 6 = σ.2.1 6 := (g6_τ41).trans G6
                        have G8 : τ41.2.1 8 = σ.2.1 8 := (g8_τ41).trans G8
                        have G10 : τ41.2.1 10 = σ.2.1 10 := (g10_τ41).trans G10
                        have G11 : τ41.2.1 11 = σ.2.1 11 := (g11_τ41).trans G11
                        have G14 : τ41.2.1 14 = σ.2.1 14 := (g14_τ41).trans G14
                        have y14_22_τ41 : τ41.2.1 14 (τ41.1 22) = (σ.2.1 14) (σ.1 22) := by rw [g14_τ41, w22_τ41]
                        have Y1 : j_l2 (τ41.2.1 6) (τ41.1 3) := by rw [show (j_l2 (τ41.2.1 6) (τ41.1 3)) = (j_l2 (σ.2.1 6) (σ.1 3)) from by rw [w3_τ41, g6_τ41]]; exact Y1
                        have STt : j_l2 (τ41.2.1 6) (τ41.1 3) := by rw [show (j_l2 (τ41.2.1 6) (τ41.1 3)) = (j_l2 (σ.2.1 6) (σ.1 3)) from by rw [w3_τ41, g6_τ41]]; exact STt
                        have A6 : ∀ j, (-1) ≤ τ41.2.1 6 j ∧ τ41.2.1 6 j ≤ 999 := fun j => hT.2 6 j
                        have A8 : ∀ j, 0 ≤ τ41.2.1 8 j ∧ τ41.2.1 8 j ≤ 1 := fun j => hT.2 8 j
                        have A10 : ∀ j, (-1) ≤ τ41.2.1 10 j ∧ τ41.2.1 10 j ≤ 999 := fun j => hT.2 10 j
                        have A11 : ∀ j, (-1) ≤ τ41.2.1 11 j ∧ τ41.2.1 11 j ≤ 1499 := fun j => hT.2 11 j
                        have A12 : ∀ j, 0 ≤ τ41.2.1 12 j ∧ τ41.2.1 12 j ≤ 1 := fun j => hT.2 12 j
                        have A14 : ∀ j, 0 ≤ τ41.2.1 14 j ∧ τ41.2.1 14 j ≤ 30000 := fun j => hT.2 14 j
                        have A15 : ∀ j, 0 ≤ τ41.2.1 15 j ∧ τ41.2.1 15 j ≤ 300 := fun j => hT.2 15 j
                        have A16 : ∀ j, 0 ≤ τ41.2.1 16 j ∧ τ41.2.1 16 j ≤ 999 := fun j => hT.2 16 j
                        have A17 : ∀ j, (-1) ≤ τ41.2.1 17 j ∧ τ41.2.1 17 j ≤ 1499 := fun j => hT.2 17 j
                        have v0 : 0 ≤ τ41.1 0 ∧ τ41.1 0 ≤ 60000 := hT.1 0
                        have v3 : 0 ≤ τ41.1 3 ∧ τ41.1 3 ≤ 1000 := hT.1 3
                        have v4 : 0 ≤ τ41.1 4 ∧ τ41.1 4 ≤ 100 := hT.1 4
                        have v5 : 0 ≤ τ41.1 5 ∧ τ41.1 5 ≤ 1500 := hT.1 5
                        have v6 : 0 ≤ τ41.1 6 ∧ τ41.1 6 ≤ 30000 := hT.1 6
                        have v7 : 0 ≤ τ41.1 7 ∧ τ41.1 7 ≤ 90000 := hT.1 7
                        have v8 : 0 ≤ τ41.1 8 ∧ τ41.1 8 ≤ 20000 := hT.1 8
                        have v9 : 0 ≤ τ41.1 9 ∧ τ41.1 9 ≤ 20000 := hT.1 9
                        have v10 : (-1) ≤ τ41.1 10 ∧ τ41.1 10 ≤ 999 := hT.1 10
                        have v11 : (-1) ≤ τ41.1 11 ∧ τ41.1 11 ≤ 999 := hT.1 11
                        have v17 : 0 ≤ τ41.1 17 ∧ τ41.1 17 ≤ 60000 := hT.1 17
                        have v18 : 0 ≤ τ41.1 18 ∧ τ41.1 18 ≤ 60000 := hT.1 18
                        have v19 : (-1) ≤ τ41.1 19 ∧ τ41.1 19 ≤ 125 := hT.1 19
                        have v20 : 0 ≤ τ41.1 20 ∧ τ41.1 20 ≤ 19 := hT.1 20
                        have v22 : 0 ≤ τ41.1 22 ∧ τ41.1 22 ≤ 1499 := hT.1 22
                        have a14_22 : 0 ≤ τ41.2.1 14 (τ41.1 22) ∧ τ41.2.1 14 (τ41.1 22) ≤ 30000 := hT.2 14 _
                        have a15_22 : 0 ≤ τ41.2.1 15 (τ41.1 22) ∧ τ41.2.1 15 (τ41.1 22) ≤ 300 := hT.2 15 _
                        have av6 : σ.1 6 ≤ τ41.1 6 := ag.1 6 (by decide)
                        have Y20 : ca (τ41.2.1 12) (τ41.1 3) ≤ τ41.1 4 := by rw [g12_τ41, w3_τ41]; omega
                        have Z1 : τ41.2.1 14 (τ41.1 22) + τ41.2.1 15 (τ41.1 22) = τ41.1 6 := by omega
                        exact ⟨hT, (show (τ41.1 20) = 0 → τ41.2.1 15 (τ41.1 22) = 1 from by (first | omega | (simp only [st_s] <;> omega) | assumption | omega | fail)), (show τ41.2.1 15 (τ41.1 22) ≤ 1 from by (first | omega | (simp only [st_s] <;> omega) | assumption | omega | fail)), (show ¬ (σ.1 20) = 0 → (τ41.1 20) = (σ.1 20) from by (first | omega | (simp only [st_s] <;> omega) | assumption | omega | fail)), (show τ41.2.1 14 (τ41.1 22) + τ41.2.1 15 (τ41.1 22) = (τ41.1 6) from Z1), (show ca (τ41.2.1 12) ((τ41.1 3)) ≤ (τ41.1 4) from Y20), ag, (show (τ41.1 20) = 0 → n_N (τ41.2.1 14 (τ41.1 22)) (τ41.2.1 14 (τ41.1 22) + τ41.2.1 15 (τ41.1 22)) (σ.1 3) (σ.2.1 8) (σ.2.1 11) (τ41.2.1 12) (τ41.2.1 16) (τ41.2.1 17) from by (first | (intro z; exfalso; omega) | (intro _; rw [show τ41.2.1 14 (τ41.1 22) = σ.1 6 from by omega, show σ.1 6 + τ41.2.1 15 (τ41.1 22) = σ.1 6 + 1 from by omega]; exact n_N_1 q39_4 q39_5 (by omega) (x3lt (by omega)) (by rw [g12_τ41, st_s]; decide)) | fail)), (show n_rl σ τ41 from by (first | exact n_rl_h hf_τ11 rfl rfl | exact n_rl_h hf_τ20 rfl rfl | exact n_rl_h hf_τ29 rfl rfl | exact n_rl_h hf_τ36 rfl rfl | exact ⟨fun s _ _ _ => by rw [g10_τ41], fun s _ _ h => by (rw [g12_τ41]; by_cases z : s = x3; (rw [z, st_s]; decide); (rw [st_n _ _ z]; exact h)), Or.inl (by omega), Or.inl (by omega), by omega, fun zt s a b => by (rw [g10_τ41]; have h3 := zt s a (by omega); omega)⟩ | fail)), (show ∀ s : Int, ¬ σ.2.1 12 s = 0 → ¬ τ41.2.1 12 s = 0 from by (first | exact fun s h => by (rw [G12]; exact h) | exact fun s h => by (rw [g12_τ41]; by_cases z : s = x3; (rw [z, st_s]; decide); (rw [st_n _ _ z]; exact h)) | (intro s h; first | (rw [hf_τ11.2.1 12 (by decide)]; exact h) | (rw [hf_τ20.2.1 12 (by decide)]; exact h) | (rw [hf_τ29.2.1 12 (by decide)]; exact h) | (rw [hf_τ36.2.1 12 (by decide)]; exact h)) | fail))⟩
                    ·
                      refine ⟨_, K_X13_failHere hT (show 0 ≤ (10 : Int) from by (first | omega | (simp only [st_s] <;> omega) | assumption | omega | fail)) (show (10 : Int) ≤ 19 from by (first | omega | (simp only [st_s] <;> omega) | assumption | omega | fail)), ?_⟩
                      intro τ36 hn_τ36 hf_τ36 hq
                      obtain ⟨hT, q34_1, q34_2⟩ := hq
                      replace q34_1 : ¬ (σ.1 20) = 0 → (τ36.1 20) = (σ.1 20) := q34_1
                      replace q34_2 : (σ.1 20) = 0 → (τ36.1 20) = (10 : Int) := q34_2
                      replace ag : m_ag σ τ36 := ag_r ag hf_τ36 rfl rfl
                      have w0_τ36 : τ36.1 0 = σ.1 0 := hf_τ36.1 0 (by decide)
                      have w3_τ36 : τ36.1 3 = σ.1 3 := hf_τ36.1 3 (by decide)
                      have w4_τ36 : τ36.1 4 = σ.1 4 := hf_τ36.1 4 (by decide)
                      have w5_τ36 : τ36.1 5 = σ.1 5 := hf_τ36.1 5 (by decide)
                      have w6_τ36 : τ36.1 6 = σ.1 6 := hf_τ36.1 6 (by decide)
                      have w7_τ36 : τ36.1 7 = σ.1 7 := hf_τ36.1 7 (by decide)
                      have w8_τ36 : τ36.1 8 = σ.1 8 := hf_τ36.1 8 (by decide)
                      have w9_τ36 : τ36.1 9 = σ.1 9 := hf_τ36.1 9 (by decide)
                      have w10_τ36 : τ36.1 10 = σ.1 10 := hf_τ36.1 10 (by decide)
                      have w11_τ36 : τ36.1 11 = σ.1 11 := hf_τ36.1 11 (by decide)
                      have w17_τ36 : τ36.1 17 = σ.1 17 := hf_τ36.1 17 (by decide)
                      have w18_τ36 : τ36.1 18 = σ.1 18 := hf_τ36.1 18 (by decide)
                      have w19_τ36 : τ36.1 19 = σ.1 19 := hf_τ36.1 19 (by decide)
                      have w22_τ36 : τ36.1 22 = σ.1 22 := hf_τ36.1 22 (by decide)
                      have g6_τ36 : τ36.2.1 6 = σ.2.1 6 := hf_τ36.2.1 6 (by decide)
                      have g8_τ36 : τ36.2.1 8 = σ.2.1 8 := hf_τ36.2.1 8 (by decide)
                      have g10_τ36 : τ36.2.1 10 = σ.2.1 10 := hf_τ36.2.1 10 (by decide)
                      have g11_τ36 : τ36.2.1 11 = σ.2.1 11 := hf_τ36.2.1 11 (by decide)
                      have g12_τ36 : τ36.2.1 12 = σ.2.1 12 := hf_τ36.2.1 12 (by decide)
                      have g14_τ36 : τ36.2.1 14 = σ.2.1 14 := hf_τ36.2.1 14 (by decide)
                      have g15_τ36 : τ36.2.1 15 = σ.2.1 15 := hf_τ36.2.1 15 (by decide)
                      have g16_τ36 : τ36.2.1 16 = σ.2.1 16 := hf_τ36.2.1 16 (by decide)
                      have g17_τ36 : τ36.2.1 17 = σ.2.1 17 := hf_τ36.2.1 17 (by decide)
                      first | (have o6_τ36 := congrArg oc g6_τ36) | skip
                      have W0 : τ36.1 0 = σ.1 0 := by first | exact w0_τ36.trans W0 | omega
                      have W3 : τ36.1 3 = σ.1 3 := by first | exact w3_τ36.trans W3 | omega
                      have W5 : τ36.1 5 = σ.1 5 := by first | exact w5_τ36.trans W5 | omega
                      have W7 : τ36.1 7 = σ.1 7 := by first | exact w7_τ36.trans W7 | omega
                      have W8 : τ36.1 8 = σ.1 8 := by first | exact w8_τ36.trans W8 | omega
                      have W9 : τ36.1 9 = σ.1 9 := by first | exact w9_τ36.trans W9 | omega
                      have W10 : τ36.1 10 = σ.1 10 := by first | exact w10_τ36.trans W10 | omega
                      have W11 : τ36.1 11 = σ.1 11 := by first | exact w11_τ36.trans W11 | omega
                      have W17 : τ36.1 17 = σ.1 17 := by first | exact w17_τ36.trans W17 | omega
                      have W18 : τ36.1 18 = σ.1 18 := by first | exact w18_τ36.trans W18 | omega
                      have W19 : τ36.1 19 = σ.1 19 := by first | exact w19_τ36.trans W19 | omega
                      have W22 : τ36.1 22 = σ.1 22 := by first | exact w22_τ36.trans W22 | omega
                      have G6 : τ36.2.1 6 = σ.2.1 6 := (g6_τ36).trans G6
                      have G8 : τ36.2.1 8 = σ.2.1 8 := (g8_τ36).trans G8
                      have G10 : τ36.2.1 10 = σ.2.1 10 := (g10_τ36).trans G10
                      have G11 : τ36.2.1 11 = σ.2.1 11 := (g11_τ36).trans G11
                      have G14 : τ36.2.1 14 = σ.2.1 14 := (g14_τ36).trans G14
                      have y14_22_τ36 : τ36.2.1 14 (τ36.1 22) = (σ.2.1 14) (σ.1 22) := by rw [g14_τ36, w22_τ36]
                      have y15_22_τ36 : τ36.2.1 15 (τ36.1 22) = (σ.2.1 15) (σ.1 22) := by rw [g15_τ36, w22_τ36]
                      have Z1 : τ36.2.1 14 (τ36.1 22) + τ36.2.1 15 (τ36.1 22) = (τ36.1 6) := by rw [show (τ36.2.1 14 (τ36.1 22) + τ36.2.1 15 (τ36.1 22) = (τ36.1 6)) = (σ.2.1 14 (σ.1 22) + σ.2.1 15 (σ.1 22) = (σ.1 6)) from by rw [w6_τ36, w22_τ36, g14_τ36, g15_τ36]]; exact Z1
                      have Y20 : ca (τ36.2.1 12) ((τ36.1 3)) ≤ (τ36.1 4) := by rw [show (ca (τ36.2.1 12) ((τ36.1 3)) ≤ (τ36.1 4)) = (ca (σ.2.1 12) ((σ.1 3)) ≤ (σ.1 4)) from by rw [w3_τ36, w4_τ36, g12_τ36]]; exact Y20
                      have Y1 : j_l2 (τ36.2.1 6) (τ36.1 3) := by rw [show (j_l2 (τ36.2.1 6) (τ36.1 3)) = (j_l2 (σ.2.1 6) (σ.1 3)) from by rw [w3_τ36, g6_τ36]]; exact Y1
                      have STt : j_l2 (τ36.2.1 6) (τ36.1 3) := by rw [show (j_l2 (τ36.2.1 6) (τ36.1 3)) = (j_l2 (σ.2.1 6) (σ.1 3)) from by rw [w3_τ36, g6_τ36]]; exact STt
                      have A6 : ∀ j, (-1) ≤ τ36.2.1 6 j ∧ τ36.2.1 6 j ≤ 999 := fun j => hT.2 6 j
                      have A8 : ∀ j, 0 ≤ τ36.2.1 8 j ∧ τ36.2.1 8 j ≤ 1 := fun j => hT.2 8 j
                      have A10 : ∀ j, (-1) ≤ τ36.2.1 10 j ∧ τ36.2.1 10 j ≤ 999 := fun j => hT.2 10 j
                      have A11 : ∀ j, (-1) ≤ τ36.2.1 11 j ∧ τ36.2.1 11 j ≤ 1499 := fun j => hT.2 11 j
                      have A12 : ∀ j, 0 ≤ τ36.2.1 12 j ∧ τ36.2.1 12 j ≤ 1 := fun j => hT.2 12 j
                      have A14 : ∀ j, 0 ≤ τ36.2.1 14 j ∧ τ36.2.1 14 j ≤ 30000 := fun j => hT.2 14 j
                      have A15 : ∀ j, 0 ≤ τ36.2.1 15 j ∧ τ36.2.1 15 j ≤ 300 := fun j => hT.2 15 j
                      have A16 : ∀ j, 0 ≤ τ36.2.1 16 j ∧ τ36.2.1 16 j ≤ 999 := fun j => hT.2 16 j
                      have A17 : ∀ j, (-1) ≤ τ36.2.1 17 j ∧ τ36.2.1 17 j ≤ 1499 := fun j => hT.2 17 j
                      have v0 : 0 ≤ τ36.1 0 ∧ τ36.1 0 ≤ 60000 := hT.1 0
                      have v3 : 0 ≤ τ36.1 3 ∧ τ36.1 3 ≤ 1000 := hT.1 3
                      have v4 : 0 ≤ τ36.1 4 ∧ τ36.1 4 ≤ 100 := hT.1 4
                      have v5 : 0 ≤ τ36.1 5 ∧ τ36.1 5 ≤ 1500 := hT.1 5
                      have v6 : 0 ≤ τ36.1 6 ∧ τ36.1 6 ≤ 30000 := hT.1 6
                      have v7 : 0 ≤ τ36.1 7 ∧ τ36.1 7 ≤ 90000 := hT.1 7
                      have v8 : 0 ≤ τ36.1 8 ∧ τ36.1 8 ≤ 20000 := hT.1 8
                      have v9 : 0 ≤ τ36.1 9 ∧ τ36.1 9 ≤ 20000 := hT.1 9
                      have v10 : (-1) ≤ τ36.1 10 ∧ τ36.1 10 ≤ 999 := hT.1 10
                      have v11 : (-1) ≤ τ36.1 11 ∧ τ36.1 11 ≤ 999 := hT.1 11
                      have v17 : 0 ≤ τ36.1 17 ∧ τ36.1 17 ≤ 60000 := hT.1 17
                      have v18 : 0 ≤ τ36.1 18 ∧ τ36.1 18 ≤ 60000 := hT.1 18
                      have v19 : (-1) ≤ τ36.1 19 ∧ τ36.1 19 ≤ 125 := hT.1 19
                      have v20 : 0 ≤ τ36.1 20 ∧ τ36.1 20 ≤ 19 := hT.1 20
                      have v22 : 0 ≤ τ36.1 22 ∧ τ36.1 22 ≤ 1499 := hT.1 22
                      have a14_22 : 0 ≤ τ36.2.1 14 (τ36.1 22) ∧ τ36.2.1 14 (τ36.1 22) ≤ 30000 := hT.2 14 _
                      have a15_22 : 0 ≤ τ36.2.1 15 (τ36.1 22) ∧ τ36.2.1 15 (τ36.1 22) ≤ 300 := hT.2 15 _
                      have av6 : σ.1 6 ≤ τ36.1 6 := ag.1 6 (by decide)
                      exact ⟨hT, (show (τ36.1 20) = 0 → τ36.2.1 15 (τ36.1 22) = 1 from by (first | omega | (simp only [st_s] <;> omega) | assumption | omega | fail)), (show τ36.2.1 15 (τ36.1 22) ≤ 1 from by (first | omega | (simp only [st_s] <;> omega) | assumption | omega | fail)), (show ¬ (σ.1 20) = 0 → (τ36.1 20) = (σ.1 20) from by (first | omega | (simp only [st_s] <;> omega) | assumption | omega | fail)), (show τ36.2.1 14 (τ36.1 22) + τ36.2.1 15 (τ36.1 22) = (τ36.1 6) from Z1), (show ca (τ36.2.1 12) ((τ36.1 3)) ≤ (τ36.1 4) from Y20), ag, (show (τ36.1 20) = 0 → n_N (τ36.2.1 14 (τ36.1 22)) (τ36.2.1 14 (τ36.1 22) + τ36.2.1 15 (τ36.1 22)) (σ.1 3) (σ.2.1 8) (σ.2.1 11) (τ36.2.1 12) (τ36.2.1 16) (τ36.2.1 17) from by (first | (intro z; exfalso; omega) | (intro _; rw [show τ41.2.1 14 (τ41.1 22) = σ.1 6 from by omega, show σ.1 6 + τ41.2.1 15 (τ41.1 22) = σ.1 6 + 1 from by omega]; exact n_N_1 q39_4 q39_5 (by omega) (x3lt (by omega)) (by rw [g12_τ41, st_s]; decide)) | fail)), (show n_rl σ τ36 from by (first | exact n_rl_h hf_τ11 rfl rfl | exact n_rl_h hf_τ20 rfl rfl | exact n_rl_h hf_τ29 rfl rfl | exact n_rl_h hf_τ36 rfl rfl | exact ⟨fun s _ _ _ => by rw [g10_τ41], fun s _ _ h => by (rw [g12_τ41]; by_cases z : s = x3; (rw [z, st_s]; decide); (rw [st_n _ _ z]; exact h)), Or.inl (by omega), Or.inl (by omega), by omega, fun zt s a b => by (rw [g10_τ41]; have h3 := zt s a (by omega); omega)⟩ | fail)), (show ∀ s : Int, ¬ σ.2.1 12 s = 0 → ¬ τ36.2.1 12 s = 0 from by (first | exact fun s h => by (rw [G12]; exact h) | exact fun s h => by (rw [g12_τ41]; by_cases z : s = x3; (rw [z, st_s]; decide); (rw [st_n _ _ z]; exact h)) | (intro s h; first | (rw [hf_τ11.2.1 12 (by decide)]; exact h) | (rw [hf_τ20.2.1 12 (by decide)]; exact h) | (rw [hf_τ29.2.1 12 (by decide)]; exact h) | (rw [hf_τ36.2.1 12 (by decide)]; exact h)) | fail))⟩
                  ·
                    refine h102 _ ?_
                    refine ⟨_, K_X13_failHere hT (show 0 ≤ (9 : Int) from by (first | omega | (simp only [st_s] <;> omega) | assumption | omega | fail)) (show (9 : Int) ≤ 19 from by (first | omega | (simp only [st_s] <;> omega) | assumption | omega | fail)), ?_⟩
                    intro τ29 hn_τ29 hf_τ29 hq
                    obtain ⟨hT, q27_1, q27_2⟩ := hq
                    replace q27_1 : ¬ (σ.1 20) = 0 → (τ29.1 20) = (σ.1 20) := q27_1
                    replace q27_2 : (σ.1 20) = 0 → (τ29.1 20) = (9 : Int) := q27_2
                    replace ag : m_ag σ τ29 := ag_r ag hf_τ29 rfl rfl
                    have w0_τ29 : τ29.1 0 = σ.1 0 := hf_τ29.1 0 (by decide)
                    have w3_τ29 : τ29.1 3 = σ.1 3 := hf_τ29.1 3 (by decide)
                    have w4_τ29 : τ29.1 4 = σ.1 4 := hf_τ29.1 4 (by decide)
                    have w5_τ29 : τ29.1 5 = σ.1 5 := hf_τ29.1 5 (by decide)
                    have w6_τ29 : τ29.1 6 = σ.1 6 := hf_τ29.1 6 (by decide)
                    have w7_τ29 : τ29.1 7 = σ.1 7 := hf_τ29.1 7 (by decide)
                    have w8_τ29 : τ29.1 8 = σ.1 8 := hf_τ29.1 8 (by decide)
                    have w9_τ29 : τ29.1 9 = σ.1 9 := hf_τ29.1 9 (by decide)
                    have w10_τ29 : τ29.1 10 = σ.1 10 := hf_τ29.1 10 (by decide)
                    have w11_τ29 : τ29.1 11 = σ.1 11 := hf_τ29.1 11 (by decide)
                    have w17_τ29 : τ29.1 17 = σ.1 17 := hf_τ29.1 17 (by decide)
                    have w18_τ29 : τ29.1 18 = σ.1 18 := hf_τ29.1 18 (by decide)
                    have w19_τ29 : τ29.1 19 = σ.1 19 := hf_τ29.1 19 (by decide)
                    have w22_τ29 : τ29.1 22 = σ.1 22 := hf_τ29.1 22 (by decide)
                    have g6_τ29 : τ29.2.1 6 = σ.2.1 6 := hf_τ29.2.1 6 (by decide)
                    have g8_τ29 : τ29.2.1 8 = σ.2.1 8 := hf_τ29.2.1 8 (by decide)
                    have g10_τ29 : τ29.2.1 10 = σ.2.1 10 := hf_τ29.2.1 10 (by decide)
                    have g11_τ29 : τ29.2.1 11 = σ.2.1 11 := hf_τ29.2.1 11 (by decide)
                    have g12_τ29 : τ29.2.1 12 = σ.2.1 12 := hf_τ29.2.1 12 (by decide)
                    have g14_τ29 : τ29.2.1 14 = σ.2.1 14 := hf_τ29.2.1 14 (by decide)
                    have g15_τ29 : τ29.2.1 15 = σ.2.1 15 := hf_τ29.2.1 15 (by decide)
                    have g16_τ29 : τ29.2.1 16 = σ.2.1 16 := hf_τ29.2.1 16 (by decide)
                    have g17_τ29 : τ29.2.1 17 = σ.2.1 17 := hf_τ29.2.1 17 (by decide)
                    first | (have o6_τ29 := congrArg oc g6_τ29) | skip
                    have W0 : τ29.1 0 = σ.1 0 := by first | exact w0_τ29.trans W0 | omega
                    have W3 : τ29.1 3 = σ.1 3 := by first | exact w3_τ29.trans W3 | omega
                    have W5 : τ29.1 5 = σ.1 5 := by first | exact w5_τ29.trans W5 | omega
                    have W7 : τ29.1 7 = σ.1 7 := by first | exact w7_τ29.trans W7 | omega
                    have W8 : τ29.1 8 = σ.1 8 := by first | exact w8_τ29.trans W8 | omega
                    have W9 : τ29.1 9 = σ.1 9 := by first | exact w9_τ29.trans W9 | omega
                    have W10 : τ29.1 10 = σ.1 10 := by first | exact w10_τ29.trans W10 | omega
                    have W11 : τ29.1 11 = σ.1 11 := by first | exact w11_τ29.trans W11 | omega
                    have W17 : τ29.1 17 = σ.1 17 := by first | exact w17_τ29.trans W17 | omega
                    have W18 : τ29.1 18 = σ.1 18 := by first | exact w18_τ29.trans W18 | omega
                    have W19 : τ29.1 19 = σ.1 19 := by first | exact w19_τ29.trans W19 | omega
                    have W22 : τ29.1 22 = σ.1 22 := by first | exact w22_τ29.trans W22 | omega
                    have G6 : τ29.2.1 6 = σ.2.1 6 := (g6_τ29).trans G6
                    have G8 : τ29.2.1 8 = σ.2.1 8 := (g8_τ29).trans G8
                    have G10 : τ29.2.1 10 = σ.2.1 10 := (g10_τ29).trans G10
                    have G11 : τ29.2.1 11 = σ.2.1 11 := (g11_τ29).trans G11
                    have G14 : τ29.2.1 14 = σ.2.1 14 := (g14_τ29).trans G14
                    have y14_22_τ29 : τ29.2.1 14 (τ29.1 22) = (σ.2.1 14) (σ.1 22) := by rw [g14_τ29, w22_τ29]
                    have y15_22_τ29 : τ29.2.1 15 (τ29.1 22) = (σ.2.1 15) (σ.1 22) := by rw [g15_τ29, w22_τ29]
                    have Z1 : τ29.2.1 14 (τ29.1 22) + τ29.2.1 15 (τ29.1 22) = (τ29.1 6) := by rw [show (τ29.2.1 14 (τ29.1 22) + τ29.2.1 15 (τ29.1 22) = (τ29.1 6)) = (σ.2.1 14 (σ.1 22) + σ.2.1 15 (σ.1 22) = (σ.1 6)) from by rw [w6_τ29, w22_τ29, g14_τ29, g15_τ29]]; exact Z1
                    have Y20 : ca (τ29.2.1 12) ((τ29.1 3)) ≤ (τ29.1 4) := by rw [show (ca (τ29.2.1 12) ((τ29.1 3)) ≤ (τ29.1 4)) = (ca (σ.2.1 12) ((σ.1 3)) ≤ (σ.1 4)) from by rw [w3_τ29, w4_τ29, g12_τ29]]; exact Y20
                    have Y1 : j_l2 (τ29.2.1 6) (τ29.1 3) := by rw [show (j_l2 (τ29.2.1 6) (τ29.1 3)) = (j_l2 (σ.2.1 6) (σ.1 3)) from by rw [w3_τ29, g6_τ29]]; exact Y1
                    have STt : j_l2 (τ29.2.1 6) (τ29.1 3) := by rw [show (j_l2 (τ29.2.1 6) (τ29.1 3)) = (j_l2 (σ.2.1 6) (σ.1 3)) from by rw [w3_τ29, g6_τ29]]; exact STt
                    have A6 : ∀ j, (-1) ≤ τ29.2.1 6 j ∧ τ29.2.1 6 j ≤ 999 := fun j => hT.2 6 j
                    have A8 : ∀ j, 0 ≤ τ29.2.1 8 j ∧ τ29.2.1 8 j ≤ 1 := fun j => hT.2 8 j
                    have A10 : ∀ j, (-1) ≤ τ29.2.1 10 j ∧ τ29.2.1 10 j ≤ 999 := fun j => hT.2 10 j
                    have A11 : ∀ j, (-1) ≤ τ29.2.1 11 j ∧ τ29.2.1 11 j ≤ 1499 := fun j => hT.2 11 j
                    have A12 : ∀ j, 0 ≤ τ29.2.1 12 j ∧ τ29.2.1 12 j ≤ 1 := fun j => hT.2 12 j
                    have A14 : ∀ j, 0 ≤ τ29.2.1 14 j ∧ τ29.2.1 14 j ≤ 30000 := fun j => hT.2 14 j
                    have A15 : ∀ j, 0 ≤ τ29.2.1 15 j ∧ τ29.2.1 15 j ≤ 300 := fun j => hT.2 15 j
                    have A16 : ∀ j, 0 ≤ τ29.2.1 16 j ∧ τ29.2.1 16 j ≤ 999 := fun j => hT.2 16 j
                    have A17 : ∀ j, (-1) ≤ τ29.2.1 17 j ∧ τ29.2.1 17 j ≤ 1499 := fun j => hT.2 17 j
                    have v0 : 0 ≤ τ29.1 0 ∧ τ29.1 0 ≤ 60000 := hT.1 0
                    have v3 : 0 ≤ τ29.1 3 ∧ τ29.1 3 ≤ 1000 := hT.1 3
                    have v4 : 0 ≤ τ29.1 4 ∧ τ29.1 4 ≤ 100 := hT.1 4
                    have v5 : 0 ≤ τ29.1 5 ∧ τ29.1 5 ≤ 1500 := hT.1 5
                    have v6 : 0 ≤ τ29.1 6 ∧ τ29.1 6 ≤ 30000 := hT.1 6
                    have v7 : 0 ≤ τ29.1 7 ∧ τ29.1 7 ≤ 90000 := hT.1 7
                    have v8 : 0 ≤ τ29.1 8 ∧ τ29.1 8 ≤ 20000 := hT.1 8
                    have v9 : 0 ≤ τ29.1 9 ∧ τ29.1 9 ≤ 20000 := hT.1 9
                    have v10 : (-1) ≤ τ29.1 10 ∧ τ29.1 10 ≤ 999 := hT.1 10
                    have v11 : (-1) ≤ τ29.1 11 ∧ τ29.1 11 ≤ 999 := hT.1 11
                    have v17 : 0 ≤ τ29.1 17 ∧ τ29.1 17 ≤ 60000 := hT.1 17
                    have v18 : 0 ≤ τ29.1 18 ∧ τ29.1 18 ≤ 60000 := hT.1 18
                    have v19 : (-1) ≤ τ29.1 19 ∧ τ29.1 19 ≤ 125 := hT.1 19
                    have v20 : 0 ≤ τ29.1 20 ∧ τ29.1 20 ≤ 19 := hT.1 20
                    have v22 : 0 ≤ τ29.1 22 ∧ τ29.1 22 ≤ 1499 := hT.1 22
                    have a14_22 : 0 ≤ τ29.2.1 14 (τ29.1 22) ∧ τ29.2.1 14 (τ29.1 22) ≤ 30000 := hT.2 14 _
                    have a15_22 : 0 ≤ τ29.2.1 15 (τ29.1 22) ∧ τ29.2.1 15 (τ29.1 22) ≤ 300 := hT.2 15 _
                    have av6 : σ.1 6 ≤ τ29.1 6 := ag.1 6 (by decide)
                    exact ⟨hT, (show (τ29.1 20) = 0 → τ29.2.1 15 (τ29.1 22) = 1 from by (first | omega | (simp only [st_s] <;> omega) | assumption | omega | fail)), (show τ29.2.1 15 (τ29.1 22) ≤ 1 from by (first | omega | (simp only [st_s] <;> omega) | assumption | omega | fail)), (show ¬ (σ.1 20) = 0 → (τ29.1 20) = (σ.1 20) from by (first | omega | (simp only [st_s] <;> omega) | assumption | omega | fail)), (show τ29.2.1 14 (τ29.1 22) + τ29.2.1 15 (τ29.1 22) = (τ29.1 6) from Z1), (show ca (τ29.2.1 12) ((τ29.1 3)) ≤ (τ29.1 4) from Y20), ag, (show (τ29.1 20) = 0 → n_N (τ29.2.1 14 (τ29.1 22)) (τ29.2.1 14 (τ29.1 22) + τ29.2.1 15 (τ29.1 22)) (σ.1 3) (σ.2.1 8) (σ.2.1 11) (τ29.2.1 12) (τ29.2.1 16) (τ29.2.1 17) from by (first | (intro z; exfalso; omega) | (intro _; rw [show τ41.2.1 14 (τ41.1 22) = σ.1 6 from by omega, show σ.1 6 + τ41.2.1 15 (τ41.1 22) = σ.1 6 + 1 from by omega]; exact n_N_1 q39_4 q39_5 (by omega) (x3lt (by omega)) (by rw [g12_τ41, st_s]; decide)) | fail)), (show n_rl σ τ29 from by (first | exact n_rl_h hf_τ11 rfl rfl | exact n_rl_h hf_τ20 rfl rfl | exact n_rl_h hf_τ29 rfl rfl | exact n_rl_h hf_τ36 rfl rfl | exact ⟨fun s _ _ _ => by rw [g10_τ41], fun s _ _ h => by (rw [g12_τ41]; by_cases z : s = x3; (rw [z, st_s]; decide); (rw [st_n _ _ z]; exact h)), Or.inl (by omega), Or.inl (by omega), by omega, fun zt s a b => by (rw [g10_τ41]; have h3 := zt s a (by omega); omega)⟩ | fail)), (show ∀ s : Int, ¬ σ.2.1 12 s = 0 → ¬ τ29.2.1 12 s = 0 from by (first | exact fun s h => by (rw [G12]; exact h) | exact fun s h => by (rw [g12_τ41]; by_cases z : s = x3; (rw [z, st_s]; decide); (rw [st_n _ _ z]; exact h)) | (intro s h; first | (rw [hf_τ11.2.1 12 (by decide)]; exact h) | (rw [hf_τ20.2.1 12 (by decide)]; exact h) | (rw [hf_τ29.2.1 12 (by decide)]; exact h) | (rw [hf_τ36.2.1 12 (by decide)]; exact h)) | fail))⟩
            ·
              refine h71 _ ?_
              refine ⟨_, K_X13_failHere hT (show 0 ≤ (5 : Int) from by (first | omega | (simp only [st_s] <;> omega) | assumption | omega | fail)) (show (5 : Int) ≤ 19 from by (first | omega | (simp only [st_s] <;> omega) | assumption | omega | fail)), ?_⟩
              intro τ20 hn_τ20 hf_τ20 hq
              obtain ⟨hT, q18_1, q18_2⟩ := hq
              replace q18_1 : ¬ (σ.1 20) = 0 → (τ20.1 20) = (σ.1 20) := q18_1
              replace q18_2 : (σ.1 20) = 0 → (τ20.1 20) = (5 : Int) := q18_2
              replace ag : m_ag σ τ20 := ag_r ag hf_τ20 rfl rfl
              have w0_τ20 : τ20.1 0 = σ.1 0 := hf_τ20.1 0 (by decide)
              have w3_τ20 : τ20.1 3 = σ.1 3 := hf_τ20.1 3 (by decide)
              have w4_τ20 : τ20.1 4 = σ.1 4 := hf_τ20.1 4 (by decide)
              have w5_τ20 : τ20.1 5 = σ.1 5 := hf_τ20.1 5 (by decide)
              have w6_τ20 : τ20.1 6 = σ.1 6 := hf_τ20.1 6 (by decide)
              have w7_τ20 : τ20.1 7 = σ.1 7 := hf_τ20.1 7 (by decide)
              have w8_τ20 : τ20.1 8 = σ.1 8 := hf_τ20.1 8 (by decide)
              have w9_τ20 : τ20.1 9 = σ.1 9 := hf_τ20.1 9 (by decide)
              have w10_τ20 : τ20.1 10 = σ.1 10 := hf_τ20.1 10 (by decide)
              have w11_τ20 : τ20.1 11 = σ.1 11 := hf_τ20.1 11 (by decide)
              have w17_τ20 : τ20.1 17 = σ.1 17 := hf_τ20.1 17 (by decide)
              have w18_τ20 : τ20.1 18 = σ.1 18 := hf_τ20.1 18 (by decide)
              have w19_τ20 : τ20.1 19 = σ.1 19 := hf_τ20.1 19 (by decide)
              have w22_τ20 : τ20.1 22 = σ.1 22 := hf_τ20.1 22 (by decide)
              have g6_τ20 : τ20.2.1 6 = σ.2.1 6 := hf_τ20.2.1 6 (by decide)
              have g8_τ20 : τ20.2.1 8 = σ.2.1 8 := hf_τ20.2.1 8 (by decide)
              have g10_τ20 : τ20.2.1 10 = σ.2.1 10 := hf_τ20.2.1 10 (by decide)
              have g11_τ20 : τ20.2.1 11 = σ.2.1 11 := hf_τ20.2.1 11 (by decide)
              have g12_τ20 : τ20.2.1 12 = σ.2.1 12 := hf_τ20.2.1 12 (by decide)
              have g14_τ20 : τ20.2.1 14 = σ.2.1 14 := hf_τ20.2.1 14 (by decide)
              have g15_τ20 : τ20.2.1 15 = σ.2.1 15 := hf_τ20.2.1 15 (by decide)
              have g16_τ20 : τ20.2.1 16 = σ.2.1 16 := hf_τ20.2.1 16 (by decide)
              have g17_τ20 : τ20.2.1 17 = σ.2.1 17 := hf_τ20.2.1 17 (by decide)
              first | (have o6_τ20 := congrArg oc g6_τ20) | skip
              have W0 : τ20.1 0 = σ.1 0 := by first | exact w0_τ20.trans W0 | omega
              have W3 : τ20.1 3 = σ.1 3 := by first | exact w3_τ20.trans W3 | omega
              have W5 : τ20.1 5 = σ.1 5 := by first | exact w5_τ20.trans W5 | omega
              have W7 : τ20.1 7 = σ.1 7 := by first | exact w7_τ20.trans W7 | omega
              have W8 : τ20.1 8 = σ.1 8 := by first | exact w8_τ20.trans W8 | omega
              have W9 : τ20.1 9 = σ.1 9 := by first | exact w9_τ20.trans W9 | omega
              have W10 : τ20.1 10 = σ.1 10 := by first | exact w10_τ20.trans W10 | omega
              have W11 : τ20.1 11 = σ.1 11 := by first | exact w11_τ20.trans W11 | omega
              have W17 : τ20.1 17 = σ.1 17 := by first | exact w17_τ20.trans W17 | omega
              have W18 : τ20.1 18 = σ.1 18 := by first | exact w18_τ20.trans W18 | omega
              have W19 : τ20.1 19 = σ.1 19 := by first | exact w19_τ20.trans W19 | omega
              have W22 : τ20.1 22 = σ.1 22 := by first | exact w22_τ20.trans W22 | omega
              have G6 : τ20.2.1 6 = σ.2.1 6 := (g6_τ20).trans G6
              have G8 : τ20.2.1 8 = σ.2.1 8 := (g8_τ20).trans G8
              have G10 : τ20.2.1 10 = σ.2.1 10 := (g10_τ20).trans G10
              have G11 : τ20.2.1 11 = σ.2.1 11 := (g11_τ20).trans G11
              have G14 : τ20.2.1 14 = σ.2.1 14 := (g14_τ20).trans G14
              have y14_22_τ20 : τ20.2.1 14 (τ20.1 22) = (σ.2.1 14) (σ.1 22) := by rw [g14_τ20, w22_τ20]
              have y15_22_τ20 : τ20.2.1 15 (τ20.1 22) = (σ.2.1 15) (σ.1 22) := by rw [g15_τ20, w22_τ20]
              have Z1 : τ20.2.1 14 (τ20.1 22) + τ20.2.1 15 (τ20.1 22) = (τ20.1 6) := by rw [show (τ20.2.1 14 (τ20.1 22) + τ20.2.1 15 (τ20.1 22) = (τ20.1 6)) = (σ.2.1 14 (σ.1 22) + σ.2.1 15 (σ.1 22) = (σ.1 6)) from by rw [w6_τ20, w22_τ20, g14_τ20, g15_τ20]]; exact Z1
              have Y20 : ca (τ20.2.1 12) ((τ20.1 3)) ≤ (τ20.1 4) := by rw [show (ca (τ20.2.1 12) ((τ20.1 3)) ≤ (τ20.1 4)) = (ca (σ.2.1 12) ((σ.1 3)) ≤ (σ.1 4)) from by rw [w3_τ20, w4_τ20, g12_τ20]]; exact Y20
              have Y1 : j_l2 (τ20.2.1 6) (τ20.1 3) := by rw [show (j_l2 (τ20.2.1 6) (τ20.1 3)) = (j_l2 (σ.2.1 6) (σ.1 3)) from by rw [w3_τ20, g6_τ20]]; exact Y1
              have STt : j_l2 (τ20.2.1 6) (τ20.1 3) := by rw [show (j_l2 (τ20.2.1 6) (τ20.1 3)) = (j_l2 (σ.2.1 6) (σ.1 3)) from by rw [w3_τ20, g6_τ20]]; exact STt
              have A6 : ∀ j, (-1) ≤ τ20.2.1 6 j ∧ τ20.2.1 6 j ≤ 999 := fun j => hT.2 6 j
              have A8 : ∀ j, 0 ≤ τ20.2.1 8 j ∧ τ20.2.1 8 j ≤ 1 := fun j => hT.2 8 j
              have A10 : ∀ j, (-1) ≤ τ20.2.1 10 j ∧ τ20.2.1 10 j ≤ 999 := fun j => hT.2 10 j
              have A11 : ∀ j, (-1) ≤ τ20.2.1 11 j ∧ τ20.2.1 11 j ≤ 1499 := fun j => hT.2 11 j
              have A12 : ∀ j, 0 ≤ τ20.2.1 12 j ∧ τ20.2.1 12 j ≤ 1 := fun j => hT.2 12 j
              have A14 : ∀ j, 0 ≤ τ20.2.1 14 j ∧ τ20.2.1 14 j ≤ 30000 := fun j => hT.2 14 j
              have A15 : ∀ j, 0 ≤ τ20.2.1 15 j ∧ τ20.2.1 15 j ≤ 300 := fun j => hT.2 15 j
              have A16 : ∀ j, 0 ≤ τ20.2.1 16 j ∧ τ20.2.1 16 j ≤ 999 := fun j => hT.2 16 j
              have A17 : ∀ j, (-1) ≤ τ20.2.1 17 j ∧ τ20.2.1 17 j ≤ 1499 := fun j => hT.2 17 j
              have v0 : 0 ≤ τ20.1 0 ∧ τ20.1 0 ≤ 60000 := hT.1 0
              have v3 : 0 ≤ τ20.1 3 ∧ τ20.1 3 ≤ 1000 := hT.1 3
              have v4 : 0 ≤ τ20.1 4 ∧ τ20.1 4 ≤ 100 := hT.1 4
              have v5 : 0 ≤ τ20.1 5 ∧ τ20.1 5 ≤ 1500 := hT.1 5
              have v6 : 0 ≤ τ20.1 6 ∧ τ20.1 6 ≤ 30000 := hT.1 6
              have v7 : 0 ≤ τ20.1 7 ∧ τ20.1 7 ≤ 90000 := hT.1 7
              have v8 : 0 ≤ τ20.1 8 ∧ τ20.1 8 ≤ 20000 := hT.1 8
              have v9 : 0 ≤ τ20.1 9 ∧ τ20.1 9 ≤ 20000 := hT.1 9
              have v10 : (-1) ≤ τ20.1 10 ∧ τ20.1 10 ≤ 999 := hT.1 10
              have v11 : (-1) ≤ τ20.1 11 ∧ τ20.1 11 ≤ 999 := hT.1 11
              have v17 : 0 ≤ τ20.1 17 ∧ τ20.1 17 ≤ 60000 := hT.1 17
              have v18 : 0 ≤ τ20.1 18 ∧ τ20.1 18 ≤ 60000 := hT.1 18
              have v19 : (-1) ≤ τ20.1 19 ∧ τ20.1 19 ≤ 125 := hT.1 19
              have v20 : 0 ≤ τ20.1 20 ∧ τ20.1 20 ≤ 19 := hT.1 20
              have v22 : 0 ≤ τ20.1 22 ∧ τ20.1 22 ≤ 1499 := hT.1 22
              have a14_22 : 0 ≤ τ20.2.1 14 (τ20.1 22) ∧ τ20.2.1 14 (τ20.1 22) ≤ 30000 := hT.2 14 _
              have a15_22 : 0 ≤ τ20.2.1 15 (τ20.1 22) ∧ τ20.2.1 15 (τ20.1 22) ≤ 300 := hT.2 15 _
              have av6 : σ.1 6 ≤ τ20.1 6 := ag.1 6 (by decide)
              exact ⟨hT, (show (τ20.1 20) = 0 → τ20.2.1 15 (τ20.1 22) = 1 from by (first | omega | (simp only [st_s] <;> omega) | assumption | omega | fail)), (show τ20.2.1 15 (τ20.1 22) ≤ 1 from by (first | omega | (simp only [st_s] <;> omega) | assumption | omega | fail)), (show ¬ (σ.1 20) = 0 → (τ20.1 20) = (σ.1 20) from by (first | omega | (simp only [st_s] <;> omega) | assumption | omega | fail)), (show τ20.2.1 14 (τ20.1 22) + τ20.2.1 15 (τ20.1 22) = (τ20.1 6) from Z1), (show ca (τ20.2.1 12) ((τ20.1 3)) ≤ (τ20.1 4) from Y20), ag, (show (τ20.1 20) = 0 → n_N (τ20.2.1 14 (τ20.1 22)) (τ20.2.1 14 (τ20.1 22) + τ20.2.1 15 (τ20.1 22)) (σ.1 3) (σ.2.1 8) (σ.2.1 11) (τ20.2.1 12) (τ20.2.1 16) (τ20.2.1 17) from by (first | (intro z; exfalso; omega) | (intro _; rw [show τ41.2.1 14 (τ41.1 22) = σ.1 6 from by omega, show σ.1 6 + τ41.2.1 15 (τ41.1 22) = σ.1 6 + 1 from by omega]; exact n_N_1 q39_4 q39_5 (by omega) (x3lt (by omega)) (by rw [g12_τ41, st_s]; decide)) | fail)), (show n_rl σ τ20 from by (first | exact n_rl_h hf_τ11 rfl rfl | exact n_rl_h hf_τ20 rfl rfl | exact n_rl_h hf_τ29 rfl rfl | exact n_rl_h hf_τ36 rfl rfl | exact ⟨fun s _ _ _ => by rw [g10_τ41], fun s _ _ h => by (rw [g12_τ41]; by_cases z : s = x3; (rw [z, st_s]; decide); (rw [st_n _ _ z]; exact h)), Or.inl (by omega), Or.inl (by omega), by omega, fun zt s a b => by (rw [g10_τ41]; have h3 := zt s a (by omega); omega)⟩ | fail)), (show ∀ s : Int, ¬ σ.2.1 12 s = 0 → ¬ τ20.2.1 12 s = 0 from by (first | exact fun s h => by (rw [G12]; exact h) | exact fun s h => by (rw [g12_τ41]; by_cases z : s = x3; (rw [z, st_s]; decide); (rw [st_n _ _ z]; exact h)) | (intro s h; first | (rw [hf_τ11.2.1 12 (by decide)]; exact h) | (rw [hf_τ20.2.1 12 (by decide)]; exact h) | (rw [hf_τ29.2.1 12 (by decide)]; exact h) | (rw [hf_τ36.2.1 12 (by decide)]; exact h)) | fail))⟩
    ·
      refine ⟨(show 0 ≤ x3 ∧ x3 < 1001 from by (first | omega | (simp only [st_s] <;> omega) | assumption | omega | fail)), ?_⟩
      intro x7 r_x7 e_x7
      have b_x7 : 0 ≤ x7 ∧ x7 ≤ 1 := by rw [e_x7]; exact hT.2 8 _
      refine ⟨fun c8 => ?_, fun c8 => ?_⟩
      ·
        refine h38 _ _ _ ?_
        refine ⟨fun c12 => ?_, fun c12 => ?_⟩
        ·
          refine h71 _ ?_
          refine ⟨_, K_X13_failHere hT (show 0 ≤ (5 : Int) from by (first | omega | (simp only [st_s] <;> omega) | assumption | omega | fail)) (show (5 : Int) ≤ 19 from by (first | omega | (simp only [st_s] <;> omega) | assumption | omega | fail)), ?_⟩
          intro τ20 hn_τ20 hf_τ20 hq
          obtain ⟨hT, q18_1, q18_2⟩ := hq
          replace q18_1 : ¬ (σ.1 20) = 0 → (τ20.1 20) = (σ.1 20) := q18_1
          replace q18_2 : (σ.1 20) = 0 → (τ20.1 20) = (5 : Int) := q18_2
          replace ag : m_ag σ τ20 := ag_r ag hf_τ20 rfl rfl
          have w0_τ20 : τ20.1 0 = σ.1 0 := hf_τ20.1 0 (by decide)
          have w3_τ20 : τ20.1 3 = σ.1 3 := hf_τ20.1 3 (by decide)
          have w4_τ20 : τ20.1 4 = σ.1 4 := hf_τ20.1 4 (by decide)
          have w5_τ20 : τ20.1 5 = σ.1 5 := hf_τ20.1 5 (by decide)
          have w6_τ20 : τ20.1 6 = σ.1 6 := hf_τ20.1 6 (by decide)
          have w7_τ20 : τ20.1 7 = σ.1 7 := hf_τ20.1 7 (by decide)
          have w8_τ20 : τ20.1 8 = σ.1 8 := hf_τ20.1 8 (by decide)
          have w9_τ20 : τ20.1 9 = σ.1 9 := hf_τ20.1 9 (by decide)
          have w10_τ20 : τ20.1 10 = σ.1 10 := hf_τ20.1 10 (by decide)
          have w11_τ20 : τ20.1 11 = σ.1 11 := hf_τ20.1 11 (by decide)
          have w17_τ20 : τ20.1 17 = σ.1 17 := hf_τ20.1 17 (by decide)
          have w18_τ20 : τ20.1 18 = σ.1 18 := hf_τ20.1 18 (by decide)
          have w19_τ20 : τ20.1 19 = σ.1 19 := hf_τ20.1 19 (by decide)
          have w22_τ20 : τ20.1 22 = σ.1 22 := hf_τ20.1 22 (by decide)
          have g6_τ20 : τ20.2.1 6 = σ.2.1 6 := hf_τ20.2.1 6 (by decide)
          have g8_τ20 : τ20.2.1 8 = σ.2.1 8 := hf_τ20.2.1 8 (by decide)
          have g10_τ20 : τ20.2.1 10 = σ.2.1 10 := hf_τ20.2.1 10 (by decide)
          have g11_τ20 : τ20.2.1 11 = σ.2.1 11 := hf_τ20.2.1 11 (by decide)
          have g12_τ20 : τ20.2.1 12 = σ.2.1 12 := hf_τ20.2.1 12 (by decide)
          have g14_τ20 : τ20.2.1 14 = σ.2.1 14 := hf_τ20.2.1 14 (by decide)
          have g15_τ20 : τ20.2.1 15 = σ.2.1 15 := hf_τ20.2.1 15 (by decide)
          have g16_τ20 : τ20.2.1 16 = σ.2.1 16 := hf_τ20.2.1 16 (by decide)
          have g17_τ20 : τ20.2.1 17 = σ.2.1 17 := hf_τ20.2.1 17 (by decide)
          first | (have o6_τ20 := congrArg oc g6_τ20) | skip
          have W0 : τ20.1 0 = σ.1 0 := by first | exact w0_τ20.trans W0 | omega
          have W3 : τ20.1 3 = σ.1 3 := by first | exact w3_τ20.trans W3 | omega
          have W5 : τ20.1 5 = σ.1 5 := by first | exact w5_τ20.trans W5 | omega
          have W7 : τ20.1 7 = σ.1 7 := by first | exact w7_τ20.trans W7 | omega
          have W8 : τ20.1 8 = σ.1 8 := by first | exact w8_τ20.trans W8 | omega
          have W9 : τ20.1 9 = σ.1 9 := by first | exact w9_τ20.trans W9 | omega
          have W10 : τ20.1 10 = σ.1 10 := by first | exact w10_τ20.trans W10 | omega
          have W11 : τ20.1 11 = σ.1 11 := by first | exact w11_τ20.trans W11 | omega
          have W17 : τ20.1 17 = σ.1 17 := by first | exact w17_τ20.trans W17 | omega
          have W18 : τ20.1 18 = σ.1 18 := by first | exact w18_τ20.trans W18 | omega
          have W19 : τ20.1 19 = σ.1 19 := by first | exact w19_τ20.trans W19 | omega
          have W22 : τ20.1 22 = σ.1 22 := by first | exact w22_τ20.trans W22 | omega
          have G6 : τ20.2.1 6 = σ.2.1 6 := (g6_τ20).trans G6
          have G8 : τ20.2.1 8 = σ.2.1 8 := (g8_τ20).trans G8
          have G10 : τ20.2.1 10 = σ.2.1 10 := (g10_τ20).trans G10
          have G11 : τ20.2.1 11 = σ.2.1 11 := (g11_τ20).trans G11
          have G14 : τ20.2.1 14 = σ.2.1 14 := (g14_τ20).trans G14
          have y14_22_τ20 : τ20.2.1 14 (τ20.1 22) = (σ.2.1 14) (σ.1 22) := by rw [g14_τ20, w22_τ20]
          have y15_22_τ20 : τ20.2.1 15 (τ20.1 22) = (σ.2.1 15) (σ.1 22) := by rw [g15_τ20, w22_τ20]
          have Z1 : τ20.2.1 14 (τ20.1 22) + τ20.2.1 15 (τ20.1 22) = (τ20.1 6) := by rw [show (τ20.2.1 14 (τ20.1 22) + τ20.2.1 15 (τ20.1 22) = (τ20.1 6)) = (σ.2.1 14 (σ.1 22) + σ.2.1 15 (σ.1 22) = (σ.1 6)) from by rw [w6_τ20, w22_τ20, g14_τ20, g15_τ20]]; exact Z1
          have Y20 : ca (τ20.2.1 12) ((τ20.1 3)) ≤ (τ20.1 4) := by rw [show (ca (τ20.2.1 12) ((τ20.1 3)) ≤ (τ20.1 4)) = (ca (σ.2.1 12) ((σ.1 3)) ≤ (σ.1 4)) from by rw [w3_τ20, w4_τ20, g12_τ20]]; exact Y20
          have Y1 : j_l2 (τ20.2.1 6) (τ20.1 3) := by rw [show (j_l2 (τ20.2.1 6) (τ20.1 3)) = (j_l2 (σ.2.1 6) (σ.1 3)) from by rw [w3_τ20, g6_τ20]]; exact Y1
          have STt : j_l2 (τ20.2.1 6) (τ20.1 3) := by rw [show (j_l2 (τ20.2.1 6) (τ20.1 3)) = (j_l2 (σ.2.1 6) (σ.1 3)) from by rw [w3_τ20, g6_τ20]]; exact STt
          have A6 : ∀ j, (-1) ≤ τ20.2.1 6 j ∧ τ20.2.1 6 j ≤ 999 := fun j => hT.2 6 j
          have A8 : ∀ j, 0 ≤ τ20.2.1 8 j ∧ τ20.2.1 8 j ≤ 1 := fun j => hT.2 8 j
          have A10 : ∀ j, (-1) ≤ τ20.2.1 10 j ∧ τ20.2.1 10 j ≤ 999 := fun j => hT.2 10 j
          have A11 : ∀ j, (-1) ≤ τ20.2.1 11 j ∧ τ20.2.1 11 j ≤ 1499 := fun j => hT.2 11 j
          have A12 : ∀ j, 0 ≤ τ20.2.1 12 j ∧ τ20.2.1 12 j ≤ 1 := fun j => hT.2 12 j
          have A14 : ∀ j, 0 ≤ τ20.2.1 14 j ∧ τ20.2.1 14 j ≤ 30000 := fun j => hT.2 14 j
          have A15 : ∀ j, 0 ≤ τ20.2.1 15 j ∧ τ20.2.1 15 j ≤ 300 := fun j => hT.2 15 j
          have A16 : ∀ j, 0 ≤ τ20.2.1 16 j ∧ τ20.2.1 16 j ≤ 999 := fun j => hT.2 16 j
          have A17 : ∀ j, (-1) ≤ τ20.2.1 17 j ∧ τ20.2.1 17 j ≤ 1499 := fun j => hT.2 17 j
          have v0 : 0 ≤ τ20.1 0 ∧ τ20.1 0 ≤ 60000 := hT.1 0
          have v3 : 0 ≤ τ20.1 3 ∧ τ20.1 3 ≤ 1000 := hT.1 3
          have v4 : 0 ≤ τ20.1 4 ∧ τ20.1 4 ≤ 100 := hT.1 4
          have v5 : 0 ≤ τ20.1 5 ∧ τ20.1 5 ≤ 1500 := hT.1 5
          have v6 : 0 ≤ τ20.1 6 ∧ τ20.1 6 ≤ 30000 := hT.1 6
          have v7 : 0 ≤ τ20.1 7 ∧ τ20.1 7 ≤ 90000 := hT.1 7
          have v8 : 0 ≤ τ20.1 8 ∧ τ20.1 8 ≤ 20000 := hT.1 8
          have v9 : 0 ≤ τ20.1 9 ∧ τ20.1 9 ≤ 20000 := hT.1 9
          have v10 : (-1) ≤ τ20.1 10 ∧ τ20.1 10 ≤ 999 := hT.1 10
          have v11 : (-1) ≤ τ20.1 11 ∧ τ20.1 11 ≤ 999 := hT.1 11
          have v17 : 0 ≤ τ20.1 17 ∧ τ20.1 17 ≤ 60000 := hT.1 17
          have v18 : 0 ≤ τ20.1 18 ∧ τ20.1 18 ≤ 60000 := hT.1 18
          have v19 : (-1) ≤ τ20.1 19 ∧ τ20.1 19 ≤ 125 := hT.1 19
          have v20 : 0 ≤ τ20.1 20 ∧ τ20.1 20 ≤ 19 := hT.1 20
          have v22 : 0 ≤ τ20.1 22 ∧ τ20.1 22 ≤ 1499 := hT.1 22
          have a14_22 : 0 ≤ τ20.2.1 14 (τ20.1 22) ∧ τ20.2.1 14 (τ20.1 22) ≤ 30000 := hT.2 14 _
          have a15_22 : 0 ≤ τ20.2.1 15 (τ20.1 22) ∧ τ20.2.1 15 (τ20.1 22) ≤ 300 := hT.2 15 _
          have av6 : σ.1 6 ≤ τ20.1 6 := ag.1 6 (by decide)
          exact ⟨hT, (show (τ20.1 20) = 0 → τ20.2.1 15 (τ20.1 22) = 1 from by (first | omega | (simp only [st_s] <;> omega) | assumption | omega | fail)), (show τ20.2.1 15 (τ20.1 22) ≤ 1 from by (first | omega | (simp only [st_s] <;> omega) | assumption | omega | fail)), (show ¬ (σ.1 20) = 0 → (τ20.1 20) = (σ.1 20) from by (first | omega | (simp only [st_s] <;> omega) | assumption | omega | fail)), (show τ20.2.1 14 (τ20.1 22) + τ20.2.1 15 (τ20.1 22) = (τ20.1 6) from Z1), (show ca (τ20.2.1 12) ((τ20.1 3)) ≤ (τ20.1 4) from Y20), ag, (show (τ20.1 20) = 0 → n_N (τ20.2.1 14 (τ20.1 22)) (τ20.2.1 14 (τ20.1 22) + τ20.2.1 15 (τ20.1 22)) (σ.1 3) (σ.2.1 8) (σ.2.1 11) (τ20.2.1 12) (τ20.2.1 16) (τ20.2.1 17) from by (first | (intro z; exfalso; omega) | (intro _; rw [show τ41.2.1 14 (τ41.1 22) = σ.1 6 from by omega, show σ.1 6 + τ41.2.1 15 (τ41.1 22) = σ.1 6 + 1 from by omega]; exact n_N_1 q39_4 q39_5 (by omega) (x3lt (by omega)) (by rw [g12_τ41, st_s]; decide)) | fail)), (show n_rl σ τ20 from by (first | exact n_rl_h hf_τ11 rfl rfl | exact n_rl_h hf_τ20 rfl rfl | exact n_rl_h hf_τ29 rfl rfl | exact n_rl_h hf_τ36 rfl rfl | exact ⟨fun s _ _ _ => by rw [g10_τ41], fun s _ _ h => by (rw [g12_τ41]; by_cases z : s = x3; (rw [z, st_s]; decide); (rw [st_n _ _ z]; exact h)), Or.inl (by omega), Or.inl (by omega), by omega, fun zt s a b => by (rw [g10_τ41]; have h3 := zt s a (by omega); omega)⟩ | fail)), (show ∀ s : Int, ¬ σ.2.1 12 s = 0 → ¬ τ20.2.1 12 s = 0 from by (first | exact fun s h => by (rw [G12]; exact h) | exact fun s h => by (rw [g12_τ41]; by_cases z : s = x3; (rw [z, st_s]; decide); (rw [st_n _ _ z]; exact h)) | (intro s h; first | (rw [hf_τ11.2.1 12 (by decide)]; exact h) | (rw [hf_τ20.2.1 12 (by decide)]; exact h) | (rw [hf_τ29.2.1 12 (by decide)]; exact h) | (rw [hf_τ36.2.1 12 (by decide)]; exact h)) | fail))⟩
        ·
          refine ⟨fun c13 => ?_, fun c13 => ?_⟩
          ·
            refine h79 _ _ _ ?_
            refine ⟨fun c21 => ?_, fun c21 => ?_⟩
            ·
              refine h102 _ ?_
              refine ⟨_, K_X13_failHere hT (show 0 ≤ (9 : Int) from by (first | omega | (simp only [st_s] <;> omega) | assumption | omega | fail)) (show (9 : Int) ≤ 19 from by (first | omega | (simp only [st_s] <;> omega) | assumption | omega | fail)), ?_⟩
              intro τ29 hn_τ29 hf_τ29 hq
              obtain ⟨hT, q27_1, q27_2⟩ := hq
              replace q27_1 : ¬ (σ.1 20) = 0 → (τ29.1 20) = (σ.1 20) := q27_1
              replace q27_2 : (σ.1 20) = 0 → (τ29.1 20) = (9 : Int) := q27_2
              replace ag : m_ag σ τ29 := ag_r ag hf_τ29 rfl rfl
              have w0_τ29 : τ29.1 0 = σ.1 0 := hf_τ29.1 0 (by decide)
              have w3_τ29 : τ29.1 3 = σ.1 3 := hf_τ29.1 3 (by decide)
              have w4_τ29 : τ29.1 4 = σ.1 4 := hf_τ29.1 4 (by decide)
              have w5_τ29 : τ29.1 5 = σ.1 5 := hf_τ29.1 5 (by decide)
              have w6_τ29 : τ29.1 6 = σ.1 6 := hf_τ29.1 6 (by decide)
              have w7_τ29 : τ29.1 7 = σ.1 7 := hf_τ29.1 7 (by decide)
              have w8_τ29 : τ29.1 8 = σ.1 8 := hf_τ29.1 8 (by decide)
              have w9_τ29 : τ29.1 9 = σ.1 9 := hf_τ29.1 9 (by decide)
              have w10_τ29 : τ29.1 10 = σ.1 10 := hf_τ29.1 10 (by decide)
              have w11_τ29 : τ29.1 11 = σ.1 11 := hf_τ29.1 11 (by decide)
              have w17_τ29 : τ29.1 17 = σ.1 17 := hf_τ29.1 17 (by decide)
              have w18_τ29 : τ29.1 18 = σ.1 18 := hf_τ29.1 18 (by decide)
              have w19_τ29 : τ29.1 19 = σ.1 19 := hf_τ29.1 19 (by decide)
              have w22_τ29 : τ29.1 22 = σ.1 22 := hf_τ29.1 22 (by decide)
              have g6_τ29 : τ29.2.1 6 = σ.2.1 6 := hf_τ29.2.1 6 (by decide)
              have g8_τ29 : τ29.2.1 8 = σ.2.1 8 := hf_τ29.2.1 8 (by decide)
              have g10_τ29 : τ29.2.1 10 = σ.2.1 10 := hf_τ29.2.1 10 (by decide)
              have g11_τ29 : τ29.2.1 11 = σ.2.1 11 := hf_τ29.2.1 11 (by decide)
              have g12_τ29 : τ29.2.1 12 = σ.2.1 12 := hf_τ29.2.1 12 (by decide)
              have g14_τ29 : τ29.2.1 14 = σ.2.1 14 := hf_τ29.2.1 14 (by decide)
              have g15_τ29 : τ29.2.1 15 = σ.2.1 15 := hf_τ29.2.1 15 (by decide)
              have g16_τ29 : τ29.2.1 16 = σ.2.1 16 := hf_τ29.2.1 16 (by decide)
              have g17_τ29 : τ29.2.1 17 = σ.2.1 17 := hf_τ29.2.1 17 (by decide)
              first | (have o6_τ29 := congrArg oc g6_τ29) | skip
              have W0 : τ29.1 0 = σ.1 0 := by first | exact w0_τ29.trans W0 | omega
              have W3 : τ29.1 3 = σ.1 3 := by first | exact w3_τ29.trans W3 | omega
              have W5 : τ29.1 5 = σ.1 5 := by first | exact w5_τ29.trans W5 | omega
              have W7 : τ29.1 7 = σ.1 7 := by first | exact w7_τ29.trans W7 | omega
              have W8 : τ29.1 8 = σ.1 8 := by first | exact w8_τ29.trans W8 | omega
              have W9 : τ29.1 9 = σ.1 9 := by first | exact w9_τ29.trans W9 | omega
              have W10 : τ29.1 10 = σ.1 10 := by first | exact w10_τ29.trans W10 | omega
              have W11 : τ29.1 11 = σ.1 11 := by first | exact w11_τ29.trans W11 | omega
              have W17 : τ29.1 17 = σ.1 17 := by first | exact w17_τ29.trans W17 | omega
              have W18 : τ29.1 18 = σ.1 18 := by first | exact w18_τ29.trans W18 | omega
              have W19 : τ29.1 19 = σ.1 19 := by first | exact w19_τ29.trans W19 | omega
              have W22 : τ29.1 22 = σ.1 22 := by first | exact w22_τ29.trans W22 | omega
              have G6 : τ29.2.1 6 = σ.2.1 6 := (g6_τ29).trans G6
              have G8 : τ29.2.1 8 = σ.2.1 8 := (g8_τ29).trans G8
              have G10 : τ29.2.1 10 = σ.2.1 10 := (g10_τ29).trans G10
              have G11 : τ29.2.1 11 = σ.2.1 11 := (g11_τ29).trans G11
              have G14 : τ29.2.1 14 = σ.2.1 14 := (g14_τ29).trans G14
              have y14_22_τ29 : τ29.2.1 14 (τ29.1 22) = (σ.2.1 14) (σ.1 22) := by rw [g14_τ29, w22_τ29]
              have y15_22_τ29 : τ29.2.1 15 (τ29.1 22) = (σ.2.1 15) (σ.1 22) := by rw [g15_τ29, w22_τ29]
              have Z1 : τ29.2.1 14 (τ29.1 22) + τ29.2.1 15 (τ29.1 22) = (τ29.1 6) := by rw [show (τ29.2.1 14 (τ29.1 22) + τ29.2.1 15 (τ29.1 22) = (τ29.1 6)) = (σ.2.1 14 (σ.1 22) + σ.2.1 15 (σ.1 22) = (σ.1 6)) from by rw [w6_τ29, w22_τ29, g14_τ29, g15_τ29]]; exact Z1
              have Y20 : ca (τ29.2.1 12) ((τ29.1 3)) ≤ (τ29.1 4) := by rw [show (ca (τ29.2.1 12) ((τ29.1 3)) ≤ (τ29.1 4)) = (ca (σ.2.1 12) ((σ.1 3)) ≤ (σ.1 4)) from by rw [w3_τ29, w4_τ29, g12_τ29]]; exact Y20
              have Y1 : j_l2 (τ29.2.1 6) (τ29.1 3) := by rw [show (j_l2 (τ29.2.1 6) (τ29.1 3)) = (j_l2 (σ.2.1 6) (σ.1 3)) from by rw [w3_τ29, g6_τ29]]; exact Y1
              have STt : j_l2 (τ29.2.1 6) (τ29.1 3) := by rw [show (j_l2 (τ29.2.1 6) (τ29.1 3)) = (j_l2 (σ.2.1 6) (σ.1 3)) from by rw [w3_τ29, g6_τ29]]; exact STt
              have A6 : ∀ j, (-1) ≤ τ29.2.1 6 j ∧ τ29.2.1 6 j ≤ 999 := fun j => hT.2 6 j
              have A8 : ∀ j, 0 ≤ τ29.2.1 8 j ∧ τ29.2.1 8 j ≤ 1 := fun j => hT.2 8 j
              have A10 : ∀ j, (-1) ≤ τ29.2.1 10 j ∧ τ29.2.1 10 j ≤ 999 := fun j => hT.2 10 j
              have A11 : ∀ j, (-1) ≤ τ29.2.1 11 j ∧ τ29.2.1 11 j ≤ 1499 := fun j => hT.2 11 j
              have A12 : ∀ j, 0 ≤ τ29.2.1 12 j ∧ τ29.2.1 12 j ≤ 1 := fun j => hT.2 12 j
              have A14 : ∀ j, 0 ≤ τ29.2.1 14 j ∧ τ29.2.1 14 j ≤ 30000 := fun j => hT.2 14 j
              have A15 : ∀ j, 0 ≤ τ29.2.1 15 j ∧ τ29.2.1 15 j ≤ 300 := fun j => hT.2 15 j
              have A16 : ∀ j, 0 ≤ τ29.2.1 16 j ∧ τ29.2.1 16 j ≤ 999 := fun j => hT.2 16 j
              have A17 : ∀ j, (-1) ≤ τ29.2.1 17 j ∧ τ29.2.1 17 j ≤ 1499 := fun j => hT.2 17 j
              have v0 : 0 ≤ τ29.1 0 ∧ τ29.1 0 ≤ 60000 := hT.1 0
              have v3 : 0 ≤ τ29.1 3 ∧ τ29.1 3 ≤ 1000 := hT.1 3
              have v4 : 0 ≤ τ29.1 4 ∧ τ29.1 4 ≤ 100 := hT.1 4
              have v5 : 0 ≤ τ29.1 5 ∧ τ29.1 5 ≤ 1500 := hT.1 5
              have v6 : 0 ≤ τ29.1 6 ∧ τ29.1 6 ≤ 30000 := hT.1 6
              have v7 : 0 ≤ τ29.1 7 ∧ τ29.1 7 ≤ 90000 := hT.1 7
              have v8 : 0 ≤ τ29.1 8 ∧ τ29.1 8 ≤ 20000 := hT.1 8
              have v9 : 0 ≤ τ29.1 9 ∧ τ29.1 9 ≤ 20000 := hT.1 9
              have v10 : (-1) ≤ τ29.1 10 ∧ τ29.1 10 ≤ 999 := hT.1 10
              have v11 : (-1) ≤ τ29.1 11 ∧ τ29.1 11 ≤ 999 := hT.1 11
              have v17 : 0 ≤ τ29.1 17 ∧ τ29.1 17 ≤ 60000 := hT.1 17
              have v18 : 0 ≤ τ29.1 18 ∧ τ29.1 18 ≤ 60000 := hT.1 18
              have v19 : (-1) ≤ τ29.1 19 ∧ τ29.1 19 ≤ 125 := hT.1 19
              have v20 : 0 ≤ τ29.1 20 ∧ τ29.1 20 ≤ 19 := hT.1 20
              have v22 : 0 ≤ τ29.1 22 ∧ τ29.1 22 ≤ 1499 := hT.1 22
              have a14_22 : 0 ≤ τ29.2.1 14 (τ29.1 22) ∧ τ29.2.1 14 (τ29.1 22) ≤ 30000 := hT.2 14 _
              have a15_22 : 0 ≤ τ29.2.1 15 (τ29.1 22) ∧ τ29.2.1 15 (τ29.1 22) ≤ 300 := hT.2 15 _
              have av6 : σ.1 6 ≤ τ29.1 6 := ag.1 6 (by decide)
              exact ⟨hT, (show (τ29.1 20) = 0 → τ29.2.1 15 (τ29.1 22) = 1 from by (first | omega | (simp only [st_s] <;> omega) | assumption | omega | fail)), (show τ29.2.1 15 (τ29.1 22) ≤ 1 from by (first | omega | (simp only [st_s] <;> omega) | assumption | omega | fail)), (show ¬ (σ.1 20) = 0 → (τ29.1 20) = (σ.1 20) from by (first | omega | (simp only [st_s] <;> omega) | assumption | omega | fail)), (show τ29.2.1 14 (τ29.1 22) + τ29.2.1 15 (τ29.1 22) = (τ29.1 6) from Z1), (show ca (τ29.2.1 12) ((τ29.1 3)) ≤ (τ29.1 4) from Y20), ag, (show (τ29.1 20) = 0 → n_N (τ29.2.1 14 (τ29.1 22)) (τ29.2.1 14 (τ29.1 22) + τ29.2.1 15 (τ29.1 22)) (σ.1 3) (σ.2.1 8) (σ.2.1 11) (τ29.2.1 12) (τ29.2.1 16) (τ29.2.1 17) from by (first | (intro z; exfalso; omega) | (intro _; rw [show τ41.2.1 14 (τ41.1 22) = σ.1 6 from by omega, show σ.1 6 + τ41.2.1 15 (τ41.1 22) = σ.1 6 + 1 from by omega]; exact n_N_1 q39_4 q39_5 (by omega) (x3lt (by omega)) (by rw [g12_τ41, st_s]; decide)) | fail)), (show n_rl σ τ29 from by (first | exact n_rl_h hf_τ11 rfl rfl | exact n_rl_h hf_τ20 rfl rfl | exact n_rl_h hf_τ29 rfl rfl | exact n_rl_h hf_τ36 rfl rfl | exact ⟨fun s _ _ _ => by rw [g10_τ41], fun s _ _ h => by (rw [g12_τ41]; by_cases z : s = x3; (rw [z, st_s]; decide); (rw [st_n _ _ z]; exact h)), Or.inl (by omega), Or.inl (by omega), by omega, fun zt s a b => by (rw [g10_τ41]; have h3 := zt s a (by omega); omega)⟩ | fail)), (show ∀ s : Int, ¬ σ.2.1 12 s = 0 → ¬ τ29.2.1 12 s = 0 from by (first | exact fun s h => by (rw [G12]; exact h) | exact fun s h => by (rw [g12_τ41]; by_cases z : s = x3; (rw [z, st_s]; decide); (rw [st_n _ _ z]; exact h)) | (intro s h; first | (rw [hf_τ11.2.1 12 (by decide)]; exact h) | (rw [hf_τ20.2.1 12 (by decide)]; exact h) | (rw [hf_τ29.2.1 12 (by decide)]; exact h) | (rw [hf_τ36.2.1 12 (by decide)]; exact h)) | fail))⟩
            ·
              refine ⟨(show 0 ≤ x3 ∧ x3 < 1001 from by (first | omega | (simp only [st_s] <;> omega) | assumption | omega | fail)), ?_⟩
              intro x23 r_x23 e_x23
              have b_x23 : 0 ≤ x23 ∧ x23 ≤ 1 := by rw [e_x23]; exact hT.2 8 _
              refine ⟨fun c24 => ?_, fun c24 => ?_⟩
              ·
                refine h111 _ _ _ ?_
                refine ⟨fun c30 => ?_, fun c30 => ?_⟩
                ·
                  refine ⟨(show 0 ≤ x3 ∧ x3 < 1001 from by (first | omega | (simp only [st_s] <;> omega) | assumption | omega | fail)), ?_⟩
                  intro x32 r_x32 e_x32
                  have b_x32 : 0 ≤ x32 ∧ x32 ≤ 1 := by rw [e_x32]; exact hT.2 12 _
                  refine ⟨fun c33 => ?_, fun c33 => ?_⟩
                  ·
                    refine h143 _ _ _ _ ?_
                    refine ⟨(⟨by (first | omega | (simp only [st_s] <;> omega) | assumption | omega | fail), by (first | omega | (simp only [st_s] <;> omega) | assumption | omega | fail)⟩ : rg ((σ.1 4) + 1)), ?_⟩
                    replace ag := ag_v (i := 4) (x := ((σ.1 4) + 1)) ag (Or.inl rfl)
                    replace hT := mT_v (i := 4) hT (show 0 ≤ ((σ.1 4) + 1) ∧ ((σ.1 4) + 1) ≤ 100 from by (first | omega | (simp only [st_s] <;> omega) | assumption | omega | fail))
                    have ct0 := ca_t0 (σ.2.1 12) x3 ((σ.1 3)) 1 (by omega) (by omega)
                    have ct2 := ca_t2 (σ.2.1 12) (e := x3) ((σ.1 3)) 1 (by omega) (by omega)
                    refine ⟨(show 0 ≤ x3 ∧ x3 < 1001 from by (first | omega | (simp only [st_s] <;> omega) | assumption | omega | fail)), ?_⟩
                    replace ag := ag_a (k := 12) (e := x3) (x := 1) ag rfl
                    replace hT := mT_a (k := 12) (j := x3) hT (show (0 : Int) ≤ 1 ∧ 1 ≤ 1 from by (first | omega | (simp only [st_s] <;> omega) | assumption | omega | fail))
                    have y14q : σ.2.1 14 (σ.1 22) = σ.1 6 := by omega
                    refine ⟨_, K3_X13_addSymbol hT (show 0 ≤ x3 from by (first | omega | (simp only [st_s] <;> omega) | assumption | omega | fail)) (show x3 < 1000 from by (first | omega | (simp only [st_s] <;> omega) | assumption | omega | fail)) (show -1 ≤ (-1 : Int) from by (first | omega | (simp only [st_s] <;> omega) | assumption | omega | fail)) (show (-1 : Int) ≤ 1499 from by (first | omega | (simp only [st_s] <;> omega) | assumption | omega | fail)) (show (σ.1 6) < 30000 from by (first | omega | (simp only [st_s] <;> omega) | assumption | omega | fail)) (show σ.2.1 15 (σ.1 22) < 300 from by (first | omega | (simp only [st_s] <;> omega) | assumption | omega | fail)) (show (σ.1 22) = (σ.1 5) from by (first | omega | (simp only [st_s] <;> omega) | assumption | omega | fail)), ?_⟩
                    intro τ41 hn_τ41 hf_τ41 hq
                    obtain ⟨hT, q39_1, q39_2, q39_3, q39_4, q39_5⟩ := hq
                    replace q39_1 : (τ41.1 6) = (σ.1 6) + 1 := q39_1
                    replace q39_2 : τ41.2.1 15 (τ41.1 22) = σ.2.1 15 (σ.1 22) + 1 := q39_2
                    replace q39_3 : m_ag (s_a (s_v σ 4 ((σ.1 4) + 1)) 12 x3 1) τ41 := q39_3
                    replace q39_4 : τ41.2.1 16 = st (σ.2.1 16) (σ.1 6) x3 := q39_4
                    replace q39_5 : τ41.2.1 17 = st (σ.2.1 17) (σ.1 6) (-1 : Int) := q39_5
                    replace ag : m_ag σ τ41 := ag_t ag q39_3 rfl
                    have w0_τ41 : τ41.1 0 = σ.1 0 := hf_τ41.1 0 (by decide)
                    have w3_τ41 : τ41.1 3 = σ.1 3 := hf_τ41.1 3 (by decide)
                    have w4_τ41 : τ41.1 4 = ((σ.1 4) + 1) := hf_τ41.1 4 (by decide)
                    have w5_τ41 : τ41.1 5 = σ.1 5 := hf_τ41.1 5 (by decide)
                    have w7_τ41 : τ41.1 7 = σ.1 7 := hf_τ41.1 7 (by decide)
                    have w8_τ41 : τ41.1 8 = σ.1 8 := hf_τ41.1 8 (by decide)
                    have w9_τ41 : τ41.1 9 = σ.1 9 := hf_τ41.1 9 (by decide)
                    have w10_τ41 : τ41.1 10 = σ.1 10 := hf_τ41.1 10 (by decide)
                    have w11_τ41 : τ41.1 11 = σ.1 11 := hf_τ41.1 11 (by decide)
                    have w17_τ41 : τ41.1 17 = σ.1 17 := hf_τ41.1 17 (by decide)
                    have w18_τ41 : τ41.1 18 = σ.1 18 := hf_τ41.1 18 (by decide)
                    have w19_τ41 : τ41.1 19 = σ.1 19 := hf_τ41.1 19 (by decide)
                    have w20_τ41 : τ41.1 20 = σ.1 20 := hf_τ41.1 20 (by decide)
                    have w22_τ41 : τ41.1 22 = σ.1 22 := hf_τ41.1 22 (by decide)
                    have g6_τ41 : τ41.2.1 6 = σ.2.1 6 := hf_τ41.2.1 6 (by decide)
                    have g8_τ41 : τ41.2.1 8 = σ.2.1 8 := hf_τ41.2.1 8 (by decide)
                    have g10_τ41 : τ41.2.1 10 = σ.2.1 10 := hf_τ41.2.1 10 (by decide)
                    have g11_τ41 : τ41.2.1 11 = σ.2.1 11 := hf_τ41.2.1 11 (by decide)
                    have g12_τ41 : τ41.2.1 12 = (st (σ.2.1 12) x3 1) := hf_τ41.2.1 12 (by decide)
                    have g14_τ41 : τ41.2.1 14 = σ.2.1 14 := hf_τ41.2.1 14 (by decide)
                    first | (have o6_τ41 := congrArg oc g6_τ41) | skip
                    have W0 : τ41.1 0 = σ.1 0 := by first | exact w0_τ41.trans W0 | omega
                    have W3 : τ41.1 3 = σ.1 3 := by first | exact w3_τ41.trans W3 | omega
                    have W5 : τ41.1 5 = σ.1 5 := by first | exact w5_τ41.trans W5 | omega
                    have W7 : τ41.1 7 = σ.1 7 := by first | exact w7_τ41.trans W7 | omega
                    have W8 : τ41.1 8 = σ.1 8 := by first | exact w8_τ41.trans W8 | omega
                    have W9 : τ41.1 9 = σ.1 9 := by first | exact w9_τ41.trans W9 | omega
                    have W10 : τ41.1 10 = σ.1 10 := by first | exact w10_τ41.trans W10 | omega
                    have W11 : τ41.1 11 = σ.1 11 := by first | exact w11_τ41.trans W11 | omega
                    have W17 : τ41.1 17 = σ.1 17 := by first | exact w17_τ41.trans W17 | omega
                    have W18 : τ41.1 18 = σ.1 18 := by first | exact w18_τ41.trans W18 | omega
                    have W19 : τ41.1 19 = σ.1 19 := by first | exact w19_τ41.trans W19 | omega
                    have W22 : τ41.1 22 = σ.1 22 := by first | exact w22_τ41.trans W22 | omega
                    have G6 : τ41.2.1 6 = σ.2.1 6 := (g6_τ41).trans G6
                    have G8 : τ41.2.1 8 = σ.2.1 8 := (g8_τ41).trans G8
                    have G10 : τ41.2.1 10 = σ.2.1 10 := (g10_τ41).trans G10
                    have G11 : τ41.2.1 11 = σ.2.1 11 := (g11_τ41).trans G11
                    have G14 : τ41.2.1 14 = σ.2.1 14 := (g14_τ41).trans G14
                    have y14_22_τ41 : τ41.2.1 14 (τ41.1 22) = (σ.2.1 14) (σ.1 22) := by rw [g14_τ41, w22_τ41]
                    have Y1 : j_l2 (τ41.2.1 6) (τ41.1 3) := by rw [show (j_l2 (τ41.2.1 6) (τ41.1 3)) = (j_l2 (σ.2.1 6) (σ.1 3)) from by rw [w3_τ41, g6_τ41]]; exact Y1
                    have STt : j_l2 (τ41.2.1 6) (τ41.1 3) := by rw [show (j_l2 (τ41.2.1 6) (τ41.1 3)) = (j_l2 (σ.2.1 6) (σ.1 3)) from by rw [w3_τ41, g6_τ41]]; exact STt
                    have A6 : ∀ j, (-1) ≤ τ41.2.1 6 j ∧ τ41.2.1 6 j ≤ 999 := fun j => hT.2 6 j
                    have A8 : ∀ j, 0 ≤ τ41.2.1 8 j ∧ τ41.2.1 8 j ≤ 1 := fun j => hT.2 8 j
                    have A10 : ∀ j, (-1) ≤ τ41.2.1 10 j ∧ τ41.2.1 10 j ≤ 999 := fun j => hT.2 10 j
                    have A11 : ∀ j, (-1) ≤ τ41.2.1 11 j ∧ τ41.2.1 11 j ≤ 1499 := fun j => hT.2 11 j
                    have A12 : ∀ j, 0 ≤ τ41.2.1 12 j ∧ τ41.2.1 12 j ≤ 1 := fun j => hT.2 12 j
                    have A14 : ∀ j, 0 ≤ τ41.2.1 14 j ∧ τ41.2.1 14 j ≤ 30000 := fun j => hT.2 14 j
                    have A15 : ∀ j, 0 ≤ τ41.2.1 15 j ∧ τ41.2.1 15 j ≤ 300 := fun j => hT.2 15 j
                    have A16 : ∀ j, 0 ≤ τ41.2.1 16 j ∧ τ41.2.1 16 j ≤ 999 := fun j => hT.2 16 j
                    have A17 : ∀ j, (-1) ≤ τ41.2.1 17 j ∧ τ41.2.1 17 j ≤ 1499 := fun j => hT.2 17 j
                    have v0 : 0 ≤ τ41.1 0 ∧ τ41.1 0 ≤ 60000 := hT.1 0
                    have v3 : 0 ≤ τ41.1 3 ∧ τ41.1 3 ≤ 1000 := hT.1 3
                    have v4 : 0 ≤ τ41.1 4 ∧ τ41.1 4 ≤ 100 := hT.1 4
                    have v5 : 0 ≤ τ41.1 5 ∧ τ41.1 5 ≤ 1500 := hT.1 5
                    have v6 : 0 ≤ τ41.1 6 ∧ τ41.1 6 ≤ 30000 := hT.1 6
                    have v7 : 0 ≤ τ41.1 7 ∧ τ41.1 7 ≤ 90000 := hT.1 7
                    have v8 : 0 ≤ τ41.1 8 ∧ τ41.1 8 ≤ 20000 := hT.1 8
                    have v9 : 0 ≤ τ41.1 9 ∧ τ41.1 9 ≤ 20000 := hT.1 9
                    have v10 : (-1) ≤ τ41.1 10 ∧ τ41.1 10 ≤ 999 := hT.1 10
                    have v11 : (-1) ≤ τ41.1 11 ∧ τ41.1 11 ≤ 999 := hT.1 11
                    have v17 : 0 ≤ τ41.1 17 ∧ τ41.1 17 ≤ 60000 := hT.1 17
                    have v18 : 0 ≤ τ41.1 18 ∧ τ41.1 18 ≤ 60000 := hT.1 18
                    have v19 : (-1) ≤ τ41.1 19 ∧ τ41.1 19 ≤ 125 := hT.1 19
                    have v20 : 0 ≤ τ41.1 20 ∧ τ41.1 20 ≤ 19 := hT.1 20
                    have v22 : 0 ≤ τ41.1 22 ∧ τ41.1 22 ≤ 1499 := hT.1 22
                    have a14_22 : 0 ≤ τ41.2.1 14 (τ41.1 22) ∧ τ41.2.1 14 (τ41.1 22) ≤ 30000 := hT.2 14 _
                    have a15_22 : 0 ≤ τ41.2.1 15 (τ41.1 22) ∧ τ41.2.1 15 (τ41.1 22) ≤ 300 := hT.2 15 _
                    have av6 : σ.1 6 ≤ τ41.1 6 := ag.1 6 (by decide)
                    have Y20 : ca (τ41.2.1 12) (τ41.1 3) ≤ τ41.1 4 := by rw [g12_τ41, w3_τ41]; omega
                    have Z1 : τ41.2.1 14 (τ41.1 22) + τ41.2.1 15 (τ41.1 22) = τ41.1 6 := by omega
                    exact ⟨hT, (show (τ41.1 20) = 0 → τ41.2.1 15 (τ41.1 22) = 1 from by (first | omega | (simp only [st_s] <;> omega) | assumption | omega | fail)), (show τ41.2.1 15 (τ41.1 22) ≤ 1 from by (first | omega | (simp only [st_s] <;> omega) | assumption | omega | fail)), (show ¬ (σ.1 20) = 0 → (τ41.1 20) = (σ.1 20) from by (first | omega | (simp only [st_s] <;> omega) | assumption | omega | fail)), (show τ41.2.1 14 (τ41.1 22) + τ41.2.1 15 (τ41.1 22) = (τ41.1 6) from Z1), (show ca (τ41.2.1 12) ((τ41.1 3)) ≤ (τ41.1 4) from Y20), ag, (show (τ41.1 20) = 0 → n_N (τ41.2.1 14 (τ41.1 22)) (τ41.2.1 14 (τ41.1 22) + τ41.2.1 15 (τ41.1 22)) (σ.1 3) (σ.2.1 8) (σ.2.1 11) (τ41.2.1 12) (τ41.2.1 16) (τ41.2.1 17) from by (first | (intro z; exfalso; omega) | (intro _; rw [show τ41.2.1 14 (τ41.1 22) = σ.1 6 from by omega, show σ.1 6 + τ41.2.1 15 (τ41.1 22) = σ.1 6 + 1 from by omega]; exact n_N_1 q39_4 q39_5 (by omega) (x3lt (by omega)) (by rw [g12_τ41, st_s]; decide)) | fail)), (show n_rl σ τ41 from by (first | exact n_rl_h hf_τ11 rfl rfl | exact n_rl_h hf_τ20 rfl rfl | exact n_rl_h hf_τ29 rfl rfl | exact n_rl_h hf_τ36 rfl rfl | exact ⟨fun s _ _ _ => by rw [g10_τ41], fun s _ _ h => by (rw [g12_τ41]; by_cases z : s = x3; (rw [z, st_s]; decide); (rw [st_n _ _ z]; exact h)), Or.inl (by omega), Or.inl (by omega), by omega, fun zt s a b => by (rw [g10_τ41]; have h3 := zt s a (by omega); omega)⟩ | fail)), (show ∀ s : Int, ¬ σ.2.1 12 s = 0 → ¬ τ41.2.1 12 s = 0 from by (first | exact fun s h => by (rw [G12]; exact h) | exact fun s h => by (rw [g12_τ41]; by_cases z : s = x3; (rw [z, st_s]; decide); (rw [st_n _ _ z]; exact h)) | (intro s h; first | (rw [hf_τ11.2.1 12 (by decide)]; exact h) | (rw [hf_τ20.2.1 12 (by decide)]; exact h) | (rw [hf_τ29.2.1 12 (by decide)]; exact h) | (rw [hf_τ36.2.1 12 (by decide)]; exact h)) | fail))⟩
                  ·
                    refine h143 _ _ _ _ ?_
                    refine ⟨(⟨by (first | omega | (simp only [st_s] <;> omega) | assumption | omega | fail), by (first | omega | (simp only [st_s] <;> omega) | assumption | omega | fail)⟩ : rg ((σ.1 4) + 0)), ?_⟩
                    replace ag := ag_v (i := 4) (x := ((σ.1 4) + 0)) ag (Or.inl rfl)
                    replace hT := mT_v (i := 4) hT (show 0 ≤ ((σ.1 4) + 0) ∧ ((σ.1 4) + 0) ≤ 100 from by (first | omega | (simp only [st_s] <;> omega) | assumption | omega | fail))
                    have ct0 := ca_t0 (σ.2.1 12) x3 ((σ.1 3)) 1 (by omega) (by omega)
                    have ct2 := ca_t2 (σ.2.1 12) (e := x3) ((σ.1 3)) 1 (by omega) (by omega)
                    refine ⟨(show 0 ≤ x3 ∧ x3 < 1001 from by (first | omega | (simp only [st_s] <;> omega) | assumption | omega | fail)), ?_⟩
                    replace ag := ag_a (k := 12) (e := x3) (x := 1) ag rfl
                    replace hT := mT_a (k := 12) (j := x3) hT (show (0 : Int) ≤ 1 ∧ 1 ≤ 1 from by (first | omega | (simp only [st_s] <;> omega) | assumption | omega | fail))
                    have y14q : σ.2.1 14 (σ.1 22) = σ.1 6 := by omega
                    refine ⟨_, K3_X13_addSymbol hT (show 0 ≤ x3 from by (first | omega | (simp only [st_s] <;> omega) | assumption | omega | fail)) (show x3 < 1000 from by (first | omega | (simp only [st_s] <;> omega) | assumption | omega | fail)) (show -1 ≤ (-1 : Int) from by (first | omega | (simp only [st_s] <;> omega) | assumption | omega | fail)) (show (-1 : Int) ≤ 1499 from by (first | omega | (simp only [st_s] <;> omega) | assumption | omega | fail)) (show (σ.1 6) < 30000 from by (first | omega | (simp only [st_s] <;> omega) | assumption | omega | fail)) (show σ.2.1 15 (σ.1 22) < 300 from by (first | omega | (simp only [st_s] <;> omega) | assumption | omega | fail)) (show (σ.1 22) = (σ.1 5) from by (first | omega | (simp only [st_s] <;> omega) | assumption | omega | fail)), ?_⟩
                    intro τ41 hn_τ41 hf_τ41 hq
                    obtain ⟨hT, q39_1, q39_2, q39_3, q39_4, q39_5⟩ := hq
                    replace q39_1 : (τ41.1 6) = (σ.1 6) + 1 := q39_1
                    replace q39_2 : τ41.2.1 15 (τ41.1 22) = σ.2.1 15 (σ.1 22) + 1 := q39_2
                    replace q39_3 : m_ag (s_a (s_v σ 4 ((σ.1 4) + 0)) 12 x3 1) τ41 := q39_3
                    replace q39_4 : τ41.2.1 16 = st (σ.2.1 16) (σ.1 6) x3 := q39_4
                    replace q39_5 : τ41.2.1 17 = st (σ.2.1 17) (σ.1 6) (-1 : Int) := q39_5
                    replace ag : m_ag σ τ41 := ag_t ag q39_3 rfl
                    have w0_τ41 : τ41.1 0 = σ.1 0 := hf_τ41.1 0 (by decide)
                    have w3_τ41 : τ41.1 3 = σ.1 3 := hf_τ41.1 3 (by decide)
                    have w4_τ41 : τ41.1 4 = ((σ.1 4) + 0) := hf_τ41.1 4 (by decide)
                    have w5_τ41 : τ41.1 5 = σ.1 5 := hf_τ41.1 5 (by decide)
                    have w7_τ41 : τ41.1 7 = σ.1 7 := hf_τ41.1 7 (by decide)
                    have w8_τ41 : τ41.1 8 = σ.1 8 := hf_τ41.1 8 (by decide)
                    have w9_τ41 : τ41.1 9 = σ.1 9 := hf_τ41.1 9 (by decide)
                    have w10_τ41 : τ41.1 10 = σ.1 10 := hf_τ41.1 10 (by decide)
                    have w11_τ41 : τ41.1 11 = σ.1 11 := hf_τ41.1 11 (by decide)
                    have w17_τ41 : τ41.1 17 = σ.1 17 := hf_τ41.1 17 (by decide)
                    have w18_τ41 : τ41.1 18 = σ.1 18 := hf_τ41.1 18 (by decide)
                    have w19_τ41 : τ41.1 19 = σ.1 19 := hf_τ41.1 19 (by decide)
                    have w20_τ41 : τ41.1 20 = σ.1 20 := hf_τ41.1 20 (by decide)
                    have w22_τ41 : τ41.1 22 = σ.1 22 := hf_τ41.1 22 (by decide)
                    have g6_τ41 : τ41.2.1 6 = σ.2.1 6 := hf_τ41.2.1 6 (by decide)
                    have g8_τ41 : τ41.2.1 8 = σ.2.1 8 := hf_τ41.2.1 8 (by decide)
                    have g10_τ41 : τ41.2.1 10 = σ.2.1 10 := hf_τ41.2.1 10 (by decide)
                    have g11_τ41 : τ41.2.1 11 = σ.2.1 11 := hf_τ41.2.1 11 (by decide)
                    have g12_τ41 : τ41.2.1 12 = (st (σ.2.1 12) x3 1) := hf_τ41.2.1 12 (by decide)
                    have g14_τ41 : τ41.2.1 14 = σ.2.1 14 := hf_τ41.2.1 14 (by decide)
                    first | (have o6_τ41 := congrArg oc g6_τ41) | skip
                    have W0 : τ41.1 0 = σ.1 0 := by first | exact w0_τ41.trans W0 | omega
                    have W3 : τ41.1 3 = σ.1 3 := by first | exact w3_τ41.trans W3 | omega
                    have W5 : τ41.1 5 = σ.1 5 := by first | exact w5_τ41.trans W5 | omega
                    have W7 : τ41.1 7 = σ.1 7 := by first | exact w7_τ41.trans W7 | omega
                    have W8 : τ41.1 8 = σ.1 8 := by first | exact w8_τ41.trans W8 | omega
                    have W9 : τ41.1 9 = σ.1 9 := by first | exact w9_τ41.trans W9 | omega
                    have W10 : τ41.1 10 = σ.1 10 := by first | exact w10_τ41.trans W10 | omega
                    have W11 : τ41.1 11 = σ.1 11 := by first | exact w11_τ41.trans W11 | omega
                    have W17 : τ41.1 17 = σ.1 17 := by first | exact w17_τ41.trans W17 | omega
                    have W18 : τ41.1 18 = σ.1 18 := by first | exact w18_τ41.trans W18 | omega
                    have W19 : τ41.1 19 = σ.1 19 := by first | exact w19_τ41.trans W19 | omega
                    have W22 : τ41.1 22 = σ.1 22 := by first | exact w22_τ41.trans W22 | omega
                    have G6 : τ41.2.1 6 = σ.2.1 6 := (g6_τ41).trans G6
                    have G8 : τ41.2.1 8 = σ.2.1 8 := (g8_τ41).trans G8
                    have G10 : τ41.2.1 10 = σ.2.1 10 := (g10_τ41).trans G10
                    have G11 : τ41.2.1 11 = σ.2.1 11 := (g11_τ41).trans G11
                    have G14 : τ41.2.1 14 = σ.2.1 14 := (g14_τ41).trans G14
                    have y14_22_τ41 : τ41.2.1 14 (τ41.1 22) = (σ.2.1 14) (σ.1 22) := by rw [g14_τ41, w22_τ41]
                    have Y1 : j_l2 (τ41.2.1 6) (τ41.1 3) := by rw [show (j_l2 (τ41.2.1 6) (τ41.1 3)) = (j_l2 (σ.2.1 6) (σ.1 3)) from by rw [w3_τ41, g6_τ41]]; exact Y1
                    have STt : j_l2 (τ41.2.1 6) (τ41.1 3) := by rw [show (j_l2 (τ41.2.1 6) (τ41.1 3)) = (j_l2 (σ.2.1 6) (σ.1 3)) from by rw [w3_τ41, g6_τ41]]; exact STt
                    have A6 : ∀ j, (-1) ≤ τ41.2.1 6 j ∧ τ41.2.1 6 j ≤ 999 := fun j => hT.2 6 j
                    have A8 : ∀ j, 0 ≤ τ41.2.1 8 j ∧ τ41.2.1 8 j ≤ 1 := fun j => hT.2 8 j
                    have A10 : ∀ j, (-1) ≤ τ41.2.1 10 j ∧ τ41.2.1 10 j ≤ 999 := fun j => hT.2 10 j
                    have A11 : ∀ j, (-1) ≤ τ41.2.1 11 j ∧ τ41.2.1 11 j ≤ 1499 := fun j => hT.2 11 j
                    have A12 : ∀ j, 0 ≤ τ41.2.1 12 j ∧ τ41.2.1 12 j ≤ 1 := fun j => hT.2 12 j
                    have A14 : ∀ j, 0 ≤ τ41.2.1 14 j ∧ τ41.2.1 14 j ≤ 30000 := fun j => hT.2 14 j
                    have A15 : ∀ j, 0 ≤ τ41.2.1 15 j ∧ τ41.2.1 15 j ≤ 300 := fun j => hT.2 15 j
                    have A16 : ∀ j, 0 ≤ τ41.2.1 16 j ∧ τ41.2.1 16 j ≤ 999 := fun j => hT.2 16 j
                    have A17 : ∀ j, (-1) ≤ τ41.2.1 17 j ∧ τ41.2.1 17 j ≤ 1499 := fun j => hT.2 17 j
                    have v0 : 0 ≤ τ41.1 0 ∧ τ41.1 0 ≤ 60000 := hT.1 0
                    have v3 : 0 ≤ τ41.1 3 ∧ τ41.1 3 ≤ 1000 := hT.1 3
                    have v4 : 0 ≤ τ41.1 4 ∧ τ41.1 4 ≤ 100 := hT.1 4
                    have v5 : 0 ≤ τ41.1 5 ∧ τ41.1 5 ≤ 1500 := hT.1 5
                    have v6 : 0 ≤ τ41.1 6 ∧ τ41.1 6 ≤ 30000 := hT.1 6
                    have v7 : 0 ≤ τ41.1 7 ∧ τ41.1 7 ≤ 90000 := hT.1 7
                    have v8 : 0 ≤ τ41.1 8 ∧ τ41.1 8 ≤ 20000 := hT.1 8
                    have v9 : 0 ≤ τ41.1 9 ∧ τ41.1 9 ≤ 20000 := hT.1 9
                    have v10 : (-1) ≤ τ41.1 10 ∧ τ41.1 10 ≤ 999 := hT.1 10
                    have v11 : (-1) ≤ τ41.1 11 ∧ τ41.1 11 ≤ 999 := hT.1 11
                    have v17 : 0 ≤ τ41.1 17 ∧ τ41.1 17 ≤ 60000 := hT.1 17
                    have v18 : 0 ≤ τ41.1 18 ∧ τ41.1 18 ≤ 60000 := hT.1 18
                    have v19 : (-1) ≤ τ41.1 19 ∧ τ41.1 19 ≤ 125 := hT.1 19
                    have v20 : 0 ≤ τ41.1 20 ∧ τ41.1 20 ≤ 19 := hT.1 20
                    have v22 : 0 ≤ τ41.1 22 ∧ τ41.1 22 ≤ 1499 := hT.1 22
                    have a14_22 : 0 ≤ τ41.2.1 14 (τ41.1 22) ∧ τ41.2.1 14 (τ41.1 22) ≤ 30000 := hT.2 14 _
                    have a15_22 : 0 ≤ τ41.2.1 15 (τ41.1 22) ∧ τ41.2.1 15 (τ41.1 22) ≤ 300 := hT.2 15 _
                    have av6 : σ.1 6 ≤ τ41.1 6 := ag.1 6 (by decide)
                    have Y20 : ca (τ41.2.1 12) (τ41.1 3) ≤ τ41.1 4 := by rw [g12_τ41, w3_τ41]; omega
                    have Z1 : τ41.2.1 14 (τ41.1 22) + τ41.2.1 15 (τ41.1 22) = τ41.1 6 := by omega
                    exact ⟨hT, (show (τ41.1 20) = 0 → τ41.2.1 15 (τ41.1 22) = 1 from by (first | omega | (simp only [st_s] <;> omega) | assumption | omega | fail)), (show τ41.2.1 15 (τ41.1 22) ≤ 1 from by (first | omega | (simp only [st_s] <;> omega) | assumption | omega | fail)), (show ¬ (σ.1 20) = 0 → (τ41.1 20) = (σ.1 20) from by (first | omega | (simp only [st_s] <;> omega) | assumption | omega | fail)), (show τ41.2.1 14 (τ41.1 22) + τ41.2.1 15 (τ41.1 22) = (τ41.1 6) from Z1), (show ca (τ41.2.1 12) ((τ41.1 3)) ≤ (τ41.1 4) from Y20), ag, (show (τ41.1 20) = 0 → n_N (τ41.2.1 14 (τ41.1 22)) (τ41.2.1 14 (τ41.1 22) + τ41.2.1 15 (τ41.1 22)) (σ.1 3) (σ.2.1 8) (σ.2.1 11) (τ41.2.1 12) (τ41.2.1 16) (τ41.2.1 17) from by (first | (intro z; exfalso; omega) | (intro _; rw [show τ41.2.1 14 (τ41.1 22) = σ.1 6 from by omega, show σ.1 6 + τ41.2.1 15 (τ41.1 22) = σ.1 6 + 1 from by omega]; exact n_N_1 q39_4 q39_5 (by omega) (x3lt (by omega)) (by rw [g12_τ41, st_s]; decide)) | fail)), (show n_rl σ τ41 from by (first | exact n_rl_h hf_τ11 rfl rfl | exact n_rl_h hf_τ20 rfl rfl | exact n_rl_h hf_τ29 rfl rfl | exact n_rl_h hf_τ36 rfl rfl | exact ⟨fun s _ _ _ => by rw [g10_τ41], fun s _ _ h => by (rw [g12_τ41]; by_cases z : s = x3; (rw [z, st_s]; decide); (rw [st_n _ _ z]; exact h)), Or.inl (by omega), Or.inl (by omega), by omega, fun zt s a b => by (rw [g10_τ41]; have h3 := zt s a (by omega); omega)⟩ | fail)), (show ∀ s : Int, ¬ σ.2.1 12 s = 0 → ¬ τ41.2.1 12 s = 0 from by (first | exact fun s h => by (rw [G12]; exact h) | exact fun s h => by (rw [g12_τ41]; by_cases z : s = x3; (rw [z, st_s]; decide); (rw [st_n _ _ z]; exact h)) | (intro s h; first | (rw [hf_τ11.2.1 12 (by decide)]; exact h) | (rw [hf_τ20.2.1 12 (by decide)]; exact h) | (rw [hf_τ29.2.1 12 (by decide)]; exact h) | (rw [hf_τ36.2.1 12 (by decide)]; exact h)) | fail))⟩
                ·
                  refine ⟨_, K_X13_failHere hT (show 0 ≤ (10 : Int) from by (first | omega | (simp only [st_s] <;> omega) | assumption | omega | fail)) (show (10 : Int) ≤ 19 from by (first | omega | (simp only [st_s] <;> omega) | assumption | omega | fail)), ?_⟩
                  intro τ36 hn_τ36 hf_τ36 hq
                  obtain ⟨hT, q34_1, q34_2⟩ := hq
                  replace q34_1 : ¬ (σ.1 20) = 0 → (τ36.1 20) = (σ.1 20) := q34_1
                  replace q34_2 : (σ.1 20) = 0 → (τ36.1 20) = (10 : Int) := q34_2
                  replace ag : m_ag σ τ36 := ag_r ag hf_τ36 rfl rfl
                  have w0_τ36 : τ36.1 0 = σ.1 0 := hf_τ36.1 0 (by decide)
                  have w3_τ36 : τ36.1 3 = σ.1 3 := hf_τ36.1 3 (by decide)
                  have w4_τ36 : τ36.1 4 = σ.1 4 := hf_τ36.1 4 (by decide)
                  have w5_τ36 : τ36.1 5 = σ.1 5 := hf_τ36.1 5 (by decide)
                  have w6_τ36 : τ36.1 6 = σ.1 6 := hf_τ36.1 6 (by decide)
                  have w7_τ36 : τ36.1 7 = σ.1 7 := hf_τ36.1 7 (by decide)
                  have w8_τ36 : τ36.1 8 = σ.1 8 := hf_τ36.1 8 (by decide)
                  have w9_τ36 : τ36.1 9 = σ.1 9 := hf_τ36.1 9 (by decide)
                  have w10_τ36 : τ36.1 10 = σ.1 10 := hf_τ36.1 10 (by decide)
                  have w11_τ36 : τ36.1 11 = σ.1 11 := hf_τ36.1 11 (by decide)
                  have w17_τ36 : τ36.1 17 = σ.1 17 := hf_τ36.1 17 (by decide)
                  have w18_τ36 : τ36.1 18 = σ.1 18 := hf_τ36.1 18 (by decide)
                  have w19_τ36 : τ36.1 19 = σ.1 19 := hf_τ36.1 19 (by decide)
                  have w22_τ36 : τ36.1 22 = σ.1 22 := hf_τ36.1 22 (by decide)
                  have g6_τ36 : τ36.2.1 6 = σ.2.1 6 := hf_τ36.2.1 6 (by decide)
                  have g8_τ36 : τ36.2.1 8 = σ.2.1 8 := hf_τ36.2.1 8 (by decide)
                  have g10_τ36 : τ36.2.1 10 = σ.2.1 10 := hf_τ36.2.1 10 (by decide)
                  have g11_τ36 : τ36.2.1 11 = σ.2.1 11 := hf_τ36.2.1 11 (by decide)
                  have g12_τ36 : τ36.2.1 12 = σ.2.1 12 := hf_τ36.2.1 12 (by decide)
                  have g14_τ36 : τ36.2.1 14 = σ.2.1 14 := hf_τ36.2.1 14 (by decide)
                  have g15_τ36 : τ36.2.1 15 = σ.2.1 15 := hf_τ36.2.1 15 (by decide)
                  have g16_τ36 : τ36.2.1 16 = σ.2.1 16 := hf_τ36.2.1 16 (by decide)
                  have g17_τ36 : τ36.2.1 17 = σ.2.1 17 := hf_τ36.2.1 17 (by decide)
                  first | (have o6_τ36 := congrArg oc g6_τ36) | skip
                  have W0 : τ36.1 0 = σ.1 0 := by first | exact w0_τ36.trans W0 | omega
                  have W3 : τ36.1 3 = σ.1 3 := by first | exact w3_τ36.trans W3 | omega
                  have W5 : τ36.1 5 = σ.1 5 := by first | exact w5_τ36.trans W5 | omega
                  have W7 : τ36.1 7 = σ.1 7 := by first | exact w7_τ36.trans W7 | omega
                  have W8 : τ36.1 8 = σ.1 8 := by first | exact w8_τ36.trans W8 | omega
                  have W9 : τ36.1 9 = σ.1 9 := by first | exact w9_τ36.trans W9 | omega
                  have W10 : τ36.1 10 = σ.1 10 := by first | exact w10_τ36.trans W10 | omega
                  have W11 : τ36.1 11 = σ.1 11 := by first | exact w11_τ36.trans W11 | omega
                  have W17 : τ36.1 17 = σ.1 17 := by first | exact w17_τ36.trans W17 | omega
                  have W18 : τ36.1 18 = σ.1 18 := by first | exact w18_τ36.trans W18 | omega
                  have W19 : τ36.1 19 = σ.1 19 := by first | exact w19_τ36.trans W19 | omega
                  have W22 : τ36.1 22 = σ.1 22 := by first | exact w22_τ36.trans W22 | omega
                  have G6 : τ36.2.1 6 = σ.2.1 6 := (g6_τ36).trans G6
                  have G8 : τ36.2.1 8 = σ.2.1 8 := (g8_τ36).trans G8
                  have G10 : τ36.2.1 10 = σ.2.1 10 := (g10_τ36).trans G10
                  have G11 : τ36.2.1 11 = σ.2.1 11 := (g11_τ36).trans G11
                  have G14 : τ36.2.1 14 = σ.2.1 14 := (g14_τ36).trans G14
                  have y14_22_τ36 : τ36.2.1 14 (τ36.1 22) = (σ.2.1 14) (σ.1 22) := by rw [g14_τ36, w22_τ36]
                  have y15_22_τ36 : τ36.2.1 15 (τ36.1 22) = (σ.2.1 15) (σ.1 22) := by rw [g15_τ36, w22_τ36]
                  have Z1 : τ36.2.1 14 (τ36.1 22) + τ36.2.1 15 (τ36.1 22) = (τ36.1 6) := by rw [show (τ36.2.1 14 (τ36.1 22) + τ36.2.1 15 (τ36.1 22) = (τ36.1 6)) = (σ.2.1 14 (σ.1 22) + σ.2.1 15 (σ.1 22) = (σ.1 6)) from by rw [w6_τ36, w22_τ36, g14_τ36, g15_τ36]]; exact Z1
                  have Y20 : ca (τ36.2.1 12) ((τ36.1 3)) ≤ (τ36.1 4) := by rw [show (ca (τ36.2.1 12) ((τ36.1 3)) ≤ (τ36.1 4)) = (ca (σ.2.1 12) ((σ.1 3)) ≤ (σ.1 4)) from by rw [w3_τ36, w4_τ36, g12_τ36]]; exact Y20
                  have Y1 : j_l2 (τ36.2.1 6) (τ36.1 3) := by rw [show (j_l2 (τ36.2.1 6) (τ36.1 3)) = (j_l2 (σ.2.1 6) (σ.1 3)) from by rw [w3_τ36, g6_τ36]]; exact Y1
                  have STt : j_l2 (τ36.2.1 6) (τ36.1 3) := by rw [show (j_l2 (τ36.2.1 6) (τ36.1 3)) = (j_l2 (σ.2.1 6) (σ.1 3)) from by rw [w3_τ36, g6_τ36]]; exact STt
                  have A6 : ∀ j, (-1) ≤ τ36.2.1 6 j ∧ τ36.2.1 6 j ≤ 999 := fun j => hT.2 6 j
                  have A8 : ∀ j, 0 ≤ τ36.2.1 8 j ∧ τ36.2.1 8 j ≤ 1 := fun j => hT.2 8 j
                  have A10 : ∀ j, (-1) ≤ τ36.2.1 10 j ∧ τ36.2.1 10 j ≤ 999 := fun j => hT.2 10 j
                  have A11 : ∀ j, (-1) ≤ τ36.2.1 11 j ∧ τ36.2.1 11 j ≤ 1499 := fun j => hT.2 11 j
                  have A12 : ∀ j, 0 ≤ τ36.2.1 12 j ∧ τ36.2.1 12 j ≤ 1 := fun j => hT.2 12 j
                  have A14 : ∀ j, 0 ≤ τ36.2.1 14 j ∧ τ36.2.1 14 j ≤ 30000 := fun j => hT.2 14 j
                  have A15 : ∀ j, 0 ≤ τ36.2.1 15 j ∧ τ36.2.1 15 j ≤ 300 := fun j => hT.2 15 j
                  have A16 : ∀ j, 0 ≤ τ36.2.1 16 j ∧ τ36.2.1 16 j ≤ 999 := fun j => hT.2 16 j
                  have A17 : ∀ j, (-1) ≤ τ36.2.1 17 j ∧ τ36.2.1 17 j ≤ 1499 := fun j => hT.2 17 j
                  have v0 : 0 ≤ τ36.1 0 ∧ τ36.1 0 ≤ 60000 := hT.1 0
                  have v3 : 0 ≤ τ36.1 3 ∧ τ36.1 3 ≤ 1000 := hT.1 3
                  have v4 : 0 ≤ τ36.1 4 ∧ τ36.1 4 ≤ 100 := hT.1 4
                  have v5 : 0 ≤ τ36.1 5 ∧ τ36.1 5 ≤ 1500 := hT.1 5
                  have v6 : 0 ≤ τ36.1 6 ∧ τ36.1 6 ≤ 30000 := hT.1 6
                  have v7 : 0 ≤ τ36.1 7 ∧ τ36.1 7 ≤ 90000 := hT.1 7
                  have v8 : 0 ≤ τ36.1 8 ∧ τ36.1 8 ≤ 20000 := hT.1 8
                  have v9 : 0 ≤ τ36.1 9 ∧ τ36.1 9 ≤ 20000 := hT.1 9
                  have v10 : (-1) ≤ τ36.1 10 ∧ τ36.1 10 ≤ 999 := hT.1 10
                  have v11 : (-1) ≤ τ36.1 11 ∧ τ36.1 11 ≤ 999 := hT.1 11
                  have v17 : 0 ≤ τ36.1 17 ∧ τ36.1 17 ≤ 60000 := hT.1 17
                  have v18 : 0 ≤ τ36.1 18 ∧ τ36.1 18 ≤ 60000 := hT.1 18
                  have v19 : (-1) ≤ τ36.1 19 ∧ τ36.1 19 ≤ 125 := hT.1 19
                  have v20 : 0 ≤ τ36.1 20 ∧ τ36.1 20 ≤ 19 := hT.1 20
                  have v22 : 0 ≤ τ36.1 22 ∧ τ36.1 22 ≤ 1499 := hT.1 22
                  have a14_22 : 0 ≤ τ36.2.1 14 (τ36.1 22) ∧ τ36.2.1 14 (τ36.1 22) ≤ 30000 := hT.2 14 _
                  have a15_22 : 0 ≤ τ36.2.1 15 (τ36.1 22) ∧ τ36.2.1 15 (τ36.1 22) ≤ 300 := hT.2 15 _
                  have av6 : σ.1 6 ≤ τ36.1 6 := ag.1 6 (by decide)
                  exact ⟨hT, (show (τ36.1 20) = 0 → τ36.2.1 15 (τ36.1 22) = 1 from by (first | omega | (simp only [st_s] <;> omega) | assumption | omega | fail)), (show τ36.2.1 15 (τ36.1 22) ≤ 1 from by (first | omega | (simp only [st_s] <;> omega) | assumption | omega | fail)), (show ¬ (σ.1 20) = 0 → (τ36.1 20) = (σ.1 20) from by (first | omega | (simp only [st_s] <;> omega) | assumption | omega | fail)), (show τ36.2.1 14 (τ36.1 22) + τ36.2.1 15 (τ36.1 22) = (τ36.1 6) from Z1), (show ca (τ36.2.1 12) ((τ36.1 3)) ≤ (τ36.1 4) from Y20), ag, (show (τ36.1 20) = 0 → n_N (τ36.2.1 14 (τ36.1 22)) (τ36.2.1 14 (τ36.1 22) + τ36.2.1 15 (τ36.1 22)) (σ.1 3) (σ.2.1 8) (σ.2.1 11) (τ36.2.1 12) (τ36.2.1 16) (τ36.2.1 17) from by (first | (intro z; exfalso; omega) | (intro _; rw [show τ41.2.1 14 (τ41.1 22) = σ.1 6 from by omega, show σ.1 6 + τ41.2.1 15 (τ41.1 22) = σ.1 6 + 1 from by omega]; exact n_N_1 q39_4 q39_5 (by omega) (x3lt (by omega)) (by rw [g12_τ41, st_s]; decide)) | fail)), (show n_rl σ τ36 from by (first | exact n_rl_h hf_τ11 rfl rfl | exact n_rl_h hf_τ20 rfl rfl | exact n_rl_h hf_τ29 rfl rfl | exact n_rl_h hf_τ36 rfl rfl | exact ⟨fun s _ _ _ => by rw [g10_τ41], fun s _ _ h => by (rw [g12_τ41]; by_cases z : s = x3; (rw [z, st_s]; decide); (rw [st_n _ _ z]; exact h)), Or.inl (by omega), Or.inl (by omega), by omega, fun zt s a b => by (rw [g10_τ41]; have h3 := zt s a (by omega); omega)⟩ | fail)), (show ∀ s : Int, ¬ σ.2.1 12 s = 0 → ¬ τ36.2.1 12 s = 0 from by (first | exact fun s h => by (rw [G12]; exact h) | exact fun s h => by (rw [g12_τ41]; by_cases z : s = x3; (rw [z, st_s]; decide); (rw [st_n _ _ z]; exact h)) | (intro s h; first | (rw [hf_τ11.2.1 12 (by decide)]; exact h) | (rw [hf_τ20.2.1 12 (by decide)]; exact h) | (rw [hf_τ29.2.1 12 (by decide)]; exact h) | (rw [hf_τ36.2.1 12 (by decide)]; exact h)) | fail))⟩
              ·
                intro x25 r_x25 e_x25
                have b_x25 : 0 ≤ x25 ∧ x25 ≤ 1 := by rw [e_x25]; exact hT.2 9 _
                refine ⟨fun c26 => ?_, fun c26 => ?_⟩
                ·
                  refine h111 _ _ _ ?_
                  refine ⟨fun c30 => ?_, fun c30 => ?_⟩
                  ·
                    refine ⟨(show 0 ≤ x3 ∧ x3 < 1001 from by (first | omega | (simp only [st_s] <;> omega) | assumption | omega | fail)), ?_⟩
                    intro x32 r_x32 e_x32
                    have b_x32 : 0 ≤ x32 ∧ x32 ≤ 1 := by rw [e_x32]; exact hT.2 12 _
                    refine ⟨fun c33 => ?_, fun c33 => ?_⟩
                    ·
                      refine h143 _ _ _ _ ?_
                      refine ⟨(⟨by (first | omega | (simp only [st_s] <;> omega) | assumption | omega | fail), by (first | omega | (simp only [st_s] <;> omega) | assumption | omega | fail)⟩ : rg ((σ.1 4) + 1)), ?_⟩
                      replace ag := ag_v (i := 4) (x := ((σ.1 4) + 1)) ag (Or.inl rfl)
                      replace hT := mT_v (i := 4) hT (show 0 ≤ ((σ.1 4) + 1) ∧ ((σ.1 4) + 1) ≤ 100 from by (first | omega | (simp only [st_s] <;> omega) | assumption | omega | fail))
                      have ct0 := ca_t0 (σ.2.1 12) x3 ((σ.1 3)) 1 (by omega) (by omega)
                      have ct2 := ca_t2 (σ.2.1 12) (e := x3) ((σ.1 3)) 1 (by omega) (by omega)
                      refine ⟨(show 0 ≤ x3 ∧ x3 < 1001 from by (first | omega | (simp only [st_s] <;> omega) | assumption | omega | fail)), ?_⟩
                      replace ag := ag_a (k := 12) (e := x3) (x := 1) ag rfl
                      replace hT := mT_a (k := 12) (j := x3) hT (show (0 : Int) ≤ 1 ∧ 1 ≤ 1 from by (first | omega | (simp only [st_s] <;> omega) | assumption | omega | fail))
                      have y14q : σ.2.1 14 (σ.1 22) = σ.1 6 := by omega
                      refine ⟨_, K3_X13_addSymbol hT (show 0 ≤ x3 from by (first | omega | (simp only [st_s] <;> omega) | assumption | omega | fail)) (show x3 < 1000 from by (first | omega | (simp only [st_s] <;> omega) | assumption | omega | fail)) (show -1 ≤ (-1 : Int) from by (first | omega | (simp only [st_s] <;> omega) | assumption | omega | fail)) (show (-1 : Int) ≤ 1499 from by (first | omega | (simp only [st_s] <;> omega) | assumption | omega | fail)) (show (σ.1 6) < 30000 from by (first | omega | (simp only [st_s] <;> omega) | assumption | omega | fail)) (show σ.2.1 15 (σ.1 22) < 300 from by (first | omega | (simp only [st_s] <;> omega) | assumption | omega | fail)) (show (σ.1 22) = (σ.1 5) from by (first | omega | (simp only [st_s] <;> omega) | assumption | omega | fail)), ?_⟩
                      intro τ41 hn_τ41 hf_τ41 hq
                      obtain ⟨hT, q39_1, q39_2, q39_3, q39_4, q39_5⟩ := hq
                      replace q39_1 : (τ41.1 6) = (σ.1 6) + 1 := q39_1
                      replace q39_2 : τ41.2.1 15 (τ41.1 22) = σ.2.1 15 (σ.1 22) + 1 := q39_2
                      replace q39_3 : m_ag (s_a (s_v σ 4 ((σ.1 4) + 1)) 12 x3 1) τ41 := q39_3
                      replace q39_4 : τ41.2.1 16 = st (σ.2.1 16) (σ.1 6) x3 := q39_4
                      replace q39_5 : τ41.2.1 17 = st (σ.2.1 17) (σ.1 6) (-1 : Int) := q39_5
                      replace ag : m_ag σ τ41 := ag_t ag q39_3 rfl
                      have w0_τ41 : τ41.1 0 = σ.1 0 := hf_τ41.1 0 (by decide)
                      have w3_τ41 : τ41.1 3 = σ.1 3 := hf_τ41.1 3 (by decide)
                      have w4_τ41 : τ41.1 4 = ((σ.1 4) + 1) := hf_τ41.1 4 (by decide)
                      have w5_τ41 : τ41.1 5 = σ.1 5 := hf_τ41.1 5 (by decide)
                      have w7_τ41 : τ41.1 7 = σ.1 7 := hf_τ41.1 7 (by decide)
                      have w8_τ41 : τ41.1 8 = σ.1 8 := hf_τ41.1 8 (by decide)
                      have w9_τ41 : τ41.1 9 = σ.1 9 := hf_τ41.1 9 (by decide)
                      have w10_τ41 : τ41.1 10 = σ.1 10 := hf_τ41.1 10 (by decide)
                      have w11_τ41 : τ41.1 11 = σ.1 11 := hf_τ41.1 11 (by decide)
                      have w17_τ41 : τ41.1 17 = σ.1 17 := hf_τ41.1 17 (by decide)
                      have w18_τ41 : τ41.1 18 = σ.1 18 := hf_τ41.1 18 (by decide)
                      have w19_τ41 : τ41.1 19 = σ.1 19 := hf_τ41.1 19 (by decide)
                      have w20_τ41 : τ41.1 20 = σ.1 20 := hf_τ41.1 20 (by decide)
                      have w22_τ41 : τ41.1 22 = σ.1 22 := hf_τ41.1 22 (by decide)
                      have g6_τ41 : τ41.2.1 6 = σ.2.1 6 := hf_τ41.2.1 6 (by decide)
                      have g8_τ41 : τ41.2.1 8 = σ.2.1 8 := hf_τ41.2.1 8 (by decide)
                      have g10_τ41 : τ41.2.1 10 = σ.2.1 10 := hf_τ41.2.1 10 (by decide)
                      have g11_τ41 : τ41.2.1 11 = σ.2.1 11 := hf_τ41.2.1 11 (by decide)
                      have g12_τ41 : τ41.2.1 12 = (st (σ.2.1 12) x3 1) := hf_τ41.2.1 12 (by decide)
                      have g14_τ41 : τ41.2.1 14 = σ.2.1 14 := hf_τ41.2.1 14 (by decide)
                      first | (have o6_τ41 := congrArg oc g6_τ41) | skip
                      have W0 : τ41.1 0 = σ.1 0 := by first | exact w0_τ41.trans W0 | omega
                      have W3 : τ41.1 3 = σ.1 3 := by first | exact w3_τ41.trans W3 | omega
                      have W5 : τ41.1 5 = σ.1 5 := by first | exact w5_τ41.trans W5 | omega
                      have W7 : τ41.1 7 = σ.1 7 := by first | exact w7_τ41.trans W7 | omega
                      have W8 : τ41.1 8 = σ.1 8 := by first | exact w8_τ41.trans W8 | omega
                      have W9 : τ41.1 9 = σ.1 9 := by first | exact w9_τ41.trans W9 | omega
                      have W10 : τ41.1 10 = σ.1 10 := by first | exact w10_τ41.trans W10 | omega
                      have W11 : τ41.1 11 = σ.1 11 := by first | exact w11_τ41.trans W11 | omega
                      have W17 : τ41.1 17 = σ.1 17 := by first | exact w17_τ41.trans W17 | omega
                      have W18 : τ41.1 18 = σ.1 18 := by first | exact w18_τ41.trans W18 | omega
                      have W19 : τ41.1 19 = σ.1 19 := by first | exact w19_τ41.trans W19 | omega
                      have W22 : τ41.1 22 = σ.1 22 := by first | exact w22_τ41.trans W22 | omega
                      have G6 : τ41.2.1 6 = σ.2.1 6 := (g6_τ41).trans G6
                      have G8 : τ41.2.1 8 = σ.2.1 8 := (g8_τ41).trans G8
                      have G10 : τ41.2.1 10 = σ.2.1 10 := (g10_τ41).trans G10
                      have G11 : τ41.2.1 11 = σ.2.1 11 := (g11_τ41).trans G11
                      have G14 : τ41.2.1 14 = σ.2.1 14 := (g14_τ41).trans G14
                      have y14_22_τ41 : τ41.2.1 14 (τ41.1 22) = (σ.2.1 14) (σ.1 22) := by rw [g14_τ41, w22_τ41]
                      have Y1 : j_l2 (τ41.2.1 6) (τ41.1 3) := by rw [show (j_l2 (τ41.2.1 6) (τ41.1 3)) = (j_l2 (σ.2.1 6) (σ.1 3)) from by rw [w3_τ41, g6_τ41]]; exact Y1
                      have STt : j_l2 (τ41.2.1 6) (τ41.1 3) := by rw [show (j_l2 (τ41.2.1 6) (τ41.1 3)) = (j_l2 (σ.2.1 6) (σ.1 3)) from by rw [w3_τ41, g6_τ41]]; exact STt
                      have A6 : ∀ j, (-1) ≤ τ41.2.1 6 j ∧ τ41.2.1 6 j ≤ 999 := fun j => hT.2 6 j
                      have A8 : ∀ j, 0 ≤ τ41.2.1 8 j ∧ τ41.2.1 8 j ≤ 1 := fun j => hT.2 8 j
                      have A10 : ∀ j, (-1) ≤ τ41.2.1 10 j ∧ τ41.2.1 10 j ≤ 999 := fun j => hT.2 10 j
                      have A11 : ∀ j, (-1) ≤ τ41.2.1 11 j ∧ τ41.2.1 11 j ≤ 1499 := fun j => hT.2 11 j
                      have A12 : ∀ j, 0 ≤ τ41.2.1 12 j ∧ τ41.2.1 12 j ≤ 1 := fun j => hT.2 12 j
                      have A14 : ∀ j, 0 ≤ τ41.2.1 14 j ∧ τ41.2.1 14 j ≤ 30000 := fun j => hT.2 14 j
                      have A15 : ∀ j, 0 ≤ τ41.2.1 15 j ∧ τ41.2.1 15 j ≤ 300 := fun j => hT.2 15 j
                      have A16 : ∀ j, 0 ≤ τ41.2.1 16 j ∧ τ41.2.1 16 j ≤ 999 := fun j => hT.2 16 j
                      have A17 : ∀ j, (-1) ≤ τ41.2.1 17 j ∧ τ41.2.1 17 j ≤ 1499 := fun j => hT.2 17 j
                      have v0 : 0 ≤ τ41.1 0 ∧ τ41.1 0 ≤ 60000 := hT.1 0
                      have v3 : 0 ≤ τ41.1 3 ∧ τ41.1 3 ≤ 1000 := hT.1 3
                      have v4 : 0 ≤ τ41.1 4 ∧ τ41.1 4 ≤ 100 := hT.1 4
                      have v5 : 0 ≤ τ41.1 5 ∧ τ41.1 5 ≤ 1500 := hT.1 5
                      have v6 : 0 ≤ τ41.1 6 ∧ τ41.1 6 ≤ 30000 := hT.1 6
                      have v7 : 0 ≤ τ41.1 7 ∧ τ41.1 7 ≤ 90000 := hT.1 7
                      have v8 : 0 ≤ τ41.1 8 ∧ τ41.1 8 ≤ 20000 := hT.1 8
                      have v9 : 0 ≤ τ41.1 9 ∧ τ41.1 9 ≤ 20000 := hT.1 9
                      have v10 : (-1) ≤ τ41.1 10 ∧ τ41.1 10 ≤ 999 := hT.1 10
                      have v11 : (-1) ≤ τ41.1 11 ∧ τ41.1 11 ≤ 999 := hT.1 11
                      have v17 : 0 ≤ τ41.1 17 ∧ τ41.1 17 ≤ 60000 := hT.1 17
                      have v18 : 0 ≤ τ41.1 18 ∧ τ41.1 18 ≤ 60000 := hT.1 18
                      have v19 : (-1) ≤ τ41.1 19 ∧ τ41.1 19 ≤ 125 := hT.1 19
                      have v20 : 0 ≤ τ41.1 20 ∧ τ41.1 20 ≤ 19 := hT.1 20
                      have v22 : 0 ≤ τ41.1 22 ∧ τ41.1 22 ≤ 1499 := hT.1 22
                      have a14_22 : 0 ≤ τ41.2.1 14 (τ41.1 22) ∧ τ41.2.1 14 (τ41.1 22) ≤ 30000 := hT.2 14 _
                      have a15_22 : 0 ≤ τ41.2.1 15 (τ41.1 22) ∧ τ41.2.1 15 (τ41.1 22) ≤ 300 := hT.2 15 _
                      have av6 : σ.1 6 ≤ τ41.1 6 := ag.1 6 (by decide)
                      have Y20 : ca (τ41.2.1 12) (τ41.1 3) ≤ τ41.1 4 := by rw [g12_τ41, w3_τ41]; omega
                      have Z1 : τ41.2.1 14 (τ41.1 22) + τ41.2.1 15 (τ41.1 22) = τ41.1 6 := by omega
                      exact ⟨hT, (show (τ41.1 20) = 0 → τ41.2.1 15 (τ41.1 22) = 1 from by (first | omega | (simp only [st_s] <;> omega) | assumption | omega | fail)), (show τ41.2.1 15 (τ41.1 22) ≤ 1 from by (first | omega | (simp only [st_s] <;> omega) | assumption | omega | fail)), (show ¬ (σ.1 20) = 0 → (τ41.1 20) = (σ.1 20) from by (first | omega | (simp only [st_s] <;> omega) | assumption | omega | fail)), (show τ41.2.1 14 (τ41.1 22) + τ41.2.1 15 (τ41.1 22) = (τ41.1 6) from Z1), (show ca (τ41.2.1 12) ((τ41.1 3)) ≤ (τ41.1 4) from Y20), ag, (show (τ41.1 20) = 0 → n_N (τ41.2.1 14 (τ41.1 22)) (τ41.2.1 14 (τ41.1 22) + τ41.2.1 15 (τ41.1 22)) (σ.1 3) (σ.2.1 8) (σ.2.1 11) (τ41.2.1 12) (τ41.2.1 16) (τ41.2.1 17) from by (first | (intro z; exfalso; omega) | (intro _; rw [show τ41.2.1 14 (τ41.1 22) = σ.1 6 from by omega, show σ.1 6 + τ41.2.1 15 (τ41.1 22) = σ.1 6 + 1 from by omega]; exact n_N_1 q39_4 q39_5 (by omega) (x3lt (by omega)) (by rw [g12_τ41, st_s]; decide)) | fail)), (show n_rl σ τ41 from by (first | exact n_rl_h hf_τ11 rfl rfl | exact n_rl_h hf_τ20 rfl rfl | exact n_rl_h hf_τ29 rfl rfl | exact n_rl_h hf_τ36 rfl rfl | exact ⟨fun s _ _ _ => by rw [g10_τ41], fun s _ _ h => by (rw [g12_τ41]; by_cases z : s = x3; (rw [z, st_s]; decide); (rw [st_n _ _ z]; exact h)), Or.inl (by omega), Or.inl (by omega), by omega, fun zt s a b => by (rw [g10_τ41]; have h3 := zt s a (by omega); omega)⟩ | fail)), (show ∀ s : Int, ¬ σ.2.1 12 s = 0 → ¬ τ41.2.1 12 s = 0 from by (first | exact fun s h => by (rw [G12]; exact h) | exact fun s h => by (rw [g12_τ41]; by_cases z : s = x3; (rw [z, st_s]; decide); (rw [st_n _ _ z]; exact h)) | (intro s h; first | (rw [hf_τ11.2.1 12 (by decide)]; exact h) | (rw [hf_τ20.2.1 12 (by decide)]; exact h) | (rw [hf_τ29.2.1 12 (by decide)]; exact h) | (rw [hf_τ36.2.1 12 (by decide)]; exact h)) | fail))⟩
                    ·
                      refine h143 _ _ _ _ ?_
                      refine ⟨(⟨by (first | omega | (simp only [st_s] <;> omega) | assumption | omega | fail), by (first | omega | (simp only [st_s] <;> omega) | assumption | omega | fail)⟩ : rg ((σ.1 4) + 0)), ?_⟩
                      replace ag := ag_v (i := 4) (x := ((σ.1 4) + 0)) ag (Or.inl rfl)
                      replace hT := mT_v (i := 4) hT (show 0 ≤ ((σ.1 4) + 0) ∧ ((σ.1 4) + 0) ≤ 100 from by (first | omega | (simp only [st_s] <;> omega) | assumption | omega | fail))
                      have ct0 := ca_t0 (σ.2.1 12) x3 ((σ.1 3)) 1 (by omega) (by omega)
                      have ct2 := ca_t2 (σ.2.1 12) (e := x3) ((σ.1 3)) 1 (by omega) (by omega)
                      refine ⟨(show 0 ≤ x3 ∧ x3 < 1001 from by (first | omega | (simp only [st_s] <;> omega) | assumption | omega | fail)), ?_⟩
                      replace ag := ag_a (k := 12) (e := x3) (x := 1) ag rfl
                      replace hT := mT_a (k := 12) (j := x3) hT (show (0 : Int) ≤ 1 ∧ 1 ≤ 1 from by (first | omega | (simp only [st_s] <;> omega) | assumption | omega | fail))
                      have y14q : σ.2.1 14 (σ.1 22) = σ.1 6 := by omega
                      refine ⟨_, K3_X13_addSymbol hT (show 0 ≤ x3 from by (first | omega | (simp only [st_s] <;> omega) | assumption | omega | fail)) (show x3 < 1000 from by (first | omega | (simp only [st_s] <;> omega) | assumption | omega | fail)) (show -1 ≤ (-1 : Int) from by (first | omega | (simp only [st_s] <;> omega) | assumption | omega | fail)) (show (-1 : Int) ≤ 1499 from by (first | omega | (simp only [st_s] <;> omega) | assumption | omega | fail)) (show (σ.1 6) < 30000 from by (first | omega | (simp only [st_s] <;> omega) | assumption | omega | fail)) (show σ.2.1 15 (σ.1 22) < 300 from by (first | omega | (simp only [st_s] <;> omega) | assumption | omega | fail)) (show (σ.1 22) = (σ.1 5) from by (first | omega | (simp only [st_s] <;> omega) | assumption | omega | fail)), ?_⟩
                      intro τ41 hn_τ41 hf_τ41 hq
                      obtain ⟨hT, q39_1, q39_2, q39_3, q39_4, q39_5⟩ := hq
                      replace q39_1 : (τ41.1 6) = (σ.1 6) + 1 := q39_1
                      replace q39_2 : τ41.2.1 15 (τ41.1 22) = σ.2.1 15 (σ.1 22) + 1 := q39_2
                      replace q39_3 : m_ag (s_a (s_v σ 4 ((σ.1 4) + 0)) 12 x3 1) τ41 := q39_3
                      replace q39_4 : τ41.2.1 16 = st (σ.2.1 16) (σ.1 6) x3 := q39_4
                      replace q39_5 : τ41.2.1 17 = st (σ.2.1 17) (σ.1 6) (-1 : Int) := q39_5
                      replace ag : m_ag σ τ41 := ag_t ag q39_3 rfl
                      have w0_τ41 : τ41.1 0 = σ.1 0 := hf_τ41.1 0 (by decide)
                      have w3_τ41 : τ41.1 3 = σ.1 3 := hf_τ41.1 3 (by decide)
                      have w4_τ41 : τ41.1 4 = ((σ.1 4) + 0) := hf_τ41.1 4 (by decide)
                      have w5_τ41 : τ41.1 5 = σ.1 5 := hf_τ41.1 5 (by decide)
                      have w7_τ41 : τ41.1 7 = σ.1 7 := hf_τ41.1 7 (by decide)
                      have w8_τ41 : τ41.1 8 = σ.1 8 := hf_τ41.1 8 (by decide)
                      have w9_τ41 : τ41.1 9 = σ.1 9 := hf_τ41.1 9 (by decide)
                      have w10_τ41 : τ41.1 10 = σ.1 10 := hf_τ41.1 10 (by decide)
                      have w11_τ41 : τ41.1 11 = σ.1 11 := hf_τ41.1 11 (by decide)
                      have w17_τ41 : τ41.1 17 = σ.1 17 := hf_τ41.1 17 (by decide)
                      have w18_τ41 : τ41.1 18 = σ.1 18 := hf_τ41.1 18 (by decide)
                      have w19_τ41 : τ41.1 19 = σ.1 19 := hf_τ41.1 19 (by decide)
                      have w20_τ41 : τ41.1 20 = σ.1 20 := hf_τ41.1 20 (by decide)
                      have w22_τ41 : τ41.1 22 = σ.1 22 := hf_τ41.1 22 (by decide)
                      have g6_τ41 : τ41.2.1 6 = σ.2.1 6 := hf_τ41.2.1 6 (by decide)
                      have g8_τ41 : τ41.2.1 8 = σ.2.1 8 := hf_τ41.2.1 8 (by decide)
                      have g10_τ41 : τ41.2.1 10 = σ.2.1 10 := hf_τ41.2.1 10 (by decide)
                      have g11_τ41 : τ41.2.1 11 = σ.2.1 11 := hf_τ41.2.1 11 (by decide)
                      have g12_τ41 : τ41.2.1 12 = (st (σ.2.1 12) x3 1) := hf_τ41.2.1 12 (by decide)
                      have g14_τ41 : τ41.2.1 14 = σ.2.1 14 := hf_τ41.2.1 14 (by decide)
                      first | (have o6_τ41 := congrArg oc g6_τ41) | skip
                      have W0 : τ41.1 0 = σ.1 0 := by first | exact w0_τ41.trans W0 | omega
                      have W3 : τ41.1 3 = σ.1 3 := by first | exact w3_τ41.trans W3 | omega
                      have W5 : τ41.1 5 = σ.1 5 := by first | exact w5_τ41.trans W5 | omega
                      have W7 : τ41.1 7 = σ.1 7 := by first | exact w7_τ41.trans W7 | omega
                      have W8 : τ41.1 8 = σ.1 8 := by first | exact w8_τ41.trans W8 | omega
                      have W9 : τ41.1 9 = σ.1 9 := by first | exact w9_τ41.trans W9 | omega
                      have W10 : τ41.1 10 = σ.1 10 := by first | exact w10_τ41.trans W10 | omega
                      have W11 : τ41.1 11 = σ.1 11 := by first | exact w11_τ41.trans W11 | omega
                      have W17 : τ41.1 17 = σ.1 17 := by first | exact w17_τ41.trans W17 | omega
                      have W18 : τ41.1 18 = σ.1 18 := by first | exact w18_τ41.trans W18 | omega
                      have W19 : τ41.1 19 = σ.1 19 := by first | exact w19_τ41.trans W19 | omega
                      have W22 : τ41.1 22 = σ.1 22 := by first | exact w22_τ41.trans W22 | omega
                      have G6 : τ41.2.1 6 = σ.2.1 6 := (g6_τ41).trans G6
                      have G8 : τ41.2.1 8 = σ.2.1 8 := (g8_τ41).trans G8
                      have G10 : τ41.2.1 10 = σ.2.1 10 := (g10_τ41).trans G10
                      have G11 : τ41.2.1 11 = σ.2.1 11 := (g11_τ41).trans G11
                      have G14 : τ41.2.1 14 = σ.2.1 14 := (g14_τ41).trans G14
                      have y14_22_τ41 : τ41.2.1 14 (τ41.1 22) = (σ.2.1 14) (σ.1 22) := by rw [g14_τ41, w22_τ41]
                      have Y1 : j_l2 (τ41.2.1 6) (τ41.1 3) := by rw [show (j_l2 (τ41.2.1 6) (τ41.1 3)) = (j_l2 (σ.2.1 6) (σ.1 3)) from by rw [w3_τ41, g6_τ41]]; exact Y1
                      have STt : j_l2 (τ41.2.1 6) (τ41.1 3) := by rw [show (j_l2 (τ41.2.1 6) (τ41.1 3)) = (j_l2 (σ.2.1 6) (σ.1 3)) from by rw [w3_τ41, g6_τ41]]; exact STt
                      have A6 : ∀ j, (-1) ≤ τ41.2.1 6 j ∧ τ41.2.1 6 j ≤ 999 := fun j => hT.2 6 j
                      have A8 : ∀ j, 0 ≤ τ41.2.1 8 j ∧ τ41.2.1 8 j ≤ 1 := fun j => hT.2 8 j
                      have A10 : ∀ j, (-1) ≤ τ41.2.1 10 j ∧ τ41.2.1 10 j ≤ 999 := fun j => hT.2 10 j
                      have A11 : ∀ j, (-1) ≤ τ41.2.1 11 j ∧ τ41.2.1 11 j ≤ 1499 := fun j => hT.2 11 j
                      have A12 : ∀ j, 0 ≤ τ41.2.1 12 j ∧ τ41.2.1 12 j ≤ 1 := fun j => hT.2 12 j
                      have A14 : ∀ j, 0 ≤ τ41.2.1 14 j ∧ τ41.2.1 14 j ≤ 30000 := fun j => hT.2 14 j
                      have A15 : ∀ j, 0 ≤ τ41.2.1 15 j ∧ τ41.2.1 15 j ≤ 300 := fun j => hT.2 15 j
                      have A16 : ∀ j, 0 ≤ τ41.2.1 16 j ∧ τ41.2.1 16 j ≤ 999 := fun j => hT.2 16 j
                      have A17 : ∀ j, (-1) ≤ τ41.2.1 17 j ∧ τ41.2.1 17 j ≤ 1499 := fun j => hT.2 17 j
                      have v0 : 0 ≤ τ41.1 0 ∧ τ41.1 0 ≤ 60000 := hT.1 0
                      have v3 : 0 ≤ τ41.1 3 ∧ τ41.1 3 ≤ 1000 := hT.1 3
                      have v4 : 0 ≤ τ41.1 4 ∧ τ41.1 4 ≤ 100 := hT.1 4
                      have v5 : 0 ≤ τ41.1 5 ∧ τ41.1 5 ≤ 1500 := hT.1 5
                      have v6 : 0 ≤ τ41.1 6 ∧ τ41.1 6 ≤ 30000 := hT.1 6
                      have v7 : 0 ≤ τ41.1 7 ∧ τ41.1 7 ≤ 90000 := hT.1 7
                      have v8 : 0 ≤ τ41.1 8 ∧ τ41.1 8 ≤ 20000 := hT.1 8
                      have v9 : 0 ≤ τ41.1 9 ∧ τ41.1 9 ≤ 20000 := hT.1 9
                      have v10 : (-1) ≤ τ41.1 10 ∧ τ41.1 10 ≤ 999 := hT.1 10
                      have v11 : (-1) ≤ τ41.1 11 ∧ τ41.1 11 ≤ 999 := hT.1 11
                      have v17 : 0 ≤ τ41.1 17 ∧ τ41.1 17 ≤ 60000 := hT.1 17
                      have v18 : 0 ≤ τ41.1 18 ∧ τ41.1 18 ≤ 60000 := hT.1 18
                      have v19 : (-1) ≤ τ41.1 19 ∧ τ41.1 19 ≤ 125 := hT.1 19
                      have v20 : 0 ≤ τ41.1 20 ∧ τ41.1 20 ≤ 19 := hT.1 20
                      have v22 : 0 ≤ τ41.1 22 ∧ τ41.1 22 ≤ 1499 := hT.1 22
                      have a14_22 : 0 ≤ τ41.2.1 14 (τ41.1 22) ∧ τ41.2.1 14 (τ41.1 22) ≤ 30000 := hT.2 14 _
                      have a15_22 : 0 ≤ τ41.2.1 15 (τ41.1 22) ∧ τ41.2.1 15 (τ41.1 22) ≤ 300 := hT.2 15 _
                      have av6 : σ.1 6 ≤ τ41.1 6 := ag.1 6 (by decide)
                      have Y20 : ca (τ41.2.1 12) (τ41.1 3) ≤ τ41.1 4 := by rw [g12_τ41, w3_τ41]; omega
                      have Z1 : τ41.2.1 14 (τ41.1 22) + τ41.2.1 15 (τ41.1 22) = τ41.1 6 := by omega
                      exact ⟨hT, (show (τ41.1 20) = 0 → τ41.2.1 15 (τ41.1 22) = 1 from by (first | omega | (simp only [st_s] <;> omega) | assumption | omega | fail)), (show τ41.2.1 15 (τ41.1 22) ≤ 1 from by (first | omega | (simp only [st_s] <;> omega) | assumption | omega | fail)), (show ¬ (σ.1 20) = 0 → (τ41.1 20) = (σ.1 20) from by (first | omega | (simp only [st_s] <;> omega) | assumption | omega | fail)), (show τ41.2.1 14 (τ41.1 22) + τ41.2.1 15 (τ41.1 22) = (τ41.1 6) from Z1), (show ca (τ41.2.1 12) ((τ41.1 3)) ≤ (τ41.1 4) from Y20), ag, (show (τ41.1 20) = 0 → n_N (τ41.2.1 14 (τ41.1 22)) (τ41.2.1 14 (τ41.1 22) + τ41.2.1 15 (τ41.1 22)) (σ.1 3) (σ.2.1 8) (σ.2.1 11) (τ41.2.1 12) (τ41.2.1 16) (τ41.2.1 17) from by (first | (intro z; exfalso; omega) | (intro _; rw [show τ41.2.1 14 (τ41.1 22) = σ.1 6 from by omega, show σ.1 6 + τ41.2.1 15 (τ41.1 22) = σ.1 6 + 1 from by omega]; exact n_N_1 q39_4 q39_5 (by omega) (x3lt (by omega)) (by rw [g12_τ41, st_s]; decide)) | fail)), (show n_rl σ τ41 from by (first | exact n_rl_h hf_τ11 rfl rfl | exact n_rl_h hf_τ20 rfl rfl | exact n_rl_h hf_τ29 rfl rfl | exact n_rl_h hf_τ36 rfl rfl | exact ⟨fun s _ _ _ => by rw [g10_τ41], fun s _ _ h => by (rw [g12_τ41]; by_cases z : s = x3; (rw [z, st_s]; decide); (rw [st_n _ _ z]; exact h)), Or.inl (by omega), Or.inl (by omega), by omega, fun zt s a b => by (rw [g10_τ41]; have h3 := zt s a (by omega); omega)⟩ | fail)), (show ∀ s : Int, ¬ σ.2.1 12 s = 0 → ¬ τ41.2.1 12 s = 0 from by (first | exact fun s h => by (rw [G12]; exact h) | exact fun s h => by (rw [g12_τ41]; by_cases z : s = x3; (rw [z, st_s]; decide); (rw [st_n _ _ z]; exact h)) | (intro s h; first | (rw [hf_τ11.2.1 12 (by decide)]; exact h) | (rw [hf_τ20.2.1 12 (by decide)]; exact h) | (rw [hf_τ29.2.1 12 (by decide)]; exact h) | (rw [hf_τ36.2.1 12 (by decide)]; exact h)) | fail))⟩
                  ·
                    refine ⟨_, K_X13_failHere hT (show 0 ≤ (10 : Int) from by (first | omega | (simp only [st_s] <;> omega) | assumption | omega | fail)) (show (10 : Int) ≤ 19 from by (first | omega | (simp only [st_s] <;> omega) | assumption | omega | fail)), ?_⟩
                    intro τ36 hn_τ36 hf_τ36 hq
                    obtain ⟨hT, q34_1, q34_2⟩ := hq
                    replace q34_1 : ¬ (σ.1 20) = 0 → (τ36.1 20) = (σ.1 20) := q34_1
                    replace q34_2 : (σ.1 20) = 0 → (τ36.1 20) = (10 : Int) := q34_2
                    replace ag : m_ag σ τ36 := ag_r ag hf_τ36 rfl rfl
                    have w0_τ36 : τ36.1 0 = σ.1 0 := hf_τ36.1 0 (by decide)
                    have w3_τ36 : τ36.1 3 = σ.1 3 := hf_τ36.1 3 (by decide)
                    have w4_τ36 : τ36.1 4 = σ.1 4 := hf_τ36.1 4 (by decide)
                    have w5_τ36 : τ36.1 5 = σ.1 5 := hf_τ36.1 5 (by decide)
                    have w6_τ36 : τ36.1 6 = σ.1 6 := hf_τ36.1 6 (by decide)
                    have w7_τ36 : τ36.1 7 = σ.1 7 := hf_τ36.1 7 (by decide)
                    have w8_τ36 : τ36.1 8 = σ.1 8 := hf_τ36.1 8 (by decide)
                    have w9_τ36 : τ36.1 9 = σ.1 9 := hf_τ36.1 9 (by decide)
                    have w10_τ36 : τ36.1 10 = σ.1 10 := hf_τ36.1 10 (by decide)
                    have w11_τ36 : τ36.1 11 = σ.1 11 := hf_τ36.1 11 (by decide)
                    have w17_τ36 : τ36.1 17 = σ.1 17 := hf_τ36.1 17 (by decide)
                    have w18_τ36 : τ36.1 18 = σ.1 18 := hf_τ36.1 18 (by decide)
                    have w19_τ36 : τ36.1 19 = σ.1 19 := hf_τ36.1 19 (by decide)
                    have w22_τ36 : τ36.1 22 = σ.1 22 := hf_τ36.1 22 (by decide)
                    have g6_τ36 : τ36.2.1 6 = σ.2.1 6 := hf_τ36.2.1 6 (by decide)
                    have g8_τ36 : τ36.2.1 8 = σ.2.1 8 := hf_τ36.2.1 8 (by decide)
                    have g10_τ36 : τ36.2.1 10 = σ.2.1 10 := hf_τ36.2.1 10 (by decide)
                    have g11_τ36 : τ36.2.1 11 = σ.2.1 11 := hf_τ36.2.1 11 (by decide)
                    have g12_τ36 : τ36.2.1 12 = σ.2.1 12 := hf_τ36.2.1 12 (by decide)
                    have g14_τ36 : τ36.2.1 14 = σ.2.1 14 := hf_τ36.2.1 14 (by decide)
                    have g15_τ36 : τ36.2.1 15 = σ.2.1 15 := hf_τ36.2.1 15 (by decide)
                    have g16_τ36 : τ36.2.1 16 = σ.2.1 16 := hf_τ36.2.1 16 (by decide)
                    have g17_τ36 : τ36.2.1 17 = σ.2.1 17 := hf_τ36.2.1 17 (by decide)
                    first | (have o6_τ36 := congrArg oc g6_τ36) | skip
                    have W0 : τ36.1 0 = σ.1 0 := by first | exact w0_τ36.trans W0 | omega
                    have W3 : τ36.1 3 = σ.1 3 := by first | exact w3_τ36.trans W3 | omega
                    have W5 : τ36.1 5 = σ.1 5 := by first | exact w5_τ36.trans W5 | omega
                    have W7 : τ36.1 7 = σ.1 7 := by first | exact w7_τ36.trans W7 | omega
                    have W8 : τ36.1 8 = σ.1 8 := by first | exact w8_τ36.trans W8 | omega
                    have W9 : τ36.1 9 = σ.1 9 := by first | exact w9_τ36.trans W9 | omega
                    have W10 : τ36.1 10 = σ.1 10 := by first | exact w10_τ36.trans W10 | omega
                    have W11 : τ36.1 11 = σ.1 11 := by first | exact w11_τ36.trans W11 | omega
                    have W17 : τ36.1 17 = σ.1 17 := by first | exact w17_τ36.trans W17 | omega
                    have W18 : τ36.1 18 = σ.1 18 := by first | exact w18_τ36.trans W18 | omega
                    have W19 : τ36.1 19 = σ.1 19 := by first | exact w19_τ36.trans W19 | omega
                    have W22 : τ36.1 22 = σ.1 22 := by first | exact w22_τ36.trans W22 | omega
                    have G6 : τ36.2.1 6 = σ.2.1 6 := (g6_τ36).trans G6
                    have G8 : τ36.2.1 8 = σ.2.1 8 := (g8_τ36).trans G8
                    have G10 : τ36.2.1 10 = σ.2.1 10 := (g10_τ36).trans G10
                    have G11 : τ36.2.1 11 = σ.2.1 11 := (g11_τ36).trans G11
                    have G14 : τ36.2.1 14 = σ.2.1 14 := (g14_τ36).trans G14
                    have y14_22_τ36 : τ36.2.1 14 (τ36.1 22) = (σ.2.1 14) (σ.1 22) := by rw [g14_τ36, w22_τ36]
                    have y15_22_τ36 : τ36.2.1 15 (τ36.1 22) = (σ.2.1 15) (σ.1 22) := by rw [g15_τ36, w22_τ36]
                    have Z1 : τ36.2.1 14 (τ36.1 22) + τ36.2.1 15 (τ36.1 22) = (τ36.1 6) := by rw [show (τ36.2.1 14 (τ36.1 22) + τ36.2.1 15 (τ36.1 22) = (τ36.1 6)) = (σ.2.1 14 (σ.1 22) + σ.2.1 15 (σ.1 22) = (σ.1 6)) from by rw [w6_τ36, w22_τ36, g14_τ36, g15_τ36]]; exact Z1
                    have Y20 : ca (τ36.2.1 12) ((τ36.1 3)) ≤ (τ36.1 4) := by rw [show (ca (τ36.2.1 12) ((τ36.1 3)) ≤ (τ36.1 4)) = (ca (σ.2.1 12) ((σ.1 3)) ≤ (σ.1 4)) from by rw [w3_τ36, w4_τ36, g12_τ36]]; exact Y20
                    have Y1 : j_l2 (τ36.2.1 6) (τ36.1 3) := by rw [show (j_l2 (τ36.2.1 6) (τ36.1 3)) = (j_l2 (σ.2.1 6) (σ.1 3)) from by rw [w3_τ36, g6_τ36]]; exact Y1
                    have STt : j_l2 (τ36.2.1 6) (τ36.1 3) := by rw [show (j_l2 (τ36.2.1 6) (τ36.1 3)) = (j_l2 (σ.2.1 6) (σ.1 3)) from by rw [w3_τ36, g6_τ36]]; exact STt
                    have A6 : ∀ j, (-1) ≤ τ36.2.1 6 j ∧ τ36.2.1 6 j ≤ 999 := fun j => hT.2 6 j
                    have A8 : ∀ j, 0 ≤ τ36.2.1 8 j ∧ τ36.2.1 8 j ≤ 1 := fun j => hT.2 8 j
                    have A10 : ∀ j, (-1) ≤ τ36.2.1 10 j ∧ τ36.2.1 10 j ≤ 999 := fun j => hT.2 10 j
                    have A11 : ∀ j, (-1) ≤ τ36.2.1 11 j ∧ τ36.2.1 11 j ≤ 1499 := fun j => hT.2 11 j
                    have A12 : ∀ j, 0 ≤ τ36.2.1 12 j ∧ τ36.2.1 12 j ≤ 1 := fun j => hT.2 12 j
                    have A14 : ∀ j, 0 ≤ τ36.2.1 14 j ∧ τ36.2.1 14 j ≤ 30000 := fun j => hT.2 14 j
                    have A15 : ∀ j, 0 ≤ τ36.2.1 15 j ∧ τ36.2.1 15 j ≤ 300 := fun j => hT.2 15 j
                    have A16 : ∀ j, 0 ≤ τ36.2.1 16 j ∧ τ36.2.1 16 j ≤ 999 := fun j => hT.2 16 j
                    have A17 : ∀ j, (-1) ≤ τ36.2.1 17 j ∧ τ36.2.1 17 j ≤ 1499 := fun j => hT.2 17 j
                    have v0 : 0 ≤ τ36.1 0 ∧ τ36.1 0 ≤ 60000 := hT.1 0
                    have v3 : 0 ≤ τ36.1 3 ∧ τ36.1 3 ≤ 1000 := hT.1 3
                    have v4 : 0 ≤ τ36.1 4 ∧ τ36.1 4 ≤ 100 := hT.1 4
                    have v5 : 0 ≤ τ36.1 5 ∧ τ36.1 5 ≤ 1500 := hT.1 5
                    have v6 : 0 ≤ τ36.1 6 ∧ τ36.1 6 ≤ 30000 := hT.1 6
                    have v7 : 0 ≤ τ36.1 7 ∧ τ36.1 7 ≤ 90000 := hT.1 7
                    have v8 : 0 ≤ τ36.1 8 ∧ τ36.1 8 ≤ 20000 := hT.1 8
                    have v9 : 0 ≤ τ36.1 9 ∧ τ36.1 9 ≤ 20000 := hT.1 9
                    have v10 : (-1) ≤ τ36.1 10 ∧ τ36.1 10 ≤ 999 := hT.1 10
                    have v11 : (-1) ≤ τ36.1 11 ∧ τ36.1 11 ≤ 999 := hT.1 11
                    have v17 : 0 ≤ τ36.1 17 ∧ τ36.1 17 ≤ 60000 := hT.1 17
                    have v18 : 0 ≤ τ36.1 18 ∧ τ36.1 18 ≤ 60000 := hT.1 18
                    have v19 : (-1) ≤ τ36.1 19 ∧ τ36.1 19 ≤ 125 := hT.1 19
                    have v20 : 0 ≤ τ36.1 20 ∧ τ36.1 20 ≤ 19 := hT.1 20
                    have v22 : 0 ≤ τ36.1 22 ∧ τ36.1 22 ≤ 1499 := hT.1 22
                    have a14_22 : 0 ≤ τ36.2.1 14 (τ36.1 22) ∧ τ36.2.1 14 (τ36.1 22) ≤ 30000 := hT.2 14 _
                    have a15_22 : 0 ≤ τ36.2.1 15 (τ36.1 22) ∧ τ36.2.1 15 (τ36.1 22) ≤ 300 := hT.2 15 _
                    have av6 : σ.1 6 ≤ τ36.1 6 := ag.1 6 (by decide)
                    exact ⟨hT, (show (τ36.1 20) = 0 → τ36.2.1 15 (τ36.1 22) = 1 from by (first | omega | (simp only [st_s] <;> omega) | assumption | omega | fail)), (show τ36.2.1 15 (τ36.1 22) ≤ 1 from by (first | omega | (simp only [st_s] <;> omega) | assumption | omega | fail)), (show ¬ (σ.1 20) = 0 → (τ36.1 20) = (σ.1 20) from by (first | omega | (simp only [st_s] <;> omega) | assumption | omega | fail)), (show τ36.2.1 14 (τ36.1 22) + τ36.2.1 15 (τ36.1 22) = (τ36.1 6) from Z1), (show ca (τ36.2.1 12) ((τ36.1 3)) ≤ (τ36.1 4) from Y20), ag, (show (τ36.1 20) = 0 → n_N (τ36.2.1 14 (τ36.1 22)) (τ36.2.1 14 (τ36.1 22) + τ36.2.1 15 (τ36.1 22)) (σ.1 3) (σ.2.1 8) (σ.2.1 11) (τ36.2.1 12) (τ36.2.1 16) (τ36.2.1 17) from by (first | (intro z; exfalso; omega) | (intro _; rw [show τ41.2.1 14 (τ41.1 22) = σ.1 6 from by omega, show σ.1 6 + τ41.2.1 15 (τ41.1 22) = σ.1 6 + 1 from by omega]; exact n_N_1 q39_4 q39_5 (by omega) (x3lt (by omega)) (by rw [g12_τ41, st_s]; decide)) | fail)), (show n_rl σ τ36 from by (first | exact n_rl_h hf_τ11 rfl rfl | exact n_rl_h hf_τ20 rfl rfl | exact n_rl_h hf_τ29 rfl rfl | exact n_rl_h hf_τ36 rfl rfl | exact ⟨fun s _ _ _ => by rw [g10_τ41], fun s _ _ h => by (rw [g12_τ41]; by_cases z : s = x3; (rw [z, st_s]; decide); (rw [st_n _ _ z]; exact h)), Or.inl (by omega), Or.inl (by omega), by omega, fun zt s a b => by (rw [g10_τ41]; have h3 := zt s a (by omega); omega)⟩ | fail)), (show ∀ s : Int, ¬ σ.2.1 12 s = 0 → ¬ τ36.2.1 12 s = 0 from by (first | exact fun s h => by (rw [G12]; exact h) | exact fun s h => by (rw [g12_τ41]; by_cases z : s = x3; (rw [z, st_s]; decide); (rw [st_n _ _ z]; exact h)) | (intro s h; first | (rw [hf_τ11.2.1 12 (by decide)]; exact h) | (rw [hf_τ20.2.1 12 (by decide)]; exact h) | (rw [hf_τ29.2.1 12 (by decide)]; exact h) | (rw [hf_τ36.2.1 12 (by decide)]; exact h)) | fail))⟩
                ·
                  refine h102 _ ?_
                  refine ⟨_, K_X13_failHere hT (show 0 ≤ (9 : Int) from by (first | omega | (simp only [st_s] <;> omega) | assumption | omega | fail)) (show (9 : Int) ≤ 19 from by (first | omega | (simp only [st_s] <;> omega) | assumption | omega | fail)), ?_⟩
                  intro τ29 hn_τ29 hf_τ29 hq
                  obtain ⟨hT, q27_1, q27_2⟩ := hq
                  replace q27_1 : ¬ (σ.1 20) = 0 → (τ29.1 20) = (σ.1 20) := q27_1
                  replace q27_2 : (σ.1 20) = 0 → (τ29.1 20) = (9 : Int) := q27_2
                  replace ag : m_ag σ τ29 := ag_r ag hf_τ29 rfl rfl
                  have w0_τ29 : τ29.1 0 = σ.1 0 := hf_τ29.1 0 (by decide)
                  have w3_τ29 : τ29.1 3 = σ.1 3 := hf_τ29.1 3 (by decide)
                  have w4_τ29 : τ29.1 4 = σ.1 4 := hf_τ29.1 4 (by decide)
                  have w5_τ29 : τ29.1 5 = σ.1 5 := hf_τ29.1 5 (by decide)
                  have w6_τ29 : τ29.1 6 = σ.1 6 := hf_τ29.1 6 (by decide)
                  have w7_τ29 : τ29.1 7 = σ.1 7 := hf_τ29.1 7 (by decide)
                  have w8_τ29 : τ29.1 8 = σ.1 8 := hf_τ29.1 8 (by decide)
                  have w9_τ29 : τ29.1 9 = σ.1 9 := hf_τ29.1 9 (by decide)
                  have w10_τ29 : τ29.1 10 = σ.1 10 := hf_τ29.1 10 (by decide)
                  have w11_τ29 : τ29.1 11 = σ.1 11 := hf_τ29.1 11 (by decide)
                  have w17_τ29 : τ29.1 17 = σ.1 17 := hf_τ29.1 17 (by decide)
                  have w18_τ29 : τ29.1 18 = σ.1 18 := hf_τ29.1 18 (by decide)
                  have w19_τ29 : τ29.1 19 = σ.1 19 := hf_τ29.1 19 (by decide)
                  have w22_τ29 : τ29.1 22 = σ.1 22 := hf_τ29.1 22 (by decide)
                  have g6_τ29 : τ29.2.1 6 = σ.2.1 6 := hf_τ29.2.1 6 (by decide)
                  have g8_τ29 : τ29.2.1 8 = σ.2.1 8 := hf_τ29.2.1 8 (by decide)
                  have g10_τ29 : τ29.2.1 10 = σ.2.1 10 := hf_τ29.2.1 10 (by decide)
                  have g11_τ29 : τ29.2.1 11 = σ.2.1 11 := hf_τ29.2.1 11 (by decide)
                  have g12_τ29 : τ29.2.1 12 = σ.2.1 12 := hf_τ29.2.1 12 (by decide)
                  have g14_τ29 : τ29.2.1 14 = σ.2.1 14 := hf_τ29.2.1 14 (by decide)
                  have g15_τ29 : τ29.2.1 15 = σ.2.1 15 := hf_τ29.2.1 15 (by decide)
                  have g16_τ29 : τ29.2.1 16 = σ.2.1 16 := hf_τ29.2.1 16 (by decide)
                  have g17_τ29 : τ29.2.1 17 = σ.2.1 17 := hf_τ29.2.1 17 (by decide)
                  first | (have o6_τ29 := congrArg oc g6_τ29) | skip
                  have W0 : τ29.1 0 = σ.1 0 := by first | exact w0_τ29.trans W0 | omega
                  have W3 : τ29.1 3 = σ.1 3 := by first | exact w3_τ29.trans W3 | omega
                  have W5 : τ29.1 5 = σ.1 5 := by first | exact w5_τ29.trans W5 | omega
                  have W7 : τ29.1 7 = σ.1 7 := by first | exact w7_τ29.trans W7 | omega
                  have W8 : τ29.1 8 = σ.1 8 := by first | exact w8_τ29.trans W8 | omega
                  have W9 : τ29.1 9 = σ.1 9 := by first | exact w9_τ29.trans W9 | omega
                  have W10 : τ29.1 10 = σ.1 10 := by first | exact w10_τ29.trans W10 | omega
                  have W11 : τ29.1 11 = σ.1 11 := by first | exact w11_τ29.trans W11 | omega
                  have W17 : τ29.1 17 = σ.1 17 := by first | exact w17_τ29.trans W17 | omega
                  have W18 : τ29.1 18 = σ.1 18 := by first | exact w18_τ29.trans W18 | omega
                  have W19 : τ29.1 19 = σ.1 19 := by first | exact w19_τ29.trans W19 | omega
                  have W22 : τ29.1 22 = σ.1 22 := by first | exact w22_τ29.trans W22 | omega
                  have G6 : τ29.2.1 6 = σ.2.1 6 := (g6_τ29).trans G6
                  have G8 : τ29.2.1 8 = σ.2.1 8 := (g8_τ29).trans G8
                  have G10 : τ29.2.1 10 = σ.2.1 10 := (g10_τ29).trans G10
                  have G11 : τ29.2.1 11 = σ.2.1 11 := (g11_τ29).trans G11
                  have G14 : τ29.2.1 14 = σ.2.1 14 := (g14_τ29).trans G14
                  have y14_22_τ29 : τ29.2.1 14 (τ29.1 22) = (σ.2.1 14) (σ.1 22) := by rw [g14_τ29, w22_τ29]
                  have y15_22_τ29 : τ29.2.1 15 (τ29.1 22) = (σ.2.1 15) (σ.1 22) := by rw [g15_τ29, w22_τ29]
                  have Z1 : τ29.2.1 14 (τ29.1 22) + τ29.2.1 15 (τ29.1 22) = (τ29.1 6) := by rw [show (τ29.2.1 14 (τ29.1 22) + τ29.2.1 15 (τ29.1 22) = (τ29.1 6)) = (σ.2.1 14 (σ.1 22) + σ.2.1 15 (σ.1 22) = (σ.1 6)) from by rw [w6_τ29, w22_τ29, g14_τ29, g15_τ29]]; exact Z1
                  have Y20 : ca (τ29.2.1 12) ((τ29.1 3)) ≤ (τ29.1 4) := by rw [show (ca (τ29.2.1 12) ((τ29.1 3)) ≤ (τ29.1 4)) = (ca (σ.2.1 12) ((σ.1 3)) ≤ (σ.1 4)) from by rw [w3_τ29, w4_τ29, g12_τ29]]; exact Y20
                  have Y1 : j_l2 (τ29.2.1 6) (τ29.1 3) := by rw [show (j_l2 (τ29.2.1 6) (τ29.1 3)) = (j_l2 (σ.2.1 6) (σ.1 3)) from by rw [w3_τ29, g6_τ29]]; exact Y1
                  have STt : j_l2 (τ29.2.1 6) (τ29.1 3) := by rw [show (j_l2 (τ29.2.1 6) (τ29.1 3)) = (j_l2 (σ.2.1 6) (σ.1 3)) from by rw [w3_τ29, g6_τ29]]; exact STt
                  have A6 : ∀ j, (-1) ≤ τ29.2.1 6 j ∧ τ29.2.1 6 j ≤ 999 := fun j => hT.2 6 j
                  have A8 : ∀ j, 0 ≤ τ29.2.1 8 j ∧ τ29.2.1 8 j ≤ 1 := fun j => hT.2 8 j
                  have A10 : ∀ j, (-1) ≤ τ29.2.1 10 j ∧ τ29.2.1 10 j ≤ 999 := fun j => hT.2 10 j
                  have A11 : ∀ j, (-1) ≤ τ29.2.1 11 j ∧ τ29.2.1 11 j ≤ 1499 := fun j => hT.2 11 j
                  have A12 : ∀ j, 0 ≤ τ29.2.1 12 j ∧ τ29.2.1 12 j ≤ 1 := fun j => hT.2 12 j
                  have A14 : ∀ j, 0 ≤ τ29.2.1 14 j ∧ τ29.2.1 14 j ≤ 30000 := fun j => hT.2 14 j
                  have A15 : ∀ j, 0 ≤ τ29.2.1 15 j ∧ τ29.2.1 15 j ≤ 300 := fun j => hT.2 15 j
                  have A16 : ∀ j, 0 ≤ τ29.2.1 16 j ∧ τ29.2.1 16 j ≤ 999 := fun j => hT.2 16 j
                  have A17 : ∀ j, (-1) ≤ τ29.2.1 17 j ∧ τ29.2.1 17 j ≤ 1499 := fun j => hT.2 17 j
                  have v0 : 0 ≤ τ29.1 0 ∧ τ29.1 0 ≤ 60000 := hT.1 0
                  have v3 : 0 ≤ τ29.1 3 ∧ τ29.1 3 ≤ 1000 := hT.1 3
                  have v4 : 0 ≤ τ29.1 4 ∧ τ29.1 4 ≤ 100 := hT.1 4
                  have v5 : 0 ≤ τ29.1 5 ∧ τ29.1 5 ≤ 1500 := hT.1 5
                  have v6 : 0 ≤ τ29.1 6 ∧ τ29.1 6 ≤ 30000 := hT.1 6
                  have v7 : 0 ≤ τ29.1 7 ∧ τ29.1 7 ≤ 90000 := hT.1 7
                  have v8 : 0 ≤ τ29.1 8 ∧ τ29.1 8 ≤ 20000 := hT.1 8
                  have v9 : 0 ≤ τ29.1 9 ∧ τ29.1 9 ≤ 20000 := hT.1 9
                  have v10 : (-1) ≤ τ29.1 10 ∧ τ29.1 10 ≤ 999 := hT.1 10
                  have v11 : (-1) ≤ τ29.1 11 ∧ τ29.1 11 ≤ 999 := hT.1 11
                  have v17 : 0 ≤ τ29.1 17 ∧ τ29.1 17 ≤ 60000 := hT.1 17
                  have v18 : 0 ≤ τ29.1 18 ∧ τ29.1 18 ≤ 60000 := hT.1 18
                  have v19 : (-1) ≤ τ29.1 19 ∧ τ29.1 19 ≤ 125 := hT.1 19
                  have v20 : 0 ≤ τ29.1 20 ∧ τ29.1 20 ≤ 19 := hT.1 20
                  have v22 : 0 ≤ τ29.1 22 ∧ τ29.1 22 ≤ 1499 := hT.1 22
                  have a14_22 : 0 ≤ τ29.2.1 14 (τ29.1 22) ∧ τ29.2.1 14 (τ29.1 22) ≤ 30000 := hT.2 14 _
                  have a15_22 : 0 ≤ τ29.2.1 15 (τ29.1 22) ∧ τ29.2.1 15 (τ29.1 22) ≤ 300 := hT.2 15 _
                  have av6 : σ.1 6 ≤ τ29.1 6 := ag.1 6 (by decide)
                  exact ⟨hT, (show (τ29.1 20) = 0 → τ29.2.1 15 (τ29.1 22) = 1 from by (first | omega | (simp only [st_s] <;> omega) | assumption | omega | fail)), (show τ29.2.1 15 (τ29.1 22) ≤ 1 from by (first | omega | (simp only [st_s] <;> omega) | assumption | omega | fail)), (show ¬ (σ.1 20) = 0 → (τ29.1 20) = (σ.1 20) from by (first | omega | (simp only [st_s] <;> omega) | assumption | omega | fail)), (show τ29.2.1 14 (τ29.1 22) + τ29.2.1 15 (τ29.1 22) = (τ29.1 6) from Z1), (show ca (τ29.2.1 12) ((τ29.1 3)) ≤ (τ29.1 4) from Y20), ag, (show (τ29.1 20) = 0 → n_N (τ29.2.1 14 (τ29.1 22)) (τ29.2.1 14 (τ29.1 22) + τ29.2.1 15 (τ29.1 22)) (σ.1 3) (σ.2.1 8) (σ.2.1 11) (τ29.2.1 12) (τ29.2.1 16) (τ29.2.1 17) from by (first | (intro z; exfalso; omega) | (intro _; rw [show τ41.2.1 14 (τ41.1 22) = σ.1 6 from by omega, show σ.1 6 + τ41.2.1 15 (τ41.1 22) = σ.1 6 + 1 from by omega]; exact n_N_1 q39_4 q39_5 (by omega) (x3lt (by omega)) (by rw [g12_τ41, st_s]; decide)) | fail)), (show n_rl σ τ29 from by (first | exact n_rl_h hf_τ11 rfl rfl | exact n_rl_h hf_τ20 rfl rfl | exact n_rl_h hf_τ29 rfl rfl | exact n_rl_h hf_τ36 rfl rfl | exact ⟨fun s _ _ _ => by rw [g10_τ41], fun s _ _ h => by (rw [g12_τ41]; by_cases z : s = x3; (rw [z, st_s]; decide); (rw [st_n _ _ z]; exact h)), Or.inl (by omega), Or.inl (by omega), by omega, fun zt s a b => by (rw [g10_τ41]; have h3 := zt s a (by omega); omega)⟩ | fail)), (show ∀ s : Int, ¬ σ.2.1 12 s = 0 → ¬ τ29.2.1 12 s = 0 from by (first | exact fun s h => by (rw [G12]; exact h) | exact fun s h => by (rw [g12_τ41]; by_cases z : s = x3; (rw [z, st_s]; decide); (rw [st_n _ _ z]; exact h)) | (intro s h; first | (rw [hf_τ11.2.1 12 (by decide)]; exact h) | (rw [hf_τ20.2.1 12 (by decide)]; exact h) | (rw [hf_τ29.2.1 12 (by decide)]; exact h) | (rw [hf_τ36.2.1 12 (by decide)]; exact h)) | fail))⟩
          ·
            refine ⟨(show 0 ≤ x3 ∧ x3 < 1001 from by (first | omega | (simp only [st_s] <;> omega) | assumption | omega | fail)), ?_⟩
            intro x15 r_x15 e_x15
            have b_x15 : 0 ≤ x15 ∧ x15 ≤ 1 := by rw [e_x15]; exact hT.2 12 _
            refine ⟨fun c16 => ?_, fun c16 => ?_⟩
            ·
              refine h79 _ _ _ ?_
              refine ⟨fun c21 => ?_, fun c21 => ?_⟩
              ·
                refine h102 _ ?_
                refine ⟨_, K_X13_failHere hT (show 0 ≤ (9 : Int) from by (first | omega | (simp only [st_s] <;> omega) | assumption | omega | fail)) (show (9 : Int) ≤ 19 from by (first | omega | (simp only [st_s] <;> omega) | assumption | omega | fail)), ?_⟩
                intro τ29 hn_τ29 hf_τ29 hq
                obtain ⟨hT, q27_1, q27_2⟩ := hq
                replace q27_1 : ¬ (σ.1 20) = 0 → (τ29.1 20) = (σ.1 20) := q27_1
                replace q27_2 : (σ.1 20) = 0 → (τ29.1 20) = (9 : Int) := q27_2
                replace ag : m_ag σ τ29 := ag_r ag hf_τ29 rfl rfl
                have w0_τ29 : τ29.1 0 = σ.1 0 := hf_τ29.1 0 (by decide)
                have w3_τ29 : τ29.1 3 = σ.1 3 := hf_τ29.1 3 (by decide)
                have w4_τ29 : τ29.1 4 = σ.1 4 := hf_τ29.1 4 (by decide)
                have w5_τ29 : τ29.1 5 = σ.1 5 := hf_τ29.1 5 (by decide)
                have w6_τ29 : τ29.1 6 = σ.1 6 := hf_τ29.1 6 (by decide)
                have w7_τ29 : τ29.1 7 = σ.1 7 := hf_τ29.1 7 (by decide)
                have w8_τ29 : τ29.1 8 = σ.1 8 := hf_τ29.1 8 (by decide)
                have w9_τ29 : τ29.1 9 = σ.1 9 := hf_τ29.1 9 (by decide)
                have w10_τ29 : τ29.1 10 = σ.1 10 := hf_τ29.1 10 (by decide)
                have w11_τ29 : τ29.1 11 = σ.1 11 := hf_τ29.1 11 (by decide)
                have w17_τ29 : τ29.1 17 = σ.1 17 := hf_τ29.1 17 (by decide)
                have w18_τ29 : τ29.1 18 = σ.1 18 := hf_τ29.1 18 (by decide)
                have w19_τ29 : τ29.1 19 = σ.1 19 := hf_τ29.1 19 (by decide)
                have w22_τ29 : τ29.1 22 = σ.1 22 := hf_τ29.1 22 (by decide)
                have g6_τ29 : τ29.2.1 6 = σ.2.1 6 := hf_τ29.2.1 6 (by decide)
                have g8_τ29 : τ29.2.1 8 = σ.2.1 8 := hf_τ29.2.1 8 (by decide)
                have g10_τ29 : τ29.2.1 10 = σ.2.1 10 := hf_τ29.2.1 10 (by decide)
                have g11_τ29 : τ29.2.1 11 = σ.2.1 11 := hf_τ29.2.1 11 (by decide)
                have g12_τ29 : τ29.2.1 12 = σ.2.1 12 := hf_τ29.2.1 12 (by decide)
                have g14_τ29 : τ29.2.1 14 = σ.2.1 14 := hf_τ29.2.1 14 (by decide)
                have g15_τ29 : τ29.2.1 15 = σ.2.1 15 := hf_τ29.2.1 15 (by decide)
                have g16_τ29 : τ29.2.1 16 = σ.2.1 16 := hf_τ29.2.1 16 (by decide)
                have g17_τ29 : τ29.2.1 17 = σ.2.1 17 := hf_τ29.2.1 17 (by decide)
                first | (have o6_τ29 := congrArg oc g6_τ29) | skip
                have W0 : τ29.1 0 = σ.1 0 := by first | exact w0_τ29.trans W0 | omega
                have W3 : τ29.1 3 = σ.1 3 := by first | exact w3_τ29.trans W3 | omega
                have W5 : τ29.1 5 = σ.1 5 := by first | exact w5_τ29.trans W5 | omega
                have W7 : τ29.1 7 = σ.1 7 := by first | exact w7_τ29.trans W7 | omega
                have W8 : τ29.1 8 = σ.1 8 := by first | exact w8_τ29.trans W8 | omega
                have W9 : τ29.1 9 = σ.1 9 := by first | exact w9_τ29.trans W9 | omega
                have W10 : τ29.1 10 = σ.1 10 := by first | exact w10_τ29.trans W10 | omega
                have W11 : τ29.1 11 = σ.1 11 := by first | exact w11_τ29.trans W11 | omega
                have W17 : τ29.1 17 = σ.1 17 := by first | exact w17_τ29.trans W17 | omega
                have W18 : τ29.1 18 = σ.1 18 := by first | exact w18_τ29.trans W18 | omega
                have W19 : τ29.1 19 = σ.1 19 := by first | exact w19_τ29.trans W19 | omega
                have W22 : τ29.1 22 = σ.1 22 := by first | exact w22_τ29.trans W22 | omega
                have G6 : τ29.2.1 6 = σ.2.1 6 := (g6_τ29).trans G6
                have G8 : τ29.2.1 8 = σ.2.1 8 := (g8_τ29).trans G8
                have G10 : τ29.2.1 10 = σ.2.1 10 := (g10_τ29).trans G10
                have G11 : τ29.2.1 11 = σ.2.1 11 := (g11_τ29).trans G11
                have G14 : τ29.2.1 14 = σ.2.1 14 := (g14_τ29).trans G14
                have y14_22_τ29 : τ29.2.1 14 (τ29.1 22) = (σ.2.1 14) (σ.1 22) := by rw [g14_τ29, w22_τ29]
                have y15_22_τ29 : τ29.2.1 15 (τ29.1 22) = (σ.2.1 15) (σ.1 22) := by rw [g15_τ29, w22_τ29]
                have Z1 : τ29.2.1 14 (τ29.1 22) + τ29.2.1 15 (τ29.1 22) = (τ29.1 6) := by rw [show (τ29.2.1 14 (τ29.1 22) + τ29.2.1 15 (τ29.1 22) = (τ29.1 6)) = (σ.2.1 14 (σ.1 22) + σ.2.1 15 (σ.1 22) = (σ.1 6)) from by rw [w6_τ29, w22_τ29, g14_τ29, g15_τ29]]; exact Z1
                have Y20 : ca (τ29.2.1 12) ((τ29.1 3)) ≤ (τ29.1 4) := by rw [show (ca (τ29.2.1 12) ((τ29.1 3)) ≤ (τ29.1 4)) = (ca (σ.2.1 12) ((σ.1 3)) ≤ (σ.1 4)) from by rw [w3_τ29, w4_τ29, g12_τ29]]; exact Y20
                have Y1 : j_l2 (τ29.2.1 6) (τ29.1 3) := by rw [show (j_l2 (τ29.2.1 6) (τ29.1 3)) = (j_l2 (σ.2.1 6) (σ.1 3)) from by rw [w3_τ29, g6_τ29]]; exact Y1
                have STt : j_l2 (τ29.2.1 6) (τ29.1 3) := by rw [show (j_l2 (τ29.2.1 6) (τ29.1 3)) = (j_l2 (σ.2.1 6) (σ.1 3)) from by rw [w3_τ29, g6_τ29]]; exact STt
                have A6 : ∀ j, (-1) ≤ τ29.2.1 6 j ∧ τ29.2.1 6 j ≤ 999 := fun j => hT.2 6 j
                have A8 : ∀ j, 0 ≤ τ29.2.1 8 j ∧ τ29.2.1 8 j ≤ 1 := fun j => hT.2 8 j
                have A10 : ∀ j, (-1) ≤ τ29.2.1 10 j ∧ τ29.2.1 10 j ≤ 999 := fun j => hT.2 10 j
                have A11 : ∀ j, (-1) ≤ τ29.2.1 11 j ∧ τ29.2.1 11 j ≤ 1499 := fun j => hT.2 11 j
                have A12 : ∀ j, 0 ≤ τ29.2.1 12 j ∧ τ29.2.1 12 j ≤ 1 := fun j => hT.2 12 j
                have A14 : ∀ j, 0 ≤ τ29.2.1 14 j ∧ τ29.2.1 14 j ≤ 30000 := fun j => hT.2 14 j
                have A15 : ∀ j, 0 ≤ τ29.2.1 15 j ∧ τ29.2.1 15 j ≤ 300 := fun j => hT.2 15 j
                have A16 : ∀ j, 0 ≤ τ29.2.1 16 j ∧ τ29.2.1 16 j ≤ 999 := fun j => hT.2 16 j
                have A17 : ∀ j, (-1) ≤ τ29.2.1 17 j ∧ τ29.2.1 17 j ≤ 1499 := fun j => hT.2 17 j
                have v0 : 0 ≤ τ29.1 0 ∧ τ29.1 0 ≤ 60000 := hT.1 0
                have v3 : 0 ≤ τ29.1 3 ∧ τ29.1 3 ≤ 1000 := hT.1 3
                have v4 : 0 ≤ τ29.1 4 ∧ τ29.1 4 ≤ 100 := hT.1 4
                have v5 : 0 ≤ τ29.1 5 ∧ τ29.1 5 ≤ 1500 := hT.1 5
                have v6 : 0 ≤ τ29.1 6 ∧ τ29.1 6 ≤ 30000 := hT.1 6
                have v7 : 0 ≤ τ29.1 7 ∧ τ29.1 7 ≤ 90000 := hT.1 7
                have v8 : 0 ≤ τ29.1 8 ∧ τ29.1 8 ≤ 20000 := hT.1 8
                have v9 : 0 ≤ τ29.1 9 ∧ τ29.1 9 ≤ 20000 := hT.1 9
                have v10 : (-1) ≤ τ29.1 10 ∧ τ29.1 10 ≤ 999 := hT.1 10
                have v11 : (-1) ≤ τ29.1 11 ∧ τ29.1 11 ≤ 999 := hT.1 11
                have v17 : 0 ≤ τ29.1 17 ∧ τ29.1 17 ≤ 60000 := hT.1 17
                have v18 : 0 ≤ τ29.1 18 ∧ τ29.1 18 ≤ 60000 := hT.1 18
                have v19 : (-1) ≤ τ29.1 19 ∧ τ29.1 19 ≤ 125 := hT.1 19
                have v20 : 0 ≤ τ29.1 20 ∧ τ29.1 20 ≤ 19 := hT.1 20
                have v22 : 0 ≤ τ29.1 22 ∧ τ29.1 22 ≤ 1499 := hT.1 22
                have a14_22 : 0 ≤ τ29.2.1 14 (τ29.1 22) ∧ τ29.2.1 14 (τ29.1 22) ≤ 30000 := hT.2 14 _
                have a15_22 : 0 ≤ τ29.2.1 15 (τ29.1 22) ∧ τ29.2.1 15 (τ29.1 22) ≤ 300 := hT.2 15 _
                have av6 : σ.1 6 ≤ τ29.1 6 := ag.1 6 (by decide)
                exact ⟨hT, (show (τ29.1 20) = 0 → τ29.2.1 15 (τ29.1 22) = 1 from by (first | omega | (simp only [st_s] <;> omega) | assumption | omega | fail)), (show τ29.2.1 15 (τ29.1 22) ≤ 1 from by (first | omega | (simp only [st_s] <;> omega) | assumption | omega | fail)), (show ¬ (σ.1 20) = 0 → (τ29.1 20) = (σ.1 20) from by (first | omega | (simp only [st_s] <;> omega) | assumption | omega | fail)), (show τ29.2.1 14 (τ29.1 22) + τ29.2.1 15 (τ29.1 22) = (τ29.1 6) from Z1), (show ca (τ29.2.1 12) ((τ29.1 3)) ≤ (τ29.1 4) from Y20), ag, (show (τ29.1 20) = 0 → n_N (τ29.2.1 14 (τ29.1 22)) (τ29.2.1 14 (τ29.1 22) + τ29.2.1 15 (τ29.1 22)) (σ.1 3) (σ.2.1 8) (σ.2.1 11) (τ29.2.1 12) (τ29.2.1 16) (τ29.2.1 17) from by (first | (intro z; exfalso; omega) | (intro _; rw [show τ41.2.1 14 (τ41.1 22) = σ.1 6 from by omega, show σ.1 6 + τ41.2.1 15 (τ41.1 22) = σ.1 6 + 1 from by omega]; exact n_N_1 q39_4 q39_5 (by omega) (x3lt (by omega)) (by rw [g12_τ41, st_s]; decide)) | fail)), (show n_rl σ τ29 from by (first | exact n_rl_h hf_τ11 rfl rfl | exact n_rl_h hf_τ20 rfl rfl | exact n_rl_h hf_τ29 rfl rfl | exact n_rl_h hf_τ36 rfl rfl | exact ⟨fun s _ _ _ => by rw [g10_τ41], fun s _ _ h => by (rw [g12_τ41]; by_cases z : s = x3; (rw [z, st_s]; decide); (rw [st_n _ _ z]; exact h)), Or.inl (by omega), Or.inl (by omega), by omega, fun zt s a b => by (rw [g10_τ41]; have h3 := zt s a (by omega); omega)⟩ | fail)), (show ∀ s : Int, ¬ σ.2.1 12 s = 0 → ¬ τ29.2.1 12 s = 0 from by (first | exact fun s h => by (rw [G12]; exact h) | exact fun s h => by (rw [g12_τ41]; by_cases z : s = x3; (rw [z, st_s]; decide); (rw [st_n _ _ z]; exact h)) | (intro s h; first | (rw [hf_τ11.2.1 12 (by decide)]; exact h) | (rw [hf_τ20.2.1 12 (by decide)]; exact h) | (rw [hf_τ29.2.1 12 (by decide)]; exact h) | (rw [hf_τ36.2.1 12 (by decide)]; exact h)) | fail))⟩
              ·
                refine ⟨(show 0 ≤ x3 ∧ x3 < 1001 from by (first | omega | (simp only [st_s] <;> omega) | assumption | omega | fail)), ?_⟩
                intro x23 r_x23 e_x23
                have b_x23 : 0 ≤ x23 ∧ x23 ≤ 1 := by rw [e_x23]; exact hT.2 8 _
                refine ⟨fun c24 => ?_, fun c24 => ?_⟩
                ·
                  refine h111 _ _ _ ?_
                  refine ⟨fun c30 => ?_, fun c30 => ?_⟩
                  ·
                    refine ⟨(show 0 ≤ x3 ∧ x3 < 1001 from by (first | omega | (simp only [st_s] <;> omega) | assumption | omega | fail)), ?_⟩
                    intro x32 r_x32 e_x32
                    have b_x32 : 0 ≤ x32 ∧ x32 ≤ 1 := by rw [e_x32]; exact hT.2 12 _
                    refine ⟨fun c33 => ?_, fun c33 => ?_⟩
                    ·
                      refine h143 _ _ _ _ ?_
                      refine ⟨(⟨by (first | omega | (simp only [st_s] <;> omega) | assumption | omega | fail), by (first | omega | (simp only [st_s] <;> omega) | assumption | omega | fail)⟩ : rg ((σ.1 4) + 1)), ?_⟩
                      replace ag := ag_v (i := 4) (x := ((σ.1 4) + 1)) ag (Or.inl rfl)
                      replace hT := mT_v (i := 4) hT (show 0 ≤ ((σ.1 4) + 1) ∧ ((σ.1 4) + 1) ≤ 100 from by (first | omega | (simp only [st_s] <;> omega) | assumption | omega | fail))
                      have ct0 := ca_t0 (σ.2.1 12) x3 ((σ.1 3)) 1 (by omega) (by omega)
                      have ct2 := ca_t2 (σ.2.1 12) (e := x3) ((σ.1 3)) 1 (by omega) (by omega)
                      refine ⟨(show 0 ≤ x3 ∧ x3 < 1001 from by (first | omega | (simp only [st_s] <;> omega) | assumption | omega | fail)), ?_⟩
                      replace ag := ag_a (k := 12) (e := x3) (x := 1) ag rfl
                      replace hT := mT_a (k := 12) (j := x3) hT (show (0 : Int) ≤ 1 ∧ 1 ≤ 1 from by (first | omega | (simp only [st_s] <;> omega) | assumption | omega | fail))
                      have y14q : σ.2.1 14 (σ.1 22) = σ.1 6 := by omega
                      refine ⟨_, K3_X13_addSymbol hT (show 0 ≤ x3 from by (first | omega | (simp only [st_s] <;> omega) | assumption | omega | fail)) (show x3 < 1000 from by (first | omega | (simp only [st_s] <;> omega) | assumption | omega | fail)) (show -1 ≤ (-1 : Int) from by (first | omega | (simp only [st_s] <;> omega) | assumption | omega | fail)) (show (-1 : Int) ≤ 1499 from by (first | omega | (simp only [st_s] <;> omega) | assumption | omega | fail)) (show (σ.1 6) < 30000 from by (first | omega | (simp only [st_s] <;> omega) | assumption | omega | fail)) (show σ.2.1 15 (σ.1 22) < 300 from by (first | omega | (simp only [st_s] <;> omega) | assumption | omega | fail)) (show (σ.1 22) = (σ.1 5) from by (first | omega | (simp only [st_s] <;> omega) | assumption | omega | fail)), ?_⟩
                      intro τ41 hn_τ41 hf_τ41 hq
                      obtain ⟨hT, q39_1, q39_2, q39_3, q39_4, q39_5⟩ := hq
                      replace q39_1 : (τ41.1 6) = (σ.1 6) + 1 := q39_1
                      replace q39_2 : τ41.2.1 15 (τ41.1 22) = σ.2.1 15 (σ.1 22) + 1 := q39_2
                      replace q39_3 : m_ag (s_a (s_v σ 4 ((σ.1 4) + 1)) 12 x3 1) τ41 := q39_3
                      replace q39_4 : τ41.2.1 16 = st (σ.2.1 16) (σ.1 6) x3 := q39_4
                      replace q39_5 : τ41.2.1 17 = st (σ.2.1 17) (σ.1 6) (-1 : Int) := q39_5
                      replace ag : m_ag σ τ41 := ag_t ag q39_3 rfl
                      have w0_τ41 : τ41.1 0 = σ.1 0 := hf_τ41.1 0 (by decide)
                      have w3_τ41 : τ41.1 3 = σ.1 3 := hf_τ41.1 3 (by decide)
                      have w4_τ41 : τ41.1 4 = ((σ.1 4) + 1) := hf_τ41.1 4 (by decide)
                      have w5_τ41 : τ41.1 5 = σ.1 5 := hf_τ41.1 5 (by decide)
                      have w7_τ41 : τ41.1 7 = σ.1 7 := hf_τ41.1 7 (by decide)
                      have w8_τ41 : τ41.1 8 = σ.1 8 := hf_τ41.1 8 (by decide)
                      have w9_τ41 : τ41.1 9 = σ.1 9 := hf_τ41.1 9 (by decide)
                      have w10_τ41 : τ41.1 10 = σ.1 10 := hf_τ41.1 10 (by decide)
                      have w11_τ41 : τ41.1 11 = σ.1 11 := hf_τ41.1 11 (by decide)
                      have w17_τ41 : τ41.1 17 = σ.1 17 := hf_τ41.1 17 (by decide)
                      have w18_τ41 : τ41.1 18 = σ.1 18 := hf_τ41.1 18 (by decide)
                      have w19_τ41 : τ41.1 19 = σ.1 19 := hf_τ41.1 19 (by decide)
                      have w20_τ41 : τ41.1 20 = σ.1 20 := hf_τ41.1 20 (by decide)
                      have w22_τ41 : τ41.1 22 = σ.1 22 := hf_τ41.1 22 (by decide)
                      have g6_τ41 : τ41.2.1 6 = σ.2.1 6 := hf_τ41.2.1 6 (by decide)
                      have g8_τ41 : τ41.2.1 8 = σ.2.1 8 := hf_τ41.2.1 8 (by decide)
                      have g10_τ41 : τ41.2.1 10 = σ.2.1 10 := hf_τ41.2.1 10 (by decide)
                      have g11_τ41 : τ41.2.1 11 = σ.2.1 11 := hf_τ41.2.1 11 (by decide)
                      have g12_τ41 : τ41.2.1 12 = (st (σ.2.1 12) x3 1) := hf_τ41.2.1 12 (by decide)
                      have g14_τ41 : τ41.2.1 14 = σ.2.1 14 := hf_τ41.2.1 14 (by decide)
                      first | (have o6_τ41 := congrArg oc g6_τ41) | skip
                      have W0 : τ41.1 0 = σ.1 0 := by first | exact w0_τ41.trans W0 | omega
                      have W3 : τ41.1 3 = σ.1 3 := by first | exact w3_τ41.trans W3 | omega
                      have W5 : τ41.1 5 = σ.1 5 := by first | exact w5_τ41.trans W5 | omega
                      have W7 : τ41.1 7 = σ.1 7 := by first | exact w7_τ41.trans W7 | omega
                      have W8 : τ41.1 8 = σ.1 8 := by first | exact w8_τ41.trans W8 | omega
                      have W9 : τ41.1 9 = σ.1 9 := by first | exact w9_τ41.trans W9 | omega
                      have W10 : τ41.1 10 = σ.1 10 := by first | exact w10_τ41.trans W10 | omega
                      have W11 : τ41.1 11 = σ.1 11 := by first | exact w11_τ41.trans W11 | omega
                      have W17 : τ41.1 17 = σ.1 17 := by first | exact w17_τ41.trans W17 | omega
                      have W18 : τ41.1 18 = σ.1 18 := by first | exact w18_τ41.trans W18 | omega
                      have W19 : τ41.1 19 = σ.1 19 := by first | exact w19_τ41.trans W19 | omega
                      have W22 : τ41.1 22 = σ.1 22 := by first | exact w22_τ41.trans W22 | omega
                      have G6 : τ41.2.1 6 = σ.2.1 6 := (g6_τ41).trans G6
                      have G8 : τ41.2.1 8 = σ.2.1 8 := (g8_τ41).trans G8
                      have G10 : τ41.2.1 10 = σ.2.1 10 := (g10_τ41).trans G10
                      have G11 : τ41.2.1 11 = σ.2.1 11 := (g11_τ41).trans G11
                      have G14 : τ41.2.1 14 = σ.2.1 14 := (g14_τ41).trans G14
                      have y14_22_τ41 : τ41.2.1 14 (τ41.1 22) = (σ.2.1 14) (σ.1 22) := by rw [g14_τ41, w22_τ41]
                      have Y1 : j_l2 (τ41.2.1 6) (τ41.1 3) := by rw [show (j_l2 (τ41.2.1 6) (τ41.1 3)) = (j_l2 (σ.2.1 6) (σ.1 3)) from by rw [w3_τ41, g6_τ41]]; exact Y1
                      have STt : j_l2 (τ41.2.1 6) (τ41.1 3) := by rw [show (j_l2 (τ41.2.1 6) (τ41.1 3)) = (j_l2 (σ.2.1 6) (σ.1 3)) from by rw [w3_τ41, g6_τ41]]; exact STt
                      have A6 : ∀ j, (-1) ≤ τ41.2.1 6 j ∧ τ41.2.1 6 j ≤ 999 := fun j => hT.2 6 j
                      have A8 : ∀ j, 0 ≤ τ41.2.1 8 j ∧ τ41.2.1 8 j ≤ 1 := fun j => hT.2 8 j
                      have A10 : ∀ j, (-1) ≤ τ41.2.1 10 j ∧ τ41.2.1 10 j ≤ 999 := fun j => hT.2 10 j
                      have A11 : ∀ j, (-1) ≤ τ41.2.1 11 j ∧ τ41.2.1 11 j ≤ 1499 := fun j => hT.2 11 j
                      have A12 : ∀ j, 0 ≤ τ41.2.1 12 j ∧ τ41.2.1 12 j ≤ 1 := fun j => hT.2 12 j
                      have A14 : ∀ j, 0 ≤ τ41.2.1 14 j ∧ τ41.2.1 14 j ≤ 30000 := fun j => hT.2 14 j
                      have A15 : ∀ j, 0 ≤ τ41.2.1 15 j ∧ τ41.2.1 15 j ≤ 300 := fun j => hT.2 15 j
                      have A16 : ∀ j, 0 ≤ τ41.2.1 16 j ∧ τ41.2.1 16 j ≤ 999 := fun j => hT.2 16 j
                      have A17 : ∀ j, (-1) ≤ τ41.2.1 17 j ∧ τ41.2.1 17 j ≤ 1499 := fun j => hT.2 17 j
                      have v0 : 0 ≤ τ41.1 0 ∧ τ41.1 0 ≤ 60000 := hT.1 0
                      have v3 : 0 ≤ τ41.1 3 ∧ τ41.1 3 ≤ 1000 := hT.1 3
                      have v4 : 0 ≤ τ41.1 4 ∧ τ41.1 4 ≤ 100 := hT.1 4
                      have v5 : 0 ≤ τ41.1 5 ∧ τ41.1 5 ≤ 1500 := hT.1 5
                      have v6 : 0 ≤ τ41.1 6 ∧ τ41.1 6 ≤ 30000 := hT.1 6
                      have v7 : 0 ≤ τ41.1 7 ∧ τ41.1 7 ≤ 90000 := hT.1 7
                      have v8 : 0 ≤ τ41.1 8 ∧ τ41.1 8 ≤ 20000 := hT.1 8
                      have v9 : 0 ≤ τ41.1 9 ∧ τ41.1 9 ≤ 20000 := hT.1 9
                      have v10 : (-1) ≤ τ41.1 10 ∧ τ41.1 10 ≤ 999 := hT.1 10
                      have v11 : (-1) ≤ τ41.1 11 ∧ τ41.1 11 ≤ 999 := hT.1 11
                      have v17 : 0 ≤ τ41.1 17 ∧ τ41.1 17 ≤ 60000 := hT.1 17
                      have v18 : 0 ≤ τ41.1 18 ∧ τ41.1 18 ≤ 60000 := hT.1 18
                      have v19 : (-1) ≤ τ41.1 19 ∧ τ41.1 19 ≤ 125 := hT.1 19
                      have v20 : 0 ≤ τ41.1 20 ∧ τ41.1 20 ≤ 19 := hT.1 20
                      have v22 : 0 ≤ τ41.1 22 ∧ τ41.1 22 ≤ 1499 := hT.1 22
                      have a14_22 : 0 ≤ τ41.2.1 14 (τ41.1 22) ∧ τ41.2.1 14 (τ41.1 22) ≤ 30000 := hT.2 14 _
                      have a15_22 : 0 ≤ τ41.2.1 15 (τ41.1 22) ∧ τ41.2.1 15 (τ41.1 22) ≤ 300 := hT.2 15 _
                      have av6 : σ.1 6 ≤ τ41.1 6 := ag.1 6 (by decide)
                      have Y20 : ca (τ41.2.1 12) (τ41.1 3) ≤ τ41.1 4 := by rw [g12_τ41, w3_τ41]; omega
                      have Z1 : τ41.2.1 14 (τ41.1 22) + τ41.2.1 15 (τ41.1 22) = τ41.1 6 := by omega
                      exact ⟨hT, (show (τ41.1 20) = 0 → τ41.2.1 15 (τ41.1 22) = 1 from by (first | omega | (simp only [st_s] <;> omega) | assumption | omega | fail)), (show τ41.2.1 15 (τ41.1 22) ≤ 1 from by (first | omega | (simp only [st_s] <;> omega) | assumption | omega | fail)), (show ¬ (σ.1 20) = 0 → (τ41.1 20) = (σ.1 20) from by (first | omega | (simp only [st_s] <;> omega) | assumption | omega | fail)), (show τ41.2.1 14 (τ41.1 22) + τ41.2.1 15 (τ41.1 22) = (τ41.1 6) from Z1), (show ca (τ41.2.1 12) ((τ41.1 3)) ≤ (τ41.1 4) from Y20), ag, (show (τ41.1 20) = 0 → n_N (τ41.2.1 14 (τ41.1 22)) (τ41.2.1 14 (τ41.1 22) + τ41.2.1 15 (τ41.1 22)) (σ.1 3) (σ.2.1 8) (σ.2.1 11) (τ41.2.1 12) (τ41.2.1 16) (τ41.2.1 17) from by (first | (intro z; exfalso; omega) | (intro _; rw [show τ41.2.1 14 (τ41.1 22) = σ.1 6 from by omega, show σ.1 6 + τ41.2.1 15 (τ41.1 22) = σ.1 6 + 1 from by omega]; exact n_N_1 q39_4 q39_5 (by omega) (x3lt (by omega)) (by rw [g12_τ41, st_s]; decide)) | fail)), (show n_rl σ τ41 from by (first | exact n_rl_h hf_τ11 rfl rfl | exact n_rl_h hf_τ20 rfl rfl | exact n_rl_h hf_τ29 rfl rfl | exact n_rl_h hf_τ36 rfl rfl | exact ⟨fun s _ _ _ => by rw [g10_τ41], fun s _ _ h => by (rw [g12_τ41]; by_cases z : s = x3; (rw [z, st_s]; decide); (rw [st_n _ _ z]; exact h)), Or.inl (by omega), Or.inl (by omega), by omega, fun zt s a b => by (rw [g10_τ41]; have h3 := zt s a (by omega); omega)⟩ | fail)), (show ∀ s : Int, ¬ σ.2.1 12 s = 0 → ¬ τ41.2.1 12 s = 0 from by (first | exact fun s h => by (rw [G12]; exact h) | exact fun s h => by (rw [g12_τ41]; by_cases z : s = x3; (rw [z, st_s]; decide); (rw [st_n _ _ z]; exact h)) | (intro s h; first | (rw [hf_τ11.2.1 12 (by decide)]; exact h) | (rw [hf_τ20.2.1 12 (by decide)]; exact h) | (rw [hf_τ29.2.1 12 (by decide)]; exact h) | (rw [hf_τ36.2.1 12 (by decide)]; exact h)) | fail))⟩
                    ·
                      refine h143 _ _ _ _ ?_
                      refine ⟨(⟨by (first | omega | (simp only [st_s] <;> omega) | assumption | omega | fail), by (first | omega | (simp only [st_s] <;> omega) | assumption | omega | fail)⟩ : rg ((σ.1 4) + 0)), ?_⟩
                      replace ag := ag_v (i := 4) (x := ((σ.1 4) + 0)) ag (Or.inl rfl)
                      replace hT := mT_v (i := 4) hT (show 0 ≤ ((σ.1 4) + 0) ∧ ((σ.1 4) + 0) ≤ 100 from by (first | omega | (simp only [st_s] <;> omega) | assumption | omega | fail))
                      have ct0 := ca_t0 (σ.2.1 12) x3 ((σ.1 3)) 1 (by omega) (by omega)
                      have ct2 := ca_t2 (σ.2.1 12) (e := x3) ((σ.1 3)) 1 (by omega) (by omega)
                      refine ⟨(show 0 ≤ x3 ∧ x3 < 1001 from by (first | omega | (simp only [st_s] <;> omega) | assumption | omega | fail)), ?_⟩
                      replace ag := ag_a (k := 12) (e := x3) (x := 1) ag rfl
                      replace hT := mT_a (k := 12) (j := x3) hT (show (0 : Int) ≤ 1 ∧ 1 ≤ 1 from by (first | omega | (simp only [st_s] <;> omega) | assumption | omega | fail))
                      have y14q : σ.2.1 14 (σ.1 22) = σ.1 6 := by omega
                      refine ⟨_, K3_X13_addSymbol hT (show 0 ≤ x3 from by (first | omega | (simp only [st_s] <;> omega) | assumption | omega | fail)) (show x3 < 1000 from by (first | omega | (simp only [st_s] <;> omega) | assumption | omega | fail)) (show -1 ≤ (-1 : Int) from by (first | omega | (simp only [st_s] <;> omega) | assumption | omega | fail)) (show (-1 : Int) ≤ 1499 from by (first | omega | (simp only [st_s] <;> omega) | assumption | omega | fail)) (show (σ.1 6) < 30000 from by (first | omega | (simp only [st_s] <;> omega) | assumption | omega | fail)) (show σ.2.1 15 (σ.1 22) < 300 from by (first | omega | (simp only [st_s] <;> omega) | assumption | omega | fail)) (show (σ.1 22) = (σ.1 5) from by (first | omega | (simp only [st_s] <;> omega) | assumption | omega | fail)), ?_⟩
                      intro τ41 hn_τ41 hf_τ41 hq
                      obtain ⟨hT, q39_1, q39_2, q39_3, q39_4, q39_5⟩ := hq
                      replace q39_1 : (τ41.1 6) = (σ.1 6) + 1 := q39_1
                      replace q39_2 : τ41.2.1 15 (τ41.1 22) = σ.2.1 15 (σ.1 22) + 1 := q39_2
                      replace q39_3 : m_ag (s_a (s_v σ 4 ((σ.1 4) + 0)) 12 x3 1) τ41 := q39_3
                      replace q39_4 : τ41.2.1 16 = st (σ.2.1 16) (σ.1 6) x3 := q39_4
                      replace q39_5 : τ41.2.1 17 = st (σ.2.1 17) (σ.1 6) (-1 : Int) := q39_5
                      replace ag : m_ag σ τ41 := ag_t ag q39_3 rfl
                      have w0_τ41 : τ41.1 0 = σ.1 0 := hf_τ41.1 0 (by decide)
                      have w3_τ41 : τ41.1 3 = σ.1 3 := hf_τ41.1 3 (by decide)
                      have w4_τ41 : τ41.1 4 = ((σ.1 4) + 0) := hf_τ41.1 4 (by decide)
                      have w5_τ41 : τ41.1 5 = σ.1 5 := hf_τ41.1 5 (by decide)
                      have w7_τ41 : τ41.1 7 = σ.1 7 := hf_τ41.1 7 (by decide)
                      have w8_τ41 : τ41.1 8 = σ.1 8 := hf_τ41.1 8 (by decide)
                      have w9_τ41 : τ41.1 9 = σ.1 9 := hf_τ41.1 9 (by decide)
                      have w10_τ41 : τ41.1 10 = σ.1 10 := hf_τ41.1 10 (by decide)
                      have w11_τ41 : τ41.1 11 = σ.1 11 := hf_τ41.1 11 (by decide)
                      have w17_τ41 : τ41.1 17 = σ.1 17 := hf_τ41.1 17 (by decide)
                      have w18_τ41 : τ41.1 18 = σ.1 18 := hf_τ41.1 18 (by decide)
                      have w19_τ41 : τ41.1 19 = σ.1 19 := hf_τ41.1 19 (by decide)
                      have w20_τ41 : τ41.1 20 = σ.1 20 := hf_τ41.1 20 (by decide)
                      have w22_τ41 : τ41.1 22 = σ.1 22 := hf_τ41.1 22 (by decide)
                      have g6_τ41 : τ41.2.1 6 = σ.2.1 6 := hf_τ41.2.1 6 (by decide)
                      have g8_τ41 : τ41.2.1 8 = σ.2.1 8 := hf_τ41.2.1 8 (by decide)
                      have g10_τ41 : τ41.2.1 10 = σ.2.1 10 := hf_τ41.2.1 10 (by decide)
                      have g11_τ41 : τ41.2.1 11 = σ.2.1 11 := hf_τ41.2.1 11 (by decide)
                      have g12_τ41 : τ41.2.1 12 = (st (σ.2.1 12) x3 1) := hf_τ41.2.1 12 (by decide)
                      have g14_τ41 : τ41.2.1 14 = σ.2.1 14 := hf_τ41.2.1 14 (by decide)
                      first | (have o6_τ41 := congrArg oc g6_τ41) | skip
                      have W0 : τ41.1 0 = σ.1 0 := by first | exact w0_τ41.trans W0 | omega
                      have W3 : τ41.1 3 = σ.1 3 := by first | exact w3_τ41.trans W3 | omega
                      have W5 : τ41.1 5 = σ.1 5 := by first | exact w5_τ41.trans W5 | omega
                      have W7 : τ41.1 7 = σ.1 7 := by first | exact w7_τ41.trans W7 | omega
                      have W8 : τ41.1 8 = σ.1 8 := by first | exact w8_τ41.trans W8 | omega
                      have W9 : τ41.1 9 = σ.1 9 := by first | exact w9_τ41.trans W9 | omega
                      have W10 : τ41.1 10 = σ.1 10 := by first | exact w10_τ41.trans W10 | omega
                      have W11 : τ41.1 11 = σ.1 11 := by first | exact w11_τ41.trans W11 | omega
                      have W17 : τ41.1 17 = σ.1 17 := by first | exact w17_τ41.trans W17 | omega
                      have W18 : τ41.1 18 = σ.1 18 := by first | exact w18_τ41.trans W18 | omega
                      have W19 : τ41.1 19 = σ.1 19 := by first | exact w19_τ41.trans W19 | omega
                      have W22 : τ41.1 22 = σ.1 22 := by first | exact w22_τ41.trans W22 | omega
                      have G6 : τ41.2.1 6 = σ.2.1 6 := (g6_τ41).trans G6
                      have G8 : τ41.2.1 8 = σ.2.1 8 := (g8_τ41).trans G8
                      have G10 : τ41.2.1 10 = σ.2.1 10 := (g10_τ41).trans G10
                      have G11 : τ41.2.1 11 = σ.2.1 11 := (g11_τ41).trans G11
                      have G14 : τ41.2.1 14 = σ.2.1 14 := (g14_τ41).trans G14
                      have y14_22_τ41 : τ41.2.1 14 (τ41.1 22) = (σ.2.1 14) (σ.1 22) := by rw [g14_τ41, w22_τ41]
                      have Y1 : j_l2 (τ41.2.1 6) (τ41.1 3) := by rw [show (j_l2 (τ41.2.1 6) (τ41.1 3)) = (j_l2 (σ.2.1 6) (σ.1 3)) from by rw [w3_τ41, g6_τ41]]; exact Y1
                      have STt : j_l2 (τ41.2.1 6) (τ41.1 3) := by rw [show (j_l2 (τ41.2.1 6) (τ41.1 3)) = (j_l2 (σ.2.1 6) (σ.1 3)) from by rw [w3_τ41, g6_τ41]]; exact STt
                      have A6 : ∀ j, (-1) ≤ τ41.2.1 6 j ∧ τ41.2.1 6 j ≤ 999 := fun j => hT.2 6 j
                      have A8 : ∀ j, 0 ≤ τ41.2.1 8 j ∧ τ41.2.1 8 j ≤ 1 := fun j => hT.2 8 j
                      have A10 : ∀ j, (-1) ≤ τ41.2.1 10 j ∧ τ41.2.1 10 j ≤ 999 := fun j => hT.2 10 j
                      have A11 : ∀ j, (-1) ≤ τ41.2.1 11 j ∧ τ41.2.1 11 j ≤ 1499 := fun j => hT.2 11 j
                      have A12 : ∀ j, 0 ≤ τ41.2.1 12 j ∧ τ41.2.1 12 j ≤ 1 := fun j => hT.2 12 j
                      have A14 : ∀ j, 0 ≤ τ41.2.1 14 j ∧ τ41.2.1 14 j ≤ 30000 := fun j => hT.2 14 j
                      have A15 : ∀ j, 0 ≤ τ41.2.1 15 j ∧ τ41.2.1 15 j ≤ 300 := fun j => hT.2 15 j
                      have A16 : ∀ j, 0 ≤ τ41.2.1 16 j ∧ τ41.2.1 16 j ≤ 999 := fun j => hT.2 16 j
                      have A17 : ∀ j, (-1) ≤ τ41.2.1 17 j ∧ τ41.2.1 17 j ≤ 1499 := fun j => hT.2 17 j
                      have v0 : 0 ≤ τ41.1 0 ∧ τ41.1 0 ≤ 60000 := hT.1 0
                      have v3 : 0 ≤ τ41.1 3 ∧ τ41.1 3 ≤ 1000 := hT.1 3
                      have v4 : 0 ≤ τ41.1 4 ∧ τ41.1 4 ≤ 100 := hT.1 4
                      have v5 : 0 ≤ τ41.1 5 ∧ τ41.1 5 ≤ 1500 := hT.1 5
                      have v6 : 0 ≤ τ41.1 6 ∧ τ41.1 6 ≤ 30000 := hT.1 6
                      have v7 : 0 ≤ τ41.1 7 ∧ τ41.1 7 ≤ 90000 := hT.1 7
                      have v8 : 0 ≤ τ41.1 8 ∧ τ41.1 8 ≤ 20000 := hT.1 8
                      have v9 : 0 ≤ τ41.1 9 ∧ τ41.1 9 ≤ 20000 := hT.1 9
                      have v10 : (-1) ≤ τ41.1 10 ∧ τ41.1 10 ≤ 999 := hT.1 10
                      have v11 : (-1) ≤ τ41.1 11 ∧ τ41.1 11 ≤ 999 := hT.1 11
                      have v17 : 0 ≤ τ41.1 17 ∧ τ41.1 17 ≤ 60000 := hT.1 17
                      have v18 : 0 ≤ τ41.1 18 ∧ τ41.1 18 ≤ 60000 := hT.1 18
                      have v19 : (-1) ≤ τ41.1 19 ∧ τ41.1 19 ≤ 125 := hT.1 19
                      have v20 : 0 ≤ τ41.1 20 ∧ τ41.1 20 ≤ 19 := hT.1 20
                      have v22 : 0 ≤ τ41.1 22 ∧ τ41.1 22 ≤ 1499 := hT.1 22
                      have a14_22 : 0 ≤ τ41.2.1 14 (τ41.1 22) ∧ τ41.2.1 14 (τ41.1 22) ≤ 30000 := hT.2 14 _
                      have a15_22 : 0 ≤ τ41.2.1 15 (τ41.1 22) ∧ τ41.2.1 15 (τ41.1 22) ≤ 300 := hT.2 15 _
                      have av6 : σ.1 6 ≤ τ41.1 6 := ag.1 6 (by decide)
                      have Y20 : ca (τ41.2.1 12) (τ41.1 3) ≤ τ41.1 4 := by rw [g12_τ41, w3_τ41]; omega
                      have Z1 : τ41.2.1 14 (τ41.1 22) + τ41.2.1 15 (τ41.1 22) = τ41.1 6 := by omega
                      exact ⟨hT, (show (τ41.1 20) = 0 → τ41.2.1 15 (τ41.1 22) = 1 from by (first | omega | (simp only [st_s] <;> omega) | assumption | omega | fail)), (show τ41.2.1 15 (τ41.1 22) ≤ 1 from by (first | omega | (simp only [st_s] <;> omega) | assumption | omega | fail)), (show ¬ (σ.1 20) = 0 → (τ41.1 20) = (σ.1 20) from by (first | omega | (simp only [st_s] <;> omega) | assumption | omega | fail)), (show τ41.2.1 14 (τ41.1 22) + τ41.2.1 15 (τ41.1 22) = (τ41.1 6) from Z1), (show ca (τ41.2.1 12) ((τ41.1 3)) ≤ (τ41.1 4) from Y20), ag, (show (τ41.1 20) = 0 → n_N (τ41.2.1 14 (τ41.1 22)) (τ41.2.1 14 (τ41.1 22) + τ41.2.1 15 (τ41.1 22)) (σ.1 3) (σ.2.1 8) (σ.2.1 11) (τ41.2.1 12) (τ41.2.1 16) (τ41.2.1 17) from by (first | (intro z; exfalso; omega) | (intro _; rw [show τ41.2.1 14 (τ41.1 22) = σ.1 6 from by omega, show σ.1 6 + τ41.2.1 15 (τ41.1 22) = σ.1 6 + 1 from by omega]; exact n_N_1 q39_4 q39_5 (by omega) (x3lt (by omega)) (by rw [g12_τ41, st_s]; decide)) | fail)), (show n_rl σ τ41 from by (first | exact n_rl_h hf_τ11 rfl rfl | exact n_rl_h hf_τ20 rfl rfl | exact n_rl_h hf_τ29 rfl rfl | exact n_rl_h hf_τ36 rfl rfl | exact ⟨fun s _ _ _ => by rw [g10_τ41], fun s _ _ h => by (rw [g12_τ41]; by_cases z : s = x3; (rw [z, st_s]; decide); (rw [st_n _ _ z]; exact h)), Or.inl (by omega), Or.inl (by omega), by omega, fun zt s a b => by (rw [g10_τ41]; have h3 := zt s a (by omega); omega)⟩ | fail)), (show ∀ s : Int, ¬ σ.2.1 12 s = 0 → ¬ τ41.2.1 12 s = 0 from by (first | exact fun s h => by (rw [G12]; exact h) | exact fun s h => by (rw [g12_τ41]; by_cases z : s = x3; (rw [z, st_s]; decide); (rw [st_n _ _ z]; exact h)) | (intro s h; first | (rw [hf_τ11.2.1 12 (by decide)]; exact h) | (rw [hf_τ20.2.1 12 (by decide)]; exact h) | (rw [hf_τ29.2.1 12 (by decide)]; exact h) | (rw [hf_τ36.2.1 12 (by decide)]; exact h)) | fail))⟩
                  ·
                    refine ⟨_, K_X13_failHere hT (show 0 ≤ (10 : Int) from by (first | omega | (simp only [st_s] <;> omega) | assumption | omega | fail)) (show (10 : Int) ≤ 19 from by (first | omega | (simp only [st_s] <;> omega) | assumption | omega | fail)), ?_⟩
                    intro τ36 hn_τ36 hf_τ36 hq
                    obtain ⟨hT, q34_1, q34_2⟩ := hq
                    replace q34_1 : ¬ (σ.1 20) = 0 → (τ36.1 20) = (σ.1 20) := q34_1
                    replace q34_2 : (σ.1 20) = 0 → (τ36.1 20) = (10 : Int) := q34_2
                    replace ag : m_ag σ τ36 := ag_r ag hf_τ36 rfl rfl
                    have w0_τ36 : τ36.1 0 = σ.1 0 := hf_τ36.1 0 (by decide)
                    have w3_τ36 : τ36.1 3 = σ.1 3 := hf_τ36.1 3 (by decide)
                    have w4_τ36 : τ36.1 4 = σ.1 4 := hf_τ36.1 4 (by decide)
                    have w5_τ36 : τ36.1 5 = σ.1 5 := hf_τ36.1 5 (by decide)
                    have w6_τ36 : τ36.1 6 = σ.1 6 := hf_τ36.1 6 (by decide)
                    have w7_τ36 : τ36.1 7 = σ.1 7 := hf_τ36.1 7 (by decide)
                    have w8_τ36 : τ36.1 8 = σ.1 8 := hf_τ36.1 8 (by decide)
                    have w9_τ36 : τ36.1 9 = σ.1 9 := hf_τ36.1 9 (by decide)
                    have w10_τ36 : τ36.1 10 = σ.1 10 := hf_τ36.1 10 (by decide)
                    have w11_τ36 : τ36.1 11 = σ.1 11 := hf_τ36.1 11 (by decide)
                    have w17_τ36 : τ36.1 17 = σ.1 17 := hf_τ36.1 17 (by decide)
                    have w18_τ36 : τ36.1 18 = σ.1 18 := hf_τ36.1 18 (by decide)
                    have w19_τ36 : τ36.1 19 = σ.1 19 := hf_τ36.1 19 (by decide)
                    have w22_τ36 : τ36.1 22 = σ.1 22 := hf_τ36.1 22 (by decide)
                    have g6_τ36 : τ36.2.1 6 = σ.2.1 6 := hf_τ36.2.1 6 (by decide)
                    have g8_τ36 : τ36.2.1 8 = σ.2.1 8 := hf_τ36.2.1 8 (by decide)
                    have g10_τ36 : τ36.2.1 10 = σ.2.1 10 := hf_τ36.2.1 10 (by decide)
                    have g11_τ36 : τ36.2.1 11 = σ.2.1 11 := hf_τ36.2.1 11 (by decide)
                    have g12_τ36 : τ36.2.1 12 = σ.2.1 12 := hf_τ36.2.1 12 (by decide)
                    have g14_τ36 : τ36.2.1 14 = σ.2.1 14 := hf_τ36.2.1 14 (by decide)
                    have g15_τ36 : τ36.2.1 15 = σ.2.1 15 := hf_τ36.2.1 15 (by decide)
                    have g16_τ36 : τ36.2.1 16 = σ.2.1 16 := hf_τ36.2.1 16 (by decide)
                    have g17_τ36 : τ36.2.1 17 = σ.2.1 17 := hf_τ36.2.1 17 (by decide)
                    first | (have o6_τ36 := congrArg oc g6_τ36) | skip
                    have W0 : τ36.1 0 = σ.1 0 := by first | exact w0_τ36.trans W0 | omega
                    have W3 : τ36.1 3 = σ.1 3 := by first | exact w3_τ36.trans W3 | omega
                    have W5 : τ36.1 5 = σ.1 5 := by first | exact w5_τ36.trans W5 | omega
                    have W7 : τ36.1 7 = σ.1 7 := by first | exact w7_τ36.trans W7 | omega
                    have W8 : τ36.1 8 = σ.1 8 := by first | exact w8_τ36.trans W8 | omega
                    have W9 : τ36.1 9 = σ.1 9 := by first | exact w9_τ36.trans W9 | omega
                    have W10 : τ36.1 10 = σ.1 10 := by first | exact w10_τ36.trans W10 | omega
                    have W11 : τ36.1 11 = σ.1 11 := by first | exact w11_τ36.trans W11 | omega
                    have W17 : τ36.1 17 = σ.1 17 := by first | exact w17_τ36.trans W17 | omega
                    have W18 : τ36.1 18 = σ.1 18 := by first | exact w18_τ36.trans W18 | omega
                    have W19 : τ36.1 19 = σ.1 19 := by first | exact w19_τ36.trans W19 | omega
                    have W22 : τ36.1 22 = σ.1 22 := by first | exact w22_τ36.trans W22 | omega
                    have G6 : τ36.2.1 6 = σ.2.1 6 := (g6_τ36).trans G6
                    have G8 : τ36.2.1 8 = σ.2.1 8 := (g8_τ36).trans G8
                    have G10 : τ36.2.1 10 = σ.2.1 10 := (g10_τ36).trans G10
                    have G11 : τ36.2.1 11 = σ.2.1 11 := (g11_τ36).trans G11
                    have G14 : τ36.2.1 14 = σ.2.1 14 := (g14_τ36).trans G14
                    have y14_22_τ36 : τ36.2.1 14 (τ36.1 22) = (σ.2.1 14) (σ.1 22) := by rw [g14_τ36, w22_τ36]
                    have y15_22_τ36 : τ36.2.1 15 (τ36.1 22) = (σ.2.1 15) (σ.1 22) := by rw [g15_τ36, w22_τ36]
                    have Z1 : τ36.2.1 14 (τ36.1 22) + τ36.2.1 15 (τ36.1 22) = (τ36.1 6) := by rw [show (τ36.2.1 14 (τ36.1 22) + τ36.2.1 15 (τ36.1 22) = (τ36.1 6)) = (σ.2.1 14 (σ.1 22) + σ.2.1 15 (σ.1 22) = (σ.1 6)) from by rw [w6_τ36, w22_τ36, g14_τ36, g15_τ36]]; exact Z1
                    have Y20 : ca (τ36.2.1 12) ((τ36.1 3)) ≤ (τ36.1 4) := by rw [show (ca (τ36.2.1 12) ((τ36.1 3)) ≤ (τ36.1 4)) = (ca (σ.2.1 12) ((σ.1 3)) ≤ (σ.1 4)) from by rw [w3_τ36, w4_τ36, g12_τ36]]; exact Y20
                    have Y1 : j_l2 (τ36.2.1 6) (τ36.1 3) := by rw [show (j_l2 (τ36.2.1 6) (τ36.1 3)) = (j_l2 (σ.2.1 6) (σ.1 3)) from by rw [w3_τ36, g6_τ36]]; exact Y1
                    have STt : j_l2 (τ36.2.1 6) (τ36.1 3) := by rw [show (j_l2 (τ36.2.1 6) (τ36.1 3)) = (j_l2 (σ.2.1 6) (σ.1 3)) from by rw [w3_τ36, g6_τ36]]; exact STt
                    have A6 : ∀ j, (-1) ≤ τ36.2.1 6 j ∧ τ36.2.1 6 j ≤ 999 := fun j => hT.2 6 j
                    have A8 : ∀ j, 0 ≤ τ36.2.1 8 j ∧ τ36.2.1 8 j ≤ 1 := fun j => hT.2 8 j
                    have A10 : ∀ j, (-1) ≤ τ36.2.1 10 j ∧ τ36.2.1 10 j ≤ 999 := fun j => hT.2 10 j
                    have A11 : ∀ j, (-1) ≤ τ36.2.1 11 j ∧ τ36.2.1 11 j ≤ 1499 := fun j => hT.2 11 j
                    have A12 : ∀ j, 0 ≤ τ36.2.1 12 j ∧ τ36.2.1 12 j ≤ 1 := fun j => hT.2 12 j
                    have A14 : ∀ j, 0 ≤ τ36.2.1 14 j ∧ τ36.2.1 14 j ≤ 30000 := fun j => hT.2 14 j
                    have A15 : ∀ j, 0 ≤ τ36.2.1 15 j ∧ τ36.2.1 15 j ≤ 300 := fun j => hT.2 15 j
                    have A16 : ∀ j, 0 ≤ τ36.2.1 16 j ∧ τ36.2.1 16 j ≤ 999 := fun j => hT.2 16 j
                    have A17 : ∀ j, (-1) ≤ τ36.2.1 17 j ∧ τ36.2.1 17 j ≤ 1499 := fun j => hT.2 17 j
                    have v0 : 0 ≤ τ36.1 0 ∧ τ36.1 0 ≤ 60000 := hT.1 0
                    have v3 : 0 ≤ τ36.1 3 ∧ τ36.1 3 ≤ 1000 := hT.1 3
                    have v4 : 0 ≤ τ36.1 4 ∧ τ36.1 4 ≤ 100 := hT.1 4
                    have v5 : 0 ≤ τ36.1 5 ∧ τ36.1 5 ≤ 1500 := hT.1 5
                    have v6 : 0 ≤ τ36.1 6 ∧ τ36.1 6 ≤ 30000 := hT.1 6
                    have v7 : 0 ≤ τ36.1 7 ∧ τ36.1 7 ≤ 90000 := hT.1 7
                    have v8 : 0 ≤ τ36.1 8 ∧ τ36.1 8 ≤ 20000 := hT.1 8
                    have v9 : 0 ≤ τ36.1 9 ∧ τ36.1 9 ≤ 20000 := hT.1 9
                    have v10 : (-1) ≤ τ36.1 10 ∧ τ36.1 10 ≤ 999 := hT.1 10
                    have v11 : (-1) ≤ τ36.1 11 ∧ τ36.1 11 ≤ 999 := hT.1 11
                    have v17 : 0 ≤ τ36.1 17 ∧ τ36.1 17 ≤ 60000 := hT.1 17
                    have v18 : 0 ≤ τ36.1 18 ∧ τ36.1 18 ≤ 60000 := hT.1 18
                    have v19 : (-1) ≤ τ36.1 19 ∧ τ36.1 19 ≤ 125 := hT.1 19
                    have v20 : 0 ≤ τ36.1 20 ∧ τ36.1 20 ≤ 19 := hT.1 20
                    have v22 : 0 ≤ τ36.1 22 ∧ τ36.1 22 ≤ 1499 := hT.1 22
                    have a14_22 : 0 ≤ τ36.2.1 14 (τ36.1 22) ∧ τ36.2.1 14 (τ36.1 22) ≤ 30000 := hT.2 14 _
                    have a15_22 : 0 ≤ τ36.2.1 15 (τ36.1 22) ∧ τ36.2.1 15 (τ36.1 22) ≤ 300 := hT.2 15 _
                    have av6 : σ.1 6 ≤ τ36.1 6 := ag.1 6 (by decide)
                    exact ⟨hT, (show (τ36.1 20) = 0 → τ36.2.1 15 (τ36.1 22) = 1 from by (first | omega | (simp only [st_s] <;> omega) | assumption | omega | fail)), (show τ36.2.1 15 (τ36.1 22) ≤ 1 from by (first | omega | (simp only [st_s] <;> omega) | assumption | omega | fail)), (show ¬ (σ.1 20) = 0 → (τ36.1 20) = (σ.1 20) from by (first | omega | (simp only [st_s] <;> omega) | assumption | omega | fail)), (show τ36.2.1 14 (τ36.1 22) + τ36.2.1 15 (τ36.1 22) = (τ36.1 6) from Z1), (show ca (τ36.2.1 12) ((τ36.1 3)) ≤ (τ36.1 4) from Y20), ag, (show (τ36.1 20) = 0 → n_N (τ36.2.1 14 (τ36.1 22)) (τ36.2.1 14 (τ36.1 22) + τ36.2.1 15 (τ36.1 22)) (σ.1 3) (σ.2.1 8) (σ.2.1 11) (τ36.2.1 12) (τ36.2.1 16) (τ36.2.1 17) from by (first | (intro z; exfalso; omega) | (intro _; rw [show τ41.2.1 14 (τ41.1 22) = σ.1 6 from by omega, show σ.1 6 + τ41.2.1 15 (τ41.1 22) = σ.1 6 + 1 from by omega]; exact n_N_1 q39_4 q39_5 (by omega) (x3lt (by omega)) (by rw [g12_τ41, st_s]; decide)) | fail)), (show n_rl σ τ36 from by (first | exact n_rl_h hf_τ11 rfl rfl | exact n_rl_h hf_τ20 rfl rfl | exact n_rl_h hf_τ29 rfl rfl | exact n_rl_h hf_τ36 rfl rfl | exact ⟨fun s _ _ _ => by rw [g10_τ41], fun s _ _ h => by (rw [g12_τ41]; by_cases z : s = x3; (rw [z, st_s]; decide); (rw [st_n _ _ z]; exact h)), Or.inl (by omega), Or.inl (by omega), by omega, fun zt s a b => by (rw [g10_τ41]; have h3 := zt s a (by omega); omega)⟩ | fail)), (show ∀ s : Int, ¬ σ.2.1 12 s = 0 → ¬ τ36.2.1 12 s = 0 from by (first | exact fun s h => by (rw [G12]; exact h) | exact fun s h => by (rw [g12_τ41]; by_cases z : s = x3; (rw [z, st_s]; decide); (rw [st_n _ _ z]; exact h)) | (intro s h; first | (rw [hf_τ11.2.1 12 (by decide)]; exact h) | (rw [hf_τ20.2.1 12 (by decide)]; exact h) | (rw [hf_τ29.2.1 12 (by decide)]; exact h) | (rw [hf_τ36.2.1 12 (by decide)]; exact h)) | fail))⟩
                ·
                  intro x25 r_x25 e_x25
                  have b_x25 : 0 ≤ x25 ∧ x25 ≤ 1 := by rw [e_x25]; exact hT.2 9 _
                  refine ⟨fun c26 => ?_, fun c26 => ?_⟩
                  ·
                    refine h111 _ _ _ ?_
                    refine ⟨fun c30 => ?_, fun c30 => ?_⟩
                    ·
                      refine ⟨(show 0 ≤ x3 ∧ x3 < 1001 from by (first | omega | (simp only [st_s] <;> omega) | assumption | omega | fail)), ?_⟩
                      intro x32 r_x32 e_x32
                      have b_x32 : 0 ≤ x32 ∧ x32 ≤ 1 := by rw [e_x32]; exact hT.2 12 _
                      refine ⟨fun c33 => ?_, fun c33 => ?_⟩
                      ·
                        refine h143 _ _ _ _ ?_
                        refine ⟨(⟨by (first | omega | (simp only [st_s] <;> omega) | assumption | omega | fail), by (first | omega | (simp only [st_s] <;> omega) | assumption | omega | fail)⟩ : rg ((σ.1 4) + 1)), ?_⟩
                        replace ag := ag_v (i := 4) (x := ((σ.1 4) + 1)) ag (Or.inl rfl)
                        replace hT := mT_v (i := 4) hT (show 0 ≤ ((σ.1 4) + 1) ∧ ((σ.1 4) + 1) ≤ 100 from by (first | omega | (simp only [st_s] <;> omega) | assumption | omega | fail))
                        have ct0 := ca_t0 (σ.2.1 12) x3 ((σ.1 3)) 1 (by omega) (by omega)
                        have ct2 := ca_t2 (σ.2.1 12) (e := x3) ((σ.1 3)) 1 (by omega) (by omega)
                        refine ⟨(show 0 ≤ x3 ∧ x3 < 1001 from by (first | omega | (simp only [st_s] <;> omega) | assumption | omega | fail)), ?_⟩
                        replace ag := ag_a (k := 12) (e := x3) (x := 1) ag rfl
                        replace hT := mT_a (k := 12) (j := x3) hT (show (0 : Int) ≤ 1 ∧ 1 ≤ 1 from by (first | omega | (simp only [st_s] <;> omega) | assumption | omega | fail))
                        have y14q : σ.2.1 14 (σ.1 22) = σ.1 6 := by omega
                        refine ⟨_, K3_X13_addSymbol hT (show 0 ≤ x3 from by (first | omega | (simp only [st_s] <;> omega) | assumption | omega | fail)) (show x3 < 1000 from by (first | omega | (simp only [st_s] <;> omega) | assumption | omega | fail)) (show -1 ≤ (-1 : Int) from by (first | omega | (simp only [st_s] <;> omega) | assumption | omega | fail)) (show (-1 : Int) ≤ 1499 from by (first | omega | (simp only [st_s] <;> omega) | assumption | omega | fail)) (show (σ.1 6) < 30000 from by (first | omega | (simp only [st_s] <;> omega) | assumption | omega | fail)) (show σ.2.1 15 (σ.1 22) < 300 from by (first | omega | (simp only [st_s] <;> omega) | assumption | omega | fail)) (show (σ.1 22) = (σ.1 5) from by (first | omega | (simp only [st_s] <;> omega) | assumption | omega | fail)), ?_⟩
                        intro τ41 hn_τ41 hf_τ41 hq
                        obtain ⟨hT, q39_1, q39_2, q39_3, q39_4, q39_5⟩ := hq
                        replace q39_1 : (τ41.1 6) = (σ.1 6) + 1 := q39_1
                        replace q39_2 : τ41.2.1 15 (τ41.1 22) = σ.2.1 15 (σ.1 22) + 1 := q39_2
                        replace q39_3 : m_ag (s_a (s_v σ 4 ((σ.1 4) + 1)) 12 x3 1) τ41 := q39_3
                        replace q39_4 : τ41.2.1 16 = st (σ.2.1 16) (σ.1 6) x3 := q39_4
                        replace q39_5 : τ41.2.1 17 = st (σ.2.1 17) (σ.1 6) (-1 : Int) := q39_5
                        replace ag : m_ag σ τ41 := ag_t ag q39_3 rfl
                        have w0_τ41 : τ41.1 0 = σ.1 0 := hf_τ41.1 0 (by decide)
                        have w3_τ41 : τ41.1 3 = σ.1 3 := hf_τ41.1 3 (by decide)
                        have w4_τ41 : τ41.1 4 = ((σ.1 4) + 1) := hf_τ41.1 4 (by decide)
                        have w5_τ41 : τ41.1 5 = σ.1 5 := hf_τ41.1 5 (by decide)
                        have w7_τ41 : τ41.1 7 = σ.1 7 := hf_τ41.1 7 (by decide)
                        have w8_τ41 : τ41.1 8 = σ.1 8 := hf_τ41.1 8 (by decide)
                        have w9_τ41 : τ41.1 9 = σ.1 9 := hf_τ41.1 9 (by decide)
                        have w10_τ41 : τ41.1 10 = σ.1 10 := hf_τ41.1 10 (by decide)
                        have w11_τ41 : τ41.1 11 = σ.1 11 := hf_τ41.1 11 (by decide)
                        have w17_τ41 : τ41.1 17 = σ.1 17 := hf_τ41.1 17 (by decide)
                        have w18_τ41 : τ41.1 18 = σ.1 18 := hf_τ41.1 18 (by decide)
                        have w19_τ41 : τ41.1 19 = σ.1 19 := hf_τ41.1 19 (by decide)
                        have w20_τ41 : τ41.1 20 = σ.1 20 := hf_τ41.1 20 (by decide)
                        have w22_τ41 : τ41.1 22 = σ.1 22 := hf_τ41.1 22 (by decide)
                        have g6_τ41 : τ41.2.1 6 = σ.2.1 6 := hf_τ41.2.1 6 (by decide)
                        have g8_τ41 : τ41.2.1 8 = σ.2.1 8 := hf_τ41.2.1 8 (by decide)
                        have g10_τ41 : τ41.2.1 10 = σ.2.1 10 := hf_τ41.2.1 10 (by decide)
                        have g11_τ41 : τ41.2.1 11 = σ.2.1 11 := hf_τ41.2.1 11 (by decide)
                        have g12_τ41 : τ41.2.1 12 = (st (σ.2.1 12) x3 1) := hf_τ41.2.1 12 (by decide)
                        have g14_τ41 : τ41.2.1 14 = σ.2.1 14 := hf_τ41.2.1 14 (by decide)
                        first | (have o6_τ41 := congrArg oc g6_τ41) | skip
                        have W0 : τ41.1 0 = σ.1 0 := by first | exact w0_τ41.trans W0 | omega
                        have W3 : τ41.1 3 = σ.1 3 := by first | exact w3_τ41.trans W3 | omega
                        have W5 : τ41.1 5 = σ.1 5 := by first | exact w5_τ41.trans W5 | omega
                        have W7 : τ41.1 7 = σ.1 7 := by first | exact w7_τ41.trans W7 | omega
                        have W8 : τ41.1 8 = σ.1 8 := by first | exact w8_τ41.trans W8 | omega
                        have W9 : τ41.1 9 = σ.1 9 := by first | exact w9_τ41.trans W9 | omega
                        have W10 : τ41.1 10 = σ.1 10 := by first | exact w10_τ41.trans W10 | omega
                        have W11 : τ41.1 11 = σ.1 11 := by first | exact w11_τ41.trans W11 | omega
                        have W17 : τ41.1 17 = σ.1 17 := by first | exact w17_τ41.trans W17 | omega
                        have W18 : τ41.1 18 = σ.1 18 := by first | exact w18_τ41.trans W18 | omega
                        have W19 : τ41.1 19 = σ.1 19 := by first | exact w19_τ41.trans W19 | omega
                        have W22 : τ41.1 22 = σ.1 22 := by first | exact w22_τ41.trans W22 | omega
                        have G6 : τ41.2.1 6 = σ.2.1 6 := (g6_τ41).trans G6
                        have G8 : τ41.2.1 8 = σ.2.1 8 := (g8_τ41).trans G8
                        have G10 : τ41.2.1 10 = σ.2.1 10 := (g10_τ41).trans G10
                        have G11 : τ41.2.1 11 = σ.2.1 11 := (g11_τ41).trans G11
                        have G14 : τ41.2.1 14 = σ.2.1 14 := (g14_τ41).trans G14
                        have y14_22_τ41 : τ41.2.1 14 (τ41.1 22) = (σ.2.1 14) (σ.1 22) := by rw [g14_τ41, w22_τ41]
                        have Y1 : j_l2 (τ41.2.1 6) (τ41.1 3) := by rw [show (j_l2 (τ41.2.1 6) (τ41.1 3)) = (j_l2 (σ.2.1 6) (σ.1 3)) from by rw [w3_τ41, g6_τ41]]; exact Y1
                        have STt : j_l2 (τ41.2.1 6) (τ41.1 3) := by rw [show (j_l2 (τ41.2.1 6) (τ41.1 3)) = (j_l2 (σ.2.1 6) (σ.1 3)) from by rw [w3_τ41, g6_τ41]]; exact STt
                        have A6 : ∀ j, (-1) ≤ τ41.2.1 6 j ∧ τ41.2.1 6 j ≤ 999 := fun j => hT.2 6 j
                        have A8 : ∀ j, 0 ≤ τ41.2.1 8 j ∧ τ41.2.1 8 j ≤ 1 := fun j => hT.2 8 j
                        have A10 : ∀ j, (-1) ≤ τ41.2.1 10 j ∧ τ41.2.1 10 j ≤ 999 := fun j => hT.2 10 j
                        have A11 : ∀ j, (-1) ≤ τ41.2.1 11 j ∧ τ41.2.1 11 j ≤ 1499 := fun j => hT.2 11 j
                        have A12 : ∀ j, 0 ≤ τ41.2.1 12 j ∧ τ41.2.1 12 j ≤ 1 := fun j => hT.2 12 j
                        have A14 : ∀ j, 0 ≤ τ41.2.1 14 j ∧ τ41.2.1 14 j ≤ 30000 := fun j => hT.2 14 j
                        have A15 : ∀ j, 0 ≤ τ41.2.1 15 j ∧ τ41.2.1 15 j ≤ 300 := fun j => hT.2 15 j
                        have A16 : ∀ j, 0 ≤ τ41.2.1 16 j ∧ τ41.2.1 16 j ≤ 999 := fun j => hT.2 16 j
                        have A17 : ∀ j, (-1) ≤ τ41.2.1 17 j ∧ τ41.2.1 17 j ≤ 1499 := fun j => hT.2 17 j
                        have v0 : 0 ≤ τ41.1 0 ∧ τ41.1 0 ≤ 60000 := hT.1 0
                        have v3 : 0 ≤ τ41.1 3 ∧ τ41.1 3 ≤ 1000 := hT.1 3
                        have v4 : 0 ≤ τ41.1 4 ∧ τ41.1 4 ≤ 100 := hT.1 4
                        have v5 : 0 ≤ τ41.1 5 ∧ τ41.1 5 ≤ 1500 := hT.1 5
                        have v6 : 0 ≤ τ41.1 6 ∧ τ41.1 6 ≤ 30000 := hT.1 6
                        have v7 : 0 ≤ τ41.1 7 ∧ τ41.1 7 ≤ 90000 := hT.1 7
                        have v8 : 0 ≤ τ41.1 8 ∧ τ41.1 8 ≤ 20000 := hT.1 8
                        have v9 : 0 ≤ τ41.1 9 ∧ τ41.1 9 ≤ 20000 := hT.1 9
                        have v10 : (-1) ≤ τ41.1 10 ∧ τ41.1 10 ≤ 999 := hT.1 10
                        have v11 : (-1) ≤ τ41.1 11 ∧ τ41.1 11 ≤ 999 := hT.1 11
                        have v17 : 0 ≤ τ41.1 17 ∧ τ41.1 17 ≤ 60000 := hT.1 17
                        have v18 : 0 ≤ τ41.1 18 ∧ τ41.1 18 ≤ 60000 := hT.1 18
                        have v19 : (-1) ≤ τ41.1 19 ∧ τ41.1 19 ≤ 125 := hT.1 19
                        have v20 : 0 ≤ τ41.1 20 ∧ τ41.1 20 ≤ 19 := hT.1 20
                        have v22 : 0 ≤ τ41.1 22 ∧ τ41.1 22 ≤ 1499 := hT.1 22
                        have a14_22 : 0 ≤ τ41.2.1 14 (τ41.1 22) ∧ τ41.2.1 14 (τ41.1 22) ≤ 30000 := hT.2 14 _
                        have a15_22 : 0 ≤ τ41.2.1 15 (τ41.1 22) ∧ τ41.2.1 15 (τ41.1 22) ≤ 300 := hT.2 15 _
                        have av6 : σ.1 6 ≤ τ41.1 6 := ag.1 6 (by decide)
                        have Y20 : ca (τ41.2.1 12) (τ41.1 3) ≤ τ41.1 4 := by rw [g12_τ41, w3_τ41]; omega
                        have Z1 : τ41.2.1 14 (τ41.1 22) + τ41.2.1 15 (τ41.1 22) = τ41.1 6 := by omega
                        exact ⟨hT, (show (τ41.1 20) = 0 → τ41.2.1 15 (τ41.1 22) = 1 from by (first | omega | (simp only [st_s] <;> omega) | assumption | omega | fail)), (show τ41.2.1 15 (τ41.1 22) ≤ 1 from by (first | omega | (simp only [st_s] <;> omega) | assumption | omega | fail)), (show ¬ (σ.1 20) = 0 → (τ41.1 20) = (σ.1 20) from by (first | omega | (simp only [st_s] <;> omega) | assumption | omega | fail)), (show τ41.2.1 14 (τ41.1 22) + τ41.2.1 15 (τ41.1 22) = (τ41.1 6) from Z1), (show ca (τ41.2.1 12) ((τ41.1 3)) ≤ (τ41.1 4) from Y20), ag, (show (τ41.1 20) = 0 → n_N (τ41.2.1 14 (τ41.1 22)) (τ41.2.1 14 (τ41.1 22) + τ41.2.1 15 (τ41.1 22)) (σ.1 3) (σ.2.1 8) (σ.2.1 11) (τ41.2.1 12) (τ41.2.1 16) (τ41.2.1 17) from by (first | (intro z; exfalso; omega) | (intro _; rw [show τ41.2.1 14 (τ41.1 22) = σ.1 6 from by omega, show σ.1 6 + τ41.2.1 15 (τ41.1 22) = σ.1 6 + 1 from by omega]; exact n_N_1 q39_4 q39_5 (by omega) (x3lt (by omega)) (by rw [g12_τ41, st_s]; decide)) | fail)), (show n_rl σ τ41 from by (first | exact n_rl_h hf_τ11 rfl rfl | exact n_rl_h hf_τ20 rfl rfl | exact n_rl_h hf_τ29 rfl rfl | exact n_rl_h hf_τ36 rfl rfl | exact ⟨fun s _ _ _ => by rw [g10_τ41], fun s _ _ h => by (rw [g12_τ41]; by_cases z : s = x3; (rw [z, st_s]; decide); (rw [st_n _ _ z]; exact h)), Or.inl (by omega), Or.inl (by omega), by omega, fun zt s a b => by (rw [g10_τ41]; have h3 := zt s a (by omega); omega)⟩ | fail)), (show ∀ s : Int, ¬ σ.2.1 12 s = 0 → ¬ τ41.2.1 12 s = 0 from by (first | exact fun s h => by (rw [G12]; exact h) | exact fun s h => by (rw [g12_τ41]; by_cases z : s = x3; (rw [z, st_s]; decide); (rw [st_n _ _ z]; exact h)) | (intro s h; first | (rw [hf_τ11.2.1 12 (by decide)]; exact h) | (rw [hf_τ20.2.1 12 (by decide)]; exact h) | (rw [hf_τ29.2.1 12 (by decide)]; exact h) | (rw [hf_τ36.2.1 12 (by decide)]; exact h)) | fail))⟩
                      ·
                        refine h143 _ _ _ _ ?_
                        refine ⟨(⟨by (first | omega | (simp only [st_s] <;> omega) | assumption | omega | fail), by (first | omega | (simp only [st_s] <;> omega) | assumption | omega | fail)⟩ : rg ((σ.1 4) + 0)), ?_⟩
                        replace ag := ag_v (i := 4) (x := ((σ.1 4) + 0)) ag (Or.inl rfl)
                        replace hT := mT_v (i := 4) hT (show 0 ≤ ((σ.1 4) + 0) ∧ ((σ.1 4) + 0) ≤ 100 from by (first | omega | (simp only [st_s] <;> omega) | assumption | omega | fail))
                        have ct0 := ca_t0 (σ.2.1 12) x3 ((σ.1 3)) 1 (by omega) (by omega)
                        have ct2 := ca_t2 (σ.2.1 12) (e := x3) ((σ.1 3)) 1 (by omega) (by omega)
                        refine ⟨(show 0 ≤ x3 ∧ x3 < 1001 from by (first | omega | (simp only [st_s] <;> omega) | assumption | omega | fail)), ?_⟩
                        replace ag := ag_a (k := 12) (e := x3) (x := 1) ag rfl
                        replace hT := mT_a (k := 12) (j := x3) hT (show (0 : Int) ≤ 1 ∧ 1 ≤ 1 from by (first | omega | (simp only [st_s] <;> omega) | assumption | omega | fail))
                        have y14q : σ.2.1 14 (σ.1 22) = σ.1 6 := by omega
                        refine ⟨_, K3_X13_addSymbol hT (show 0 ≤ x3 from by (first | omega | (simp only [st_s] <;> omega) | assumption | omega | fail)) (show x3 < 1000 from by (first | omega | (simp only [st_s] <;> omega) | assumption | omega | fail)) (show -1 ≤ (-1 : Int) from by (first | omega | (simp only [st_s] <;> omega) | assumption | omega | fail)) (show (-1 : Int) ≤ 1499 from by (first | omega | (simp only [st_s] <;> omega) | assumption | omega | fail)) (show (σ.1 6) < 30000 from by (first | omega | (simp only [st_s] <;> omega) | assumption | omega | fail)) (show σ.2.1 15 (σ.1 22) < 300 from by (first | omega | (simp only [st_s] <;> omega) | assumption | omega | fail)) (show (σ.1 22) = (σ.1 5) from by (first | omega | (simp only [st_s] <;> omega) | assumption | omega | fail)), ?_⟩
                        intro τ41 hn_τ41 hf_τ41 hq
                        obtain ⟨hT, q39_1, q39_2, q39_3, q39_4, q39_5⟩ := hq
                        replace q39_1 : (τ41.1 6) = (σ.1 6) + 1 := q39_1
                        replace q39_2 : τ41.2.1 15 (τ41.1 22) = σ.2.1 15 (σ.1 22) + 1 := q39_2
                        replace q39_3 : m_ag (s_a (s_v σ 4 ((σ.1 4) + 0)) 12 x3 1) τ41 := q39_3
                        replace q39_4 : τ41.2.1 16 = st (σ.2.1 16) (σ.1 6) x3 := q39_4
                        replace q39_5 : τ41.2.1 17 = st (σ.2.1 17) (σ.1 6) (-1 : Int) := q39_5
                        replace ag : m_ag σ τ41 := ag_t ag q39_3 rfl
                        have w0_τ41 : τ41.1 0 = σ.1 0 := hf_τ41.1 0 (by decide)
                        have w3_τ41 : τ41.1 3 = σ.1 3 := hf_τ41.1 3 (by decide)
                        have w4_τ41 : τ41.1 4 = ((σ.1 4) + 0) := hf_τ41.1 4 (by decide)
                        have w5_τ41 : τ41.1 5 = σ.1 5 := hf_τ41.1 5 (by decide)
                        have w7_τ41 : τ41.1 7 = σ.1 7 := hf_τ41.1 7 (by decide)
                        have w8_τ41 : τ41.1 8 = σ.1 8 := hf_τ41.1 8 (by decide)
                        have w9_τ41 : τ41.1 9 = σ.1 9 := hf_τ41.1 9 (by decide)
                        have w10_τ41 : τ41.1 10 = σ.1 10 := hf_τ41.1 10 (by decide)
                        have w11_τ41 : τ41.1 11 = σ.1 11 := hf_τ41.1 11 (by decide)
                        have w17_τ41 : τ41.1 17 = σ.1 17 := hf_τ41.1 17 (by decide)
                        have w18_τ41 : τ41.1 18 = σ.1 18 := hf_τ41.1 18 (by decide)
                        have w19_τ41 : τ41.1 19 = σ.1 19 := hf_τ41.1 19 (by decide)
                        have w20_τ41 : τ41.1 20 = σ.1 20 := hf_τ41.1 20 (by decide)
                        have w22_τ41 : τ41.1 22 = σ.1 22 := hf_τ41.1 22 (by decide)
                        have g6_τ41 : τ41.2.1 6 = σ.2.1 6 := hf_τ41.2.1 6 (by decide)
                        have g8_τ41 : τ41.2.1 8 = σ.2.1 8 := hf_τ41.2.1 8 (by decide)
                        have g10_τ41 : τ41.2.1 10 = σ.2.1 10 := hf_τ41.2.1 10 (by decide)
                        have g11_τ41 : τ41.2.1 11 = σ.2.1 11 := hf_τ41.2.1 11 (by decide)
                        have g12_τ41 : τ41.2.1 12 = (st (σ.2.1 12) x3 1) := hf_τ41.2.1 12 (by decide)
                        have g14_τ41 : τ41.2.1 14 = σ.2.1 14 := hf_τ41.2.1 14 (by decide)
                        first | (have o6_τ41 := congrArg oc g6_τ41) | skip
                        have W0 : τ41.1 0 = σ.1 0 := by first | exact w0_τ41.trans W0 | omega
                        have W3 : τ41.1 3 = σ.1 3 := by first | exact w3_τ41.trans W3 | omega
                        have W5 : τ41.1 5 = σ.1 5 := by first | exact w5_τ41.trans W5 | omega
                        have W7 : τ41.1 7 = σ.1 7 := by first | exact w7_τ41.trans W7 | omega
                        have W8 : τ41.1 8 = σ.1 8 := by first | exact w8_τ41.trans W8 | omega
                        have W9 : τ41.1 9 = σ.1 9 := by first | exact w9_τ41.trans W9 | omega
                        have W10 : τ41.1 10 = σ.1 10 := by first | exact w10_τ41.trans W10 | omega
                        have W11 : τ41.1 11 = σ.1 11 := by first | exact w11_τ41.trans W11 | omega
                        have W17 : τ41.1 17 = σ.1 17 := by first | exact w17_τ41.trans W17 | omega
                        have W18 : τ41.1 18 = σ.1 18 := by first | exact w18_τ41.trans W18 | omega
                        have W19 : τ41.1 19 = σ.1 19 := by first | exact w19_τ41.trans W19 | omega
                        have W22 : τ41.1 22 = σ.1 22 := by first | exact w22_τ41.trans W22 | omega
                        have G6 : τ41.2.1 6 = σ.2.1 6 := (g6_τ41).trans G6
                        have G8 : τ41.2.1 8 = σ.2.1 8 := (g8_τ41).trans G8
                        have G10 : τ41.2.1 10 = σ.2.1 10 := (g10_τ41).trans G10
                        have G11 : τ41.2.1 11 = σ.2.1 11 := (g11_τ41).trans G11
                        have G14 : τ41.2.1 14 = σ.2.1 14 := (g14_τ41).trans G14
                        have y14_22_τ41 : τ41.2.1 14 (τ41.1 22) = (σ.2.1 14) (σ.1 22) := by rw [g14_τ41, w22_τ41]
                        have Y1 : j_l2 (τ41.2.1 6) (τ41.1 3) := by rw [show (j_l2 (τ41.2.1 6) (τ41.1 3)) = (j_l2 (σ.2.1 6) (σ.1 3)) from by rw [w3_τ41, g6_τ41]]; exact Y1
                        have STt : j_l2 (τ41.2.1 6) (τ41.1 3) := by rw [show (j_l2 (τ41.2.1 6) (τ41.1 3)) = (j_l2 (σ.2.1 6) (σ.1 3)) from by rw [w3_τ41, g6_τ41]]; exact STt
                        have A6 : ∀ j, (-1) ≤ τ41.2.1 6 j ∧ τ41.2.1 6 j ≤ 999 := fun j => hT.2 6 j
                        have A8 : ∀ j, 0 ≤ τ41.2.1 8 j ∧ τ41.2.1 8 j ≤ 1 := fun j => hT.2 8 j
                        have A10 : ∀ j, (-1) ≤ τ41.2.1 10 j ∧ τ41.2.1 10 j ≤ 999 := fun j => hT.2 10 j
                        have A11 : ∀ j, (-1) ≤ τ41.2.1 11 j ∧ τ41.2.1 11 j ≤ 1499 := fun j => hT.2 11 j
                        have A12 : ∀ j, 0 ≤ τ41.2.1 12 j ∧ τ41.2.1 12 j ≤ 1 := fun j => hT.2 12 j
                        have A14 : ∀ j, 0 ≤ τ41.2.1 14 j ∧ τ41.2.1 14 j ≤ 30000 := fun j => hT.2 14 j
                        have A15 : ∀ j, 0 ≤ τ41.2.1 15 j ∧ τ41.2.1 15 j ≤ 300 := fun j => hT.2 15 j
                        have A16 : ∀ j, 0 ≤ τ41.2.1 16 j ∧ τ41.2.1 16 j ≤ 999 := fun j => hT.2 16 j
                        have A17 : ∀ j, (-1) ≤ τ41.2.1 17 j ∧ τ41.2.1 17 j ≤ 1499 := fun j => hT.2 17 j
                        have v0 : 0 ≤ τ41.1 0 ∧ τ41.1 0 ≤ 60000 := hT.1 0
                        have v3 : 0 ≤ τ41.1 3 ∧ τ41.1 3 ≤ 1000 := hT.1 3
                        have v4 : 0 ≤ τ41.1 4 ∧ τ41.1 4 ≤ 100 := hT.1 4
                        have v5 : 0 ≤ τ41.1 5 ∧ τ41.1 5 ≤ 1500 := hT.1 5
                        have v6 : 0 ≤ τ41.1 6 ∧ τ41.1 6 ≤ 30000 := hT.1 6
                        have v7 : 0 ≤ τ41.1 7 ∧ τ41.1 7 ≤ 90000 := hT.1 7
                        have v8 : 0 ≤ τ41.1 8 ∧ τ41.1 8 ≤ 20000 := hT.1 8
                        have v9 : 0 ≤ τ41.1 9 ∧ τ41.1 9 ≤ 20000 := hT.1 9
                        have v10 : (-1) ≤ τ41.1 10 ∧ τ41.1 10 ≤ 999 := hT.1 10
                        have v11 : (-1) ≤ τ41.1 11 ∧ τ41.1 11 ≤ 999 := hT.1 11
                        have v17 : 0 ≤ τ41.1 17 ∧ τ41.1 17 ≤ 60000 := hT.1 17
                        have v18 : 0 ≤ τ41.1 18 ∧ τ41.1 18 ≤ 60000 := hT.1 18
                        have v19 : (-1) ≤ τ41.1 19 ∧ τ41.1 19 ≤ 125 := hT.1 19
                        have v20 : 0 ≤ τ41.1 20 ∧ τ41.1 20 ≤ 19 := hT.1 20
                        have v22 : 0 ≤ τ41.1 22 ∧ τ41.1 22 ≤ 1499 := hT.1 22
                        have a14_22 : 0 ≤ τ41.2.1 14 (τ41.1 22) ∧ τ41.2.1 14 (τ41.1 22) ≤ 30000 := hT.2 14 _
                        have a15_22 : 0 ≤ τ41.2.1 15 (τ41.1 22) ∧ τ41.2.1 15 (τ41.1 22) ≤ 300 := hT.2 15 _
                        have av6 : σ.1 6 ≤ τ41.1 6 := ag.1 6 (by decide)
                        have Y20 : ca (τ41.2.1 12) (τ41.1 3) ≤ τ41.1 4 := by rw [g12_τ41, w3_τ41]; omega
                        have Z1 : τ41.2.1 14 (τ41.1 22) + τ41.2.1 15 (τ41.1 22) = τ41.1 6 := by omega
                        exact ⟨hT, (show (τ41.1 20) = 0 → τ41.2.1 15 (τ41.1 22) = 1 from by (first | omega | (simp only [st_s] <;> omega) | assumption | omega | fail)), (show τ41.2.1 15 (τ41.1 22) ≤ 1 from by (first | omega | (simp only [st_s] <;> omega) | assumption | omega | fail)), (show ¬ (σ.1 20) = 0 → (τ41.1 20) = (σ.1 20) from by (first | omega | (simp only [st_s] <;> omega) | assumption | omega | fail)), (show τ41.2.1 14 (τ41.1 22) + τ41.2.1 15 (τ41.1 22) = (τ41.1 6) from Z1), (show ca (τ41.2.1 12) ((τ41.1 3)) ≤ (τ41.1 4) from Y20), ag, (show (τ41.1 20) = 0 → n_N (τ41.2.1 14 (τ41.1 22)) (τ41.2.1 14 (τ41.1 22) + τ41.2.1 15 (τ41.1 22)) (σ.1 3) (σ.2.1 8) (σ.2.1 11) (τ41.2.1 12) (τ41.2.1 16) (τ41.2.1 17) from by (first | (intro z; exfalso; omega) | (intro _; rw [show τ41.2.1 14 (τ41.1 22) = σ.1 6 from by omega, show σ.1 6 + τ41.2.1 15 (τ41.1 22) = σ.1 6 + 1 from by omega]; exact n_N_1 q39_4 q39_5 (by omega) (x3lt (by omega)) (by rw [g12_τ41, st_s]; decide)) | fail)), (show n_rl σ τ41 from by (first | exact n_rl_h hf_τ11 rfl rfl | exact n_rl_h hf_τ20 rfl rfl | exact n_rl_h hf_τ29 rfl rfl | exact n_rl_h hf_τ36 rfl rfl | exact ⟨fun s _ _ _ => by rw [g10_τ41], fun s _ _ h => by (rw [g12_τ41]; by_cases z : s = x3; (rw [z, st_s]; decide); (rw [st_n _ _ z]; exact h)), Or.inl (by omega), Or.inl (by omega), by omega, fun zt s a b => by (rw [g10_τ41]; have h3 := zt s a (by omega); omega)⟩ | fail)), (show ∀ s : Int, ¬ σ.2.1 12 s = 0 → ¬ τ41.2.1 12 s = 0 from by (first | exact fun s h => by (rw [G12]; exact h) | exact fun s h => by (rw [g12_τ41]; by_cases z : s = x3; (rw [z, st_s]; decide); (rw [st_n _ _ z]; exact h)) | (intro s h; first | (rw [hf_τ11.2.1 12 (by decide)]; exact h) | (rw [hf_τ20.2.1 12 (by decide)]; exact h) | (rw [hf_τ29.2.1 12 (by decide)]; exact h) | (rw [hf_τ36.2.1 12 (by decide)]; exact h)) | fail))⟩
                    ·
                      refine ⟨_, K_X13_failHere hT (show 0 ≤ (10 : Int) from by (first | omega | (simp only [st_s] <;> omega) | assumption | omega | fail)) (show (10 : Int) ≤ 19 from by (first | omega | (simp only [st_s] <;> omega) | assumption | omega | fail)), ?_⟩
                      intro τ36 hn_τ36 hf_τ36 hq
                      obtain ⟨hT, q34_1, q34_2⟩ := hq
                      replace q34_1 : ¬ (σ.1 20) = 0 → (τ36.1 20) = (σ.1 20) := q34_1
                      replace q34_2 : (σ.1 20) = 0 → (τ36.1 20) = (10 : Int) := q34_2
                      replace ag : m_ag σ τ36 := ag_r ag hf_τ36 rfl rfl
                      have w0_τ36 : τ36.1 0 = σ.1 0 := hf_τ36.1 0 (by decide)
                      have w3_τ36 : τ36.1 3 = σ.1 3 := hf_τ36.1 3 (by decide)
                      have w4_τ36 : τ36.1 4 = σ.1 4 := hf_τ36.1 4 (by decide)
                      have w5_τ36 : τ36.1 5 = σ.1 5 := hf_τ36.1 5 (by decide)
                      have w6_τ36 : τ36.1 6 = σ.1 6 := hf_τ36.1 6 (by decide)
                      have w7_τ36 : τ36.1 7 = σ.1 7 := hf_τ36.1 7 (by decide)
                      have w8_τ36 : τ36.1 8 = σ.1 8 := hf_τ36.1 8 (by decide)
                      have w9_τ36 : τ36.1 9 = σ.1 9 := hf_τ36.1 9 (by decide)
                      have w10_τ36 : τ36.1 10 = σ.1 10 := hf_τ36.1 10 (by decide)
                      have w11_τ36 : τ36.1 11 = σ.1 11 := hf_τ36.1 11 (by decide)
                      have w17_τ36 : τ36.1 17 = σ.1 17 := hf_τ36.1 17 (by decide)
                      have w18_τ36 : τ36.1 18 = σ.1 18 := hf_τ36.1 18 (by decide)
                      have w19_τ36 : τ36.1 19 = σ.1 19 := hf_τ36.1 19 (by decide)
                      have w22_τ36 : τ36.1 22 = σ.1 22 := hf_τ36.1 22 (by decide)
                      have g6_τ36 : τ36.2.1 6 = σ.2.1 6 := hf_τ36.2.1 6 (by decide)
                      have g8_τ36 : τ36.2.1 8 = σ.2.1 8 := hf_τ36.2.1 8 (by decide)
                      have g10_τ36 : τ36.2.1 10 = σ.2.1 10 := hf_τ36.2.1 10 (by decide)
                      have g11_τ36 : τ36.2.1 11 = σ.2.1 11 := hf_τ36.2.1 11 (by decide)
                      have g12_τ36 : τ36.2.1 12 = σ.2.1 12 := hf_τ36.2.1 12 (by decide)
                      have g14_τ36 : τ36.2.1 14 = σ.2.1 14 := hf_τ36.2.1 14 (by decide)
                      have g15_τ36 : τ36.2.1 15 = σ.2.1 15 := hf_τ36.2.1 15 (by decide)
                      have g16_τ36 : τ36.2.1 16 = σ.2.1 16 := hf_τ36.2.1 16 (by decide)
                      have g17_τ36 : τ36.2.1 17 = σ.2.1 17 := hf_τ36.2.1 17 (by decide)
                      first | (have o6_τ36 := congrArg oc g6_τ36) | skip
                      have W0 : τ36.1 0 = σ.1 0 := by first | exact w0_τ36.trans W0 | omega
                      have W3 : τ36.1 3 = σ.1 3 := by first | exact w3_τ36.trans W3 | omega
                      have W5 : τ36.1 5 = σ.1 5 := by first | exact w5_τ36.trans W5 | omega
                      have W7 : τ36.1 7 = σ.1 7 := by first | exact w7_τ36.trans W7 | omega
                      have W8 : τ36.1 8 = σ.1 8 := by first | exact w8_τ36.trans W8 | omega
                      have W9 : τ36.1 9 = σ.1 9 := by first | exact w9_τ36.trans W9 | omega
                      have W10 : τ36.1 10 = σ.1 10 := by first | exact w10_τ36.trans W10 | omega
                      have W11 : τ36.1 11 = σ.1 11 := by first | exact w11_τ36.trans W11 | omega
                      have W17 : τ36.1 17 = σ.1 17 := by first | exact w17_τ36.trans W17 | omega
                      have W18 : τ36.1 18 = σ.1 18 := by first | exact w18_τ36.trans W18 | omega
                      have W19 : τ36.1 19 = σ.1 19 := by first | exact w19_τ36.trans W19 | omega
                      have W22 : τ36.1 22 = σ.1 22 := by first | exact w22_τ36.trans W22 | omega
                      have G6 : τ36.2.1 6 = σ.2.1 6 := (g6_τ36).trans G6
                      have G8 : τ36.2.1 8 = σ.2.1 8 := (g8_τ36).trans G8
                      have G10 : τ36.2.1 10 = σ.2.1 10 := (g10_τ36).trans G10
                      have G11 : τ36.2.1 11 = σ.2.1 11 := (g11_τ36).trans G11
                      have G14 : τ36.2.1 14 = σ.2.1 14 := (g14_τ36).trans G14
                      have y14_22_τ36 : τ36.2.1 14 (τ36.1 22) = (σ.2.1 14) (σ.1 22) := by rw [g14_τ36, w22_τ36]
                      have y15_22_τ36 : τ36.2.1 15 (τ36.1 22) = (σ.2.1 15) (σ.1 22) := by rw [g15_τ36, w22_τ36]
                      have Z1 : τ36.2.1 14 (τ36.1 22) + τ36.2.1 15 (τ36.1 22) = (τ36.1 6) := by rw [show (τ36.2.1 14 (τ36.1 22) + τ36.2.1 15 (τ36.1 22) = (τ36.1 6)) = (σ.2.1 14 (σ.1 22) + σ.2.1 15 (σ.1 22) = (σ.1 6)) from by rw [w6_τ36, w22_τ36, g14_τ36, g15_τ36]]; exact Z1
                      have Y20 : ca (τ36.2.1 12) ((τ36.1 3)) ≤ (τ36.1 4) := by rw [show (ca (τ36.2.1 12) ((τ36.1 3)) ≤ (τ36.1 4)) = (ca (σ.2.1 12) ((σ.1 3)) ≤ (σ.1 4)) from by rw [w3_τ36, w4_τ36, g12_τ36]]; exact Y20
                      have Y1 : j_l2 (τ36.2.1 6) (τ36.1 3) := by rw [show (j_l2 (τ36.2.1 6) (τ36.1 3)) = (j_l2 (σ.2.1 6) (σ.1 3)) from by rw [w3_τ36, g6_τ36]]; exact Y1
                      have STt : j_l2 (τ36.2.1 6) (τ36.1 3) := by rw [show (j_l2 (τ36.2.1 6) (τ36.1 3)) = (j_l2 (σ.2.1 6) (σ.1 3)) from by rw [w3_τ36, g6_τ36]]; exact STt
                      have A6 : ∀ j, (-1) ≤ τ36.2.1 6 j ∧ τ36.2.1 6 j ≤ 999 := fun j => hT.2 6 j
                      have A8 : ∀ j, 0 ≤ τ36.2.1 8 j ∧ τ36.2.1 8 j ≤ 1 := fun j => hT.2 8 j
                      have A10 : ∀ j, (-1) ≤ τ36.2.1 10 j ∧ τ36.2.1 10 j ≤ 999 := fun j => hT.2 10 j
                      have A11 : ∀ j, (-1) ≤ τ36.2.1 11 j ∧ τ36.2.1 11 j ≤ 1499 := fun j => hT.2 11 j
                      have A12 : ∀ j, 0 ≤ τ36.2.1 12 j ∧ τ36.2.1 12 j ≤ 1 := fun j => hT.2 12 j
                      have A14 : ∀ j, 0 ≤ τ36.2.1 14 j ∧ τ36.2.1 14 j ≤ 30000 := fun j => hT.2 14 j
                      have A15 : ∀ j, 0 ≤ τ36.2.1 15 j ∧ τ36.2.1 15 j ≤ 300 := fun j => hT.2 15 j
                      have A16 : ∀ j, 0 ≤ τ36.2.1 16 j ∧ τ36.2.1 16 j ≤ 999 := fun j => hT.2 16 j
                      have A17 : ∀ j, (-1) ≤ τ36.2.1 17 j ∧ τ36.2.1 17 j ≤ 1499 := fun j => hT.2 17 j
                      have v0 : 0 ≤ τ36.1 0 ∧ τ36.1 0 ≤ 60000 := hT.1 0
                      have v3 : 0 ≤ τ36.1 3 ∧ τ36.1 3 ≤ 1000 := hT.1 3
                      have v4 : 0 ≤ τ36.1 4 ∧ τ36.1 4 ≤ 100 := hT.1 4
                      have v5 : 0 ≤ τ36.1 5 ∧ τ36.1 5 ≤ 1500 := hT.1 5
                      have v6 : 0 ≤ τ36.1 6 ∧ τ36.1 6 ≤ 30000 := hT.1 6
                      have v7 : 0 ≤ τ36.1 7 ∧ τ36.1 7 ≤ 90000 := hT.1 7
                      have v8 : 0 ≤ τ36.1 8 ∧ τ36.1 8 ≤ 20000 := hT.1 8
                      have v9 : 0 ≤ τ36.1 9 ∧ τ36.1 9 ≤ 20000 := hT.1 9
                      have v10 : (-1) ≤ τ36.1 10 ∧ τ36.1 10 ≤ 999 := hT.1 10
                      have v11 : (-1) ≤ τ36.1 11 ∧ τ36.1 11 ≤ 999 := hT.1 11
                      have v17 : 0 ≤ τ36.1 17 ∧ τ36.1 17 ≤ 60000 := hT.1 17
                      have v18 : 0 ≤ τ36.1 18 ∧ τ36.1 18 ≤ 60000 := hT.1 18
                      have v19 : (-1) ≤ τ36.1 19 ∧ τ36.1 19 ≤ 125 := hT.1 19
                      have v20 : 0 ≤ τ36.1 20 ∧ τ36.1 20 ≤ 19 := hT.1 20
                      have v22 : 0 ≤ τ36.1 22 ∧ τ36.1 22 ≤ 1499 := hT.1 22
                      have a14_22 : 0 ≤ τ36.2.1 14 (τ36.1 22) ∧ τ36.2.1 14 (τ36.1 22) ≤ 30000 := hT.2 14 _
                      have a15_22 : 0 ≤ τ36.2.1 15 (τ36.1 22) ∧ τ36.2.1 15 (τ36.1 22) ≤ 300 := hT.2 15 _
                      have av6 : σ.1 6 ≤ τ36.1 6 := ag.1 6 (by decide)
                      exact ⟨hT, (show (τ36.1 20) = 0 → τ36.2.1 15 (τ36.1 22) = 1 from by (first | omega | (simp only [st_s] <;> omega) | assumption | omega | fail)), (show τ36.2.1 15 (τ36.1 22) ≤ 1 from by (first | omega | (simp only [st_s] <;> omega) | assumption | omega | fail)), (show ¬ (σ.1 20) = 0 → (τ36.1 20) = (σ.1 20) from by (first | omega | (simp only [st_s] <;> omega) | assumption | omega | fail)), (show τ36.2.1 14 (τ36.1 22) + τ36.2.1 15 (τ36.1 22) = (τ36.1 6) from Z1), (show ca (τ36.2.1 12) ((τ36.1 3)) ≤ (τ36.1 4) from Y20), ag, (show (τ36.1 20) = 0 → n_N (τ36.2.1 14 (τ36.1 22)) (τ36.2.1 14 (τ36.1 22) + τ36.2.1 15 (τ36.1 22)) (σ.1 3) (σ.2.1 8) (σ.2.1 11) (τ36.2.1 12) (τ36.2.1 16) (τ36.2.1 17) from by (first | (intro z; exfalso; omega) | (intro _; rw [show τ41.2.1 14 (τ41.1 22) = σ.1 6 from by omega, show σ.1 6 + τ41.2.1 15 (τ41.1 22) = σ.1 6 + 1 from by omega]; exact n_N_1 q39_4 q39_5 (by omega) (x3lt (by omega)) (by rw [g12_τ41, st_s]; decide)) | fail)), (show n_rl σ τ36 from by (first | exact n_rl_h hf_τ11 rfl rfl | exact n_rl_h hf_τ20 rfl rfl | exact n_rl_h hf_τ29 rfl rfl | exact n_rl_h hf_τ36 rfl rfl | exact ⟨fun s _ _ _ => by rw [g10_τ41], fun s _ _ h => by (rw [g12_τ41]; by_cases z : s = x3; (rw [z, st_s]; decide); (rw [st_n _ _ z]; exact h)), Or.inl (by omega), Or.inl (by omega), by omega, fun zt s a b => by (rw [g10_τ41]; have h3 := zt s a (by omega); omega)⟩ | fail)), (show ∀ s : Int, ¬ σ.2.1 12 s = 0 → ¬ τ36.2.1 12 s = 0 from by (first | exact fun s h => by (rw [G12]; exact h) | exact fun s h => by (rw [g12_τ41]; by_cases z : s = x3; (rw [z, st_s]; decide); (rw [st_n _ _ z]; exact h)) | (intro s h; first | (rw [hf_τ11.2.1 12 (by decide)]; exact h) | (rw [hf_τ20.2.1 12 (by decide)]; exact h) | (rw [hf_τ29.2.1 12 (by decide)]; exact h) | (rw [hf_τ36.2.1 12 (by decide)]; exact h)) | fail))⟩
                  ·
                    refine h102 _ ?_
                    refine ⟨_, K_X13_failHere hT (show 0 ≤ (9 : Int) from by (first | omega | (simp only [st_s] <;> omega) | assumption | omega | fail)) (show (9 : Int) ≤ 19 from by (first | omega | (simp only [st_s] <;> omega) | assumption | omega | fail)), ?_⟩
                    intro τ29 hn_τ29 hf_τ29 hq
                    obtain ⟨hT, q27_1, q27_2⟩ := hq
                    replace q27_1 : ¬ (σ.1 20) = 0 → (τ29.1 20) = (σ.1 20) := q27_1
                    replace q27_2 : (σ.1 20) = 0 → (τ29.1 20) = (9 : Int) := q27_2
                    replace ag : m_ag σ τ29 := ag_r ag hf_τ29 rfl rfl
                    have w0_τ29 : τ29.1 0 = σ.1 0 := hf_τ29.1 0 (by decide)
                    have w3_τ29 : τ29.1 3 = σ.1 3 := hf_τ29.1 3 (by decide)
                    have w4_τ29 : τ29.1 4 = σ.1 4 := hf_τ29.1 4 (by decide)
                    have w5_τ29 : τ29.1 5 = σ.1 5 := hf_τ29.1 5 (by decide)
                    have w6_τ29 : τ29.1 6 = σ.1 6 := hf_τ29.1 6 (by decide)
                    have w7_τ29 : τ29.1 7 = σ.1 7 := hf_τ29.1 7 (by decide)
                    have w8_τ29 : τ29.1 8 = σ.1 8 := hf_τ29.1 8 (by decide)
                    have w9_τ29 : τ29.1 9 = σ.1 9 := hf_τ29.1 9 (by decide)
                    have w10_τ29 : τ29.1 10 = σ.1 10 := hf_τ29.1 10 (by decide)
                    have w11_τ29 : τ29.1 11 = σ.1 11 := hf_τ29.1 11 (by decide)
                    have w17_τ29 : τ29.1 17 = σ.1 17 := hf_τ29.1 17 (by decide)
                    have w18_τ29 : τ29.1 18 = σ.1 18 := hf_τ29.1 18 (by decide)
                    have w19_τ29 : τ29.1 19 = σ.1 19 := hf_τ29.1 19 (by decide)
                    have w22_τ29 : τ29.1 22 = σ.1 22 := hf_τ29.1 22 (by decide)
                    have g6_τ29 : τ29.2.1 6 = σ.2.1 6 := hf_τ29.2.1 6 (by decide)
                    have g8_τ29 : τ29.2.1 8 = σ.2.1 8 := hf_τ29.2.1 8 (by decide)
                    have g10_τ29 : τ29.2.1 10 = σ.2.1 10 := hf_τ29.2.1 10 (by decide)
                    have g11_τ29 : τ29.2.1 11 = σ.2.1 11 := hf_τ29.2.1 11 (by decide)
                    have g12_τ29 : τ29.2.1 12 = σ.2.1 12 := hf_τ29.2.1 12 (by decide)
                    have g14_τ29 : τ29.2.1 14 = σ.2.1 14 := hf_τ29.2.1 14 (by decide)
                    have g15_τ29 : τ29.2.1 15 = σ.2.1 15 := hf_τ29.2.1 15 (by decide)
                    have g16_τ29 : τ29.2.1 16 = σ.2.1 16 := hf_τ29.2.1 16 (by decide)
                    have g17_τ29 : τ29.2.1 17 = σ.2.1 17 := hf_τ29.2.1 17 (by decide)
                    first | (have o6_τ29 := congrArg oc g6_τ29) | skip
                    have W0 : τ29.1 0 = σ.1 0 := by first | exact w0_τ29.trans W0 | omega
                    have W3 : τ29.1 3 = σ.1 3 := by first | exact w3_τ29.trans W3 | omega
                    have W5 : τ29.1 5 = σ.1 5 := by first | exact w5_τ29.trans W5 | omega
                    have W7 : τ29.1 7 = σ.1 7 := by first | exact w7_τ29.trans W7 | omega
                    have W8 : τ29.1 8 = σ.1 8 := by first | exact w8_τ29.trans W8 | omega
                    have W9 : τ29.1 9 = σ.1 9 := by first | exact w9_τ29.trans W9 | omega
                    have W10 : τ29.1 10 = σ.1 10 := by first | exact w10_τ29.trans W10 | omega
                    have W11 : τ29.1 11 = σ.1 11 := by first | exact w11_τ29.trans W11 | omega
                    have W17 : τ29.1 17 = σ.1 17 := by first | exact w17_τ29.trans W17 | omega
                    have W18 : τ29.1 18 = σ.1 18 := by first | exact w18_τ29.trans W18 | omega
                    have W19 : τ29.1 19 = σ.1 19 := by first | exact w19_τ29.trans W19 | omega
                    have W22 : τ29.1 22 = σ.1 22 := by first | exact w22_τ29.trans W22 | omega
                    have G6 : τ29.2.1 6 = σ.2.1 6 := (g6_τ29).trans G6
                    have G8 : τ29.2.1 8 = σ.2.1 8 := (g8_τ29).trans G8
                    have G10 : τ29.2.1 10 = σ.2.1 10 := (g10_τ29).trans G10
                    have G11 : τ29.2.1 11 = σ.2.1 11 := (g11_τ29).trans G11
                    have G14 : τ29.2.1 14 = σ.2.1 14 := (g14_τ29).trans G14
                    have y14_22_τ29 : τ29.2.1 14 (τ29.1 22) = (σ.2.1 14) (σ.1 22) := by rw [g14_τ29, w22_τ29]
                    have y15_22_τ29 : τ29.2.1 15 (τ29.1 22) = (σ.2.1 15) (σ.1 22) := by rw [g15_τ29, w22_τ29]
                    have Z1 : τ29.2.1 14 (τ29.1 22) + τ29.2.1 15 (τ29.1 22) = (τ29.1 6) := by rw [show (τ29.2.1 14 (τ29.1 22) + τ29.2.1 15 (τ29.1 22) = (τ29.1 6)) = (σ.2.1 14 (σ.1 22) + σ.2.1 15 (σ.1 22) = (σ.1 6)) from by rw [w6_τ29, w22_τ29, g14_τ29, g15_τ29]]; exact Z1
                    have Y20 : ca (τ29.2.1 12) ((τ29.1 3)) ≤ (τ29.1 4) := by rw [show (ca (τ29.2.1 12) ((τ29.1 3)) ≤ (τ29.1 4)) = (ca (σ.2.1 12) ((σ.1 3)) ≤ (σ.1 4)) from by rw [w3_τ29, w4_τ29, g12_τ29]]; exact Y20
                    have Y1 : j_l2 (τ29.2.1 6) (τ29.1 3) := by rw [show (j_l2 (τ29.2.1 6) (τ29.1 3)) = (j_l2 (σ.2.1 6) (σ.1 3)) from by rw [w3_τ29, g6_τ29]]; exact Y1
                    have STt : j_l2 (τ29.2.1 6) (τ29.1 3) := by rw [show (j_l2 (τ29.2.1 6) (τ29.1 3)) = (j_l2 (σ.2.1 6) (σ.1 3)) from by rw [w3_τ29, g6_τ29]]; exact STt
                    have A6 : ∀ j, (-1) ≤ τ29.2.1 6 j ∧ τ29.2.1 6 j ≤ 999 := fun j => hT.2 6 j
                    have A8 : ∀ j, 0 ≤ τ29.2.1 8 j ∧ τ29.2.1 8 j ≤ 1 := fun j => hT.2 8 j
                    have A10 : ∀ j, (-1) ≤ τ29.2.1 10 j ∧ τ29.2.1 10 j ≤ 999 := fun j => hT.2 10 j
                    have A11 : ∀ j, (-1) ≤ τ29.2.1 11 j ∧ τ29.2.1 11 j ≤ 1499 := fun j => hT.2 11 j
                    have A12 : ∀ j, 0 ≤ τ29.2.1 12 j ∧ τ29.2.1 12 j ≤ 1 := fun j => hT.2 12 j
                    have A14 : ∀ j, 0 ≤ τ29.2.1 14 j ∧ τ29.2.1 14 j ≤ 30000 := fun j => hT.2 14 j
                    have A15 : ∀ j, 0 ≤ τ29.2.1 15 j ∧ τ29.2.1 15 j ≤ 300 := fun j => hT.2 15 j
                    have A16 : ∀ j, 0 ≤ τ29.2.1 16 j ∧ τ29.2.1 16 j ≤ 999 := fun j => hT.2 16 j
                    have A17 : ∀ j, (-1) ≤ τ29.2.1 17 j ∧ τ29.2.1 17 j ≤ 1499 := fun j => hT.2 17 j
                    have v0 : 0 ≤ τ29.1 0 ∧ τ29.1 0 ≤ 60000 := hT.1 0
                    have v3 : 0 ≤ τ29.1 3 ∧ τ29.1 3 ≤ 1000 := hT.1 3
                    have v4 : 0 ≤ τ29.1 4 ∧ τ29.1 4 ≤ 100 := hT.1 4
                    have v5 : 0 ≤ τ29.1 5 ∧ τ29.1 5 ≤ 1500 := hT.1 5
                    have v6 : 0 ≤ τ29.1 6 ∧ τ29.1 6 ≤ 30000 := hT.1 6
                    have v7 : 0 ≤ τ29.1 7 ∧ τ29.1 7 ≤ 90000 := hT.1 7
                    have v8 : 0 ≤ τ29.1 8 ∧ τ29.1 8 ≤ 20000 := hT.1 8
                    have v9 : 0 ≤ τ29.1 9 ∧ τ29.1 9 ≤ 20000 := hT.1 9
                    have v10 : (-1) ≤ τ29.1 10 ∧ τ29.1 10 ≤ 999 := hT.1 10
                    have v11 : (-1) ≤ τ29.1 11 ∧ τ29.1 11 ≤ 999 := hT.1 11
                    have v17 : 0 ≤ τ29.1 17 ∧ τ29.1 17 ≤ 60000 := hT.1 17
                    have v18 : 0 ≤ τ29.1 18 ∧ τ29.1 18 ≤ 60000 := hT.1 18
                    have v19 : (-1) ≤ τ29.1 19 ∧ τ29.1 19 ≤ 125 := hT.1 19
                    have v20 : 0 ≤ τ29.1 20 ∧ τ29.1 20 ≤ 19 := hT.1 20
                    have v22 : 0 ≤ τ29.1 22 ∧ τ29.1 22 ≤ 1499 := hT.1 22
                    have a14_22 : 0 ≤ τ29.2.1 14 (τ29.1 22) ∧ τ29.2.1 14 (τ29.1 22) ≤ 30000 := hT.2 14 _
                    have a15_22 : 0 ≤ τ29.2.1 15 (τ29.1 22) ∧ τ29.2.1 15 (τ29.1 22) ≤ 300 := hT.2 15 _
                    have av6 : σ.1 6 ≤ τ29.1 6 := ag.1 6 (by decide)
                    exact ⟨hT, (show (τ29.1 20) = 0 → τ29.2.1 15 (τ29.1 22) = 1 from by (first | omega | (simp only [st_s] <;> omega) | assumption | omega | fail)), (show τ29.2.1 15 (τ29.1 22) ≤ 1 from by (first | omega | (simp only [st_s] <;> omega) | assumption | omega | fail)), (show ¬ (σ.1 20) = 0 → (τ29.1 20) = (σ.1 20) from by (first | omega | (simp only [st_s] <;> omega) | assumption | omega | fail)), (show τ29.2.1 14 (τ29.1 22) + τ29.2.1 15 (τ29.1 22) = (τ29.1 6) from Z1), (show ca (τ29.2.1 12) ((τ29.1 3)) ≤ (τ29.1 4) from Y20), ag, (show (τ29.1 20) = 0 → n_N (τ29.2.1 14 (τ29.1 22)) (τ29.2.1 14 (τ29.1 22) + τ29.2.1 15 (τ29.1 22)) (σ.1 3) (σ.2.1 8) (σ.2.1 11) (τ29.2.1 12) (τ29.2.1 16) (τ29.2.1 17) from by (first | (intro z; exfalso; omega) | (intro _; rw [show τ41.2.1 14 (τ41.1 22) = σ.1 6 from by omega, show σ.1 6 + τ41.2.1 15 (τ41.1 22) = σ.1 6 + 1 from by omega]; exact n_N_1 q39_4 q39_5 (by omega) (x3lt (by omega)) (by rw [g12_τ41, st_s]; decide)) | fail)), (show n_rl σ τ29 from by (first | exact n_rl_h hf_τ11 rfl rfl | exact n_rl_h hf_τ20 rfl rfl | exact n_rl_h hf_τ29 rfl rfl | exact n_rl_h hf_τ36 rfl rfl | exact ⟨fun s _ _ _ => by rw [g10_τ41], fun s _ _ h => by (rw [g12_τ41]; by_cases z : s = x3; (rw [z, st_s]; decide); (rw [st_n _ _ z]; exact h)), Or.inl (by omega), Or.inl (by omega), by omega, fun zt s a b => by (rw [g10_τ41]; have h3 := zt s a (by omega); omega)⟩ | fail)), (show ∀ s : Int, ¬ σ.2.1 12 s = 0 → ¬ τ29.2.1 12 s = 0 from by (first | exact fun s h => by (rw [G12]; exact h) | exact fun s h => by (rw [g12_τ41]; by_cases z : s = x3; (rw [z, st_s]; decide); (rw [st_n _ _ z]; exact h)) | (intro s h; first | (rw [hf_τ11.2.1 12 (by decide)]; exact h) | (rw [hf_τ20.2.1 12 (by decide)]; exact h) | (rw [hf_τ29.2.1 12 (by decide)]; exact h) | (rw [hf_τ36.2.1 12 (by decide)]; exact h)) | fail))⟩
            ·
              refine ⟨fun c17 => ?_, fun c17 => ?_⟩
              ·
                refine h79 _ _ _ ?_
                refine ⟨fun c21 => ?_, fun c21 => ?_⟩
                ·
                  refine h102 _ ?_
                  refine ⟨_, K_X13_failHere hT (show 0 ≤ (9 : Int) from by (first | omega | (simp only [st_s] <;> omega) | assumption | omega | fail)) (show (9 : Int) ≤ 19 from by (first | omega | (simp only [st_s] <;> omega) | assumption | omega | fail)), ?_⟩
                  intro τ29 hn_τ29 hf_τ29 hq
                  obtain ⟨hT, q27_1, q27_2⟩ := hq
                  replace q27_1 : ¬ (σ.1 20) = 0 → (τ29.1 20) = (σ.1 20) := q27_1
                  replace q27_2 : (σ.1 20) = 0 → (τ29.1 20) = (9 : Int) := q27_2
                  replace ag : m_ag σ τ29 := ag_r ag hf_τ29 rfl rfl
                  have w0_τ29 : τ29.1 0 = σ.1 0 := hf_τ29.1 0 (by decide)
                  have w3_τ29 : τ29.1 3 = σ.1 3 := hf_τ29.1 3 (by decide)
                  have w4_τ29 : τ29.1 4 = σ.1 4 := hf_τ29.1 4 (by decide)
                  have w5_τ29 : τ29.1 5 = σ.1 5 := hf_τ29.1 5 (by decide)
                  have w6_τ29 : τ29.1 6 = σ.1 6 := hf_τ29.1 6 (by decide)
                  have w7_τ29 : τ29.1 7 = σ.1 7 := hf_τ29.1 7 (by decide)
                  have w8_τ29 : τ29.1 8 = σ.1 8 := hf_τ29.1 8 (by decide)
                  have w9_τ29 : τ29.1 9 = σ.1 9 := hf_τ29.1 9 (by decide)
                  have w10_τ29 : τ29.1 10 = σ.1 10 := hf_τ29.1 10 (by decide)
                  have w11_τ29 : τ29.1 11 = σ.1 11 := hf_τ29.1 11 (by decide)
                  have w17_τ29 : τ29.1 17 = σ.1 17 := hf_τ29.1 17 (by decide)
                  have w18_τ29 : τ29.1 18 = σ.1 18 := hf_τ29.1 18 (by decide)
                  have w19_τ29 : τ29.1 19 = σ.1 19 := hf_τ29.1 19 (by decide)
                  have w22_τ29 : τ29.1 22 = σ.1 22 := hf_τ29.1 22 (by decide)
                  have g6_τ29 : τ29.2.1 6 = σ.2.1 6 := hf_τ29.2.1 6 (by decide)
                  have g8_τ29 : τ29.2.1 8 = σ.2.1 8 := hf_τ29.2.1 8 (by decide)
                  have g10_τ29 : τ29.2.1 10 = σ.2.1 10 := hf_τ29.2.1 10 (by decide)
                  have g11_τ29 : τ29.2.1 11 = σ.2.1 11 := hf_τ29.2.1 11 (by decide)
                  have g12_τ29 : τ29.2.1 12 = σ.2.1 12 := hf_τ29.2.1 12 (by decide)
                  have g14_τ29 : τ29.2.1 14 = σ.2.1 14 := hf_τ29.2.1 14 (by decide)
                  have g15_τ29 : τ29.2.1 15 = σ.2.1 15 := hf_τ29.2.1 15 (by decide)
                  have g16_τ29 : τ29.2.1 16 = σ.2.1 16 := hf_τ29.2.1 16 (by decide)
                  have g17_τ29 : τ29.2.1 17 = σ.2.1 17 := hf_τ29.2.1 17 (by decide)
                  first | (have o6_τ29 := congrArg oc g6_τ29) | skip
                  have W0 : τ29.1 0 = σ.1 0 := by first | exact w0_τ29.trans W0 | omega
                  have W3 : τ29.1 3 = σ.1 3 := by first | exact w3_τ29.trans W3 | omega
                  have W5 : τ29.1 5 = σ.1 5 := by first | exact w5_τ29.trans W5 | omega
                  have W7 : τ29.1 7 = σ.1 7 := by first | exact w7_τ29.trans W7 | omega
                  have W8 : τ29.1 8 = σ.1 8 := by first | exact w8_τ29.trans W8 | omega
                  have W9 : τ29.1 9 = σ.1 9 := by first | exact w9_τ29.trans W9 | omega
                  have W10 : τ29.1 10 = σ.1 10 := by first | exact w10_τ29.trans W10 | omega
                  have W11 : τ29.1 11 = σ.1 11 := by first | exact w11_τ29.trans W11 | omega
                  have W17 : τ29.1 17 = σ.1 17 := by first | exact w17_τ29.trans W17 | omega
                  have W18 : τ29.1 18 = σ.1 18 := by first | exact w18_τ29.trans W18 | omega
                  have W19 : τ29.1 19 = σ.1 19 := by first | exact w19_τ29.trans W19 | omega
                  have W22 : τ29.1 22 = σ.1 22 := by first | exact w22_τ29.trans W22 | omega
                  have G6 : τ29.2.1 6 = σ.2.1 6 := (g6_τ29).trans G6
                  have G8 : τ29.2.1 8 = σ.2.1 8 := (g8_τ29).trans G8
                  have G10 : τ29.2.1 10 = σ.2.1 10 := (g10_τ29).trans G10
                  have G11 : τ29.2.1 11 = σ.2.1 11 := (g11_τ29).trans G11
                  have G14 : τ29.2.1 14 = σ.2.1 14 := (g14_τ29).trans G14
                  have y14_22_τ29 : τ29.2.1 14 (τ29.1 22) = (σ.2.1 14) (σ.1 22) := by rw [g14_τ29, w22_τ29]
                  have y15_22_τ29 : τ29.2.1 15 (τ29.1 22) = (σ.2.1 15) (σ.1 22) := by rw [g15_τ29, w22_τ29]
                  have Z1 : τ29.2.1 14 (τ29.1 22) + τ29.2.1 15 (τ29.1 22) = (τ29.1 6) := by rw [show (τ29.2.1 14 (τ29.1 22) + τ29.2.1 15 (τ29.1 22) = (τ29.1 6)) = (σ.2.1 14 (σ.1 22) + σ.2.1 15 (σ.1 22) = (σ.1 6)) from by rw [w6_τ29, w22_τ29, g14_τ29, g15_τ29]]; exact Z1
                  have Y20 : ca (τ29.2.1 12) ((τ29.1 3)) ≤ (τ29.1 4) := by rw [show (ca (τ29.2.1 12) ((τ29.1 3)) ≤ (τ29.1 4)) = (ca (σ.2.1 12) ((σ.1 3)) ≤ (σ.1 4)) from by rw [w3_τ29, w4_τ29, g12_τ29]]; exact Y20
                  have Y1 : j_l2 (τ29.2.1 6) (τ29.1 3) := by rw [show (j_l2 (τ29.2.1 6) (τ29.1 3)) = (j_l2 (σ.2.1 6) (σ.1 3)) from by rw [w3_τ29, g6_τ29]]; exact Y1
                  have STt : j_l2 (τ29.2.1 6) (τ29.1 3) := by rw [show (j_l2 (τ29.2.1 6) (τ29.1 3)) = (j_l2 (σ.2.1 6) (σ.1 3)) from by rw [w3_τ29, g6_τ29]]; exact STt
                  have A6 : ∀ j, (-1) ≤ τ29.2.1 6 j ∧ τ29.2.1 6 j ≤ 999 := fun j => hT.2 6 j
                  have A8 : ∀ j, 0 ≤ τ29.2.1 8 j ∧ τ29.2.1 8 j ≤ 1 := fun j => hT.2 8 j
                  have A10 : ∀ j, (-1) ≤ τ29.2.1 10 j ∧ τ29.2.1 10 j ≤ 999 := fun j => hT.2 10 j
                  have A11 : ∀ j, (-1) ≤ τ29.2.1 11 j ∧ τ29.2.1 11 j ≤ 1499 := fun j => hT.2 11 j
                  have A12 : ∀ j, 0 ≤ τ29.2.1 12 j ∧ τ29.2.1 12 j ≤ 1 := fun j => hT.2 12 j
                  have A14 : ∀ j, 0 ≤ τ29.2.1 14 j ∧ τ29.2.1 14 j ≤ 30000 := fun j => hT.2 14 j
                  have A15 : ∀ j, 0 ≤ τ29.2.1 15 j ∧ τ29.2.1 15 j ≤ 300 := fun j => hT.2 15 j
                  have A16 : ∀ j, 0 ≤ τ29.2.1 16 j ∧ τ29.2.1 16 j ≤ 999 := fun j => hT.2 16 j
                  have A17 : ∀ j, (-1) ≤ τ29.2.1 17 j ∧ τ29.2.1 17 j ≤ 1499 := fun j => hT.2 17 j
                  have v0 : 0 ≤ τ29.1 0 ∧ τ29.1 0 ≤ 60000 := hT.1 0
                  have v3 : 0 ≤ τ29.1 3 ∧ τ29.1 3 ≤ 1000 := hT.1 3
                  have v4 : 0 ≤ τ29.1 4 ∧ τ29.1 4 ≤ 100 := hT.1 4
                  have v5 : 0 ≤ τ29.1 5 ∧ τ29.1 5 ≤ 1500 := hT.1 5
                  have v6 : 0 ≤ τ29.1 6 ∧ τ29.1 6 ≤ 30000 := hT.1 6
                  have v7 : 0 ≤ τ29.1 7 ∧ τ29.1 7 ≤ 90000 := hT.1 7
                  have v8 : 0 ≤ τ29.1 8 ∧ τ29.1 8 ≤ 20000 := hT.1 8
                  have v9 : 0 ≤ τ29.1 9 ∧ τ29.1 9 ≤ 20000 := hT.1 9
                  have v10 : (-1) ≤ τ29.1 10 ∧ τ29.1 10 ≤ 999 := hT.1 10
                  have v11 : (-1) ≤ τ29.1 11 ∧ τ29.1 11 ≤ 999 := hT.1 11
                  have v17 : 0 ≤ τ29.1 17 ∧ τ29.1 17 ≤ 60000 := hT.1 17
                  have v18 : 0 ≤ τ29.1 18 ∧ τ29.1 18 ≤ 60000 := hT.1 18
                  have v19 : (-1) ≤ τ29.1 19 ∧ τ29.1 19 ≤ 125 := hT.1 19
                  have v20 : 0 ≤ τ29.1 20 ∧ τ29.1 20 ≤ 19 := hT.1 20
                  have v22 : 0 ≤ τ29.1 22 ∧ τ29.1 22 ≤ 1499 := hT.1 22
                  have a14_22 : 0 ≤ τ29.2.1 14 (τ29.1 22) ∧ τ29.2.1 14 (τ29.1 22) ≤ 30000 := hT.2 14 _
                  have a15_22 : 0 ≤ τ29.2.1 15 (τ29.1 22) ∧ τ29.2.1 15 (τ29.1 22) ≤ 300 := hT.2 15 _
                  have av6 : σ.1 6 ≤ τ29.1 6 := ag.1 6 (by decide)
                  exact ⟨hT, (show (τ29.1 20) = 0 → τ29.2.1 15 (τ29.1 22) = 1 from by (first | omega | (simp only [st_s] <;> omega) | assumption | omega | fail)), (show τ29.2.1 15 (τ29.1 22) ≤ 1 from by (first | omega | (simp only [st_s] <;> omega) | assumption | omega | fail)), (show ¬ (σ.1 20) = 0 → (τ29.1 20) = (σ.1 20) from by (first | omega | (simp only [st_s] <;> omega) | assumption | omega | fail)), (show τ29.2.1 14 (τ29.1 22) + τ29.2.1 15 (τ29.1 22) = (τ29.1 6) from Z1), (show ca (τ29.2.1 12) ((τ29.1 3)) ≤ (τ29.1 4) from Y20), ag, (show (τ29.1 20) = 0 → n_N (τ29.2.1 14 (τ29.1 22)) (τ29.2.1 14 (τ29.1 22) + τ29.2.1 15 (τ29.1 22)) (σ.1 3) (σ.2.1 8) (σ.2.1 11) (τ29.2.1 12) (τ29.2.1 16) (τ29.2.1 17) from by (first | (intro z; exfalso; omega) | (intro _; rw [show τ41.2.1 14 (τ41.1 22) = σ.1 6 from by omega, show σ.1 6 + τ41.2.1 15 (τ41.1 22) = σ.1 6 + 1 from by omega]; exact n_N_1 q39_4 q39_5 (by omega) (x3lt (by omega)) (by rw [g12_τ41, st_s]; decide)) | fail)), (show n_rl σ τ29 from by (first | exact n_rl_h hf_τ11 rfl rfl | exact n_rl_h hf_τ20 rfl rfl | exact n_rl_h hf_τ29 rfl rfl | exact n_rl_h hf_τ36 rfl rfl | exact ⟨fun s _ _ _ => by rw [g10_τ41], fun s _ _ h => by (rw [g12_τ41]; by_cases z : s = x3; (rw [z, st_s]; decide); (rw [st_n _ _ z]; exact h)), Or.inl (by omega), Or.inl (by omega), by omega, fun zt s a b => by (rw [g10_τ41]; have h3 := zt s a (by omega); omega)⟩ | fail)), (show ∀ s : Int, ¬ σ.2.1 12 s = 0 → ¬ τ29.2.1 12 s = 0 from by (first | exact fun s h => by (rw [G12]; exact h) | exact fun s h => by (rw [g12_τ41]; by_cases z : s = x3; (rw [z, st_s]; decide); (rw [st_n _ _ z]; exact h)) | (intro s h; first | (rw [hf_τ11.2.1 12 (by decide)]; exact h) | (rw [hf_τ20.2.1 12 (by decide)]; exact h) | (rw [hf_τ29.2.1 12 (by decide)]; exact h) | (rw [hf_τ36.2.1 12 (by decide)]; exact h)) | fail))⟩
                ·
                  refine ⟨(show 0 ≤ x3 ∧ x3 < 1001 from by (first | omega | (simp only [st_s] <;> omega) | assumption | omega | fail)), ?_⟩
                  intro x23 r_x23 e_x23
                  have b_x23 : 0 ≤ x23 ∧ x23 ≤ 1 := by rw [e_x23]; exact hT.2 8 _
                  refine ⟨fun c24 => ?_, fun c24 => ?_⟩
                  ·
                    refine h111 _ _ _ ?_
                    refine ⟨fun c30 => ?_, fun c30 => ?_⟩
                    ·
                      refine ⟨(show 0 ≤ x3 ∧ x3 < 1001 from by (first | omega | (simp only [st_s] <;> omega) | assumption | omega | fail)), ?_⟩
                      intro x32 r_x32 e_x32
                      have b_x32 : 0 ≤ x32 ∧ x32 ≤ 1 := by rw [e_x32]; exact hT.2 12 _
                      refine ⟨fun c33 => ?_, fun c33 => ?_⟩
                      ·
                        refine h143 _ _ _ _ ?_
                        refine ⟨(⟨by (first | omega | (simp only [st_s] <;> omega) | assumption | omega | fail), by (first | omega | (simp only [st_s] <;> omega) | assumption | omega | fail)⟩ : rg ((σ.1 4) + 1)), ?_⟩
                        replace ag := ag_v (i := 4) (x := ((σ.1 4) + 1)) ag (Or.inl rfl)
                        replace hT := mT_v (i := 4) hT (show 0 ≤ ((σ.1 4) + 1) ∧ ((σ.1 4) + 1) ≤ 100 from by (first | omega | (simp only [st_s] <;> omega) | assumption | omega | fail))
                        have ct0 := ca_t0 (σ.2.1 12) x3 ((σ.1 3)) 1 (by omega) (by omega)
                        have ct2 := ca_t2 (σ.2.1 12) (e := x3) ((σ.1 3)) 1 (by omega) (by omega)
                        refine ⟨(show 0 ≤ x3 ∧ x3 < 1001 from by (first | omega | (simp only [st_s] <;> omega) | assumption | omega | fail)), ?_⟩
                        replace ag := ag_a (k := 12) (e := x3) (x := 1) ag rfl
                        replace hT := mT_a (k := 12) (j := x3) hT (show (0 : Int) ≤ 1 ∧ 1 ≤ 1 from by (first | omega | (simp only [st_s] <;> omega) | assumption | omega | fail))
                        have y14q : σ.2.1 14 (σ.1 22) = σ.1 6 := by omega
                        refine ⟨_, K3_X13_addSymbol hT (show 0 ≤ x3 from by (first | omega | (simp only [st_s] <;> omega) | assumption | omega | fail)) (show x3 < 1000 from by (first | omega | (simp only [st_s] <;> omega) | assumption | omega | fail)) (show -1 ≤ (-1 : Int) from by (first | omega | (simp only [st_s] <;> omega) | assumption | omega | fail)) (show (-1 : Int) ≤ 1499 from by (first | omega | (simp only [st_s] <;> omega) | assumption | omega | fail)) (show (σ.1 6) < 30000 from by (first | omega | (simp only [st_s] <;> omega) | assumption | omega | fail)) (show σ.2.1 15 (σ.1 22) < 300 from by (first | omega | (simp only [st_s] <;> omega) | assumption | omega | fail)) (show (σ.1 22) = (σ.1 5) from by (first | omega | (simp only [st_s] <;> omega) | assumption | omega | fail)), ?_⟩
                        intro τ41 hn_τ41 hf_τ41 hq
                        obtain ⟨hT, q39_1, q39_2, q39_3, q39_4, q39_5⟩ := hq
                        replace q39_1 : (τ41.1 6) = (σ.1 6) + 1 := q39_1
                        replace q39_2 : τ41.2.1 15 (τ41.1 22) = σ.2.1 15 (σ.1 22) + 1 := q39_2
                        replace q39_3 : m_ag (s_a (s_v σ 4 ((σ.1 4) + 1)) 12 x3 1) τ41 := q39_3
                        replace q39_4 : τ41.2.1 16 = st (σ.2.1 16) (σ.1 6) x3 := q39_4
                        replace q39_5 : τ41.2.1 17 = st (σ.2.1 17) (σ.1 6) (-1 : Int) := q39_5
                        replace ag : m_ag σ τ41 := ag_t ag q39_3 rfl
                        have w0_τ41 : τ41.1 0 = σ.1 0 := hf_τ41.1 0 (by decide)
                        have w3_τ41 : τ41.1 3 = σ.1 3 := hf_τ41.1 3 (by decide)
                        have w4_τ41 : τ41.1 4 = ((σ.1 4) + 1) := hf_τ41.1 4 (by decide)
                        have w5_τ41 : τ41.1 5 = σ.1 5 := hf_τ41.1 5 (by decide)
                        have w7_τ41 : τ41.1 7 = σ.1 7 := hf_τ41.1 7 (by decide)
                        have w8_τ41 : τ41.1 8 = σ.1 8 := hf_τ41.1 8 (by decide)
                        have w9_τ41 : τ41.1 9 = σ.1 9 := hf_τ41.1 9 (by decide)
                        have w10_τ41 : τ41.1 10 = σ.1 10 := hf_τ41.1 10 (by decide)
                        have w11_τ41 : τ41.1 11 = σ.1 11 := hf_τ41.1 11 (by decide)
                        have w17_τ41 : τ41.1 17 = σ.1 17 := hf_τ41.1 17 (by decide)
                        have w18_τ41 : τ41.1 18 = σ.1 18 := hf_τ41.1 18 (by decide)
                        have w19_τ41 : τ41.1 19 = σ.1 19 := hf_τ41.1 19 (by decide)
                        have w20_τ41 : τ41.1 20 = σ.1 20 := hf_τ41.1 20 (by decide)
                        have w22_τ41 : τ41.1 22 = σ.1 22 := hf_τ41.1 22 (by decide)
                        have g6_τ41 : τ41.2.1 6 = σ.2.1 6 := hf_τ41.2.1 6 (by decide)
                        have g8_τ41 : τ41.2.1 8 = σ.2.1 8 := hf_τ41.2.1 8 (by decide)
                        have g10_τ41 : τ41.2.1 10 = σ.2.1 10 := hf_τ41.2.1 10 (by decide)
                        have g11_τ41 : τ41.2.1 11 = σ.2.1 11 := hf_τ41.2.1 11 (by decide)
                        have g12_τ41 : τ41.2.1 12 = (st (σ.2.1 12) x3 1) := hf_τ41.2.1 12 (by decide)
                        have g14_τ41 : τ41.2.1 14 = σ.2.1 14 := hf_τ41.2.1 14 (by decide)
                        first | (have o6_τ41 := congrArg oc g6_τ41) | skip
                        have W0 : τ41.1 0 = σ.1 0 := by first | exact w0_τ41.trans W0 | omega
                        have W3 : τ41.1 3 = σ.1 3 := by first | exact w3_τ41.trans W3 | omega
                        have W5 : τ41.1 5 = σ.1 5 := by first | exact w5_τ41.trans W5 | omega
                        have W7 : τ41.1 7 = σ.1 7 := by first | exact w7_τ41.trans W7 | omega
                        have W8 : τ41.1 8 = σ.1 8 := by first | exact w8_τ41.trans W8 | omega
                        have W9 : τ41.1 9 = σ.1 9 := by first | exact w9_τ41.trans W9 | omega
                        have W10 : τ41.1 10 = σ.1 10 := by first | exact w10_τ41.trans W10 | omega
                        have W11 : τ41.1 11 = σ.1 11 := by first | exact w11_τ41.trans W11 | omega
                        have W17 : τ41.1 17 = σ.1 17 := by first | exact w17_τ41.trans W17 | omega
                        have W18 : τ41.1 18 = σ.1 18 := by first | exact w18_τ41.trans W18 | omega
                        have W19 : τ41.1 19 = σ.1 19 := by first | exact w19_τ41.trans W19 | omega
                        have W22 : τ41.1 22 = σ.1 22 := by first | exact w22_τ41.trans W22 | omega
                        have G6 : τ41.2.1 6 = σ.2.1 6 := (g6_τ41).trans G6
                        have G8 : τ41.2.1 8 = σ.2.1 8 := (g8_τ41).trans G8
                        have G10 : τ41.2.1 10 = σ.2.1 10 := (g10_τ41).trans G10
                        have G11 : τ41.2.1 11 = σ.2.1 11 := (g11_τ41).trans G11
                        have G14 : τ41.2.1 14 = σ.2.1 14 := (g14_τ41).trans G14
                        have y14_22_τ41 : τ41.2.1 14 (τ41.1 22) = (σ.2.1 14) (σ.1 22) := by rw [g14_τ41, w22_τ41]
                        have Y1 : j_l2 (τ41.2.1 6) (τ41.1 3) := by rw [show (j_l2 (τ41.2.1 6) (τ41.1 3)) = (j_l2 (σ.2.1 6) (σ.1 3)) from by rw [w3_τ41, g6_τ41]]; exact Y1
                        have STt : j_l2 (τ41.2.1 6) (τ41.1 3) := by rw [show (j_l2 (τ41.2.1 6) (τ41.1 3)) = (j_l2 (σ.2.1 6) (σ.1 3)) from by rw [w3_τ41, g6_τ41]]; exact STt
                        have A6 : ∀ j, (-1) ≤ τ41.2.1 6 j ∧ τ41.2.1 6 j ≤ 999 := fun j => hT.2 6 j
                        have A8 : ∀ j, 0 ≤ τ41.2.1 8 j ∧ τ41.2.1 8 j ≤ 1 := fun j => hT.2 8 j
                        have A10 : ∀ j, (-1) ≤ τ41.2.1 10 j ∧ τ41.2.1 10 j ≤ 999 := fun j => hT.2 10 j
                        have A11 : ∀ j, (-1) ≤ τ41.2.1 11 j ∧ τ41.2.1 11 j ≤ 1499 := fun j => hT.2 11 j
                        have A12 : ∀ j, 0 ≤ τ41.2.1 12 j ∧ τ41.2.1 12 j ≤ 1 := fun j => hT.2 12 j
                        have A14 : ∀ j, 0 ≤ τ41.2.1 14 j ∧ τ41.2.1 14 j ≤ 30000 := fun j => hT.2 14 j
                        have A15 : ∀ j, 0 ≤ τ41.2.1 15 j ∧ τ41.2.1 15 j ≤ 300 := fun j => hT.2 15 j
                        have A16 : ∀ j, 0 ≤ τ41.2.1 16 j ∧ τ41.2.1 16 j ≤ 999 := fun j => hT.2 16 j
                        have A17 : ∀ j, (-1) ≤ τ41.2.1 17 j ∧ τ41.2.1 17 j ≤ 1499 := fun j => hT.2 17 j
                        have v0 : 0 ≤ τ41.1 0 ∧ τ41.1 0 ≤ 60000 := hT.1 0
                        have v3 : 0 ≤ τ41.1 3 ∧ τ41.1 3 ≤ 1000 := hT.1 3
                        have v4 : 0 ≤ τ41.1 4 ∧ τ41.1 4 ≤ 100 := hT.1 4
                        have v5 : 0 ≤ τ41.1 5 ∧ τ41.1 5 ≤ 1500 := hT.1 5
                        have v6 : 0 ≤ τ41.1 6 ∧ τ41.1 6 ≤ 30000 := hT.1 6
                        have v7 : 0 ≤ τ41.1 7 ∧ τ41.1 7 ≤ 90000 := hT.1 7
                        have v8 : 0 ≤ τ41.1 8 ∧ τ41.1 8 ≤ 20000 := hT.1 8
                        have v9 : 0 ≤ τ41.1 9 ∧ τ41.1 9 ≤ 20000 := hT.1 9
                        have v10 : (-1) ≤ τ41.1 10 ∧ τ41.1 10 ≤ 999 := hT.1 10
                        have v11 : (-1) ≤ τ41.1 11 ∧ τ41.1 11 ≤ 999 := hT.1 11
                        have v17 : 0 ≤ τ41.1 17 ∧ τ41.1 17 ≤ 60000 := hT.1 17
                        have v18 : 0 ≤ τ41.1 18 ∧ τ41.1 18 ≤ 60000 := hT.1 18
                        have v19 : (-1) ≤ τ41.1 19 ∧ τ41.1 19 ≤ 125 := hT.1 19
                        have v20 : 0 ≤ τ41.1 20 ∧ τ41.1 20 ≤ 19 := hT.1 20
                        have v22 : 0 ≤ τ41.1 22 ∧ τ41.1 22 ≤ 1499 := hT.1 22
                        have a14_22 : 0 ≤ τ41.2.1 14 (τ41.1 22) ∧ τ41.2.1 14 (τ41.1 22) ≤ 30000 := hT.2 14 _
                        have a15_22 : 0 ≤ τ41.2.1 15 (τ41.1 22) ∧ τ41.2.1 15 (τ41.1 22) ≤ 300 := hT.2 15 _
                        have av6 : σ.1 6 ≤ τ41.1 6 := ag.1 6 (by decide)
                        have Y20 : ca (τ41.2.1 12) (τ41.1 3) ≤ τ41.1 4 := by rw [g12_τ41, w3_τ41]; omega
                        have Z1 : τ41.2.1 14 (τ41.1 22) + τ41.2.1 15 (τ41.1 22) = τ41.1 6 := by omega
                        exact ⟨hT, (show (τ41.1 20) = 0 → τ41.2.1 15 (τ41.1 22) = 1 from by (first | omega | (simp only [st_s] <;> omega) | assumption | omega | fail)), (show τ41.2.1 15 (τ41.1 22) ≤ 1 from by (first | omega | (simp only [st_s] <;> omega) | assumption | omega | fail)), (show ¬ (σ.1 20) = 0 → (τ41.1 20) = (σ.1 20) from by (first | omega | (simp only [st_s] <;> omega) | assumption | omega | fail)), (show τ41.2.1 14 (τ41.1 22) + τ41.2.1 15 (τ41.1 22) = (τ41.1 6) from Z1), (show ca (τ41.2.1 12) ((τ41.1 3)) ≤ (τ41.1 4) from Y20), ag, (show (τ41.1 20) = 0 → n_N (τ41.2.1 14 (τ41.1 22)) (τ41.2.1 14 (τ41.1 22) + τ41.2.1 15 (τ41.1 22)) (σ.1 3) (σ.2.1 8) (σ.2.1 11) (τ41.2.1 12) (τ41.2.1 16) (τ41.2.1 17) from by (first | (intro z; exfalso; omega) | (intro _; rw [show τ41.2.1 14 (τ41.1 22) = σ.1 6 from by omega, show σ.1 6 + τ41.2.1 15 (τ41.1 22) = σ.1 6 + 1 from by omega]; exact n_N_1 q39_4 q39_5 (by omega) (x3lt (by omega)) (by rw [g12_τ41, st_s]; decide)) | fail)), (show n_rl σ τ41 from by (first | exact n_rl_h hf_τ11 rfl rfl | exact n_rl_h hf_τ20 rfl rfl | exact n_rl_h hf_τ29 rfl rfl | exact n_rl_h hf_τ36 rfl rfl | exact ⟨fun s _ _ _ => by rw [g10_τ41], fun s _ _ h => by (rw [g12_τ41]; by_cases z : s = x3; (rw [z, st_s]; decide); (rw [st_n _ _ z]; exact h)), Or.inl (by omega), Or.inl (by omega), by omega, fun zt s a b => by (rw [g10_τ41]; have h3 := zt s a (by omega); omega)⟩ | fail)), (show ∀ s : Int, ¬ σ.2.1 12 s = 0 → ¬ τ41.2.1 12 s = 0 from by (first | exact fun s h => by (rw [G12]; exact h) | exact fun s h => by (rw [g12_τ41]; by_cases z : s = x3; (rw [z, st_s]; decide); (rw [st_n _ _ z]; exact h)) | (intro s h; first | (rw [hf_τ11.2.1 12 (by decide)]; exact h) | (rw [hf_τ20.2.1 12 (by decide)]; exact h) | (rw [hf_τ29.2.1 12 (by decide)]; exact h) | (rw [hf_τ36.2.1 12 (by decide)]; exact h)) | fail))⟩
                      ·
                        refine h143 _ _ _ _ ?_
                        refine ⟨(⟨by (first | omega | (simp only [st_s] <;> omega) | assumption | omega | fail), by (first | omega | (simp only [st_s] <;> omega) | assumption | omega | fail)⟩ : rg ((σ.1 4) + 0)), ?_⟩
                        replace ag := ag_v (i := 4) (x := ((σ.1 4) + 0)) ag (Or.inl rfl)
                        replace hT := mT_v (i := 4) hT (show 0 ≤ ((σ.1 4) + 0) ∧ ((σ.1 4) + 0) ≤ 100 from by (first | omega | (simp only [st_s] <;> omega) | assumption | omega | fail))
                        have ct0 := ca_t0 (σ.2.1 12) x3 ((σ.1 3)) 1 (by omega) (by omega)
                        have ct2 := ca_t2 (σ.2.1 12) (e := x3) ((σ.1 3)) 1 (by omega) (by omega)
                        refine ⟨(show 0 ≤ x3 ∧ x3 < 1001 from by (first | omega | (simp only [st_s] <;> omega) | assumption | omega | fail)), ?_⟩
                        replace ag := ag_a (k := 12) (e := x3) (x := 1) ag rfl
                        replace hT := mT_a (k := 12) (j := x3) hT (show (0 : Int) ≤ 1 ∧ 1 ≤ 1 from by (first | omega | (simp only [st_s] <;> omega) | assumption | omega | fail))
                        have y14q : σ.2.1 14 (σ.1 22) = σ.1 6 := by omega
                        refine ⟨_, K3_X13_addSymbol hT (show 0 ≤ x3 from by (first | omega | (simp only [st_s] <;> omega) | assumption | omega | fail)) (show x3 < 1000 from by (first | omega | (simp only [st_s] <;> omega) | assumption | omega | fail)) (show -1 ≤ (-1 : Int) from by (first | omega | (simp only [st_s] <;> omega) | assumption | omega | fail)) (show (-1 : Int) ≤ 1499 from by (first | omega | (simp only [st_s] <;> omega) | assumption | omega | fail)) (show (σ.1 6) < 30000 from by (first | omega | (simp only [st_s] <;> omega) | assumption | omega | fail)) (show σ.2.1 15 (σ.1 22) < 300 from by (first | omega | (simp only [st_s] <;> omega) | assumption | omega | fail)) (show (σ.1 22) = (σ.1 5) from by (first | omega | (simp only [st_s] <;> omega) | assumption | omega | fail)), ?_⟩
                        intro τ41 hn_τ41 hf_τ41 hq
                        obtain ⟨hT, q39_1, q39_2, q39_3, q39_4, q39_5⟩ := hq
                        replace q39_1 : (τ41.1 6) = (σ.1 6) + 1 := q39_1
                        replace q39_2 : τ41.2.1 15 (τ41.1 22) = σ.2.1 15 (σ.1 22) + 1 := q39_2
                        replace q39_3 : m_ag (s_a (s_v σ 4 ((σ.1 4) + 0)) 12 x3 1) τ41 := q39_3
                        replace q39_4 : τ41.2.1 16 = st (σ.2.1 16) (σ.1 6) x3 := q39_4
                        replace q39_5 : τ41.2.1 17 = st (σ.2.1 17) (σ.1 6) (-1 : Int) := q39_5
                        replace ag : m_ag σ τ41 := ag_t ag q39_3 rfl
                        have w0_τ41 : τ41.1 0 = σ.1 0 := hf_τ41.1 0 (by decide)
                        have w3_τ41 : τ41.1 3 = σ.1 3 := hf_τ41.1 3 (by decide)
                        have w4_τ41 : τ41.1 4 = ((σ.1 4) + 0) := hf_τ41.1 4 (by decide)
                        have w5_τ41 : τ41.1 5 = σ.1 5 := hf_τ41.1 5 (by decide)
                        have w7_τ41 : τ41.1 7 = σ.1 7 := hf_τ41.1 7 (by decide)
                        have w8_τ41 : τ41.1 8 = σ.1 8 := hf_τ41.1 8 (by decide)
                        have w9_τ41 : τ41.1 9 = σ.1 9 := hf_τ41.1 9 (by decide)
                        have w10_τ41 : τ41.1 10 = σ.1 10 := hf_τ41.1 10 (by decide)
                        have w11_τ41 : τ41.1 11 = σ.1 11 := hf_τ41.1 11 (by decide)
                        have w17_τ41 : τ41.1 17 = σ.1 17 := hf_τ41.1 17 (by decide)
                        have w18_τ41 : τ41.1 18 = σ.1 18 := hf_τ41.1 18 (by decide)
                        have w19_τ41 : τ41.1 19 = σ.1 19 := hf_τ41.1 19 (by decide)
                        have w20_τ41 : τ41.1 20 = σ.1 20 := hf_τ41.1 20 (by decide)
                        have w22_τ41 : τ41.1 22 = σ.1 22 := hf_τ41.1 22 (by decide)
                        have g6_τ41 : τ41.2.1 6 = σ.2.1 6 := hf_τ41.2.1 6 (by decide)
                        have g8_τ41 : τ41.2.1 8 = σ.2.1 8 := hf_τ41.2.1 8 (by decide)
                        have g10_τ41 : τ41.2.1 10 = σ.2.1 10 := hf_τ41.2.1 10 (by decide)
                        have g11_τ41 : τ41.2.1 11 = σ.2.1 11 := hf_τ41.2.1 11 (by decide)
                        have g12_τ41 : τ41.2.1 12 = (st (σ.2.1 12) x3 1) := hf_τ41.2.1 12 (by decide)
                        have g14_τ41 : τ41.2.1 14 = σ.2.1 14 := hf_τ41.2.1 14 (by decide)
                        first | (have o6_τ41 := congrArg oc g6_τ41) | skip
                        have W0 : τ41.1 0 = σ.1 0 := by first | exact w0_τ41.trans W0 | omega
                        have W3 : τ41.1 3 = σ.1 3 := by first | exact w3_τ41.trans W3 | omega
                        have W5 : τ41.1 5 = σ.1 5 := by first | exact w5_τ41.trans W5 | omega
                        have W7 : τ41.1 7 = σ.1 7 := by first | exact w7_τ41.trans W7 | omega
                        have W8 : τ41.1 8 = σ.1 8 := by first | exact w8_τ41.trans W8 | omega
                        have W9 : τ41.1 9 = σ.1 9 := by first | exact w9_τ41.trans W9 | omega
                        have W10 : τ41.1 10 = σ.1 10 := by first | exact w10_τ41.trans W10 | omega
                        have W11 : τ41.1 11 = σ.1 11 := by first | exact w11_τ41.trans W11 | omega
                        have W17 : τ41.1 17 = σ.1 17 := by first | exact w17_τ41.trans W17 | omega
                        have W18 : τ41.1 18 = σ.1 18 := by first | exact w18_τ41.trans W18 | omega
                        have W19 : τ41.1 19 = σ.1 19 := by first | exact w19_τ41.trans W19 | omega
                        have W22 : τ41.1 22 = σ.1 22 := by first | exact w22_τ41.trans W22 | omega
                        have G6 : τ41.2.1 6 = σ.2.1 6 := (g6_τ41).trans G6
                        have G8 : τ41.2.1 8 = σ.2.1 8 := (g8_τ41).trans G8
                        have G10 : τ41.2.1 10 = σ.2.1 10 := (g10_τ41).trans G10
                        have G11 : τ41.2.1 11 = σ.2.1 11 := (g11_τ41).trans G11
                        have G14 : τ41.2.1 14 = σ.2.1 14 := (g14_τ41).trans G14
                        have y14_22_τ41 : τ41.2.1 14 (τ41.1 22) = (σ.2.1 14) (σ.1 22) := by rw [g14_τ41, w22_τ41]
                        have Y1 : j_l2 (τ41.2.1 6) (τ41.1 3) := by rw [show (j_l2 (τ41.2.1 6) (τ41.1 3)) = (j_l2 (σ.2.1 6) (σ.1 3)) from by rw [w3_τ41, g6_τ41]]; exact Y1
                        have STt : j_l2 (τ41.2.1 6) (τ41.1 3) := by rw [show (j_l2 (τ41.2.1 6) (τ41.1 3)) = (j_l2 (σ.2.1 6) (σ.1 3)) from by rw [w3_τ41, g6_τ41]]; exact STt
                        have A6 : ∀ j, (-1) ≤ τ41.2.1 6 j ∧ τ41.2.1 6 j ≤ 999 := fun j => hT.2 6 j
                        have A8 : ∀ j, 0 ≤ τ41.2.1 8 j ∧ τ41.2.1 8 j ≤ 1 := fun j => hT.2 8 j
                        have A10 : ∀ j, (-1) ≤ τ41.2.1 10 j ∧ τ41.2.1 10 j ≤ 999 := fun j => hT.2 10 j
                        have A11 : ∀ j, (-1) ≤ τ41.2.1 11 j ∧ τ41.2.1 11 j ≤ 1499 := fun j => hT.2 11 j
                        have A12 : ∀ j, 0 ≤ τ41.2.1 12 j ∧ τ41.2.1 12 j ≤ 1 := fun j => hT.2 12 j
                        have A14 : ∀ j, 0 ≤ τ41.2.1 14 j ∧ τ41.2.1 14 j ≤ 30000 := fun j => hT.2 14 j
                        have A15 : ∀ j, 0 ≤ τ41.2.1 15 j ∧ τ41.2.1 15 j ≤ 300 := fun j => hT.2 15 j
                        have A16 : ∀ j, 0 ≤ τ41.2.1 16 j ∧ τ41.2.1 16 j ≤ 999 := fun j => hT.2 16 j
                        have A17 : ∀ j, (-1) ≤ τ41.2.1 17 j ∧ τ41.2.1 17 j ≤ 1499 := fun j => hT.2 17 j
                        have v0 : 0 ≤ τ41.1 0 ∧ τ41.1 0 ≤ 60000 := hT.1 0
                        have v3 : 0 ≤ τ41.1 3 ∧ τ41.1 3 ≤ 1000 := hT.1 3
                        have v4 : 0 ≤ τ41.1 4 ∧ τ41.1 4 ≤ 100 := hT.1 4
                        have v5 : 0 ≤ τ41.1 5 ∧ τ41.1 5 ≤ 1500 := hT.1 5
                        have v6 : 0 ≤ τ41.1 6 ∧ τ41.1 6 ≤ 30000 := hT.1 6
                        have v7 : 0 ≤ τ41.1 7 ∧ τ41.1 7 ≤ 90000 := hT.1 7
                        have v8 : 0 ≤ τ41.1 8 ∧ τ41.1 8 ≤ 20000 := hT.1 8
                        have v9 : 0 ≤ τ41.1 9 ∧ τ41.1 9 ≤ 20000 := hT.1 9
                        have v10 : (-1) ≤ τ41.1 10 ∧ τ41.1 10 ≤ 999 := hT.1 10
                        have v11 : (-1) ≤ τ41.1 11 ∧ τ41.1 11 ≤ 999 := hT.1 11
                        have v17 : 0 ≤ τ41.1 17 ∧ τ41.1 17 ≤ 60000 := hT.1 17
                        have v18 : 0 ≤ τ41.1 18 ∧ τ41.1 18 ≤ 60000 := hT.1 18
                        have v19 : (-1) ≤ τ41.1 19 ∧ τ41.1 19 ≤ 125 := hT.1 19
                        have v20 : 0 ≤ τ41.1 20 ∧ τ41.1 20 ≤ 19 := hT.1 20
                        have v22 : 0 ≤ τ41.1 22 ∧ τ41.1 22 ≤ 1499 := hT.1 22
                        have a14_22 : 0 ≤ τ41.2.1 14 (τ41.1 22) ∧ τ41.2.1 14 (τ41.1 22) ≤ 30000 := hT.2 14 _
                        have a15_22 : 0 ≤ τ41.2.1 15 (τ41.1 22) ∧ τ41.2.1 15 (τ41.1 22) ≤ 300 := hT.2 15 _
                        have av6 : σ.1 6 ≤ τ41.1 6 := ag.1 6 (by decide)
                        have Y20 : ca (τ41.2.1 12) (τ41.1 3) ≤ τ41.1 4 := by rw [g12_τ41, w3_τ41]; omega
                        have Z1 : τ41.2.1 14 (τ41.1 22) + τ41.2.1 15 (τ41.1 22) = τ41.1 6 := by omega
                        exact ⟨hT, (show (τ41.1 20) = 0 → τ41.2.1 15 (τ41.1 22) = 1 from by (first | omega | (simp only [st_s] <;> omega) | assumption | omega | fail)), (show τ41.2.1 15 (τ41.1 22) ≤ 1 from by (first | omega | (simp only [st_s] <;> omega) | assumption | omega | fail)), (show ¬ (σ.1 20) = 0 → (τ41.1 20) = (σ.1 20) from by (first | omega | (simp only [st_s] <;> omega) | assumption | omega | fail)), (show τ41.2.1 14 (τ41.1 22) + τ41.2.1 15 (τ41.1 22) = (τ41.1 6) from Z1), (show ca (τ41.2.1 12) ((τ41.1 3)) ≤ (τ41.1 4) from Y20), ag, (show (τ41.1 20) = 0 → n_N (τ41.2.1 14 (τ41.1 22)) (τ41.2.1 14 (τ41.1 22) + τ41.2.1 15 (τ41.1 22)) (σ.1 3) (σ.2.1 8) (σ.2.1 11) (τ41.2.1 12) (τ41.2.1 16) (τ41.2.1 17) from by (first | (intro z; exfalso; omega) | (intro _; rw [show τ41.2.1 14 (τ41.1 22) = σ.1 6 from by omega, show σ.1 6 + τ41.2.1 15 (τ41.1 22) = σ.1 6 + 1 from by omega]; exact n_N_1 q39_4 q39_5 (by omega) (x3lt (by omega)) (by rw [g12_τ41, st_s]; decide)) | fail)), (show n_rl σ τ41 from by (first | exact n_rl_h hf_τ11 rfl rfl | exact n_rl_h hf_τ20 rfl rfl | exact n_rl_h hf_τ29 rfl rfl | exact n_rl_h hf_τ36 rfl rfl | exact ⟨fun s _ _ _ => by rw [g10_τ41], fun s _ _ h => by (rw [g12_τ41]; by_cases z : s = x3; (rw [z, st_s]; decide); (rw [st_n _ _ z]; exact h)), Or.inl (by omega), Or.inl (by omega), by omega, fun zt s a b => by (rw [g10_τ41]; have h3 := zt s a (by omega); omega)⟩ | fail)), (show ∀ s : Int, ¬ σ.2.1 12 s = 0 → ¬ τ41.2.1 12 s = 0 from by (first | exact fun s h => by (rw [G12]; exact h) | exact fun s h => by (rw [g12_τ41]; by_cases z : s = x3; (rw [z, st_s]; decide); (rw [st_n _ _ z]; exact h)) | (intro s h; first | (rw [hf_τ11.2.1 12 (by decide)]; exact h) | (rw [hf_τ20.2.1 12 (by decide)]; exact h) | (rw [hf_τ29.2.1 12 (by decide)]; exact h) | (rw [hf_τ36.2.1 12 (by decide)]; exact h)) | fail))⟩
                    ·
                      refine ⟨_, K_X13_failHere hT (show 0 ≤ (10 : Int) from by (first | omega | (simp only [st_s] <;> omega) | assumption | omega | fail)) (show (10 : Int) ≤ 19 from by (first | omega | (simp only [st_s] <;> omega) | assumption | omega | fail)), ?_⟩
                      intro τ36 hn_τ36 hf_τ36 hq
                      obtain ⟨hT, q34_1, q34_2⟩ := hq
                      replace q34_1 : ¬ (σ.1 20) = 0 → (τ36.1 20) = (σ.1 20) := q34_1
                      replace q34_2 : (σ.1 20) = 0 → (τ36.1 20) = (10 : Int) := q34_2
                      replace ag : m_ag σ τ36 := ag_r ag hf_τ36 rfl rfl
                      have w0_τ36 : τ36.1 0 = σ.1 0 := hf_τ36.1 0 (by decide)
                      have w3_τ36 : τ36.1 3 = σ.1 3 := hf_τ36.1 3 (by decide)
                      have w4_τ36 : τ36.1 4 = σ.1 4 := hf_τ36.1 4 (by decide)
                      have w5_τ36 : τ36.1 5 = σ.1 5 := hf_τ36.1 5 (by decide)
                      have w6_τ36 : τ36.1 6 = σ.1 6 := hf_τ36.1 6 (by decide)
                      have w7_τ36 : τ36.1 7 = σ.1 7 := hf_τ36.1 7 (by decide)
                      have w8_τ36 : τ36.1 8 = σ.1 8 := hf_τ36.1 8 (by decide)
                      have w9_τ36 : τ36.1 9 = σ.1 9 := hf_τ36.1 9 (by decide)
                      have w10_τ36 : τ36.1 10 = σ.1 10 := hf_τ36.1 10 (by decide)
                      have w11_τ36 : τ36.1 11 = σ.1 11 := hf_τ36.1 11 (by decide)
                      have w17_τ36 : τ36.1 17 = σ.1 17 := hf_τ36.1 17 (by decide)
                      have w18_τ36 : τ36.1 18 = σ.1 18 := hf_τ36.1 18 (by decide)
                      have w19_τ36 : τ36.1 19 = σ.1 19 := hf_τ36.1 19 (by decide)
                      have w22_τ36 : τ36.1 22 = σ.1 22 := hf_τ36.1 22 (by decide)
                      have g6_τ36 : τ36.2.1 6 = σ.2.1 6 := hf_τ36.2.1 6 (by decide)
                      have g8_τ36 : τ36.2.1 8 = σ.2.1 8 := hf_τ36.2.1 8 (by decide)
                      have g10_τ36 : τ36.2.1 10 = σ.2.1 10 := hf_τ36.2.1 10 (by decide)
                      have g11_τ36 : τ36.2.1 11 = σ.2.1 11 := hf_τ36.2.1 11 (by decide)
                      have g12_τ36 : τ36.2.1 12 = σ.2.1 12 := hf_τ36.2.1 12 (by decide)
                      have g14_τ36 : τ36.2.1 14 = σ.2.1 14 := hf_τ36.2.1 14 (by decide)
                      have g15_τ36 : τ36.2.1 15 = σ.2.1 15 := hf_τ36.2.1 15 (by decide)
                      have g16_τ36 : τ36.2.1 16 = σ.2.1 16 := hf_τ36.2.1 16 (by decide)
                      have g17_τ36 : τ36.2.1 17 = σ.2.1 17 := hf_τ36.2.1 17 (by decide)
                      first | (have o6_τ36 := congrArg oc g6_τ36) | skip
                      have W0 : τ36.1 0 = σ.1 0 := by first | exact w0_τ36.trans W0 | omega
                      have W3 : τ36.1 3 = σ.1 3 := by first | exact w3_τ36.trans W3 | omega
                      have W5 : τ36.1 5 = σ.1 5 := by first | exact w5_τ36.trans W5 | omega
                      have W7 : τ36.1 7 = σ.1 7 := by first | exact w7_τ36.trans W7 | omega
                      have W8 : τ36.1 8 = σ.1 8 := by first | exact w8_τ36.trans W8 | omega
                      have W9 : τ36.1 9 = σ.1 9 := by first | exact w9_τ36.trans W9 | omega
                      have W10 : τ36.1 10 = σ.1 10 := by first | exact w10_τ36.trans W10 | omega
                      have W11 : τ36.1 11 = σ.1 11 := by first | exact w11_τ36.trans W11 | omega
                      have W17 : τ36.1 17 = σ.1 17 := by first | exact w17_τ36.trans W17 | omega
                      have W18 : τ36.1 18 = σ.1 18 := by first | exact w18_τ36.trans W18 | omega
                      have W19 : τ36.1 19 = σ.1 19 := by first | exact w19_τ36.trans W19 | omega
                      have W22 : τ36.1 22 = σ.1 22 := by first | exact w22_τ36.trans W22 | omega
                      have G6 : τ36.2.1 6 = σ.2.1 6 := (g6_τ36).trans G6
                      have G8 : τ36.2.1 8 = σ.2.1 8 := (g8_τ36).trans G8
                      have G10 : τ36.2.1 10 = σ.2.1 10 := (g10_τ36).trans G10
                      have G11 : τ36.2.1 11 = σ.2.1 11 := (g11_τ36).trans G11
                      have G14 : τ36.2.1 14 = σ.2.1 14 := (g14_τ36).trans G14
                      have y14_22_τ36 : τ36.2.1 14 (τ36.1 22) = (σ.2.1 14) (σ.1 22) := by rw [g14_τ36, w22_τ36]
                      have y15_22_τ36 : τ36.2.1 15 (τ36.1 22) = (σ.2.1 15) (σ.1 22) := by rw [g15_τ36, w22_τ36]
                      have Z1 : τ36.2.1 14 (τ36.1 22) + τ36.2.1 15 (τ36.1 22) = (τ36.1 6) := by rw [show (τ36.2.1 14 (τ36.1 22) + τ36.2.1 15 (τ36.1 22) = (τ36.1 6)) = (σ.2.1 14 (σ.1 22) + σ.2.1 15 (σ.1 22) = (σ.1 6)) from by rw [w6_τ36, w22_τ36, g14_τ36, g15_τ36]]; exact Z1
                      have Y20 : ca (τ36.2.1 12) ((τ36.1 3)) ≤ (τ36.1 4) := by rw [show (ca (τ36.2.1 12) ((τ36.1 3)) ≤ (τ36.1 4)) = (ca (σ.2.1 12) ((σ.1 3)) ≤ (σ.1 4)) from by rw [w3_τ36, w4_τ36, g12_τ36]]; exact Y20
                      have Y1 : j_l2 (τ36.2.1 6) (τ36.1 3) := by rw [show (j_l2 (τ36.2.1 6) (τ36.1 3)) = (j_l2 (σ.2.1 6) (σ.1 3)) from by rw [w3_τ36, g6_τ36]]; exact Y1
                      have STt : j_l2 (τ36.2.1 6) (τ36.1 3) := by rw [show (j_l2 (τ36.2.1 6) (τ36.1 3)) = (j_l2 (σ.2.1 6) (σ.1 3)) from by rw [w3_τ36, g6_τ36]]; exact STt
                      have A6 : ∀ j, (-1) ≤ τ36.2.1 6 j ∧ τ36.2.1 6 j ≤ 999 := fun j => hT.2 6 j
                      have A8 : ∀ j, 0 ≤ τ36.2.1 8 j ∧ τ36.2.1 8 j ≤ 1 := fun j => hT.2 8 j
                      have A10 : ∀ j, (-1) ≤ τ36.2.1 10 j ∧ τ36.2.1 10 j ≤ 999 := fun j => hT.2 10 j
                      have A11 : ∀ j, (-1) ≤ τ36.2.1 11 j ∧ τ36.2.1 11 j ≤ 1499 := fun j => hT.2 11 j
                      have A12 : ∀ j, 0 ≤ τ36.2.1 12 j ∧ τ36.2.1 12 j ≤ 1 := fun j => hT.2 12 j
                      have A14 : ∀ j, 0 ≤ τ36.2.1 14 j ∧ τ36.2.1 14 j ≤ 30000 := fun j => hT.2 14 j
                      have A15 : ∀ j, 0 ≤ τ36.2.1 15 j ∧ τ36.2.1 15 j ≤ 300 := fun j => hT.2 15 j
                      have A16 : ∀ j, 0 ≤ τ36.2.1 16 j ∧ τ36.2.1 16 j ≤ 999 := fun j => hT.2 16 j
                      have A17 : ∀ j, (-1) ≤ τ36.2.1 17 j ∧ τ36.2.1 17 j ≤ 1499 := fun j => hT.2 17 j
                      have v0 : 0 ≤ τ36.1 0 ∧ τ36.1 0 ≤ 60000 := hT.1 0
                      have v3 : 0 ≤ τ36.1 3 ∧ τ36.1 3 ≤ 1000 := hT.1 3
                      have v4 : 0 ≤ τ36.1 4 ∧ τ36.1 4 ≤ 100 := hT.1 4
                      have v5 : 0 ≤ τ36.1 5 ∧ τ36.1 5 ≤ 1500 := hT.1 5
                      have v6 : 0 ≤ τ36.1 6 ∧ τ36.1 6 ≤ 30000 := hT.1 6
                      have v7 : 0 ≤ τ36.1 7 ∧ τ36.1 7 ≤ 90000 := hT.1 7
                      have v8 : 0 ≤ τ36.1 8 ∧ τ36.1 8 ≤ 20000 := hT.1 8
                      have v9 : 0 ≤ τ36.1 9 ∧ τ36.1 9 ≤ 20000 := hT.1 9
                      have v10 : (-1) ≤ τ36.1 10 ∧ τ36.1 10 ≤ 999 := hT.1 10
                      have v11 : (-1) ≤ τ36.1 11 ∧ τ36.1 11 ≤ 999 := hT.1 11
                      have v17 : 0 ≤ τ36.1 17 ∧ τ36.1 17 ≤ 60000 := hT.1 17
                      have v18 : 0 ≤ τ36.1 18 ∧ τ36.1 18 ≤ 60000 := hT.1 18
                      have v19 : (-1) ≤ τ36.1 19 ∧ τ36.1 19 ≤ 125 := hT.1 19
                      have v20 : 0 ≤ τ36.1 20 ∧ τ36.1 20 ≤ 19 := hT.1 20
                      have v22 : 0 ≤ τ36.1 22 ∧ τ36.1 22 ≤ 1499 := hT.1 22
                      have a14_22 : 0 ≤ τ36.2.1 14 (τ36.1 22) ∧ τ36.2.1 14 (τ36.1 22) ≤ 30000 := hT.2 14 _
                      have a15_22 : 0 ≤ τ36.2.1 15 (τ36.1 22) ∧ τ36.2.1 15 (τ36.1 22) ≤ 300 := hT.2 15 _
                      have av6 : σ.1 6 ≤ τ36.1 6 := ag.1 6 (by decide)
                      exact ⟨hT, (show (τ36.1 20) = 0 → τ36.2.1 15 (τ36.1 22) = 1 from by (first | omega | (simp only [st_s] <;> omega) | assumption | omega | fail)), (show τ36.2.1 15 (τ36.1 22) ≤ 1 from by (first | omega | (simp only [st_s] <;> omega) | assumption | omega | fail)), (show ¬ (σ.1 20) = 0 → (τ36.1 20) = (σ.1 20) from by (first | omega | (simp only [st_s] <;> omega) | assumption | omega | fail)), (show τ36.2.1 14 (τ36.1 22) + τ36.2.1 15 (τ36.1 22) = (τ36.1 6) from Z1), (show ca (τ36.2.1 12) ((τ36.1 3)) ≤ (τ36.1 4) from Y20), ag, (show (τ36.1 20) = 0 → n_N (τ36.2.1 14 (τ36.1 22)) (τ36.2.1 14 (τ36.1 22) + τ36.2.1 15 (τ36.1 22)) (σ.1 3) (σ.2.1 8) (σ.2.1 11) (τ36.2.1 12) (τ36.2.1 16) (τ36.2.1 17) from by (first | (intro z; exfalso; omega) | (intro _; rw [show τ41.2.1 14 (τ41.1 22) = σ.1 6 from by omega, show σ.1 6 + τ41.2.1 15 (τ41.1 22) = σ.1 6 + 1 from by omega]; exact n_N_1 q39_4 q39_5 (by omega) (x3lt (by omega)) (by rw [g12_τ41, st_s]; decide)) | fail)), (show n_rl σ τ36 from by (first | exact n_rl_h hf_τ11 rfl rfl | exact n_rl_h hf_τ20 rfl rfl | exact n_rl_h hf_τ29 rfl rfl | exact n_rl_h hf_τ36 rfl rfl | exact ⟨fun s _ _ _ => by rw [g10_τ41], fun s _ _ h => by (rw [g12_τ41]; by_cases z : s = x3; (rw [z, st_s]; decide); (rw [st_n _ _ z]; exact h)), Or.inl (by omega), Or.inl (by omega), by omega, fun zt s a b => by (rw [g10_τ41]; have h3 := zt s a (by omega); omega)⟩ | fail)), (show ∀ s : Int, ¬ σ.2.1 12 s = 0 → ¬ τ36.2.1 12 s = 0 from by (first | exact fun s h => by (rw [G12]; exact h) | exact fun s h => by (rw [g12_τ41]; by_cases z : s = x3; (rw [z, st_s]; decide); (rw [st_n _ _ z]; exact h)) | (intro s h; first | (rw [hf_τ11.2.1 12 (by decide)]; exact h) | (rw [hf_τ20.2.1 12 (by decide)]; exact h) | (rw [hf_τ29.2.1 12 (by decide)]; exact h) | (rw [hf_τ36.2.1 12 (by decide)]; exact h)) | fail))⟩
                  ·
                    intro x25 r_x25 e_x25
                    have b_x25 : 0 ≤ x25 ∧ x25 ≤ 1 := by rw [e_x25]; exact hT.2 9 _
                    refine ⟨fun c26 => ?_, fun c26 => ?_⟩
                    ·
                      refine h111 _ _ _ ?_
                      refine ⟨fun c30 => ?_, fun c30 => ?_⟩
                      ·
                        refine ⟨(show 0 ≤ x3 ∧ x3 < 1001 from by (first | omega | (simp only [st_s] <;> omega) | assumption | omega | fail)), ?_⟩
                        intro x32 r_x32 e_x32
                        have b_x32 : 0 ≤ x32 ∧ x32 ≤ 1 := by rw [e_x32]; exact hT.2 12 _
                        refine ⟨fun c33 => ?_, fun c33 => ?_⟩
                        ·
                          refine h143 _ _ _ _ ?_
                          refine ⟨(⟨by (first | omega | (simp only [st_s] <;> omega) | assumption | omega | fail), by (first | omega | (simp only [st_s] <;> omega) | assumption | omega | fail)⟩ : rg ((σ.1 4) + 1)), ?_⟩
                          replace ag := ag_v (i := 4) (x := ((σ.1 4) + 1)) ag (Or.inl rfl)
                          replace hT := mT_v (i := 4) hT (show 0 ≤ ((σ.1 4) + 1) ∧ ((σ.1 4) + 1) ≤ 100 from by (first | omega | (simp only [st_s] <;> omega) | assumption | omega | fail))
                          have ct0 := ca_t0 (σ.2.1 12) x3 ((σ.1 3)) 1 (by omega) (by omega)
                          have ct2 := ca_t2 (σ.2.1 12) (e := x3) ((σ.1 3)) 1 (by omega) (by omega)
                          refine ⟨(show 0 ≤ x3 ∧ x3 < 1001 from by (first | omega | (simp only [st_s] <;> omega) | assumption | omega | fail)), ?_⟩
                          replace ag := ag_a (k := 12) (e := x3) (x := 1) ag rfl
                          replace hT := mT_a (k := 12) (j := x3) hT (show (0 : Int) ≤ 1 ∧ 1 ≤ 1 from by (first | omega | (simp only [st_s] <;> omega) | assumption | omega | fail))
                          have y14q : σ.2.1 14 (σ.1 22) = σ.1 6 := by omega
                          refine ⟨_, K3_X13_addSymbol hT (show 0 ≤ x3 from by (first | omega | (simp only [st_s] <;> omega) | assumption | omega | fail)) (show x3 < 1000 from by (first | omega | (simp only [st_s] <;> omega) | assumption | omega | fail)) (show -1 ≤ (-1 : Int) from by (first | omega | (simp only [st_s] <;> omega) | assumption | omega | fail)) (show (-1 : Int) ≤ 1499 from by (first | omega | (simp only [st_s] <;> omega) | assumption | omega | fail)) (show (σ.1 6) < 30000 from by (first | omega | (simp only [st_s] <;> omega) | assumption | omega | fail)) (show σ.2.1 15 (σ.1 22) < 300 from by (first | omega | (simp only [st_s] <;> omega) | assumption | omega | fail)) (show (σ.1 22) = (σ.1 5) from by (first | omega | (simp only [st_s] <;> omega) | assumption | omega | fail)), ?_⟩
                          intro τ41 hn_τ41 hf_τ41 hq
                          obtain ⟨hT, q39_1, q39_2, q39_3, q39_4, q39_5⟩ := hq
                          replace q39_1 : (τ41.1 6) = (σ.1 6) + 1 := q39_1
                          replace q39_2 : τ41.2.1 15 (τ41.1 22) = σ.2.1 15 (σ.1 22) + 1 := q39_2
                          replace q39_3 : m_ag (s_a (s_v σ 4 ((σ.1 4) + 1)) 12 x3 1) τ41 := q39_3
                          replace q39_4 : τ41.2.1 16 = st (σ.2.1 16) (σ.1 6) x3 := q39_4
                          replace q39_5 : τ41.2.1 17 = st (σ.2.1 17) (σ.1 6) (-1 : Int) := q39_5
                          replace ag : m_ag σ τ41 := ag_t ag q39_3 rfl
                          have w0_τ41 : τ41.1 0 = σ.1 0 := hf_τ41.1 0 (by decide)
                          have w3_τ41 : τ41.1 3 = σ.1 3 := hf_τ41.1 3 (by decide)
                          have w4_τ41 : τ41.1 4 = ((σ.1 4) + 1) := hf_τ41.1 4 (by decide)
                          have w5_τ41 : τ41.1 5 = σ.1 5 := hf_τ41.1 5 (by decide)
                          have w7_τ41 : τ41.1 7 = σ.1 7 := hf_τ41.1 7 (by decide)
                          have w8_τ41 : τ41.1 8 = σ.1 8 := hf_τ41.1 8 (by decide)
                          have w9_τ41 : τ41.1 9 = σ.1 9 := hf_τ41.1 9 (by decide)
                          have w10_τ41 : τ41.1 10 = σ.1 10 := hf_τ41.1 10 (by decide)
                          have w11_τ41 : τ41.1 11 = σ.1 11 := hf_τ41.1 11 (by decide)
                          have w17_τ41 : τ41.1 17 = σ.1 17 := hf_τ41.1 17 (by decide)
                          have w18_τ41 : τ41.1 18 = σ.1 18 := hf_τ41.1 18 (by decide)
                          have w19_τ41 : τ41.1 19 = σ.1 19 := hf_τ41.1 19 (by decide)
                          have w20_τ41 : τ41.1 20 = σ.1 20 := hf_τ41.1 20 (by decide)
                          have w22_τ41 : τ41.1 22 = σ.1 22 := hf_τ41.1 22 (by decide)
                          have g6_τ41 : τ41.2.1 6 = σ.2.1 6 := hf_τ41.2.1 6 (by decide)
                          have g8_τ41 : τ41.2.1 8 = σ.2.1 8 := hf_τ41.2.1 8 (by decide)
                          have g10_τ41 : τ41.2.1 10 = σ.2.1 10 := hf_τ41.2.1 10 (by decide)
                          have g11_τ41 : τ41.2.1 11 = σ.2.1 11 := hf_τ41.2.1 11 (by decide)
                          have g12_τ41 : τ41.2.1 12 = (st (σ.2.1 12) x3 1) := hf_τ41.2.1 12 (by decide)
                          have g14_τ41 : τ41.2.1 14 = σ.2.1 14 := hf_τ41.2.1 14 (by decide)
                          first | (have o6_τ41 := congrArg oc g6_τ41) | skip
                          have W0 : τ41.1 0 = σ.1 0 := by first | exact w0_τ41.trans W0 | omega
                          have W3 : τ41.1 3 = σ.1 3 := by first | exact w3_τ41.trans W3 | omega
                          have W5 : τ41.1 5 = σ.1 5 := by first | exact w5_τ41.trans W5 | omega
                          have W7 : τ41.1 7 = σ.1 7 := by first | exact w7_τ41.trans W7 | omega
                          have W8 : τ41.1 8 = σ.1 8 := by first | exact w8_τ41.trans W8 | omega
                          have W9 : τ41.1 9 = σ.1 9 := by first | exact w9_τ41.trans W9 | omega
                          have W10 : τ41.1 10 = σ.1 10 := by first | exact w10_τ41.trans W10 | omega
                          have W11 : τ41.1 11 = σ.1 11 := by first | exact w11_τ41.trans W11 | omega
                          have W17 : τ41.1 17 = σ.1 17 := by first | exact w17_τ41.trans W17 | omega
                          have W18 : τ41.1 18 = σ.1 18 := by first | exact w18_τ41.trans W18 | omega
                          have W19 : τ41.1 19 = σ.1 19 := by first | exact w19_τ41.trans W19 | omega
                          have W22 : τ41.1 22 = σ.1 22 := by first | exact w22_τ41.trans W22 | omega
                          have G6 : τ41.2.1 6 = σ.2.1 6 := (g6_τ41).trans G6
                          have G8 : τ41.2.1 8 = σ.2.1 8 := (g8_τ41).trans G8
                          have G10 : τ41.2.1 10 = σ.2.1 10 := (g10_τ41).trans G10
                          have G11 : τ41.2.1 11 = σ.2.1 11 := (g11_τ41).trans G11
                          have G14 : τ41.2.1 14 = σ.2.1 14 := (g14_τ41).trans G14
                          have y14_22_τ41 : τ41.2.1 14 (τ41.1 22) = (σ.2.1 14) (σ.1 22) := by rw [g14_τ41, w22_τ41]
                          have Y1 : j_l2 (τ41.2.1 6) (τ41.1 3) := by rw [show (j_l2 (τ41.2.1 6) (τ41.1 3)) = (j_l2 (σ.2.1 6) (σ.1 3)) from by rw [w3_τ41, g6_τ41]]; exact Y1
                          have STt : j_l2 (τ41.2.1 6) (τ41.1 3) := by rw [show (j_l2 (τ41.2.1 6) (τ41.1 3)) = (j_l2 (σ.2.1 6) (σ.1 3)) from by rw [w3_τ41, g6_τ41]]; exact STt
                          have A6 : ∀ j, (-1) ≤ τ41.2.1 6 j ∧ τ41.2.1 6 j ≤ 999 := fun j => hT.2 6 j
                          have A8 : ∀ j, 0 ≤ τ41.2.1 8 j ∧ τ41.2.1 8 j ≤ 1 := fun j => hT.2 8 j
                          have A10 : ∀ j, (-1) ≤ τ41.2.1 10 j ∧ τ41.2.1 10 j ≤ 999 := fun j => hT.2 10 j
                          have A11 : ∀ j, (-1) ≤ τ41.2.1 11 j ∧ τ41.2.1 11 j ≤ 1499 := fun j => hT.2 11 j
                          have A12 : ∀ j, 0 ≤ τ41.2.1 12 j ∧ τ41.2.1 12 j ≤ 1 := fun j => hT.2 12 j
                          have A14 : ∀ j, 0 ≤ τ41.2.1 14 j ∧ τ41.2.1 14 j ≤ 30000 := fun j => hT.2 14 j
                          have A15 : ∀ j, 0 ≤ τ41.2.1 15 j ∧ τ41.2.1 15 j ≤ 300 := fun j => hT.2 15 j
                          have A16 : ∀ j, 0 ≤ τ41.2.1 16 j ∧ τ41.2.1 16 j ≤ 999 := fun j => hT.2 16 j
                          have A17 : ∀ j, (-1) ≤ τ41.2.1 17 j ∧ τ41.2.1 17 j ≤ 1499 := fun j => hT.2 17 j
                          have v0 : 0 ≤ τ41.1 0 ∧ τ41.1 0 ≤ 60000 := hT.1 0
                          have v3 : 0 ≤ τ41.1 3 ∧ τ41.1 3 ≤ 1000 := hT.1 3
                          have v4 : 0 ≤ τ41.1 4 ∧ τ41.1 4 ≤ 100 := hT.1 4
                          have v5 : 0 ≤ τ41.1 5 ∧ τ41.1 5 ≤ 1500 := hT.1 5
                          have v6 : 0 ≤ τ41.1 6 ∧ τ41.1 6 ≤ 30000 := hT.1 6
                          have v7 : 0 ≤ τ41.1 7 ∧ τ41.1 7 ≤ 90000 := hT.1 7
                          have v8 : 0 ≤ τ41.1 8 ∧ τ41.1 8 ≤ 20000 := hT.1 8
                          have v9 : 0 ≤ τ41.1 9 ∧ τ41.1 9 ≤ 20000 := hT.1 9
                          have v10 : (-1) ≤ τ41.1 10 ∧ τ41.1 10 ≤ 999 := hT.1 10
                          have v11 : (-1) ≤ τ41.1 11 ∧ τ41.1 11 ≤ 999 := hT.1 11
                          have v17 : 0 ≤ τ41.1 17 ∧ τ41.1 17 ≤ 60000 := hT.1 17
                          have v18 : 0 ≤ τ41.1 18 ∧ τ41.1 18 ≤ 60000 := hT.1 18
                          have v19 : (-1) ≤ τ41.1 19 ∧ τ41.1 19 ≤ 125 := hT.1 19
                          have v20 : 0 ≤ τ41.1 20 ∧ τ41.1 20 ≤ 19 := hT.1 20
                          have v22 : 0 ≤ τ41.1 22 ∧ τ41.1 22 ≤ 1499 := hT.1 22
                          have a14_22 : 0 ≤ τ41.2.1 14 (τ41.1 22) ∧ τ41.2.1 14 (τ41.1 22) ≤ 30000 := hT.2 14 _
                          have a15_22 : 0 ≤ τ41.2.1 15 (τ41.1 22) ∧ τ41.2.1 15 (τ41.1 22) ≤ 300 := hT.2 15 _
                          have av6 : σ.1 6 ≤ τ41.1 6 := ag.1 6 (by decide)
                          have Y20 : ca (τ41.2.1 12) (τ41.1 3) ≤ τ41.1 4 := by rw [g12_τ41, w3_τ41]; omega
                          have Z1 : τ41.2.1 14 (τ41.1 22) + τ41.2.1 15 (τ41.1 22) = τ41.1 6 := by omega
                          exact ⟨hT, (show (τ41.1 20) = 0 → τ41.2.1 15 (τ41.1 22) = 1 from by (first | omega | (simp only [st_s] <;> omega) | assumption | omega | fail)), (show τ41.2.1 15 (τ41.1 22) ≤ 1 from by (first | omega | (simp only [st_s] <;> omega) | assumption | omega | fail)), (show ¬ (σ.1 20) = 0 → (τ41.1 20) = (σ.1 20) from by (first | omega | (simp only [st_s] <;> omega) | assumption | omega | fail)), (show τ41.2.1 14 (τ41.1 22) + τ41.2.1 15 (τ41.1 22) = (τ41.1 6) from Z1), (show ca (τ41.2.1 12) ((τ41.1 3)) ≤ (τ41.1 4) from Y20), ag, (show (τ41.1 20) = 0 → n_N (τ41.2.1 14 (τ41.1 22)) (τ41.2.1 14 (τ41.1 22) + τ41.2.1 15 (τ41.1 22)) (σ.1 3) (σ.2.1 8) (σ.2.1 11) (τ41.2.1 12) (τ41.2.1 16) (τ41.2.1 17) from by (first | (intro z; exfalso; omega) | (intro _; rw [show τ41.2.1 14 (τ41.1 22) = σ.1 6 from by omega, show σ.1 6 + τ41.2.1 15 (τ41.1 22) = σ.1 6 + 1 from by omega]; exact n_N_1 q39_4 q39_5 (by omega) (x3lt (by omega)) (by rw [g12_τ41, st_s]; decide)) | fail)), (show n_rl σ τ41 from by (first | exact n_rl_h hf_τ11 rfl rfl | exact n_rl_h hf_τ20 rfl rfl | exact n_rl_h hf_τ29 rfl rfl | exact n_rl_h hf_τ36 rfl rfl | exact ⟨fun s _ _ _ => by rw [g10_τ41], fun s _ _ h => by (rw [g12_τ41]; by_cases z : s = x3; (rw [z, st_s]; decide); (rw [st_n _ _ z]; exact h)), Or.inl (by omega), Or.inl (by omega), by omega, fun zt s a b => by (rw [g10_τ41]; have h3 := zt s a (by omega); omega)⟩ | fail)), (show ∀ s : Int, ¬ σ.2.1 12 s = 0 → ¬ τ41.2.1 12 s = 0 from by (first | exact fun s h => by (rw [G12]; exact h) | exact fun s h => by (rw [g12_τ41]; by_cases z : s = x3; (rw [z, st_s]; decide); (rw [st_n _ _ z]; exact h)) | (intro s h; first | (rw [hf_τ11.2.1 12 (by decide)]; exact h) | (rw [hf_τ20.2.1 12 (by decide)]; exact h) | (rw [hf_τ29.2.1 12 (by decide)]; exact h) | (rw [hf_τ36.2.1 12 (by decide)]; exact h)) | fail))⟩
                        ·
                          refine h143 _ _ _ _ ?_
                          refine ⟨(⟨by (first | omega | (simp only [st_s] <;> omega) | assumption | omega | fail), by (first | omega | (simp only [st_s] <;> omega) | assumption | omega | fail)⟩ : rg ((σ.1 4) + 0)), ?_⟩
                          replace ag := ag_v (i := 4) (x := ((σ.1 4) + 0)) ag (Or.inl rfl)
                          replace hT := mT_v (i := 4) hT (show 0 ≤ ((σ.1 4) + 0) ∧ ((σ.1 4) + 0) ≤ 100 from by (first | omega | (simp only [st_s] <;> omega) | assumption | omega | fail))
                          have ct0 := ca_t0 (σ.2.1 12) x3 ((σ.1 3)) 1 (by omega) (by omega)
                          have ct2 := ca_t2 (σ.2.1 12) (e := x3) ((σ.1 3)) 1 (by omega) (by omega)
                          refine ⟨(show 0 ≤ x3 ∧ x3 < 1001 from by (first | omega | (simp only [st_s] <;> omega) | assumption | omega | fail)), ?_⟩
                          replace ag := ag_a (k := 12) (e := x3) (x := 1) ag rfl
                          replace hT := mT_a (k := 12) (j := x3) hT (show (0 : Int) ≤ 1 ∧ 1 ≤ 1 from by (first | omega | (simp only [st_s] <;> omega) | assumption | omega | fail))
                          have y14q : σ.2.1 14 (σ.1 22) = σ.1 6 := by omega
                          refine ⟨_, K3_X13_addSymbol hT (show 0 ≤ x3 from by (first | omega | (simp only [st_s] <;> omega) | assumption | omega | fail)) (show x3 < 1000 from by (first | omega | (simp only [st_s] <;> omega) | assumption | omega | fail)) (show -1 ≤ (-1 : Int) from by (first | omega | (simp only [st_s] <;> omega) | assumption | omega | fail)) (show (-1 : Int) ≤ 1499 from by (first | omega | (simp only [st_s] <;> omega) | assumption | omega | fail)) (show (σ.1 6) < 30000 from by (first | omega | (simp only [st_s] <;> omega) | assumption | omega | fail)) (show σ.2.1 15 (σ.1 22) < 300 from by (first | omega | (simp only [st_s] <;> omega) | assumption | omega | fail)) (show (σ.1 22) = (σ.1 5) from by (first | omega | (simp only [st_s] <;> omega) | assumption | omega | fail)), ?_⟩
                          intro τ41 hn_τ41 hf_τ41 hq
                          obtain ⟨hT, q39_1, q39_2, q39_3, q39_4, q39_5⟩ := hq
                          replace q39_1 : (τ41.1 6) = (σ.1 6) + 1 := q39_1
                          replace q39_2 : τ41.2.1 15 (τ41.1 22) = σ.2.1 15 (σ.1 22) + 1 := q39_2
                          replace q39_3 : m_ag (s_a (s_v σ 4 ((σ.1 4) + 0)) 12 x3 1) τ41 := q39_3
                          replace q39_4 : τ41.2.1 16 = st (σ.2.1 16) (σ.1 6) x3 := q39_4
                          replace q39_5 : τ41.2.1 17 = st (σ.2.1 17) (σ.1 6) (-1 : Int) := q39_5
                          replace ag : m_ag σ τ41 := ag_t ag q39_3 rfl
                          have w0_τ41 : τ41.1 0 = σ.1 0 := hf_τ41.1 0 (by decide)
                          have w3_τ41 : τ41.1 3 = σ.1 3 := hf_τ41.1 3 (by decide)
                          have w4_τ41 : τ41.1 4 = ((σ.1 4) + 0) := hf_τ41.1 4 (by decide)
                          have w5_τ41 : τ41.1 5 = σ.1 5 := hf_τ41.1 5 (by decide)
                          have w7_τ41 : τ41.1 7 = σ.1 7 := hf_τ41.1 7 (by decide)
                          have w8_τ41 : τ41.1 8 = σ.1 8 := hf_τ41.1 8 (by decide)
                          have w9_τ41 : τ41.1 9 = σ.1 9 := hf_τ41.1 9 (by decide)
                          have w10_τ41 : τ41.1 10 = σ.1 10 := hf_τ41.1 10 (by decide)
                          have w11_τ41 : τ41.1 11 = σ.1 11 := hf_τ41.1 11 (by decide)
                          have w17_τ41 : τ41.1 17 = σ.1 17 := hf_τ41.1 17 (by decide)
                          have w18_τ41 : τ41.1 18 = σ.1 18 := hf_τ41.1 18 (by decide)
                          have w19_τ41 : τ41.1 19 = σ.1 19 := hf_τ41.1 19 (by decide)
                          have w20_τ41 : τ41.1 20 = σ.1 20 := hf_τ41.1 20 (by decide)
                          have w22_τ41 : τ41.1 22 = σ.1 22 := hf_τ41.1 22 (by decide)
                          have g6_τ41 : τ41.2.1 6 = σ.2.1 6 := hf_τ41.2.1 6 (by decide)
                          have g8_τ41 : τ41.2.1 8 = σ.2.1 8 := hf_τ41.2.1 8 (by decide)
                          have g10_τ41 : τ41.2.1 10 = σ.2.1 10 := hf_τ41.2.1 10 (by decide)
                          have g11_τ41 : τ41.2.1 11 = σ.2.1 11 := hf_τ41.2.1 11 (by decide)
                          have g12_τ41 : τ41.2.1 12 = (st (σ.2.1 12) x3 1) := hf_τ41.2.1 12 (by decide)
                          have g14_τ41 : τ41.2.1 14 = σ.2.1 14 := hf_τ41.2.1 14 (by decide)
                          first | (have o6_τ41 := congrArg oc g6_τ41) | skip
                          have W0 : τ41.1 0 = σ.1 0 := by first | exact w0_τ41.trans W0 | omega
                          have W3 : τ41.1 3 = σ.1 3 := by first | exact w3_τ41.trans W3 | omega
                          have W5 : τ41.1 5 = σ.1 5 := by first | exact w5_τ41.trans W5 | omega
                          have W7 : τ41.1 7 = σ.1 7 := by first | exact w7_τ41.trans W7 | omega
                          have W8 : τ41.1 8 = σ.1 8 := by first | exact w8_τ41.trans W8 | omega
                          have W9 : τ41.1 9 = σ.1 9 := by first | exact w9_τ41.trans W9 | omega
                          have W10 : τ41.1 10 = σ.1 10 := by first | exact w10_τ41.trans W10 | omega
                          have W11 : τ41.1 11 = σ.1 11 := by first | exact w11_τ41.trans W11 | omega
                          have W17 : τ41.1 17 = σ.1 17 := by first | exact w17_τ41.trans W17 | omega
                          have W18 : τ41.1 18 = σ.1 18 := by first | exact w18_τ41.trans W18 | omega
                          have W19 : τ41.1 19 = σ.1 19 := by first | exact w19_τ41.trans W19 | omega
                          have W22 : τ41.1 22 = σ.1 22 := by first | exact w22_τ41.trans W22 | omega
                          have G6 : τ41.2.1 6 = σ.2.1 6 := (g6_τ41).trans G6
                          have G8 : τ41.2.1 8 = σ.2.1 8 := (g8_τ41).trans G8
                          have G10 : τ41.2.1 10 = σ.2.1 10 := (g10_τ41).trans G10
                          have G11 : τ41.2.1 11 = σ.2.1 11 := (g11_τ41).trans G11
                          have G14 : τ41.2.1 14 = σ.2.1 14 := (g14_τ41).trans G14
                          have y14_22_τ41 : τ41.2.1 14 (τ41.1 22) = (σ.2.1 14) (σ.1 22) := by rw [g14_τ41, w22_τ41]
                          have Y1 : j_l2 (τ41.2.1 6) (τ41.1 3) := by rw [show (j_l2 (τ41.2.1 6) (τ41.1 3)) = (j_l2 (σ.2.1 6) (σ.1 3)) from by rw [w3_τ41, g6_τ41]]; exact Y1
                          have STt : j_l2 (τ41.2.1 6) (τ41.1 3) := by rw [show (j_l2 (τ41.2.1 6) (τ41.1 3)) = (j_l2 (σ.2.1 6) (σ.1 3)) from by rw [w3_τ41, g6_τ41]]; exact STt
                          have A6 : ∀ j, (-1) ≤ τ41.2.1 6 j ∧ τ41.2.1 6 j ≤ 999 := fun j => hT.2 6 j
                          have A8 : ∀ j, 0 ≤ τ41.2.1 8 j ∧ τ41.2.1 8 j ≤ 1 := fun j => hT.2 8 j
                          have A10 : ∀ j, (-1) ≤ τ41.2.1 10 j ∧ τ41.2.1 10 j ≤ 999 := fun j => hT.2 10 j
                          have A11 : ∀ j, (-1) ≤ τ41.2.1 11 j ∧ τ41.2.1 11 j ≤ 1499 := fun j => hT.2 11 j
                          have A12 : ∀ j, 0 ≤ τ41.2.1 12 j ∧ τ41.2.1 12 j ≤ 1 := fun j => hT.2 12 j
                          have A14 : ∀ j, 0 ≤ τ41.2.1 14 j ∧ τ41.2.1 14 j ≤ 30000 := fun j => hT.2 14 j
                          have A15 : ∀ j, 0 ≤ τ41.2.1 15 j ∧ τ41.2.1 15 j ≤ 300 := fun j => hT.2 15 j
                          have A16 : ∀ j, 0 ≤ τ41.2.1 16 j ∧ τ41.2.1 16 j ≤ 999 := fun j => hT.2 16 j
                          have A17 : ∀ j, (-1) ≤ τ41.2.1 17 j ∧ τ41.2.1 17 j ≤ 1499 := fun j => hT.2 17 j
                          have v0 : 0 ≤ τ41.1 0 ∧ τ41.1 0 ≤ 60000 := hT.1 0
                          have v3 : 0 ≤ τ41.1 3 ∧ τ41.1 3 ≤ 1000 := hT.1 3
                          have v4 : 0 ≤ τ41.1 4 ∧ τ41.1 4 ≤ 100 := hT.1 4
                          have v5 : 0 ≤ τ41.1 5 ∧ τ41.1 5 ≤ 1500 := hT.1 5
                          have v6 : 0 ≤ τ41.1 6 ∧ τ41.1 6 ≤ 30000 := hT.1 6
                          have v7 : 0 ≤ τ41.1 7 ∧ τ41.1 7 ≤ 90000 := hT.1 7
                          have v8 : 0 ≤ τ41.1 8 ∧ τ41.1 8 ≤ 20000 := hT.1 8
                          have v9 : 0 ≤ τ41.1 9 ∧ τ41.1 9 ≤ 20000 := hT.1 9
                          have v10 : (-1) ≤ τ41.1 10 ∧ τ41.1 10 ≤ 999 := hT.1 10
                          have v11 : (-1) ≤ τ41.1 11 ∧ τ41.1 11 ≤ 999 := hT.1 11
                          have v17 : 0 ≤ τ41.1 17 ∧ τ41.1 17 ≤ 60000 := hT.1 17
                          have v18 : 0 ≤ τ41.1 18 ∧ τ41.1 18 ≤ 60000 := hT.1 18
                          have v19 : (-1) ≤ τ41.1 19 ∧ τ41.1 19 ≤ 125 := hT.1 19
                          have v20 : 0 ≤ τ41.1 20 ∧ τ41.1 20 ≤ 19 := hT.1 20
                          have v22 : 0 ≤ τ41.1 22 ∧ τ41.1 22 ≤ 1499 := hT.1 22
                          have a14_22 : 0 ≤ τ41.2.1 14 (τ41.1 22) ∧ τ41.2.1 14 (τ41.1 22) ≤ 30000 := hT.2 14 _
                          have a15_22 : 0 ≤ τ41.2.1 15 (τ41.1 22) ∧ τ41.2.1 15 (τ41.1 22) ≤ 300 := hT.2 15 _
                          have av6 : σ.1 6 ≤ τ41.1 6 := ag.1 6 (by decide)
                          have Y20 : ca (τ41.2.1 12) (τ41.1 3) ≤ τ41.1 4 := by rw [g12_τ41, w3_τ41]; omega
                          have Z1 : τ41.2.1 14 (τ41.1 22) + τ41.2.1 15 (τ41.1 22) = τ41.1 6 := by omega
                          exact ⟨hT, (show (τ41.1 20) = 0 → τ41.2.1 15 (τ41.1 22) = 1 from by (first | omega | (simp only [st_s] <;> omega) | assumption | omega | fail)), (show τ41.2.1 15 (τ41.1 22) ≤ 1 from by (first | omega | (simp only [st_s] <;> omega) | assumption | omega | fail)), (show ¬ (σ.1 20) = 0 → (τ41.1 20) = (σ.1 20) from by (first | omega | (simp only [st_s] <;> omega) | assumption | omega | fail)), (show τ41.2.1 14 (τ41.1 22) + τ41.2.1 15 (τ41.1 22) = (τ41.1 6) from Z1), (show ca (τ41.2.1 12) ((τ41.1 3)) ≤ (τ41.1 4) from Y20), ag, (show (τ41.1 20) = 0 → n_N (τ41.2.1 14 (τ41.1 22)) (τ41.2.1 14 (τ41.1 22) + τ41.2.1 15 (τ41.1 22)) (σ.1 3) (σ.2.1 8) (σ.2.1 11) (τ41.2.1 12) (τ41.2.1 16) (τ41.2.1 17) from by (first | (intro z; exfalso; omega) | (intro _; rw [show τ41.2.1 14 (τ41.1 22) = σ.1 6 from by omega, show σ.1 6 + τ41.2.1 15 (τ41.1 22) = σ.1 6 + 1 from by omega]; exact n_N_1 q39_4 q39_5 (by omega) (x3lt (by omega)) (by rw [g12_τ41, st_s]; decide)) | fail)), (show n_rl σ τ41 from by (first | exact n_rl_h hf_τ11 rfl rfl | exact n_rl_h hf_τ20 rfl rfl | exact n_rl_h hf_τ29 rfl rfl | exact n_rl_h hf_τ36 rfl rfl | exact ⟨fun s _ _ _ => by rw [g10_τ41], fun s _ _ h => by (rw [g12_τ41]; by_cases z : s = x3; (rw [z, st_s]; decide); (rw [st_n _ _ z]; exact h)), Or.inl (by omega), Or.inl (by omega), by omega, fun zt s a b => by (rw [g10_τ41]; have h3 := zt s a (by omega); omega)⟩ | fail)), (show ∀ s : Int, ¬ σ.2.1 12 s = 0 → ¬ τ41.2.1 12 s = 0 from by (first | exact fun s h => by (rw [G12]; exact h) | exact fun s h => by (rw [g12_τ41]; by_cases z : s = x3; (rw [z, st_s]; decide); (rw [st_n _ _ z]; exact h)) | (intro s h; first | (rw [hf_τ11.2.1 12 (by decide)]; exact h) | (rw [hf_τ20.2.1 12 (by decide)]; exact h) | (rw [hf_τ29.2.1 12 (by decide)]; exact h) | (rw [hf_τ36.2.1 12 (by decide)]; exact h)) | fail))⟩
                      ·
                        refine ⟨_, K_X13_failHere hT (show 0 ≤ (10 : Int) from by (first | omega | (simp only [st_s] <;> omega) | assumption | omega | fail)) (show (10 : Int) ≤ 19 from by (first | omega | (simp only [st_s] <;> omega) | assumption | omega | fail)), ?_⟩
                        intro τ36 hn_τ36 hf_τ36 hq
                        obtain ⟨hT, q34_1, q34_2⟩ := hq
                        replace q34_1 : ¬ (σ.1 20) = 0 → (τ36.1 20) = (σ.1 20) := q34_1
                        replace q34_2 : (σ.1 20) = 0 → (τ36.1 20) = (10 : Int) := q34_2
                        replace ag : m_ag σ τ36 := ag_r ag hf_τ36 rfl rfl
                        have w0_τ36 : τ36.1 0 = σ.1 0 := hf_τ36.1 0 (by decide)
                        have w3_τ36 : τ36.1 3 = σ.1 3 := hf_τ36.1 3 (by decide)
                        have w4_τ36 : τ36.1 4 = σ.1 4 := hf_τ36.1 4 (by decide)
                        have w5_τ36 : τ36.1 5 = σ.1 5 := hf_τ36.1 5 (by decide)
                        have w6_τ36 : τ36.1 6 = σ.1 6 := hf_τ36.1 6 (by decide)
                        have w7_τ36 : τ36.1 7 = σ.1 7 := hf_τ36.1 7 (by decide)
                        have w8_τ36 : τ36.1 8 = σ.1 8 := hf_τ36.1 8 (by decide)
                        have w9_τ36 : τ36.1 9 = σ.1 9 := hf_τ36.1 9 (by decide)
                        have w10_τ36 : τ36.1 10 = σ.1 10 := hf_τ36.1 10 (by decide)
                        have w11_τ36 : τ36.1 11 = σ.1 11 := hf_τ36.1 11 (by decide)
                        have w17_τ36 : τ36.1 17 = σ.1 17 := hf_τ36.1 17 (by decide)
                        have w18_τ36 : τ36.1 18 = σ.1 18 := hf_τ36.1 18 (by decide)
                        have w19_τ36 : τ36.1 19 = σ.1 19 := hf_τ36.1 19 (by decide)
                        have w22_τ36 : τ36.1 22 = σ.1 22 := hf_τ36.1 22 (by decide)
                        have g6_τ36 : τ36.2.1 6 = σ.2.1 6 := hf_τ36.2.1 6 (by decide)
                        have g8_τ36 : τ36.2.1 8 = σ.2.1 8 := hf_τ36.2.1 8 (by decide)
                        have g10_τ36 : τ36.2.1 10 = σ.2.1 10 := hf_τ36.2.1 10 (by decide)
                        have g11_τ36 : τ36.2.1 11 = σ.2.1 11 := hf_τ36.2.1 11 (by decide)
                        have g12_τ36 : τ36.2.1 12 = σ.2.1 12 := hf_τ36.2.1 12 (by decide)
                        have g14_τ36 : τ36.2.1 14 = σ.2.1 14 := hf_τ36.2.1 14 (by decide)
                        have g15_τ36 : τ36.2.1 15 = σ.2.1 15 := hf_τ36.2.1 15 (by decide)
                        have g16_τ36 : τ36.2.1 16 = σ.2.1 16 := hf_τ36.2.1 16 (by decide)
                        have g17_τ36 : τ36.2.1 17 = σ.2.1 17 := hf_τ36.2.1 17 (by decide)
                        first | (have o6_τ36 := congrArg oc g6_τ36) | skip
                        have W0 : τ36.1 0 = σ.1 0 := by first | exact w0_τ36.trans W0 | omega
                        have W3 : τ36.1 3 = σ.1 3 := by first | exact w3_τ36.trans W3 | omega
                        have W5 : τ36.1 5 = σ.1 5 := by first | exact w5_τ36.trans W5 | omega
                        have W7 : τ36.1 7 = σ.1 7 := by first | exact w7_τ36.trans W7 | omega
                        have W8 : τ36.1 8 = σ.1 8 := by first | exact w8_τ36.trans W8 | omega
                        have W9 : τ36.1 9 = σ.1 9 := by first | exact w9_τ36.trans W9 | omega
                        have W10 : τ36.1 10 = σ.1 10 := by first | exact w10_τ36.trans W10 | omega
                        have W11 : τ36.1 11 = σ.1 11 := by first | exact w11_τ36.trans W11 | omega
                        have W17 : τ36.1 17 = σ.1 17 := by first | exact w17_τ36.trans W17 | omega
                        have W18 : τ36.1 18 = σ.1 18 := by first | exact w18_τ36.trans W18 | omega
                        have W19 : τ36.1 19 = σ.1 19 := by first | exact w19_τ36.trans W19 | omega
                        have W22 : τ36.1 22 = σ.1 22 := by first | exact w22_τ36.trans W22 | omega
                        have G6 : τ36.2.1 6 = σ.2.1 6 := (g6_τ36).trans G6
                        have G8 : τ36.2.1 8 = σ.2.1 8 := (g8_τ36).trans G8
                        have G10 : τ36.2.1 10 = σ.2.1 10 := (g10_τ36).trans G10
                        have G11 : τ36.2.1 11 = σ.2.1 11 := (g11_τ36).trans G11
                        have G14 : τ36.2.1 14 = σ.2.1 14 := (g14_τ36).trans G14
                        have y14_22_τ36 : τ36.2.1 14 (τ36.1 22) = (σ.2.1 14) (σ.1 22) := by rw [g14_τ36, w22_τ36]
                        have y15_22_τ36 : τ36.2.1 15 (τ36.1 22) = (σ.2.1 15) (σ.1 22) := by rw [g15_τ36, w22_τ36]
                        have Z1 : τ36.2.1 14 (τ36.1 22) + τ36.2.1 15 (τ36.1 22) = (τ36.1 6) := by rw [show (τ36.2.1 14 (τ36.1 22) + τ36.2.1 15 (τ36.1 22) = (τ36.1 6)) = (σ.2.1 14 (σ.1 22) + σ.2.1 15 (σ.1 22) = (σ.1 6)) from by rw [w6_τ36, w22_τ36, g14_τ36, g15_τ36]]; exact Z1
                        have Y20 : ca (τ36.2.1 12) ((τ36.1 3)) ≤ (τ36.1 4) := by rw [show (ca (τ36.2.1 12) ((τ36.1 3)) ≤ (τ36.1 4)) = (ca (σ.2.1 12) ((σ.1 3)) ≤ (σ.1 4)) from by rw [w3_τ36, w4_τ36, g12_τ36]]; exact Y20
                        have Y1 : j_l2 (τ36.2.1 6) (τ36.1 3) := by rw [show (j_l2 (τ36.2.1 6) (τ36.1 3)) = (j_l2 (σ.2.1 6) (σ.1 3)) from by rw [w3_τ36, g6_τ36]]; exact Y1
                        have STt : j_l2 (τ36.2.1 6) (τ36.1 3) := by rw [show (j_l2 (τ36.2.1 6) (τ36.1 3)) = (j_l2 (σ.2.1 6) (σ.1 3)) from by rw [w3_τ36, g6_τ36]]; exact STt
                        have A6 : ∀ j, (-1) ≤ τ36.2.1 6 j ∧ τ36.2.1 6 j ≤ 999 := fun j => hT.2 6 j
                        have A8 : ∀ j, 0 ≤ τ36.2.1 8 j ∧ τ36.2.1 8 j ≤ 1 := fun j => hT.2 8 j
                        have A10 : ∀ j, (-1) ≤ τ36.2.1 10 j ∧ τ36.2.1 10 j ≤ 999 := fun j => hT.2 10 j
                        have A11 : ∀ j, (-1) ≤ τ36.2.1 11 j ∧ τ36.2.1 11 j ≤ 1499 := fun j => hT.2 11 j
                        have A12 : ∀ j, 0 ≤ τ36.2.1 12 j ∧ τ36.2.1 12 j ≤ 1 := fun j => hT.2 12 j
                        have A14 : ∀ j, 0 ≤ τ36.2.1 14 j ∧ τ36.2.1 14 j ≤ 30000 := fun j => hT.2 14 j
                        have A15 : ∀ j, 0 ≤ τ36.2.1 15 j ∧ τ36.2.1 15 j ≤ 300 := fun j => hT.2 15 j
                        have A16 : ∀ j, 0 ≤ τ36.2.1 16 j ∧ τ36.2.1 16 j ≤ 999 := fun j => hT.2 16 j
                        have A17 : ∀ j, (-1) ≤ τ36.2.1 17 j ∧ τ36.2.1 17 j ≤ 1499 := fun j => hT.2 17 j
                        have v0 : 0 ≤ τ36.1 0 ∧ τ36.1 0 ≤ 60000 := hT.1 0
                        have v3 : 0 ≤ τ36.1 3 ∧ τ36.1 3 ≤ 1000 := hT.1 3
                        have v4 : 0 ≤ τ36.1 4 ∧ τ36.1 4 ≤ 100 := hT.1 4
                        have v5 : 0 ≤ τ36.1 5 ∧ τ36.1 5 ≤ 1500 := hT.1 5
                        have v6 : 0 ≤ τ36.1 6 ∧ τ36.1 6 ≤ 30000 := hT.1 6
                        have v7 : 0 ≤ τ36.1 7 ∧ τ36.1 7 ≤ 90000 := hT.1 7
                        have v8 : 0 ≤ τ36.1 8 ∧ τ36.1 8 ≤ 20000 := hT.1 8
                        have v9 : 0 ≤ τ36.1 9 ∧ τ36.1 9 ≤ 20000 := hT.1 9
                        have v10 : (-1) ≤ τ36.1 10 ∧ τ36.1 10 ≤ 999 := hT.1 10
                        have v11 : (-1) ≤ τ36.1 11 ∧ τ36.1 11 ≤ 999 := hT.1 11
                        have v17 : 0 ≤ τ36.1 17 ∧ τ36.1 17 ≤ 60000 := hT.1 17
                        have v18 : 0 ≤ τ36.1 18 ∧ τ36.1 18 ≤ 60000 := hT.1 18
                        have v19 : (-1) ≤ τ36.1 19 ∧ τ36.1 19 ≤ 125 := hT.1 19
                        have v20 : 0 ≤ τ36.1 20 ∧ τ36.1 20 ≤ 19 := hT.1 20
                        have v22 : 0 ≤ τ36.1 22 ∧ τ36.1 22 ≤ 1499 := hT.1 22
                        have a14_22 : 0 ≤ τ36.2.1 14 (τ36.1 22) ∧ τ36.2.1 14 (τ36.1 22) ≤ 30000 := hT.2 14 _
                        have a15_22 : 0 ≤ τ36.2.1 15 (τ36.1 22) ∧ τ36.2.1 15 (τ36.1 22) ≤ 300 := hT.2 15 _
                        have av6 : σ.1 6 ≤ τ36.1 6 := ag.1 6 (by decide)
                        exact ⟨hT, (show (τ36.1 20) = 0 → τ36.2.1 15 (τ36.1 22) = 1 from by (first | omega | (simp only [st_s] <;> omega) | assumption | omega | fail)), (show τ36.2.1 15 (τ36.1 22) ≤ 1 from by (first | omega | (simp only [st_s] <;> omega) | assumption | omega | fail)), (show ¬ (σ.1 20) = 0 → (τ36.1 20) = (σ.1 20) from by (first | omega | (simp only [st_s] <;> omega) | assumption | omega | fail)), (show τ36.2.1 14 (τ36.1 22) + τ36.2.1 15 (τ36.1 22) = (τ36.1 6) from Z1), (show ca (τ36.2.1 12) ((τ36.1 3)) ≤ (τ36.1 4) from Y20), ag, (show (τ36.1 20) = 0 → n_N (τ36.2.1 14 (τ36.1 22)) (τ36.2.1 14 (τ36.1 22) + τ36.2.1 15 (τ36.1 22)) (σ.1 3) (σ.2.1 8) (σ.2.1 11) (τ36.2.1 12) (τ36.2.1 16) (τ36.2.1 17) from by (first | (intro z; exfalso; omega) | (intro _; rw [show τ41.2.1 14 (τ41.1 22) = σ.1 6 from by omega, show σ.1 6 + τ41.2.1 15 (τ41.1 22) = σ.1 6 + 1 from by omega]; exact n_N_1 q39_4 q39_5 (by omega) (x3lt (by omega)) (by rw [g12_τ41, st_s]; decide)) | fail)), (show n_rl σ τ36 from by (first | exact n_rl_h hf_τ11 rfl rfl | exact n_rl_h hf_τ20 rfl rfl | exact n_rl_h hf_τ29 rfl rfl | exact n_rl_h hf_τ36 rfl rfl | exact ⟨fun s _ _ _ => by rw [g10_τ41], fun s _ _ h => by (rw [g12_τ41]; by_cases z : s = x3; (rw [z, st_s]; decide); (rw [st_n _ _ z]; exact h)), Or.inl (by omega), Or.inl (by omega), by omega, fun zt s a b => by (rw [g10_τ41]; have h3 := zt s a (by omega); omega)⟩ | fail)), (show ∀ s : Int, ¬ σ.2.1 12 s = 0 → ¬ τ36.2.1 12 s = 0 from by (first | exact fun s h => by (rw [G12]; exact h) | exact fun s h => by (rw [g12_τ41]; by_cases z : s = x3; (rw [z, st_s]; decide); (rw [st_n _ _ z]; exact h)) | (intro s h; first | (rw [hf_τ11.2.1 12 (by decide)]; exact h) | (rw [hf_τ20.2.1 12 (by decide)]; exact h) | (rw [hf_τ29.2.1 12 (by decide)]; exact h) | (rw [hf_τ36.2.1 12 (by decide)]; exact h)) | fail))⟩
                    ·
                      refine h102 _ ?_
                      refine ⟨_, K_X13_failHere hT (show 0 ≤ (9 : Int) from by (first | omega | (simp only [st_s] <;> omega) | assumption | omega | fail)) (show (9 : Int) ≤ 19 from by (first | omega | (simp only [st_s] <;> omega) | assumption | omega | fail)), ?_⟩
                      intro τ29 hn_τ29 hf_τ29 hq
                      obtain ⟨hT, q27_1, q27_2⟩ := hq
                      replace q27_1 : ¬ (σ.1 20) = 0 → (τ29.1 20) = (σ.1 20) := q27_1
                      replace q27_2 : (σ.1 20) = 0 → (τ29.1 20) = (9 : Int) := q27_2
                      replace ag : m_ag σ τ29 := ag_r ag hf_τ29 rfl rfl
                      have w0_τ29 : τ29.1 0 = σ.1 0 := hf_τ29.1 0 (by decide)
                      have w3_τ29 : τ29.1 3 = σ.1 3 := hf_τ29.1 3 (by decide)
                      have w4_τ29 : τ29.1 4 = σ.1 4 := hf_τ29.1 4 (by decide)
                      have w5_τ29 : τ29.1 5 = σ.1 5 := hf_τ29.1 5 (by decide)
                      have w6_τ29 : τ29.1 6 = σ.1 6 := hf_τ29.1 6 (by decide)
                      have w7_τ29 : τ29.1 7 = σ.1 7 := hf_τ29.1 7 (by decide)
                      have w8_τ29 : τ29.1 8 = σ.1 8 := hf_τ29.1 8 (by decide)
                      have w9_τ29 : τ29.1 9 = σ.1 9 := hf_τ29.1 9 (by decide)
                      have w10_τ29 : τ29.1 10 = σ.1 10 := hf_τ29.1 10 (by decide)
                      have w11_τ29 : τ29.1 11 = σ.1 11 := hf_τ29.1 11 (by decide)
                      have w17_τ29 : τ29.1 17 = σ.1 17 := hf_τ29.1 17 (by decide)
                      have w18_τ29 : τ29.1 18 = σ.1 18 := hf_τ29.1 18 (by decide)
                      have w19_τ29 : τ29.1 19 = σ.1 19 := hf_τ29.1 19 (by decide)
                      have w22_τ29 : τ29.1 22 = σ.1 22 := hf_τ29.1 22 (by decide)
                      have g6_τ29 : τ29.2.1 6 = σ.2.1 6 := hf_τ29.2.1 6 (by decide)
                      have g8_τ29 : τ29.2.1 8 = σ.2.1 8 := hf_τ29.2.1 8 (by decide)
                      have g10_τ29 : τ29.2.1 10 = σ.2.1 10 := hf_τ29.2.1 10 (by decide)
                      have g11_τ29 : τ29.2.1 11 = σ.2.1 11 := hf_τ29.2.1 11 (by decide)
                      have g12_τ29 : τ29.2.1 12 = σ.2.1 12 := hf_τ29.2.1 12 (by decide)
                      have g14_τ29 : τ29.2.1 14 = σ.2.1 14 := hf_τ29.2.1 14 (by decide)
                      have g15_τ29 : τ29.2.1 15 = σ.2.1 15 := hf_τ29.2.1 15 (by decide)
                      have g16_τ29 : τ29.2.1 16 = σ.2.1 16 := hf_τ29.2.1 16 (by decide)
                      have g17_τ29 : τ29.2.1 17 = σ.2.1 17 := hf_τ29.2.1 17 (by decide)
                      first | (have o6_τ29 := congrArg oc g6_τ29) | skip
                      have W0 : τ29.1 0 = σ.1 0 := by first | exact w0_τ29.trans W0 | omega
                      have W3 : τ29.1 3 = σ.1 3 := by first | exact w3_τ29.trans W3 | omega
                      have W5 : τ29.1 5 = σ.1 5 := by first | exact w5_τ29.trans W5 | omega
                      have W7 : τ29.1 7 = σ.1 7 := by first | exact w7_τ29.trans W7 | omega
                      have W8 : τ29.1 8 = σ.1 8 := by first | exact w8_τ29.trans W8 | omega
                      have W9 : τ29.1 9 = σ.1 9 := by first | exact w9_τ29.trans W9 | omega
                      have W10 : τ29.1 10 = σ.1 10 := by first | exact w10_τ29.trans W10 | omega
                      have W11 : τ29.1 11 = σ.1 11 := by first | exact w11_τ29.trans W11 | omega
                      have W17 : τ29.1 17 = σ.1 17 := by first | exact w17_τ29.trans W17 | omega
                      have W18 : τ29.1 18 = σ.1 18 := by first | exact w18_τ29.trans W18 | omega
                      have W19 : τ29.1 19 = σ.1 19 := by first | exact w19_τ29.trans W19 | omega
                      have W22 : τ29.1 22 = σ.1 22 := by first | exact w22_τ29.trans W22 | omega
                      have G6 : τ29.2.1 6 = σ.2.1 6 := (g6_τ29).trans G6
                      have G8 : τ29.2.1 8 = σ.2.1 8 := (g8_τ29).trans G8
                      have G10 : τ29.2.1 10 = σ.2.1 10 := (g10_τ29).trans G10
                      have G11 : τ29.2.1 11 = σ.2.1 11 := (g11_τ29).trans G11
                      have G14 : τ29.2.1 14 = σ.2.1 14 := (g14_τ29).trans G14
                      have y14_22_τ29 : τ29.2.1 14 (τ29.1 22) = (σ.2.1 14) (σ.1 22) := by rw [g14_τ29, w22_τ29]
                      have y15_22_τ29 : τ29.2.1 15 (τ29.1 22) = (σ.2.1 15) (σ.1 22) := by rw [g15_τ29, w22_τ29]
                      have Z1 : τ29.2.1 14 (τ29.1 22) + τ29.2.1 15 (τ29.1 22) = (τ29.1 6) := by rw [show (τ29.2.1 14 (τ29.1 22) + τ29.2.1 15 (τ29.1 22) = (τ29.1 6)) = (σ.2.1 14 (σ.1 22) + σ.2.1 15 (σ.1 22) = (σ.1 6)) from by rw [w6_τ29, w22_τ29, g14_τ29, g15_τ29]]; exact Z1
                      have Y20 : ca (τ29.2.1 12) ((τ29.1 3)) ≤ (τ29.1 4) := by rw [show (ca (τ29.2.1 12) ((τ29.1 3)) ≤ (τ29.1 4)) = (ca (σ.2.1 12) ((σ.1 3)) ≤ (σ.1 4)) from by rw [w3_τ29, w4_τ29, g12_τ29]]; exact Y20
                      have Y1 : j_l2 (τ29.2.1 6) (τ29.1 3) := by rw [show (j_l2 (τ29.2.1 6) (τ29.1 3)) = (j_l2 (σ.2.1 6) (σ.1 3)) from by rw [w3_τ29, g6_τ29]]; exact Y1
                      have STt : j_l2 (τ29.2.1 6) (τ29.1 3) := by rw [show (j_l2 (τ29.2.1 6) (τ29.1 3)) = (j_l2 (σ.2.1 6) (σ.1 3)) from by rw [w3_τ29, g6_τ29]]; exact STt
                      have A6 : ∀ j, (-1) ≤ τ29.2.1 6 j ∧ τ29.2.1 6 j ≤ 999 := fun j => hT.2 6 j
                      have A8 : ∀ j, 0 ≤ τ29.2.1 8 j ∧ τ29.2.1 8 j ≤ 1 := fun j => hT.2 8 j
                      have A10 : ∀ j, (-1) ≤ τ29.2.1 10 j ∧ τ29.2.1 10 j ≤ 999 := fun j => hT.2 10 j
                      have A11 : ∀ j, (-1) ≤ τ29.2.1 11 j ∧ τ29.2.1 11 j ≤ 1499 := fun j => hT.2 11 j
                      have A12 : ∀ j, 0 ≤ τ29.2.1 12 j ∧ τ29.2.1 12 j ≤ 1 := fun j => hT.2 12 j
                      have A14 : ∀ j, 0 ≤ τ29.2.1 14 j ∧ τ29.2.1 14 j ≤ 30000 := fun j => hT.2 14 j
                      have A15 : ∀ j, 0 ≤ τ29.2.1 15 j ∧ τ29.2.1 15 j ≤ 300 := fun j => hT.2 15 j
                      have A16 : ∀ j, 0 ≤ τ29.2.1 16 j ∧ τ29.2.1 16 j ≤ 999 := fun j => hT.2 16 j
                      have A17 : ∀ j, (-1) ≤ τ29.2.1 17 j ∧ τ29.2.1 17 j ≤ 1499 := fun j => hT.2 17 j
                      have v0 : 0 ≤ τ29.1 0 ∧ τ29.1 0 ≤ 60000 := hT.1 0
                      have v3 : 0 ≤ τ29.1 3 ∧ τ29.1 3 ≤ 1000 := hT.1 3
                      have v4 : 0 ≤ τ29.1 4 ∧ τ29.1 4 ≤ 100 := hT.1 4
                      have v5 : 0 ≤ τ29.1 5 ∧ τ29.1 5 ≤ 1500 := hT.1 5
                      have v6 : 0 ≤ τ29.1 6 ∧ τ29.1 6 ≤ 30000 := hT.1 6
                      have v7 : 0 ≤ τ29.1 7 ∧ τ29.1 7 ≤ 90000 := hT.1 7
                      have v8 : 0 ≤ τ29.1 8 ∧ τ29.1 8 ≤ 20000 := hT.1 8
                      have v9 : 0 ≤ τ29.1 9 ∧ τ29.1 9 ≤ 20000 := hT.1 9
                      have v10 : (-1) ≤ τ29.1 10 ∧ τ29.1 10 ≤ 999 := hT.1 10
                      have v11 : (-1) ≤ τ29.1 11 ∧ τ29.1 11 ≤ 999 := hT.1 11
                      have v17 : 0 ≤ τ29.1 17 ∧ τ29.1 17 ≤ 60000 := hT.1 17
                      have v18 : 0 ≤ τ29.1 18 ∧ τ29.1 18 ≤ 60000 := hT.1 18
                      have v19 : (-1) ≤ τ29.1 19 ∧ τ29.1 19 ≤ 125 := hT.1 19
                      have v20 : 0 ≤ τ29.1 20 ∧ τ29.1 20 ≤ 19 := hT.1 20
                      have v22 : 0 ≤ τ29.1 22 ∧ τ29.1 22 ≤ 1499 := hT.1 22
                      have a14_22 : 0 ≤ τ29.2.1 14 (τ29.1 22) ∧ τ29.2.1 14 (τ29.1 22) ≤ 30000 := hT.2 14 _
                      have a15_22 : 0 ≤ τ29.2.1 15 (τ29.1 22) ∧ τ29.2.1 15 (τ29.1 22) ≤ 300 := hT.2 15 _
                      have av6 : σ.1 6 ≤ τ29.1 6 := ag.1 6 (by decide)
                      exact ⟨hT, (show (τ29.1 20) = 0 → τ29.2.1 15 (τ29.1 22) = 1 from by (first | omega | (simp only [st_s] <;> omega) | assumption | omega | fail)), (show τ29.2.1 15 (τ29.1 22) ≤ 1 from by (first | omega | (simp only [st_s] <;> omega) | assumption | omega | fail)), (show ¬ (σ.1 20) = 0 → (τ29.1 20) = (σ.1 20) from by (first | omega | (simp only [st_s] <;> omega) | assumption | omega | fail)), (show τ29.2.1 14 (τ29.1 22) + τ29.2.1 15 (τ29.1 22) = (τ29.1 6) from Z1), (show ca (τ29.2.1 12) ((τ29.1 3)) ≤ (τ29.1 4) from Y20), ag, (show (τ29.1 20) = 0 → n_N (τ29.2.1 14 (τ29.1 22)) (τ29.2.1 14 (τ29.1 22) + τ29.2.1 15 (τ29.1 22)) (σ.1 3) (σ.2.1 8) (σ.2.1 11) (τ29.2.1 12) (τ29.2.1 16) (τ29.2.1 17) from by (first | (intro z; exfalso; omega) | (intro _; rw [show τ41.2.1 14 (τ41.1 22) = σ.1 6 from by omega, show σ.1 6 + τ41.2.1 15 (τ41.1 22) = σ.1 6 + 1 from by omega]; exact n_N_1 q39_4 q39_5 (by omega) (x3lt (by omega)) (by rw [g12_τ41, st_s]; decide)) | fail)), (show n_rl σ τ29 from by (first | exact n_rl_h hf_τ11 rfl rfl | exact n_rl_h hf_τ20 rfl rfl | exact n_rl_h hf_τ29 rfl rfl | exact n_rl_h hf_τ36 rfl rfl | exact ⟨fun s _ _ _ => by rw [g10_τ41], fun s _ _ h => by (rw [g12_τ41]; by_cases z : s = x3; (rw [z, st_s]; decide); (rw [st_n _ _ z]; exact h)), Or.inl (by omega), Or.inl (by omega), by omega, fun zt s a b => by (rw [g10_τ41]; have h3 := zt s a (by omega); omega)⟩ | fail)), (show ∀ s : Int, ¬ σ.2.1 12 s = 0 → ¬ τ29.2.1 12 s = 0 from by (first | exact fun s h => by (rw [G12]; exact h) | exact fun s h => by (rw [g12_τ41]; by_cases z : s = x3; (rw [z, st_s]; decide); (rw [st_n _ _ z]; exact h)) | (intro s h; first | (rw [hf_τ11.2.1 12 (by decide)]; exact h) | (rw [hf_τ20.2.1 12 (by decide)]; exact h) | (rw [hf_τ29.2.1 12 (by decide)]; exact h) | (rw [hf_τ36.2.1 12 (by decide)]; exact h)) | fail))⟩
              ·
                refine h71 _ ?_
                refine ⟨_, K_X13_failHere hT (show 0 ≤ (5 : Int) from by (first | omega | (simp only [st_s] <;> omega) | assumption | omega | fail)) (show (5 : Int) ≤ 19 from by (first | omega | (simp only [st_s] <;> omega) | assumption | omega | fail)), ?_⟩
                intro τ20 hn_τ20 hf_τ20 hq
                obtain ⟨hT, q18_1, q18_2⟩ := hq
                replace q18_1 : ¬ (σ.1 20) = 0 → (τ20.1 20) = (σ.1 20) := q18_1
                replace q18_2 : (σ.1 20) = 0 → (τ20.1 20) = (5 : Int) := q18_2
                replace ag : m_ag σ τ20 := ag_r ag hf_τ20 rfl rfl
                have w0_τ20 : τ20.1 0 = σ.1 0 := hf_τ20.1 0 (by decide)
                have w3_τ20 : τ20.1 3 = σ.1 3 := hf_τ20.1 3 (by decide)
                have w4_τ20 : τ20.1 4 = σ.1 4 := hf_τ20.1 4 (by decide)
                have w5_τ20 : τ20.1 5 = σ.1 5 := hf_τ20.1 5 (by decide)
                have w6_τ20 : τ20.1 6 = σ.1 6 := hf_τ20.1 6 (by decide)
                have w7_τ20 : τ20.1 7 = σ.1 7 := hf_τ20.1 7 (by decide)
                have w8_τ20 : τ20.1 8 = σ.1 8 := hf_τ20.1 8 (by decide)
                have w9_τ20 : τ20.1 9 = σ.1 9 := hf_τ20.1 9 (by decide)
                have w10_τ20 : τ20.1 10 = σ.1 10 := hf_τ20.1 10 (by decide)
                have w11_τ20 : τ20.1 11 = σ.1 11 := hf_τ20.1 11 (by decide)
                have w17_τ20 : τ20.1 17 = σ.1 17 := hf_τ20.1 17 (by decide)
                have w18_τ20 : τ20.1 18 = σ.1 18 := hf_τ20.1 18 (by decide)
                have w19_τ20 : τ20.1 19 = σ.1 19 := hf_τ20.1 19 (by decide)
                have w22_τ20 : τ20.1 22 = σ.1 22 := hf_τ20.1 22 (by decide)
                have g6_τ20 : τ20.2.1 6 = σ.2.1 6 := hf_τ20.2.1 6 (by decide)
                have g8_τ20 : τ20.2.1 8 = σ.2.1 8 := hf_τ20.2.1 8 (by decide)
                have g10_τ20 : τ20.2.1 10 = σ.2.1 10 := hf_τ20.2.1 10 (by decide)
                have g11_τ20 : τ20.2.1 11 = σ.2.1 11 := hf_τ20.2.1 11 (by decide)
                have g12_τ20 : τ20.2.1 12 = σ.2.1 12 := hf_τ20.2.1 12 (by decide)
                have g14_τ20 : τ20.2.1 14 = σ.2.1 14 := hf_τ20.2.1 14 (by decide)
                have g15_τ20 : τ20.2.1 15 = σ.2.1 15 := hf_τ20.2.1 15 (by decide)
                have g16_τ20 : τ20.2.1 16 = σ.2.1 16 := hf_τ20.2.1 16 (by decide)
                have g17_τ20 : τ20.2.1 17 = σ.2.1 17 := hf_τ20.2.1 17 (by decide)
                first | (have o6_τ20 := congrArg oc g6_τ20) | skip
                have W0 : τ20.1 0 = σ.1 0 := by first | exact w0_τ20.trans W0 | omega
                have W3 : τ20.1 3 = σ.1 3 := by first | exact w3_τ20.trans W3 | omega
                have W5 : τ20.1 5 = σ.1 5 := by first | exact w5_τ20.trans W5 | omega
                have W7 : τ20.1 7 = σ.1 7 := by first | exact w7_τ20.trans W7 | omega
                have W8 : τ20.1 8 = σ.1 8 := by first | exact w8_τ20.trans W8 | omega
                have W9 : τ20.1 9 = σ.1 9 := by first | exact w9_τ20.trans W9 | omega
                have W10 : τ20.1 10 = σ.1 10 := by first | exact w10_τ20.trans W10 | omega
                have W11 : τ20.1 11 = σ.1 11 := by first | exact w11_τ20.trans W11 | omega
                have W17 : τ20.1 17 = σ.1 17 := by first | exact w17_τ20.trans W17 | omega
                have W18 : τ20.1 18 = σ.1 18 := by first | exact w18_τ20.trans W18 | omega
                have W19 : τ20.1 19 = σ.1 19 := by first | exact w19_τ20.trans W19 | omega
                have W22 : τ20.1 22 = σ.1 22 := by first | exact w22_τ20.trans W22 | omega
                have G6 : τ20.2.1 6 = σ.2.1 6 := (g6_τ20).trans G6
                have G8 : τ20.2.1 8 = σ.2.1 8 := (g8_τ20).trans G8
                have G10 : τ20.2.1 10 = σ.2.1 10 := (g10_τ20).trans G10
                have G11 : τ20.2.1 11 = σ.2.1 11 := (g11_τ20).trans G11
                have G14 : τ20.2.1 14 = σ.2.1 14 := (g14_τ20).trans G14
                have y14_22_τ20 : τ20.2.1 14 (τ20.1 22) = (σ.2.1 14) (σ.1 22) := by rw [g14_τ20, w22_τ20]
                have y15_22_τ20 : τ20.2.1 15 (τ20.1 22) = (σ.2.1 15) (σ.1 22) := by rw [g15_τ20, w22_τ20]
                have Z1 : τ20.2.1 14 (τ20.1 22) + τ20.2.1 15 (τ20.1 22) = (τ20.1 6) := by rw [show (τ20.2.1 14 (τ20.1 22) + τ20.2.1 15 (τ20.1 22) = (τ20.1 6)) = (σ.2.1 14 (σ.1 22) + σ.2.1 15 (σ.1 22) = (σ.1 6)) from by rw [w6_τ20, w22_τ20, g14_τ20, g15_τ20]]; exact Z1
                have Y20 : ca (τ20.2.1 12) ((τ20.1 3)) ≤ (τ20.1 4) := by rw [show (ca (τ20.2.1 12) ((τ20.1 3)) ≤ (τ20.1 4)) = (ca (σ.2.1 12) ((σ.1 3)) ≤ (σ.1 4)) from by rw [w3_τ20, w4_τ20, g12_τ20]]; exact Y20
                have Y1 : j_l2 (τ20.2.1 6) (τ20.1 3) := by rw [show (j_l2 (τ20.2.1 6) (τ20.1 3)) = (j_l2 (σ.2.1 6) (σ.1 3)) from by rw [w3_τ20, g6_τ20]]; exact Y1
                have STt : j_l2 (τ20.2.1 6) (τ20.1 3) := by rw [show (j_l2 (τ20.2.1 6) (τ20.1 3)) = (j_l2 (σ.2.1 6) (σ.1 3)) from by rw [w3_τ20, g6_τ20]]; exact STt
                have A6 : ∀ j, (-1) ≤ τ20.2.1 6 j ∧ τ20.2.1 6 j ≤ 999 := fun j => hT.2 6 j
                have A8 : ∀ j, 0 ≤ τ20.2.1 8 j ∧ τ20.2.1 8 j ≤ 1 := fun j => hT.2 8 j
                have A10 : ∀ j, (-1) ≤ τ20.2.1 10 j ∧ τ20.2.1 10 j ≤ 999 := fun j => hT.2 10 j
                have A11 : ∀ j, (-1) ≤ τ20.2.1 11 j ∧ τ20.2.1 11 j ≤ 1499 := fun j => hT.2 11 j
                have A12 : ∀ j, 0 ≤ τ20.2.1 12 j ∧ τ20.2.1 12 j ≤ 1 := fun j => hT.2 12 j
                have A14 : ∀ j, 0 ≤ τ20.2.1 14 j ∧ τ20.2.1 14 j ≤ 30000 := fun j => hT.2 14 j
                have A15 : ∀ j, 0 ≤ τ20.2.1 15 j ∧ τ20.2.1 15 j ≤ 300 := fun j => hT.2 15 j
                have A16 : ∀ j, 0 ≤ τ20.2.1 16 j ∧ τ20.2.1 16 j ≤ 999 := fun j => hT.2 16 j
                have A17 : ∀ j, (-1) ≤ τ20.2.1 17 j ∧ τ20.2.1 17 j ≤ 1499 := fun j => hT.2 17 j
                have v0 : 0 ≤ τ20.1 0 ∧ τ20.1 0 ≤ 60000 := hT.1 0
                have v3 : 0 ≤ τ20.1 3 ∧ τ20.1 3 ≤ 1000 := hT.1 3
                have v4 : 0 ≤ τ20.1 4 ∧ τ20.1 4 ≤ 100 := hT.1 4
                have v5 : 0 ≤ τ20.1 5 ∧ τ20.1 5 ≤ 1500 := hT.1 5
                have v6 : 0 ≤ τ20.1 6 ∧ τ20.1 6 ≤ 30000 := hT.1 6
                have v7 : 0 ≤ τ20.1 7 ∧ τ20.1 7 ≤ 90000 := hT.1 7
                have v8 : 0 ≤ τ20.1 8 ∧ τ20.1 8 ≤ 20000 := hT.1 8
                have v9 : 0 ≤ τ20.1 9 ∧ τ20.1 9 ≤ 20000 := hT.1 9
                have v10 : (-1) ≤ τ20.1 10 ∧ τ20.1 10 ≤ 999 := hT.1 10
                have v11 : (-1) ≤ τ20.1 11 ∧ τ20.1 11 ≤ 999 := hT.1 11
                have v17 : 0 ≤ τ20.1 17 ∧ τ20.1 17 ≤ 60000 := hT.1 17
                have v18 : 0 ≤ τ20.1 18 ∧ τ20.1 18 ≤ 60000 := hT.1 18
                have v19 : (-1) ≤ τ20.1 19 ∧ τ20.1 19 ≤ 125 := hT.1 19
                have v20 : 0 ≤ τ20.1 20 ∧ τ20.1 20 ≤ 19 := hT.1 20
                have v22 : 0 ≤ τ20.1 22 ∧ τ20.1 22 ≤ 1499 := hT.1 22
                have a14_22 : 0 ≤ τ20.2.1 14 (τ20.1 22) ∧ τ20.2.1 14 (τ20.1 22) ≤ 30000 := hT.2 14 _
                have a15_22 : 0 ≤ τ20.2.1 15 (τ20.1 22) ∧ τ20.2.1 15 (τ20.1 22) ≤ 300 := hT.2 15 _
                have av6 : σ.1 6 ≤ τ20.1 6 := ag.1 6 (by decide)
                exact ⟨hT, (show (τ20.1 20) = 0 → τ20.2.1 15 (τ20.1 22) = 1 from by (first | omega | (simp only [st_s] <;> omega) | assumption | omega | fail)), (show τ20.2.1 15 (τ20.1 22) ≤ 1 from by (first | omega | (simp only [st_s] <;> omega) | assumption | omega | fail)), (show ¬ (σ.1 20) = 0 → (τ20.1 20) = (σ.1 20) from by (first | omega | (simp only [st_s] <;> omega) | assumption | omega | fail)), (show τ20.2.1 14 (τ20.1 22) + τ20.2.1 15 (τ20.1 22) = (τ20.1 6) from Z1), (show ca (τ20.2.1 12) ((τ20.1 3)) ≤ (τ20.1 4) from Y20), ag, (show (τ20.1 20) = 0 → n_N (τ20.2.1 14 (τ20.1 22)) (τ20.2.1 14 (τ20.1 22) + τ20.2.1 15 (τ20.1 22)) (σ.1 3) (σ.2.1 8) (σ.2.1 11) (τ20.2.1 12) (τ20.2.1 16) (τ20.2.1 17) from by (first | (intro z; exfalso; omega) | (intro _; rw [show τ41.2.1 14 (τ41.1 22) = σ.1 6 from by omega, show σ.1 6 + τ41.2.1 15 (τ41.1 22) = σ.1 6 + 1 from by omega]; exact n_N_1 q39_4 q39_5 (by omega) (x3lt (by omega)) (by rw [g12_τ41, st_s]; decide)) | fail)), (show n_rl σ τ20 from by (first | exact n_rl_h hf_τ11 rfl rfl | exact n_rl_h hf_τ20 rfl rfl | exact n_rl_h hf_τ29 rfl rfl | exact n_rl_h hf_τ36 rfl rfl | exact ⟨fun s _ _ _ => by rw [g10_τ41], fun s _ _ h => by (rw [g12_τ41]; by_cases z : s = x3; (rw [z, st_s]; decide); (rw [st_n _ _ z]; exact h)), Or.inl (by omega), Or.inl (by omega), by omega, fun zt s a b => by (rw [g10_τ41]; have h3 := zt s a (by omega); omega)⟩ | fail)), (show ∀ s : Int, ¬ σ.2.1 12 s = 0 → ¬ τ20.2.1 12 s = 0 from by (first | exact fun s h => by (rw [G12]; exact h) | exact fun s h => by (rw [g12_τ41]; by_cases z : s = x3; (rw [z, st_s]; decide); (rw [st_n _ _ z]; exact h)) | (intro s h; first | (rw [hf_τ11.2.1 12 (by decide)]; exact h) | (rw [hf_τ20.2.1 12 (by decide)]; exact h) | (rw [hf_τ29.2.1 12 (by decide)]; exact h) | (rw [hf_τ36.2.1 12 (by decide)]; exact h)) | fail))⟩
      ·
        refine h38 _ _ _ ?_
        refine ⟨fun c12 => ?_, fun c12 => ?_⟩
        ·
          refine h71 _ ?_
          refine ⟨_, K_X13_failHere hT (show 0 ≤ (5 : Int) from by (first | omega | (simp only [st_s] <;> omega) | assumption | omega | fail)) (show (5 : Int) ≤ 19 from by (first | omega | (simp only [st_s] <;> omega) | assumption | omega | fail)), ?_⟩
          intro τ20 hn_τ20 hf_τ20 hq
          obtain ⟨hT, q18_1, q18_2⟩ := hq
          replace q18_1 : ¬ (σ.1 20) = 0 → (τ20.1 20) = (σ.1 20) := q18_1
          replace q18_2 : (σ.1 20) = 0 → (τ20.1 20) = (5 : Int) := q18_2
          replace ag : m_ag σ τ20 := ag_r ag hf_τ20 rfl rfl
          have w0_τ20 : τ20.1 0 = σ.1 0 := hf_τ20.1 0 (by decide)
          have w3_τ20 : τ20.1 3 = σ.1 3 := hf_τ20.1 3 (by decide)
          have w4_τ20 : τ20.1 4 = σ.1 4 := hf_τ20.1 4 (by decide)
          have w5_τ20 : τ20.1 5 = σ.1 5 := hf_τ20.1 5 (by decide)
          have w6_τ20 : τ20.1 6 = σ.1 6 := hf_τ20.1 6 (by decide)
          have w7_τ20 : τ20.1 7 = σ.1 7 := hf_τ20.1 7 (by decide)
          have w8_τ20 : τ20.1 8 = σ.1 8 := hf_τ20.1 8 (by decide)
          have w9_τ20 : τ20.1 9 = σ.1 9 := hf_τ20.1 9 (by decide)
          have w10_τ20 : τ20.1 10 = σ.1 10 := hf_τ20.1 10 (by decide)
          have w11_τ20 : τ20.1 11 = σ.1 11 := hf_τ20.1 11 (by decide)
          have w17_τ20 : τ20.1 17 = σ.1 17 := hf_τ20.1 17 (by decide)
          have w18_τ20 : τ20.1 18 = σ.1 18 := hf_τ20.1 18 (by decide)
          have w19_τ20 : τ20.1 19 = σ.1 19 := hf_τ20.1 19 (by decide)
          have w22_τ20 : τ20.1 22 = σ.1 22 := hf_τ20.1 22 (by decide)
          have g6_τ20 : τ20.2.1 6 = σ.2.1 6 := hf_τ20.2.1 6 (by decide)
          have g8_τ20 : τ20.2.1 8 = σ.2.1 8 := hf_τ20.2.1 8 (by decide)
          have g10_τ20 : τ20.2.1 10 = σ.2.1 10 := hf_τ20.2.1 10 (by decide)
          have g11_τ20 : τ20.2.1 11 = σ.2.1 11 := hf_τ20.2.1 11 (by decide)
          have g12_τ20 : τ20.2.1 12 = σ.2.1 12 := hf_τ20.2.1 12 (by decide)
          have g14_τ20 : τ20.2.1 14 = σ.2.1 14 := hf_τ20.2.1 14 (by decide)
          have g15_τ20 : τ20.2.1 15 = σ.2.1 15 := hf_τ20.2.1 15 (by decide)
          have g16_τ20 : τ20.2.1 16 = σ.2.1 16 := hf_τ20.2.1 16 (by decide)
          have g17_τ20 : τ20.2.1 17 = σ.2.1 17 := hf_τ20.2.1 17 (by decide)
          first | (have o6_τ20 := congrArg oc g6_τ20) | skip
          have W0 : τ20.1 0 = σ.1 0 := by first | exact w0_τ20.trans W0 | omega
          have W3 : τ20.1 3 = σ.1 3 := by first | exact w3_τ20.trans W3 | omega
          have W5 : τ20.1 5 = σ.1 5 := by first | exact w5_τ20.trans W5 | omega
          have W7 : τ20.1 7 = σ.1 7 := by first | exact w7_τ20.trans W7 | omega
          have W8 : τ20.1 8 = σ.1 8 := by first | exact w8_τ20.trans W8 | omega
          have W9 : τ20.1 9 = σ.1 9 := by first | exact w9_τ20.trans W9 | omega
          have W10 : τ20.1 10 = σ.1 10 := by first | exact w10_τ20.trans W10 | omega
          have W11 : τ20.1 11 = σ.1 11 := by first | exact w11_τ20.trans W11 | omega
          have W17 : τ20.1 17 = σ.1 17 := by first | exact w17_τ20.trans W17 | omega
          have W18 : τ20.1 18 = σ.1 18 := by first | exact w18_τ20.trans W18 | omega
          have W19 : τ20.1 19 = σ.1 19 := by first | exact w19_τ20.trans W19 | omega
          have W22 : τ20.1 22 = σ.1 22 := by first | exact w22_τ20.trans W22 | omega
          have G6 : τ20.2.1 6 = σ.2.1 6 := (g6_τ20).trans G6
          have G8 : τ20.2.1 8 = σ.2.1 8 := (g8_τ20).trans G8
          have G10 : τ20.2.1 10 = σ.2.1 10 := (g10_τ20).trans G10
          have G11 : τ20.2.1 11 = σ.2.1 11 := (g11_τ20).trans G11
          have G14 : τ20.2.1 14 = σ.2.1 14 := (g14_τ20).trans G14
          have y14_22_τ20 : τ20.2.1 14 (τ20.1 22) = (σ.2.1 14) (σ.1 22) := by rw [g14_τ20, w22_τ20]
          have y15_22_τ20 : τ20.2.1 15 (τ20.1 22) = (σ.2.1 15) (σ.1 22) := by rw [g15_τ20, w22_τ20]
          have Z1 : τ20.2.1 14 (τ20.1 22) + τ20.2.1 15 (τ20.1 22) = (τ20.1 6) := by rw [show (τ20.2.1 14 (τ20.1 22) + τ20.2.1 15 (τ20.1 22) = (τ20.1 6)) = (σ.2.1 14 (σ.1 22) + σ.2.1 15 (σ.1 22) = (σ.1 6)) from by rw [w6_τ20, w22_τ20, g14_τ20, g15_τ20]]; exact Z1
          have Y20 : ca (τ20.2.1 12) ((τ20.1 3)) ≤ (τ20.1 4) := by rw [show (ca (τ20.2.1 12) ((τ20.1 3)) ≤ (τ20.1 4)) = (ca (σ.2.1 12) ((σ.1 3)) ≤ (σ.1 4)) from by rw [w3_τ20, w4_τ20, g12_τ20]]; exact Y20
          have Y1 : j_l2 (τ20.2.1 6) (τ20.1 3) := by rw [show (j_l2 (τ20.2.1 6) (τ20.1 3)) = (j_l2 (σ.2.1 6) (σ.1 3)) from by rw [w3_τ20, g6_τ20]]; exact Y1
          have STt : j_l2 (τ20.2.1 6) (τ20.1 3) := by rw [show (j_l2 (τ20.2.1 6) (τ20.1 3)) = (j_l2 (σ.2.1 6) (σ.1 3)) from by rw [w3_τ20, g6_τ20]]; exact STt
          have A6 : ∀ j, (-1) ≤ τ20.2.1 6 j ∧ τ20.2.1 6 j ≤ 999 := fun j => hT.2 6 j
          have A8 : ∀ j, 0 ≤ τ20.2.1 8 j ∧ τ20.2.1 8 j ≤ 1 := fun j => hT.2 8 j
          have A10 : ∀ j, (-1) ≤ τ20.2.1 10 j ∧ τ20.2.1 10 j ≤ 999 := fun j => hT.2 10 j
          have A11 : ∀ j, (-1) ≤ τ20.2.1 11 j ∧ τ20.2.1 11 j ≤ 1499 := fun j => hT.2 11 j
          have A12 : ∀ j, 0 ≤ τ20.2.1 12 j ∧ τ20.2.1 12 j ≤ 1 := fun j => hT.2 12 j
          have A14 : ∀ j, 0 ≤ τ20.2.1 14 j ∧ τ20.2.1 14 j ≤ 30000 := fun j => hT.2 14 j
          have A15 : ∀ j, 0 ≤ τ20.2.1 15 j ∧ τ20.2.1 15 j ≤ 300 := fun j => hT.2 15 j
          have A16 : ∀ j, 0 ≤ τ20.2.1 16 j ∧ τ20.2.1 16 j ≤ 999 := fun j => hT.2 16 j
          have A17 : ∀ j, (-1) ≤ τ20.2.1 17 j ∧ τ20.2.1 17 j ≤ 1499 := fun j => hT.2 17 j
          have v0 : 0 ≤ τ20.1 0 ∧ τ20.1 0 ≤ 60000 := hT.1 0
          have v3 : 0 ≤ τ20.1 3 ∧ τ20.1 3 ≤ 1000 := hT.1 3
          have v4 : 0 ≤ τ20.1 4 ∧ τ20.1 4 ≤ 100 := hT.1 4
          have v5 : 0 ≤ τ20.1 5 ∧ τ20.1 5 ≤ 1500 := hT.1 5
          have v6 : 0 ≤ τ20.1 6 ∧ τ20.1 6 ≤ 30000 := hT.1 6
          have v7 : 0 ≤ τ20.1 7 ∧ τ20.1 7 ≤ 90000 := hT.1 7
          have v8 : 0 ≤ τ20.1 8 ∧ τ20.1 8 ≤ 20000 := hT.1 8
          have v9 : 0 ≤ τ20.1 9 ∧ τ20.1 9 ≤ 20000 := hT.1 9
          have v10 : (-1) ≤ τ20.1 10 ∧ τ20.1 10 ≤ 999 := hT.1 10
          have v11 : (-1) ≤ τ20.1 11 ∧ τ20.1 11 ≤ 999 := hT.1 11
          have v17 : 0 ≤ τ20.1 17 ∧ τ20.1 17 ≤ 60000 := hT.1 17
          have v18 : 0 ≤ τ20.1 18 ∧ τ20.1 18 ≤ 60000 := hT.1 18
          have v19 : (-1) ≤ τ20.1 19 ∧ τ20.1 19 ≤ 125 := hT.1 19
          have v20 : 0 ≤ τ20.1 20 ∧ τ20.1 20 ≤ 19 := hT.1 20
          have v22 : 0 ≤ τ20.1 22 ∧ τ20.1 22 ≤ 1499 := hT.1 22
          have a14_22 : 0 ≤ τ20.2.1 14 (τ20.1 22) ∧ τ20.2.1 14 (τ20.1 22) ≤ 30000 := hT.2 14 _
          have a15_22 : 0 ≤ τ20.2.1 15 (τ20.1 22) ∧ τ20.2.1 15 (τ20.1 22) ≤ 300 := hT.2 15 _
          have av6 : σ.1 6 ≤ τ20.1 6 := ag.1 6 (by decide)
          exact ⟨hT, (show (τ20.1 20) = 0 → τ20.2.1 15 (τ20.1 22) = 1 from by (first | omega | (simp only [st_s] <;> omega) | assumption | omega | fail)), (show τ20.2.1 15 (τ20.1 22) ≤ 1 from by (first | omega | (simp only [st_s] <;> omega) | assumption | omega | fail)), (show ¬ (σ.1 20) = 0 → (τ20.1 20) = (σ.1 20) from by (first | omega | (simp only [st_s] <;> omega) | assumption | omega | fail)), (show τ20.2.1 14 (τ20.1 22) + τ20.2.1 15 (τ20.1 22) = (τ20.1 6) from Z1), (show ca (τ20.2.1 12) ((τ20.1 3)) ≤ (τ20.1 4) from Y20), ag, (show (τ20.1 20) = 0 → n_N (τ20.2.1 14 (τ20.1 22)) (τ20.2.1 14 (τ20.1 22) + τ20.2.1 15 (τ20.1 22)) (σ.1 3) (σ.2.1 8) (σ.2.1 11) (τ20.2.1 12) (τ20.2.1 16) (τ20.2.1 17) from by (first | (intro z; exfalso; omega) | (intro _; rw [show τ41.2.1 14 (τ41.1 22) = σ.1 6 from by omega, show σ.1 6 + τ41.2.1 15 (τ41.1 22) = σ.1 6 + 1 from by omega]; exact n_N_1 q39_4 q39_5 (by omega) (x3lt (by omega)) (by rw [g12_τ41, st_s]; decide)) | fail)), (show n_rl σ τ20 from by (first | exact n_rl_h hf_τ11 rfl rfl | exact n_rl_h hf_τ20 rfl rfl | exact n_rl_h hf_τ29 rfl rfl | exact n_rl_h hf_τ36 rfl rfl | exact ⟨fun s _ _ _ => by rw [g10_τ41], fun s _ _ h => by (rw [g12_τ41]; by_cases z : s = x3; (rw [z, st_s]; decide); (rw [st_n _ _ z]; exact h)), Or.inl (by omega), Or.inl (by omega), by omega, fun zt s a b => by (rw [g10_τ41]; have h3 := zt s a (by omega); omega)⟩ | fail)), (show ∀ s : Int, ¬ σ.2.1 12 s = 0 → ¬ τ20.2.1 12 s = 0 from by (first | exact fun s h => by (rw [G12]; exact h) | exact fun s h => by (rw [g12_τ41]; by_cases z : s = x3; (rw [z, st_s]; decide); (rw [st_n _ _ z]; exact h)) | (intro s h; first | (rw [hf_τ11.2.1 12 (by decide)]; exact h) | (rw [hf_τ20.2.1 12 (by decide)]; exact h) | (rw [hf_τ29.2.1 12 (by decide)]; exact h) | (rw [hf_τ36.2.1 12 (by decide)]; exact h)) | fail))⟩
        ·
          refine ⟨fun c13 => ?_, fun c13 => ?_⟩
          ·
            refine h79 _ _ _ ?_
            refine ⟨fun c21 => ?_, fun c21 => ?_⟩
            ·
              refine h102 _ ?_
              refine ⟨_, K_X13_failHere hT (show 0 ≤ (9 : Int) from by (first | omega | (simp only [st_s] <;> omega) | assumption | omega | fail)) (show (9 : Int) ≤ 19 from by (first | omega | (simp only [st_s] <;> omega) | assumption | omega | fail)), ?_⟩
              intro τ29 hn_τ29 hf_τ29 hq
              obtain ⟨hT, q27_1, q27_2⟩ := hq
              replace q27_1 : ¬ (σ.1 20) = 0 → (τ29.1 20) = (σ.1 20) := q27_1
              replace q27_2 : (σ.1 20) = 0 → (τ29.1 20) = (9 : Int) := q27_2
              replace ag : m_ag σ τ29 := ag_r ag hf_τ29 rfl rfl
              have w0_τ29 : τ29.1 0 = σ.1 0 := hf_τ29.1 0 (by decide)
              have w3_τ29 : τ29.1 3 = σ.1 3 := hf_τ29.1 3 (by decide)
              have w4_τ29 : τ29.1 4 = σ.1 4 := hf_τ29.1 4 (by decide)
              have w5_τ29 : τ29.1 5 = σ.1 5 := hf_τ29.1 5 (by decide)
              have w6_τ29 : τ29.1 6 = σ.1 6 := hf_τ29.1 6 (by decide)
              have w7_τ29 : τ29.1 7 = σ.1 7 := hf_τ29.1 7 (by decide)
              have w8_τ29 : τ29.1 8 = σ.1 8 := hf_τ29.1 8 (by decide)
              have w9_τ29 : τ29.1 9 = σ.1 9 := hf_τ29.1 9 (by decide)
              have w10_τ29 : τ29.1 10 = σ.1 10 := hf_τ29.1 10 (by decide)
              have w11_τ29 : τ29.1 11 = σ.1 11 := hf_τ29.1 11 (by decide)
              have w17_τ29 : τ29.1 17 = σ.1 17 := hf_τ29.1 17 (by decide)
              have w18_τ29 : τ29.1 18 = σ.1 18 := hf_τ29.1 18 (by decide)
              have w19_τ29 : τ29.1 19 = σ.1 19 := hf_τ29.1 19 (by decide)
              have w22_τ29 : τ29.1 22 = σ.1 22 := hf_τ29.1 22 (by decide)
              have g6_τ29 : τ29.2.1 6 = σ.2.1 6 := hf_τ29.2.1 6 (by decide)
              have g8_τ29 : τ29.2.1 8 = σ.2.1 8 := hf_τ29.2.1 8 (by decide)
              have g10_τ29 : τ29.2.1 10 = σ.2.1 10 := hf_τ29.2.1 10 (by decide)
              have g11_τ29 : τ29.2.1 11 = σ.2.1 11 := hf_τ29.2.1 11 (by decide)
              have g12_τ29 : τ29.2.1 12 = σ.2.1 12 := hf_τ29.2.1 12 (by decide)
              have g14_τ29 : τ29.2.1 14 = σ.2.1 14 := hf_τ29.2.1 14 (by decide)
              have g15_τ29 : τ29.2.1 15 = σ.2.1 15 := hf_τ29.2.1 15 (by decide)
              have g16_τ29 : τ29.2.1 16 = σ.2.1 16 := hf_τ29.2.1 16 (by decide)
              have g17_τ29 : τ29.2.1 17 = σ.2.1 17 := hf_τ29.2.1 17 (by decide)
              first | (have o6_τ29 := congrArg oc g6_τ29) | skip
              have W0 : τ29.1 0 = σ.1 0 := by first | exact w0_τ29.trans W0 | omega
              have W3 : τ29.1 3 = σ.1 3 := by first | exact w3_τ29.trans W3 | omega
              have W5 : τ29.1 5 = σ.1 5 := by first | exact w5_τ29.trans W5 | omega
              have W7 : τ29.1 7 = σ.1 7 := by first | exact w7_τ29.trans W7 | omega
              have W8 : τ29.1 8 = σ.1 8 := by first | exact w8_τ29.trans W8 | omega
              have W9 : τ29.1 9 = σ.1 9 := by first | exact w9_τ29.trans W9 | omega
              have W10 : τ29.1 10 = σ.1 10 := by first | exact w10_τ29.trans W10 | omega
              have W11 : τ29.1 11 = σ.1 11 := by first | exact w11_τ29.trans W11 | omega
              have W17 : τ29.1 17 = σ.1 17 := by first | exact w17_τ29.trans W17 | omega
              have W18 : τ29.1 18 = σ.1 18 := by first | exact w18_τ29.trans W18 | omega
              have W19 : τ29.1 19 = σ.1 19 := by first | exact w19_τ29.trans W19 | omega
              have W22 : τ29.1 22 = σ.1 22 := by first | exact w22_τ29.trans W22 | omega
              have G6 : τ29.2.1 6 = σ.2.1 6 := (g6_τ29).trans G6
              have G8 : τ29.2.1 8 = σ.2.1 8 := (g8_τ29).trans G8
              have G10 : τ29.2.1 10 = σ.2.1 10 := (g10_τ29).trans G10
              have G11 : τ29.2.1 11 = σ.2.1 11 := (g11_τ29).trans G11
              have G14 : τ29.2.1 14 = σ.2.1 14 := (g14_τ29).trans G14
              have y14_22_τ29 : τ29.2.1 14 (τ29.1 22) = (σ.2.1 14) (σ.1 22) := by rw [g14_τ29, w22_τ29]
              have y15_22_τ29 : τ29.2.1 15 (τ29.1 22) = (σ.2.1 15) (σ.1 22) := by rw [g15_τ29, w22_τ29]
              have Z1 : τ29.2.1 14 (τ29.1 22) + τ29.2.1 15 (τ29.1 22) = (τ29.1 6) := by rw [show (τ29.2.1 14 (τ29.1 22) + τ29.2.1 15 (τ29.1 22) = (τ29.1 6)) = (σ.2.1 14 (σ.1 22) + σ.2.1 15 (σ.1 22) = (σ.1 6)) from by rw [w6_τ29, w22_τ29, g14_τ29, g15_τ29]]; exact Z1
              have Y20 : ca (τ29.2.1 12) ((τ29.1 3)) ≤ (τ29.1 4) := by rw [show (ca (τ29.2.1 12) ((τ29.1 3)) ≤ (τ29.1 4)) = (ca (σ.2.1 12) ((σ.1 3)) ≤ (σ.1 4)) from by rw [w3_τ29, w4_τ29, g12_τ29]]; exact Y20
              have Y1 : j_l2 (τ29.2.1 6) (τ29.1 3) := by rw [show (j_l2 (τ29.2.1 6) (τ29.1 3)) = (j_l2 (σ.2.1 6) (σ.1 3)) from by rw [w3_τ29, g6_τ29]]; exact Y1
              have STt : j_l2 (τ29.2.1 6) (τ29.1 3) := by rw [show (j_l2 (τ29.2.1 6) (τ29.1 3)) = (j_l2 (σ.2.1 6) (σ.1 3)) from by rw [w3_τ29, g6_τ29]]; exact STt
              have A6 : ∀ j, (-1) ≤ τ29.2.1 6 j ∧ τ29.2.1 6 j ≤ 999 := fun j => hT.2 6 j
              have A8 : ∀ j, 0 ≤ τ29.2.1 8 j ∧ τ29.2.1 8 j ≤ 1 := fun j => hT.2 8 j
              have A10 : ∀ j, (-1) ≤ τ29.2.1 10 j ∧ τ29.2.1 10 j ≤ 999 := fun j => hT.2 10 j
              have A11 : ∀ j, (-1) ≤ τ29.2.1 11 j ∧ τ29.2.1 11 j ≤ 1499 := fun j => hT.2 11 j
              have A12 : ∀ j, 0 ≤ τ29.2.1 12 j ∧ τ29.2.1 12 j ≤ 1 := fun j => hT.2 12 j
              have A14 : ∀ j, 0 ≤ τ29.2.1 14 j ∧ τ29.2.1 14 j ≤ 30000 := fun j => hT.2 14 j
              have A15 : ∀ j, 0 ≤ τ29.2.1 15 j ∧ τ29.2.1 15 j ≤ 300 := fun j => hT.2 15 j
              have A16 : ∀ j, 0 ≤ τ29.2.1 16 j ∧ τ29.2.1 16 j ≤ 999 := fun j => hT.2 16 j
              have A17 : ∀ j, (-1) ≤ τ29.2.1 17 j ∧ τ29.2.1 17 j ≤ 1499 := fun j => hT.2 17 j
              have v0 : 0 ≤ τ29.1 0 ∧ τ29.1 0 ≤ 60000 := hT.1 0
              have v3 : 0 ≤ τ29.1 3 ∧ τ29.1 3 ≤ 1000 := hT.1 3
              have v4 : 0 ≤ τ29.1 4 ∧ τ29.1 4 ≤ 100 := hT.1 4
              have v5 : 0 ≤ τ29.1 5 ∧ τ29.1 5 ≤ 1500 := hT.1 5
              have v6 : 0 ≤ τ29.1 6 ∧ τ29.1 6 ≤ 30000 := hT.1 6
              have v7 : 0 ≤ τ29.1 7 ∧ τ29.1 7 ≤ 90000 := hT.1 7
              have v8 : 0 ≤ τ29.1 8 ∧ τ29.1 8 ≤ 20000 := hT.1 8
              have v9 : 0 ≤ τ29.1 9 ∧ τ29.1 9 ≤ 20000 := hT.1 9
              have v10 : (-1) ≤ τ29.1 10 ∧ τ29.1 10 ≤ 999 := hT.1 10
              have v11 : (-1) ≤ τ29.1 11 ∧ τ29.1 11 ≤ 999 := hT.1 11
              have v17 : 0 ≤ τ29.1 17 ∧ τ29.1 17 ≤ 60000 := hT.1 17
              have v18 : 0 ≤ τ29.1 18 ∧ τ29.1 18 ≤ 60000 := hT.1 18
              have v19 : (-1) ≤ τ29.1 19 ∧ τ29.1 19 ≤ 125 := hT.1 19
              have v20 : 0 ≤ τ29.1 20 ∧ τ29.1 20 ≤ 19 := hT.1 20
              have v22 : 0 ≤ τ29.1 22 ∧ τ29.1 22 ≤ 1499 := hT.1 22
              have a14_22 : 0 ≤ τ29.2.1 14 (τ29.1 22) ∧ τ29.2.1 14 (τ29.1 22) ≤ 30000 := hT.2 14 _
              have a15_22 : 0 ≤ τ29.2.1 15 (τ29.1 22) ∧ τ29.2.1 15 (τ29.1 22) ≤ 300 := hT.2 15 _
              have av6 : σ.1 6 ≤ τ29.1 6 := ag.1 6 (by decide)
              exact ⟨hT, (show (τ29.1 20) = 0 → τ29.2.1 15 (τ29.1 22) = 1 from by (first | omega | (simp only [st_s] <;> omega) | assumption | omega | fail)), (show τ29.2.1 15 (τ29.1 22) ≤ 1 from by (first | omega | (simp only [st_s] <;> omega) | assumption | omega | fail)), (show ¬ (σ.1 20) = 0 → (τ29.1 20) = (σ.1 20) from by (first | omega | (simp only [st_s] <;> omega) | assumption | omega | fail)), (show τ29.2.1 14 (τ29.1 22) + τ29.2.1 15 (τ29.1 22) = (τ29.1 6) from Z1), (show ca (τ29.2.1 12) ((τ29.1 3)) ≤ (τ29.1 4) from Y20), ag, (show (τ29.1 20) = 0 → n_N (τ29.2.1 14 (τ29.1 22)) (τ29.2.1 14 (τ29.1 22) + τ29.2.1 15 (τ29.1 22)) (σ.1 3) (σ.2.1 8) (σ.2.1 11) (τ29.2.1 12) (τ29.2.1 16) (τ29.2.1 17) from by (first | (intro z; exfalso; omega) | (intro _; rw [show τ41.2.1 14 (τ41.1 22) = σ.1 6 from by omega, show σ.1 6 + τ41.2.1 15 (τ41.1 22) = σ.1 6 + 1 from by omega]; exact n_N_1 q39_4 q39_5 (by omega) (x3lt (by omega)) (by rw [g12_τ41, st_s]; decide)) | fail)), (show n_rl σ τ29 from by (first | exact n_rl_h hf_τ11 rfl rfl | exact n_rl_h hf_τ20 rfl rfl | exact n_rl_h hf_τ29 rfl rfl | exact n_rl_h hf_τ36 rfl rfl | exact ⟨fun s _ _ _ => by rw [g10_τ41], fun s _ _ h => by (rw [g12_τ41]; by_cases z : s = x3; (rw [z, st_s]; decide); (rw [st_n _ _ z]; exact h)), Or.inl (by omega), Or.inl (by omega), by omega, fun zt s a b => by (rw [g10_τ41]; have h3 := zt s a (by omega); omega)⟩ | fail)), (show ∀ s : Int, ¬ σ.2.1 12 s = 0 → ¬ τ29.2.1 12 s = 0 from by (first | exact fun s h => by (rw [G12]; exact h) | exact fun s h => by (rw [g12_τ41]; by_cases z : s = x3; (rw [z, st_s]; decide); (rw [st_n _ _ z]; exact h)) | (intro s h; first | (rw [hf_τ11.2.1 12 (by decide)]; exact h) | (rw [hf_τ20.2.1 12 (by decide)]; exact h) | (rw [hf_τ29.2.1 12 (by decide)]; exact h) | (rw [hf_τ36.2.1 12 (by decide)]; exact h)) | fail))⟩
            ·
              refine ⟨(show 0 ≤ x3 ∧ x3 < 1001 from by (first | omega | (simp only [st_s] <;> omega) | assumption | omega | fail)), ?_⟩
              intro x23 r_x23 e_x23
              have b_x23 : 0 ≤ x23 ∧ x23 ≤ 1 := by rw [e_x23]; exact hT.2 8 _
              refine ⟨fun c24 => ?_, fun c24 => ?_⟩
              ·
                refine h111 _ _ _ ?_
                refine ⟨fun c30 => ?_, fun c30 => ?_⟩
                ·
                  refine ⟨(show 0 ≤ x3 ∧ x3 < 1001 from by (first | omega | (simp only [st_s] <;> omega) | assumption | omega | fail)), ?_⟩
                  intro x32 r_x32 e_x32
                  have b_x32 : 0 ≤ x32 ∧ x32 ≤ 1 := by rw [e_x32]; exact hT.2 12 _
                  refine ⟨fun c33 => ?_, fun c33 => ?_⟩
                  ·
                    refine h143 _ _ _ _ ?_
                    refine ⟨(⟨by (first | omega | (simp only [st_s] <;> omega) | assumption | omega | fail), by (first | omega | (simp only [st_s] <;> omega) | assumption | omega | fail)⟩ : rg ((σ.1 4) + 1)), ?_⟩
                    replace ag := ag_v (i := 4) (x := ((σ.1 4) + 1)) ag (Or.inl rfl)
                    replace hT := mT_v (i := 4) hT (show 0 ≤ ((σ.1 4) + 1) ∧ ((σ.1 4) + 1) ≤ 100 from by (first | omega | (simp only [st_s] <;> omega) | assumption | omega | fail))
                    have ct0 := ca_t0 (σ.2.1 12) x3 ((σ.1 3)) 1 (by omega) (by omega)
                    have ct2 := ca_t2 (σ.2.1 12) (e := x3) ((σ.1 3)) 1 (by omega) (by omega)
                    refine ⟨(show 0 ≤ x3 ∧ x3 < 1001 from by (first | omega | (simp only [st_s] <;> omega) | assumption | omega | fail)), ?_⟩
                    replace ag := ag_a (k := 12) (e := x3) (x := 1) ag rfl
                    replace hT := mT_a (k := 12) (j := x3) hT (show (0 : Int) ≤ 1 ∧ 1 ≤ 1 from by (first | omega | (simp only [st_s] <;> omega) | assumption | omega | fail))
                    have y14q : σ.2.1 14 (σ.1 22) = σ.1 6 := by omega
                    refine ⟨_, K3_X13_addSymbol hT (show 0 ≤ x3 from by (first | omega | (simp only [st_s] <;> omega) | assumption | omega | fail)) (show x3 < 1000 from by (first | omega | (simp only [st_s] <;> omega) | assumption | omega | fail)) (show -1 ≤ (-1 : Int) from by (first | omega | (simp only [st_s] <;> omega) | assumption | omega | fail)) (show (-1 : Int) ≤ 1499 from by (first | omega | (simp only [st_s] <;> omega) | assumption | omega | fail)) (show (σ.1 6) < 30000 from by (first | omega | (simp only [st_s] <;> omega) | assumption | omega | fail)) (show σ.2.1 15 (σ.1 22) < 300 from by (first | omega | (simp only [st_s] <;> omega) | assumption | omega | fail)) (show (σ.1 22) = (σ.1 5) from by (first | omega | (simp only [st_s] <;> omega) | assumption | omega | fail)), ?_⟩
                    intro τ41 hn_τ41 hf_τ41 hq
                    obtain ⟨hT, q39_1, q39_2, q39_3, q39_4, q39_5⟩ := hq
                    replace q39_1 : (τ41.1 6) = (σ.1 6) + 1 := q39_1
                    replace q39_2 : τ41.2.1 15 (τ41.1 22) = σ.2.1 15 (σ.1 22) + 1 := q39_2
                    replace q39_3 : m_ag (s_a (s_v σ 4 ((σ.1 4) + 1)) 12 x3 1) τ41 := q39_3
                    replace q39_4 : τ41.2.1 16 = st (σ.2.1 16) (σ.1 6) x3 := q39_4
                    replace q39_5 : τ41.2.1 17 = st (σ.2.1 17) (σ.1 6) (-1 : Int) := q39_5
                    replace ag : m_ag σ τ41 := ag_t ag q39_3 rfl
                    have w0_τ41 : τ41.1 0 = σ.1 0 := hf_τ41.1 0 (by decide)
                    have w3_τ41 : τ41.1 3 = σ.1 3 := hf_τ41.1 3 (by decide)
                    have w4_τ41 : τ41.1 4 = ((σ.1 4) + 1) := hf_τ41.1 4 (by decide)
                    have w5_τ41 : τ41.1 5 = σ.1 5 := hf_τ41.1 5 (by decide)
                    have w7_τ41 : τ41.1 7 = σ.1 7 := hf_τ41.1 7 (by decide)
                    have w8_τ41 : τ41.1 8 = σ.1 8 := hf_τ41.1 8 (by decide)
                    have w9_τ41 : τ41.1 9 = σ.1 9 := hf_τ41.1 9 (by decide)
                    have w10_τ41 : τ41.1 10 = σ.1 10 := hf_τ41.1 10 (by decide)
                    have w11_τ41 : τ41.1 11 = σ.1 11 := hf_τ41.1 11 (by decide)
                    have w17_τ41 : τ41.1 17 = σ.1 17 := hf_τ41.1 17 (by decide)
                    have w18_τ41 : τ41.1 18 = σ.1 18 := hf_τ41.1 18 (by decide)
                    have w19_τ41 : τ41.1 19 = σ.1 19 := hf_τ41.1 19 (by decide)
                    have w20_τ41 : τ41.1 20 = σ.1 20 := hf_τ41.1 20 (by decide)
                    have w22_τ41 : τ41.1 22 = σ.1 22 := hf_τ41.1 22 (by decide)
                    have g6_τ41 : τ41.2.1 6 = σ.2.1 6 := hf_τ41.2.1 6 (by decide)
                    have g8_τ41 : τ41.2.1 8 = σ.2.1 8 := hf_τ41.2.1 8 (by decide)
                    have g10_τ41 : τ41.2.1 10 = σ.2.1 10 := hf_τ41.2.1 10 (by decide)
                    have g11_τ41 : τ41.2.1 11 = σ.2.1 11 := hf_τ41.2.1 11 (by decide)
                    have g12_τ41 : τ41.2.1 12 = (st (σ.2.1 12) x3 1) := hf_τ41.2.1 12 (by decide)
                    have g14_τ41 : τ41.2.1 14 = σ.2.1 14 := hf_τ41.2.1 14 (by decide)
                    first | (have o6_τ41 := congrArg oc g6_τ41) | skip
                    have W0 : τ41.1 0 = σ.1 0 := by first | exact w0_τ41.trans W0 | omega
                    have W3 : τ41.1 3 = σ.1 3 := by first | exact w3_τ41.trans W3 | omega
                    have W5 : τ41.1 5 = σ.1 5 := by first | exact w5_τ41.trans W5 | omega
                    have W7 : τ41.1 7 = σ.1 7 := by first | exact w7_τ41.trans W7 | omega
                    have W8 : τ41.1 8 = σ.1 8 := by first | exact w8_τ41.trans W8 | omega
                    have W9 : τ41.1 9 = σ.1 9 := by first | exact w9_τ41.trans W9 | omega
                    have W10 : τ41.1 10 = σ.1 10 := by first | exact w10_τ41.trans W10 | omega
                    have W11 : τ41.1 11 = σ.1 11 := by first | exact w11_τ41.trans W11 | omega
                    have W17 : τ41.1 17 = σ.1 17 := by first | exact w17_τ41.trans W17 | omega
                    have W18 : τ41.1 18 = σ.1 18 := by first | exact w18_τ41.trans W18 | omega
                    have W19 : τ41.1 19 = σ.1 19 := by first | exact w19_τ41.trans W19 | omega
                    have W22 : τ41.1 22 = σ.1 22 := by first | exact w22_τ41.trans W22 | omega
                    have G6 : τ41.2.1 6 = σ.2.1 6 := (g6_τ41).trans G6
                    have G8 : τ41.2.1 8 = σ.2.1 8 := (g8_τ41).trans G8
                    have G10 : τ41.2.1 10 = σ.2.1 10 := (g10_τ41).trans G10
                    have G11 : τ41.2.1 11 = σ.2.1 11 := (g11_τ41).trans G11
                    have G14 : τ41.2.1 14 = σ.2.1 14 := (g14_τ41).trans G14
                    have y14_22_τ41 : τ41.2.1 14 (τ41.1 22) = (σ.2.1 14) (σ.1 22) := by rw [g14_τ41, w22_τ41]
                    have Y1 : j_l2 (τ41.2.1 6) (τ41.1 3) := by rw [show (j_l2 (τ41.2.1 6) (τ41.1 3)) = (j_l2 (σ.2.1 6) (σ.1 3)) from by rw [w3_τ41, g6_τ41]]; exact Y1
                    have STt : j_l2 (τ41.2.1 6) (τ41.1 3) := by rw [show (j_l2 (τ41.2.1 6) (τ41.1 3)) = (j_l2 (σ.2.1 6) (σ.1 3)) from by rw [w3_τ41, g6_τ41]]; exact STt
                    have A6 : ∀ j, (-1) ≤ τ41.2.1 6 j ∧ τ41.2.1 6 j ≤ 999 := fun j => hT.2 6 j
                    have A8 : ∀ j, 0 ≤ τ41.2.1 8 j ∧ τ41.2.1 8 j ≤ 1 := fun j => hT.2 8 j
                    have A10 : ∀ j, (-1) ≤ τ41.2.1 10 j ∧ τ41.2.1 10 j ≤ 999 := fun j => hT.2 10 j
                    have A11 : ∀ j, (-1) ≤ τ41.2.1 11 j ∧ τ41.2.1 11 j ≤ 1499 := fun j => hT.2 11 j
                    have A12 : ∀ j, 0 ≤ τ41.2.1 12 j ∧ τ41.2.1 12 j ≤ 1 := fun j => hT.2 12 j
                    have A14 : ∀ j, 0 ≤ τ41.2.1 14 j ∧ τ41.2.1 14 j ≤ 30000 := fun j => hT.2 14 j
                    have A15 : ∀ j, 0 ≤ τ41.2.1 15 j ∧ τ41.2.1 15 j ≤ 300 := fun j => hT.2 15 j
                    have A16 : ∀ j, 0 ≤ τ41.2.1 16 j ∧ τ41.2.1 16 j ≤ 999 := fun j => hT.2 16 j
                    have A17 : ∀ j, (-1) ≤ τ41.2.1 17 j ∧ τ41.2.1 17 j ≤ 1499 := fun j => hT.2 17 j
                    have v0 : 0 ≤ τ41.1 0 ∧ τ41.1 0 ≤ 60000 := hT.1 0
                    have v3 : 0 ≤ τ41.1 3 ∧ τ41.1 3 ≤ 1000 := hT.1 3
                    have v4 : 0 ≤ τ41.1 4 ∧ τ41.1 4 ≤ 100 := hT.1 4
                    have v5 : 0 ≤ τ41.1 5 ∧ τ41.1 5 ≤ 1500 := hT.1 5
                    have v6 : 0 ≤ τ41.1 6 ∧ τ41.1 6 ≤ 30000 := hT.1 6
                    have v7 : 0 ≤ τ41.1 7 ∧ τ41.1 7 ≤ 90000 := hT.1 7
                    have v8 : 0 ≤ τ41.1 8 ∧ τ41.1 8 ≤ 20000 := hT.1 8
                    have v9 : 0 ≤ τ41.1 9 ∧ τ41.1 9 ≤ 20000 := hT.1 9
                    have v10 : (-1) ≤ τ41.1 10 ∧ τ41.1 10 ≤ 999 := hT.1 10
                    have v11 : (-1) ≤ τ41.1 11 ∧ τ41.1 11 ≤ 999 := hT.1 11
                    have v17 : 0 ≤ τ41.1 17 ∧ τ41.1 17 ≤ 60000 := hT.1 17
                    have v18 : 0 ≤ τ41.1 18 ∧ τ41.1 18 ≤ 60000 := hT.1 18
                    have v19 : (-1) ≤ τ41.1 19 ∧ τ41.1 19 ≤ 125 := hT.1 19
                    have v20 : 0 ≤ τ41.1 20 ∧ τ41.1 20 ≤ 19 := hT.1 20
                    have v22 : 0 ≤ τ41.1 22 ∧ τ41.1 22 ≤ 1499 := hT.1 22
                    have a14_22 : 0 ≤ τ41.2.1 14 (τ41.1 22) ∧ τ41.2.1 14 (τ41.1 22) ≤ 30000 := hT.2 14 _
                    have a15_22 : 0 ≤ τ41.2.1 15 (τ41.1 22) ∧ τ41.2.1 15 (τ41.1 22) ≤ 300 := hT.2 15 _
                    have av6 : σ.1 6 ≤ τ41.1 6 := ag.1 6 (by decide)
                    have Y20 : ca (τ41.2.1 12) (τ41.1 3) ≤ τ41.1 4 := by rw [g12_τ41, w3_τ41]; omega
                    have Z1 : τ41.2.1 14 (τ41.1 22) + τ41.2.1 15 (τ41.1 22) = τ41.1 6 := by omega
                    exact ⟨hT, (show (τ41.1 20) = 0 → τ41.2.1 15 (τ41.1 22) = 1 from by (first | omega | (simp only [st_s] <;> omega) | assumption | omega | fail)), (show τ41.2.1 15 (τ41.1 22) ≤ 1 from by (first | omega | (simp only [st_s] <;> omega) | assumption | omega | fail)), (show ¬ (σ.1 20) = 0 → (τ41.1 20) = (σ.1 20) from by (first | omega | (simp only [st_s] <;> omega) | assumption | omega | fail)), (show τ41.2.1 14 (τ41.1 22) + τ41.2.1 15 (τ41.1 22) = (τ41.1 6) from Z1), (show ca (τ41.2.1 12) ((τ41.1 3)) ≤ (τ41.1 4) from Y20), ag, (show (τ41.1 20) = 0 → n_N (τ41.2.1 14 (τ41.1 22)) (τ41.2.1 14 (τ41.1 22) + τ41.2.1 15 (τ41.1 22)) (σ.1 3) (σ.2.1 8) (σ.2.1 11) (τ41.2.1 12) (τ41.2.1 16) (τ41.2.1 17) from by (first | (intro z; exfalso; omega) | (intro _; rw [show τ41.2.1 14 (τ41.1 22) = σ.1 6 from by omega, show σ.1 6 + τ41.2.1 15 (τ41.1 22) = σ.1 6 + 1 from by omega]; exact n_N_1 q39_4 q39_5 (by omega) (x3lt (by omega)) (by rw [g12_τ41, st_s]; decide)) | fail)), (show n_rl σ τ41 from by (first | exact n_rl_h hf_τ11 rfl rfl | exact n_rl_h hf_τ20 rfl rfl | exact n_rl_h hf_τ29 rfl rfl | exact n_rl_h hf_τ36 rfl rfl | exact ⟨fun s _ _ _ => by rw [g10_τ41], fun s _ _ h => by (rw [g12_τ41]; by_cases z : s = x3; (rw [z, st_s]; decide); (rw [st_n _ _ z]; exact h)), Or.inl (by omega), Or.inl (by omega), by omega, fun zt s a b => by (rw [g10_τ41]; have h3 := zt s a (by omega); omega)⟩ | fail)), (show ∀ s : Int, ¬ σ.2.1 12 s = 0 → ¬ τ41.2.1 12 s = 0 from by (first | exact fun s h => by (rw [G12]; exact h) | exact fun s h => by (rw [g12_τ41]; by_cases z : s = x3; (rw [z, st_s]; decide); (rw [st_n _ _ z]; exact h)) | (intro s h; first | (rw [hf_τ11.2.1 12 (by decide)]; exact h) | (rw [hf_τ20.2.1 12 (by decide)]; exact h) | (rw [hf_τ29.2.1 12 (by decide)]; exact h) | (rw [hf_τ36.2.1 12 (by decide)]; exact h)) | fail))⟩
                  ·
                    refine h143 _ _ _ _ ?_
                    refine ⟨(⟨by (first | omega | (simp only [st_s] <;> omega) | assumption | omega | fail), by (first | omega | (simp only [st_s] <;> omega) | assumption | omega | fail)⟩ : rg ((σ.1 4) + 0)), ?_⟩
                    replace ag := ag_v (i := 4) (x := ((σ.1 4) + 0)) ag (Or.inl rfl)
                    replace hT := mT_v (i := 4) hT (show 0 ≤ ((σ.1 4) + 0) ∧ ((σ.1 4) + 0) ≤ 100 from by (first | omega | (simp only [st_s] <;> omega) | assumption | omega | fail))
                    have ct0 := ca_t0 (σ.2.1 12) x3 ((σ.1 3)) 1 (by omega) (by omega)
                    have ct2 := ca_t2 (σ.2.1 12) (e := x3) ((σ.1 3)) 1 (by omega) (by omega)
                    refine ⟨(show 0 ≤ x3 ∧ x3 < 1001 from by (first | omega | (simp only [st_s] <;> omega) | assumption | omega | fail)), ?_⟩
                    replace ag := ag_a (k := 12) (e := x3) (x := 1) ag rfl
                    replace hT := mT_a (k := 12) (j := x3) hT (show (0 : Int) ≤ 1 ∧ 1 ≤ 1 from by (first | omega | (simp only [st_s] <;> omega) | assumption | omega | fail))
                    have y14q : σ.2.1 14 (σ.1 22) = σ.1 6 := by omega
                    refine ⟨_, K3_X13_addSymbol hT (show 0 ≤ x3 from by (first | omega | (simp only [st_s] <;> omega) | assumption | omega | fail)) (show x3 < 1000 from by (first | omega | (simp only [st_s] <;> omega) | assumption | omega | fail)) (show -1 ≤ (-1 : Int) from by (first | omega | (simp only [st_s] <;> omega) | assumption | omega | fail)) (show (-1 : Int) ≤ 1499 from by (first | omega | (simp only [st_s] <;> omega) | assumption | omega | fail)) (show (σ.1 6) < 30000 from by (first | omega | (simp only [st_s] <;> omega) | assumption | omega | fail)) (show σ.2.1 15 (σ.1 22) < 300 from by (first | omega | (simp only [st_s] <;> omega) | assumption | omega | fail)) (show (σ.1 22) = (σ.1 5) from by (first | omega | (simp only [st_s] <;> omega) | assumption | omega | fail)), ?_⟩
                    intro τ41 hn_τ41 hf_τ41 hq
                    obtain ⟨hT, q39_1, q39_2, q39_3, q39_4, q39_5⟩ := hq
                    replace q39_1 : (τ41.1 6) = (σ.1 6) + 1 := q39_1
                    replace q39_2 : τ41.2.1 15 (τ41.1 22) = σ.2.1 15 (σ.1 22) + 1 := q39_2
                    replace q39_3 : m_ag (s_a (s_v σ 4 ((σ.1 4) + 0)) 12 x3 1) τ41 := q39_3
                    replace q39_4 : τ41.2.1 16 = st (σ.2.1 16) (σ.1 6) x3 := q39_4
                    replace q39_5 : τ41.2.1 17 = st (σ.2.1 17) (σ.1 6) (-1 : Int) := q39_5
                    replace ag : m_ag σ τ41 := ag_t ag q39_3 rfl
                    have w0_τ41 : τ41.1 0 = σ.1 0 := hf_τ41.1 0 (by decide)
                    have w3_τ41 : τ41.1 3 = σ.1 3 := hf_τ41.1 3 (by decide)
                    have w4_τ41 : τ41.1 4 = ((σ.1 4) + 0) := hf_τ41.1 4 (by decide)
                    have w5_τ41 : τ41.1 5 = σ.1 5 := hf_τ41.1 5 (by decide)
                    have w7_τ41 : τ41.1 7 = σ.1 7 := hf_τ41.1 7 (by decide)
                    have w8_τ41 : τ41.1 8 = σ.1 8 := hf_τ41.1 8 (by decide)
                    have w9_τ41 : τ41.1 9 = σ.1 9 := hf_τ41.1 9 (by decide)
                    have w10_τ41 : τ41.1 10 = σ.1 10 := hf_τ41.1 10 (by decide)
                    have w11_τ41 : τ41.1 11 = σ.1 11 := hf_τ41.1 11 (by decide)
                    have w17_τ41 : τ41.1 17 = σ.1 17 := hf_τ41.1 17 (by decide)
                    have w18_τ41 : τ41.1 18 = σ.1 18 := hf_τ41.1 18 (by decide)
                    have w19_τ41 : τ41.1 19 = σ.1 19 := hf_τ41.1 19 (by decide)
                    have w20_τ41 : τ41.1 20 = σ.1 20 := hf_τ41.1 20 (by decide)
                    have w22_τ41 : τ41.1 22 = σ.1 22 := hf_τ41.1 22 (by decide)
                    have g6_τ41 : τ41.2.1 6 = σ.2.1 6 := hf_τ41.2.1 6 (by decide)
                    have g8_τ41 : τ41.2.1 8 = σ.2.1 8 := hf_τ41.2.1 8 (by decide)
                    have g10_τ41 : τ41.2.1 10 = σ.2.1 10 := hf_τ41.2.1 10 (by decide)
                    have g11_τ41 : τ41.2.1 11 = σ.2.1 11 := hf_τ41.2.1 11 (by decide)
                    have g12_τ41 : τ41.2.1 12 = (st (σ.2.1 12) x3 1) := hf_τ41.2.1 12 (by decide)
                    have g14_τ41 : τ41.2.1 14 = σ.2.1 14 := hf_τ41.2.1 14 (by decide)
                    first | (have o6_τ41 := congrArg oc g6_τ41) | skip
                    have W0 : τ41.1 0 = σ.1 0 := by first | exact w0_τ41.trans W0 | omega
                    have W3 : τ41.1 3 = σ.1 3 := by first | exact w3_τ41.trans W3 | omega
                    have W5 : τ41.1 5 = σ.1 5 := by first | exact w5_τ41.trans W5 | omega
                    have W7 : τ41.1 7 = σ.1 7 := by first | exact w7_τ41.trans W7 | omega
                    have W8 : τ41.1 8 = σ.1 8 := by first | exact w8_τ41.trans W8 | omega
                    have W9 : τ41.1 9 = σ.1 9 := by first | exact w9_τ41.trans W9 | omega
                    have W10 : τ41.1 10 = σ.1 10 := by first | exact w10_τ41.trans W10 | omega
                    have W11 : τ41.1 11 = σ.1 11 := by first | exact w11_τ41.trans W11 | omega
                    have W17 : τ41.1 17 = σ.1 17 := by first | exact w17_τ41.trans W17 | omega
                    have W18 : τ41.1 18 = σ.1 18 := by first | exact w18_τ41.trans W18 | omega
                    have W19 : τ41.1 19 = σ.1 19 := by first | exact w19_τ41.trans W19 | omega
                    have W22 : τ41.1 22 = σ.1 22 := by first | exact w22_τ41.trans W22 | omega
                    have G6 : τ41.2.1 6 = σ.2.1 6 := (g6_τ41).trans G6
                    have G8 : τ41.2.1 8 = σ.2.1 8 := (g8_τ41).trans G8
                    have G10 : τ41.2.1 10 = σ.2.1 10 := (g10_τ41).trans G10
                    have G11 : τ41.2.1 11 = σ.2.1 11 := (g11_τ41).trans G11
                    have G14 : τ41.2.1 14 = σ.2.1 14 := (g14_τ41).trans G14
                    have y14_22_τ41 : τ41.2.1 14 (τ41.1 22) = (σ.2.1 14) (σ.1 22) := by rw [g14_τ41, w22_τ41]
                    have Y1 : j_l2 (τ41.2.1 6) (τ41.1 3) := by rw [show (j_l2 (τ41.2.1 6) (τ41.1 3)) = (j_l2 (σ.2.1 6) (σ.1 3)) from by rw [w3_τ41, g6_τ41]]; exact Y1
                    have STt : j_l2 (τ41.2.1 6) (τ41.1 3) := by rw [show (j_l2 (τ41.2.1 6) (τ41.1 3)) = (j_l2 (σ.2.1 6) (σ.1 3)) from by rw [w3_τ41, g6_τ41]]; exact STt
                    have A6 : ∀ j, (-1) ≤ τ41.2.1 6 j ∧ τ41.2.1 6 j ≤ 999 := fun j => hT.2 6 j
                    have A8 : ∀ j, 0 ≤ τ41.2.1 8 j ∧ τ41.2.1 8 j ≤ 1 := fun j => hT.2 8 j
                    have A10 : ∀ j, (-1) ≤ τ41.2.1 10 j ∧ τ41.2.1 10 j ≤ 999 := fun j => hT.2 10 j
                    have A11 : ∀ j, (-1) ≤ τ41.2.1 11 j ∧ τ41.2.1 11 j ≤ 1499 := fun j => hT.2 11 j
                    have A12 : ∀ j, 0 ≤ τ41.2.1 12 j ∧ τ41.2.1 12 j ≤ 1 := fun j => hT.2 12 j
                    have A14 : ∀ j, 0 ≤ τ41.2.1 14 j ∧ τ41.2.1 14 j ≤ 30000 := fun j => hT.2 14 j
                    have A15 : ∀ j, 0 ≤ τ41.2.1 15 j ∧ τ41.2.1 15 j ≤ 300 := fun j => hT.2 15 j
                    have A16 : ∀ j, 0 ≤ τ41.2.1 16 j ∧ τ41.2.1 16 j ≤ 999 := fun j => hT.2 16 j
                    have A17 : ∀ j, (-1) ≤ τ41.2.1 17 j ∧ τ41.2.1 17 j ≤ 1499 := fun j => hT.2 17 j
                    have v0 : 0 ≤ τ41.1 0 ∧ τ41.1 0 ≤ 60000 := hT.1 0
                    have v3 : 0 ≤ τ41.1 3 ∧ τ41.1 3 ≤ 1000 := hT.1 3
                    have v4 : 0 ≤ τ41.1 4 ∧ τ41.1 4 ≤ 100 := hT.1 4
                    have v5 : 0 ≤ τ41.1 5 ∧ τ41.1 5 ≤ 1500 := hT.1 5
                    have v6 : 0 ≤ τ41.1 6 ∧ τ41.1 6 ≤ 30000 := hT.1 6
                    have v7 : 0 ≤ τ41.1 7 ∧ τ41.1 7 ≤ 90000 := hT.1 7
                    have v8 : 0 ≤ τ41.1 8 ∧ τ41.1 8 ≤ 20000 := hT.1 8
                    have v9 : 0 ≤ τ41.1 9 ∧ τ41.1 9 ≤ 20000 := hT.1 9
                    have v10 : (-1) ≤ τ41.1 10 ∧ τ41.1 10 ≤ 999 := hT.1 10
                    have v11 : (-1) ≤ τ41.1 11 ∧ τ41.1 11 ≤ 999 := hT.1 11
                    have v17 : 0 ≤ τ41.1 17 ∧ τ41.1 17 ≤ 60000 := hT.1 17
                    have v18 : 0 ≤ τ41.1 18 ∧ τ41.1 18 ≤ 60000 := hT.1 18
                    have v19 : (-1) ≤ τ41.1 19 ∧ τ41.1 19 ≤ 125 := hT.1 19
                    have v20 : 0 ≤ τ41.1 20 ∧ τ41.1 20 ≤ 19 := hT.1 20
                    have v22 : 0 ≤ τ41.1 22 ∧ τ41.1 22 ≤ 1499 := hT.1 22
                    have a14_22 : 0 ≤ τ41.2.1 14 (τ41.1 22) ∧ τ41.2.1 14 (τ41.1 22) ≤ 30000 := hT.2 14 _
                    have a15_22 : 0 ≤ τ41.2.1 15 (τ41.1 22) ∧ τ41.2.1 15 (τ41.1 22) ≤ 300 := hT.2 15 _
                    have av6 : σ.1 6 ≤ τ41.1 6 := ag.1 6 (by decide)
                    have Y20 : ca (τ41.2.1 12) (τ41.1 3) ≤ τ41.1 4 := by rw [g12_τ41, w3_τ41]; omega
                    have Z1 : τ41.2.1 14 (τ41.1 22) + τ41.2.1 15 (τ41.1 22) = τ41.1 6 := by omega
                    exact ⟨hT, (show (τ41.1 20) = 0 → τ41.2.1 15 (τ41.1 22) = 1 from by (first | omega | (simp only [st_s] <;> omega) | assumption | omega | fail)), (show τ41.2.1 15 (τ41.1 22) ≤ 1 from by (first | omega | (simp only [st_s] <;> omega) | assumption | omega | fail)), (show ¬ (σ.1 20) = 0 → (τ41.1 20) = (σ.1 20) from by (first | omega | (simp only [st_s] <;> omega) | assumption | omega | fail)), (show τ41.2.1 14 (τ41.1 22) + τ41.2.1 15 (τ41.1 22) = (τ41.1 6) from Z1), (show ca (τ41.2.1 12) ((τ41.1 3)) ≤ (τ41.1 4) from Y20), ag, (show (τ41.1 20) = 0 → n_N (τ41.2.1 14 (τ41.1 22)) (τ41.2.1 14 (τ41.1 22) + τ41.2.1 15 (τ41.1 22)) (σ.1 3) (σ.2.1 8) (σ.2.1 11) (τ41.2.1 12) (τ41.2.1 16) (τ41.2.1 17) from by (first | (intro z; exfalso; omega) | (intro _; rw [show τ41.2.1 14 (τ41.1 22) = σ.1 6 from by omega, show σ.1 6 + τ41.2.1 15 (τ41.1 22) = σ.1 6 + 1 from by omega]; exact n_N_1 q39_4 q39_5 (by omega) (x3lt (by omega)) (by rw [g12_τ41, st_s]; decide)) | fail)), (show n_rl σ τ41 from by (first | exact n_rl_h hf_τ11 rfl rfl | exact n_rl_h hf_τ20 rfl rfl | exact n_rl_h hf_τ29 rfl rfl | exact n_rl_h hf_τ36 rfl rfl | exact ⟨fun s _ _ _ => by rw [g10_τ41], fun s _ _ h => by (rw [g12_τ41]; by_cases z : s = x3; (rw [z, st_s]; decide); (rw [st_n _ _ z]; exact h)), Or.inl (by omega), Or.inl (by omega), by omega, fun zt s a b => by (rw [g10_τ41]; have h3 := zt s a (by omega); omega)⟩ | fail)), (show ∀ s : Int, ¬ σ.2.1 12 s = 0 → ¬ τ41.2.1 12 s = 0 from by (first | exact fun s h => by (rw [G12]; exact h) | exact fun s h => by (rw [g12_τ41]; by_cases z : s = x3; (rw [z, st_s]; decide); (rw [st_n _ _ z]; exact h)) | (intro s h; first | (rw [hf_τ11.2.1 12 (by decide)]; exact h) | (rw [hf_τ20.2.1 12 (by decide)]; exact h) | (rw [hf_τ29.2.1 12 (by decide)]; exact h) | (rw [hf_τ36.2.1 12 (by decide)]; exact h)) | fail))⟩
                ·
                  refine ⟨_, K_X13_failHere hT (show 0 ≤ (10 : Int) from by (first | omega | (simp only [st_s] <;> omega) | assumption | omega | fail)) (show (10 : Int) ≤ 19 from by (first | omega | (simp only [st_s] <;> omega) | assumption | omega | fail)), ?_⟩
                  intro τ36 hn_τ36 hf_τ36 hq
                  obtain ⟨hT, q34_1, q34_2⟩ := hq
                  replace q34_1 : ¬ (σ.1 20) = 0 → (τ36.1 20) = (σ.1 20) := q34_1
                  replace q34_2 : (σ.1 20) = 0 → (τ36.1 20) = (10 : Int) := q34_2
                  replace ag : m_ag σ τ36 := ag_r ag hf_τ36 rfl rfl
                  have w0_τ36 : τ36.1 0 = σ.1 0 := hf_τ36.1 0 (by decide)
                  have w3_τ36 : τ36.1 3 = σ.1 3 := hf_τ36.1 3 (by decide)
                  have w4_τ36 : τ36.1 4 = σ.1 4 := hf_τ36.1 4 (by decide)
                  have w5_τ36 : τ36.1 5 = σ.1 5 := hf_τ36.1 5 (by decide)
                  have w6_τ36 : τ36.1 6 = σ.1 6 := hf_τ36.1 6 (by decide)
                  have w7_τ36 : τ36.1 7 = σ.1 7 := hf_τ36.1 7 (by decide)
                  have w8_τ36 : τ36.1 8 = σ.1 8 := hf_τ36.1 8 (by decide)
                  have w9_τ36 : τ36.1 9 = σ.1 9 := hf_τ36.1 9 (by decide)
                  have w10_τ36 : τ36.1 10 = σ.1 10 := hf_τ36.1 10 (by decide)
                  have w11_τ36 : τ36.1 11 = σ.1 11 := hf_τ36.1 11 (by decide)
                  have w17_τ36 : τ36.1 17 = σ.1 17 := hf_τ36.1 17 (by decide)
                  have w18_τ36 : τ36.1 18 = σ.1 18 := hf_τ36.1 18 (by decide)
                  have w19_τ36 : τ36.1 19 = σ.1 19 := hf_τ36.1 19 (by decide)
                  have w22_τ36 : τ36.1 22 = σ.1 22 := hf_τ36.1 22 (by decide)
                  have g6_τ36 : τ36.2.1 6 = σ.2.1 6 := hf_τ36.2.1 6 (by decide)
                  have g8_τ36 : τ36.2.1 8 = σ.2.1 8 := hf_τ36.2.1 8 (by decide)
                  have g10_τ36 : τ36.2.1 10 = σ.2.1 10 := hf_τ36.2.1 10 (by decide)
                  have g11_τ36 : τ36.2.1 11 = σ.2.1 11 := hf_τ36.2.1 11 (by decide)
                  have g12_τ36 : τ36.2.1 12 = σ.2.1 12 := hf_τ36.2.1 12 (by decide)
                  have g14_τ36 : τ36.2.1 14 = σ.2.1 14 := hf_τ36.2.1 14 (by decide)
                  have g15_τ36 : τ36.2.1 15 = σ.2.1 15 := hf_τ36.2.1 15 (by decide)
                  have g16_τ36 : τ36.2.1 16 = σ.2.1 16 := hf_τ36.2.1 16 (by decide)
                  have g17_τ36 : τ36.2.1 17 = σ.2.1 17 := hf_τ36.2.1 17 (by decide)
                  first | (have o6_τ36 := congrArg oc g6_τ36) | skip
                  have W0 : τ36.1 0 = σ.1 0 := by first | exact w0_τ36.trans W0 | omega
                  have W3 : τ36.1 3 = σ.1 3 := by first | exact w3_τ36.trans W3 | omega
                  have W5 : τ36.1 5 = σ.1 5 := by first | exact w5_τ36.trans W5 | omega
                  have W7 : τ36.1 7 = σ.1 7 := by first | exact w7_τ36.trans W7 | omega
                  have W8 : τ36.1 8 = σ.1 8 := by first | exact w8_τ36.trans W8 | omega
                  have W9 : τ36.1 9 = σ.1 9 := by first | exact w9_τ36.trans W9 | omega
                  have W10 : τ36.1 10 = σ.1 10 := by first | exact w10_τ36.trans W10 | omega
                  have W11 : τ36.1 11 = σ.1 11 := by first | exact w11_τ36.trans W11 | omega
                  have W17 : τ36.1 17 = σ.1 17 := by first | exact w17_τ36.trans W17 | omega
                  have W18 : τ36.1 18 = σ.1 18 := by first | exact w18_τ36.trans W18 | omega
                  have W19 : τ36.1 19 = σ.1 19 := by first | exact w19_τ36.trans W19 | omega
                  have W22 : τ36.1 22 = σ.1 22 := by first | exact w22_τ36.trans W22 | omega
                  have G6 : τ36.2.1 6 = σ.2.1 6 := (g6_τ36).trans G6
                  have G8 : τ36.2.1 8 = σ.2.1 8 := (g8_τ36).trans G8
                  have G10 : τ36.2.1 10 = σ.2.1 10 := (g10_τ36).trans G10
                  have G11 : τ36.2.1 11 = σ.2.1 11 := (g11_τ36).trans G11
                  have G14 : τ36.2.1 14 = σ.2.1 14 := (g14_τ36).trans G14
                  have y14_22_τ36 : τ36.2.1 14 (τ36.1 22) = (σ.2.1 14) (σ.1 22) := by rw [g14_τ36, w22_τ36]
                  have y15_22_τ36 : τ36.2.1 15 (τ36.1 22) = (σ.2.1 15) (σ.1 22) := by rw [g15_τ36, w22_τ36]
                  have Z1 : τ36.2.1 14 (τ36.1 22) + τ36.2.1 15 (τ36.1 22) = (τ36.1 6) := by rw [show (τ36.2.1 14 (τ36.1 22) + τ36.2.1 15 (τ36.1 22) = (τ36.1 6)) = (σ.2.1 14 (σ.1 22) + σ.2.1 15 (σ.1 22) = (σ.1 6)) from by rw [w6_τ36, w22_τ36, g14_τ36, g15_τ36]]; exact Z1
                  have Y20 : ca (τ36.2.1 12) ((τ36.1 3)) ≤ (τ36.1 4) := by rw [show (ca (τ36.2.1 12) ((τ36.1 3)) ≤ (τ36.1 4)) = (ca (σ.2.1 12) ((σ.1 3)) ≤ (σ.1 4)) from by rw [w3_τ36, w4_τ36, g12_τ36]]; exact Y20
                  have Y1 : j_l2 (τ36.2.1 6) (τ36.1 3) := by rw [show (j_l2 (τ36.2.1 6) (τ36.1 3)) = (j_l2 (σ.2.1 6) (σ.1 3)) from by rw [w3_τ36, g6_τ36]]; exact Y1
                  have STt : j_l2 (τ36.2.1 6) (τ36.1 3) := by rw [show (j_l2 (τ36.2.1 6) (τ36.1 3)) = (j_l2 (σ.2.1 6) (σ.1 3)) from by rw [w3_τ36, g6_τ36]]; exact STt
                  have A6 : ∀ j, (-1) ≤ τ36.2.1 6 j ∧ τ36.2.1 6 j ≤ 999 := fun j => hT.2 6 j
                  have A8 : ∀ j, 0 ≤ τ36.2.1 8 j ∧ τ36.2.1 8 j ≤ 1 := fun j => hT.2 8 j
                  have A10 : ∀ j, (-1) ≤ τ36.2.1 10 j ∧ τ36.2.1 10 j ≤ 999 := fun j => hT.2 10 j
                  have A11 : ∀ j, (-1) ≤ τ36.2.1 11 j ∧ τ36.2.1 11 j ≤ 1499 := fun j => hT.2 11 j
                  have A12 : ∀ j, 0 ≤ τ36.2.1 12 j ∧ τ36.2.1 12 j ≤ 1 := fun j => hT.2 12 j
                  have A14 : ∀ j, 0 ≤ τ36.2.1 14 j ∧ τ36.2.1 14 j ≤ 30000 := fun j => hT.2 14 j
                  have A15 : ∀ j, 0 ≤ τ36.2.1 15 j ∧ τ36.2.1 15 j ≤ 300 := fun j => hT.2 15 j
                  have A16 : ∀ j, 0 ≤ τ36.2.1 16 j ∧ τ36.2.1 16 j ≤ 999 := fun j => hT.2 16 j
                  have A17 : ∀ j, (-1) ≤ τ36.2.1 17 j ∧ τ36.2.1 17 j ≤ 1499 := fun j => hT.2 17 j
                  have v0 : 0 ≤ τ36.1 0 ∧ τ36.1 0 ≤ 60000 := hT.1 0
                  have v3 : 0 ≤ τ36.1 3 ∧ τ36.1 3 ≤ 1000 := hT.1 3
                  have v4 : 0 ≤ τ36.1 4 ∧ τ36.1 4 ≤ 100 := hT.1 4
                  have v5 : 0 ≤ τ36.1 5 ∧ τ36.1 5 ≤ 1500 := hT.1 5
                  have v6 : 0 ≤ τ36.1 6 ∧ τ36.1 6 ≤ 30000 := hT.1 6
                  have v7 : 0 ≤ τ36.1 7 ∧ τ36.1 7 ≤ 90000 := hT.1 7
                  have v8 : 0 ≤ τ36.1 8 ∧ τ36.1 8 ≤ 20000 := hT.1 8
                  have v9 : 0 ≤ τ36.1 9 ∧ τ36.1 9 ≤ 20000 := hT.1 9
                  have v10 : (-1) ≤ τ36.1 10 ∧ τ36.1 10 ≤ 999 := hT.1 10
                  have v11 : (-1) ≤ τ36.1 11 ∧ τ36.1 11 ≤ 999 := hT.1 11
                  have v17 : 0 ≤ τ36.1 17 ∧ τ36.1 17 ≤ 60000 := hT.1 17
                  have v18 : 0 ≤ τ36.1 18 ∧ τ36.1 18 ≤ 60000 := hT.1 18
                  have v19 : (-1) ≤ τ36.1 19 ∧ τ36.1 19 ≤ 125 := hT.1 19
                  have v20 : 0 ≤ τ36.1 20 ∧ τ36.1 20 ≤ 19 := hT.1 20
                  have v22 : 0 ≤ τ36.1 22 ∧ τ36.1 22 ≤ 1499 := hT.1 22
                  have a14_22 : 0 ≤ τ36.2.1 14 (τ36.1 22) ∧ τ36.2.1 14 (τ36.1 22) ≤ 30000 := hT.2 14 _
                  have a15_22 : 0 ≤ τ36.2.1 15 (τ36.1 22) ∧ τ36.2.1 15 (τ36.1 22) ≤ 300 := hT.2 15 _
                  have av6 : σ.1 6 ≤ τ36.1 6 := ag.1 6 (by decide)
                  exact ⟨hT, (show (τ36.1 20) = 0 → τ36.2.1 15 (τ36.1 22) = 1 from by (first | omega | (simp only [st_s] <;> omega) | assumption | omega | fail)), (show τ36.2.1 15 (τ36.1 22) ≤ 1 from by (first | omega | (simp only [st_s] <;> omega) | assumption | omega | fail)), (show ¬ (σ.1 20) = 0 → (τ36.1 20) = (σ.1 20) from by (first | omega | (simp only [st_s] <;> omega) | assumption | omega | fail)), (show τ36.2.1 14 (τ36.1 22) + τ36.2.1 15 (τ36.1 22) = (τ36.1 6) from Z1), (show ca (τ36.2.1 12) ((τ36.1 3)) ≤ (τ36.1 4) from Y20), ag, (show (τ36.1 20) = 0 → n_N (τ36.2.1 14 (τ36.1 22)) (τ36.2.1 14 (τ36.1 22) + τ36.2.1 15 (τ36.1 22)) (σ.1 3) (σ.2.1 8) (σ.2.1 11) (τ36.2.1 12) (τ36.2.1 16) (τ36.2.1 17) from by (first | (intro z; exfalso; omega) | (intro _; rw [show τ41.2.1 14 (τ41.1 22) = σ.1 6 from by omega, show σ.1 6 + τ41.2.1 15 (τ41.1 22) = σ.1 6 + 1 from by omega]; exact n_N_1 q39_4 q39_5 (by omega) (x3lt (by omega)) (by rw [g12_τ41, st_s]; decide)) | fail)), (show n_rl σ τ36 from by (first | exact n_rl_h hf_τ11 rfl rfl | exact n_rl_h hf_τ20 rfl rfl | exact n_rl_h hf_τ29 rfl rfl | exact n_rl_h hf_τ36 rfl rfl | exact ⟨fun s _ _ _ => by rw [g10_τ41], fun s _ _ h => by (rw [g12_τ41]; by_cases z : s = x3; (rw [z, st_s]; decide); (rw [st_n _ _ z]; exact h)), Or.inl (by omega), Or.inl (by omega), by omega, fun zt s a b => by (rw [g10_τ41]; have h3 := zt s a (by omega); omega)⟩ | fail)), (show ∀ s : Int, ¬ σ.2.1 12 s = 0 → ¬ τ36.2.1 12 s = 0 from by (first | exact fun s h => by (rw [G12]; exact h) | exact fun s h => by (rw [g12_τ41]; by_cases z : s = x3; (rw [z, st_s]; decide); (rw [st_n _ _ z]; exact h)) | (intro s h; first | (rw [hf_τ11.2.1 12 (by decide)]; exact h) | (rw [hf_τ20.2.1 12 (by decide)]; exact h) | (rw [hf_τ29.2.1 12 (by decide)]; exact h) | (rw [hf_τ36.2.1 12 (by decide)]; exact h)) | fail))⟩
              ·
                intro x25 r_x25 e_x25
                have b_x25 : 0 ≤ x25 ∧ x25 ≤ 1 := by rw [e_x25]; exact hT.2 9 _
                refine ⟨fun c26 => ?_, fun c26 => ?_⟩
                ·
                  refine h111 _ _ _ ?_
                  refine ⟨fun c30 => ?_, fun c30 => ?_⟩
                  ·
                    refine ⟨(show 0 ≤ x3 ∧ x3 < 1001 from by (first | omega | (simp only [st_s] <;> omega) | assumption | omega | fail)), ?_⟩
                    intro x32 r_x32 e_x32
                    have b_x32 : 0 ≤ x32 ∧ x32 ≤ 1 := by rw [e_x32]; exact hT.2 12 _
                    refine ⟨fun c33 => ?_, fun c33 => ?_⟩
                    ·
                      refine h143 _ _ _ _ ?_
                      refine ⟨(⟨by (first | omega | (simp only [st_s] <;> omega) | assumption | omega | fail), by (first | omega | (simp only [st_s] <;> omega) | assumption | omega | fail)⟩ : rg ((σ.1 4) + 1)), ?_⟩
                      replace ag := ag_v (i := 4) (x := ((σ.1 4) + 1)) ag (Or.inl rfl)
                      replace hT := mT_v (i := 4) hT (show 0 ≤ ((σ.1 4) + 1) ∧ ((σ.1 4) + 1) ≤ 100 from by (first | omega | (simp only [st_s] <;> omega) | assumption | omega | fail))
                      have ct0 := ca_t0 (σ.2.1 12) x3 ((σ.1 3)) 1 (by omega) (by omega)
                      have ct2 := ca_t2 (σ.2.1 12) (e := x3) ((σ.1 3)) 1 (by omega) (by omega)
                      refine ⟨(show 0 ≤ x3 ∧ x3 < 1001 from by (first | omega | (simp only [st_s] <;> omega) | assumption | omega | fail)), ?_⟩
                      replace ag := ag_a (k := 12) (e := x3) (x := 1) ag rfl
                      replace hT := mT_a (k := 12) (j := x3) hT (show (0 : Int) ≤ 1 ∧ 1 ≤ 1 from by (first | omega | (simp only [st_s] <;> omega) | assumption | omega | fail))
                      have y14q : σ.2.1 14 (σ.1 22) = σ.1 6 := by omega
                      refine ⟨_, K3_X13_addSymbol hT (show 0 ≤ x3 from by (first | omega | (simp only [st_s] <;> omega) | assumption | omega | fail)) (show x3 < 1000 from by (first | omega | (simp only [st_s] <;> omega) | assumption | omega | fail)) (show -1 ≤ (-1 : Int) from by (first | omega | (simp only [st_s] <;> omega) | assumption | omega | fail)) (show (-1 : Int) ≤ 1499 from by (first | omega | (simp only [st_s] <;> omega) | assumption | omega | fail)) (show (σ.1 6) < 30000 from by (first | omega | (simp only [st_s] <;> omega) | assumption | omega | fail)) (show σ.2.1 15 (σ.1 22) < 300 from by (first | omega | (simp only [st_s] <;> omega) | assumption | omega | fail)) (show (σ.1 22) = (σ.1 5) from by (first | omega | (simp only [st_s] <;> omega) | assumption | omega | fail)), ?_⟩
                      intro τ41 hn_τ41 hf_τ41 hq
                      obtain ⟨hT, q39_1, q39_2, q39_3, q39_4, q39_5⟩ := hq
                      replace q39_1 : (τ41.1 6) = (σ.1 6) + 1 := q39_1
                      replace q39_2 : τ41.2.1 15 (τ41.1 22) = σ.2.1 15 (σ.1 22) + 1 := q39_2
                      replace q39_3 : m_ag (s_a (s_v σ 4 ((σ.1 4) + 1)) 12 x3 1) τ41 := q39_3
                      replace q39_4 : τ41.2.1 16 = st (σ.2.1 16) (σ.1 6) x3 := q39_4
                      replace q39_5 : τ41.2.1 17 = st (σ.2.1 17) (σ.1 6) (-1 : Int) := q39_5
                      replace ag : m_ag σ τ41 := ag_t ag q39_3 rfl
                      have w0_τ41 : τ41.1 0 = σ.1 0 := hf_τ41.1 0 (by decide)
                      have w3_τ41 : τ41.1 3 = σ.1 3 := hf_τ41.1 3 (by decide)
                      have w4_τ41 : τ41.1 4 = ((σ.1 4) + 1) := hf_τ41.1 4 (by decide)
                      have w5_τ41 : τ41.1 5 = σ.1 5 := hf_τ41.1 5 (by decide)
                      have w7_τ41 : τ41.1 7 = σ.1 7 := hf_τ41.1 7 (by decide)
                      have w8_τ41 : τ41.1 8 = σ.1 8 := hf_τ41.1 8 (by decide)
                      have w9_τ41 : τ41.1 9 = σ.1 9 := hf_τ41.1 9 (by decide)
                      have w10_τ41 : τ41.1 10 = σ.1 10 := hf_τ41.1 10 (by decide)
                      have w11_τ41 : τ41.1 11 = σ.1 11 := hf_τ41.1 11 (by decide)
                      have w17_τ41 : τ41.1 17 = σ.1 17 := hf_τ41.1 17 (by decide)
                      have w18_τ41 : τ41.1 18 = σ.1 18 := hf_τ41.1 18 (by decide)
                      have w19_τ41 : τ41.1 19 = σ.1 19 := hf_τ41.1 19 (by decide)
                      have w20_τ41 : τ41.1 20 = σ.1 20 := hf_τ41.1 20 (by decide)
                      have w22_τ41 : τ41.1 22 = σ.1 22 := hf_τ41.1 22 (by decide)
                      have g6_τ41 : τ41.2.1 6 = σ.2.1 6 := hf_τ41.2.1 6 (by decide)
                      have g8_τ41 : τ41.2.1 8 = σ.2.1 8 := hf_τ41.2.1 8 (by decide)
                      have g10_τ41 : τ41.2.1 10 = σ.2.1 10 := hf_τ41.2.1 10 (by decide)
                      have g11_τ41 : τ41.2.1 11 = σ.2.1 11 := hf_τ41.2.1 11 (by decide)
                      have g12_τ41 : τ41.2.1 12 = (st (σ.2.1 12) x3 1) := hf_τ41.2.1 12 (by decide)
                      have g14_τ41 : τ41.2.1 14 = σ.2.1 14 := hf_τ41.2.1 14 (by decide)
                      first | (have o6_τ41 := congrArg oc g6_τ41) | skip
                      have W0 : τ41.1 0 = σ.1 0 := by first | exact w0_τ41.trans W0 | omega
                      have W3 : τ41.1 3 = σ.1 3 := by first | exact w3_τ41.trans W3 | omega
                      have W5 : τ41.1 5 = σ.1 5 := by first | exact w5_τ41.trans W5 | omega
                      have W7 : τ41.1 7 = σ.1 7 := by first | exact w7_τ41.trans W7 | omega
                      have W8 : τ41.1 8 = σ.1 8 := by first | exact w8_τ41.trans W8 | omega
                      have W9 : τ41.1 9 = σ.1 9 := by first | exact w9_τ41.trans W9 | omega
                      have W10 : τ41.1 10 = σ.1 10 := by first | exact w10_τ41.trans W10 | omega
                      have W11 : τ41.1 11 = σ.1 11 := by first | exact w11_τ41.trans W11 | omega
                      have W17 : τ41.1 17 = σ.1 17 := by first | exact w17_τ41.trans W17 | omega
                      have W18 : τ41.1 18 = σ.1 18 := by first | exact w18_τ41.trans W18 | omega
                      have W19 : τ41.1 19 = σ.1 19 := by first | exact w19_τ41.trans W19 | omega
                      have W22 : τ41.1 22 = σ.1 22 := by first | exact w22_τ41.trans W22 | omega
                      have G6 : τ41.2.1 6 = σ.2.1 6 := (g6_τ41).trans G6
                      have G8 : τ41.2.1 8 = σ.2.1 8 := (g8_τ41).trans G8
                      have G10 : τ41.2.1 10 = σ.2.1 10 := (g10_τ41).trans G10
                      have G11 : τ41.2.1 11 = σ.2.1 11 := (g11_τ41).trans G11
                      have G14 : τ41.2.1 14 = σ.2.1 14 := (g14_τ41).trans G14
                      have y14_22_τ41 : τ41.2.1 14 (τ41.1 22) = (σ.2.1 14) (σ.1 22) := by rw [g14_τ41, w22_τ41]
                      have Y1 : j_l2 (τ41.2.1 6) (τ41.1 3) := by rw [show (j_l2 (τ41.2.1 6) (τ41.1 3)) = (j_l2 (σ.2.1 6) (σ.1 3)) from by rw [w3_τ41, g6_τ41]]; exact Y1
                      have STt : j_l2 (τ41.2.1 6) (τ41.1 3) := by rw [show (j_l2 (τ41.2.1 6) (τ41.1 3)) = (j_l2 (σ.2.1 6) (σ.1 3)) from by rw [w3_τ41, g6_τ41]]; exact STt
                      have A6 : ∀ j, (-1) ≤ τ41.2.1 6 j ∧ τ41.2.1 6 j ≤ 999 := fun j => hT.2 6 j
                      have A8 : ∀ j, 0 ≤ τ41.2.1 8 j ∧ τ41.2.1 8 j ≤ 1 := fun j => hT.2 8 j
                      have A10 : ∀ j, (-1) ≤ τ41.2.1 10 j ∧ τ41.2.1 10 j ≤ 999 := fun j => hT.2 10 j
                      have A11 : ∀ j, (-1) ≤ τ41.2.1 11 j ∧ τ41.2.1 11 j ≤ 1499 := fun j => hT.2 11 j
                      have A12 : ∀ j, 0 ≤ τ41.2.1 12 j ∧ τ41.2.1 12 j ≤ 1 := fun j => hT.2 12 j
                      have A14 : ∀ j, 0 ≤ τ41.2.1 14 j ∧ τ41.2.1 14 j ≤ 30000 := fun j => hT.2 14 j
                      have A15 : ∀ j, 0 ≤ τ41.2.1 15 j ∧ τ41.2.1 15 j ≤ 300 := fun j => hT.2 15 j
                      have A16 : ∀ j, 0 ≤ τ41.2.1 16 j ∧ τ41.2.1 16 j ≤ 999 := fun j => hT.2 16 j
                      have A17 : ∀ j, (-1) ≤ τ41.2.1 17 j ∧ τ41.2.1 17 j ≤ 1499 := fun j => hT.2 17 j
                      have v0 : 0 ≤ τ41.1 0 ∧ τ41.1 0 ≤ 60000 := hT.1 0
                      have v3 : 0 ≤ τ41.1 3 ∧ τ41.1 3 ≤ 1000 := hT.1 3
                      have v4 : 0 ≤ τ41.1 4 ∧ τ41.1 4 ≤ 100 := hT.1 4
                      have v5 : 0 ≤ τ41.1 5 ∧ τ41.1 5 ≤ 1500 := hT.1 5
                      have v6 : 0 ≤ τ41.1 6 ∧ τ41.1 6 ≤ 30000 := hT.1 6
                      have v7 : 0 ≤ τ41.1 7 ∧ τ41.1 7 ≤ 90000 := hT.1 7
                      have v8 : 0 ≤ τ41.1 8 ∧ τ41.1 8 ≤ 20000 := hT.1 8
                      have v9 : 0 ≤ τ41.1 9 ∧ τ41.1 9 ≤ 20000 := hT.1 9
                      have v10 : (-1) ≤ τ41.1 10 ∧ τ41.1 10 ≤ 999 := hT.1 10
                      have v11 : (-1) ≤ τ41.1 11 ∧ τ41.1 11 ≤ 999 := hT.1 11
                      have v17 : 0 ≤ τ41.1 17 ∧ τ41.1 17 ≤ 60000 := hT.1 17
                      have v18 : 0 ≤ τ41.1 18 ∧ τ41.1 18 ≤ 60000 := hT.1 18
                      have v19 : (-1) ≤ τ41.1 19 ∧ τ41.1 19 ≤ 125 := hT.1 19
                      have v20 : 0 ≤ τ41.1 20 ∧ τ41.1 20 ≤ 19 := hT.1 20
                      have v22 : 0 ≤ τ41.1 22 ∧ τ41.1 22 ≤ 1499 := hT.1 22
                      have a14_22 : 0 ≤ τ41.2.1 14 (τ41.1 22) ∧ τ41.2.1 14 (τ41.1 22) ≤ 30000 := hT.2 14 _
                      have a15_22 : 0 ≤ τ41.2.1 15 (τ41.1 22) ∧ τ41.2.1 15 (τ41.1 22) ≤ 300 := hT.2 15 _
                      have av6 : σ.1 6 ≤ τ41.1 6 := ag.1 6 (by decide)
                      have Y20 : ca (τ41.2.1 12) (τ41.1 3) ≤ τ41.1 4 := by rw [g12_τ41, w3_τ41]; omega
                      have Z1 : τ41.2.1 14 (τ41.1 22) + τ41.2.1 15 (τ41.1 22) = τ41.1 6 := by omega
                      exact ⟨hT, (show (τ41.1 20) = 0 → τ41.2.1 15 (τ41.1 22) = 1 from by (first | omega | (simp only [st_s] <;> omega) | assumption | omega | fail)), (show τ41.2.1 15 (τ41.1 22) ≤ 1 from by (first | omega | (simp only [st_s] <;> omega) | assumption | omega | fail)), (show ¬ (σ.1 20) = 0 → (τ41.1 20) = (σ.1 20) from by (first | omega | (simp only [st_s] <;> omega) | assumption | omega | fail)), (show τ41.2.1 14 (τ41.1 22) + τ41.2.1 15 (τ41.1 22) = (τ41.1 6) from Z1), (show ca (τ41.2.1 12) ((τ41.1 3)) ≤ (τ41.1 4) from Y20), ag, (show (τ41.1 20) = 0 → n_N (τ41.2.1 14 (τ41.1 22)) (τ41.2.1 14 (τ41.1 22) + τ41.2.1 15 (τ41.1 22)) (σ.1 3) (σ.2.1 8) (σ.2.1 11) (τ41.2.1 12) (τ41.2.1 16) (τ41.2.1 17) from by (first | (intro z; exfalso; omega) | (intro _; rw [show τ41.2.1 14 (τ41.1 22) = σ.1 6 from by omega, show σ.1 6 + τ41.2.1 15 (τ41.1 22) = σ.1 6 + 1 from by omega]; exact n_N_1 q39_4 q39_5 (by omega) (x3lt (by omega)) (by rw [g12_τ41, st_s]; decide)) | fail)), (show n_rl σ τ41 from by (first | exact n_rl_h hf_τ11 rfl rfl | exact n_rl_h hf_τ20 rfl rfl | exact n_rl_h hf_τ29 rfl rfl | exact n_rl_h hf_τ36 rfl rfl | exact ⟨fun s _ _ _ => by rw [g10_τ41], fun s _ _ h => by (rw [g12_τ41]; by_cases z : s = x3; (rw [z, st_s]; decide); (rw [st_n _ _ z]; exact h)), Or.inl (by omega), Or.inl (by omega), by omega, fun zt s a b => by (rw [g10_τ41]; have h3 := zt s a (by omega); omega)⟩ | fail)), (show ∀ s : Int, ¬ σ.2.1 12 s = 0 → ¬ τ41.2.1 12 s = 0 from by (first | exact fun s h => by (rw [G12]; exact h) | exact fun s h => by (rw [g12_τ41]; by_cases z : s = x3; (rw [z, st_s]; decide); (rw [st_n _ _ z]; exact h)) | (intro s h; first | (rw [hf_τ11.2.1 12 (by decide)]; exact h) | (rw [hf_τ20.2.1 12 (by decide)]; exact h) | (rw [hf_τ29.2.1 12 (by decide)]; exact h) | (rw [hf_τ36.2.1 12 (by decide)]; exact h)) | fail))⟩
                    ·
                      refine h143 _ _ _ _ ?_
                      refine ⟨(⟨by (first | omega | (simp only [st_s] <;> omega) | assumption | omega | fail), by (first | omega | (simp only [st_s] <;> omega) | assumption | omega | fail)⟩ : rg ((σ.1 4) + 0)), ?_⟩
                      replace ag := ag_v (i := 4) (x := ((σ.1 4) + 0)) ag (Or.inl rfl)
                      replace hT := mT_v (i := 4) hT (show 0 ≤ ((σ.1 4) + 0) ∧ ((σ.1 4) + 0) ≤ 100 from by (first | omega | (simp only [st_s] <;> omega) | assumption | omega | fail))
                      have ct0 := ca_t0 (σ.2.1 12) x3 ((σ.1 3)) 1 (by omega) (by omega)
                      have ct2 := ca_t2 (σ.2.1 12) (e := x3) ((σ.1 3)) 1 (by omega) (by omega)
                      refine ⟨(show 0 ≤ x3 ∧ x3 < 1001 from by (first | omega | (simp only [st_s] <;> omega) | assumption | omega | fail)), ?_⟩
                      replace ag := ag_a (k := 12) (e := x3) (x := 1) ag rfl
                      replace hT := mT_a (k := 12) (j := x3) hT (show (0 : Int) ≤ 1 ∧ 1 ≤ 1 from by (first | omega | (simp only [st_s] <;> omega) | assumption | omega | fail))
                      have y14q : σ.2.1 14 (σ.1 22) = σ.1 6 := by omega
                      refine ⟨_, K3_X13_addSymbol hT (show 0 ≤ x3 from by (first | omega | (simp only [st_s] <;> omega) | assumption | omega | fail)) (show x3 < 1000 from by (first | omega | (simp only [st_s] <;> omega) | assumption | omega | fail)) (show -1 ≤ (-1 : Int) from by (first | omega | (simp only [st_s] <;> omega) | assumption | omega | fail)) (show (-1 : Int) ≤ 1499 from by (first | omega | (simp only [st_s] <;> omega) | assumption | omega | fail)) (show (σ.1 6) < 30000 from by (first | omega | (simp only [st_s] <;> omega) | assumption | omega | fail)) (show σ.2.1 15 (σ.1 22) < 300 from by (first | omega | (simp only [st_s] <;> omega) | assumption | omega | fail)) (show (σ.1 22) = (σ.1 5) from by (first | omega | (simp only [st_s] <;> omega) | assumption | omega | fail)), ?_⟩
                      intro τ41 hn_τ41 hf_τ41 hq
                      obtain ⟨hT, q39_1, q39_2, q39_3, q39_4, q39_5⟩ := hq
                      replace q39_1 : (τ41.1 6) = (σ.1 6) + 1 := q39_1
                      replace q39_2 : τ41.2.1 15 (τ41.1 22) = σ.2.1 15 (σ.1 22) + 1 := q39_2
                      replace q39_3 : m_ag (s_a (s_v σ 4 ((σ.1 4) + 0)) 12 x3 1) τ41 := q39_3
                      replace q39_4 : τ41.2.1 16 = st (σ.2.1 16) (σ.1 6) x3 := q39_4
                      replace q39_5 : τ41.2.1 17 = st (σ.2.1 17) (σ.1 6) (-1 : Int) := q39_5
                      replace ag : m_ag σ τ41 := ag_t ag q39_3 rfl
                      have w0_τ41 : τ41.1 0 = σ.1 0 := hf_τ41.1 0 (by decide)
                      have w3_τ41 : τ41.1 3 = σ.1 3 := hf_τ41.1 3 (by decide)
                      have w4_τ41 : τ41.1 4 = ((σ.1 4) + 0) := hf_τ41.1 4 (by decide)
                      have w5_τ41 : τ41.1 5 = σ.1 5 := hf_τ41.1 5 (by decide)
                      have w7_τ41 : τ41.1 7 = σ.1 7 := hf_τ41.1 7 (by decide)
                      have w8_τ41 : τ41.1 8 = σ.1 8 := hf_τ41.1 8 (by decide)
                      have w9_τ41 : τ41.1 9 = σ.1 9 := hf_τ41.1 9 (by decide)
                      have w10_τ41 : τ41.1 10 = σ.1 10 := hf_τ41.1 10 (by decide)
                      have w11_τ41 : τ41.1 11 = σ.1 11 := hf_τ41.1 11 (by decide)
                      have w17_τ41 : τ41.1 17 = σ.1 17 := hf_τ41.1 17 (by decide)
                      have w18_τ41 : τ41.1 18 = σ.1 18 := hf_τ41.1 18 (by decide)
                      have w19_τ41 : τ41.1 19 = σ.1 19 := hf_τ41.1 19 (by decide)
                      have w20_τ41 : τ41.1 20 = σ.1 20 := hf_τ41.1 20 (by decide)
                      have w22_τ41 : τ41.1 22 = σ.1 22 := hf_τ41.1 22 (by decide)
                      have g6_τ41 : τ41.2.1 6 = σ.2.1 6 := hf_τ41.2.1 6 (by decide)
                      have g8_τ41 : τ41.2.1 8 = σ.2.1 8 := hf_τ41.2.1 8 (by decide)
                      have g10_τ41 : τ41.2.1 10 = σ.2.1 10 := hf_τ41.2.1 10 (by decide)
                      have g11_τ41 : τ41.2.1 11 = σ.2.1 11 := hf_τ41.2.1 11 (by decide)
                      have g12_τ41 : τ41.2.1 12 = (st (σ.2.1 12) x3 1) := hf_τ41.2.1 12 (by decide)
                      have g14_τ41 : τ41.2.1 14 = σ.2.1 14 := hf_τ41.2.1 14 (by decide)
                      first | (have o6_τ41 := congrArg oc g6_τ41) | skip
                      have W0 : τ41.1 0 = σ.1 0 := by first | exact w0_τ41.trans W0 | omega
                      have W3 : τ41.1 3 = σ.1 3 := by first | exact w3_τ41.trans W3 | omega
                      have W5 : τ41.1 5 = σ.1 5 := by first | exact w5_τ41.trans W5 | omega
                      have W7 : τ41.1 7 = σ.1 7 := by first | exact w7_τ41.trans W7 | omega
                      have W8 : τ41.1 8 = σ.1 8 := by first | exact w8_τ41.trans W8 | omega
                      have W9 : τ41.1 9 = σ.1 9 := by first | exact w9_τ41.trans W9 | omega
                      have W10 : τ41.1 10 = σ.1 10 := by first | exact w10_τ41.trans W10 | omega
                      have W11 : τ41.1 11 = σ.1 11 := by first | exact w11_τ41.trans W11 | omega
                      have W17 : τ41.1 17 = σ.1 17 := by first | exact w17_τ41.trans W17 | omega
                      have W18 : τ41.1 18 = σ.1 18 := by first | exact w18_τ41.trans W18 | omega
                      have W19 : τ41.1 19 = σ.1 19 := by first | exact w19_τ41.trans W19 | omega
                      have W22 : τ41.1 22 = σ.1 22 := by first | exact w22_τ41.trans W22 | omega
                      have G6 : τ41.2.1 6 = σ.2.1 6 := (g6_τ41).trans G6
                      have G8 : τ41.2.1 8 = σ.2.1 8 := (g8_τ41).trans G8
                      have G10 : τ41.2.1 10 = σ.2.1 10 := (g10_τ41).trans G10
                      have G11 : τ41.2.1 11 = σ.2.1 11 := (g11_τ41).trans G11
                      have G14 : τ41.2.1 14 = σ.2.1 14 := (g14_τ41).trans G14
                      have y14_22_τ41 : τ41.2.1 14 (τ41.1 22) = (σ.2.1 14) (σ.1 22) := by rw [g14_τ41, w22_τ41]
                      have Y1 : j_l2 (τ41.2.1 6) (τ41.1 3) := by rw [show (j_l2 (τ41.2.1 6) (τ41.1 3)) = (j_l2 (σ.2.1 6) (σ.1 3)) from by rw [w3_τ41, g6_τ41]]; exact Y1
                      have STt : j_l2 (τ41.2.1 6) (τ41.1 3) := by rw [show (j_l2 (τ41.2.1 6) (τ41.1 3)) = (j_l2 (σ.2.1 6) (σ.1 3)) from by rw [w3_τ41, g6_τ41]]; exact STt
                      have A6 : ∀ j, (-1) ≤ τ41.2.1 6 j ∧ τ41.2.1 6 j ≤ 999 := fun j => hT.2 6 j
                      have A8 : ∀ j, 0 ≤ τ41.2.1 8 j ∧ τ41.2.1 8 j ≤ 1 := fun j => hT.2 8 j
                      have A10 : ∀ j, (-1) ≤ τ41.2.1 10 j ∧ τ41.2.1 10 j ≤ 999 := fun j => hT.2 10 j
                      have A11 : ∀ j, (-1) ≤ τ41.2.1 11 j ∧ τ41.2.1 11 j ≤ 1499 := fun j => hT.2 11 j
                      have A12 : ∀ j, 0 ≤ τ41.2.1 12 j ∧ τ41.2.1 12 j ≤ 1 := fun j => hT.2 12 j
                      have A14 : ∀ j, 0 ≤ τ41.2.1 14 j ∧ τ41.2.1 14 j ≤ 30000 := fun j => hT.2 14 j
                      have A15 : ∀ j, 0 ≤ τ41.2.1 15 j ∧ τ41.2.1 15 j ≤ 300 := fun j => hT.2 15 j
                      have A16 : ∀ j, 0 ≤ τ41.2.1 16 j ∧ τ41.2.1 16 j ≤ 999 := fun j => hT.2 16 j
                      have A17 : ∀ j, (-1) ≤ τ41.2.1 17 j ∧ τ41.2.1 17 j ≤ 1499 := fun j => hT.2 17 j
                      have v0 : 0 ≤ τ41.1 0 ∧ τ41.1 0 ≤ 60000 := hT.1 0
                      have v3 : 0 ≤ τ41.1 3 ∧ τ41.1 3 ≤ 1000 := hT.1 3
                      have v4 : 0 ≤ τ41.1 4 ∧ τ41.1 4 ≤ 100 := hT.1 4
                      have v5 : 0 ≤ τ41.1 5 ∧ τ41.1 5 ≤ 1500 := hT.1 5
                      have v6 : 0 ≤ τ41.1 6 ∧ τ41.1 6 ≤ 30000 := hT.1 6
                      have v7 : 0 ≤ τ41.1 7 ∧ τ41.1 7 ≤ 90000 := hT.1 7
                      have v8 : 0 ≤ τ41.1 8 ∧ τ41.1 8 ≤ 20000 := hT.1 8
                      have v9 : 0 ≤ τ41.1 9 ∧ τ41.1 9 ≤ 20000 := hT.1 9
                      have v10 : (-1) ≤ τ41.1 10 ∧ τ41.1 10 ≤ 999 := hT.1 10
                      have v11 : (-1) ≤ τ41.1 11 ∧ τ41.1 11 ≤ 999 := hT.1 11
                      have v17 : 0 ≤ τ41.1 17 ∧ τ41.1 17 ≤ 60000 := hT.1 17
                      have v18 : 0 ≤ τ41.1 18 ∧ τ41.1 18 ≤ 60000 := hT.1 18
                      have v19 : (-1) ≤ τ41.1 19 ∧ τ41.1 19 ≤ 125 := hT.1 19
                      have v20 : 0 ≤ τ41.1 20 ∧ τ41.1 20 ≤ 19 := hT.1 20
                      have v22 : 0 ≤ τ41.1 22 ∧ τ41.1 22 ≤ 1499 := hT.1 22
                      have a14_22 : 0 ≤ τ41.2.1 14 (τ41.1 22) ∧ τ41.2.1 14 (τ41.1 22) ≤ 30000 := hT.2 14 _
                      have a15_22 : 0 ≤ τ41.2.1 15 (τ41.1 22) ∧ τ41.2.1 15 (τ41.1 22) ≤ 300 := hT.2 15 _
                      have av6 : σ.1 6 ≤ τ41.1 6 := ag.1 6 (by decide)
                      have Y20 : ca (τ41.2.1 12) (τ41.1 3) ≤ τ41.1 4 := by rw [g12_τ41, w3_τ41]; omega
                      have Z1 : τ41.2.1 14 (τ41.1 22) + τ41.2.1 15 (τ41.1 22) = τ41.1 6 := by omega
                      exact ⟨hT, (show (τ41.1 20) = 0 → τ41.2.1 15 (τ41.1 22) = 1 from by (first | omega | (simp only [st_s] <;> omega) | assumption | omega | fail)), (show τ41.2.1 15 (τ41.1 22) ≤ 1 from by (first | omega | (simp only [st_s] <;> omega) | assumption | omega | fail)), (show ¬ (σ.1 20) = 0 → (τ41.1 20) = (σ.1 20) from by (first | omega | (simp only [st_s] <;> omega) | assumption | omega | fail)), (show τ41.2.1 14 (τ41.1 22) + τ41.2.1 15 (τ41.1 22) = (τ41.1 6) from Z1), (show ca (τ41.2.1 12) ((τ41.1 3)) ≤ (τ41.1 4) from Y20), ag, (show (τ41.1 20) = 0 → n_N (τ41.2.1 14 (τ41.1 22)) (τ41.2.1 14 (τ41.1 22) + τ41.2.1 15 (τ41.1 22)) (σ.1 3) (σ.2.1 8) (σ.2.1 11) (τ41.2.1 12) (τ41.2.1 16) (τ41.2.1 17) from by (first | (intro z; exfalso; omega) | (intro _; rw [show τ41.2.1 14 (τ41.1 22) = σ.1 6 from by omega, show σ.1 6 + τ41.2.1 15 (τ41.1 22) = σ.1 6 + 1 from by omega]; exact n_N_1 q39_4 q39_5 (by omega) (x3lt (by omega)) (by rw [g12_τ41, st_s]; decide)) | fail)), (show n_rl σ τ41 from by (first | exact n_rl_h hf_τ11 rfl rfl | exact n_rl_h hf_τ20 rfl rfl | exact n_rl_h hf_τ29 rfl rfl | exact n_rl_h hf_τ36 rfl rfl | exact ⟨fun s _ _ _ => by rw [g10_τ41], fun s _ _ h => by (rw [g12_τ41]; by_cases z : s = x3; (rw [z, st_s]; decide); (rw [st_n _ _ z]; exact h)), Or.inl (by omega), Or.inl (by omega), by omega, fun zt s a b => by (rw [g10_τ41]; have h3 := zt s a (by omega); omega)⟩ | fail)), (show ∀ s : Int, ¬ σ.2.1 12 s = 0 → ¬ τ41.2.1 12 s = 0 from by (first | exact fun s h => by (rw [G12]; exact h) | exact fun s h => by (rw [g12_τ41]; by_cases z : s = x3; (rw [z, st_s]; decide); (rw [st_n _ _ z]; exact h)) | (intro s h; first | (rw [hf_τ11.2.1 12 (by decide)]; exact h) | (rw [hf_τ20.2.1 12 (by decide)]; exact h) | (rw [hf_τ29.2.1 12 (by decide)]; exact h) | (rw [hf_τ36.2.1 12 (by decide)]; exact h)) | fail))⟩
                  ·
                    refine ⟨_, K_X13_failHere hT (show 0 ≤ (10 : Int) from by (first | omega | (simp only [st_s] <;> omega) | assumption | omega | fail)) (show (10 : Int) ≤ 19 from by (first | omega | (simp only [st_s] <;> omega) | assumption | omega | fail)), ?_⟩
                    intro τ36 hn_τ36 hf_τ36 hq
                    obtain ⟨hT, q34_1, q34_2⟩ := hq
                    replace q34_1 : ¬ (σ.1 20) = 0 → (τ36.1 20) = (σ.1 20) := q34_1
                    replace q34_2 : (σ.1 20) = 0 → (τ36.1 20) = (10 : Int) := q34_2
                    replace ag : m_ag σ τ36 := ag_r ag hf_τ36 rfl rfl
                    have w0_τ36 : τ36.1 0 = σ.1 0 := hf_τ36.1 0 (by decide)
                    have w3_τ36 : τ36.1 3 = σ.1 3 := hf_τ36.1 3 (by decide)
                    have w4_τ36 : τ36.1 4 = σ.1 4 := hf_τ36.1 4 (by decide)
                    have w5_τ36 : τ36.1 5 = σ.1 5 := hf_τ36.1 5 (by decide)
                    have w6_τ36 : τ36.1 6 = σ.1 6 := hf_τ36.1 6 (by decide)
                    have w7_τ36 : τ36.1 7 = σ.1 7 := hf_τ36.1 7 (by decide)
                    have w8_τ36 : τ36.1 8 = σ.1 8 := hf_τ36.1 8 (by decide)
                    have w9_τ36 : τ36.1 9 = σ.1 9 := hf_τ36.1 9 (by decide)
                    have w10_τ36 : τ36.1 10 = σ.1 10 := hf_τ36.1 10 (by decide)
                    have w11_τ36 : τ36.1 11 = σ.1 11 := hf_τ36.1 11 (by decide)
                    have w17_τ36 : τ36.1 17 = σ.1 17 := hf_τ36.1 17 (by decide)
                    have w18_τ36 : τ36.1 18 = σ.1 18 := hf_τ36.1 18 (by decide)
                    have w19_τ36 : τ36.1 19 = σ.1 19 := hf_τ36.1 19 (by decide)
                    have w22_τ36 : τ36.1 22 = σ.1 22 := hf_τ36.1 22 (by decide)
                    have g6_τ36 : τ36.2.1 6 = σ.2.1 6 := hf_τ36.2.1 6 (by decide)
                    have g8_τ36 : τ36.2.1 8 = σ.2.1 8 := hf_τ36.2.1 8 (by decide)
                    have g10_τ36 : τ36.2.1 10 = σ.2.1 10 := hf_τ36.2.1 10 (by decide)
                    have g11_τ36 : τ36.2.1 11 = σ.2.1 11 := hf_τ36.2.1 11 (by decide)
                    have g12_τ36 : τ36.2.1 12 = σ.2.1 12 := hf_τ36.2.1 12 (by decide)
                    have g14_τ36 : τ36.2.1 14 = σ.2.1 14 := hf_τ36.2.1 14 (by decide)
                    have g15_τ36 : τ36.2.1 15 = σ.2.1 15 := hf_τ36.2.1 15 (by decide)
                    have g16_τ36 : τ36.2.1 16 = σ.2.1 16 := hf_τ36.2.1 16 (by decide)
                    have g17_τ36 : τ36.2.1 17 = σ.2.1 17 := hf_τ36.2.1 17 (by decide)
                    first | (have o6_τ36 := congrArg oc g6_τ36) | skip
                    have W0 : τ36.1 0 = σ.1 0 := by first | exact w0_τ36.trans W0 | omega
                    have W3 : τ36.1 3 = σ.1 3 := by first | exact w3_τ36.trans W3 | omega
                    have W5 : τ36.1 5 = σ.1 5 := by first | exact w5_τ36.trans W5 | omega
                    have W7 : τ36.1 7 = σ.1 7 := by first | exact w7_τ36.trans W7 | omega
                    have W8 : τ36.1 8 = σ.1 8 := by first | exact w8_τ36.trans W8 | omega
                    have W9 : τ36.1 9 = σ.1 9 := by first | exact w9_τ36.trans W9 | omega
                    have W10 : τ36.1 10 = σ.1 10 := by first | exact w10_τ36.trans W10 | omega
                    have W11 : τ36.1 11 = σ.1 11 := by first | exact w11_τ36.trans W11 | omega
                    have W17 : τ36.1 17 = σ.1 17 := by first | exact w17_τ36.trans W17 | omega
                    have W18 : τ36.1 18 = σ.1 18 := by first | exact w18_τ36.trans W18 | omega
                    have W19 : τ36.1 19 = σ.1 19 := by first | exact w19_τ36.trans W19 | omega
                    have W22 : τ36.1 22 = σ.1 22 := by first | exact w22_τ36.trans W22 | omega
                    have G6 : τ36.2.1 6 = σ.2.1 6 := (g6_τ36).trans G6
                    have G8 : τ36.2.1 8 = σ.2.1 8 := (g8_τ36).trans G8
                    have G10 : τ36.2.1 10 = σ.2.1 10 := (g10_τ36).trans G10
                    have G11 : τ36.2.1 11 = σ.2.1 11 := (g11_τ36).trans G11
                    have G14 : τ36.2.1 14 = σ.2.1 14 := (g14_τ36).trans G14
                    have y14_22_τ36 : τ36.2.1 14 (τ36.1 22) = (σ.2.1 14) (σ.1 22) := by rw [g14_τ36, w22_τ36]
                    have y15_22_τ36 : τ36.2.1 15 (τ36.1 22) = (σ.2.1 15) (σ.1 22) := by rw [g15_τ36, w22_τ36]
                    have Z1 : τ36.2.1 14 (τ36.1 22) + τ36.2.1 15 (τ36.1 22) = (τ36.1 6) := by rw [show (τ36.2.1 14 (τ36.1 22) + τ36.2.1 15 (τ36.1 22) = (τ36.1 6)) = (σ.2.1 14 (σ.1 22) + σ.2.1 15 (σ.1 22) = (σ.1 6)) from by rw [w6_τ36, w22_τ36, g14_τ36, g15_τ36]]; exact Z1
                    have Y20 : ca (τ36.2.1 12) ((τ36.1 3)) ≤ (τ36.1 4) := by rw [show (ca (τ36.2.1 12) ((τ36.1 3)) ≤ (τ36.1 4)) = (ca (σ.2.1 12) ((σ.1 3)) ≤ (σ.1 4)) from by rw [w3_τ36, w4_τ36, g12_τ36]]; exact Y20
                    have Y1 : j_l2 (τ36.2.1 6) (τ36.1 3) := by rw [show (j_l2 (τ36.2.1 6) (τ36.1 3)) = (j_l2 (σ.2.1 6) (σ.1 3)) from by rw [w3_τ36, g6_τ36]]; exact Y1
                    have STt : j_l2 (τ36.2.1 6) (τ36.1 3) := by rw [show (j_l2 (τ36.2.1 6) (τ36.1 3)) = (j_l2 (σ.2.1 6) (σ.1 3)) from by rw [w3_τ36, g6_τ36]]; exact STt
                    have A6 : ∀ j, (-1) ≤ τ36.2.1 6 j ∧ τ36.2.1 6 j ≤ 999 := fun j => hT.2 6 j
                    have A8 : ∀ j, 0 ≤ τ36.2.1 8 j ∧ τ36.2.1 8 j ≤ 1 := fun j => hT.2 8 j
                    have A10 : ∀ j, (-1) ≤ τ36.2.1 10 j ∧ τ36.2.1 10 j ≤ 999 := fun j => hT.2 10 j
                    have A11 : ∀ j, (-1) ≤ τ36.2.1 11 j ∧ τ36.2.1 11 j ≤ 1499 := fun j => hT.2 11 j
                    have A12 : ∀ j, 0 ≤ τ36.2.1 12 j ∧ τ36.2.1 12 j ≤ 1 := fun j => hT.2 12 j
                    have A14 : ∀ j, 0 ≤ τ36.2.1 14 j ∧ τ36.2.1 14 j ≤ 30000 := fun j => hT.2 14 j
                    have A15 : ∀ j, 0 ≤ τ36.2.1 15 j ∧ τ36.2.1 15 j ≤ 300 := fun j => hT.2 15 j
                    have A16 : ∀ j, 0 ≤ τ36.2.1 16 j ∧ τ36.2.1 16 j ≤ 999 := fun j => hT.2 16 j
                    have A17 : ∀ j, (-1) ≤ τ36.2.1 17 j ∧ τ36.2.1 17 j ≤ 1499 := fun j => hT.2 17 j
                    have v0 : 0 ≤ τ36.1 0 ∧ τ36.1 0 ≤ 60000 := hT.1 0
                    have v3 : 0 ≤ τ36.1 3 ∧ τ36.1 3 ≤ 1000 := hT.1 3
                    have v4 : 0 ≤ τ36.1 4 ∧ τ36.1 4 ≤ 100 := hT.1 4
                    have v5 : 0 ≤ τ36.1 5 ∧ τ36.1 5 ≤ 1500 := hT.1 5
                    have v6 : 0 ≤ τ36.1 6 ∧ τ36.1 6 ≤ 30000 := hT.1 6
                    have v7 : 0 ≤ τ36.1 7 ∧ τ36.1 7 ≤ 90000 := hT.1 7
                    have v8 : 0 ≤ τ36.1 8 ∧ τ36.1 8 ≤ 20000 := hT.1 8
                    have v9 : 0 ≤ τ36.1 9 ∧ τ36.1 9 ≤ 20000 := hT.1 9
                    have v10 : (-1) ≤ τ36.1 10 ∧ τ36.1 10 ≤ 999 := hT.1 10
                    have v11 : (-1) ≤ τ36.1 11 ∧ τ36.1 11 ≤ 999 := hT.1 11
                    have v17 : 0 ≤ τ36.1 17 ∧ τ36.1 17 ≤ 60000 := hT.1 17
                    have v18 : 0 ≤ τ36.1 18 ∧ τ36.1 18 ≤ 60000 := hT.1 18
                    have v19 : (-1) ≤ τ36.1 19 ∧ τ36.1 19 ≤ 125 := hT.1 19
                    have v20 : 0 ≤ τ36.1 20 ∧ τ36.1 20 ≤ 19 := hT.1 20
                    have v22 : 0 ≤ τ36.1 22 ∧ τ36.1 22 ≤ 1499 := hT.1 22
                    have a14_22 : 0 ≤ τ36.2.1 14 (τ36.1 22) ∧ τ36.2.1 14 (τ36.1 22) ≤ 30000 := hT.2 14 _
                    have a15_22 : 0 ≤ τ36.2.1 15 (τ36.1 22) ∧ τ36.2.1 15 (τ36.1 22) ≤ 300 := hT.2 15 _
                    have av6 : σ.1 6 ≤ τ36.1 6 := ag.1 6 (by decide)
                    exact ⟨hT, (show (τ36.1 20) = 0 → τ36.2.1 15 (τ36.1 22) = 1 from by (first | omega | (simp only [st_s] <;> omega) | assumption | omega | fail)), (show τ36.2.1 15 (τ36.1 22) ≤ 1 from by (first | omega | (simp only [st_s] <;> omega) | assumption | omega | fail)), (show ¬ (σ.1 20) = 0 → (τ36.1 20) = (σ.1 20) from by (first | omega | (simp only [st_s] <;> omega) | assumption | omega | fail)), (show τ36.2.1 14 (τ36.1 22) + τ36.2.1 15 (τ36.1 22) = (τ36.1 6) from Z1), (show ca (τ36.2.1 12) ((τ36.1 3)) ≤ (τ36.1 4) from Y20), ag, (show (τ36.1 20) = 0 → n_N (τ36.2.1 14 (τ36.1 22)) (τ36.2.1 14 (τ36.1 22) + τ36.2.1 15 (τ36.1 22)) (σ.1 3) (σ.2.1 8) (σ.2.1 11) (τ36.2.1 12) (τ36.2.1 16) (τ36.2.1 17) from by (first | (intro z; exfalso; omega) | (intro _; rw [show τ41.2.1 14 (τ41.1 22) = σ.1 6 from by omega, show σ.1 6 + τ41.2.1 15 (τ41.1 22) = σ.1 6 + 1 from by omega]; exact n_N_1 q39_4 q39_5 (by omega) (x3lt (by omega)) (by rw [g12_τ41, st_s]; decide)) | fail)), (show n_rl σ τ36 from by (first | exact n_rl_h hf_τ11 rfl rfl | exact n_rl_h hf_τ20 rfl rfl | exact n_rl_h hf_τ29 rfl rfl | exact n_rl_h hf_τ36 rfl rfl | exact ⟨fun s _ _ _ => by rw [g10_τ41], fun s _ _ h => by (rw [g12_τ41]; by_cases z : s = x3; (rw [z, st_s]; decide); (rw [st_n _ _ z]; exact h)), Or.inl (by omega), Or.inl (by omega), by omega, fun zt s a b => by (rw [g10_τ41]; have h3 := zt s a (by omega); omega)⟩ | fail)), (show ∀ s : Int, ¬ σ.2.1 12 s = 0 → ¬ τ36.2.1 12 s = 0 from by (first | exact fun s h => by (rw [G12]; exact h) | exact fun s h => by (rw [g12_τ41]; by_cases z : s = x3; (rw [z, st_s]; decide); (rw [st_n _ _ z]; exact h)) | (intro s h; first | (rw [hf_τ11.2.1 12 (by decide)]; exact h) | (rw [hf_τ20.2.1 12 (by decide)]; exact h) | (rw [hf_τ29.2.1 12 (by decide)]; exact h) | (rw [hf_τ36.2.1 12 (by decide)]; exact h)) | fail))⟩
                ·
                  refine h102 _ ?_
                  refine ⟨_, K_X13_failHere hT (show 0 ≤ (9 : Int) from by (first | omega | (simp only [st_s] <;> omega) | assumption | omega | fail)) (show (9 : Int) ≤ 19 from by (first | omega | (simp only [st_s] <;> omega) | assumption | omega | fail)), ?_⟩
                  intro τ29 hn_τ29 hf_τ29 hq
                  obtain ⟨hT, q27_1, q27_2⟩ := hq
                  replace q27_1 : ¬ (σ.1 20) = 0 → (τ29.1 20) = (σ.1 20) := q27_1
                  replace q27_2 : (σ.1 20) = 0 → (τ29.1 20) = (9 : Int) := q27_2
                  replace ag : m_ag σ τ29 := ag_r ag hf_τ29 rfl rfl
                  have w0_τ29 : τ29.1 0 = σ.1 0 := hf_τ29.1 0 (by decide)
                  have w3_τ29 : τ29.1 3 = σ.1 3 := hf_τ29.1 3 (by decide)
                  have w4_τ29 : τ29.1 4 = σ.1 4 := hf_τ29.1 4 (by decide)
                  have w5_τ29 : τ29.1 5 = σ.1 5 := hf_τ29.1 5 (by decide)
                  have w6_τ29 : τ29.1 6 = σ.1 6 := hf_τ29.1 6 (by decide)
                  have w7_τ29 : τ29.1 7 = σ.1 7 := hf_τ29.1 7 (by decide)
                  have w8_τ29 : τ29.1 8 = σ.1 8 := hf_τ29.1 8 (by decide)
                  have w9_τ29 : τ29.1 9 = σ.1 9 := hf_τ29.1 9 (by decide)
                  have w10_τ29 : τ29.1 10 = σ.1 10 := hf_τ29.1 10 (by decide)
                  have w11_τ29 : τ29.1 11 = σ.1 11 := hf_τ29.1 11 (by decide)
                  have w17_τ29 : τ29.1 17 = σ.1 17 := hf_τ29.1 17 (by decide)
                  have w18_τ29 : τ29.1 18 = σ.1 18 := hf_τ29.1 18 (by decide)
                  have w19_τ29 : τ29.1 19 = σ.1 19 := hf_τ29.1 19 (by decide)
                  have w22_τ29 : τ29.1 22 = σ.1 22 := hf_τ29.1 22 (by decide)
                  have g6_τ29 : τ29.2.1 6 = σ.2.1 6 := hf_τ29.2.1 6 (by decide)
                  have g8_τ29 : τ29.2.1 8 = σ.2.1 8 := hf_τ29.2.1 8 (by decide)
                  have g10_τ29 : τ29.2.1 10 = σ.2.1 10 := hf_τ29.2.1 10 (by decide)
                  have g11_τ29 : τ29.2.1 11 = σ.2.1 11 := hf_τ29.2.1 11 (by decide)
                  have g12_τ29 : τ29.2.1 12 = σ.2.1 12 := hf_τ29.2.1 12 (by decide)
                  have g14_τ29 : τ29.2.1 14 = σ.2.1 14 := hf_τ29.2.1 14 (by decide)
                  have g15_τ29 : τ29.2.1 15 = σ.2.1 15 := hf_τ29.2.1 15 (by decide)
                  have g16_τ29 : τ29.2.1 16 = σ.2.1 16 := hf_τ29.2.1 16 (by decide)
                  have g17_τ29 : τ29.2.1 17 = σ.2.1 17 := hf_τ29.2.1 17 (by decide)
                  first | (have o6_τ29 := congrArg oc g6_τ29) | skip
                  have W0 : τ29.1 0 = σ.1 0 := by first | exact w0_τ29.trans W0 | omega
                  have W3 : τ29.1 3 = σ.1 3 := by first | exact w3_τ29.trans W3 | omega
                  have W5 : τ29.1 5 = σ.1 5 := by first | exact w5_τ29.trans W5 | omega
                  have W7 : τ29.1 7 = σ.1 7 := by first | exact w7_τ29.trans W7 | omega
                  have W8 : τ29.1 8 = σ.1 8 := by first | exact w8_τ29.trans W8 | omega
                  have W9 : τ29.1 9 = σ.1 9 := by first | exact w9_τ29.trans W9 | omega
                  have W10 : τ29.1 10 = σ.1 10 := by first | exact w10_τ29.trans W10 | omega
                  have W11 : τ29.1 11 = σ.1 11 := by first | exact w11_τ29.trans W11 | omega
                  have W17 : τ29.1 17 = σ.1 17 := by first | exact w17_τ29.trans W17 | omega
                  have W18 : τ29.1 18 = σ.1 18 := by first | exact w18_τ29.trans W18 | omega
                  have W19 : τ29.1 19 = σ.1 19 := by first | exact w19_τ29.trans W19 | omega
                  have W22 : τ29.1 22 = σ.1 22 := by first | exact w22_τ29.trans W22 | omega
                  have G6 : τ29.2.1 6 = σ.2.1 6 := (g6_τ29).trans G6
                  have G8 : τ29.2.1 8 = σ.2.1 8 := (g8_τ29).trans G8
                  have G10 : τ29.2.1 10 = σ.2.1 10 := (g10_τ29).trans G10
                  have G11 : τ29.2.1 11 = σ.2.1 11 := (g11_τ29).trans G11
                  have G14 : τ29.2.1 14 = σ.2.1 14 := (g14_τ29).trans G14
                  have y14_22_τ29 : τ29.2.1 14 (τ29.1 22) = (σ.2.1 14) (σ.1 22) := by rw [g14_τ29, w22_τ29]
                  have y15_22_τ29 : τ29.2.1 15 (τ29.1 22) = (σ.2.1 15) (σ.1 22) := by rw [g15_τ29, w22_τ29]
                  have Z1 : τ29.2.1 14 (τ29.1 22) + τ29.2.1 15 (τ29.1 22) = (τ29.1 6) := by rw [show (τ29.2.1 14 (τ29.1 22) + τ29.2.1 15 (τ29.1 22) = (τ29.1 6)) = (σ.2.1 14 (σ.1 22) + σ.2.1 15 (σ.1 22) = (σ.1 6)) from by rw [w6_τ29, w22_τ29, g14_τ29, g15_τ29]]; exact Z1
                  have Y20 : ca (τ29.2.1 12) ((τ29.1 3)) ≤ (τ29.1 4) := by rw [show (ca (τ29.2.1 12) ((τ29.1 3)) ≤ (τ29.1 4)) = (ca (σ.2.1 12) ((σ.1 3)) ≤ (σ.1 4)) from by rw [w3_τ29, w4_τ29, g12_τ29]]; exact Y20
                  have Y1 : j_l2 (τ29.2.1 6) (τ29.1 3) := by rw [show (j_l2 (τ29.2.1 6) (τ29.1 3)) = (j_l2 (σ.2.1 6) (σ.1 3)) from by rw [w3_τ29, g6_τ29]]; exact Y1
                  have STt : j_l2 (τ29.2.1 6) (τ29.1 3) := by rw [show (j_l2 (τ29.2.1 6) (τ29.1 3)) = (j_l2 (σ.2.1 6) (σ.1 3)) from by rw [w3_τ29, g6_τ29]]; exact STt
                  have A6 : ∀ j, (-1) ≤ τ29.2.1 6 j ∧ τ29.2.1 6 j ≤ 999 := fun j => hT.2 6 j
                  have A8 : ∀ j, 0 ≤ τ29.2.1 8 j ∧ τ29.2.1 8 j ≤ 1 := fun j => hT.2 8 j
                  have A10 : ∀ j, (-1) ≤ τ29.2.1 10 j ∧ τ29.2.1 10 j ≤ 999 := fun j => hT.2 10 j
                  have A11 : ∀ j, (-1) ≤ τ29.2.1 11 j ∧ τ29.2.1 11 j ≤ 1499 := fun j => hT.2 11 j
                  have A12 : ∀ j, 0 ≤ τ29.2.1 12 j ∧ τ29.2.1 12 j ≤ 1 := fun j => hT.2 12 j
                  have A14 : ∀ j, 0 ≤ τ29.2.1 14 j ∧ τ29.2.1 14 j ≤ 30000 := fun j => hT.2 14 j
                  have A15 : ∀ j, 0 ≤ τ29.2.1 15 j ∧ τ29.2.1 15 j ≤ 300 := fun j => hT.2 15 j
                  have A16 : ∀ j, 0 ≤ τ29.2.1 16 j ∧ τ29.2.1 16 j ≤ 999 := fun j => hT.2 16 j
                  have A17 : ∀ j, (-1) ≤ τ29.2.1 17 j ∧ τ29.2.1 17 j ≤ 1499 := fun j => hT.2 17 j
                  have v0 : 0 ≤ τ29.1 0 ∧ τ29.1 0 ≤ 60000 := hT.1 0
                  have v3 : 0 ≤ τ29.1 3 ∧ τ29.1 3 ≤ 1000 := hT.1 3
                  have v4 : 0 ≤ τ29.1 4 ∧ τ29.1 4 ≤ 100 := hT.1 4
                  have v5 : 0 ≤ τ29.1 5 ∧ τ29.1 5 ≤ 1500 := hT.1 5
                  have v6 : 0 ≤ τ29.1 6 ∧ τ29.1 6 ≤ 30000 := hT.1 6
                  have v7 : 0 ≤ τ29.1 7 ∧ τ29.1 7 ≤ 90000 := hT.1 7
                  have v8 : 0 ≤ τ29.1 8 ∧ τ29.1 8 ≤ 20000 := hT.1 8
                  have v9 : 0 ≤ τ29.1 9 ∧ τ29.1 9 ≤ 20000 := hT.1 9
                  have v10 : (-1) ≤ τ29.1 10 ∧ τ29.1 10 ≤ 999 := hT.1 10
                  have v11 : (-1) ≤ τ29.1 11 ∧ τ29.1 11 ≤ 999 := hT.1 11
                  have v17 : 0 ≤ τ29.1 17 ∧ τ29.1 17 ≤ 60000 := hT.1 17
                  have v18 : 0 ≤ τ29.1 18 ∧ τ29.1 18 ≤ 60000 := hT.1 18
                  have v19 : (-1) ≤ τ29.1 19 ∧ τ29.1 19 ≤ 125 := hT.1 19
                  have v20 : 0 ≤ τ29.1 20 ∧ τ29.1 20 ≤ 19 := hT.1 20
                  have v22 : 0 ≤ τ29.1 22 ∧ τ29.1 22 ≤ 1499 := hT.1 22
                  have a14_22 : 0 ≤ τ29.2.1 14 (τ29.1 22) ∧ τ29.2.1 14 (τ29.1 22) ≤ 30000 := hT.2 14 _
                  have a15_22 : 0 ≤ τ29.2.1 15 (τ29.1 22) ∧ τ29.2.1 15 (τ29.1 22) ≤ 300 := hT.2 15 _
                  have av6 : σ.1 6 ≤ τ29.1 6 := ag.1 6 (by decide)
                  exact ⟨hT, (show (τ29.1 20) = 0 → τ29.2.1 15 (τ29.1 22) = 1 from by (first | omega | (simp only [st_s] <;> omega) | assumption | omega | fail)), (show τ29.2.1 15 (τ29.1 22) ≤ 1 from by (first | omega | (simp only [st_s] <;> omega) | assumption | omega | fail)), (show ¬ (σ.1 20) = 0 → (τ29.1 20) = (σ.1 20) from by (first | omega | (simp only [st_s] <;> omega) | assumption | omega | fail)), (show τ29.2.1 14 (τ29.1 22) + τ29.2.1 15 (τ29.1 22) = (τ29.1 6) from Z1), (show ca (τ29.2.1 12) ((τ29.1 3)) ≤ (τ29.1 4) from Y20), ag, (show (τ29.1 20) = 0 → n_N (τ29.2.1 14 (τ29.1 22)) (τ29.2.1 14 (τ29.1 22) + τ29.2.1 15 (τ29.1 22)) (σ.1 3) (σ.2.1 8) (σ.2.1 11) (τ29.2.1 12) (τ29.2.1 16) (τ29.2.1 17) from by (first | (intro z; exfalso; omega) | (intro _; rw [show τ41.2.1 14 (τ41.1 22) = σ.1 6 from by omega, show σ.1 6 + τ41.2.1 15 (τ41.1 22) = σ.1 6 + 1 from by omega]; exact n_N_1 q39_4 q39_5 (by omega) (x3lt (by omega)) (by rw [g12_τ41, st_s]; decide)) | fail)), (show n_rl σ τ29 from by (first | exact n_rl_h hf_τ11 rfl rfl | exact n_rl_h hf_τ20 rfl rfl | exact n_rl_h hf_τ29 rfl rfl | exact n_rl_h hf_τ36 rfl rfl | exact ⟨fun s _ _ _ => by rw [g10_τ41], fun s _ _ h => by (rw [g12_τ41]; by_cases z : s = x3; (rw [z, st_s]; decide); (rw [st_n _ _ z]; exact h)), Or.inl (by omega), Or.inl (by omega), by omega, fun zt s a b => by (rw [g10_τ41]; have h3 := zt s a (by omega); omega)⟩ | fail)), (show ∀ s : Int, ¬ σ.2.1 12 s = 0 → ¬ τ29.2.1 12 s = 0 from by (first | exact fun s h => by (rw [G12]; exact h) | exact fun s h => by (rw [g12_τ41]; by_cases z : s = x3; (rw [z, st_s]; decide); (rw [st_n _ _ z]; exact h)) | (intro s h; first | (rw [hf_τ11.2.1 12 (by decide)]; exact h) | (rw [hf_τ20.2.1 12 (by decide)]; exact h) | (rw [hf_τ29.2.1 12 (by decide)]; exact h) | (rw [hf_τ36.2.1 12 (by decide)]; exact h)) | fail))⟩
          ·
            refine ⟨(show 0 ≤ x3 ∧ x3 < 1001 from by (first | omega | (simp only [st_s] <;> omega) | assumption | omega | fail)), ?_⟩
            intro x15 r_x15 e_x15
            have b_x15 : 0 ≤ x15 ∧ x15 ≤ 1 := by rw [e_x15]; exact hT.2 12 _
            refine ⟨fun c16 => ?_, fun c16 => ?_⟩
            ·
              refine h79 _ _ _ ?_
              refine ⟨fun c21 => ?_, fun c21 => ?_⟩
              ·
                refine h102 _ ?_
                refine ⟨_, K_X13_failHere hT (show 0 ≤ (9 : Int) from by (first | omega | (simp only [st_s] <;> omega) | assumption | omega | fail)) (show (9 : Int) ≤ 19 from by (first | omega | (simp only [st_s] <;> omega) | assumption | omega | fail)), ?_⟩
                intro τ29 hn_τ29 hf_τ29 hq
                obtain ⟨hT, q27_1, q27_2⟩ := hq
                replace q27_1 : ¬ (σ.1 20) = 0 → (τ29.1 20) = (σ.1 20) := q27_1
                replace q27_2 : (σ.1 20) = 0 → (τ29.1 20) = (9 : Int) := q27_2
                replace ag : m_ag σ τ29 := ag_r ag hf_τ29 rfl rfl
                have w0_τ29 : τ29.1 0 = σ.1 0 := hf_τ29.1 0 (by decide)
                have w3_τ29 : τ29.1 3 = σ.1 3 := hf_τ29.1 3 (by decide)
                have w4_τ29 : τ29.1 4 = σ.1 4 := hf_τ29.1 4 (by decide)
                have w5_τ29 : τ29.1 5 = σ.1 5 := hf_τ29.1 5 (by decide)
                have w6_τ29 : τ29.1 6 = σ.1 6 := hf_τ29.1 6 (by decide)
                have w7_τ29 : τ29.1 7 = σ.1 7 := hf_τ29.1 7 (by decide)
                have w8_τ29 : τ29.1 8 = σ.1 8 := hf_τ29.1 8 (by decide)
                have w9_τ29 : τ29.1 9 = σ.1 9 := hf_τ29.1 9 (by decide)
                have w10_τ29 : τ29.1 10 = σ.1 10 := hf_τ29.1 10 (by decide)
                have w11_τ29 : τ29.1 11 = σ.1 11 := hf_τ29.1 11 (by decide)
                have w17_τ29 : τ29.1 17 = σ.1 17 := hf_τ29.1 17 (by decide)
                have w18_τ29 : τ29.1 18 = σ.1 18 := hf_τ29.1 18 (by decide)
                have w19_τ29 : τ29.1 19 = σ.1 19 := hf_τ29.1 19 (by decide)
                have w22_τ29 : τ29.1 22 = σ.1 22 := hf_τ29.1 22 (by decide)
                have g6_τ29 : τ29.2.1 6 = σ.2.1 6 := hf_τ29.2.1 6 (by decide)
                have g8_τ29 : τ29.2.1 8 = σ.2.1 8 := hf_τ29.2.1 8 (by decide)
                have g10_τ29 : τ29.2.1 10 = σ.2.1 10 := hf_τ29.2.1 10 (by decide)
                have g11_τ29 : τ29.2.1 11 = σ.2.1 11 := hf_τ29.2.1 11 (by decide)
                have g12_τ29 : τ29.2.1 12 = σ.2.1 12 := hf_τ29.2.1 12 (by decide)
                have g14_τ29 : τ29.2.1 14 = σ.2.1 14 := hf_τ29.2.1 14 (by decide)
                have g15_τ29 : τ29.2.1 15 = σ.2.1 15 := hf_τ29.2.1 15 (by decide)
                have g16_τ29 : τ29.2.1 16 = σ.2.1 16 := hf_τ29.2.1 16 (by decide)
                have g17_τ29 : τ29.2.1 17 = σ.2.1 17 := hf_τ29.2.1 17 (by decide)
                first | (have o6_τ29 := congrArg oc g6_τ29) | skip
                have W0 : τ29.1 0 = σ.1 0 := by first | exact w0_τ29.trans W0 | omega
                have W3 : τ29.1 3 = σ.1 3 := by first | exact w3_τ29.trans W3 | omega
                have W5 : τ29.1 5 = σ.1 5 := by first | exact w5_τ29.trans W5 | omega
                have W7 : τ29.1 7 = σ.1 7 := by first | exact w7_τ29.trans W7 | omega
                have W8 : τ29.1 8 = σ.1 8 := by first | exact w8_τ29.trans W8 | omega
                have W9 : τ29.1 9 = σ.1 9 := by first | exact w9_τ29.trans W9 | omega
                have W10 : τ29.1 10 = σ.1 10 := by first | exact w10_τ29.trans W10 | omega
                have W11 : τ29.1 11 = σ.1 11 := by first | exact w11_τ29.trans W11 | omega
                have W17 : τ29.1 17 = σ.1 17 := by first | exact w17_τ29.trans W17 | omega
                have W18 : τ29.1 18 = σ.1 18 := by first | exact w18_τ29.trans W18 | omega
                have W19 : τ29.1 19 = σ.1 19 := by first | exact w19_τ29.trans W19 | omega
                have W22 : τ29.1 22 = σ.1 22 := by first | exact w22_τ29.trans W22 | omega
                have G6 : τ29.2.1 6 = σ.2.1 6 := (g6_τ29).trans G6
                have G8 : τ29.2.1 8 = σ.2.1 8 := (g8_τ29).trans G8
                have G10 : τ29.2.1 10 = σ.2.1 10 := (g10_τ29).trans G10
                have G11 : τ29.2.1 11 = σ.2.1 11 := (g11_τ29).trans G11
                have G14 : τ29.2.1 14 = σ.2.1 14 := (g14_τ29).trans G14
                have y14_22_τ29 : τ29.2.1 14 (τ29.1 22) = (σ.2.1 14) (σ.1 22) := by rw [g14_τ29, w22_τ29]
                have y15_22_τ29 : τ29.2.1 15 (τ29.1 22) = (σ.2.1 15) (σ.1 22) := by rw [g15_τ29, w22_τ29]
                have Z1 : τ29.2.1 14 (τ29.1 22) + τ29.2.1 15 (τ29.1 22) = (τ29.1 6) := by rw [show (τ29.2.1 14 (τ29.1 22) + τ29.2.1 15 (τ29.1 22) = (τ29.1 6)) = (σ.2.1 14 (σ.1 22) + σ.2.1 15 (σ.1 22) = (σ.1 6)) from by rw [w6_τ29, w22_τ29, g14_τ29, g15_τ29]]; exact Z1
                have Y20 : ca (τ29.2.1 12) ((τ29.1 3)) ≤ (τ29.1 4) := by rw [show (ca (τ29.2.1 12) ((τ29.1 3)) ≤ (τ29.1 4)) = (ca (σ.2.1 12) ((σ.1 3)) ≤ (σ.1 4)) from by rw [w3_τ29, w4_τ29, g12_τ29]]; exact Y20
                have Y1 : j_l2 (τ29.2.1 6) (τ29.1 3) := by rw [show (j_l2 (τ29.2.1 6) (τ29.1 3)) = (j_l2 (σ.2.1 6) (σ.1 3)) from by rw [w3_τ29, g6_τ29]]; exact Y1
                have STt : j_l2 (τ29.2.1 6) (τ29.1 3) := by rw [show (j_l2 (τ29.2.1 6) (τ29.1 3)) = (j_l2 (σ.2.1 6) (σ.1 3)) from by rw [w3_τ29, g6_τ29]]; exact STt
                have A6 : ∀ j, (-1) ≤ τ29.2.1 6 j ∧ τ29.2.1 6 j ≤ 999 := fun j => hT.2 6 j
                have A8 : ∀ j, 0 ≤ τ29.2.1 8 j ∧ τ29.2.1 8 j ≤ 1 := fun j => hT.2 8 j
                have A10 : ∀ j, (-1) ≤ τ29.2.1 10 j ∧ τ29.2.1 10 j ≤ 999 := fun j => hT.2 10 j
                have A11 : ∀ j, (-1) ≤ τ29.2.1 11 j ∧ τ29.2.1 11 j ≤ 1499 := fun j => hT.2 11 j
                have A12 : ∀ j, 0 ≤ τ29.2.1 12 j ∧ τ29.2.1 12 j ≤ 1 := fun j => hT.2 12 j
                have A14 : ∀ j, 0 ≤ τ29.2.1 14 j ∧ τ29.2.1 14 j ≤ 30000 := fun j => hT.2 14 j
                have A15 : ∀ j, 0 ≤ τ29.2.1 15 j ∧ τ29.2.1 15 j ≤ 300 := fun j => hT.2 15 j
                have A16 : ∀ j, 0 ≤ τ29.2.1 16 j ∧ τ29.2.1 16 j ≤ 999 := fun j => hT.2 16 j
                have A17 : ∀ j, (-1) ≤ τ29.2.1 17 j ∧ τ29.2.1 17 j ≤ 1499 := fun j => hT.2 17 j
                have v0 : 0 ≤ τ29.1 0 ∧ τ29.1 0 ≤ 60000 := hT.1 0
                have v3 : 0 ≤ τ29.1 3 ∧ τ29.1 3 ≤ 1000 := hT.1 3
                have v4 : 0 ≤ τ29.1 4 ∧ τ29.1 4 ≤ 100 := hT.1 4
                have v5 : 0 ≤ τ29.1 5 ∧ τ29.1 5 ≤ 1500 := hT.1 5
                have v6 : 0 ≤ τ29.1 6 ∧ τ29.1 6 ≤ 30000 := hT.1 6
                have v7 : 0 ≤ τ29.1 7 ∧ τ29.1 7 ≤ 90000 := hT.1 7
                have v8 : 0 ≤ τ29.1 8 ∧ τ29.1 8 ≤ 20000 := hT.1 8
                have v9 : 0 ≤ τ29.1 9 ∧ τ29.1 9 ≤ 20000 := hT.1 9
                have v10 : (-1) ≤ τ29.1 10 ∧ τ29.1 10 ≤ 999 := hT.1 10
                have v11 : (-1) ≤ τ29.1 11 ∧ τ29.1 11 ≤ 999 := hT.1 11
                have v17 : 0 ≤ τ29.1 17 ∧ τ29.1 17 ≤ 60000 := hT.1 17
                have v18 : 0 ≤ τ29.1 18 ∧ τ29.1 18 ≤ 60000 := hT.1 18
                have v19 : (-1) ≤ τ29.1 19 ∧ τ29.1 19 ≤ 125 := hT.1 19
                have v20 : 0 ≤ τ29.1 20 ∧ τ29.1 20 ≤ 19 := hT.1 20
                have v22 : 0 ≤ τ29.1 22 ∧ τ29.1 22 ≤ 1499 := hT.1 22
                have a14_22 : 0 ≤ τ29.2.1 14 (τ29.1 22) ∧ τ29.2.1 14 (τ29.1 22) ≤ 30000 := hT.2 14 _
                have a15_22 : 0 ≤ τ29.2.1 15 (τ29.1 22) ∧ τ29.2.1 15 (τ29.1 22) ≤ 300 := hT.2 15 _
                have av6 : σ.1 6 ≤ τ29.1 6 := ag.1 6 (by decide)
                exact ⟨hT, (show (τ29.1 20) = 0 → τ29.2.1 15 (τ29.1 22) = 1 from by (first | omega | (simp only [st_s] <;> omega) | assumption | omega | fail)), (show τ29.2.1 15 (τ29.1 22) ≤ 1 from by (first | omega | (simp only [st_s] <;> omega) | assumption | omega | fail)), (show ¬ (σ.1 20) = 0 → (τ29.1 20) = (σ.1 20) from by (first | omega | (simp only [st_s] <;> omega) | assumption | omega | fail)), (show τ29.2.1 14 (τ29.1 22) + τ29.2.1 15 (τ29.1 22) = (τ29.1 6) from Z1), (show ca (τ29.2.1 12) ((τ29.1 3)) ≤ (τ29.1 4) from Y20), ag, (show (τ29.1 20) = 0 → n_N (τ29.2.1 14 (τ29.1 22)) (τ29.2.1 14 (τ29.1 22) + τ29.2.1 15 (τ29.1 22)) (σ.1 3) (σ.2.1 8) (σ.2.1 11) (τ29.2.1 12) (τ29.2.1 16) (τ29.2.1 17) from by (first | (intro z; exfalso; omega) | (intro _; rw [show τ41.2.1 14 (τ41.1 22) = σ.1 6 from by omega, show σ.1 6 + τ41.2.1 15 (τ41.1 22) = σ.1 6 + 1 from by omega]; exact n_N_1 q39_4 q39_5 (by omega) (x3lt (by omega)) (by rw [g12_τ41, st_s]; decide)) | fail)), (show n_rl σ τ29 from by (first | exact n_rl_h hf_τ11 rfl rfl | exact n_rl_h hf_τ20 rfl rfl | exact n_rl_h hf_τ29 rfl rfl | exact n_rl_h hf_τ36 rfl rfl | exact ⟨fun s _ _ _ => by rw [g10_τ41], fun s _ _ h => by (rw [g12_τ41]; by_cases z : s = x3; (rw [z, st_s]; decide); (rw [st_n _ _ z]; exact h)), Or.inl (by omega), Or.inl (by omega), by omega, fun zt s a b => by (rw [g10_τ41]; have h3 := zt s a (by omega); omega)⟩ | fail)), (show ∀ s : Int, ¬ σ.2.1 12 s = 0 → ¬ τ29.2.1 12 s = 0 from by (first | exact fun s h => by (rw [G12]; exact h) | exact fun s h => by (rw [g12_τ41]; by_cases z : s = x3; (rw [z, st_s]; decide); (rw [st_n _ _ z]; exact h)) | (intro s h; first | (rw [hf_τ11.2.1 12 (by decide)]; exact h) | (rw [hf_τ20.2.1 12 (by decide)]; exact h) | (rw [hf_τ29.2.1 12 (by decide)]; exact h) | (rw [hf_τ36.2.1 12 (by decide)]; exact h)) | fail))⟩
              ·
                refine ⟨(show 0 ≤ x3 ∧ x3 < 1001 from by (first | omega | (simp only [st_s] <;> omega) | assumption | omega | fail)), ?_⟩
                intro x23 r_x23 e_x23
                have b_x23 : 0 ≤ x23 ∧ x23 ≤ 1 := by rw [e_x23]; exact hT.2 8 _
                refine ⟨fun c24 => ?_, fun c24 => ?_⟩
                ·
                  refine h111 _ _ _ ?_
                  refine ⟨fun c30 => ?_, fun c30 => ?_⟩
                  ·
                    refine ⟨(show 0 ≤ x3 ∧ x3 < 1001 from by (first | omega | (simp only [st_s] <;> omega) | assumption | omega | fail)), ?_⟩
                    intro x32 r_x32 e_x32
                    have b_x32 : 0 ≤ x32 ∧ x32 ≤ 1 := by rw [e_x32]; exact hT.2 12 _
                    refine ⟨fun c33 => ?_, fun c33 => ?_⟩
                    ·
                      refine h143 _ _ _ _ ?_
                      refine ⟨(⟨by (first | omega | (simp only [st_s] <;> omega) | assumption | omega | fail), by (first | omega | (simp only [st_s] <;> omega) | assumption | omega | fail)⟩ : rg ((σ.1 4) + 1)), ?_⟩
                      replace ag := ag_v (i := 4) (x := ((σ.1 4) + 1)) ag (Or.inl rfl)
                      replace hT := mT_v (i := 4) hT (show 0 ≤ ((σ.1 4) + 1) ∧ ((σ.1 4) + 1) ≤ 100 from by (first | omega | (simp only [st_s] <;> omega) | assumption | omega | fail))
                      have ct0 := ca_t0 (σ.2.1 12) x3 ((σ.1 3)) 1 (by omega) (by omega)
                      have ct2 := ca_t2 (σ.2.1 12) (e := x3) ((σ.1 3)) 1 (by omega) (by omega)
                      refine ⟨(show 0 ≤ x3 ∧ x3 < 1001 from by (first | omega | (simp only [st_s] <;> omega) | assumption | omega | fail)), ?_⟩
                      replace ag := ag_a (k := 12) (e := x3) (x := 1) ag rfl
                      replace hT := mT_a (k := 12) (j := x3) hT (show (0 : Int) ≤ 1 ∧ 1 ≤ 1 from by (first | omega | (simp only [st_s] <;> omega) | assumption | omega | fail))
                      have y14q : σ.2.1 14 (σ.1 22) = σ.1 6 := by omega
                      refine ⟨_, K3_X13_addSymbol hT (show 0 ≤ x3 from by (first | omega | (simp only [st_s] <;> omega) | assumption | omega | fail)) (show x3 < 1000 from by (first | omega | (simp only [st_s] <;> omega) | assumption | omega | fail)) (show -1 ≤ (-1 : Int) from by (first | omega | (simp only [st_s] <;> omega) | assumption | omega | fail)) (show (-1 : Int) ≤ 1499 from by (first | omega | (simp only [st_s] <;> omega) | assumption | omega | fail)) (show (σ.1 6) < 30000 from by (first | omega | (simp only [st_s] <;> omega) | assumption | omega | fail)) (show σ.2.1 15 (σ.1 22) < 300 from by (first | omega | (simp only [st_s] <;> omega) | assumption | omega | fail)) (show (σ.1 22) = (σ.1 5) from by (first | omega | (simp only [st_s] <;> omega) | assumption | omega | fail)), ?_⟩
                      intro τ41 hn_τ41 hf_τ41 hq
                      obtain ⟨hT, q39_1, q39_2, q39_3, q39_4, q39_5⟩ := hq
                      replace q39_1 : (τ41.1 6) = (σ.1 6) + 1 := q39_1
                      replace q39_2 : τ41.2.1 15 (τ41.1 22) = σ.2.1 15 (σ.1 22) + 1 := q39_2
                      replace q39_3 : m_ag (s_a (s_v σ 4 ((σ.1 4) + 1)) 12 x3 1) τ41 := q39_3
                      replace q39_4 : τ41.2.1 16 = st (σ.2.1 16) (σ.1 6) x3 := q39_4
                      replace q39_5 : τ41.2.1 17 = st (σ.2.1 17) (σ.1 6) (-1 : Int) := q39_5
                      replace ag : m_ag σ τ41 := ag_t ag q39_3 rfl
                      have w0_τ41 : τ41.1 0 = σ.1 0 := hf_τ41.1 0 (by decide)
                      have w3_τ41 : τ41.1 3 = σ.1 3 := hf_τ41.1 3 (by decide)
                      have w4_τ41 : τ41.1 4 = ((σ.1 4) + 1) := hf_τ41.1 4 (by decide)
                      have w5_τ41 : τ41.1 5 = σ.1 5 := hf_τ41.1 5 (by decide)
                      have w7_τ41 : τ41.1 7 = σ.1 7 := hf_τ41.1 7 (by decide)
                      have w8_τ41 : τ41.1 8 = σ.1 8 := hf_τ41.1 8 (by decide)
                      have w9_τ41 : τ41.1 9 = σ.1 9 := hf_τ41.1 9 (by decide)
                      have w10_τ41 : τ41.1 10 = σ.1 10 := hf_τ41.1 10 (by decide)
                      have w11_τ41 : τ41.1 11 = σ.1 11 := hf_τ41.1 11 (by decide)
                      have w17_τ41 : τ41.1 17 = σ.1 17 := hf_τ41.1 17 (by decide)
                      have w18_τ41 : τ41.1 18 = σ.1 18 := hf_τ41.1 18 (by decide)
                      have w19_τ41 : τ41.1 19 = σ.1 19 := hf_τ41.1 19 (by decide)
                      have w20_τ41 : τ41.1 20 = σ.1 20 := hf_τ41.1 20 (by decide)
                      have w22_τ41 : τ41.1 22 = σ.1 22 := hf_τ41.1 22 (by decide)
                      have g6_τ41 : τ41.2.1 6 = σ.2.1 6 := hf_τ41.2.1 6 (by decide)
                      have g8_τ41 : τ41.2.1 8 = σ.2.1 8 := hf_τ41.2.1 8 (by decide)
                      have g10_τ41 : τ41.2.1 10 = σ.2.1 10 := hf_τ41.2.1 10 (by decide)
                      have g11_τ41 : τ41.2.1 11 = σ.2.1 11 := hf_τ41.2.1 11 (by decide)
                      have g12_τ41 : τ41.2.1 12 = (st (σ.2.1 12) x3 1) := hf_τ41.2.1 12 (by decide)
                      have g14_τ41 : τ41.2.1 14 = σ.2.1 14 := hf_τ41.2.1 14 (by decide)
                      first | (have o6_τ41 := congrArg oc g6_τ41) | skip
                      have W0 : τ41.1 0 = σ.1 0 := by first | exact w0_τ41.trans W0 | omega
                      have W3 : τ41.1 3 = σ.1 3 := by first | exact w3_τ41.trans W3 | omega
                      have W5 : τ41.1 5 = σ.1 5 := by first | exact w5_τ41.trans W5 | omega
                      have W7 : τ41.1 7 = σ.1 7 := by first | exact w7_τ41.trans W7 | omega
                      have W8 : τ41.1 8 = σ.1 8 := by first | exact w8_τ41.trans W8 | omega
                      have W9 : τ41.1 9 = σ.1 9 := by first | exact w9_τ41.trans W9 | omega
                      have W10 : τ41.1 10 = σ.1 10 := by first | exact w10_τ41.trans W10 | omega
                      have W11 : τ41.1 11 = σ.1 11 := by first | exact w11_τ41.trans W11 | omega
                      have W17 : τ41.1 17 = σ.1 17 := by first | exact w17_τ41.trans W17 | omega
                      have W18 : τ41.1 18 = σ.1 18 := by first | exact w18_τ41.trans W18 | omega
                      have W19 : τ41.1 19 = σ.1 19 := by first | exact w19_τ41.trans W19 | omega
                      have W22 : τ41.1 22 = σ.1 22 := by first | exact w22_τ41.trans W22 | omega
                      have G6 : τ41.2.1 6 = σ.2.1 6 := (g6_τ41).trans G6
                      have G8 : τ41.2.1 8 = σ.2.1 8 := (g8_τ41).trans G8
                      have G10 : τ41.2.1 10 = σ.2.1 10 := (g10_τ41).trans G10
                      have G11 : τ41.2.1 11 = σ.2.1 11 := (g11_τ41).trans G11
                      have G14 : τ41.2.1 14 = σ.2.1 14 := (g14_τ41).trans G14
                      have y14_22_τ41 : τ41.2.1 14 (τ41.1 22) = (σ.2.1 14) (σ.1 22) := by rw [g14_τ41, w22_τ41]
                      have Y1 : j_l2 (τ41.2.1 6) (τ41.1 3) := by rw [show (j_l2 (τ41.2.1 6) (τ41.1 3)) = (j_l2 (σ.2.1 6) (σ.1 3)) from by rw [w3_τ41, g6_τ41]]; exact Y1
                      have STt : j_l2 (τ41.2.1 6) (τ41.1 3) := by rw [show (j_l2 (τ41.2.1 6) (τ41.1 3)) = (j_l2 (σ.2.1 6) (σ.1 3)) from by rw [w3_τ41, g6_τ41]]; exact STt
                      have A6 : ∀ j, (-1) ≤ τ41.2.1 6 j ∧ τ41.2.1 6 j ≤ 999 := fun j => hT.2 6 j
                      have A8 : ∀ j, 0 ≤ τ41.2.1 8 j ∧ τ41.2.1 8 j ≤ 1 := fun j => hT.2 8 j
                      have A10 : ∀ j, (-1) ≤ τ41.2.1 10 j ∧ τ41.2.1 10 j ≤ 999 := fun j => hT.2 10 j
                      have A11 : ∀ j, (-1) ≤ τ41.2.1 11 j ∧ τ41.2.1 11 j ≤ 1499 := fun j => hT.2 11 j
                      have A12 : ∀ j, 0 ≤ τ41.2.1 12 j ∧ τ41.2.1 12 j ≤ 1 := fun j => hT.2 12 j
                      have A14 : ∀ j, 0 ≤ τ41.2.1 14 j ∧ τ41.2.1 14 j ≤ 30000 := fun j => hT.2 14 j
                      have A15 : ∀ j, 0 ≤ τ41.2.1 15 j ∧ τ41.2.1 15 j ≤ 300 := fun j => hT.2 15 j
                      have A16 : ∀ j, 0 ≤ τ41.2.1 16 j ∧ τ41.2.1 16 j ≤ 999 := fun j => hT.2 16 j
                      have A17 : ∀ j, (-1) ≤ τ41.2.1 17 j ∧ τ41.2.1 17 j ≤ 1499 := fun j => hT.2 17 j
                      have v0 : 0 ≤ τ41.1 0 ∧ τ41.1 0 ≤ 60000 := hT.1 0
                      have v3 : 0 ≤ τ41.1 3 ∧ τ41.1 3 ≤ 1000 := hT.1 3
                      have v4 : 0 ≤ τ41.1 4 ∧ τ41.1 4 ≤ 100 := hT.1 4
                      have v5 : 0 ≤ τ41.1 5 ∧ τ41.1 5 ≤ 1500 := hT.1 5
                      have v6 : 0 ≤ τ41.1 6 ∧ τ41.1 6 ≤ 30000 := hT.1 6
                      have v7 : 0 ≤ τ41.1 7 ∧ τ41.1 7 ≤ 90000 := hT.1 7
                      have v8 : 0 ≤ τ41.1 8 ∧ τ41.1 8 ≤ 20000 := hT.1 8
                      have v9 : 0 ≤ τ41.1 9 ∧ τ41.1 9 ≤ 20000 := hT.1 9
                      have v10 : (-1) ≤ τ41.1 10 ∧ τ41.1 10 ≤ 999 := hT.1 10
                      have v11 : (-1) ≤ τ41.1 11 ∧ τ41.1 11 ≤ 999 := hT.1 11
                      have v17 : 0 ≤ τ41.1 17 ∧ τ41.1 17 ≤ 60000 := hT.1 17
                      have v18 : 0 ≤ τ41.1 18 ∧ τ41.1 18 ≤ 60000 := hT.1 18
                      have v19 : (-1) ≤ τ41.1 19 ∧ τ41.1 19 ≤ 125 := hT.1 19
                      have v20 : 0 ≤ τ41.1 20 ∧ τ41.1 20 ≤ 19 := hT.1 20
                      have v22 : 0 ≤ τ41.1 22 ∧ τ41.1 22 ≤ 1499 := hT.1 22
                      have a14_22 : 0 ≤ τ41.2.1 14 (τ41.1 22) ∧ τ41.2.1 14 (τ41.1 22) ≤ 30000 := hT.2 14 _
                      have a15_22 : 0 ≤ τ41.2.1 15 (τ41.1 22) ∧ τ41.2.1 15 (τ41.1 22) ≤ 300 := hT.2 15 _
                      have av6 : σ.1 6 ≤ τ41.1 6 := ag.1 6 (by decide)
                      have Y20 : ca (τ41.2.1 12) (τ41.1 3) ≤ τ41.1 4 := by rw [g12_τ41, w3_τ41]; omega
                      have Z1 : τ41.2.1 14 (τ41.1 22) + τ41.2.1 15 (τ41.1 22) = τ41.1 6 := by omega
                      exact ⟨hT, (show (τ41.1 20) = 0 → τ41.2.1 15 (τ41.1 22) = 1 from by (first | omega | (simp only [st_s] <;> omega) | assumption | omega | fail)), (show τ41.2.1 15 (τ41.1 22) ≤ 1 from by (first | omega | (simp only [st_s] <;> omega) | assumption | omega | fail)), (show ¬ (σ.1 20) = 0 → (τ41.1 20) = (σ.1 20) from by (first | omega | (simp only [st_s] <;> omega) | assumption | omega | fail)), (show τ41.2.1 14 (τ41.1 22) + τ41.2.1 15 (τ41.1 22) = (τ41.1 6) from Z1), (show ca (τ41.2.1 12) ((τ41.1 3)) ≤ (τ41.1 4) from Y20), ag, (show (τ41.1 20) = 0 → n_N (τ41.2.1 14 (τ41.1 22)) (τ41.2.1 14 (τ41.1 22) + τ41.2.1 15 (τ41.1 22)) (σ.1 3) (σ.2.1 8) (σ.2.1 11) (τ41.2.1 12) (τ41.2.1 16) (τ41.2.1 17) from by (first | (intro z; exfalso; omega) | (intro _; rw [show τ41.2.1 14 (τ41.1 22) = σ.1 6 from by omega, show σ.1 6 + τ41.2.1 15 (τ41.1 22) = σ.1 6 + 1 from by omega]; exact n_N_1 q39_4 q39_5 (by omega) (x3lt (by omega)) (by rw [g12_τ41, st_s]; decide)) | fail)), (show n_rl σ τ41 from by (first | exact n_rl_h hf_τ11 rfl rfl | exact n_rl_h hf_τ20 rfl rfl | exact n_rl_h hf_τ29 rfl rfl | exact n_rl_h hf_τ36 rfl rfl | exact ⟨fun s _ _ _ => by rw [g10_τ41], fun s _ _ h => by (rw [g12_τ41]; by_cases z : s = x3; (rw [z, st_s]; decide); (rw [st_n _ _ z]; exact h)), Or.inl (by omega), Or.inl (by omega), by omega, fun zt s a b => by (rw [g10_τ41]; have h3 := zt s a (by omega); omega)⟩ | fail)), (show ∀ s : Int, ¬ σ.2.1 12 s = 0 → ¬ τ41.2.1 12 s = 0 from by (first | exact fun s h => by (rw [G12]; exact h) | exact fun s h => by (rw [g12_τ41]; by_cases z : s = x3; (rw [z, st_s]; decide); (rw [st_n _ _ z]; exact h)) | (intro s h; first | (rw [hf_τ11.2.1 12 (by decide)]; exact h) | (rw [hf_τ20.2.1 12 (by decide)]; exact h) | (rw [hf_τ29.2.1 12 (by decide)]; exact h) | (rw [hf_τ36.2.1 12 (by decide)]; exact h)) | fail))⟩
                    ·
                      refine h143 _ _ _ _ ?_
                      refine ⟨(⟨by (first | omega | (simp only [st_s] <;> omega) | assumption | omega | fail), by (first | omega | (simp only [st_s] <;> omega) | assumption | omega | fail)⟩ : rg ((σ.1 4) + 0)), ?_⟩
                      replace ag := ag_v (i := 4) (x := ((σ.1 4) + 0)) ag (Or.inl rfl)
                      replace hT := mT_v (i := 4) hT (show 0 ≤ ((σ.1 4) + 0) ∧ ((σ.1 4) + 0) ≤ 100 from by (first | omega | (simp only [st_s] <;> omega) | assumption | omega | fail))
                      have ct0 := ca_t0 (σ.2.1 12) x3 ((σ.1 3)) 1 (by omega) (by omega)
                      have ct2 := ca_t2 (σ.2.1 12) (e := x3) ((σ.1 3)) 1 (by omega) (by omega)
                      refine ⟨(show 0 ≤ x3 ∧ x3 < 1001 from by (first | omega | (simp only [st_s] <;> omega) | assumption | omega | fail)), ?_⟩
                      replace ag := ag_a (k := 12) (e := x3) (x := 1) ag rfl
                      replace hT := mT_a (k := 12) (j := x3) hT (show (0 : Int) ≤ 1 ∧ 1 ≤ 1 from by (first | omega | (simp only [st_s] <;> omega) | assumption | omega | fail))
                      have y14q : σ.2.1 14 (σ.1 22) = σ.1 6 := by omega
                      refine ⟨_, K3_X13_addSymbol hT (show 0 ≤ x3 from by (first | omega | (simp only [st_s] <;> omega) | assumption | omega | fail)) (show x3 < 1000 from by (first | omega | (simp only [st_s] <;> omega) | assumption | omega | fail)) (show -1 ≤ (-1 : Int) from by (first | omega | (simp only [st_s] <;> omega) | assumption | omega | fail)) (show (-1 : Int) ≤ 1499 from by (first | omega | (simp only [st_s] <;> omega) | assumption | omega | fail)) (show (σ.1 6) < 30000 from by (first | omega | (simp only [st_s] <;> omega) | assumption | omega | fail)) (show σ.2.1 15 (σ.1 22) < 300 from by (first | omega | (simp only [st_s] <;> omega) | assumption | omega | fail)) (show (σ.1 22) = (σ.1 5) from by (first | omega | (simp only [st_s] <;> omega) | assumption | omega | fail)), ?_⟩
                      intro τ41 hn_τ41 hf_τ41 hq
                      obtain ⟨hT, q39_1, q39_2, q39_3, q39_4, q39_5⟩ := hq
                      replace q39_1 : (τ41.1 6) = (σ.1 6) + 1 := q39_1
                      replace q39_2 : τ41.2.1 15 (τ41.1 22) = σ.2.1 15 (σ.1 22) + 1 := q39_2
                      replace q39_3 : m_ag (s_a (s_v σ 4 ((σ.1 4) + 0)) 12 x3 1) τ41 := q39_3
                      replace q39_4 : τ41.2.1 16 = st (σ.2.1 16) (σ.1 6) x3 := q39_4
                      replace q39_5 : τ41.2.1 17 = st (σ.2.1 17) (σ.1 6) (-1 : Int) := q39_5
                      replace ag : m_ag σ τ41 := ag_t ag q39_3 rfl
                      have w0_τ41 : τ41.1 0 = σ.1 0 := hf_τ41.1 0 (by decide)
                      have w3_τ41 : τ41.1 3 = σ.1 3 := hf_τ41.1 3 (by decide)
                      have w4_τ41 : τ41.1 4 = ((σ.1 4) + 0) := hf_τ41.1 4 (by decide)
                      have w5_τ41 : τ41.1 5 = σ.1 5 := hf_τ41.1 5 (by decide)
                      have w7_τ41 : τ41.1 7 = σ.1 7 := hf_τ41.1 7 (by decide)
                      have w8_τ41 : τ41.1 8 = σ.1 8 := hf_τ41.1 8 (by decide)
                      have w9_τ41 : τ41.1 9 = σ.1 9 := hf_τ41.1 9 (by decide)
                      have w10_τ41 : τ41.1 10 = σ.1 10 := hf_τ41.1 10 (by decide)
                      have w11_τ41 : τ41.1 11 = σ.1 11 := hf_τ41.1 11 (by decide)
                      have w17_τ41 : τ41.1 17 = σ.1 17 := hf_τ41.1 17 (by decide)
                      have w18_τ41 : τ41.1 18 = σ.1 18 := hf_τ41.1 18 (by decide)
                      have w19_τ41 : τ41.1 19 = σ.1 19 := hf_τ41.1 19 (by decide)
                      have w20_τ41 : τ41.1 20 = σ.1 20 := hf_τ41.1 20 (by decide)
                      have w22_τ41 : τ41.1 22 = σ.1 22 := hf_τ41.1 22 (by decide)
                      have g6_τ41 : τ41.2.1 6 = σ.2.1 6 := hf_τ41.2.1 6 (by decide)
                      have g8_τ41 : τ41.2.1 8 = σ.2.1 8 := hf_τ41.2.1 8 (by decide)
                      have g10_τ41 : τ41.2.1 10 = σ.2.1 10 := hf_τ41.2.1 10 (by decide)
                      have g11_τ41 : τ41.2.1 11 = σ.2.1 11 := hf_τ41.2.1 11 (by decide)
                      have g12_τ41 : τ41.2.1 12 = (st (σ.2.1 12) x3 1) := hf_τ41.2.1 12 (by decide)
                      have g14_τ41 : τ41.2.1 14 = σ.2.1 14 := hf_τ41.2.1 14 (by decide)
                      first | (have o6_τ41 := congrArg oc g6_τ41) | skip
                      have W0 : τ41.1 0 = σ.1 0 := by first | exact w0_τ41.trans W0 | omega
                      have W3 : τ41.1 3 = σ.1 3 := by first | exact w3_τ41.trans W3 | omega
                      have W5 : τ41.1 5 = σ.1 5 := by first | exact w5_τ41.trans W5 | omega
                      have W7 : τ41.1 7 = σ.1 7 := by first | exact w7_τ41.trans W7 | omega
                      have W8 : τ41.1 8 = σ.1 8 := by first | exact w8_τ41.trans W8 | omega
                      have W9 : τ41.1 9 = σ.1 9 := by first | exact w9_τ41.trans W9 | omega
                      have W10 : τ41.1 10 = σ.1 10 := by first | exact w10_τ41.trans W10 | omega
                      have W11 : τ41.1 11 = σ.1 11 := by first | exact w11_τ41.trans W11 | omega
                      have W17 : τ41.1 17 = σ.1 17 := by first | exact w17_τ41.trans W17 | omega
                      have W18 : τ41.1 18 = σ.1 18 := by first | exact w18_τ41.trans W18 | omega
                      have W19 : τ41.1 19 = σ.1 19 := by first | exact w19_τ41.trans W19 | omega
                      have W22 : τ41.1 22 = σ.1 22 := by first | exact w22_τ41.trans W22 | omega
                      have G6 : τ41.2.1 6 = σ.2.1 6 := (g6_τ41).trans G6
                      have G8 : τ41.2.1 8 = σ.2.1 8 := (g8_τ41).trans G8
                      have G10 : τ41.2.1 10 = σ.2.1 10 := (g10_τ41).trans G10
                      have G11 : τ41.2.1 11 = σ.2.1 11 := (g11_τ41).trans G11
                      have G14 : τ41.2.1 14 = σ.2.1 14 := (g14_τ41).trans G14
                      have y14_22_τ41 : τ41.2.1 14 (τ41.1 22) = (σ.2.1 14) (σ.1 22) := by rw [g14_τ41, w22_τ41]
                      have Y1 : j_l2 (τ41.2.1 6) (τ41.1 3) := by rw [show (j_l2 (τ41.2.1 6) (τ41.1 3)) = (j_l2 (σ.2.1 6) (σ.1 3)) from by rw [w3_τ41, g6_τ41]]; exact Y1
                      have STt : j_l2 (τ41.2.1 6) (τ41.1 3) := by rw [show (j_l2 (τ41.2.1 6) (τ41.1 3)) = (j_l2 (σ.2.1 6) (σ.1 3)) from by rw [w3_τ41, g6_τ41]]; exact STt
                      have A6 : ∀ j, (-1) ≤ τ41.2.1 6 j ∧ τ41.2.1 6 j ≤ 999 := fun j => hT.2 6 j
                      have A8 : ∀ j, 0 ≤ τ41.2.1 8 j ∧ τ41.2.1 8 j ≤ 1 := fun j => hT.2 8 j
                      have A10 : ∀ j, (-1) ≤ τ41.2.1 10 j ∧ τ41.2.1 10 j ≤ 999 := fun j => hT.2 10 j
                      have A11 : ∀ j, (-1) ≤ τ41.2.1 11 j ∧ τ41.2.1 11 j ≤ 1499 := fun j => hT.2 11 j
                      have A12 : ∀ j, 0 ≤ τ41.2.1 12 j ∧ τ41.2.1 12 j ≤ 1 := fun j => hT.2 12 j
                      have A14 : ∀ j, 0 ≤ τ41.2.1 14 j ∧ τ41.2.1 14 j ≤ 30000 := fun j => hT.2 14 j
                      have A15 : ∀ j, 0 ≤ τ41.2.1 15 j ∧ τ41.2.1 15 j ≤ 300 := fun j => hT.2 15 j
                      have A16 : ∀ j, 0 ≤ τ41.2.1 16 j ∧ τ41.2.1 16 j ≤ 999 := fun j => hT.2 16 j
                      have A17 : ∀ j, (-1) ≤ τ41.2.1 17 j ∧ τ41.2.1 17 j ≤ 1499 := fun j => hT.2 17 j
                      have v0 : 0 ≤ τ41.1 0 ∧ τ41.1 0 ≤ 60000 := hT.1 0
                      have v3 : 0 ≤ τ41.1 3 ∧ τ41.1 3 ≤ 1000 := hT.1 3
                      have v4 : 0 ≤ τ41.1 4 ∧ τ41.1 4 ≤ 100 := hT.1 4
                      have v5 : 0 ≤ τ41.1 5 ∧ τ41.1 5 ≤ 1500 := hT.1 5
                      have v6 : 0 ≤ τ41.1 6 ∧ τ41.1 6 ≤ 30000 := hT.1 6
                      have v7 : 0 ≤ τ41.1 7 ∧ τ41.1 7 ≤ 90000 := hT.1 7
                      have v8 : 0 ≤ τ41.1 8 ∧ τ41.1 8 ≤ 20000 := hT.1 8
                      have v9 : 0 ≤ τ41.1 9 ∧ τ41.1 9 ≤ 20000 := hT.1 9
                      have v10 : (-1) ≤ τ41.1 10 ∧ τ41.1 10 ≤ 999 := hT.1 10
                      have v11 : (-1) ≤ τ41.1 11 ∧ τ41.1 11 ≤ 999 := hT.1 11
                      have v17 : 0 ≤ τ41.1 17 ∧ τ41.1 17 ≤ 60000 := hT.1 17
                      have v18 : 0 ≤ τ41.1 18 ∧ τ41.1 18 ≤ 60000 := hT.1 18
                      have v19 : (-1) ≤ τ41.1 19 ∧ τ41.1 19 ≤ 125 := hT.1 19
                      have v20 : 0 ≤ τ41.1 20 ∧ τ41.1 20 ≤ 19 := hT.1 20
                      have v22 : 0 ≤ τ41.1 22 ∧ τ41.1 22 ≤ 1499 := hT.1 22
                      have a14_22 : 0 ≤ τ41.2.1 14 (τ41.1 22) ∧ τ41.2.1 14 (τ41.1 22) ≤ 30000 := hT.2 14 _
                      have a15_22 : 0 ≤ τ41.2.1 15 (τ41.1 22) ∧ τ41.2.1 15 (τ41.1 22) ≤ 300 := hT.2 15 _
                      have av6 : σ.1 6 ≤ τ41.1 6 := ag.1 6 (by decide)
                      have Y20 : ca (τ41.2.1 12) (τ41.1 3) ≤ τ41.1 4 := by rw [g12_τ41, w3_τ41]; omega
                      have Z1 : τ41.2.1 14 (τ41.1 22) + τ41.2.1 15 (τ41.1 22) = τ41.1 6 := by omega
                      exact ⟨hT, (show (τ41.1 20) = 0 → τ41.2.1 15 (τ41.1 22) = 1 from by (first | omega | (simp only [st_s] <;> omega) | assumption | omega | fail)), (show τ41.2.1 15 (τ41.1 22) ≤ 1 from by (first | omega | (simp only [st_s] <;> omega) | assumption | omega | fail)), (show ¬ (σ.1 20) = 0 → (τ41.1 20) = (σ.1 20) from by (first | omega | (simp only [st_s] <;> omega) | assumption | omega | fail)), (show τ41.2.1 14 (τ41.1 22) + τ41.2.1 15 (τ41.1 22) = (τ41.1 6) from Z1), (show ca (τ41.2.1 12) ((τ41.1 3)) ≤ (τ41.1 4) from Y20), ag, (show (τ41.1 20) = 0 → n_N (τ41.2.1 14 (τ41.1 22)) (τ41.2.1 14 (τ41.1 22) + τ41.2.1 15 (τ41.1 22)) (σ.1 3) (σ.2.1 8) (σ.2.1 11) (τ41.2.1 12) (τ41.2.1 16) (τ41.2.1 17) from by (first | (intro z; exfalso; omega) | (intro _; rw [show τ41.2.1 14 (τ41.1 22) = σ.1 6 from by omega, show σ.1 6 + τ41.2.1 15 (τ41.1 22) = σ.1 6 + 1 from by omega]; exact n_N_1 q39_4 q39_5 (by omega) (x3lt (by omega)) (by rw [g12_τ41, st_s]; decide)) | fail)), (show n_rl σ τ41 from by (first | exact n_rl_h hf_τ11 rfl rfl | exact n_rl_h hf_τ20 rfl rfl | exact n_rl_h hf_τ29 rfl rfl | exact n_rl_h hf_τ36 rfl rfl | exact ⟨fun s _ _ _ => by rw [g10_τ41], fun s _ _ h => by (rw [g12_τ41]; by_cases z : s = x3; (rw [z, st_s]; decide); (rw [st_n _ _ z]; exact h)), Or.inl (by omega), Or.inl (by omega), by omega, fun zt s a b => by (rw [g10_τ41]; have h3 := zt s a (by omega); omega)⟩ | fail)), (show ∀ s : Int, ¬ σ.2.1 12 s = 0 → ¬ τ41.2.1 12 s = 0 from by (first | exact fun s h => by (rw [G12]; exact h) | exact fun s h => by (rw [g12_τ41]; by_cases z : s = x3; (rw [z, st_s]; decide); (rw [st_n _ _ z]; exact h)) | (intro s h; first | (rw [hf_τ11.2.1 12 (by decide)]; exact h) | (rw [hf_τ20.2.1 12 (by decide)]; exact h) | (rw [hf_τ29.2.1 12 (by decide)]; exact h) | (rw [hf_τ36.2.1 12 (by decide)]; exact h)) | fail))⟩
                  ·
                    refine ⟨_, K_X13_failHere hT (show 0 ≤ (10 : Int) from by (first | omega | (simp only [st_s] <;> omega) | assumption | omega | fail)) (show (10 : Int) ≤ 19 from by (first | omega | (simp only [st_s] <;> omega) | assumption | omega | fail)), ?_⟩
                    intro τ36 hn_τ36 hf_τ36 hq
                    obtain ⟨hT, q34_1, q34_2⟩ := hq
                    replace q34_1 : ¬ (σ.1 20) = 0 → (τ36.1 20) = (σ.1 20) := q34_1
                    replace q34_2 : (σ.1 20) = 0 → (τ36.1 20) = (10 : Int) := q34_2
                    replace ag : m_ag σ τ36 := ag_r ag hf_τ36 rfl rfl
                    have w0_τ36 : τ36.1 0 = σ.1 0 := hf_τ36.1 0 (by decide)
                    have w3_τ36 : τ36.1 3 = σ.1 3 := hf_τ36.1 3 (by decide)
                    have w4_τ36 : τ36.1 4 = σ.1 4 := hf_τ36.1 4 (by decide)
                    have w5_τ36 : τ36.1 5 = σ.1 5 := hf_τ36.1 5 (by decide)
                    have w6_τ36 : τ36.1 6 = σ.1 6 := hf_τ36.1 6 (by decide)
                    have w7_τ36 : τ36.1 7 = σ.1 7 := hf_τ36.1 7 (by decide)
                    have w8_τ36 : τ36.1 8 = σ.1 8 := hf_τ36.1 8 (by decide)
                    have w9_τ36 : τ36.1 9 = σ.1 9 := hf_τ36.1 9 (by decide)
                    have w10_τ36 : τ36.1 10 = σ.1 10 := hf_τ36.1 10 (by decide)
                    have w11_τ36 : τ36.1 11 = σ.1 11 := hf_τ36.1 11 (by decide)
                    have w17_τ36 : τ36.1 17 = σ.1 17 := hf_τ36.1 17 (by decide)
                    have w18_τ36 : τ36.1 18 = σ.1 18 := hf_τ36.1 18 (by decide)
                    have w19_τ36 : τ36.1 19 = σ.1 19 := hf_τ36.1 19 (by decide)
                    have w22_τ36 : τ36.1 22 = σ.1 22 := hf_τ36.1 22 (by decide)
                    have g6_τ36 : τ36.2.1 6 = σ.2.1 6 := hf_τ36.2.1 6 (by decide)
                    have g8_τ36 : τ36.2.1 8 = σ.2.1 8 := hf_τ36.2.1 8 (by decide)
                    have g10_τ36 : τ36.2.1 10 = σ.2.1 10 := hf_τ36.2.1 10 (by decide)
                    have g11_τ36 : τ36.2.1 11 = σ.2.1 11 := hf_τ36.2.1 11 (by decide)
                    have g12_τ36 : τ36.2.1 12 = σ.2.1 12 := hf_τ36.2.1 12 (by decide)
                    have g14_τ36 : τ36.2.1 14 = σ.2.1 14 := hf_τ36.2.1 14 (by decide)
                    have g15_τ36 : τ36.2.1 15 = σ.2.1 15 := hf_τ36.2.1 15 (by decide)
                    have g16_τ36 : τ36.2.1 16 = σ.2.1 16 := hf_τ36.2.1 16 (by decide)
                    have g17_τ36 : τ36.2.1 17 = σ.2.1 17 := hf_τ36.2.1 17 (by decide)
                    first | (have o6_τ36 := congrArg oc g6_τ36) | skip
                    have W0 : τ36.1 0 = σ.1 0 := by first | exact w0_τ36.trans W0 | omega
                    have W3 : τ36.1 3 = σ.1 3 := by first | exact w3_τ36.trans W3 | omega
                    have W5 : τ36.1 5 = σ.1 5 := by first | exact w5_τ36.trans W5 | omega
                    have W7 : τ36.1 7 = σ.1 7 := by first | exact w7_τ36.trans W7 | omega
                    have W8 : τ36.1 8 = σ.1 8 := by first | exact w8_τ36.trans W8 | omega
                    have W9 : τ36.1 9 = σ.1 9 := by first | exact w9_τ36.trans W9 | omega
                    have W10 : τ36.1 10 = σ.1 10 := by first | exact w10_τ36.trans W10 | omega
                    have W11 : τ36.1 11 = σ.1 11 := by first | exact w11_τ36.trans W11 | omega
                    have W17 : τ36.1 17 = σ.1 17 := by first | exact w17_τ36.trans W17 | omega
                    have W18 : τ36.1 18 = σ.1 18 := by first | exact w18_τ36.trans W18 | omega
                    have W19 : τ36.1 19 = σ.1 19 := by first | exact w19_τ36.trans W19 | omega
                    have W22 : τ36.1 22 = σ.1 22 := by first | exact w22_τ36.trans W22 | omega
                    have G6 : τ36.2.1 6 = σ.2.1 6 := (g6_τ36).trans G6
                    have G8 : τ36.2.1 8 = σ.2.1 8 := (g8_τ36).trans G8
                    have G10 : τ36.2.1 10 = σ.2.1 10 := (g10_τ36).trans G10
                    have G11 : τ36.2.1 11 = σ.2.1 11 := (g11_τ36).trans G11
                    have G14 : τ36.2.1 14 = σ.2.1 14 := (g14_τ36).trans G14
                    have y14_22_τ36 : τ36.2.1 14 (τ36.1 22) = (σ.2.1 14) (σ.1 22) := by rw [g14_τ36, w22_τ36]
                    have y15_22_τ36 : τ36.2.1 15 (τ36.1 22) = (σ.2.1 15) (σ.1 22) := by rw [g15_τ36, w22_τ36]
                    have Z1 : τ36.2.1 14 (τ36.1 22) + τ36.2.1 15 (τ36.1 22) = (τ36.1 6) := by rw [show (τ36.2.1 14 (τ36.1 22) + τ36.2.1 15 (τ36.1 22) = (τ36.1 6)) = (σ.2.1 14 (σ.1 22) + σ.2.1 15 (σ.1 22) = (σ.1 6)) from by rw [w6_τ36, w22_τ36, g14_τ36, g15_τ36]]; exact Z1
                    have Y20 : ca (τ36.2.1 12) ((τ36.1 3)) ≤ (τ36.1 4) := by rw [show (ca (τ36.2.1 12) ((τ36.1 3)) ≤ (τ36.1 4)) = (ca (σ.2.1 12) ((σ.1 3)) ≤ (σ.1 4)) from by rw [w3_τ36, w4_τ36, g12_τ36]]; exact Y20
                    have Y1 : j_l2 (τ36.2.1 6) (τ36.1 3) := by rw [show (j_l2 (τ36.2.1 6) (τ36.1 3)) = (j_l2 (σ.2.1 6) (σ.1 3)) from by rw [w3_τ36, g6_τ36]]; exact Y1
                    have STt : j_l2 (τ36.2.1 6) (τ36.1 3) := by rw [show (j_l2 (τ36.2.1 6) (τ36.1 3)) = (j_l2 (σ.2.1 6) (σ.1 3)) from by rw [w3_τ36, g6_τ36]]; exact STt
                    have A6 : ∀ j, (-1) ≤ τ36.2.1 6 j ∧ τ36.2.1 6 j ≤ 999 := fun j => hT.2 6 j
                    have A8 : ∀ j, 0 ≤ τ36.2.1 8 j ∧ τ36.2.1 8 j ≤ 1 := fun j => hT.2 8 j
                    have A10 : ∀ j, (-1) ≤ τ36.2.1 10 j ∧ τ36.2.1 10 j ≤ 999 := fun j => hT.2 10 j
                    have A11 : ∀ j, (-1) ≤ τ36.2.1 11 j ∧ τ36.2.1 11 j ≤ 1499 := fun j => hT.2 11 j
                    have A12 : ∀ j, 0 ≤ τ36.2.1 12 j ∧ τ36.2.1 12 j ≤ 1 := fun j => hT.2 12 j
                    have A14 : ∀ j, 0 ≤ τ36.2.1 14 j ∧ τ36.2.1 14 j ≤ 30000 := fun j => hT.2 14 j
                    have A15 : ∀ j, 0 ≤ τ36.2.1 15 j ∧ τ36.2.1 15 j ≤ 300 := fun j => hT.2 15 j
                    have A16 : ∀ j, 0 ≤ τ36.2.1 16 j ∧ τ36.2.1 16 j ≤ 999 := fun j => hT.2 16 j
                    have A17 : ∀ j, (-1) ≤ τ36.2.1 17 j ∧ τ36.2.1 17 j ≤ 1499 := fun j => hT.2 17 j
                    have v0 : 0 ≤ τ36.1 0 ∧ τ36.1 0 ≤ 60000 := hT.1 0
                    have v3 : 0 ≤ τ36.1 3 ∧ τ36.1 3 ≤ 1000 := hT.1 3
                    have v4 : 0 ≤ τ36.1 4 ∧ τ36.1 4 ≤ 100 := hT.1 4
                    have v5 : 0 ≤ τ36.1 5 ∧ τ36.1 5 ≤ 1500 := hT.1 5
                    have v6 : 0 ≤ τ36.1 6 ∧ τ36.1 6 ≤ 30000 := hT.1 6
                    have v7 : 0 ≤ τ36.1 7 ∧ τ36.1 7 ≤ 90000 := hT.1 7
                    have v8 : 0 ≤ τ36.1 8 ∧ τ36.1 8 ≤ 20000 := hT.1 8
                    have v9 : 0 ≤ τ36.1 9 ∧ τ36.1 9 ≤ 20000 := hT.1 9
                    have v10 : (-1) ≤ τ36.1 10 ∧ τ36.1 10 ≤ 999 := hT.1 10
                    have v11 : (-1) ≤ τ36.1 11 ∧ τ36.1 11 ≤ 999 := hT.1 11
                    have v17 : 0 ≤ τ36.1 17 ∧ τ36.1 17 ≤ 60000 := hT.1 17
                    have v18 : 0 ≤ τ36.1 18 ∧ τ36.1 18 ≤ 60000 := hT.1 18
                    have v19 : (-1) ≤ τ36.1 19 ∧ τ36.1 19 ≤ 125 := hT.1 19
                    have v20 : 0 ≤ τ36.1 20 ∧ τ36.1 20 ≤ 19 := hT.1 20
                    have v22 : 0 ≤ τ36.1 22 ∧ τ36.1 22 ≤ 1499 := hT.1 22
                    have a14_22 : 0 ≤ τ36.2.1 14 (τ36.1 22) ∧ τ36.2.1 14 (τ36.1 22) ≤ 30000 := hT.2 14 _
                    have a15_22 : 0 ≤ τ36.2.1 15 (τ36.1 22) ∧ τ36.2.1 15 (τ36.1 22) ≤ 300 := hT.2 15 _
                    have av6 : σ.1 6 ≤ τ36.1 6 := ag.1 6 (by decide)
                    exact ⟨hT, (show (τ36.1 20) = 0 → τ36.2.1 15 (τ36.1 22) = 1 from by (first | omega | (simp only [st_s] <;> omega) | assumption | omega | fail)), (show τ36.2.1 15 (τ36.1 22) ≤ 1 from by (first | omega | (simp only [st_s] <;> omega) | assumption | omega | fail)), (show ¬ (σ.1 20) = 0 → (τ36.1 20) = (σ.1 20) from by (first | omega | (simp only [st_s] <;> omega) | assumption | omega | fail)), (show τ36.2.1 14 (τ36.1 22) + τ36.2.1 15 (τ36.1 22) = (τ36.1 6) from Z1), (show ca (τ36.2.1 12) ((τ36.1 3)) ≤ (τ36.1 4) from Y20), ag, (show (τ36.1 20) = 0 → n_N (τ36.2.1 14 (τ36.1 22)) (τ36.2.1 14 (τ36.1 22) + τ36.2.1 15 (τ36.1 22)) (σ.1 3) (σ.2.1 8) (σ.2.1 11) (τ36.2.1 12) (τ36.2.1 16) (τ36.2.1 17) from by (first | (intro z; exfalso; omega) | (intro _; rw [show τ41.2.1 14 (τ41.1 22) = σ.1 6 from by omega, show σ.1 6 + τ41.2.1 15 (τ41.1 22) = σ.1 6 + 1 from by omega]; exact n_N_1 q39_4 q39_5 (by omega) (x3lt (by omega)) (by rw [g12_τ41, st_s]; decide)) | fail)), (show n_rl σ τ36 from by (first | exact n_rl_h hf_τ11 rfl rfl | exact n_rl_h hf_τ20 rfl rfl | exact n_rl_h hf_τ29 rfl rfl | exact n_rl_h hf_τ36 rfl rfl | exact ⟨fun s _ _ _ => by rw [g10_τ41], fun s _ _ h => by (rw [g12_τ41]; by_cases z : s = x3; (rw [z, st_s]; decide); (rw [st_n _ _ z]; exact h)), Or.inl (by omega), Or.inl (by omega), by omega, fun zt s a b => by (rw [g10_τ41]; have h3 := zt s a (by omega); omega)⟩ | fail)), (show ∀ s : Int, ¬ σ.2.1 12 s = 0 → ¬ τ36.2.1 12 s = 0 from by (first | exact fun s h => by (rw [G12]; exact h) | exact fun s h => by (rw [g12_τ41]; by_cases z : s = x3; (rw [z, st_s]; decide); (rw [st_n _ _ z]; exact h)) | (intro s h; first | (rw [hf_τ11.2.1 12 (by decide)]; exact h) | (rw [hf_τ20.2.1 12 (by decide)]; exact h) | (rw [hf_τ29.2.1 12 (by decide)]; exact h) | (rw [hf_τ36.2.1 12 (by decide)]; exact h)) | fail))⟩
                ·
                  intro x25 r_x25 e_x25
                  have b_x25 : 0 ≤ x25 ∧ x25 ≤ 1 := by rw [e_x25]; exact hT.2 9 _
                  refine ⟨fun c26 => ?_, fun c26 => ?_⟩
                  ·
                    refine h111 _ _ _ ?_
                    refine ⟨fun c30 => ?_, fun c30 => ?_⟩
                    ·
                      refine ⟨(show 0 ≤ x3 ∧ x3 < 1001 from by (first | omega | (simp only [st_s] <;> omega) | assumption | omega | fail)), ?_⟩
                      intro x32 r_x32 e_x32
                      have b_x32 : 0 ≤ x32 ∧ x32 ≤ 1 := by rw [e_x32]; exact hT.2 12 _
                      refine ⟨fun c33 => ?_, fun c33 => ?_⟩
                      ·
                        refine h143 _ _ _ _ ?_
                        refine ⟨(⟨by (first | omega | (simp only [st_s] <;> omega) | assumption | omega | fail), by (first | omega | (simp only [st_s] <;> omega) | assumption | omega | fail)⟩ : rg ((σ.1 4) + 1)), ?_⟩
                        replace ag := ag_v (i := 4) (x := ((σ.1 4) + 1)) ag (Or.inl rfl)
                        replace hT := mT_v (i := 4) hT (show 0 ≤ ((σ.1 4) + 1) ∧ ((σ.1 4) + 1) ≤ 100 from by (first | omega | (simp only [st_s] <;> omega) | assumption | omega | fail))
                        have ct0 := ca_t0 (σ.2.1 12) x3 ((σ.1 3)) 1 (by omega) (by omega)
                        have ct2 := ca_t2 (σ.2.1 12) (e := x3) ((σ.1 3)) 1 (by omega) (by omega)
                        refine ⟨(show 0 ≤ x3 ∧ x3 < 1001 from by (first | omega | (simp only [st_s] <;> omega) | assumption | omega | fail)), ?_⟩
                        replace ag := ag_a (k := 12) (e := x3) (x := 1) ag rfl
                        replace hT := mT_a (k := 12) (j := x3) hT (show (0 : Int) ≤ 1 ∧ 1 ≤ 1 from by (first | omega | (simp only [st_s] <;> omega) | assumption | omega | fail))
                        have y14q : σ.2.1 14 (σ.1 22) = σ.1 6 := by omega
                        refine ⟨_, K3_X13_addSymbol hT (show 0 ≤ x3 from by (first | omega | (simp only [st_s] <;> omega) | assumption | omega | fail)) (show x3 < 1000 from by (first | omega | (simp only [st_s] <;> omega) | assumption | omega | fail)) (show -1 ≤ (-1 : Int) from by (first | omega | (simp only [st_s] <;> omega) | assumption | omega | fail)) (show (-1 : Int) ≤ 1499 from by (first | omega | (simp only [st_s] <;> omega) | assumption | omega | fail)) (show (σ.1 6) < 30000 from by (first | omega | (simp only [st_s] <;> omega) | assumption | omega | fail)) (show σ.2.1 15 (σ.1 22) < 300 from by (first | omega | (simp only [st_s] <;> omega) | assumption | omega | fail)) (show (σ.1 22) = (σ.1 5) from by (first | omega | (simp only [st_s] <;> omega) | assumption | omega | fail)), ?_⟩
                        intro τ41 hn_τ41 hf_τ41 hq
                        obtain ⟨hT, q39_1, q39_2, q39_3, q39_4, q39_5⟩ := hq
                        replace q39_1 : (τ41.1 6) = (σ.1 6) + 1 := q39_1
                        replace q39_2 : τ41.2.1 15 (τ41.1 22) = σ.2.1 15 (σ.1 22) + 1 := q39_2
                        replace q39_3 : m_ag (s_a (s_v σ 4 ((σ.1 4) + 1)) 12 x3 1) τ41 := q39_3
                        replace q39_4 : τ41.2.1 16 = st (σ.2.1 16) (σ.1 6) x3 := q39_4
                        replace q39_5 : τ41.2.1 17 = st (σ.2.1 17) (σ.1 6) (-1 : Int) := q39_5
                        replace ag : m_ag σ τ41 := ag_t ag q39_3 rfl
                        have w0_τ41 : τ41.1 0 = σ.1 0 := hf_τ41.1 0 (by decide)
                        have w3_τ41 : τ41.1 3 = σ.1 3 := hf_τ41.1 3 (by decide)
                        have w4_τ41 : τ41.1 4 = ((σ.1 4) + 1) := hf_τ41.1 4 (by decide)
                        have w5_τ41 : τ41.1 5 = σ.1 5 := hf_τ41.1 5 (by decide)
                        have w7_τ41 : τ41.1 7 = σ.1 7 := hf_τ41.1 7 (by decide)
                        have w8_τ41 : τ41.1 8 = σ.1 8 := hf_τ41.1 8 (by decide)
                        have w9_τ41 : τ41.1 9 = σ.1 9 := hf_τ41.1 9 (by decide)
                        have w10_τ41 : τ41.1 10 = σ.1 10 := hf_τ41.1 10 (by decide)
                        have w11_τ41 : τ41.1 11 = σ.1 11 := hf_τ41.1 11 (by decide)
                        have w17_τ41 : τ41.1 17 = σ.1 17 := hf_τ41.1 17 (by decide)
                        have w18_τ41 : τ41.1 18 = σ.1 18 := hf_τ41.1 18 (by decide)
                        have w19_τ41 : τ41.1 19 = σ.1 19 := hf_τ41.1 19 (by decide)
                        have w20_τ41 : τ41.1 20 = σ.1 20 := hf_τ41.1 20 (by decide)
                        have w22_τ41 : τ41.1 22 = σ.1 22 := hf_τ41.1 22 (by decide)
                        have g6_τ41 : τ41.2.1 6 = σ.2.1 6 := hf_τ41.2.1 6 (by decide)
                        have g8_τ41 : τ41.2.1 8 = σ.2.1 8 := hf_τ41.2.1 8 (by decide)
                        have g10_τ41 : τ41.2.1 10 = σ.2.1 10 := hf_τ41.2.1 10 (by decide)
                        have g11_τ41 : τ41.2.1 11 = σ.2.1 11 := hf_τ41.2.1 11 (by decide)
                        have g12_τ41 : τ41.2.1 12 = (st (σ.2.1 12) x3 1) := hf_τ41.2.1 12 (by decide)
                        have g14_τ41 : τ41.2.1 14 = σ.2.1 14 := hf_τ41.2.1 14 (by decide)
                        first | (have o6_τ41 := congrArg oc g6_τ41) | skip
                        have W0 : τ41.1 0 = σ.1 0 := by first | exact w0_τ41.trans W0 | omega
                        have W3 : τ41.1 3 = σ.1 3 := by first | exact w3_τ41.trans W3 | omega
                        have W5 : τ41.1 5 = σ.1 5 := by first | exact w5_τ41.trans W5 | omega
                        have W7 : τ41.1 7 = σ.1 7 := by first | exact w7_τ41.trans W7 | omega
                        have W8 : τ41.1 8 = σ.1 8 := by first | exact w8_τ41.trans W8 | omega
                        have W9 : τ41.1 9 = σ.1 9 := by first | exact w9_τ41.trans W9 | omega
                        have W10 : τ41.1 10 = σ.1 10 := by first | exact w10_τ41.trans W10 | omega
                        have W11 : τ41.1 11 = σ.1 11 := by first | exact w11_τ41.trans W11 | omega
                        have W17 : τ41.1 17 = σ.1 17 := by first | exact w17_τ41.trans W17 | omega
                        have W18 : τ41.1 18 = σ.1 18 := by first | exact w18_τ41.trans W18 | omega
                        have W19 : τ41.1 19 = σ.1 19 := by first | exact w19_τ41.trans W19 | omega
                        have W22 : τ41.1 22 = σ.1 22 := by first | exact w22_τ41.trans W22 | omega
                        have G6 : τ41.2.1 6 = σ.2.1 6 := (g6_τ41).trans G6
                        have G8 : τ41.2.1 8 = σ.2.1 8 := (g8_τ41).trans G8
                        have G10 : τ41.2.1 10 = σ.2.1 10 := (g10_τ41).trans G10
                        have G11 : τ41.2.1 11 = σ.2.1 11 := (g11_τ41).trans G11
                        have G14 : τ41.2.1 14 = σ.2.1 14 := (g14_τ41).trans G14
                        have y14_22_τ41 : τ41.2.1 14 (τ41.1 22) = (σ.2.1 14) (σ.1 22) := by rw [g14_τ41, w22_τ41]
                        have Y1 : j_l2 (τ41.2.1 6) (τ41.1 3) := by rw [show (j_l2 (τ41.2.1 6) (τ41.1 3)) = (j_l2 (σ.2.1 6) (σ.1 3)) from by rw [w3_τ41, g6_τ41]]; exact Y1
                        have STt : j_l2 (τ41.2.1 6) (τ41.1 3) := by rw [show (j_l2 (τ41.2.1 6) (τ41.1 3)) = (j_l2 (σ.2.1 6) (σ.1 3)) from by rw [w3_τ41, g6_τ41]]; exact STt
                        have A6 : ∀ j, (-1) ≤ τ41.2.1 6 j ∧ τ41.2.1 6 j ≤ 999 := fun j => hT.2 6 j
                        have A8 : ∀ j, 0 ≤ τ41.2.1 8 j ∧ τ41.2.1 8 j ≤ 1 := fun j => hT.2 8 j
                        have A10 : ∀ j, (-1) ≤ τ41.2.1 10 j ∧ τ41.2.1 10 j ≤ 999 := fun j => hT.2 10 j
                        have A11 : ∀ j, (-1) ≤ τ41.2.1 11 j ∧ τ41.2.1 11 j ≤ 1499 := fun j => hT.2 11 j
                        have A12 : ∀ j, 0 ≤ τ41.2.1 12 j ∧ τ41.2.1 12 j ≤ 1 := fun j => hT.2 12 j
                        have A14 : ∀ j, 0 ≤ τ41.2.1 14 j ∧ τ41.2.1 14 j ≤ 30000 := fun j => hT.2 14 j
                        have A15 : ∀ j, 0 ≤ τ41.2.1 15 j ∧ τ41.2.1 15 j ≤ 300 := fun j => hT.2 15 j
                        have A16 : ∀ j, 0 ≤ τ41.2.1 16 j ∧ τ41.2.1 16 j ≤ 999 := fun j => hT.2 16 j
                        have A17 : ∀ j, (-1) ≤ τ41.2.1 17 j ∧ τ41.2.1 17 j ≤ 1499 := fun j => hT.2 17 j
                        have v0 : 0 ≤ τ41.1 0 ∧ τ41.1 0 ≤ 60000 := hT.1 0
                        have v3 : 0 ≤ τ41.1 3 ∧ τ41.1 3 ≤ 1000 := hT.1 3
                        have v4 : 0 ≤ τ41.1 4 ∧ τ41.1 4 ≤ 100 := hT.1 4
                        have v5 : 0 ≤ τ41.1 5 ∧ τ41.1 5 ≤ 1500 := hT.1 5
                        have v6 : 0 ≤ τ41.1 6 ∧ τ41.1 6 ≤ 30000 := hT.1 6
                        have v7 : 0 ≤ τ41.1 7 ∧ τ41.1 7 ≤ 90000 := hT.1 7
                        have v8 : 0 ≤ τ41.1 8 ∧ τ41.1 8 ≤ 20000 := hT.1 8
                        have v9 : 0 ≤ τ41.1 9 ∧ τ41.1 9 ≤ 20000 := hT.1 9
                        have v10 : (-1) ≤ τ41.1 10 ∧ τ41.1 10 ≤ 999 := hT.1 10
                        have v11 : (-1) ≤ τ41.1 11 ∧ τ41.1 11 ≤ 999 := hT.1 11
                        have v17 : 0 ≤ τ41.1 17 ∧ τ41.1 17 ≤ 60000 := hT.1 17
                        have v18 : 0 ≤ τ41.1 18 ∧ τ41.1 18 ≤ 60000 := hT.1 18
                        have v19 : (-1) ≤ τ41.1 19 ∧ τ41.1 19 ≤ 125 := hT.1 19
                        have v20 : 0 ≤ τ41.1 20 ∧ τ41.1 20 ≤ 19 := hT.1 20
                        have v22 : 0 ≤ τ41.1 22 ∧ τ41.1 22 ≤ 1499 := hT.1 22
                        have a14_22 : 0 ≤ τ41.2.1 14 (τ41.1 22) ∧ τ41.2.1 14 (τ41.1 22) ≤ 30000 := hT.2 14 _
                        have a15_22 : 0 ≤ τ41.2.1 15 (τ41.1 22) ∧ τ41.2.1 15 (τ41.1 22) ≤ 300 := hT.2 15 _
                        have av6 : σ.1 6 ≤ τ41.1 6 := ag.1 6 (by decide)
                        have Y20 : ca (τ41.2.1 12) (τ41.1 3) ≤ τ41.1 4 := by rw [g12_τ41, w3_τ41]; omega
                        have Z1 : τ41.2.1 14 (τ41.1 22) + τ41.2.1 15 (τ41.1 22) = τ41.1 6 := by omega
                        exact ⟨hT, (show (τ41.1 20) = 0 → τ41.2.1 15 (τ41.1 22) = 1 from by (first | omega | (simp only [st_s] <;> omega) | assumption | omega | fail)), (show τ41.2.1 15 (τ41.1 22) ≤ 1 from by (first | omega | (simp only [st_s] <;> omega) | assumption | omega | fail)), (show ¬ (σ.1 20) = 0 → (τ41.1 20) = (σ.1 20) from by (first | omega | (simp only [st_s] <;> omega) | assumption | omega | fail)), (show τ41.2.1 14 (τ41.1 22) + τ41.2.1 15 (τ41.1 22) = (τ41.1 6) from Z1), (show ca (τ41.2.1 12) ((τ41.1 3)) ≤ (τ41.1 4) from Y20), ag, (show (τ41.1 20) = 0 → n_N (τ41.2.1 14 (τ41.1 22)) (τ41.2.1 14 (τ41.1 22) + τ41.2.1 15 (τ41.1 22)) (σ.1 3) (σ.2.1 8) (σ.2.1 11) (τ41.2.1 12) (τ41.2.1 16) (τ41.2.1 17) from by (first | (intro z; exfalso; omega) | (intro _; rw [show τ41.2.1 14 (τ41.1 22) = σ.1 6 from by omega, show σ.1 6 + τ41.2.1 15 (τ41.1 22) = σ.1 6 + 1 from by omega]; exact n_N_1 q39_4 q39_5 (by omega) (x3lt (by omega)) (by rw [g12_τ41, st_s]; decide)) | fail)), (show n_rl σ τ41 from by (first | exact n_rl_h hf_τ11 rfl rfl | exact n_rl_h hf_τ20 rfl rfl | exact n_rl_h hf_τ29 rfl rfl | exact n_rl_h hf_τ36 rfl rfl | exact ⟨fun s _ _ _ => by rw [g10_τ41], fun s _ _ h => by (rw [g12_τ41]; by_cases z : s = x3; (rw [z, st_s]; decide); (rw [st_n _ _ z]; exact h)), Or.inl (by omega), Or.inl (by omega), by omega, fun zt s a b => by (rw [g10_τ41]; have h3 := zt s a (by omega); omega)⟩ | fail)), (show ∀ s : Int, ¬ σ.2.1 12 s = 0 → ¬ τ41.2.1 12 s = 0 from by (first | exact fun s h => by (rw [G12]; exact h) | exact fun s h => by (rw [g12_τ41]; by_cases z : s = x3; (rw [z, st_s]; decide); (rw [st_n _ _ z]; exact h)) | (intro s h; first | (rw [hf_τ11.2.1 12 (by decide)]; exact h) | (rw [hf_τ20.2.1 12 (by decide)]; exact h) | (rw [hf_τ29.2.1 12 (by decide)]; exact h) | (rw [hf_τ36.2.1 12 (by decide)]; exact h)) | fail))⟩
                      ·
                        refine h143 _ _ _ _ ?_
                        refine ⟨(⟨by (first | omega | (simp only [st_s] <;> omega) | assumption | omega | fail), by (first | omega | (simp only [st_s] <;> omega) | assumption | omega | fail)⟩ : rg ((σ.1 4) + 0)), ?_⟩
                        replace ag := ag_v (i := 4) (x := ((σ.1 4) + 0)) ag (Or.inl rfl)
                        replace hT := mT_v (i := 4) hT (show 0 ≤ ((σ.1 4) + 0) ∧ ((σ.1 4) + 0) ≤ 100 from by (first | omega | (simp only [st_s] <;> omega) | assumption | omega | fail))
                        have ct0 := ca_t0 (σ.2.1 12) x3 ((σ.1 3)) 1 (by omega) (by omega)
                        have ct2 := ca_t2 (σ.2.1 12) (e := x3) ((σ.1 3)) 1 (by omega) (by omega)
                        refine ⟨(show 0 ≤ x3 ∧ x3 < 1001 from by (first | omega | (simp only [st_s] <;> omega) | assumption | omega | fail)), ?_⟩
                        replace ag := ag_a (k := 12) (e := x3) (x := 1) ag rfl
                        replace hT := mT_a (k := 12) (j := x3) hT (show (0 : Int) ≤ 1 ∧ 1 ≤ 1 from by (first | omega | (simp only [st_s] <;> omega) | assumption | omega | fail))
                        have y14q : σ.2.1 14 (σ.1 22) = σ.1 6 := by omega
                        refine ⟨_, K3_X13_addSymbol hT (show 0 ≤ x3 from by (first | omega | (simp only [st_s] <;> omega) | assumption | omega | fail)) (show x3 < 1000 from by (first | omega | (simp only [st_s] <;> omega) | assumption | omega | fail)) (show -1 ≤ (-1 : Int) from by (first | omega | (simp only [st_s] <;> omega) | assumption | omega | fail)) (show (-1 : Int) ≤ 1499 from by (first | omega | (simp only [st_s] <;> omega) | assumption | omega | fail)) (show (σ.1 6) < 30000 from by (first | omega | (simp only [st_s] <;> omega) | assumption | omega | fail)) (show σ.2.1 15 (σ.1 22) < 300 from by (first | omega | (simp only [st_s] <;> omega) | assumption | omega | fail)) (show (σ.1 22) = (σ.1 5) from by (first | omega | (simp only [st_s] <;> omega) | assumption | omega | fail)), ?_⟩
                        intro τ41 hn_τ41 hf_τ41 hq
                        obtain ⟨hT, q39_1, q39_2, q39_3, q39_4, q39_5⟩ := hq
                        replace q39_1 : (τ41.1 6) = (σ.1 6) + 1 := q39_1
                        replace q39_2 : τ41.2.1 15 (τ41.1 22) = σ.2.1 15 (σ.1 22) + 1 := q39_2
                        replace q39_3 : m_ag (s_a (s_v σ 4 ((σ.1 4) + 0)) 12 x3 1) τ41 := q39_3
                        replace q39_4 : τ41.2.1 16 = st (σ.2.1 16) (σ.1 6) x3 := q39_4
                        replace q39_5 : τ41.2.1 17 = st (σ.2.1 17) (σ.1 6) (-1 : Int) := q39_5
                        replace ag : m_ag σ τ41 := ag_t ag q39_3 rfl
                        have w0_τ41 : τ41.1 0 = σ.1 0 := hf_τ41.1 0 (by decide)
                        have w3_τ41 : τ41.1 3 = σ.1 3 := hf_τ41.1 3 (by decide)
                        have w4_τ41 : τ41.1 4 = ((σ.1 4) + 0) := hf_τ41.1 4 (by decide)
                        have w5_τ41 : τ41.1 5 = σ.1 5 := hf_τ41.1 5 (by decide)
                        have w7_τ41 : τ41.1 7 = σ.1 7 := hf_τ41.1 7 (by decide)
                        have w8_τ41 : τ41.1 8 = σ.1 8 := hf_τ41.1 8 (by decide)
                        have w9_τ41 : τ41.1 9 = σ.1 9 := hf_τ41.1 9 (by decide)
                        have w10_τ41 : τ41.1 10 = σ.1 10 := hf_τ41.1 10 (by decide)
                        have w11_τ41 : τ41.1 11 = σ.1 11 := hf_τ41.1 11 (by decide)
                        have w17_τ41 : τ41.1 17 = σ.1 17 := hf_τ41.1 17 (by decide)
                        have w18_τ41 : τ41.1 18 = σ.1 18 := hf_τ41.1 18 (by decide)
                        have w19_τ41 : τ41.1 19 = σ.1 19 := hf_τ41.1 19 (by decide)
                        have w20_τ41 : τ41.1 20 = σ.1 20 := hf_τ41.1 20 (by decide)
                        have w22_τ41 : τ41.1 22 = σ.1 22 := hf_τ41.1 22 (by decide)
                        have g6_τ41 : τ41.2.1 6 = σ.2.1 6 := hf_τ41.2.1 6 (by decide)
                        have g8_τ41 : τ41.2.1 8 = σ.2.1 8 := hf_τ41.2.1 8 (by decide)
                        have g10_τ41 : τ41.2.1 10 = σ.2.1 10 := hf_τ41.2.1 10 (by decide)
                        have g11_τ41 : τ41.2.1 11 = σ.2.1 11 := hf_τ41.2.1 11 (by decide)
                        have g12_τ41 : τ41.2.1 12 = (st (σ.2.1 12) x3 1) := hf_τ41.2.1 12 (by decide)
                        have g14_τ41 : τ41.2.1 14 = σ.2.1 14 := hf_τ41.2.1 14 (by decide)
                        first | (have o6_τ41 := congrArg oc g6_τ41) | skip
                        have W0 : τ41.1 0 = σ.1 0 := by first | exact w0_τ41.trans W0 | omega
                        have W3 : τ41.1 3 = σ.1 3 := by first | exact w3_τ41.trans W3 | omega
                        have W5 : τ41.1 5 = σ.1 5 := by first | exact w5_τ41.trans W5 | omega
                        have W7 : τ41.1 7 = σ.1 7 := by first | exact w7_τ41.trans W7 | omega
                        have W8 : τ41.1 8 = σ.1 8 := by first | exact w8_τ41.trans W8 | omega
                        have W9 : τ41.1 9 = σ.1 9 := by first | exact w9_τ41.trans W9 | omega
                        have W10 : τ41.1 10 = σ.1 10 := by first | exact w10_τ41.trans W10 | omega
                        have W11 : τ41.1 11 = σ.1 11 := by first | exact w11_τ41.trans W11 | omega
                        have W17 : τ41.1 17 = σ.1 17 := by first | exact w17_τ41.trans W17 | omega
                        have W18 : τ41.1 18 = σ.1 18 := by first | exact w18_τ41.trans W18 | omega
                        have W19 : τ41.1 19 = σ.1 19 := by first | exact w19_τ41.trans W19 | omega
                        have W22 : τ41.1 22 = σ.1 22 := by first | exact w22_τ41.trans W22 | omega
                        have G6 : τ41.2.1 6 = σ.2.1 6 := (g6_τ41).trans G6
                        have G8 : τ41.2.1 8 = σ.2.1 8 := (g8_τ41).trans G8
                        have G10 : τ41.2.1 10 = σ.2.1 10 := (g10_τ41).trans G10
                        have G11 : τ41.2.1 11 = σ.2.1 11 := (g11_τ41).trans G11
                        have G14 : τ41.2.1 14 = σ.2.1 14 := (g14_τ41).trans G14
                        have y14_22_τ41 : τ41.2.1 14 (τ41.1 22) = (σ.2.1 14) (σ.1 22) := by rw [g14_τ41, w22_τ41]
                        have Y1 : j_l2 (τ41.2.1 6) (τ41.1 3) := by rw [show (j_l2 (τ41.2.1 6) (τ41.1 3)) = (j_l2 (σ.2.1 6) (σ.1 3)) from by rw [w3_τ41, g6_τ41]]; exact Y1
                        have STt : j_l2 (τ41.2.1 6) (τ41.1 3) := by rw [show (j_l2 (τ41.2.1 6) (τ41.1 3)) = (j_l2 (σ.2.1 6) (σ.1 3)) from by rw [w3_τ41, g6_τ41]]; exact STt
                        have A6 : ∀ j, (-1) ≤ τ41.2.1 6 j ∧ τ41.2.1 6 j ≤ 999 := fun j => hT.2 6 j
                        have A8 : ∀ j, 0 ≤ τ41.2.1 8 j ∧ τ41.2.1 8 j ≤ 1 := fun j => hT.2 8 j
                        have A10 : ∀ j, (-1) ≤ τ41.2.1 10 j ∧ τ41.2.1 10 j ≤ 999 := fun j => hT.2 10 j
                        have A11 : ∀ j, (-1) ≤ τ41.2.1 11 j ∧ τ41.2.1 11 j ≤ 1499 := fun j => hT.2 11 j
                        have A12 : ∀ j, 0 ≤ τ41.2.1 12 j ∧ τ41.2.1 12 j ≤ 1 := fun j => hT.2 12 j
                        have A14 : ∀ j, 0 ≤ τ41.2.1 14 j ∧ τ41.2.1 14 j ≤ 30000 := fun j => hT.2 14 j
                        have A15 : ∀ j, 0 ≤ τ41.2.1 15 j ∧ τ41.2.1 15 j ≤ 300 := fun j => hT.2 15 j
                        have A16 : ∀ j, 0 ≤ τ41.2.1 16 j ∧ τ41.2.1 16 j ≤ 999 := fun j => hT.2 16 j
                        have A17 : ∀ j, (-1) ≤ τ41.2.1 17 j ∧ τ41.2.1 17 j ≤ 1499 := fun j => hT.2 17 j
                        have v0 : 0 ≤ τ41.1 0 ∧ τ41.1 0 ≤ 60000 := hT.1 0
                        have v3 : 0 ≤ τ41.1 3 ∧ τ41.1 3 ≤ 1000 := hT.1 3
                        have v4 : 0 ≤ τ41.1 4 ∧ τ41.1 4 ≤ 100 := hT.1 4
                        have v5 : 0 ≤ τ41.1 5 ∧ τ41.1 5 ≤ 1500 := hT.1 5
                        have v6 : 0 ≤ τ41.1 6 ∧ τ41.1 6 ≤ 30000 := hT.1 6
                        have v7 : 0 ≤ τ41.1 7 ∧ τ41.1 7 ≤ 90000 := hT.1 7
                        have v8 : 0 ≤ τ41.1 8 ∧ τ41.1 8 ≤ 20000 := hT.1 8
                        have v9 : 0 ≤ τ41.1 9 ∧ τ41.1 9 ≤ 20000 := hT.1 9
                        have v10 : (-1) ≤ τ41.1 10 ∧ τ41.1 10 ≤ 999 := hT.1 10
                        have v11 : (-1) ≤ τ41.1 11 ∧ τ41.1 11 ≤ 999 := hT.1 11
                        have v17 : 0 ≤ τ41.1 17 ∧ τ41.1 17 ≤ 60000 := hT.1 17
                        have v18 : 0 ≤ τ41.1 18 ∧ τ41.1 18 ≤ 60000 := hT.1 18
                        have v19 : (-1) ≤ τ41.1 19 ∧ τ41.1 19 ≤ 125 := hT.1 19
                        have v20 : 0 ≤ τ41.1 20 ∧ τ41.1 20 ≤ 19 := hT.1 20
                        have v22 : 0 ≤ τ41.1 22 ∧ τ41.1 22 ≤ 1499 := hT.1 22
                        have a14_22 : 0 ≤ τ41.2.1 14 (τ41.1 22) ∧ τ41.2.1 14 (τ41.1 22) ≤ 30000 := hT.2 14 _
                        have a15_22 : 0 ≤ τ41.2.1 15 (τ41.1 22) ∧ τ41.2.1 15 (τ41.1 22) ≤ 300 := hT.2 15 _
                        have av6 : σ.1 6 ≤ τ41.1 6 := ag.1 6 (by decide)
                        have Y20 : ca (τ41.2.1 12) (τ41.1 3) ≤ τ41.1 4 := by rw [g12_τ41, w3_τ41]; omega
                        have Z1 : τ41.2.1 14 (τ41.1 22) + τ41.2.1 15 (τ41.1 22) = τ41.1 6 := by omega
                        exact ⟨hT, (show (τ41.1 20) = 0 → τ41.2.1 15 (τ41.1 22) = 1 from by (first | omega | (simp only [st_s] <;> omega) | assumption | omega | fail)), (show τ41.2.1 15 (τ41.1 22) ≤ 1 from by (first | omega | (simp only [st_s] <;> omega) | assumption | omega | fail)), (show ¬ (σ.1 20) = 0 → (τ41.1 20) = (σ.1 20) from by (first | omega | (simp only [st_s] <;> omega) | assumption | omega | fail)), (show τ41.2.1 14 (τ41.1 22) + τ41.2.1 15 (τ41.1 22) = (τ41.1 6) from Z1), (show ca (τ41.2.1 12) ((τ41.1 3)) ≤ (τ41.1 4) from Y20), ag, (show (τ41.1 20) = 0 → n_N (τ41.2.1 14 (τ41.1 22)) (τ41.2.1 14 (τ41.1 22) + τ41.2.1 15 (τ41.1 22)) (σ.1 3) (σ.2.1 8) (σ.2.1 11) (τ41.2.1 12) (τ41.2.1 16) (τ41.2.1 17) from by (first | (intro z; exfalso; omega) | (intro _; rw [show τ41.2.1 14 (τ41.1 22) = σ.1 6 from by omega, show σ.1 6 + τ41.2.1 15 (τ41.1 22) = σ.1 6 + 1 from by omega]; exact n_N_1 q39_4 q39_5 (by omega) (x3lt (by omega)) (by rw [g12_τ41, st_s]; decide)) | fail)), (show n_rl σ τ41 from by (first | exact n_rl_h hf_τ11 rfl rfl | exact n_rl_h hf_τ20 rfl rfl | exact n_rl_h hf_τ29 rfl rfl | exact n_rl_h hf_τ36 rfl rfl | exact ⟨fun s _ _ _ => by rw [g10_τ41], fun s _ _ h => by (rw [g12_τ41]; by_cases z : s = x3; (rw [z, st_s]; decide); (rw [st_n _ _ z]; exact h)), Or.inl (by omega), Or.inl (by omega), by omega, fun zt s a b => by (rw [g10_τ41]; have h3 := zt s a (by omega); omega)⟩ | fail)), (show ∀ s : Int, ¬ σ.2.1 12 s = 0 → ¬ τ41.2.1 12 s = 0 from by (first | exact fun s h => by (rw [G12]; exact h) | exact fun s h => by (rw [g12_τ41]; by_cases z : s = x3; (rw [z, st_s]; decide); (rw [st_n _ _ z]; exact h)) | (intro s h; first | (rw [hf_τ11.2.1 12 (by decide)]; exact h) | (rw [hf_τ20.2.1 12 (by decide)]; exact h) | (rw [hf_τ29.2.1 12 (by decide)]; exact h) | (rw [hf_τ36.2.1 12 (by decide)]; exact h)) | fail))⟩
                    ·
                      refine ⟨_, K_X13_failHere hT (show 0 ≤ (10 : Int) from by (first | omega | (simp only [st_s] <;> omega) | assumption | omega | fail)) (show (10 : Int) ≤ 19 from by (first | omega | (simp only [st_s] <;> omega) | assumption | omega | fail)), ?_⟩
                      intro τ36 hn_τ36 hf_τ36 hq
                      obtain ⟨hT, q34_1, q34_2⟩ := hq
                      replace q34_1 : ¬ (σ.1 20) = 0 → (τ36.1 20) = (σ.1 20) := q34_1
                      replace q34_2 : (σ.1 20) = 0 → (τ36.1 20) = (10 : Int) := q34_2
                      replace ag : m_ag σ τ36 := ag_r ag hf_τ36 rfl rfl
                      have w0_τ36 : τ36.1 0 = σ.1 0 := hf_τ36.1 0 (by decide)
                      have w3_τ36 : τ36.1 3 = σ.1 3 := hf_τ36.1 3 (by decide)
                      have w4_τ36 : τ36.1 4 = σ.1 4 := hf_τ36.1 4 (by decide)
                      have w5_τ36 : τ36.1 5 = σ.1 5 := hf_τ36.1 5 (by decide)
                      have w6_τ36 : τ36.1 6 = σ.1 6 := hf_τ36.1 6 (by decide)
                      have w7_τ36 : τ36.1 7 = σ.1 7 := hf_τ36.1 7 (by decide)
                      have w8_τ36 : τ36.1 8 = σ.1 8 := hf_τ36.1 8 (by decide)
                      have w9_τ36 : τ36.1 9 = σ.1 9 := hf_τ36.1 9 (by decide)
                      have w10_τ36 : τ36.1 10 = σ.1 10 := hf_τ36.1 10 (by decide)
                      have w11_τ36 : τ36.1 11 = σ.1 11 := hf_τ36.1 11 (by decide)
                      have w17_τ36 : τ36.1 17 = σ.1 17 := hf_τ36.1 17 (by decide)
                      have w18_τ36 : τ36.1 18 = σ.1 18 := hf_τ36.1 18 (by decide)
                      have w19_τ36 : τ36.1 19 = σ.1 19 := hf_τ36.1 19 (by decide)
                      have w22_τ36 : τ36.1 22 = σ.1 22 := hf_τ36.1 22 (by decide)
                      have g6_τ36 : τ36.2.1 6 = σ.2.1 6 := hf_τ36.2.1 6 (by decide)
                      have g8_τ36 : τ36.2.1 8 = σ.2.1 8 := hf_τ36.2.1 8 (by decide)
                      have g10_τ36 : τ36.2.1 10 = σ.2.1 10 := hf_τ36.2.1 10 (by decide)
                      have g11_τ36 : τ36.2.1 11 = σ.2.1 11 := hf_τ36.2.1 11 (by decide)
                      have g12_τ36 : τ36.2.1 12 = σ.2.1 12 := hf_τ36.2.1 12 (by decide)
                      have g14_τ36 : τ36.2.1 14 = σ.2.1 14 := hf_τ36.2.1 14 (by decide)
                      have g15_τ36 : τ36.2.1 15 = σ.2.1 15 := hf_τ36.2.1 15 (by decide)
                      have g16_τ36 : τ36.2.1 16 = σ.2.1 16 := hf_τ36.2.1 16 (by decide)
                      have g17_τ36 : τ36.2.1 17 = σ.2.1 17 := hf_τ36.2.1 17 (by decide)
                      first | (have o6_τ36 := congrArg oc g6_τ36) | skip
                      have W0 : τ36.1 0 = σ.1 0 := by first | exact w0_τ36.trans W0 | omega
                      have W3 : τ36.1 3 = σ.1 3 := by first | exact w3_τ36.trans W3 | omega
                      have W5 : τ36.1 5 = σ.1 5 := by first | exact w5_τ36.trans W5 | omega
                      have W7 : τ36.1 7 = σ.1 7 := by first | exact w7_τ36.trans W7 | omega
                      have W8 : τ36.1 8 = σ.1 8 := by first | exact w8_τ36.trans W8 | omega
                      have W9 : τ36.1 9 = σ.1 9 := by first | exact w9_τ36.trans W9 | omega
                      have W10 : τ36.1 10 = σ.1 10 := by first | exact w10_τ36.trans W10 | omega
                      have W11 : τ36.1 11 = σ.1 11 := by first | exact w11_τ36.trans W11 | omega
                      have W17 : τ36.1 17 = σ.1 17 := by first | exact w17_τ36.trans W17 | omega
                      have W18 : τ36.1 18 = σ.1 18 := by first | exact w18_τ36.trans W18 | omega
                      have W19 : τ36.1 19 = σ.1 19 := by first | exact w19_τ36.trans W19 | omega
                      have W22 : τ36.1 22 = σ.1 22 := by first | exact w22_τ36.trans W22 | omega
                      have G6 : τ36.2.1 6 = σ.2.1 6 := (g6_τ36).trans G6
                      have G8 : τ36.2.1 8 = σ.2.1 8 := (g8_τ36).trans G8
                      have G10 : τ36.2.1 10 = σ.2.1 10 := (g10_τ36).trans G10
                      have G11 : τ36.2.1 11 = σ.2.1 11 := (g11_τ36).trans G11
                      have G14 : τ36.2.1 14 = σ.2.1 14 := (g14_τ36).trans G14
                      have y14_22_τ36 : τ36.2.1 14 (τ36.1 22) = (σ.2.1 14) (σ.1 22) := by rw [g14_τ36, w22_τ36]
                      have y15_22_τ36 : τ36.2.1 15 (τ36.1 22) = (σ.2.1 15) (σ.1 22) := by rw [g15_τ36, w22_τ36]
                      have Z1 : τ36.2.1 14 (τ36.1 22) + τ36.2.1 15 (τ36.1 22) = (τ36.1 6) := by rw [show (τ36.2.1 14 (τ36.1 22) + τ36.2.1 15 (τ36.1 22) = (τ36.1 6)) = (σ.2.1 14 (σ.1 22) + σ.2.1 15 (σ.1 22) = (σ.1 6)) from by rw [w6_τ36, w22_τ36, g14_τ36, g15_τ36]]; exact Z1
                      have Y20 : ca (τ36.2.1 12) ((τ36.1 3)) ≤ (τ36.1 4) := by rw [show (ca (τ36.2.1 12) ((τ36.1 3)) ≤ (τ36.1 4)) = (ca (σ.2.1 12) ((σ.1 3)) ≤ (σ.1 4)) from by rw [w3_τ36, w4_τ36, g12_τ36]]; exact Y20
                      have Y1 : j_l2 (τ36.2.1 6) (τ36.1 3) := by rw [show (j_l2 (τ36.2.1 6) (τ36.1 3)) = (j_l2 (σ.2.1 6) (σ.1 3)) from by rw [w3_τ36, g6_τ36]]; exact Y1
                      have STt : j_l2 (τ36.2.1 6) (τ36.1 3) := by rw [show (j_l2 (τ36.2.1 6) (τ36.1 3)) = (j_l2 (σ.2.1 6) (σ.1 3)) from by rw [w3_τ36, g6_τ36]]; exact STt
                      have A6 : ∀ j, (-1) ≤ τ36.2.1 6 j ∧ τ36.2.1 6 j ≤ 999 := fun j => hT.2 6 j
                      have A8 : ∀ j, 0 ≤ τ36.2.1 8 j ∧ τ36.2.1 8 j ≤ 1 := fun j => hT.2 8 j
                      have A10 : ∀ j, (-1) ≤ τ36.2.1 10 j ∧ τ36.2.1 10 j ≤ 999 := fun j => hT.2 10 j
                      have A11 : ∀ j, (-1) ≤ τ36.2.1 11 j ∧ τ36.2.1 11 j ≤ 1499 := fun j => hT.2 11 j
                      have A12 : ∀ j, 0 ≤ τ36.2.1 12 j ∧ τ36.2.1 12 j ≤ 1 := fun j => hT.2 12 j
                      have A14 : ∀ j, 0 ≤ τ36.2.1 14 j ∧ τ36.2.1 14 j ≤ 30000 := fun j => hT.2 14 j
                      have A15 : ∀ j, 0 ≤ τ36.2.1 15 j ∧ τ36.2.1 15 j ≤ 300 := fun j => hT.2 15 j
                      have A16 : ∀ j, 0 ≤ τ36.2.1 16 j ∧ τ36.2.1 16 j ≤ 999 := fun j => hT.2 16 j
                      have A17 : ∀ j, (-1) ≤ τ36.2.1 17 j ∧ τ36.2.1 17 j ≤ 1499 := fun j => hT.2 17 j
                      have v0 : 0 ≤ τ36.1 0 ∧ τ36.1 0 ≤ 60000 := hT.1 0
                      have v3 : 0 ≤ τ36.1 3 ∧ τ36.1 3 ≤ 1000 := hT.1 3
                      have v4 : 0 ≤ τ36.1 4 ∧ τ36.1 4 ≤ 100 := hT.1 4
                      have v5 : 0 ≤ τ36.1 5 ∧ τ36.1 5 ≤ 1500 := hT.1 5
                      have v6 : 0 ≤ τ36.1 6 ∧ τ36.1 6 ≤ 30000 := hT.1 6
                      have v7 : 0 ≤ τ36.1 7 ∧ τ36.1 7 ≤ 90000 := hT.1 7
                      have v8 : 0 ≤ τ36.1 8 ∧ τ36.1 8 ≤ 20000 := hT.1 8
                      have v9 : 0 ≤ τ36.1 9 ∧ τ36.1 9 ≤ 20000 := hT.1 9
                      have v10 : (-1) ≤ τ36.1 10 ∧ τ36.1 10 ≤ 999 := hT.1 10
                      have v11 : (-1) ≤ τ36.1 11 ∧ τ36.1 11 ≤ 999 := hT.1 11
                      have v17 : 0 ≤ τ36.1 17 ∧ τ36.1 17 ≤ 60000 := hT.1 17
                      have v18 : 0 ≤ τ36.1 18 ∧ τ36.1 18 ≤ 60000 := hT.1 18
                      have v19 : (-1) ≤ τ36.1 19 ∧ τ36.1 19 ≤ 125 := hT.1 19
                      have v20 : 0 ≤ τ36.1 20 ∧ τ36.1 20 ≤ 19 := hT.1 20
                      have v22 : 0 ≤ τ36.1 22 ∧ τ36.1 22 ≤ 1499 := hT.1 22
                      have a14_22 : 0 ≤ τ36.2.1 14 (τ36.1 22) ∧ τ36.2.1 14 (τ36.1 22) ≤ 30000 := hT.2 14 _
                      have a15_22 : 0 ≤ τ36.2.1 15 (τ36.1 22) ∧ τ36.2.1 15 (τ36.1 22) ≤ 300 := hT.2 15 _
                      have av6 : σ.1 6 ≤ τ36.1 6 := ag.1 6 (by decide)
                      exact ⟨hT, (show (τ36.1 20) = 0 → τ36.2.1 15 (τ36.1 22) = 1 from by (first | omega | (simp only [st_s] <;> omega) | assumption | omega | fail)), (show τ36.2.1 15 (τ36.1 22) ≤ 1 from by (first | omega | (simp only [st_s] <;> omega) | assumption | omega | fail)), (show ¬ (σ.1 20) = 0 → (τ36.1 20) = (σ.1 20) from by (first | omega | (simp only [st_s] <;> omega) | assumption | omega | fail)), (show τ36.2.1 14 (τ36.1 22) + τ36.2.1 15 (τ36.1 22) = (τ36.1 6) from Z1), (show ca (τ36.2.1 12) ((τ36.1 3)) ≤ (τ36.1 4) from Y20), ag, (show (τ36.1 20) = 0 → n_N (τ36.2.1 14 (τ36.1 22)) (τ36.2.1 14 (τ36.1 22) + τ36.2.1 15 (τ36.1 22)) (σ.1 3) (σ.2.1 8) (σ.2.1 11) (τ36.2.1 12) (τ36.2.1 16) (τ36.2.1 17) from by (first | (intro z; exfalso; omega) | (intro _; rw [show τ41.2.1 14 (τ41.1 22) = σ.1 6 from by omega, show σ.1 6 + τ41.2.1 15 (τ41.1 22) = σ.1 6 + 1 from by omega]; exact n_N_1 q39_4 q39_5 (by omega) (x3lt (by omega)) (by rw [g12_τ41, st_s]; decide)) | fail)), (show n_rl σ τ36 from by (first | exact n_rl_h hf_τ11 rfl rfl | exact n_rl_h hf_τ20 rfl rfl | exact n_rl_h hf_τ29 rfl rfl | exact n_rl_h hf_τ36 rfl rfl | exact ⟨fun s _ _ _ => by rw [g10_τ41], fun s _ _ h => by (rw [g12_τ41]; by_cases z : s = x3; (rw [z, st_s]; decide); (rw [st_n _ _ z]; exact h)), Or.inl (by omega), Or.inl (by omega), by omega, fun zt s a b => by (rw [g10_τ41]; have h3 := zt s a (by omega); omega)⟩ | fail)), (show ∀ s : Int, ¬ σ.2.1 12 s = 0 → ¬ τ36.2.1 12 s = 0 from by (first | exact fun s h => by (rw [G12]; exact h) | exact fun s h => by (rw [g12_τ41]; by_cases z : s = x3; (rw [z, st_s]; decide); (rw [st_n _ _ z]; exact h)) | (intro s h; first | (rw [hf_τ11.2.1 12 (by decide)]; exact h) | (rw [hf_τ20.2.1 12 (by decide)]; exact h) | (rw [hf_τ29.2.1 12 (by decide)]; exact h) | (rw [hf_τ36.2.1 12 (by decide)]; exact h)) | fail))⟩
                  ·
                    refine h102 _ ?_
                    refine ⟨_, K_X13_failHere hT (show 0 ≤ (9 : Int) from by (first | omega | (simp only [st_s] <;> omega) | assumption | omega | fail)) (show (9 : Int) ≤ 19 from by (first | omega | (simp only [st_s] <;> omega) | assumption | omega | fail)), ?_⟩
                    intro τ29 hn_τ29 hf_τ29 hq
                    obtain ⟨hT, q27_1, q27_2⟩ := hq
                    replace q27_1 : ¬ (σ.1 20) = 0 → (τ29.1 20) = (σ.1 20) := q27_1
                    replace q27_2 : (σ.1 20) = 0 → (τ29.1 20) = (9 : Int) := q27_2
                    replace ag : m_ag σ τ29 := ag_r ag hf_τ29 rfl rfl
                    have w0_τ29 : τ29.1 0 = σ.1 0 := hf_τ29.1 0 (by decide)
                    have w3_τ29 : τ29.1 3 = σ.1 3 := hf_τ29.1 3 (by decide)
                    have w4_τ29 : τ29.1 4 = σ.1 4 := hf_τ29.1 4 (by decide)
                    have w5_τ29 : τ29.1 5 = σ.1 5 := hf_τ29.1 5 (by decide)
                    have w6_τ29 : τ29.1 6 = σ.1 6 := hf_τ29.1 6 (by decide)
                    have w7_τ29 : τ29.1 7 = σ.1 7 := hf_τ29.1 7 (by decide)
                    have w8_τ29 : τ29.1 8 = σ.1 8 := hf_τ29.1 8 (by decide)
                    have w9_τ29 : τ29.1 9 = σ.1 9 := hf_τ29.1 9 (by decide)
                    have w10_τ29 : τ29.1 10 = σ.1 10 := hf_τ29.1 10 (by decide)
                    have w11_τ29 : τ29.1 11 = σ.1 11 := hf_τ29.1 11 (by decide)
                    have w17_τ29 : τ29.1 17 = σ.1 17 := hf_τ29.1 17 (by decide)
                    have w18_τ29 : τ29.1 18 = σ.1 18 := hf_τ29.1 18 (by decide)
                    have w19_τ29 : τ29.1 19 = σ.1 19 := hf_τ29.1 19 (by decide)
                    have w22_τ29 : τ29.1 22 = σ.1 22 := hf_τ29.1 22 (by decide)
                    have g6_τ29 : τ29.2.1 6 = σ.2.1 6 := hf_τ29.2.1 6 (by decide)
                    have g8_τ29 : τ29.2.1 8 = σ.2.1 8 := hf_τ29.2.1 8 (by decide)
                    have g10_τ29 : τ29.2.1 10 = σ.2.1 10 := hf_τ29.2.1 10 (by decide)
                    have g11_τ29 : τ29.2.1 11 = σ.2.1 11 := hf_τ29.2.1 11 (by decide)
                    have g12_τ29 : τ29.2.1 12 = σ.2.1 12 := hf_τ29.2.1 12 (by decide)
                    have g14_τ29 : τ29.2.1 14 = σ.2.1 14 := hf_τ29.2.1 14 (by decide)
                    have g15_τ29 : τ29.2.1 15 = σ.2.1 15 := hf_τ29.2.1 15 (by decide)
                    have g16_τ29 : τ29.2.1 16 = σ.2.1 16 := hf_τ29.2.1 16 (by decide)
                    have g17_τ29 : τ29.2.1 17 = σ.2.1 17 := hf_τ29.2.1 17 (by decide)
                    first | (have o6_τ29 := congrArg oc g6_τ29) | skip
                    have W0 : τ29.1 0 = σ.1 0 := by first | exact w0_τ29.trans W0 | omega
                    have W3 : τ29.1 3 = σ.1 3 := by first | exact w3_τ29.trans W3 | omega
                    have W5 : τ29.1 5 = σ.1 5 := by first | exact w5_τ29.trans W5 | omega
                    have W7 : τ29.1 7 = σ.1 7 := by first | exact w7_τ29.trans W7 | omega
                    have W8 : τ29.1 8 = σ.1 8 := by first | exact w8_τ29.trans W8 | omega
                    have W9 : τ29.1 9 = σ.1 9 := by first | exact w9_τ29.trans W9 | omega
                    have W10 : τ29.1 10 = σ.1 10 := by first | exact w10_τ29.trans W10 | omega
                    have W11 : τ29.1 11 = σ.1 11 := by first | exact w11_τ29.trans W11 | omega
                    have W17 : τ29.1 17 = σ.1 17 := by first | exact w17_τ29.trans W17 | omega
                    have W18 : τ29.1 18 = σ.1 18 := by first | exact w18_τ29.trans W18 | omega
                    have W19 : τ29.1 19 = σ.1 19 := by first | exact w19_τ29.trans W19 | omega
                    have W22 : τ29.1 22 = σ.1 22 := by first | exact w22_τ29.trans W22 | omega
                    have G6 : τ29.2.1 6 = σ.2.1 6 := (g6_τ29).trans G6
                    have G8 : τ29.2.1 8 = σ.2.1 8 := (g8_τ29).trans G8
                    have G10 : τ29.2.1 10 = σ.2.1 10 := (g10_τ29).trans G10
                    have G11 : τ29.2.1 11 = σ.2.1 11 := (g11_τ29).trans G11
                    have G14 : τ29.2.1 14 = σ.2.1 14 := (g14_τ29).trans G14
                    have y14_22_τ29 : τ29.2.1 14 (τ29.1 22) = (σ.2.1 14) (σ.1 22) := by rw [g14_τ29, w22_τ29]
                    have y15_22_τ29 : τ29.2.1 15 (τ29.1 22) = (σ.2.1 15) (σ.1 22) := by rw [g15_τ29, w22_τ29]
                    have Z1 : τ29.2.1 14 (τ29.1 22) + τ29.2.1 15 (τ29.1 22) = (τ29.1 6) := by rw [show (τ29.2.1 14 (τ29.1 22) + τ29.2.1 15 (τ29.1 22) = (τ29.1 6)) = (σ.2.1 14 (σ.1 22) + σ.2.1 15 (σ.1 22) = (σ.1 6)) from by rw [w6_τ29, w22_τ29, g14_τ29, g15_τ29]]; exact Z1
                    have Y20 : ca (τ29.2.1 12) ((τ29.1 3)) ≤ (τ29.1 4) := by rw [show (ca (τ29.2.1 12) ((τ29.1 3)) ≤ (τ29.1 4)) = (ca (σ.2.1 12) ((σ.1 3)) ≤ (σ.1 4)) from by rw [w3_τ29, w4_τ29, g12_τ29]]; exact Y20
                    have Y1 : j_l2 (τ29.2.1 6) (τ29.1 3) := by rw [show (j_l2 (τ29.2.1 6) (τ29.1 3)) = (j_l2 (σ.2.1 6) (σ.1 3)) from by rw [w3_τ29, g6_τ29]]; exact Y1
                    have STt : j_l2 (τ29.2.1 6) (τ29.1 3) := by rw [show (j_l2 (τ29.2.1 6) (τ29.1 3)) = (j_l2 (σ.2.1 6) (σ.1 3)) from by rw [w3_τ29, g6_τ29]]; exact STt
                    have A6 : ∀ j, (-1) ≤ τ29.2.1 6 j ∧ τ29.2.1 6 j ≤ 999 := fun j => hT.2 6 j
                    have A8 : ∀ j, 0 ≤ τ29.2.1 8 j ∧ τ29.2.1 8 j ≤ 1 := fun j => hT.2 8 j
                    have A10 : ∀ j, (-1) ≤ τ29.2.1 10 j ∧ τ29.2.1 10 j ≤ 999 := fun j => hT.2 10 j
                    have A11 : ∀ j, (-1) ≤ τ29.2.1 11 j ∧ τ29.2.1 11 j ≤ 1499 := fun j => hT.2 11 j
                    have A12 : ∀ j, 0 ≤ τ29.2.1 12 j ∧ τ29.2.1 12 j ≤ 1 := fun j => hT.2 12 j
                    have A14 : ∀ j, 0 ≤ τ29.2.1 14 j ∧ τ29.2.1 14 j ≤ 30000 := fun j => hT.2 14 j
                    have A15 : ∀ j, 0 ≤ τ29.2.1 15 j ∧ τ29.2.1 15 j ≤ 300 := fun j => hT.2 15 j
                    have A16 : ∀ j, 0 ≤ τ29.2.1 16 j ∧ τ29.2.1 16 j ≤ 999 := fun j => hT.2 16 j
                    have A17 : ∀ j, (-1) ≤ τ29.2.1 17 j ∧ τ29.2.1 17 j ≤ 1499 := fun j => hT.2 17 j
                    have v0 : 0 ≤ τ29.1 0 ∧ τ29.1 0 ≤ 60000 := hT.1 0
                    have v3 : 0 ≤ τ29.1 3 ∧ τ29.1 3 ≤ 1000 := hT.1 3
                    have v4 : 0 ≤ τ29.1 4 ∧ τ29.1 4 ≤ 100 := hT.1 4
                    have v5 : 0 ≤ τ29.1 5 ∧ τ29.1 5 ≤ 1500 := hT.1 5
                    have v6 : 0 ≤ τ29.1 6 ∧ τ29.1 6 ≤ 30000 := hT.1 6
                    have v7 : 0 ≤ τ29.1 7 ∧ τ29.1 7 ≤ 90000 := hT.1 7
                    have v8 : 0 ≤ τ29.1 8 ∧ τ29.1 8 ≤ 20000 := hT.1 8
                    have v9 : 0 ≤ τ29.1 9 ∧ τ29.1 9 ≤ 20000 := hT.1 9
                    have v10 : (-1) ≤ τ29.1 10 ∧ τ29.1 10 ≤ 999 := hT.1 10
                    have v11 : (-1) ≤ τ29.1 11 ∧ τ29.1 11 ≤ 999 := hT.1 11
                    have v17 : 0 ≤ τ29.1 17 ∧ τ29.1 17 ≤ 60000 := hT.1 17
                    have v18 : 0 ≤ τ29.1 18 ∧ τ29.1 18 ≤ 60000 := hT.1 18
                    have v19 : (-1) ≤ τ29.1 19 ∧ τ29.1 19 ≤ 125 := hT.1 19
                    have v20 : 0 ≤ τ29.1 20 ∧ τ29.1 20 ≤ 19 := hT.1 20
                    have v22 : 0 ≤ τ29.1 22 ∧ τ29.1 22 ≤ 1499 := hT.1 22
                    have a14_22 : 0 ≤ τ29.2.1 14 (τ29.1 22) ∧ τ29.2.1 14 (τ29.1 22) ≤ 30000 := hT.2 14 _
                    have a15_22 : 0 ≤ τ29.2.1 15 (τ29.1 22) ∧ τ29.2.1 15 (τ29.1 22) ≤ 300 := hT.2 15 _
                    have av6 : σ.1 6 ≤ τ29.1 6 := ag.1 6 (by decide)
                    exact ⟨hT, (show (τ29.1 20) = 0 → τ29.2.1 15 (τ29.1 22) = 1 from by (first | omega | (simp only [st_s] <;> omega) | assumption | omega | fail)), (show τ29.2.1 15 (τ29.1 22) ≤ 1 from by (first | omega | (simp only [st_s] <;> omega) | assumption | omega | fail)), (show ¬ (σ.1 20) = 0 → (τ29.1 20) = (σ.1 20) from by (first | omega | (simp only [st_s] <;> omega) | assumption | omega | fail)), (show τ29.2.1 14 (τ29.1 22) + τ29.2.1 15 (τ29.1 22) = (τ29.1 6) from Z1), (show ca (τ29.2.1 12) ((τ29.1 3)) ≤ (τ29.1 4) from Y20), ag, (show (τ29.1 20) = 0 → n_N (τ29.2.1 14 (τ29.1 22)) (τ29.2.1 14 (τ29.1 22) + τ29.2.1 15 (τ29.1 22)) (σ.1 3) (σ.2.1 8) (σ.2.1 11) (τ29.2.1 12) (τ29.2.1 16) (τ29.2.1 17) from by (first | (intro z; exfalso; omega) | (intro _; rw [show τ41.2.1 14 (τ41.1 22) = σ.1 6 from by omega, show σ.1 6 + τ41.2.1 15 (τ41.1 22) = σ.1 6 + 1 from by omega]; exact n_N_1 q39_4 q39_5 (by omega) (x3lt (by omega)) (by rw [g12_τ41, st_s]; decide)) | fail)), (show n_rl σ τ29 from by (first | exact n_rl_h hf_τ11 rfl rfl | exact n_rl_h hf_τ20 rfl rfl | exact n_rl_h hf_τ29 rfl rfl | exact n_rl_h hf_τ36 rfl rfl | exact ⟨fun s _ _ _ => by rw [g10_τ41], fun s _ _ h => by (rw [g12_τ41]; by_cases z : s = x3; (rw [z, st_s]; decide); (rw [st_n _ _ z]; exact h)), Or.inl (by omega), Or.inl (by omega), by omega, fun zt s a b => by (rw [g10_τ41]; have h3 := zt s a (by omega); omega)⟩ | fail)), (show ∀ s : Int, ¬ σ.2.1 12 s = 0 → ¬ τ29.2.1 12 s = 0 from by (first | exact fun s h => by (rw [G12]; exact h) | exact fun s h => by (rw [g12_τ41]; by_cases z : s = x3; (rw [z, st_s]; decide); (rw [st_n _ _ z]; exact h)) | (intro s h; first | (rw [hf_τ11.2.1 12 (by decide)]; exact h) | (rw [hf_τ20.2.1 12 (by decide)]; exact h) | (rw [hf_τ29.2.1 12 (by decide)]; exact h) | (rw [hf_τ36.2.1 12 (by decide)]; exact h)) | fail))⟩
            ·
              refine ⟨fun c17 => ?_, fun c17 => ?_⟩
              ·
                refine h79 _ _ _ ?_
                refine ⟨fun c21 => ?_, fun c21 => ?_⟩
                ·
                  refine h102 _ ?_
                  refine ⟨_, K_X13_failHere hT (show 0 ≤ (9 : Int) from by (first | omega | (simp only [st_s] <;> omega) | assumption | omega | fail)) (show (9 : Int) ≤ 19 from by (first | omega | (simp only [st_s] <;> omega) | assumption | omega | fail)), ?_⟩
                  intro τ29 hn_τ29 hf_τ29 hq
                  obtain ⟨hT, q27_1, q27_2⟩ := hq
                  replace q27_1 : ¬ (σ.1 20) = 0 → (τ29.1 20) = (σ.1 20) := q27_1
                  replace q27_2 : (σ.1 20) = 0 → (τ29.1 20) = (9 : Int) := q27_2
                  replace ag : m_ag σ τ29 := ag_r ag hf_τ29 rfl rfl
                  have w0_τ29 : τ29.1 0 = σ.1 0 := hf_τ29.1 0 (by decide)
                  have w3_τ29 : τ29.1 3 = σ.1 3 := hf_τ29.1 3 (by decide)
                  have w4_τ29 : τ29.1 4 = σ.1 4 := hf_τ29.1 4 (by decide)
                  have w5_τ29 : τ29.1 5 = σ.1 5 := hf_τ29.1 5 (by decide)
                  have w6_τ29 : τ29.1 6 = σ.1 6 := hf_τ29.1 6 (by decide)
                  have w7_τ29 : τ29.1 7 = σ.1 7 := hf_τ29.1 7 (by decide)
                  have w8_τ29 : τ29.1 8 = σ.1 8 := hf_τ29.1 8 (by decide)
                  have w9_τ29 : τ29.1 9 = σ.1 9 := hf_τ29.1 9 (by decide)
                  have w10_τ29 : τ29.1 10 = σ.1 10 := hf_τ29.1 10 (by decide)
                  have w11_τ29 : τ29.1 11 = σ.1 11 := hf_τ29.1 11 (by decide)
                  have w17_τ29 : τ29.1 17 = σ.1 17 := hf_τ29.1 17 (by decide)
                  have w18_τ29 : τ29.1 18 = σ.1 18 := hf_τ29.1 18 (by decide)
                  have w19_τ29 : τ29.1 19 = σ.1 19 := hf_τ29.1 19 (by decide)
                  have w22_τ29 : τ29.1 22 = σ.1 22 := hf_τ29.1 22 (by decide)
                  have g6_τ29 : τ29.2.1 6 = σ.2.1 6 := hf_τ29.2.1 6 (by decide)
                  have g8_τ29 : τ29.2.1 8 = σ.2.1 8 := hf_τ29.2.1 8 (by decide)
                  have g10_τ29 : τ29.2.1 10 = σ.2.1 10 := hf_τ29.2.1 10 (by decide)
                  have g11_τ29 : τ29.2.1 11 = σ.2.1 11 := hf_τ29.2.1 11 (by decide)
                  have g12_τ29 : τ29.2.1 12 = σ.2.1 12 := hf_τ29.2.1 12 (by decide)
                  have g14_τ29 : τ29.2.1 14 = σ.2.1 14 := hf_τ29.2.1 14 (by decide)
                  have g15_τ29 : τ29.2.1 15 = σ.2.1 15 := hf_τ29.2.1 15 (by decide)
                  have g16_τ29 : τ29.2.1 16 = σ.2.1 16 := hf_τ29.2.1 16 (by decide)
                  have g17_τ29 : τ29.2.1 17 = σ.2.1 17 := hf_τ29.2.1 17 (by decide)
                  first | (have o6_τ29 := congrArg oc g6_τ29) | skip
                  have W0 : τ29.1 0 = σ.1 0 := by first | exact w0_τ29.trans W0 | omega
                  have W3 : τ29.1 3 = σ.1 3 := by first | exact w3_τ29.trans W3 | omega
                  have W5 : τ29.1 5 = σ.1 5 := by first | exact w5_τ29.trans W5 | omega
                  have W7 : τ29.1 7 = σ.1 7 := by first | exact w7_τ29.trans W7 | omega
                  have W8 : τ29.1 8 = σ.1 8 := by first | exact w8_τ29.trans W8 | omega
                  have W9 : τ29.1 9 = σ.1 9 := by first | exact w9_τ29.trans W9 | omega
                  have W10 : τ29.1 10 = σ.1 10 := by first | exact w10_τ29.trans W10 | omega
                  have W11 : τ29.1 11 = σ.1 11 := by first | exact w11_τ29.trans W11 | omega
                  have W17 : τ29.1 17 = σ.1 17 := by first | exact w17_τ29.trans W17 | omega
                  have W18 : τ29.1 18 = σ.1 18 := by first | exact w18_τ29.trans W18 | omega
                  have W19 : τ29.1 19 = σ.1 19 := by first | exact w19_τ29.trans W19 | omega
                  have W22 : τ29.1 22 = σ.1 22 := by first | exact w22_τ29.trans W22 | omega
                  have G6 : τ29.2.1 6 = σ.2.1 6 := (g6_τ29).trans G6
                  have G8 : τ29.2.1 8 = σ.2.1 8 := (g8_τ29).trans G8
                  have G10 : τ29.2.1 10 = σ.2.1 10 := (g10_τ29).trans G10
                  have G11 : τ29.2.1 11 = σ.2.1 11 := (g11_τ29).trans G11
                  have G14 : τ29.2.1 14 = σ.2.1 14 := (g14_τ29).trans G14
                  have y14_22_τ29 : τ29.2.1 14 (τ29.1 22) = (σ.2.1 14) (σ.1 22) := by rw [g14_τ29, w22_τ29]
                  have y15_22_τ29 : τ29.2.1 15 (τ29.1 22) = (σ.2.1 15) (σ.1 22) := by rw [g15_τ29, w22_τ29]
                  have Z1 : τ29.2.1 14 (τ29.1 22) + τ29.2.1 15 (τ29.1 22) = (τ29.1 6) := by rw [show (τ29.2.1 14 (τ29.1 22) + τ29.2.1 15 (τ29.1 22) = (τ29.1 6)) = (σ.2.1 14 (σ.1 22) + σ.2.1 15 (σ.1 22) = (σ.1 6)) from by rw [w6_τ29, w22_τ29, g14_τ29, g15_τ29]]; exact Z1
                  have Y20 : ca (τ29.2.1 12) ((τ29.1 3)) ≤ (τ29.1 4) := by rw [show (ca (τ29.2.1 12) ((τ29.1 3)) ≤ (τ29.1 4)) = (ca (σ.2.1 12) ((σ.1 3)) ≤ (σ.1 4)) from by rw [w3_τ29, w4_τ29, g12_τ29]]; exact Y20
                  have Y1 : j_l2 (τ29.2.1 6) (τ29.1 3) := by rw [show (j_l2 (τ29.2.1 6) (τ29.1 3)) = (j_l2 (σ.2.1 6) (σ.1 3)) from by rw [w3_τ29, g6_τ29]]; exact Y1
                  have STt : j_l2 (τ29.2.1 6) (τ29.1 3) := by rw [show (j_l2 (τ29.2.1 6) (τ29.1 3)) = (j_l2 (σ.2.1 6) (σ.1 3)) from by rw [w3_τ29, g6_τ29]]; exact STt
                  have A6 : ∀ j, (-1) ≤ τ29.2.1 6 j ∧ τ29.2.1 6 j ≤ 999 := fun j => hT.2 6 j
                  have A8 : ∀ j, 0 ≤ τ29.2.1 8 j ∧ τ29.2.1 8 j ≤ 1 := fun j => hT.2 8 j
                  have A10 : ∀ j, (-1) ≤ τ29.2.1 10 j ∧ τ29.2.1 10 j ≤ 999 := fun j => hT.2 10 j
                  have A11 : ∀ j, (-1) ≤ τ29.2.1 11 j ∧ τ29.2.1 11 j ≤ 1499 := fun j => hT.2 11 j
                  have A12 : ∀ j, 0 ≤ τ29.2.1 12 j ∧ τ29.2.1 12 j ≤ 1 := fun j => hT.2 12 j
                  have A14 : ∀ j, 0 ≤ τ29.2.1 14 j ∧ τ29.2.1 14 j ≤ 30000 := fun j => hT.2 14 j
                  have A15 : ∀ j, 0 ≤ τ29.2.1 15 j ∧ τ29.2.1 15 j ≤ 300 := fun j => hT.2 15 j
                  have A16 : ∀ j, 0 ≤ τ29.2.1 16 j ∧ τ29.2.1 16 j ≤ 999 := fun j => hT.2 16 j
                  have A17 : ∀ j, (-1) ≤ τ29.2.1 17 j ∧ τ29.2.1 17 j ≤ 1499 := fun j => hT.2 17 j
                  have v0 : 0 ≤ τ29.1 0 ∧ τ29.1 0 ≤ 60000 := hT.1 0
                  have v3 : 0 ≤ τ29.1 3 ∧ τ29.1 3 ≤ 1000 := hT.1 3
                  have v4 : 0 ≤ τ29.1 4 ∧ τ29.1 4 ≤ 100 := hT.1 4
                  have v5 : 0 ≤ τ29.1 5 ∧ τ29.1 5 ≤ 1500 := hT.1 5
                  have v6 : 0 ≤ τ29.1 6 ∧ τ29.1 6 ≤ 30000 := hT.1 6
                  have v7 : 0 ≤ τ29.1 7 ∧ τ29.1 7 ≤ 90000 := hT.1 7
                  have v8 : 0 ≤ τ29.1 8 ∧ τ29.1 8 ≤ 20000 := hT.1 8
                  have v9 : 0 ≤ τ29.1 9 ∧ τ29.1 9 ≤ 20000 := hT.1 9
                  have v10 : (-1) ≤ τ29.1 10 ∧ τ29.1 10 ≤ 999 := hT.1 10
                  have v11 : (-1) ≤ τ29.1 11 ∧ τ29.1 11 ≤ 999 := hT.1 11
                  have v17 : 0 ≤ τ29.1 17 ∧ τ29.1 17 ≤ 60000 := hT.1 17
                  have v18 : 0 ≤ τ29.1 18 ∧ τ29.1 18 ≤ 60000 := hT.1 18
                  have v19 : (-1) ≤ τ29.1 19 ∧ τ29.1 19 ≤ 125 := hT.1 19
                  have v20 : 0 ≤ τ29.1 20 ∧ τ29.1 20 ≤ 19 := hT.1 20
                  have v22 : 0 ≤ τ29.1 22 ∧ τ29.1 22 ≤ 1499 := hT.1 22
                  have a14_22 : 0 ≤ τ29.2.1 14 (τ29.1 22) ∧ τ29.2.1 14 (τ29.1 22) ≤ 30000 := hT.2 14 _
                  have a15_22 : 0 ≤ τ29.2.1 15 (τ29.1 22) ∧ τ29.2.1 15 (τ29.1 22) ≤ 300 := hT.2 15 _
                  have av6 : σ.1 6 ≤ τ29.1 6 := ag.1 6 (by decide)
                  exact ⟨hT, (show (τ29.1 20) = 0 → τ29.2.1 15 (τ29.1 22) = 1 from by (first | omega | (simp only [st_s] <;> omega) | assumption | omega | fail)), (show τ29.2.1 15 (τ29.1 22) ≤ 1 from by (first | omega | (simp only [st_s] <;> omega) | assumption | omega | fail)), (show ¬ (σ.1 20) = 0 → (τ29.1 20) = (σ.1 20) from by (first | omega | (simp only [st_s] <;> omega) | assumption | omega | fail)), (show τ29.2.1 14 (τ29.1 22) + τ29.2.1 15 (τ29.1 22) = (τ29.1 6) from Z1), (show ca (τ29.2.1 12) ((τ29.1 3)) ≤ (τ29.1 4) from Y20), ag, (show (τ29.1 20) = 0 → n_N (τ29.2.1 14 (τ29.1 22)) (τ29.2.1 14 (τ29.1 22) + τ29.2.1 15 (τ29.1 22)) (σ.1 3) (σ.2.1 8) (σ.2.1 11) (τ29.2.1 12) (τ29.2.1 16) (τ29.2.1 17) from by (first | (intro z; exfalso; omega) | (intro _; rw [show τ41.2.1 14 (τ41.1 22) = σ.1 6 from by omega, show σ.1 6 + τ41.2.1 15 (τ41.1 22) = σ.1 6 + 1 from by omega]; exact n_N_1 q39_4 q39_5 (by omega) (x3lt (by omega)) (by rw [g12_τ41, st_s]; decide)) | fail)), (show n_rl σ τ29 from by (first | exact n_rl_h hf_τ11 rfl rfl | exact n_rl_h hf_τ20 rfl rfl | exact n_rl_h hf_τ29 rfl rfl | exact n_rl_h hf_τ36 rfl rfl | exact ⟨fun s _ _ _ => by rw [g10_τ41], fun s _ _ h => by (rw [g12_τ41]; by_cases z : s = x3; (rw [z, st_s]; decide); (rw [st_n _ _ z]; exact h)), Or.inl (by omega), Or.inl (by omega), by omega, fun zt s a b => by (rw [g10_τ41]; have h3 := zt s a (by omega); omega)⟩ | fail)), (show ∀ s : Int, ¬ σ.2.1 12 s = 0 → ¬ τ29.2.1 12 s = 0 from by (first | exact fun s h => by (rw [G12]; exact h) | exact fun s h => by (rw [g12_τ41]; by_cases z : s = x3; (rw [z, st_s]; decide); (rw [st_n _ _ z]; exact h)) | (intro s h; first | (rw [hf_τ11.2.1 12 (by decide)]; exact h) | (rw [hf_τ20.2.1 12 (by decide)]; exact h) | (rw [hf_τ29.2.1 12 (by decide)]; exact h) | (rw [hf_τ36.2.1 12 (by decide)]; exact h)) | fail))⟩
                ·
                  refine ⟨(show 0 ≤ x3 ∧ x3 < 1001 from by (first | omega | (simp only [st_s] <;> omega) | assumption | omega | fail)), ?_⟩
                  intro x23 r_x23 e_x23
                  have b_x23 : 0 ≤ x23 ∧ x23 ≤ 1 := by rw [e_x23]; exact hT.2 8 _
                  refine ⟨fun c24 => ?_, fun c24 => ?_⟩
                  ·
                    refine h111 _ _ _ ?_
                    refine ⟨fun c30 => ?_, fun c30 => ?_⟩
                    ·
                      refine ⟨(show 0 ≤ x3 ∧ x3 < 1001 from by (first | omega | (simp only [st_s] <;> omega) | assumption | omega | fail)), ?_⟩
                      intro x32 r_x32 e_x32
                      have b_x32 : 0 ≤ x32 ∧ x32 ≤ 1 := by rw [e_x32]; exact hT.2 12 _
                      refine ⟨fun c33 => ?_, fun c33 => ?_⟩
                      ·
                        refine h143 _ _ _ _ ?_
                        refine ⟨(⟨by (first | omega | (simp only [st_s] <;> omega) | assumption | omega | fail), by (first | omega | (simp only [st_s] <;> omega) | assumption | omega | fail)⟩ : rg ((σ.1 4) + 1)), ?_⟩
                        replace ag := ag_v (i := 4) (x := ((σ.1 4) + 1)) ag (Or.inl rfl)
                        replace hT := mT_v (i := 4) hT (show 0 ≤ ((σ.1 4) + 1) ∧ ((σ.1 4) + 1) ≤ 100 from by (first | omega | (simp only [st_s] <;> omega) | assumption | omega | fail))
                        have ct0 := ca_t0 (σ.2.1 12) x3 ((σ.1 3)) 1 (by omega) (by omega)
                        have ct2 := ca_t2 (σ.2.1 12) (e := x3) ((σ.1 3)) 1 (by omega) (by omega)
                        refine ⟨(show 0 ≤ x3 ∧ x3 < 1001 from by (first | omega | (simp only [st_s] <;> omega) | assumption | omega | fail)), ?_⟩
                        replace ag := ag_a (k := 12) (e := x3) (x := 1) ag rfl
                        replace hT := mT_a (k := 12) (j := x3) hT (show (0 : Int) ≤ 1 ∧ 1 ≤ 1 from by (first | omega | (simp only [st_s] <;> omega) | assumption | omega | fail))
                        have y14q : σ.2.1 14 (σ.1 22) = σ.1 6 := by omega
                        refine ⟨_, K3_X13_addSymbol hT (show 0 ≤ x3 from by (first | omega | (simp only [st_s] <;> omega) | assumption | omega | fail)) (show x3 < 1000 from by (first | omega | (simp only [st_s] <;> omega) | assumption | omega | fail)) (show -1 ≤ (-1 : Int) from by (first | omega | (simp only [st_s] <;> omega) | assumption | omega | fail)) (show (-1 : Int) ≤ 1499 from by (first | omega | (simp only [st_s] <;> omega) | assumption | omega | fail)) (show (σ.1 6) < 30000 from by (first | omega | (simp only [st_s] <;> omega) | assumption | omega | fail)) (show σ.2.1 15 (σ.1 22) < 300 from by (first | omega | (simp only [st_s] <;> omega) | assumption | omega | fail)) (show (σ.1 22) = (σ.1 5) from by (first | omega | (simp only [st_s] <;> omega) | assumption | omega | fail)), ?_⟩
                        intro τ41 hn_τ41 hf_τ41 hq
                        obtain ⟨hT, q39_1, q39_2, q39_3, q39_4, q39_5⟩ := hq
                        replace q39_1 : (τ41.1 6) = (σ.1 6) + 1 := q39_1
                        replace q39_2 : τ41.2.1 15 (τ41.1 22) = σ.2.1 15 (σ.1 22) + 1 := q39_2
                        replace q39_3 : m_ag (s_a (s_v σ 4 ((σ.1 4) + 1)) 12 x3 1) τ41 := q39_3
                        replace q39_4 : τ41.2.1 16 = st (σ.2.1 16) (σ.1 6) x3 := q39_4
                        replace q39_5 : τ41.2.1 17 = st (σ.2.1 17) (σ.1 6) (-1 : Int) := q39_5
                        replace ag : m_ag σ τ41 := ag_t ag q39_3 rfl
                        have w0_τ41 : τ41.1 0 = σ.1 0 := hf_τ41.1 0 (by decide)
                        have w3_τ41 : τ41.1 3 = σ.1 3 := hf_τ41.1 3 (by decide)
                        have w4_τ41 : τ41.1 4 = ((σ.1 4) + 1) := hf_τ41.1 4 (by decide)
                        have w5_τ41 : τ41.1 5 = σ.1 5 := hf_τ41.1 5 (by decide)
                        have w7_τ41 : τ41.1 7 = σ.1 7 := hf_τ41.1 7 (by decide)
                        have w8_τ41 : τ41.1 8 = σ.1 8 := hf_τ41.1 8 (by decide)
                        have w9_τ41 : τ41.1 9 = σ.1 9 := hf_τ41.1 9 (by decide)
                        have w10_τ41 : τ41.1 10 = σ.1 10 := hf_τ41.1 10 (by decide)
                        have w11_τ41 : τ41.1 11 = σ.1 11 := hf_τ41.1 11 (by decide)
                        have w17_τ41 : τ41.1 17 = σ.1 17 := hf_τ41.1 17 (by decide)
                        have w18_τ41 : τ41.1 18 = σ.1 18 := hf_τ41.1 18 (by decide)
                        have w19_τ41 : τ41.1 19 = σ.1 19 := hf_τ41.1 19 (by decide)
                        have w20_τ41 : τ41.1 20 = σ.1 20 := hf_τ41.1 20 (by decide)
                        have w22_τ41 : τ41.1 22 = σ.1 22 := hf_τ41.1 22 (by decide)
                        have g6_τ41 : τ41.2.1 6 = σ.2.1 6 := hf_τ41.2.1 6 (by decide)
                        have g8_τ41 : τ41.2.1 8 = σ.2.1 8 := hf_τ41.2.1 8 (by decide)
                        have g10_τ41 : τ41.2.1 10 = σ.2.1 10 := hf_τ41.2.1 10 (by decide)
                        have g11_τ41 : τ41.2.1 11 = σ.2.1 11 := hf_τ41.2.1 11 (by decide)
                        have g12_τ41 : τ41.2.1 12 = (st (σ.2.1 12) x3 1) := hf_τ41.2.1 12 (by decide)
                        have g14_τ41 : τ41.2.1 14 = σ.2.1 14 := hf_τ41.2.1 14 (by decide)
                        first | (have o6_τ41 := congrArg oc g6_τ41) | skip
                        have W0 : τ41.1 0 = σ.1 0 := by first | exact w0_τ41.trans W0 | omega
                        have W3 : τ41.1 3 = σ.1 3 := by first | exact w3_τ41.trans W3 | omega
                        have W5 : τ41.1 5 = σ.1 5 := by first | exact w5_τ41.trans W5 | omega
                        have W7 : τ41.1 7 = σ.1 7 := by first | exact w7_τ41.trans W7 | omega
                        have W8 : τ41.1 8 = σ.1 8 := by first | exact w8_τ41.trans W8 | omega
                        have W9 : τ41.1 9 = σ.1 9 := by first | exact w9_τ41.trans W9 | omega
                        have W10 : τ41.1 10 = σ.1 10 := by first | exact w10_τ41.trans W10 | omega
                        have W11 : τ41.1 11 = σ.1 11 := by first | exact w11_τ41.trans W11 | omega
                        have W17 : τ41.1 17 = σ.1 17 := by first | exact w17_τ41.trans W17 | omega
                        have W18 : τ41.1 18 = σ.1 18 := by first | exact w18_τ41.trans W18 | omega
                        have W19 : τ41.1 19 = σ.1 19 := by first | exact w19_τ41.trans W19 | omega
                        have W22 : τ41.1 22 = σ.1 22 := by first | exact w22_τ41.trans W22 | omega
                        have G6 : τ41.2.1 6 = σ.2.1 6 := (g6_τ41).trans G6
                        have G8 : τ41.2.1 8 = σ.2.1 8 := (g8_τ41).trans G8
                        have G10 : τ41.2.1 10 = σ.2.1 10 := (g10_τ41).trans G10
                        have G11 : τ41.2.1 11 = σ.2.1 11 := (g11_τ41).trans G11
                        have G14 : τ41.2.1 14 = σ.2.1 14 := (g14_τ41).trans G14
                        have y14_22_τ41 : τ41.2.1 14 (τ41.1 22) = (σ.2.1 14) (σ.1 22) := by rw [g14_τ41, w22_τ41]
                        have Y1 : j_l2 (τ41.2.1 6) (τ41.1 3) := by rw [show (j_l2 (τ41.2.1 6) (τ41.1 3)) = (j_l2 (σ.2.1 6) (σ.1 3)) from by rw [w3_τ41, g6_τ41]]; exact Y1
                        have STt : j_l2 (τ41.2.1 6) (τ41.1 3) := by rw [show (j_l2 (τ41.2.1 6) (τ41.1 3)) = (j_l2 (σ.2.1 6) (σ.1 3)) from by rw [w3_τ41, g6_τ41]]; exact STt
                        have A6 : ∀ j, (-1) ≤ τ41.2.1 6 j ∧ τ41.2.1 6 j ≤ 999 := fun j => hT.2 6 j
                        have A8 : ∀ j, 0 ≤ τ41.2.1 8 j ∧ τ41.2.1 8 j ≤ 1 := fun j => hT.2 8 j
                        have A10 : ∀ j, (-1) ≤ τ41.2.1 10 j ∧ τ41.2.1 10 j ≤ 999 := fun j => hT.2 10 j
                        have A11 : ∀ j, (-1) ≤ τ41.2.1 11 j ∧ τ41.2.1 11 j ≤ 1499 := fun j => hT.2 11 j
                        have A12 : ∀ j, 0 ≤ τ41.2.1 12 j ∧ τ41.2.1 12 j ≤ 1 := fun j => hT.2 12 j
                        have A14 : ∀ j, 0 ≤ τ41.2.1 14 j ∧ τ41.2.1 14 j ≤ 30000 := fun j => hT.2 14 j
                        have A15 : ∀ j, 0 ≤ τ41.2.1 15 j ∧ τ41.2.1 15 j ≤ 300 := fun j => hT.2 15 j
                        have A16 : ∀ j, 0 ≤ τ41.2.1 16 j ∧ τ41.2.1 16 j ≤ 999 := fun j => hT.2 16 j
                        have A17 : ∀ j, (-1) ≤ τ41.2.1 17 j ∧ τ41.2.1 17 j ≤ 1499 := fun j => hT.2 17 j
                        have v0 : 0 ≤ τ41.1 0 ∧ τ41.1 0 ≤ 60000 := hT.1 0
                        have v3 : 0 ≤ τ41.1 3 ∧ τ41.1 3 ≤ 1000 := hT.1 3
                        have v4 : 0 ≤ τ41.1 4 ∧ τ41.1 4 ≤ 100 := hT.1 4
                        have v5 : 0 ≤ τ41.1 5 ∧ τ41.1 5 ≤ 1500 := hT.1 5
                        have v6 : 0 ≤ τ41.1 6 ∧ τ41.1 6 ≤ 30000 := hT.1 6
                        have v7 : 0 ≤ τ41.1 7 ∧ τ41.1 7 ≤ 90000 := hT.1 7
                        have v8 : 0 ≤ τ41.1 8 ∧ τ41.1 8 ≤ 20000 := hT.1 8
                        have v9 : 0 ≤ τ41.1 9 ∧ τ41.1 9 ≤ 20000 := hT.1 9
                        have v10 : (-1) ≤ τ41.1 10 ∧ τ41.1 10 ≤ 999 := hT.1 10
                        have v11 : (-1) ≤ τ41.1 11 ∧ τ41.1 11 ≤ 999 := hT.1 11
                        have v17 : 0 ≤ τ41.1 17 ∧ τ41.1 17 ≤ 60000 := hT.1 17
                        have v18 : 0 ≤ τ41.1 18 ∧ τ41.1 18 ≤ 60000 := hT.1 18
                        have v19 : (-1) ≤ τ41.1 19 ∧ τ41.1 19 ≤ 125 := hT.1 19
                        have v20 : 0 ≤ τ41.1 20 ∧ τ41.1 20 ≤ 19 := hT.1 20
                        have v22 : 0 ≤ τ41.1 22 ∧ τ41.1 22 ≤ 1499 := hT.1 22
                        have a14_22 : 0 ≤ τ41.2.1 14 (τ41.1 22) ∧ τ41.2.1 14 (τ41.1 22) ≤ 30000 := hT.2 14 _
                        have a15_22 : 0 ≤ τ41.2.1 15 (τ41.1 22) ∧ τ41.2.1 15 (τ41.1 22) ≤ 300 := hT.2 15 _
                        have av6 : σ.1 6 ≤ τ41.1 6 := ag.1 6 (by decide)
                        have Y20 : ca (τ41.2.1 12) (τ41.1 3) ≤ τ41.1 4 := by rw [g12_τ41, w3_τ41]; omega
                        have Z1 : τ41.2.1 14 (τ41.1 22) + τ41.2.1 15 (τ41.1 22) = τ41.1 6 := by omega
                        exact ⟨hT, (show (τ41.1 20) = 0 → τ41.2.1 15 (τ41.1 22) = 1 from by (first | omega | (simp only [st_s] <;> omega) | assumption | omega | fail)), (show τ41.2.1 15 (τ41.1 22) ≤ 1 from by (first | omega | (simp only [st_s] <;> omega) | assumption | omega | fail)), (show ¬ (σ.1 20) = 0 → (τ41.1 20) = (σ.1 20) from by (first | omega | (simp only [st_s] <;> omega) | assumption | omega | fail)), (show τ41.2.1 14 (τ41.1 22) + τ41.2.1 15 (τ41.1 22) = (τ41.1 6) from Z1), (show ca (τ41.2.1 12) ((τ41.1 3)) ≤ (τ41.1 4) from Y20), ag, (show (τ41.1 20) = 0 → n_N (τ41.2.1 14 (τ41.1 22)) (τ41.2.1 14 (τ41.1 22) + τ41.2.1 15 (τ41.1 22)) (σ.1 3) (σ.2.1 8) (σ.2.1 11) (τ41.2.1 12) (τ41.2.1 16) (τ41.2.1 17) from by (first | (intro z; exfalso; omega) | (intro _; rw [show τ41.2.1 14 (τ41.1 22) = σ.1 6 from by omega, show σ.1 6 + τ41.2.1 15 (τ41.1 22) = σ.1 6 + 1 from by omega]; exact n_N_1 q39_4 q39_5 (by omega) (x3lt (by omega)) (by rw [g12_τ41, st_s]; decide)) | fail)), (show n_rl σ τ41 from by (first | exact n_rl_h hf_τ11 rfl rfl | exact n_rl_h hf_τ20 rfl rfl | exact n_rl_h hf_τ29 rfl rfl | exact n_rl_h hf_τ36 rfl rfl | exact ⟨fun s _ _ _ => by rw [g10_τ41], fun s _ _ h => by (rw [g12_τ41]; by_cases z : s = x3; (rw [z, st_s]; decide); (rw [st_n _ _ z]; exact h)), Or.inl (by omega), Or.inl (by omega), by omega, fun zt s a b => by (rw [g10_τ41]; have h3 := zt s a (by omega); omega)⟩ | fail)), (show ∀ s : Int, ¬ σ.2.1 12 s = 0 → ¬ τ41.2.1 12 s = 0 from by (first | exact fun s h => by (rw [G12]; exact h) | exact fun s h => by (rw [g12_τ41]; by_cases z : s = x3; (rw [z, st_s]; decide); (rw [st_n _ _ z]; exact h)) | (intro s h; first | (rw [hf_τ11.2.1 12 (by decide)]; exact h) | (rw [hf_τ20.2.1 12 (by decide)]; exact h) | (rw [hf_τ29.2.1 12 (by decide)]; exact h) | (rw [hf_τ36.2.1 12 (by decide)]; exact h)) | fail))⟩
                      ·
                        refine h143 _ _ _ _ ?_
                        refine ⟨(⟨by (first | omega | (simp only [st_s] <;> omega) | assumption | omega | fail), by (first | omega | (simp only [st_s] <;> omega) | assumption | omega | fail)⟩ : rg ((σ.1 4) + 0)), ?_⟩
                        replace ag := ag_v (i := 4) (x := ((σ.1 4) + 0)) ag (Or.inl rfl)
                        replace hT := mT_v (i := 4) hT (show 0 ≤ ((σ.1 4) + 0) ∧ ((σ.1 4) + 0) ≤ 100 from by (first | omega | (simp only [st_s] <;> omega) | assumption | omega | fail))
                        have ct0 := ca_t0 (σ.2.1 12) x3 ((σ.1 3)) 1 (by omega) (by omega)
                        have ct2 := ca_t2 (σ.2.1 12) (e := x3) ((σ.1 3)) 1 (by omega) (by omega)
                        refine ⟨(show 0 ≤ x3 ∧ x3 < 1001 from by (first | omega | (simp only [st_s] <;> omega) | assumption | omega | fail)), ?_⟩
                        replace ag := ag_a (k := 12) (e := x3) (x := 1) ag rfl
                        replace hT := mT_a (k := 12) (j := x3) hT (show (0 : Int) ≤ 1 ∧ 1 ≤ 1 from by (first | omega | (simp only [st_s] <;> omega) | assumption | omega | fail))
                        have y14q : σ.2.1 14 (σ.1 22) = σ.1 6 := by omega
                        refine ⟨_, K3_X13_addSymbol hT (show 0 ≤ x3 from by (first | omega | (simp only [st_s] <;> omega) | assumption | omega | fail)) (show x3 < 1000 from by (first | omega | (simp only [st_s] <;> omega) | assumption | omega | fail)) (show -1 ≤ (-1 : Int) from by (first | omega | (simp only [st_s] <;> omega) | assumption | omega | fail)) (show (-1 : Int) ≤ 1499 from by (first | omega | (simp only [st_s] <;> omega) | assumption | omega | fail)) (show (σ.1 6) < 30000 from by (first | omega | (simp only [st_s] <;> omega) | assumption | omega | fail)) (show σ.2.1 15 (σ.1 22) < 300 from by (first | omega | (simp only [st_s] <;> omega) | assumption | omega | fail)) (show (σ.1 22) = (σ.1 5) from by (first | omega | (simp only [st_s] <;> omega) | assumption | omega | fail)), ?_⟩
                        intro τ41 hn_τ41 hf_τ41 hq
                        obtain ⟨hT, q39_1, q39_2, q39_3, q39_4, q39_5⟩ := hq
                        replace q39_1 : (τ41.1 6) = (σ.1 6) + 1 := q39_1
                        replace q39_2 : τ41.2.1 15 (τ41.1 22) = σ.2.1 15 (σ.1 22) + 1 := q39_2
                        replace q39_3 : m_ag (s_a (s_v σ 4 ((σ.1 4) + 0)) 12 x3 1) τ41 := q39_3
                        replace q39_4 : τ41.2.1 16 = st (σ.2.1 16) (σ.1 6) x3 := q39_4
                        replace q39_5 : τ41.2.1 17 = st (σ.2.1 17) (σ.1 6) (-1 : Int) := q39_5
                        replace ag : m_ag σ τ41 := ag_t ag q39_3 rfl
                        have w0_τ41 : τ41.1 0 = σ.1 0 := hf_τ41.1 0 (by decide)
                        have w3_τ41 : τ41.1 3 = σ.1 3 := hf_τ41.1 3 (by decide)
                        have w4_τ41 : τ41.1 4 = ((σ.1 4) + 0) := hf_τ41.1 4 (by decide)
                        have w5_τ41 : τ41.1 5 = σ.1 5 := hf_τ41.1 5 (by decide)
                        have w7_τ41 : τ41.1 7 = σ.1 7 := hf_τ41.1 7 (by decide)
                        have w8_τ41 : τ41.1 8 = σ.1 8 := hf_τ41.1 8 (by decide)
                        have w9_τ41 : τ41.1 9 = σ.1 9 := hf_τ41.1 9 (by decide)
                        have w10_τ41 : τ41.1 10 = σ.1 10 := hf_τ41.1 10 (by decide)
                        have w11_τ41 : τ41.1 11 = σ.1 11 := hf_τ41.1 11 (by decide)
                        have w17_τ41 : τ41.1 17 = σ.1 17 := hf_τ41.1 17 (by decide)
                        have w18_τ41 : τ41.1 18 = σ.1 18 := hf_τ41.1 18 (by decide)
                        have w19_τ41 : τ41.1 19 = σ.1 19 := hf_τ41.1 19 (by decide)
                        have w20_τ41 : τ41.1 20 = σ.1 20 := hf_τ41.1 20 (by decide)
                        have w22_τ41 : τ41.1 22 = σ.1 22 := hf_τ41.1 22 (by decide)
                        have g6_τ41 : τ41.2.1 6 = σ.2.1 6 := hf_τ41.2.1 6 (by decide)
                        have g8_τ41 : τ41.2.1 8 = σ.2.1 8 := hf_τ41.2.1 8 (by decide)
                        have g10_τ41 : τ41.2.1 10 = σ.2.1 10 := hf_τ41.2.1 10 (by decide)
                        have g11_τ41 : τ41.2.1 11 = σ.2.1 11 := hf_τ41.2.1 11 (by decide)
                        have g12_τ41 : τ41.2.1 12 = (st (σ.2.1 12) x3 1) := hf_τ41.2.1 12 (by decide)
                        have g14_τ41 : τ41.2.1 14 = σ.2.1 14 := hf_τ41.2.1 14 (by decide)
                        first | (have o6_τ41 := congrArg oc g6_τ41) | skip
                        have W0 : τ41.1 0 = σ.1 0 := by first | exact w0_τ41.trans W0 | omega
                        have W3 : τ41.1 3 = σ.1 3 := by first | exact w3_τ41.trans W3 | omega
                        have W5 : τ41.1 5 = σ.1 5 := by first | exact w5_τ41.trans W5 | omega
                        have W7 : τ41.1 7 = σ.1 7 := by first | exact w7_τ41.trans W7 | omega
                        have W8 : τ41.1 8 = σ.1 8 := by first | exact w8_τ41.trans W8 | omega
                        have W9 : τ41.1 9 = σ.1 9 := by first | exact w9_τ41.trans W9 | omega
                        have W10 : τ41.1 10 = σ.1 10 := by first | exact w10_τ41.trans W10 | omega
                        have W11 : τ41.1 11 = σ.1 11 := by first | exact w11_τ41.trans W11 | omega
                        have W17 : τ41.1 17 = σ.1 17 := by first | exact w17_τ41.trans W17 | omega
                        have W18 : τ41.1 18 = σ.1 18 := by first | exact w18_τ41.trans W18 | omega
                        have W19 : τ41.1 19 = σ.1 19 := by first | exact w19_τ41.trans W19 | omega
                        have W22 : τ41.1 22 = σ.1 22 := by first | exact w22_τ41.trans W22 | omega
                        have G6 : τ41.2.1 6 = σ.2.1 6 := (g6_τ41).trans G6
                        have G8 : τ41.2.1 8 = σ.2.1 8 := (g8_τ41).trans G8
                        have G10 : τ41.2.1 10 = σ.2.1 10 := (g10_τ41).trans G10
                        have G11 : τ41.2.1 11 = σ.2.1 11 := (g11_τ41).trans G11
                        have G14 : τ41.2.1 14 = σ.2.1 14 := (g14_τ41).trans G14
                        have y14_22_τ41 : τ41.2.1 14 (τ41.1 22) = (σ.2.1 14) (σ.1 22) := by rw [g14_τ41, w22_τ41]
                        have Y1 : j_l2 (τ41.2.1 6) (τ41.1 3) := by rw [show (j_l2 (τ41.2.1 6) (τ41.1 3)) = (j_l2 (σ.2.1 6) (σ.1 3)) from by rw [w3_τ41, g6_τ41]]; exact Y1
                        have STt : j_l2 (τ41.2.1 6) (τ41.1 3) := by rw [show (j_l2 (τ41.2.1 6) (τ41.1 3)) = (j_l2 (σ.2.1 6) (σ.1 3)) from by rw [w3_τ41, g6_τ41]]; exact STt
                        have A6 : ∀ j, (-1) ≤ τ41.2.1 6 j ∧ τ41.2.1 6 j ≤ 999 := fun j => hT.2 6 j
                        have A8 : ∀ j, 0 ≤ τ41.2.1 8 j ∧ τ41.2.1 8 j ≤ 1 := fun j => hT.2 8 j
                        have A10 : ∀ j, (-1) ≤ τ41.2.1 10 j ∧ τ41.2.1 10 j ≤ 999 := fun j => hT.2 10 j
                        have A11 : ∀ j, (-1) ≤ τ41.2.1 11 j ∧ τ41.2.1 11 j ≤ 1499 := fun j => hT.2 11 j
                        have A12 : ∀ j, 0 ≤ τ41.2.1 12 j ∧ τ41.2.1 12 j ≤ 1 := fun j => hT.2 12 j
                        have A14 : ∀ j, 0 ≤ τ41.2.1 14 j ∧ τ41.2.1 14 j ≤ 30000 := fun j => hT.2 14 j
                        have A15 : ∀ j, 0 ≤ τ41.2.1 15 j ∧ τ41.2.1 15 j ≤ 300 := fun j => hT.2 15 j
                        have A16 : ∀ j, 0 ≤ τ41.2.1 16 j ∧ τ41.2.1 16 j ≤ 999 := fun j => hT.2 16 j
                        have A17 : ∀ j, (-1) ≤ τ41.2.1 17 j ∧ τ41.2.1 17 j ≤ 1499 := fun j => hT.2 17 j
                        have v0 : 0 ≤ τ41.1 0 ∧ τ41.1 0 ≤ 60000 := hT.1 0
                        have v3 : 0 ≤ τ41.1 3 ∧ τ41.1 3 ≤ 1000 := hT.1 3
                        have v4 : 0 ≤ τ41.1 4 ∧ τ41.1 4 ≤ 100 := hT.1 4
                        have v5 : 0 ≤ τ41.1 5 ∧ τ41.1 5 ≤ 1500 := hT.1 5
                        have v6 : 0 ≤ τ41.1 6 ∧ τ41.1 6 ≤ 30000 := hT.1 6
                        have v7 : 0 ≤ τ41.1 7 ∧ τ41.1 7 ≤ 90000 := hT.1 7
                        have v8 : 0 ≤ τ41.1 8 ∧ τ41.1 8 ≤ 20000 := hT.1 8
                        have v9 : 0 ≤ τ41.1 9 ∧ τ41.1 9 ≤ 20000 := hT.1 9
                        have v10 : (-1) ≤ τ41.1 10 ∧ τ41.1 10 ≤ 999 := hT.1 10
                        have v11 : (-1) ≤ τ41.1 11 ∧ τ41.1 11 ≤ 999 := hT.1 11
                        have v17 : 0 ≤ τ41.1 17 ∧ τ41.1 17 ≤ 60000 := hT.1 17
                        have v18 : 0 ≤ τ41.1 18 ∧ τ41.1 18 ≤ 60000 := hT.1 18
                        have v19 : (-1) ≤ τ41.1 19 ∧ τ41.1 19 ≤ 125 := hT.1 19
                        have v20 : 0 ≤ τ41.1 20 ∧ τ41.1 20 ≤ 19 := hT.1 20
                        have v22 : 0 ≤ τ41.1 22 ∧ τ41.1 22 ≤ 1499 := hT.1 22
                        have a14_22 : 0 ≤ τ41.2.1 14 (τ41.1 22) ∧ τ41.2.1 14 (τ41.1 22) ≤ 30000 := hT.2 14 _
                        have a15_22 : 0 ≤ τ41.2.1 15 (τ41.1 22) ∧ τ41.2.1 15 (τ41.1 22) ≤ 300 := hT.2 15 _
                        have av6 : σ.1 6 ≤ τ41.1 6 := ag.1 6 (by decide)
                        have Y20 : ca (τ41.2.1 12) (τ41.1 3) ≤ τ41.1 4 := by rw [g12_τ41, w3_τ41]; omega
                        have Z1 : τ41.2.1 14 (τ41.1 22) + τ41.2.1 15 (τ41.1 22) = τ41.1 6 := by omega
                        exact ⟨hT, (show (τ41.1 20) = 0 → τ41.2.1 15 (τ41.1 22) = 1 from by (first | omega | (simp only [st_s] <;> omega) | assumption | omega | fail)), (show τ41.2.1 15 (τ41.1 22) ≤ 1 from by (first | omega | (simp only [st_s] <;> omega) | assumption | omega | fail)), (show ¬ (σ.1 20) = 0 → (τ41.1 20) = (σ.1 20) from by (first | omega | (simp only [st_s] <;> omega) | assumption | omega | fail)), (show τ41.2.1 14 (τ41.1 22) + τ41.2.1 15 (τ41.1 22) = (τ41.1 6) from Z1), (show ca (τ41.2.1 12) ((τ41.1 3)) ≤ (τ41.1 4) from Y20), ag, (show (τ41.1 20) = 0 → n_N (τ41.2.1 14 (τ41.1 22)) (τ41.2.1 14 (τ41.1 22) + τ41.2.1 15 (τ41.1 22)) (σ.1 3) (σ.2.1 8) (σ.2.1 11) (τ41.2.1 12) (τ41.2.1 16) (τ41.2.1 17) from by (first | (intro z; exfalso; omega) | (intro _; rw [show τ41.2.1 14 (τ41.1 22) = σ.1 6 from by omega, show σ.1 6 + τ41.2.1 15 (τ41.1 22) = σ.1 6 + 1 from by omega]; exact n_N_1 q39_4 q39_5 (by omega) (x3lt (by omega)) (by rw [g12_τ41, st_s]; decide)) | fail)), (show n_rl σ τ41 from by (first | exact n_rl_h hf_τ11 rfl rfl | exact n_rl_h hf_τ20 rfl rfl | exact n_rl_h hf_τ29 rfl rfl | exact n_rl_h hf_τ36 rfl rfl | exact ⟨fun s _ _ _ => by rw [g10_τ41], fun s _ _ h => by (rw [g12_τ41]; by_cases z : s = x3; (rw [z, st_s]; decide); (rw [st_n _ _ z]; exact h)), Or.inl (by omega), Or.inl (by omega), by omega, fun zt s a b => by (rw [g10_τ41]; have h3 := zt s a (by omega); omega)⟩ | fail)), (show ∀ s : Int, ¬ σ.2.1 12 s = 0 → ¬ τ41.2.1 12 s = 0 from by (first | exact fun s h => by (rw [G12]; exact h) | exact fun s h => by (rw [g12_τ41]; by_cases z : s = x3; (rw [z, st_s]; decide); (rw [st_n _ _ z]; exact h)) | (intro s h; first | (rw [hf_τ11.2.1 12 (by decide)]; exact h) | (rw [hf_τ20.2.1 12 (by decide)]; exact h) | (rw [hf_τ29.2.1 12 (by decide)]; exact h) | (rw [hf_τ36.2.1 12 (by decide)]; exact h)) | fail))⟩
                    ·
                      refine ⟨_, K_X13_failHere hT (show 0 ≤ (10 : Int) from by (first | omega | (simp only [st_s] <;> omega) | assumption | omega | fail)) (show (10 : Int) ≤ 19 from by (first | omega | (simp only [st_s] <;> omega) | assumption | omega | fail)), ?_⟩
                      intro τ36 hn_τ36 hf_τ36 hq
                      obtain ⟨hT, q34_1, q34_2⟩ := hq
                      replace q34_1 : ¬ (σ.1 20) = 0 → (τ36.1 20) = (σ.1 20) := q34_1
                      replace q34_2 : (σ.1 20) = 0 → (τ36.1 20) = (10 : Int) := q34_2
                      replace ag : m_ag σ τ36 := ag_r ag hf_τ36 rfl rfl
                      have w0_τ36 : τ36.1 0 = σ.1 0 := hf_τ36.1 0 (by decide)
                      have w3_τ36 : τ36.1 3 = σ.1 3 := hf_τ36.1 3 (by decide)
                      have w4_τ36 : τ36.1 4 = σ.1 4 := hf_τ36.1 4 (by decide)
                      have w5_τ36 : τ36.1 5 = σ.1 5 := hf_τ36.1 5 (by decide)
                      have w6_τ36 : τ36.1 6 = σ.1 6 := hf_τ36.1 6 (by decide)
                      have w7_τ36 : τ36.1 7 = σ.1 7 := hf_τ36.1 7 (by decide)
                      have w8_τ36 : τ36.1 8 = σ.1 8 := hf_τ36.1 8 (by decide)
                      have w9_τ36 : τ36.1 9 = σ.1 9 := hf_τ36.1 9 (by decide)
                      have w10_τ36 : τ36.1 10 = σ.1 10 := hf_τ36.1 10 (by decide)
                      have w11_τ36 : τ36.1 11 = σ.1 11 := hf_τ36.1 11 (by decide)
                      have w17_τ36 : τ36.1 17 = σ.1 17 := hf_τ36.1 17 (by decide)
                      have w18_τ36 : τ36.1 18 = σ.1 18 := hf_τ36.1 18 (by decide)
                      have w19_τ36 : τ36.1 19 = σ.1 19 := hf_τ36.1 19 (by decide)
                      have w22_τ36 : τ36.1 22 = σ.1 22 := hf_τ36.1 22 (by decide)
                      have g6_τ36 : τ36.2.1 6 = σ.2.1 6 := hf_τ36.2.1 6 (by decide)
                      have g8_τ36 : τ36.2.1 8 = σ.2.1 8 := hf_τ36.2.1 8 (by decide)
                      have g10_τ36 : τ36.2.1 10 = σ.2.1 10 := hf_τ36.2.1 10 (by decide)
                      have g11_τ36 : τ36.2.1 11 = σ.2.1 11 := hf_τ36.2.1 11 (by decide)
                      have g12_τ36 : τ36.2.1 12 = σ.2.1 12 := hf_τ36.2.1 12 (by decide)
                      have g14_τ36 : τ36.2.1 14 = σ.2.1 14 := hf_τ36.2.1 14 (by decide)
                      have g15_τ36 : τ36.2.1 15 = σ.2.1 15 := hf_τ36.2.1 15 (by decide)
                      have g16_τ36 : τ36.2.1 16 = σ.2.1 16 := hf_τ36.2.1 16 (by decide)
                      have g17_τ36 : τ36.2.1 17 = σ.2.1 17 := hf_τ36.2.1 17 (by decide)
                      first | (have o6_τ36 := congrArg oc g6_τ36) | skip
                      have W0 : τ36.1 0 = σ.1 0 := by first | exact w0_τ36.trans W0 | omega
                      have W3 : τ36.1 3 = σ.1 3 := by first | exact w3_τ36.trans W3 | omega
                      have W5 : τ36.1 5 = σ.1 5 := by first | exact w5_τ36.trans W5 | omega
                      have W7 : τ36.1 7 = σ.1 7 := by first | exact w7_τ36.trans W7 | omega
                      have W8 : τ36.1 8 = σ.1 8 := by first | exact w8_τ36.trans W8 | omega
                      have W9 : τ36.1 9 = σ.1 9 := by first | exact w9_τ36.trans W9 | omega
                      have W10 : τ36.1 10 = σ.1 10 := by first | exact w10_τ36.trans W10 | omega
                      have W11 : τ36.1 11 = σ.1 11 := by first | exact w11_τ36.trans W11 | omega
                      have W17 : τ36.1 17 = σ.1 17 := by first | exact w17_τ36.trans W17 | omega
                      have W18 : τ36.1 18 = σ.1 18 := by first | exact w18_τ36.trans W18 | omega
                      have W19 : τ36.1 19 = σ.1 19 := by first | exact w19_τ36.trans W19 | omega
                      have W22 : τ36.1 22 = σ.1 22 := by first | exact w22_τ36.trans W22 | omega
                      have G6 : τ36.2.1 6 = σ.2.1 6 := (g6_τ36).trans G6
                      have G8 : τ36.2.1 8 = σ.2.1 8 := (g8_τ36).trans G8
                      have G10 : τ36.2.1 10 = σ.2.1 10 := (g10_τ36).trans G10
                      have G11 : τ36.2.1 11 = σ.2.1 11 := (g11_τ36).trans G11
                      have G14 : τ36.2.1 14 = σ.2.1 14 := (g14_τ36).trans G14
                      have y14_22_τ36 : τ36.2.1 14 (τ36.1 22) = (σ.2.1 14) (σ.1 22) := by rw [g14_τ36, w22_τ36]
                      have y15_22_τ36 : τ36.2.1 15 (τ36.1 22) = (σ.2.1 15) (σ.1 22) := by rw [g15_τ36, w22_τ36]
                      have Z1 : τ36.2.1 14 (τ36.1 22) + τ36.2.1 15 (τ36.1 22) = (τ36.1 6) := by rw [show (τ36.2.1 14 (τ36.1 22) + τ36.2.1 15 (τ36.1 22) = (τ36.1 6)) = (σ.2.1 14 (σ.1 22) + σ.2.1 15 (σ.1 22) = (σ.1 6)) from by rw [w6_τ36, w22_τ36, g14_τ36, g15_τ36]]; exact Z1
                      have Y20 : ca (τ36.2.1 12) ((τ36.1 3)) ≤ (τ36.1 4) := by rw [show (ca (τ36.2.1 12) ((τ36.1 3)) ≤ (τ36.1 4)) = (ca (σ.2.1 12) ((σ.1 3)) ≤ (σ.1 4)) from by rw [w3_τ36, w4_τ36, g12_τ36]]; exact Y20
                      have Y1 : j_l2 (τ36.2.1 6) (τ36.1 3) := by rw [show (j_l2 (τ36.2.1 6) (τ36.1 3)) = (j_l2 (σ.2.1 6) (σ.1 3)) from by rw [w3_τ36, g6_τ36]]; exact Y1
                      have STt : j_l2 (τ36.2.1 6) (τ36.1 3) := by rw [show (j_l2 (τ36.2.1 6) (τ36.1 3)) = (j_l2 (σ.2.1 6) (σ.1 3)) from by rw [w3_τ36, g6_τ36]]; exact STt
                      have A6 : ∀ j, (-1) ≤ τ36.2.1 6 j ∧ τ36.2.1 6 j ≤ 999 := fun j => hT.2 6 j
                      have A8 : ∀ j, 0 ≤ τ36.2.1 8 j ∧ τ36.2.1 8 j ≤ 1 := fun j => hT.2 8 j
                      have A10 : ∀ j, (-1) ≤ τ36.2.1 10 j ∧ τ36.2.1 10 j ≤ 999 := fun j => hT.2 10 j
                      have A11 : ∀ j, (-1) ≤ τ36.2.1 11 j ∧ τ36.2.1 11 j ≤ 1499 := fun j => hT.2 11 j
                      have A12 : ∀ j, 0 ≤ τ36.2.1 12 j ∧ τ36.2.1 12 j ≤ 1 := fun j => hT.2 12 j
                      have A14 : ∀ j, 0 ≤ τ36.2.1 14 j ∧ τ36.2.1 14 j ≤ 30000 := fun j => hT.2 14 j
                      have A15 : ∀ j, 0 ≤ τ36.2.1 15 j ∧ τ36.2.1 15 j ≤ 300 := fun j => hT.2 15 j
                      have A16 : ∀ j, 0 ≤ τ36.2.1 16 j ∧ τ36.2.1 16 j ≤ 999 := fun j => hT.2 16 j
                      have A17 : ∀ j, (-1) ≤ τ36.2.1 17 j ∧ τ36.2.1 17 j ≤ 1499 := fun j => hT.2 17 j
                      have v0 : 0 ≤ τ36.1 0 ∧ τ36.1 0 ≤ 60000 := hT.1 0
                      have v3 : 0 ≤ τ36.1 3 ∧ τ36.1 3 ≤ 1000 := hT.1 3
                      have v4 : 0 ≤ τ36.1 4 ∧ τ36.1 4 ≤ 100 := hT.1 4
                      have v5 : 0 ≤ τ36.1 5 ∧ τ36.1 5 ≤ 1500 := hT.1 5
                      have v6 : 0 ≤ τ36.1 6 ∧ τ36.1 6 ≤ 30000 := hT.1 6
                      have v7 : 0 ≤ τ36.1 7 ∧ τ36.1 7 ≤ 90000 := hT.1 7
                      have v8 : 0 ≤ τ36.1 8 ∧ τ36.1 8 ≤ 20000 := hT.1 8
                      have v9 : 0 ≤ τ36.1 9 ∧ τ36.1 9 ≤ 20000 := hT.1 9
                      have v10 : (-1) ≤ τ36.1 10 ∧ τ36.1 10 ≤ 999 := hT.1 10
                      have v11 : (-1) ≤ τ36.1 11 ∧ τ36.1 11 ≤ 999 := hT.1 11
                      have v17 : 0 ≤ τ36.1 17 ∧ τ36.1 17 ≤ 60000 := hT.1 17
                      have v18 : 0 ≤ τ36.1 18 ∧ τ36.1 18 ≤ 60000 := hT.1 18
                      have v19 : (-1) ≤ τ36.1 19 ∧ τ36.1 19 ≤ 125 := hT.1 19
                      have v20 : 0 ≤ τ36.1 20 ∧ τ36.1 20 ≤ 19 := hT.1 20
                      have v22 : 0 ≤ τ36.1 22 ∧ τ36.1 22 ≤ 1499 := hT.1 22
                      have a14_22 : 0 ≤ τ36.2.1 14 (τ36.1 22) ∧ τ36.2.1 14 (τ36.1 22) ≤ 30000 := hT.2 14 _
                      have a15_22 : 0 ≤ τ36.2.1 15 (τ36.1 22) ∧ τ36.2.1 15 (τ36.1 22) ≤ 300 := hT.2 15 _
                      have av6 : σ.1 6 ≤ τ36.1 6 := ag.1 6 (by decide)
                      exact ⟨hT, (show (τ36.1 20) = 0 → τ36.2.1 15 (τ36.1 22) = 1 from by (first | omega | (simp only [st_s] <;> omega) | assumption | omega | fail)), (show τ36.2.1 15 (τ36.1 22) ≤ 1 from by (first | omega | (simp only [st_s] <;> omega) | assumption | omega | fail)), (show ¬ (σ.1 20) = 0 → (τ36.1 20) = (σ.1 20) from by (first | omega | (simp only [st_s] <;> omega) | assumption | omega | fail)), (show τ36.2.1 14 (τ36.1 22) + τ36.2.1 15 (τ36.1 22) = (τ36.1 6) from Z1), (show ca (τ36.2.1 12) ((τ36.1 3)) ≤ (τ36.1 4) from Y20), ag, (show (τ36.1 20) = 0 → n_N (τ36.2.1 14 (τ36.1 22)) (τ36.2.1 14 (τ36.1 22) + τ36.2.1 15 (τ36.1 22)) (σ.1 3) (σ.2.1 8) (σ.2.1 11) (τ36.2.1 12) (τ36.2.1 16) (τ36.2.1 17) from by (first | (intro z; exfalso; omega) | (intro _; rw [show τ41.2.1 14 (τ41.1 22) = σ.1 6 from by omega, show σ.1 6 + τ41.2.1 15 (τ41.1 22) = σ.1 6 + 1 from by omega]; exact n_N_1 q39_4 q39_5 (by omega) (x3lt (by omega)) (by rw [g12_τ41, st_s]; decide)) | fail)), (show n_rl σ τ36 from by (first | exact n_rl_h hf_τ11 rfl rfl | exact n_rl_h hf_τ20 rfl rfl | exact n_rl_h hf_τ29 rfl rfl | exact n_rl_h hf_τ36 rfl rfl | exact ⟨fun s _ _ _ => by rw [g10_τ41], fun s _ _ h => by (rw [g12_τ41]; by_cases z : s = x3; (rw [z, st_s]; decide); (rw [st_n _ _ z]; exact h)), Or.inl (by omega), Or.inl (by omega), by omega, fun zt s a b => by (rw [g10_τ41]; have h3 := zt s a (by omega); omega)⟩ | fail)), (show ∀ s : Int, ¬ σ.2.1 12 s = 0 → ¬ τ36.2.1 12 s = 0 from by (first | exact fun s h => by (rw [G12]; exact h) | exact fun s h => by (rw [g12_τ41]; by_cases z : s = x3; (rw [z, st_s]; decide); (rw [st_n _ _ z]; exact h)) | (intro s h; first | (rw [hf_τ11.2.1 12 (by decide)]; exact h) | (rw [hf_τ20.2.1 12 (by decide)]; exact h) | (rw [hf_τ29.2.1 12 (by decide)]; exact h) | (rw [hf_τ36.2.1 12 (by decide)]; exact h)) | fail))⟩
                  ·
                    intro x25 r_x25 e_x25
                    have b_x25 : 0 ≤ x25 ∧ x25 ≤ 1 := by rw [e_x25]; exact hT.2 9 _
                    refine ⟨fun c26 => ?_, fun c26 => ?_⟩
                    ·
                      refine h111 _ _ _ ?_
                      refine ⟨fun c30 => ?_, fun c30 => ?_⟩
                      ·
                        refine ⟨(show 0 ≤ x3 ∧ x3 < 1001 from by (first | omega | (simp only [st_s] <;> omega) | assumption | omega | fail)), ?_⟩
                        intro x32 r_x32 e_x32
                        have b_x32 : 0 ≤ x32 ∧ x32 ≤ 1 := by rw [e_x32]; exact hT.2 12 _
                        refine ⟨fun c33 => ?_, fun c33 => ?_⟩
                        ·
                          refine h143 _ _ _ _ ?_
                          refine ⟨(⟨by (first | omega | (simp only [st_s] <;> omega) | assumption | omega | fail), by (first | omega | (simp only [st_s] <;> omega) | assumption | omega | fail)⟩ : rg ((σ.1 4) + 1)), ?_⟩
                          replace ag := ag_v (i := 4) (x := ((σ.1 4) + 1)) ag (Or.inl rfl)
                          replace hT := mT_v (i := 4) hT (show 0 ≤ ((σ.1 4) + 1) ∧ ((σ.1 4) + 1) ≤ 100 from by (first | omega | (simp only [st_s] <;> omega) | assumption | omega | fail))
                          have ct0 := ca_t0 (σ.2.1 12) x3 ((σ.1 3)) 1 (by omega) (by omega)
                          have ct2 := ca_t2 (σ.2.1 12) (e := x3) ((σ.1 3)) 1 (by omega) (by omega)
                          refine ⟨(show 0 ≤ x3 ∧ x3 < 1001 from by (first | omega | (simp only [st_s] <;> omega) | assumption | omega | fail)), ?_⟩
                          replace ag := ag_a (k := 12) (e := x3) (x := 1) ag rfl
                          replace hT := mT_a (k := 12) (j := x3) hT (show (0 : Int) ≤ 1 ∧ 1 ≤ 1 from by (first | omega | (simp only [st_s] <;> omega) | assumption | omega | fail))
                          have y14q : σ.2.1 14 (σ.1 22) = σ.1 6 := by omega
                          refine ⟨_, K3_X13_addSymbol hT (show 0 ≤ x3 from by (first | omega | (simp only [st_s] <;> omega) | assumption | omega | fail)) (show x3 < 1000 from by (first | omega | (simp only [st_s] <;> omega) | assumption | omega | fail)) (show -1 ≤ (-1 : Int) from by (first | omega | (simp only [st_s] <;> omega) | assumption | omega | fail)) (show (-1 : Int) ≤ 1499 from by (first | omega | (simp only [st_s] <;> omega) | assumption | omega | fail)) (show (σ.1 6) < 30000 from by (first | omega | (simp only [st_s] <;> omega) | assumption | omega | fail)) (show σ.2.1 15 (σ.1 22) < 300 from by (first | omega | (simp only [st_s] <;> omega) | assumption | omega | fail)) (show (σ.1 22) = (σ.1 5) from by (first | omega | (simp only [st_s] <;> omega) | assumption | omega | fail)), ?_⟩
                          intro τ41 hn_τ41 hf_τ41 hq
                          obtain ⟨hT, q39_1, q39_2, q39_3, q39_4, q39_5⟩ := hq
                          replace q39_1 : (τ41.1 6) = (σ.1 6) + 1 := q39_1
                          replace q39_2 : τ41.2.1 15 (τ41.1 22) = σ.2.1 15 (σ.1 22) + 1 := q39_2
                          replace q39_3 : m_ag (s_a (s_v σ 4 ((σ.1 4) + 1)) 12 x3 1) τ41 := q39_3
                          replace q39_4 : τ41.2.1 16 = st (σ.2.1 16) (σ.1 6) x3 := q39_4
                          replace q39_5 : τ41.2.1 17 = st (σ.2.1 17) (σ.1 6) (-1 : Int) := q39_5
                          replace ag : m_ag σ τ41 := ag_t ag q39_3 rfl
                          have w0_τ41 : τ41.1 0 = σ.1 0 := hf_τ41.1 0 (by decide)
                          have w3_τ41 : τ41.1 3 = σ.1 3 := hf_τ41.1 3 (by decide)
                          have w4_τ41 : τ41.1 4 = ((σ.1 4) + 1) := hf_τ41.1 4 (by decide)
                          have w5_τ41 : τ41.1 5 = σ.1 5 := hf_τ41.1 5 (by decide)
                          have w7_τ41 : τ41.1 7 = σ.1 7 := hf_τ41.1 7 (by decide)
                          have w8_τ41 : τ41.1 8 = σ.1 8 := hf_τ41.1 8 (by decide)
                          have w9_τ41 : τ41.1 9 = σ.1 9 := hf_τ41.1 9 (by decide)
                          have w10_τ41 : τ41.1 10 = σ.1 10 := hf_τ41.1 10 (by decide)
                          have w11_τ41 : τ41.1 11 = σ.1 11 := hf_τ41.1 11 (by decide)
                          have w17_τ41 : τ41.1 17 = σ.1 17 := hf_τ41.1 17 (by decide)
                          have w18_τ41 : τ41.1 18 = σ.1 18 := hf_τ41.1 18 (by decide)
                          have w19_τ41 : τ41.1 19 = σ.1 19 := hf_τ41.1 19 (by decide)
                          have w20_τ41 : τ41.1 20 = σ.1 20 := hf_τ41.1 20 (by decide)
                          have w22_τ41 : τ41.1 22 = σ.1 22 := hf_τ41.1 22 (by decide)
                          have g6_τ41 : τ41.2.1 6 = σ.2.1 6 := hf_τ41.2.1 6 (by decide)
                          have g8_τ41 : τ41.2.1 8 = σ.2.1 8 := hf_τ41.2.1 8 (by decide)
                          have g10_τ41 : τ41.2.1 10 = σ.2.1 10 := hf_τ41.2.1 10 (by decide)
                          have g11_τ41 : τ41.2.1 11 = σ.2.1 11 := hf_τ41.2.1 11 (by decide)
                          have g12_τ41 : τ41.2.1 12 = (st (σ.2.1 12) x3 1) := hf_τ41.2.1 12 (by decide)
                          have g14_τ41 : τ41.2.1 14 = σ.2.1 14 := hf_τ41.2.1 14 (by decide)
                          first | (have o6_τ41 := congrArg oc g6_τ41) | skip
                          have W0 : τ41.1 0 = σ.1 0 := by first | exact w0_τ41.trans W0 | omega
                          have W3 : τ41.1 3 = σ.1 3 := by first | exact w3_τ41.trans W3 | omega
                          have W5 : τ41.1 5 = σ.1 5 := by first | exact w5_τ41.trans W5 | omega
                          have W7 : τ41.1 7 = σ.1 7 := by first | exact w7_τ41.trans W7 | omega
                          have W8 : τ41.1 8 = σ.1 8 := by first | exact w8_τ41.trans W8 | omega
                          have W9 : τ41.1 9 = σ.1 9 := by first | exact w9_τ41.trans W9 | omega
                          have W10 : τ41.1 10 = σ.1 10 := by first | exact w10_τ41.trans W10 | omega
                          have W11 : τ41.1 11 = σ.1 11 := by first | exact w11_τ41.trans W11 | omega
                          have W17 : τ41.1 17 = σ.1 17 := by first | exact w17_τ41.trans W17 | omega
                          have W18 : τ41.1 18 = σ.1 18 := by first | exact w18_τ41.trans W18 | omega
                          have W19 : τ41.1 19 = σ.1 19 := by first | exact w19_τ41.trans W19 | omega
                          have W22 : τ41.1 22 = σ.1 22 := by first | exact w22_τ41.trans W22 | omega
                          have G6 : τ41.2.1 6 = σ.2.1 6 := (g6_τ41).trans G6
                          have G8 : τ41.2.1 8 = σ.2.1 8 := (g8_τ41).trans G8
                          have G10 : τ41.2.1 10 = σ.2.1 10 := (g10_τ41).trans G10
                          have G11 : τ41.2.1 11 = σ.2.1 11 := (g11_τ41).trans G11
                          have G14 : τ41.2.1 14 = σ.2.1 14 := (g14_τ41).trans G14
                          have y14_22_τ41 : τ41.2.1 14 (τ41.1 22) = (σ.2.1 14) (σ.1 22) := by rw [g14_τ41, w22_τ41]
                          have Y1 : j_l2 (τ41.2.1 6) (τ41.1 3) := by rw [show (j_l2 (τ41.2.1 6) (τ41.1 3)) = (j_l2 (σ.2.1 6) (σ.1 3)) from by rw [w3_τ41, g6_τ41]]; exact Y1
                          have STt : j_l2 (τ41.2.1 6) (τ41.1 3) := by rw [show (j_l2 (τ41.2.1 6) (τ41.1 3)) = (j_l2 (σ.2.1 6) (σ.1 3)) from by rw [w3_τ41, g6_τ41]]; exact STt
                          have A6 : ∀ j, (-1) ≤ τ41.2.1 6 j ∧ τ41.2.1 6 j ≤ 999 := fun j => hT.2 6 j
                          have A8 : ∀ j, 0 ≤ τ41.2.1 8 j ∧ τ41.2.1 8 j ≤ 1 := fun j => hT.2 8 j
                          have A10 : ∀ j, (-1) ≤ τ41.2.1 10 j ∧ τ41.2.1 10 j ≤ 999 := fun j => hT.2 10 j
                          have A11 : ∀ j, (-1) ≤ τ41.2.1 11 j ∧ τ41.2.1 11 j ≤ 1499 := fun j => hT.2 11 j
                          have A12 : ∀ j, 0 ≤ τ41.2.1 12 j ∧ τ41.2.1 12 j ≤ 1 := fun j => hT.2 12 j
                          have A14 : ∀ j, 0 ≤ τ41.2.1 14 j ∧ τ41.2.1 14 j ≤ 30000 := fun j => hT.2 14 j
                          have A15 : ∀ j, 0 ≤ τ41.2.1 15 j ∧ τ41.2.1 15 j ≤ 300 := fun j => hT.2 15 j
                          have A16 : ∀ j, 0 ≤ τ41.2.1 16 j ∧ τ41.2.1 16 j ≤ 999 := fun j => hT.2 16 j
                          have A17 : ∀ j, (-1) ≤ τ41.2.1 17 j ∧ τ41.2.1 17 j ≤ 1499 := fun j => hT.2 17 j
                          have v0 : 0 ≤ τ41.1 0 ∧ τ41.1 0 ≤ 60000 := hT.1 0
                          have v3 : 0 ≤ τ41.1 3 ∧ τ41.1 3 ≤ 1000 := hT.1 3
                          have v4 : 0 ≤ τ41.1 4 ∧ τ41.1 4 ≤ 100 := hT.1 4
                          have v5 : 0 ≤ τ41.1 5 ∧ τ41.1 5 ≤ 1500 := hT.1 5
                          have v6 : 0 ≤ τ41.1 6 ∧ τ41.1 6 ≤ 30000 := hT.1 6
                          have v7 : 0 ≤ τ41.1 7 ∧ τ41.1 7 ≤ 90000 := hT.1 7
                          have v8 : 0 ≤ τ41.1 8 ∧ τ41.1 8 ≤ 20000 := hT.1 8
                          have v9 : 0 ≤ τ41.1 9 ∧ τ41.1 9 ≤ 20000 := hT.1 9
                          have v10 : (-1) ≤ τ41.1 10 ∧ τ41.1 10 ≤ 999 := hT.1 10
                          have v11 : (-1) ≤ τ41.1 11 ∧ τ41.1 11 ≤ 999 := hT.1 11
                          have v17 : 0 ≤ τ41.1 17 ∧ τ41.1 17 ≤ 60000 := hT.1 17
                          have v18 : 0 ≤ τ41.1 18 ∧ τ41.1 18 ≤ 60000 := hT.1 18
                          have v19 : (-1) ≤ τ41.1 19 ∧ τ41.1 19 ≤ 125 := hT.1 19
                          have v20 : 0 ≤ τ41.1 20 ∧ τ41.1 20 ≤ 19 := hT.1 20
                          have v22 : 0 ≤ τ41.1 22 ∧ τ41.1 22 ≤ 1499 := hT.1 22
                          have a14_22 : 0 ≤ τ41.2.1 14 (τ41.1 22) ∧ τ41.2.1 14 (τ41.1 22) ≤ 30000 := hT.2 14 _
                          have a15_22 : 0 ≤ τ41.2.1 15 (τ41.1 22) ∧ τ41.2.1 15 (τ41.1 22) ≤ 300 := hT.2 15 _
                          have av6 : σ.1 6 ≤ τ41.1 6 := ag.1 6 (by decide)
                          have Y20 : ca (τ41.2.1 12) (τ41.1 3) ≤ τ41.1 4 := by rw [g12_τ41, w3_τ41]; omega
                          have Z1 : τ41.2.1 14 (τ41.1 22) + τ41.2.1 15 (τ41.1 22) = τ41.1 6 := by omega
                          exact ⟨hT, (show (τ41.1 20) = 0 → τ41.2.1 15 (τ41.1 22) = 1 from by (first | omega | (simp only [st_s] <;> omega) | assumption | omega | fail)), (show τ41.2.1 15 (τ41.1 22) ≤ 1 from by (first | omega | (simp only [st_s] <;> omega) | assumption | omega | fail)), (show ¬ (σ.1 20) = 0 → (τ41.1 20) = (σ.1 20) from by (first | omega | (simp only [st_s] <;> omega) | assumption | omega | fail)), (show τ41.2.1 14 (τ41.1 22) + τ41.2.1 15 (τ41.1 22) = (τ41.1 6) from Z1), (show ca (τ41.2.1 12) ((τ41.1 3)) ≤ (τ41.1 4) from Y20), ag, (show (τ41.1 20) = 0 → n_N (τ41.2.1 14 (τ41.1 22)) (τ41.2.1 14 (τ41.1 22) + τ41.2.1 15 (τ41.1 22)) (σ.1 3) (σ.2.1 8) (σ.2.1 11) (τ41.2.1 12) (τ41.2.1 16) (τ41.2.1 17) from by (first | (intro z; exfalso; omega) | (intro _; rw [show τ41.2.1 14 (τ41.1 22) = σ.1 6 from by omega, show σ.1 6 + τ41.2.1 15 (τ41.1 22) = σ.1 6 + 1 from by omega]; exact n_N_1 q39_4 q39_5 (by omega) (x3lt (by omega)) (by rw [g12_τ41, st_s]; decide)) | fail)), (show n_rl σ τ41 from by (first | exact n_rl_h hf_τ11 rfl rfl | exact n_rl_h hf_τ20 rfl rfl | exact n_rl_h hf_τ29 rfl rfl | exact n_rl_h hf_τ36 rfl rfl | exact ⟨fun s _ _ _ => by rw [g10_τ41], fun s _ _ h => by (rw [g12_τ41]; by_cases z : s = x3; (rw [z, st_s]; decide); (rw [st_n _ _ z]; exact h)), Or.inl (by omega), Or.inl (by omega), by omega, fun zt s a b => by (rw [g10_τ41]; have h3 := zt s a (by omega); omega)⟩ | fail)), (show ∀ s : Int, ¬ σ.2.1 12 s = 0 → ¬ τ41.2.1 12 s = 0 from by (first | exact fun s h => by (rw [G12]; exact h) | exact fun s h => by (rw [g12_τ41]; by_cases z : s = x3; (rw [z, st_s]; decide); (rw [st_n _ _ z]; exact h)) | (intro s h; first | (rw [hf_τ11.2.1 12 (by decide)]; exact h) | (rw [hf_τ20.2.1 12 (by decide)]; exact h) | (rw [hf_τ29.2.1 12 (by decide)]; exact h) | (rw [hf_τ36.2.1 12 (by decide)]; exact h)) | fail))⟩
                        ·
                          refine h143 _ _ _ _ ?_
                          refine ⟨(⟨by (first | omega | (simp only [st_s] <;> omega) | assumption | omega | fail), by (first | omega | (simp only [st_s] <;> omega) | assumption | omega | fail)⟩ : rg ((σ.1 4) + 0)), ?_⟩
                          replace ag := ag_v (i := 4) (x := ((σ.1 4) + 0)) ag (Or.inl rfl)
                          replace hT := mT_v (i := 4) hT (show 0 ≤ ((σ.1 4) + 0) ∧ ((σ.1 4) + 0) ≤ 100 from by (first | omega | (simp only [st_s] <;> omega) | assumption | omega | fail))
                          have ct0 := ca_t0 (σ.2.1 12) x3 ((σ.1 3)) 1 (by omega) (by omega)
                          have ct2 := ca_t2 (σ.2.1 12) (e := x3) ((σ.1 3)) 1 (by omega) (by omega)
                          refine ⟨(show 0 ≤ x3 ∧ x3 < 1001 from by (first | omega | (simp only [st_s] <;> omega) | assumption | omega | fail)), ?_⟩
                          replace ag := ag_a (k := 12) (e := x3) (x := 1) ag rfl
                          replace hT := mT_a (k := 12) (j := x3) hT (show (0 : Int) ≤ 1 ∧ 1 ≤ 1 from by (first | omega | (simp only [st_s] <;> omega) | assumption | omega | fail))
                          have y14q : σ.2.1 14 (σ.1 22) = σ.1 6 := by omega
                          refine ⟨_, K3_X13_addSymbol hT (show 0 ≤ x3 from by (first | omega | (simp only [st_s] <;> omega) | assumption | omega | fail)) (show x3 < 1000 from by (first | omega | (simp only [st_s] <;> omega) | assumption | omega | fail)) (show -1 ≤ (-1 : Int) from by (first | omega | (simp only [st_s] <;> omega) | assumption | omega | fail)) (show (-1 : Int) ≤ 1499 from by (first | omega | (simp only [st_s] <;> omega) | assumption | omega | fail)) (show (σ.1 6) < 30000 from by (first | omega | (simp only [st_s] <;> omega) | assumption | omega | fail)) (show σ.2.1 15 (σ.1 22) < 300 from by (first | omega | (simp only [st_s] <;> omega) | assumption | omega | fail)) (show (σ.1 22) = (σ.1 5) from by (first | omega | (simp only [st_s] <;> omega) | assumption | omega | fail)), ?_⟩
                          intro τ41 hn_τ41 hf_τ41 hq
                          obtain ⟨hT, q39_1, q39_2, q39_3, q39_4, q39_5⟩ := hq
                          replace q39_1 : (τ41.1 6) = (σ.1 6) + 1 := q39_1
                          replace q39_2 : τ41.2.1 15 (τ41.1 22) = σ.2.1 15 (σ.1 22) + 1 := q39_2
                          replace q39_3 : m_ag (s_a (s_v σ 4 ((σ.1 4) + 0)) 12 x3 1) τ41 := q39_3
                          replace q39_4 : τ41.2.1 16 = st (σ.2.1 16) (σ.1 6) x3 := q39_4
                          replace q39_5 : τ41.2.1 17 = st (σ.2.1 17) (σ.1 6) (-1 : Int) := q39_5
                          replace ag : m_ag σ τ41 := ag_t ag q39_3 rfl
                          have w0_τ41 : τ41.1 0 = σ.1 0 := hf_τ41.1 0 (by decide)
                          have w3_τ41 : τ41.1 3 = σ.1 3 := hf_τ41.1 3 (by decide)
                          have w4_τ41 : τ41.1 4 = ((σ.1 4) + 0) := hf_τ41.1 4 (by decide)
                          have w5_τ41 : τ41.1 5 = σ.1 5 := hf_τ41.1 5 (by decide)
                          have w7_τ41 : τ41.1 7 = σ.1 7 := hf_τ41.1 7 (by decide)
                          have w8_τ41 : τ41.1 8 = σ.1 8 := hf_τ41.1 8 (by decide)
                          have w9_τ41 : τ41.1 9 = σ.1 9 := hf_τ41.1 9 (by decide)
                          have w10_τ41 : τ41.1 10 = σ.1 10 := hf_τ41.1 10 (by decide)
                          have w11_τ41 : τ41.1 11 = σ.1 11 := hf_τ41.1 11 (by decide)
                          have w17_τ41 : τ41.1 17 = σ.1 17 := hf_τ41.1 17 (by decide)
                          have w18_τ41 : τ41.1 18 = σ.1 18 := hf_τ41.1 18 (by decide)
                          have w19_τ41 : τ41.1 19 = σ.1 19 := hf_τ41.1 19 (by decide)
                          have w20_τ41 : τ41.1 20 = σ.1 20 := hf_τ41.1 20 (by decide)
                          have w22_τ41 : τ41.1 22 = σ.1 22 := hf_τ41.1 22 (by decide)
                          have g6_τ41 : τ41.2.1 6 = σ.2.1 6 := hf_τ41.2.1 6 (by decide)
                          have g8_τ41 : τ41.2.1 8 = σ.2.1 8 := hf_τ41.2.1 8 (by decide)
                          have g10_τ41 : τ41.2.1 10 = σ.2.1 10 := hf_τ41.2.1 10 (by decide)
                          have g11_τ41 : τ41.2.1 11 = σ.2.1 11 := hf_τ41.2.1 11 (by decide)
                          have g12_τ41 : τ41.2.1 12 = (st (σ.2.1 12) x3 1) := hf_τ41.2.1 12 (by decide)
                          have g14_τ41 : τ41.2.1 14 = σ.2.1 14 := hf_τ41.2.1 14 (by decide)
                          first | (have o6_τ41 := congrArg oc g6_τ41) | skip
                          have W0 : τ41.1 0 = σ.1 0 := by first | exact w0_τ41.trans W0 | omega
                          have W3 : τ41.1 3 = σ.1 3 := by first | exact w3_τ41.trans W3 | omega
                          have W5 : τ41.1 5 = σ.1 5 := by first | exact w5_τ41.trans W5 | omega
                          have W7 : τ41.1 7 = σ.1 7 := by first | exact w7_τ41.trans W7 | omega
                          have W8 : τ41.1 8 = σ.1 8 := by first | exact w8_τ41.trans W8 | omega
                          have W9 : τ41.1 9 = σ.1 9 := by first | exact w9_τ41.trans W9 | omega
                          have W10 : τ41.1 10 = σ.1 10 := by first | exact w10_τ41.trans W10 | omega
                          have W11 : τ41.1 11 = σ.1 11 := by first | exact w11_τ41.trans W11 | omega
                          have W17 : τ41.1 17 = σ.1 17 := by first | exact w17_τ41.trans W17 | omega
                          have W18 : τ41.1 18 = σ.1 18 := by first | exact w18_τ41.trans W18 | omega
                          have W19 : τ41.1 19 = σ.1 19 := by first | exact w19_τ41.trans W19 | omega
                          have W22 : τ41.1 22 = σ.1 22 := by first | exact w22_τ41.trans W22 | omega
                          have G6 : τ41.2.1 6 = σ.2.1 6 := (g6_τ41).trans G6
                          have G8 : τ41.2.1 8 = σ.2.1 8 := (g8_τ41).trans G8
                          have G10 : τ41.2.1 10 = σ.2.1 10 := (g10_τ41).trans G10
                          have G11 : τ41.2.1 11 = σ.2.1 11 := (g11_τ41).trans G11
                          have G14 : τ41.2.1 14 = σ.2.1 14 := (g14_τ41).trans G14
                          have y14_22_τ41 : τ41.2.1 14 (τ41.1 22) = (σ.2.1 14) (σ.1 22) := by rw [g14_τ41, w22_τ41]
                          have Y1 : j_l2 (τ41.2.1 6) (τ41.1 3) := by rw [show (j_l2 (τ41.2.1 6) (τ41.1 3)) = (j_l2 (σ.2.1 6) (σ.1 3)) from by rw [w3_τ41, g6_τ41]]; exact Y1
                          have STt : j_l2 (τ41.2.1 6) (τ41.1 3) := by rw [show (j_l2 (τ41.2.1 6) (τ41.1 3)) = (j_l2 (σ.2.1 6) (σ.1 3)) from by rw [w3_τ41, g6_τ41]]; exact STt
                          have A6 : ∀ j, (-1) ≤ τ41.2.1 6 j ∧ τ41.2.1 6 j ≤ 999 := fun j => hT.2 6 j
                          have A8 : ∀ j, 0 ≤ τ41.2.1 8 j ∧ τ41.2.1 8 j ≤ 1 := fun j => hT.2 8 j
                          have A10 : ∀ j, (-1) ≤ τ41.2.1 10 j ∧ τ41.2.1 10 j ≤ 999 := fun j => hT.2 10 j
                          have A11 : ∀ j, (-1) ≤ τ41.2.1 11 j ∧ τ41.2.1 11 j ≤ 1499 := fun j => hT.2 11 j
                          have A12 : ∀ j, 0 ≤ τ41.2.1 12 j ∧ τ41.2.1 12 j ≤ 1 := fun j => hT.2 12 j
                          have A14 : ∀ j, 0 ≤ τ41.2.1 14 j ∧ τ41.2.1 14 j ≤ 30000 := fun j => hT.2 14 j
                          have A15 : ∀ j, 0 ≤ τ41.2.1 15 j ∧ τ41.2.1 15 j ≤ 300 := fun j => hT.2 15 j
                          have A16 : ∀ j, 0 ≤ τ41.2.1 16 j ∧ τ41.2.1 16 j ≤ 999 := fun j => hT.2 16 j
                          have A17 : ∀ j, (-1) ≤ τ41.2.1 17 j ∧ τ41.2.1 17 j ≤ 1499 := fun j => hT.2 17 j
                          have v0 : 0 ≤ τ41.1 0 ∧ τ41.1 0 ≤ 60000 := hT.1 0
                          have v3 : 0 ≤ τ41.1 3 ∧ τ41.1 3 ≤ 1000 := hT.1 3
                          have v4 : 0 ≤ τ41.1 4 ∧ τ41.1 4 ≤ 100 := hT.1 4
                          have v5 : 0 ≤ τ41.1 5 ∧ τ41.1 5 ≤ 1500 := hT.1 5
                          have v6 : 0 ≤ τ41.1 6 ∧ τ41.1 6 ≤ 30000 := hT.1 6
                          have v7 : 0 ≤ τ41.1 7 ∧ τ41.1 7 ≤ 90000 := hT.1 7
                          have v8 : 0 ≤ τ41.1 8 ∧ τ41.1 8 ≤ 20000 := hT.1 8
                          have v9 : 0 ≤ τ41.1 9 ∧ τ41.1 9 ≤ 20000 := hT.1 9
                          have v10 : (-1) ≤ τ41.1 10 ∧ τ41.1 10 ≤ 999 := hT.1 10
                          have v11 : (-1) ≤ τ41.1 11 ∧ τ41.1 11 ≤ 999 := hT.1 11
                          have v17 : 0 ≤ τ41.1 17 ∧ τ41.1 17 ≤ 60000 := hT.1 17
                          have v18 : 0 ≤ τ41.1 18 ∧ τ41.1 18 ≤ 60000 := hT.1 18
                          have v19 : (-1) ≤ τ41.1 19 ∧ τ41.1 19 ≤ 125 := hT.1 19
                          have v20 : 0 ≤ τ41.1 20 ∧ τ41.1 20 ≤ 19 := hT.1 20
                          have v22 : 0 ≤ τ41.1 22 ∧ τ41.1 22 ≤ 1499 := hT.1 22
                          have a14_22 : 0 ≤ τ41.2.1 14 (τ41.1 22) ∧ τ41.2.1 14 (τ41.1 22) ≤ 30000 := hT.2 14 _
                          have a15_22 : 0 ≤ τ41.2.1 15 (τ41.1 22) ∧ τ41.2.1 15 (τ41.1 22) ≤ 300 := hT.2 15 _
                          have av6 : σ.1 6 ≤ τ41.1 6 := ag.1 6 (by decide)
                          have Y20 : ca (τ41.2.1 12) (τ41.1 3) ≤ τ41.1 4 := by rw [g12_τ41, w3_τ41]; omega
                          have Z1 : τ41.2.1 14 (τ41.1 22) + τ41.2.1 15 (τ41.1 22) = τ41.1 6 := by omega
                          exact ⟨hT, (show (τ41.1 20) = 0 → τ41.2.1 15 (τ41.1 22) = 1 from by (first | omega | (simp only [st_s] <;> omega) | assumption | omega | fail)), (show τ41.2.1 15 (τ41.1 22) ≤ 1 from by (first | omega | (simp only [st_s] <;> omega) | assumption | omega | fail)), (show ¬ (σ.1 20) = 0 → (τ41.1 20) = (σ.1 20) from by (first | omega | (simp only [st_s] <;> omega) | assumption | omega | fail)), (show τ41.2.1 14 (τ41.1 22) + τ41.2.1 15 (τ41.1 22) = (τ41.1 6) from Z1), (show ca (τ41.2.1 12) ((τ41.1 3)) ≤ (τ41.1 4) from Y20), ag, (show (τ41.1 20) = 0 → n_N (τ41.2.1 14 (τ41.1 22)) (τ41.2.1 14 (τ41.1 22) + τ41.2.1 15 (τ41.1 22)) (σ.1 3) (σ.2.1 8) (σ.2.1 11) (τ41.2.1 12) (τ41.2.1 16) (τ41.2.1 17) from by (first | (intro z; exfalso; omega) | (intro _; rw [show τ41.2.1 14 (τ41.1 22) = σ.1 6 from by omega, show σ.1 6 + τ41.2.1 15 (τ41.1 22) = σ.1 6 + 1 from by omega]; exact n_N_1 q39_4 q39_5 (by omega) (x3lt (by omega)) (by rw [g12_τ41, st_s]; decide)) | fail)), (show n_rl σ τ41 from by (first | exact n_rl_h hf_τ11 rfl rfl | exact n_rl_h hf_τ20 rfl rfl | exact n_rl_h hf_τ29 rfl rfl | exact n_rl_h hf_τ36 rfl rfl | exact ⟨fun s _ _ _ => by rw [g10_τ41], fun s _ _ h => by (rw [g12_τ41]; by_cases z : s = x3; (rw [z, st_s]; decide); (rw [st_n _ _ z]; exact h)), Or.inl (by omega), Or.inl (by omega), by omega, fun zt s a b => by (rw [g10_τ41]; have h3 := zt s a (by omega); omega)⟩ | fail)), (show ∀ s : Int, ¬ σ.2.1 12 s = 0 → ¬ τ41.2.1 12 s = 0 from by (first | exact fun s h => by (rw [G12]; exact h) | exact fun s h => by (rw [g12_τ41]; by_cases z : s = x3; (rw [z, st_s]; decide); (rw [st_n _ _ z]; exact h)) | (intro s h; first | (rw [hf_τ11.2.1 12 (by decide)]; exact h) | (rw [hf_τ20.2.1 12 (by decide)]; exact h) | (rw [hf_τ29.2.1 12 (by decide)]; exact h) | (rw [hf_τ36.2.1 12 (by decide)]; exact h)) | fail))⟩
                      ·
                        refine ⟨_, K_X13_failHere hT (show 0 ≤ (10 : Int) from by (first | omega | (simp only [st_s] <;> omega) | assumption | omega | fail)) (show (10 : Int) ≤ 19 from by (first | omega | (simp only [st_s] <;> omega) | assumption | omega | fail)), ?_⟩
                        intro τ36 hn_τ36 hf_τ36 hq
                        obtain ⟨hT, q34_1, q34_2⟩ := hq
                        replace q34_1 : ¬ (σ.1 20) = 0 → (τ36.1 20) = (σ.1 20) := q34_1
                        replace q34_2 : (σ.1 20) = 0 → (τ36.1 20) = (10 : Int) := q34_2
                        replace ag : m_ag σ τ36 := ag_r ag hf_τ36 rfl rfl
                        have w0_τ36 : τ36.1 0 = σ.1 0 := hf_τ36.1 0 (by decide)
                        have w3_τ36 : τ36.1 3 = σ.1 3 := hf_τ36.1 3 (by decide)
                        have w4_τ36 : τ36.1 4 = σ.1 4 := hf_τ36.1 4 (by decide)
                        have w5_τ36 : τ36.1 5 = σ.1 5 := hf_τ36.1 5 (by decide)
                        have w6_τ36 : τ36.1 6 = σ.1 6 := hf_τ36.1 6 (by decide)
                        have w7_τ36 : τ36.1 7 = σ.1 7 := hf_τ36.1 7 (by decide)
                        have w8_τ36 : τ36.1 8 = σ.1 8 := hf_τ36.1 8 (by decide)
                        have w9_τ36 : τ36.1 9 = σ.1 9 := hf_τ36.1 9 (by decide)
                        have w10_τ36 : τ36.1 10 = σ.1 10 := hf_τ36.1 10 (by decide)
                        have w11_τ36 : τ36.1 11 = σ.1 11 := hf_τ36.1 11 (by decide)
                        have w17_τ36 : τ36.1 17 = σ.1 17 := hf_τ36.1 17 (by decide)
                        have w18_τ36 : τ36.1 18 = σ.1 18 := hf_τ36.1 18 (by decide)
                        have w19_τ36 : τ36.1 19 = σ.1 19 := hf_τ36.1 19 (by decide)
                        have w22_τ36 : τ36.1 22 = σ.1 22 := hf_τ36.1 22 (by decide)
                        have g6_τ36 : τ36.2.1 6 = σ.2.1 6 := hf_τ36.2.1 6 (by decide)
                        have g8_τ36 : τ36.2.1 8 = σ.2.1 8 := hf_τ36.2.1 8 (by decide)
                        have g10_τ36 : τ36.2.1 10 = σ.2.1 10 := hf_τ36.2.1 10 (by decide)
                        have g11_τ36 : τ36.2.1 11 = σ.2.1 11 := hf_τ36.2.1 11 (by decide)
                        have g12_τ36 : τ36.2.1 12 = σ.2.1 12 := hf_τ36.2.1 12 (by decide)
                        have g14_τ36 : τ36.2.1 14 = σ.2.1 14 := hf_τ36.2.1 14 (by decide)
                        have g15_τ36 : τ36.2.1 15 = σ.2.1 15 := hf_τ36.2.1 15 (by decide)
                        have g16_τ36 : τ36.2.1 16 = σ.2.1 16 := hf_τ36.2.1 16 (by decide)
                        have g17_τ36 : τ36.2.1 17 = σ.2.1 17 := hf_τ36.2.1 17 (by decide)
                        first | (have o6_τ36 := congrArg oc g6_τ36) | skip
                        have W0 : τ36.1 0 = σ.1 0 := by first | exact w0_τ36.trans W0 | omega
                        have W3 : τ36.1 3 = σ.1 3 := by first | exact w3_τ36.trans W3 | omega
                        have W5 : τ36.1 5 = σ.1 5 := by first | exact w5_τ36.trans W5 | omega
                        have W7 : τ36.1 7 = σ.1 7 := by first | exact w7_τ36.trans W7 | omega
                        have W8 : τ36.1 8 = σ.1 8 := by first | exact w8_τ36.trans W8 | omega
                        have W9 : τ36.1 9 = σ.1 9 := by first | exact w9_τ36.trans W9 | omega
                        have W10 : τ36.1 10 = σ.1 10 := by first | exact w10_τ36.trans W10 | omega
                        have W11 : τ36.1 11 = σ.1 11 := by first | exact w11_τ36.trans W11 | omega
                        have W17 : τ36.1 17 = σ.1 17 := by first | exact w17_τ36.trans W17 | omega
                        have W18 : τ36.1 18 = σ.1 18 := by first | exact w18_τ36.trans W18 | omega
                        have W19 : τ36.1 19 = σ.1 19 := by first | exact w19_τ36.trans W19 | omega
                        have W22 : τ36.1 22 = σ.1 22 := by first | exact w22_τ36.trans W22 | omega
                        have G6 : τ36.2.1 6 = σ.2.1 6 := (g6_τ36).trans G6
                        have G8 : τ36.2.1 8 = σ.2.1 8 := (g8_τ36).trans G8
                        have G10 : τ36.2.1 10 = σ.2.1 10 := (g10_τ36).trans G10
                        have G11 : τ36.2.1 11 = σ.2.1 11 := (g11_τ36).trans G11
                        have G14 : τ36.2.1 14 = σ.2.1 14 := (g14_τ36).trans G14
                        have y14_22_τ36 : τ36.2.1 14 (τ36.1 22) = (σ.2.1 14) (σ.1 22) := by rw [g14_τ36, w22_τ36]
                        have y15_22_τ36 : τ36.2.1 15 (τ36.1 22) = (σ.2.1 15) (σ.1 22) := by rw [g15_τ36, w22_τ36]
                        have Z1 : τ36.2.1 14 (τ36.1 22) + τ36.2.1 15 (τ36.1 22) = (τ36.1 6) := by rw [show (τ36.2.1 14 (τ36.1 22) + τ36.2.1 15 (τ36.1 22) = (τ36.1 6)) = (σ.2.1 14 (σ.1 22) + σ.2.1 15 (σ.1 22) = (σ.1 6)) from by rw [w6_τ36, w22_τ36, g14_τ36, g15_τ36]]; exact Z1
                        have Y20 : ca (τ36.2.1 12) ((τ36.1 3)) ≤ (τ36.1 4) := by rw [show (ca (τ36.2.1 12) ((τ36.1 3)) ≤ (τ36.1 4)) = (ca (σ.2.1 12) ((σ.1 3)) ≤ (σ.1 4)) from by rw [w3_τ36, w4_τ36, g12_τ36]]; exact Y20
                        have Y1 : j_l2 (τ36.2.1 6) (τ36.1 3) := by rw [show (j_l2 (τ36.2.1 6) (τ36.1 3)) = (j_l2 (σ.2.1 6) (σ.1 3)) from by rw [w3_τ36, g6_τ36]]; exact Y1
                        have STt : j_l2 (τ36.2.1 6) (τ36.1 3) := by rw [show (j_l2 (τ36.2.1 6) (τ36.1 3)) = (j_l2 (σ.2.1 6) (σ.1 3)) from by rw [w3_τ36, g6_τ36]]; exact STt
                        have A6 : ∀ j, (-1) ≤ τ36.2.1 6 j ∧ τ36.2.1 6 j ≤ 999 := fun j => hT.2 6 j
                        have A8 : ∀ j, 0 ≤ τ36.2.1 8 j ∧ τ36.2.1 8 j ≤ 1 := fun j => hT.2 8 j
                        have A10 : ∀ j, (-1) ≤ τ36.2.1 10 j ∧ τ36.2.1 10 j ≤ 999 := fun j => hT.2 10 j
                        have A11 : ∀ j, (-1) ≤ τ36.2.1 11 j ∧ τ36.2.1 11 j ≤ 1499 := fun j => hT.2 11 j
                        have A12 : ∀ j, 0 ≤ τ36.2.1 12 j ∧ τ36.2.1 12 j ≤ 1 := fun j => hT.2 12 j
                        have A14 : ∀ j, 0 ≤ τ36.2.1 14 j ∧ τ36.2.1 14 j ≤ 30000 := fun j => hT.2 14 j
                        have A15 : ∀ j, 0 ≤ τ36.2.1 15 j ∧ τ36.2.1 15 j ≤ 300 := fun j => hT.2 15 j
                        have A16 : ∀ j, 0 ≤ τ36.2.1 16 j ∧ τ36.2.1 16 j ≤ 999 := fun j => hT.2 16 j
                        have A17 : ∀ j, (-1) ≤ τ36.2.1 17 j ∧ τ36.2.1 17 j ≤ 1499 := fun j => hT.2 17 j
                        have v0 : 0 ≤ τ36.1 0 ∧ τ36.1 0 ≤ 60000 := hT.1 0
                        have v3 : 0 ≤ τ36.1 3 ∧ τ36.1 3 ≤ 1000 := hT.1 3
                        have v4 : 0 ≤ τ36.1 4 ∧ τ36.1 4 ≤ 100 := hT.1 4
                        have v5 : 0 ≤ τ36.1 5 ∧ τ36.1 5 ≤ 1500 := hT.1 5
                        have v6 : 0 ≤ τ36.1 6 ∧ τ36.1 6 ≤ 30000 := hT.1 6
                        have v7 : 0 ≤ τ36.1 7 ∧ τ36.1 7 ≤ 90000 := hT.1 7
                        have v8 : 0 ≤ τ36.1 8 ∧ τ36.1 8 ≤ 20000 := hT.1 8
                        have v9 : 0 ≤ τ36.1 9 ∧ τ36.1 9 ≤ 20000 := hT.1 9
                        have v10 : (-1) ≤ τ36.1 10 ∧ τ36.1 10 ≤ 999 := hT.1 10
                        have v11 : (-1) ≤ τ36.1 11 ∧ τ36.1 11 ≤ 999 := hT.1 11
                        have v17 : 0 ≤ τ36.1 17 ∧ τ36.1 17 ≤ 60000 := hT.1 17
                        have v18 : 0 ≤ τ36.1 18 ∧ τ36.1 18 ≤ 60000 := hT.1 18
                        have v19 : (-1) ≤ τ36.1 19 ∧ τ36.1 19 ≤ 125 := hT.1 19
                        have v20 : 0 ≤ τ36.1 20 ∧ τ36.1 20 ≤ 19 := hT.1 20
                        have v22 : 0 ≤ τ36.1 22 ∧ τ36.1 22 ≤ 1499 := hT.1 22
                        have a14_22 : 0 ≤ τ36.2.1 14 (τ36.1 22) ∧ τ36.2.1 14 (τ36.1 22) ≤ 30000 := hT.2 14 _
                        have a15_22 : 0 ≤ τ36.2.1 15 (τ36.1 22) ∧ τ36.2.1 15 (τ36.1 22) ≤ 300 := hT.2 15 _
                        have av6 : σ.1 6 ≤ τ36.1 6 := ag.1 6 (by decide)
                        exact ⟨hT, (show (τ36.1 20) = 0 → τ36.2.1 15 (τ36.1 22) = 1 from by (first | omega | (simp only [st_s] <;> omega) | assumption | omega | fail)), (show τ36.2.1 15 (τ36.1 22) ≤ 1 from by (first | omega | (simp only [st_s] <;> omega) | assumption | omega | fail)), (show ¬ (σ.1 20) = 0 → (τ36.1 20) = (σ.1 20) from by (first | omega | (simp only [st_s] <;> omega) | assumption | omega | fail)), (show τ36.2.1 14 (τ36.1 22) + τ36.2.1 15 (τ36.1 22) = (τ36.1 6) from Z1), (show ca (τ36.2.1 12) ((τ36.1 3)) ≤ (τ36.1 4) from Y20), ag, (show (τ36.1 20) = 0 → n_N (τ36.2.1 14 (τ36.1 22)) (τ36.2.1 14 (τ36.1 22) + τ36.2.1 15 (τ36.1 22)) (σ.1 3) (σ.2.1 8) (σ.2.1 11) (τ36.2.1 12) (τ36.2.1 16) (τ36.2.1 17) from by (first | (intro z; exfalso; omega) | (intro _; rw [show τ41.2.1 14 (τ41.1 22) = σ.1 6 from by omega, show σ.1 6 + τ41.2.1 15 (τ41.1 22) = σ.1 6 + 1 from by omega]; exact n_N_1 q39_4 q39_5 (by omega) (x3lt (by omega)) (by rw [g12_τ41, st_s]; decide)) | fail)), (show n_rl σ τ36 from by (first | exact n_rl_h hf_τ11 rfl rfl | exact n_rl_h hf_τ20 rfl rfl | exact n_rl_h hf_τ29 rfl rfl | exact n_rl_h hf_τ36 rfl rfl | exact ⟨fun s _ _ _ => by rw [g10_τ41], fun s _ _ h => by (rw [g12_τ41]; by_cases z : s = x3; (rw [z, st_s]; decide); (rw [st_n _ _ z]; exact h)), Or.inl (by omega), Or.inl (by omega), by omega, fun zt s a b => by (rw [g10_τ41]; have h3 := zt s a (by omega); omega)⟩ | fail)), (show ∀ s : Int, ¬ σ.2.1 12 s = 0 → ¬ τ36.2.1 12 s = 0 from by (first | exact fun s h => by (rw [G12]; exact h) | exact fun s h => by (rw [g12_τ41]; by_cases z : s = x3; (rw [z, st_s]; decide); (rw [st_n _ _ z]; exact h)) | (intro s h; first | (rw [hf_τ11.2.1 12 (by decide)]; exact h) | (rw [hf_τ20.2.1 12 (by decide)]; exact h) | (rw [hf_τ29.2.1 12 (by decide)]; exact h) | (rw [hf_τ36.2.1 12 (by decide)]; exact h)) | fail))⟩
                    ·
                      refine h102 _ ?_
                      refine ⟨_, K_X13_failHere hT (show 0 ≤ (9 : Int) from by (first | omega | (simp only [st_s] <;> omega) | assumption | omega | fail)) (show (9 : Int) ≤ 19 from by (first | omega | (simp only [st_s] <;> omega) | assumption | omega | fail)), ?_⟩
                      intro τ29 hn_τ29 hf_τ29 hq
                      obtain ⟨hT, q27_1, q27_2⟩ := hq
                      replace q27_1 : ¬ (σ.1 20) = 0 → (τ29.1 20) = (σ.1 20) := q27_1
                      replace q27_2 : (σ.1 20) = 0 → (τ29.1 20) = (9 : Int) := q27_2
                      replace ag : m_ag σ τ29 := ag_r ag hf_τ29 rfl rfl
                      have w0_τ29 : τ29.1 0 = σ.1 0 := hf_τ29.1 0 (by decide)
                      have w3_τ29 : τ29.1 3 = σ.1 3 := hf_τ29.1 3 (by decide)
                      have w4_τ29 : τ29.1 4 = σ.1 4 := hf_τ29.1 4 (by decide)
                      have w5_τ29 : τ29.1 5 = σ.1 5 := hf_τ29.1 5 (by decide)
                      have w6_τ29 : τ29.1 6 = σ.1 6 := hf_τ29.1 6 (by decide)
                      have w7_τ29 : τ29.1 7 = σ.1 7 := hf_τ29.1 7 (by decide)
                      have w8_τ29 : τ29.1 8 = σ.1 8 := hf_τ29.1 8 (by decide)
                      have w9_τ29 : τ29.1 9 = σ.1 9 := hf_τ29.1 9 (by decide)
                      have w10_τ29 : τ29.1 10 = σ.1 10 := hf_τ29.1 10 (by decide)
                      have w11_τ29 : τ29.1 11 = σ.1 11 := hf_τ29.1 11 (by decide)
                      have w17_τ29 : τ29.1 17 = σ.1 17 := hf_τ29.1 17 (by decide)
                      have w18_τ29 : τ29.1 18 = σ.1 18 := hf_τ29.1 18 (by decide)
                      have w19_τ29 : τ29.1 19 = σ.1 19 := hf_τ29.1 19 (by decide)
                      have w22_τ29 : τ29.1 22 = σ.1 22 := hf_τ29.1 22 (by decide)
                      have g6_τ29 : τ29.2.1 6 = σ.2.1 6 := hf_τ29.2.1 6 (by decide)
                      have g8_τ29 : τ29.2.1 8 = σ.2.1 8 := hf_τ29.2.1 8 (by decide)
                      have g10_τ29 : τ29.2.1 10 = σ.2.1 10 := hf_τ29.2.1 10 (by decide)
                      have g11_τ29 : τ29.2.1 11 = σ.2.1 11 := hf_τ29.2.1 11 (by decide)
                      have g12_τ29 : τ29.2.1 12 = σ.2.1 12 := hf_τ29.2.1 12 (by decide)
                      have g14_τ29 : τ29.2.1 14 = σ.2.1 14 := hf_τ29.2.1 14 (by decide)
                      have g15_τ29 : τ29.2.1 15 = σ.2.1 15 := hf_τ29.2.1 15 (by decide)
                      have g16_τ29 : τ29.2.1 16 = σ.2.1 16 := hf_τ29.2.1 16 (by decide)
                      have g17_τ29 : τ29.2.1 17 = σ.2.1 17 := hf_τ29.2.1 17 (by decide)
                      first | (have o6_τ29 := congrArg oc g6_τ29) | skip
                      have W0 : τ29.1 0 = σ.1 0 := by first | exact w0_τ29.trans W0 | omega
                      have W3 : τ29.1 3 = σ.1 3 := by first | exact w3_τ29.trans W3 | omega
                      have W5 : τ29.1 5 = σ.1 5 := by first | exact w5_τ29.trans W5 | omega
                      have W7 : τ29.1 7 = σ.1 7 := by first | exact w7_τ29.trans W7 | omega
                      have W8 : τ29.1 8 = σ.1 8 := by first | exact w8_τ29.trans W8 | omega
                      have W9 : τ29.1 9 = σ.1 9 := by first | exact w9_τ29.trans W9 | omega
                      have W10 : τ29.1 10 = σ.1 10 := by first | exact w10_τ29.trans W10 | omega
                      have W11 : τ29.1 11 = σ.1 11 := by first | exact w11_τ29.trans W11 | omega
                      have W17 : τ29.1 17 = σ.1 17 := by first | exact w17_τ29.trans W17 | omega
                      have W18 : τ29.1 18 = σ.1 18 := by first | exact w18_τ29.trans W18 | omega
                      have W19 : τ29.1 19 = σ.1 19 := by first | exact w19_τ29.trans W19 | omega
                      have W22 : τ29.1 22 = σ.1 22 := by first | exact w22_τ29.trans W22 | omega
                      have G6 : τ29.2.1 6 = σ.2.1 6 := (g6_τ29).trans G6
                      have G8 : τ29.2.1 8 = σ.2.1 8 := (g8_τ29).trans G8
                      have G10 : τ29.2.1 10 = σ.2.1 10 := (g10_τ29).trans G10
                      have G11 : τ29.2.1 11 = σ.2.1 11 := (g11_τ29).trans G11
                      have G14 : τ29.2.1 14 = σ.2.1 14 := (g14_τ29).trans G14
                      have y14_22_τ29 : τ29.2.1 14 (τ29.1 22) = (σ.2.1 14) (σ.1 22) := by rw [g14_τ29, w22_τ29]
                      have y15_22_τ29 : τ29.2.1 15 (τ29.1 22) = (σ.2.1 15) (σ.1 22) := by rw [g15_τ29, w22_τ29]
                      have Z1 : τ29.2.1 14 (τ29.1 22) + τ29.2.1 15 (τ29.1 22) = (τ29.1 6) := by rw [show (τ29.2.1 14 (τ29.1 22) + τ29.2.1 15 (τ29.1 22) = (τ29.1 6)) = (σ.2.1 14 (σ.1 22) + σ.2.1 15 (σ.1 22) = (σ.1 6)) from by rw [w6_τ29, w22_τ29, g14_τ29, g15_τ29]]; exact Z1
                      have Y20 : ca (τ29.2.1 12) ((τ29.1 3)) ≤ (τ29.1 4) := by rw [show (ca (τ29.2.1 12) ((τ29.1 3)) ≤ (τ29.1 4)) = (ca (σ.2.1 12) ((σ.1 3)) ≤ (σ.1 4)) from by rw [w3_τ29, w4_τ29, g12_τ29]]; exact Y20
                      have Y1 : j_l2 (τ29.2.1 6) (τ29.1 3) := by rw [show (j_l2 (τ29.2.1 6) (τ29.1 3)) = (j_l2 (σ.2.1 6) (σ.1 3)) from by rw [w3_τ29, g6_τ29]]; exact Y1
                      have STt : j_l2 (τ29.2.1 6) (τ29.1 3) := by rw [show (j_l2 (τ29.2.1 6) (τ29.1 3)) = (j_l2 (σ.2.1 6) (σ.1 3)) from by rw [w3_τ29, g6_τ29]]; exact STt
                      have A6 : ∀ j, (-1) ≤ τ29.2.1 6 j ∧ τ29.2.1 6 j ≤ 999 := fun j => hT.2 6 j
                      have A8 : ∀ j, 0 ≤ τ29.2.1 8 j ∧ τ29.2.1 8 j ≤ 1 := fun j => hT.2 8 j
                      have A10 : ∀ j, (-1) ≤ τ29.2.1 10 j ∧ τ29.2.1 10 j ≤ 999 := fun j => hT.2 10 j
                      have A11 : ∀ j, (-1) ≤ τ29.2.1 11 j ∧ τ29.2.1 11 j ≤ 1499 := fun j => hT.2 11 j
                      have A12 : ∀ j, 0 ≤ τ29.2.1 12 j ∧ τ29.2.1 12 j ≤ 1 := fun j => hT.2 12 j
                      have A14 : ∀ j, 0 ≤ τ29.2.1 14 j ∧ τ29.2.1 14 j ≤ 30000 := fun j => hT.2 14 j
                      have A15 : ∀ j, 0 ≤ τ29.2.1 15 j ∧ τ29.2.1 15 j ≤ 300 := fun j => hT.2 15 j
                      have A16 : ∀ j, 0 ≤ τ29.2.1 16 j ∧ τ29.2.1 16 j ≤ 999 := fun j => hT.2 16 j
                      have A17 : ∀ j, (-1) ≤ τ29.2.1 17 j ∧ τ29.2.1 17 j ≤ 1499 := fun j => hT.2 17 j
                      have v0 : 0 ≤ τ29.1 0 ∧ τ29.1 0 ≤ 60000 := hT.1 0
                      have v3 : 0 ≤ τ29.1 3 ∧ τ29.1 3 ≤ 1000 := hT.1 3
                      have v4 : 0 ≤ τ29.1 4 ∧ τ29.1 4 ≤ 100 := hT.1 4
                      have v5 : 0 ≤ τ29.1 5 ∧ τ29.1 5 ≤ 1500 := hT.1 5
                      have v6 : 0 ≤ τ29.1 6 ∧ τ29.1 6 ≤ 30000 := hT.1 6
                      have v7 : 0 ≤ τ29.1 7 ∧ τ29.1 7 ≤ 90000 := hT.1 7
                      have v8 : 0 ≤ τ29.1 8 ∧ τ29.1 8 ≤ 20000 := hT.1 8
                      have v9 : 0 ≤ τ29.1 9 ∧ τ29.1 9 ≤ 20000 := hT.1 9
                      have v10 : (-1) ≤ τ29.1 10 ∧ τ29.1 10 ≤ 999 := hT.1 10
                      have v11 : (-1) ≤ τ29.1 11 ∧ τ29.1 11 ≤ 999 := hT.1 11
                      have v17 : 0 ≤ τ29.1 17 ∧ τ29.1 17 ≤ 60000 := hT.1 17
                      have v18 : 0 ≤ τ29.1 18 ∧ τ29.1 18 ≤ 60000 := hT.1 18
                      have v19 : (-1) ≤ τ29.1 19 ∧ τ29.1 19 ≤ 125 := hT.1 19
                      have v20 : 0 ≤ τ29.1 20 ∧ τ29.1 20 ≤ 19 := hT.1 20
                      have v22 : 0 ≤ τ29.1 22 ∧ τ29.1 22 ≤ 1499 := hT.1 22
                      have a14_22 : 0 ≤ τ29.2.1 14 (τ29.1 22) ∧ τ29.2.1 14 (τ29.1 22) ≤ 30000 := hT.2 14 _
                      have a15_22 : 0 ≤ τ29.2.1 15 (τ29.1 22) ∧ τ29.2.1 15 (τ29.1 22) ≤ 300 := hT.2 15 _
                      have av6 : σ.1 6 ≤ τ29.1 6 := ag.1 6 (by decide)
                      exact ⟨hT, (show (τ29.1 20) = 0 → τ29.2.1 15 (τ29.1 22) = 1 from by (first | omega | (simp only [st_s] <;> omega) | assumption | omega | fail)), (show τ29.2.1 15 (τ29.1 22) ≤ 1 from by (first | omega | (simp only [st_s] <;> omega) | assumption | omega | fail)), (show ¬ (σ.1 20) = 0 → (τ29.1 20) = (σ.1 20) from by (first | omega | (simp only [st_s] <;> omega) | assumption | omega | fail)), (show τ29.2.1 14 (τ29.1 22) + τ29.2.1 15 (τ29.1 22) = (τ29.1 6) from Z1), (show ca (τ29.2.1 12) ((τ29.1 3)) ≤ (τ29.1 4) from Y20), ag, (show (τ29.1 20) = 0 → n_N (τ29.2.1 14 (τ29.1 22)) (τ29.2.1 14 (τ29.1 22) + τ29.2.1 15 (τ29.1 22)) (σ.1 3) (σ.2.1 8) (σ.2.1 11) (τ29.2.1 12) (τ29.2.1 16) (τ29.2.1 17) from by (first | (intro z; exfalso; omega) | (intro _; rw [show τ41.2.1 14 (τ41.1 22) = σ.1 6 from by omega, show σ.1 6 + τ41.2.1 15 (τ41.1 22) = σ.1 6 + 1 from by omega]; exact n_N_1 q39_4 q39_5 (by omega) (x3lt (by omega)) (by rw [g12_τ41, st_s]; decide)) | fail)), (show n_rl σ τ29 from by (first | exact n_rl_h hf_τ11 rfl rfl | exact n_rl_h hf_τ20 rfl rfl | exact n_rl_h hf_τ29 rfl rfl | exact n_rl_h hf_τ36 rfl rfl | exact ⟨fun s _ _ _ => by rw [g10_τ41], fun s _ _ h => by (rw [g12_τ41]; by_cases z : s = x3; (rw [z, st_s]; decide); (rw [st_n _ _ z]; exact h)), Or.inl (by omega), Or.inl (by omega), by omega, fun zt s a b => by (rw [g10_τ41]; have h3 := zt s a (by omega); omega)⟩ | fail)), (show ∀ s : Int, ¬ σ.2.1 12 s = 0 → ¬ τ29.2.1 12 s = 0 from by (first | exact fun s h => by (rw [G12]; exact h) | exact fun s h => by (rw [g12_τ41]; by_cases z : s = x3; (rw [z, st_s]; decide); (rw [st_n _ _ z]; exact h)) | (intro s h; first | (rw [hf_τ11.2.1 12 (by decide)]; exact h) | (rw [hf_τ20.2.1 12 (by decide)]; exact h) | (rw [hf_τ29.2.1 12 (by decide)]; exact h) | (rw [hf_τ36.2.1 12 (by decide)]; exact h)) | fail))⟩
              ·
                refine h71 _ ?_
                refine ⟨_, K_X13_failHere hT (show 0 ≤ (5 : Int) from by (first | omega | (simp only [st_s] <;> omega) | assumption | omega | fail)) (show (5 : Int) ≤ 19 from by (first | omega | (simp only [st_s] <;> omega) | assumption | omega | fail)), ?_⟩
                intro τ20 hn_τ20 hf_τ20 hq
                obtain ⟨hT, q18_1, q18_2⟩ := hq
                replace q18_1 : ¬ (σ.1 20) = 0 → (τ20.1 20) = (σ.1 20) := q18_1
                replace q18_2 : (σ.1 20) = 0 → (τ20.1 20) = (5 : Int) := q18_2
                replace ag : m_ag σ τ20 := ag_r ag hf_τ20 rfl rfl
                have w0_τ20 : τ20.1 0 = σ.1 0 := hf_τ20.1 0 (by decide)
                have w3_τ20 : τ20.1 3 = σ.1 3 := hf_τ20.1 3 (by decide)
                have w4_τ20 : τ20.1 4 = σ.1 4 := hf_τ20.1 4 (by decide)
                have w5_τ20 : τ20.1 5 = σ.1 5 := hf_τ20.1 5 (by decide)
                have w6_τ20 : τ20.1 6 = σ.1 6 := hf_τ20.1 6 (by decide)
                have w7_τ20 : τ20.1 7 = σ.1 7 := hf_τ20.1 7 (by decide)
                have w8_τ20 : τ20.1 8 = σ.1 8 := hf_τ20.1 8 (by decide)
                have w9_τ20 : τ20.1 9 = σ.1 9 := hf_τ20.1 9 (by decide)
                have w10_τ20 : τ20.1 10 = σ.1 10 := hf_τ20.1 10 (by decide)
                have w11_τ20 : τ20.1 11 = σ.1 11 := hf_τ20.1 11 (by decide)
                have w17_τ20 : τ20.1 17 = σ.1 17 := hf_τ20.1 17 (by decide)
                have w18_τ20 : τ20.1 18 = σ.1 18 := hf_τ20.1 18 (by decide)
                have w19_τ20 : τ20.1 19 = σ.1 19 := hf_τ20.1 19 (by decide)
                have w22_τ20 : τ20.1 22 = σ.1 22 := hf_τ20.1 22 (by decide)
                have g6_τ20 : τ20.2.1 6 = σ.2.1 6 := hf_τ20.2.1 6 (by decide)
                have g8_τ20 : τ20.2.1 8 = σ.2.1 8 := hf_τ20.2.1 8 (by decide)
                have g10_τ20 : τ20.2.1 10 = σ.2.1 10 := hf_τ20.2.1 10 (by decide)
                have g11_τ20 : τ20.2.1 11 = σ.2.1 11 := hf_τ20.2.1 11 (by decide)
                have g12_τ20 : τ20.2.1 12 = σ.2.1 12 := hf_τ20.2.1 12 (by decide)
                have g14_τ20 : τ20.2.1 14 = σ.2.1 14 := hf_τ20.2.1 14 (by decide)
                have g15_τ20 : τ20.2.1 15 = σ.2.1 15 := hf_τ20.2.1 15 (by decide)
                have g16_τ20 : τ20.2.1 16 = σ.2.1 16 := hf_τ20.2.1 16 (by decide)
                have g17_τ20 : τ20.2.1 17 = σ.2.1 17 := hf_τ20.2.1 17 (by decide)
                first | (have o6_τ20 := congrArg oc g6_τ20) | skip
                have W0 : τ20.1 0 = σ.1 0 := by first | exact w0_τ20.trans W0 | omega
                have W3 : τ20.1 3 = σ.1 3 := by first | exact w3_τ20.trans W3 | omega
                have W5 : τ20.1 5 = σ.1 5 := by first | exact w5_τ20.trans W5 | omega
                have W7 : τ20.1 7 = σ.1 7 := by first | exact w7_τ20.trans W7 | omega
                have W8 : τ20.1 8 = σ.1 8 := by first | exact w8_τ20.trans W8 | omega
                have W9 : τ20.1 9 = σ.1 9 := by first | exact w9_τ20.trans W9 | omega
                have W10 : τ20.1 10 = σ.1 10 := by first | exact w10_τ20.trans W10 | omega
                have W11 : τ20.1 11 = σ.1 11 := by first | exact w11_τ20.trans W11 | omega
                have W17 : τ20.1 17 = σ.1 17 := by first | exact w17_τ20.trans W17 | omega
                have W18 : τ20.1 18 = σ.1 18 := by first | exact w18_τ20.trans W18 | omega
                have W19 : τ20.1 19 = σ.1 19 := by first | exact w19_τ20.trans W19 | omega
                have W22 : τ20.1 22 = σ.1 22 := by first | exact w22_τ20.trans W22 | omega
                have G6 : τ20.2.1 6 = σ.2.1 6 := (g6_τ20).trans G6
                have G8 : τ20.2.1 8 = σ.2.1 8 := (g8_τ20).trans G8
                have G10 : τ20.2.1 10 = σ.2.1 10 := (g10_τ20).trans G10
                have G11 : τ20.2.1 11 = σ.2.1 11 := (g11_τ20).trans G11
                have G14 : τ20.2.1 14 = σ.2.1 14 := (g14_τ20).trans G14
                have y14_22_τ20 : τ20.2.1 14 (τ20.1 22) = (σ.2.1 14) (σ.1 22) := by rw [g14_τ20, w22_τ20]
                have y15_22_τ20 : τ20.2.1 15 (τ20.1 22) = (σ.2.1 15) (σ.1 22) := by rw [g15_τ20, w22_τ20]
                have Z1 : τ20.2.1 14 (τ20.1 22) + τ20.2.1 15 (τ20.1 22) = (τ20.1 6) := by rw [show (τ20.2.1 14 (τ20.1 22) + τ20.2.1 15 (τ20.1 22) = (τ20.1 6)) = (σ.2.1 14 (σ.1 22) + σ.2.1 15 (σ.1 22) = (σ.1 6)) from by rw [w6_τ20, w22_τ20, g14_τ20, g15_τ20]]; exact Z1
                have Y20 : ca (τ20.2.1 12) ((τ20.1 3)) ≤ (τ20.1 4) := by rw [show (ca (τ20.2.1 12) ((τ20.1 3)) ≤ (τ20.1 4)) = (ca (σ.2.1 12) ((σ.1 3)) ≤ (σ.1 4)) from by rw [w3_τ20, w4_τ20, g12_τ20]]; exact Y20
                have Y1 : j_l2 (τ20.2.1 6) (τ20.1 3) := by rw [show (j_l2 (τ20.2.1 6) (τ20.1 3)) = (j_l2 (σ.2.1 6) (σ.1 3)) from by rw [w3_τ20, g6_τ20]]; exact Y1
                have STt : j_l2 (τ20.2.1 6) (τ20.1 3) := by rw [show (j_l2 (τ20.2.1 6) (τ20.1 3)) = (j_l2 (σ.2.1 6) (σ.1 3)) from by rw [w3_τ20, g6_τ20]]; exact STt
                have A6 : ∀ j, (-1) ≤ τ20.2.1 6 j ∧ τ20.2.1 6 j ≤ 999 := fun j => hT.2 6 j
                have A8 : ∀ j, 0 ≤ τ20.2.1 8 j ∧ τ20.2.1 8 j ≤ 1 := fun j => hT.2 8 j
                have A10 : ∀ j, (-1) ≤ τ20.2.1 10 j ∧ τ20.2.1 10 j ≤ 999 := fun j => hT.2 10 j
                have A11 : ∀ j, (-1) ≤ τ20.2.1 11 j ∧ τ20.2.1 11 j ≤ 1499 := fun j => hT.2 11 j
                have A12 : ∀ j, 0 ≤ τ20.2.1 12 j ∧ τ20.2.1 12 j ≤ 1 := fun j => hT.2 12 j
                have A14 : ∀ j, 0 ≤ τ20.2.1 14 j ∧ τ20.2.1 14 j ≤ 30000 := fun j => hT.2 14 j
                have A15 : ∀ j, 0 ≤ τ20.2.1 15 j ∧ τ20.2.1 15 j ≤ 300 := fun j => hT.2 15 j
                have A16 : ∀ j, 0 ≤ τ20.2.1 16 j ∧ τ20.2.1 16 j ≤ 999 := fun j => hT.2 16 j
                have A17 : ∀ j, (-1) ≤ τ20.2.1 17 j ∧ τ20.2.1 17 j ≤ 1499 := fun j => hT.2 17 j
                have v0 : 0 ≤ τ20.1 0 ∧ τ20.1 0 ≤ 60000 := hT.1 0
                have v3 : 0 ≤ τ20.1 3 ∧ τ20.1 3 ≤ 1000 := hT.1 3
                have v4 : 0 ≤ τ20.1 4 ∧ τ20.1 4 ≤ 100 := hT.1 4
                have v5 : 0 ≤ τ20.1 5 ∧ τ20.1 5 ≤ 1500 := hT.1 5
                have v6 : 0 ≤ τ20.1 6 ∧ τ20.1 6 ≤ 30000 := hT.1 6
                have v7 : 0 ≤ τ20.1 7 ∧ τ20.1 7 ≤ 90000 := hT.1 7
                have v8 : 0 ≤ τ20.1 8 ∧ τ20.1 8 ≤ 20000 := hT.1 8
                have v9 : 0 ≤ τ20.1 9 ∧ τ20.1 9 ≤ 20000 := hT.1 9
                have v10 : (-1) ≤ τ20.1 10 ∧ τ20.1 10 ≤ 999 := hT.1 10
                have v11 : (-1) ≤ τ20.1 11 ∧ τ20.1 11 ≤ 999 := hT.1 11
                have v17 : 0 ≤ τ20.1 17 ∧ τ20.1 17 ≤ 60000 := hT.1 17
                have v18 : 0 ≤ τ20.1 18 ∧ τ20.1 18 ≤ 60000 := hT.1 18
                have v19 : (-1) ≤ τ20.1 19 ∧ τ20.1 19 ≤ 125 := hT.1 19
                have v20 : 0 ≤ τ20.1 20 ∧ τ20.1 20 ≤ 19 := hT.1 20
                have v22 : 0 ≤ τ20.1 22 ∧ τ20.1 22 ≤ 1499 := hT.1 22
                have a14_22 : 0 ≤ τ20.2.1 14 (τ20.1 22) ∧ τ20.2.1 14 (τ20.1 22) ≤ 30000 := hT.2 14 _
                have a15_22 : 0 ≤ τ20.2.1 15 (τ20.1 22) ∧ τ20.2.1 15 (τ20.1 22) ≤ 300 := hT.2 15 _
                have av6 : σ.1 6 ≤ τ20.1 6 := ag.1 6 (by decide)
                exact ⟨hT, (show (τ20.1 20) = 0 → τ20.2.1 15 (τ20.1 22) = 1 from by (first | omega | (simp only [st_s] <;> omega) | assumption | omega | fail)), (show τ20.2.1 15 (τ20.1 22) ≤ 1 from by (first | omega | (simp only [st_s] <;> omega) | assumption | omega | fail)), (show ¬ (σ.1 20) = 0 → (τ20.1 20) = (σ.1 20) from by (first | omega | (simp only [st_s] <;> omega) | assumption | omega | fail)), (show τ20.2.1 14 (τ20.1 22) + τ20.2.1 15 (τ20.1 22) = (τ20.1 6) from Z1), (show ca (τ20.2.1 12) ((τ20.1 3)) ≤ (τ20.1 4) from Y20), ag, (show (τ20.1 20) = 0 → n_N (τ20.2.1 14 (τ20.1 22)) (τ20.2.1 14 (τ20.1 22) + τ20.2.1 15 (τ20.1 22)) (σ.1 3) (σ.2.1 8) (σ.2.1 11) (τ20.2.1 12) (τ20.2.1 16) (τ20.2.1 17) from by (first | (intro z; exfalso; omega) | (intro _; rw [show τ41.2.1 14 (τ41.1 22) = σ.1 6 from by omega, show σ.1 6 + τ41.2.1 15 (τ41.1 22) = σ.1 6 + 1 from by omega]; exact n_N_1 q39_4 q39_5 (by omega) (x3lt (by omega)) (by rw [g12_τ41, st_s]; decide)) | fail)), (show n_rl σ τ20 from by (first | exact n_rl_h hf_τ11 rfl rfl | exact n_rl_h hf_τ20 rfl rfl | exact n_rl_h hf_τ29 rfl rfl | exact n_rl_h hf_τ36 rfl rfl | exact ⟨fun s _ _ _ => by rw [g10_τ41], fun s _ _ h => by (rw [g12_τ41]; by_cases z : s = x3; (rw [z, st_s]; decide); (rw [st_n _ _ z]; exact h)), Or.inl (by omega), Or.inl (by omega), by omega, fun zt s a b => by (rw [g10_τ41]; have h3 := zt s a (by omega); omega)⟩ | fail)), (show ∀ s : Int, ¬ σ.2.1 12 s = 0 → ¬ τ20.2.1 12 s = 0 from by (first | exact fun s h => by (rw [G12]; exact h) | exact fun s h => by (rw [g12_τ41]; by_cases z : s = x3; (rw [z, st_s]; decide); (rw [st_n _ _ z]; exact h)) | (intro s h; first | (rw [hf_τ11.2.1 12 (by decide)]; exact h) | (rw [hf_τ20.2.1 12 (by decide)]; exact h) | (rw [hf_τ29.2.1 12 (by decide)]; exact h) | (rw [hf_τ36.2.1 12 (by decide)]; exact h)) | fail))⟩
  ·
    refine ⟨_, K_X13_failHere hT (show 0 ≤ (4 : Int) from by (first | omega | (simp only [st_s] <;> omega) | assumption | omega | fail)) (show (4 : Int) ≤ 19 from by (first | omega | (simp only [st_s] <;> omega) | assumption | omega | fail)), ?_⟩
    intro τ11 hn_τ11 hf_τ11 hq
    obtain ⟨hT, q9_1, q9_2⟩ := hq
    replace q9_1 : ¬ (σ.1 20) = 0 → (τ11.1 20) = (σ.1 20) := q9_1
    replace q9_2 : (σ.1 20) = 0 → (τ11.1 20) = (4 : Int) := q9_2
    replace ag : m_ag σ τ11 := ag_r ag hf_τ11 rfl rfl
    have w0_τ11 : τ11.1 0 = σ.1 0 := hf_τ11.1 0 (by decide)
    have w3_τ11 : τ11.1 3 = σ.1 3 := hf_τ11.1 3 (by decide)
    have w4_τ11 : τ11.1 4 = σ.1 4 := hf_τ11.1 4 (by decide)
    have w5_τ11 : τ11.1 5 = σ.1 5 := hf_τ11.1 5 (by decide)
    have w6_τ11 : τ11.1 6 = σ.1 6 := hf_τ11.1 6 (by decide)
    have w7_τ11 : τ11.1 7 = σ.1 7 := hf_τ11.1 7 (by decide)
    have w8_τ11 : τ11.1 8 = σ.1 8 := hf_τ11.1 8 (by decide)
    have w9_τ11 : τ11.1 9 = σ.1 9 := hf_τ11.1 9 (by decide)
    have w10_τ11 : τ11.1 10 = σ.1 10 := hf_τ11.1 10 (by decide)
    have w11_τ11 : τ11.1 11 = σ.1 11 := hf_τ11.1 11 (by decide)
    have w17_τ11 : τ11.1 17 = σ.1 17 := hf_τ11.1 17 (by decide)
    have w18_τ11 : τ11.1 18 = σ.1 18 := hf_τ11.1 18 (by decide)
    have w19_τ11 : τ11.1 19 = σ.1 19 := hf_τ11.1 19 (by decide)
    have w22_τ11 : τ11.1 22 = σ.1 22 := hf_τ11.1 22 (by decide)
    have g6_τ11 : τ11.2.1 6 = σ.2.1 6 := hf_τ11.2.1 6 (by decide)
    have g8_τ11 : τ11.2.1 8 = σ.2.1 8 := hf_τ11.2.1 8 (by decide)
    have g10_τ11 : τ11.2.1 10 = σ.2.1 10 := hf_τ11.2.1 10 (by decide)
    have g11_τ11 : τ11.2.1 11 = σ.2.1 11 := hf_τ11.2.1 11 (by decide)
    have g12_τ11 : τ11.2.1 12 = σ.2.1 12 := hf_τ11.2.1 12 (by decide)
    have g14_τ11 : τ11.2.1 14 = σ.2.1 14 := hf_τ11.2.1 14 (by decide)
    have g15_τ11 : τ11.2.1 15 = σ.2.1 15 := hf_τ11.2.1 15 (by decide)
    have g16_τ11 : τ11.2.1 16 = σ.2.1 16 := hf_τ11.2.1 16 (by decide)
    have g17_τ11 : τ11.2.1 17 = σ.2.1 17 := hf_τ11.2.1 17 (by decide)
    first | (have o6_τ11 := congrArg oc g6_τ11) | skip
    have W0 : τ11.1 0 = σ.1 0 := by first | exact w0_τ11.trans W0 | omega
    have W3 : τ11.1 3 = σ.1 3 := by first | exact w3_τ11.trans W3 | omega
    have W5 : τ11.1 5 = σ.1 5 := by first | exact w5_τ11.trans W5 | omega
    have W7 : τ11.1 7 = σ.1 7 := by first | exact w7_τ11.trans W7 | omega
    have W8 : τ11.1 8 = σ.1 8 := by first | exact w8_τ11.trans W8 | omega
    have W9 : τ11.1 9 = σ.1 9 := by first | exact w9_τ11.trans W9 | omega
    have W10 : τ11.1 10 = σ.1 10 := by first | exact w10_τ11.trans W10 | omega
    have W11 : τ11.1 11 = σ.1 11 := by first | exact w11_τ11.trans W11 | omega
    have W17 : τ11.1 17 = σ.1 17 := by first | exact w17_τ11.trans W17 | omega
    have W18 : τ11.1 18 = σ.1 18 := by first | exact w18_τ11.trans W18 | omega
    have W19 : τ11.1 19 = σ.1 19 := by first | exact w19_τ11.trans W19 | omega
    have W22 : τ11.1 22 = σ.1 22 := by first | exact w22_τ11.trans W22 | omega
    have G6 : τ11.2.1 6 = σ.2.1 6 := (g6_τ11).trans G6
    have G8 : τ11.2.1 8 = σ.2.1 8 := (g8_τ11).trans G8
    have G10 : τ11.2.1 10 = σ.2.1 10 := (g10_τ11).trans G10
    have G11 : τ11.2.1 11 = σ.2.1 11 := (g11_τ11).trans G11
    have G14 : τ11.2.1 14 = σ.2.1 14 := (g14_τ11).trans G14
    have y14_22_τ11 : τ11.2.1 14 (τ11.1 22) = (σ.2.1 14) (σ.1 22) := by rw [g14_τ11, w22_τ11]
    have y15_22_τ11 : τ11.2.1 15 (τ11.1 22) = (σ.2.1 15) (σ.1 22) := by rw [g15_τ11, w22_τ11]
    have Z1 : τ11.2.1 14 (τ11.1 22) + τ11.2.1 15 (τ11.1 22) = (τ11.1 6) := by rw [show (τ11.2.1 14 (τ11.1 22) + τ11.2.1 15 (τ11.1 22) = (τ11.1 6)) = (σ.2.1 14 (σ.1 22) + σ.2.1 15 (σ.1 22) = (σ.1 6)) from by rw [w6_τ11, w22_τ11, g14_τ11, g15_τ11]]; exact Z1
    have Y20 : ca (τ11.2.1 12) ((τ11.1 3)) ≤ (τ11.1 4) := by rw [show (ca (τ11.2.1 12) ((τ11.1 3)) ≤ (τ11.1 4)) = (ca (σ.2.1 12) ((σ.1 3)) ≤ (σ.1 4)) from by rw [w3_τ11, w4_τ11, g12_τ11]]; exact Y20
    have Y1 : j_l2 (τ11.2.1 6) (τ11.1 3) := by rw [show (j_l2 (τ11.2.1 6) (τ11.1 3)) = (j_l2 (σ.2.1 6) (σ.1 3)) from by rw [w3_τ11, g6_τ11]]; exact Y1
    have STt : j_l2 (τ11.2.1 6) (τ11.1 3) := by rw [show (j_l2 (τ11.2.1 6) (τ11.1 3)) = (j_l2 (σ.2.1 6) (σ.1 3)) from by rw [w3_τ11, g6_τ11]]; exact STt
    have A6 : ∀ j, (-1) ≤ τ11.2.1 6 j ∧ τ11.2.1 6 j ≤ 999 := fun j => hT.2 6 j
    have A8 : ∀ j, 0 ≤ τ11.2.1 8 j ∧ τ11.2.1 8 j ≤ 1 := fun j => hT.2 8 j
    have A10 : ∀ j, (-1) ≤ τ11.2.1 10 j ∧ τ11.2.1 10 j ≤ 999 := fun j => hT.2 10 j
    have A11 : ∀ j, (-1) ≤ τ11.2.1 11 j ∧ τ11.2.1 11 j ≤ 1499 := fun j => hT.2 11 j
    have A12 : ∀ j, 0 ≤ τ11.2.1 12 j ∧ τ11.2.1 12 j ≤ 1 := fun j => hT.2 12 j
    have A14 : ∀ j, 0 ≤ τ11.2.1 14 j ∧ τ11.2.1 14 j ≤ 30000 := fun j => hT.2 14 j
    have A15 : ∀ j, 0 ≤ τ11.2.1 15 j ∧ τ11.2.1 15 j ≤ 300 := fun j => hT.2 15 j
    have A16 : ∀ j, 0 ≤ τ11.2.1 16 j ∧ τ11.2.1 16 j ≤ 999 := fun j => hT.2 16 j
    have A17 : ∀ j, (-1) ≤ τ11.2.1 17 j ∧ τ11.2.1 17 j ≤ 1499 := fun j => hT.2 17 j
    have v0 : 0 ≤ τ11.1 0 ∧ τ11.1 0 ≤ 60000 := hT.1 0
    have v3 : 0 ≤ τ11.1 3 ∧ τ11.1 3 ≤ 1000 := hT.1 3
    have v4 : 0 ≤ τ11.1 4 ∧ τ11.1 4 ≤ 100 := hT.1 4
    have v5 : 0 ≤ τ11.1 5 ∧ τ11.1 5 ≤ 1500 := hT.1 5
    have v6 : 0 ≤ τ11.1 6 ∧ τ11.1 6 ≤ 30000 := hT.1 6
    have v7 : 0 ≤ τ11.1 7 ∧ τ11.1 7 ≤ 90000 := hT.1 7
    have v8 : 0 ≤ τ11.1 8 ∧ τ11.1 8 ≤ 20000 := hT.1 8
    have v9 : 0 ≤ τ11.1 9 ∧ τ11.1 9 ≤ 20000 := hT.1 9
    have v10 : (-1) ≤ τ11.1 10 ∧ τ11.1 10 ≤ 999 := hT.1 10
    have v11 : (-1) ≤ τ11.1 11 ∧ τ11.1 11 ≤ 999 := hT.1 11
    have v17 : 0 ≤ τ11.1 17 ∧ τ11.1 17 ≤ 60000 := hT.1 17
    have v18 : 0 ≤ τ11.1 18 ∧ τ11.1 18 ≤ 60000 := hT.1 18
    have v19 : (-1) ≤ τ11.1 19 ∧ τ11.1 19 ≤ 125 := hT.1 19
    have v20 : 0 ≤ τ11.1 20 ∧ τ11.1 20 ≤ 19 := hT.1 20
    have v22 : 0 ≤ τ11.1 22 ∧ τ11.1 22 ≤ 1499 := hT.1 22
    have a14_22 : 0 ≤ τ11.2.1 14 (τ11.1 22) ∧ τ11.2.1 14 (τ11.1 22) ≤ 30000 := hT.2 14 _
    have a15_22 : 0 ≤ τ11.2.1 15 (τ11.1 22) ∧ τ11.2.1 15 (τ11.1 22) ≤ 300 := hT.2 15 _
    have av6 : σ.1 6 ≤ τ11.1 6 := ag.1 6 (by decide)
    exact ⟨hT, (show (τ11.1 20) = 0 → τ11.2.1 15 (τ11.1 22) = 1 from by (first | omega | (simp only [st_s] <;> omega) | assumption | omega | fail)), (show τ11.2.1 15 (τ11.1 22) ≤ 1 from by (first | omega | (simp only [st_s] <;> omega) | assumption | omega | fail)), (show ¬ (σ.1 20) = 0 → (τ11.1 20) = (σ.1 20) from by (first | omega | (simp only [st_s] <;> omega) | assumption | omega | fail)), (show τ11.2.1 14 (τ11.1 22) + τ11.2.1 15 (τ11.1 22) = (τ11.1 6) from Z1), (show ca (τ11.2.1 12) ((τ11.1 3)) ≤ (τ11.1 4) from Y20), ag, (show (τ11.1 20) = 0 → n_N (τ11.2.1 14 (τ11.1 22)) (τ11.2.1 14 (τ11.1 22) + τ11.2.1 15 (τ11.1 22)) (σ.1 3) (σ.2.1 8) (σ.2.1 11) (τ11.2.1 12) (τ11.2.1 16) (τ11.2.1 17) from by (first | (intro z; exfalso; omega) | (intro _; rw [show τ41.2.1 14 (τ41.1 22) = σ.1 6 from by omega, show σ.1 6 + τ41.2.1 15 (τ41.1 22) = σ.1 6 + 1 from by omega]; exact n_N_1 q39_4 q39_5 (by omega) (x3lt (by omega)) (by rw [g12_τ41, st_s]; decide)) | fail)), (show n_rl σ τ11 from by (first | exact n_rl_h hf_τ11 rfl rfl | exact n_rl_h hf_τ20 rfl rfl | exact n_rl_h hf_τ29 rfl rfl | exact n_rl_h hf_τ36 rfl rfl | exact ⟨fun s _ _ _ => by rw [g10_τ41], fun s _ _ h => by (rw [g12_τ41]; by_cases z : s = x3; (rw [z, st_s]; decide); (rw [st_n _ _ z]; exact h)), Or.inl (by omega), Or.inl (by omega), by omega, fun zt s a b => by (rw [g10_τ41]; have h3 := zt s a (by omega); omega)⟩ | fail)), (show ∀ s : Int, ¬ σ.2.1 12 s = 0 → ¬ τ11.2.1 12 s = 0 from by (first | exact fun s h => by (rw [G12]; exact h) | exact fun s h => by (rw [g12_τ41]; by_cases z : s = x3; (rw [z, st_s]; decide); (rw [st_n _ _ z]; exact h)) | (intro s h; first | (rw [hf_τ11.2.1 12 (by decide)]; exact h) | (rw [hf_τ20.2.1 12 (by decide)]; exact h) | (rw [hf_τ29.2.1 12 (by decide)]; exact h) | (rw [hf_τ36.2.1 12 (by decide)]; exact h)) | fail))⟩
set_option maxHeartbeats 1000000 in
theorem K3_X13_finish {n1 : Int} {σ : S0} (hT : m_T σ) (p1 : 0 ≤ n1) (p2 : n1 ≤ 4) (p3 : (σ.1 5) < 1500) (p4 : (σ.1 22) = (σ.1 5)) : W_X13_finish n1 σ (fun (τ : S0) => (m_T τ) ∧ ((τ.1 5) = (σ.1 5) + 1) ∧ (m_ag σ τ) ∧ (τ.2.1 13 = st (σ.2.1 13) (σ.1 22) n1)) := by
  have A13 : ∀ j, 0 ≤ σ.2.1 13 j ∧ σ.2.1 13 j ≤ 4 := fun j => hT.2 13 j
  have v3 : 0 ≤ σ.1 3 ∧ σ.1 3 ≤ 1000 := hT.1 3
  have v5 : 0 ≤ σ.1 5 ∧ σ.1 5 ≤ 1500 := hT.1 5
  have v6 : 0 ≤ σ.1 6 ∧ σ.1 6 ≤ 30000 := hT.1 6
  have v7 : 0 ≤ σ.1 7 ∧ σ.1 7 ≤ 90000 := hT.1 7
  have v8 : 0 ≤ σ.1 8 ∧ σ.1 8 ≤ 20000 := hT.1 8
  have v9 : 0 ≤ σ.1 9 ∧ σ.1 9 ≤ 20000 := hT.1 9
  have v22 : 0 ≤ σ.1 22 ∧ σ.1 22 ≤ 1499 := hT.1 22
  have W3 : σ.1 3 = σ.1 3 := rfl
  have W6 : σ.1 6 = σ.1 6 := rfl
  have W7 : σ.1 7 = σ.1 7 := rfl
  have W8 : σ.1 8 = σ.1 8 := rfl
  have W9 : σ.1 9 = σ.1 9 := rfl
  have W22 : σ.1 22 = σ.1 22 := rfl
  have ag : m_ag σ σ := ag_0 σ
  unfold W_X13_finish
  refine ⟨(show 0 ≤ σ.1 22 ∧ σ.1 22 < 1501 from by (first | omega | (simp only [st_s] <;> omega) | assumption | omega | fail)), ?_⟩
  replace ag := ag_w (k := 13) (x := n1) 5 0 ag rfl (show σ.1 5 + 0 ≤ (σ.1 22) from by (first | omega | (simp only [st_s] <;> omega) | assumption | omega | fail))
  replace hT := mT_a (k := 13) (j := (σ.1 22)) hT (show (0 : Int) ≤ n1 ∧ n1 ≤ 4 from by (first | omega | (simp only [st_s] <;> omega) | assumption | omega | fail))
  refine ⟨(⟨by (first | omega | (simp only [st_s] <;> omega) | assumption | omega | fail), by (first | omega | (simp only [st_s] <;> omega) | assumption | omega | fail)⟩ : rg (σ.1 5 + 1)), ?_⟩
  replace ag := ag_v (i := 5) (x := (σ.1 5 + 1)) ag (Or.inr (show σ.1 5 ≤ (σ.1 5 + 1) from by (first | omega | (simp only [st_s] <;> omega) | assumption | omega | fail)))
  replace hT := mT_v (i := 5) hT (show 0 ≤ (σ.1 5 + 1) ∧ (σ.1 5 + 1) ≤ 1500 from by (first | omega | (simp only [st_s] <;> omega) | assumption | omega | fail))
  exact ⟨hT, (show ((σ.1 5 + 1)) = (σ.1 5) + 1 from by (first | omega | (simp only [st_s] <;> omega) | assumption | omega | fail)), ag, (show (st (σ.2.1 13) (σ.1 22) n1) = st (σ.2.1 13) (σ.1 22) n1 from by (first | omega | (simp only [st_s] <;> omega) | assumption | omega | fail))⟩
set_option maxHeartbeats 1000000 in
theorem K3_X13_activate {σ : S0} (hT : m_T σ) (p1 : (σ.1 13) < 1500) : W_X13_activate σ (fun (τ : S0) => (m_T τ) ∧ ((τ.1 13) = (σ.1 13) + 1) ∧ (τ.2.1 31 = st (σ.2.1 31) (σ.1 13) (σ.1 22))) := by
  have A31 : ∀ j, 0 ≤ σ.2.1 31 j ∧ σ.2.1 31 j ≤ 1499 := fun j => hT.2 31 j
  have v13 : 0 ≤ σ.1 13 ∧ σ.1 13 ≤ 1500 := hT.1 13
  have v22 : 0 ≤ σ.1 22 ∧ σ.1 22 ≤ 1499 := hT.1 22
  have W22 : σ.1 22 = σ.1 22 := rfl
  unfold W_X13_activate
  refine ⟨(show 0 ≤ σ.1 13 ∧ σ.1 13 < 1501 from by (first | omega | (simp only [st_s] <;> omega) | assumption | omega | fail)), ?_⟩
  replace hT := mT_a (k := 31) (j := (σ.1 13)) hT (show (0 : Int) ≤ (σ.1 22) ∧ (σ.1 22) ≤ 1499 from by (first | omega | (simp only [st_s] <;> omega) | assumption | omega | fail))
  refine ⟨(⟨by (first | omega | (simp only [st_s] <;> omega) | assumption | omega | fail), by (first | omega | (simp only [st_s] <;> omega) | assumption | omega | fail)⟩ : rg (σ.1 13 + 1)), ?_⟩
  replace hT := mT_v (i := 13) hT (show 0 ≤ (σ.1 13 + 1) ∧ (σ.1 13 + 1) ≤ 1500 from by (first | omega | (simp only [st_s] <;> omega) | assumption | omega | fail))
  exact ⟨hT, (show ((σ.1 13 + 1)) = (σ.1 13) + 1 from by (first | omega | (simp only [st_s] <;> omega) | assumption | omega | fail)), (show (st (σ.2.1 31) (σ.1 13) (σ.1 22)) = st (σ.2.1 31) (σ.1 13) (σ.1 22) from by (first | omega | (simp only [st_s] <;> omega) | assumption | omega | fail))⟩
