section
variable {σ τ : S0}
theorem z_kr_w (K : z_kr σ τ) {i : Int} (i0 : 0 ≤ i) (i5 : i < σ.1 5) : ∀ k : Int, 0 ≤ k → k < σ.2.1 15 i - 1 → y_rw τ i k = y_rw σ i k := fun k a b => by
  obtain ⟨⟨_, e14, _⟩, tx, _⟩ := K.1 i i0 i5
  have w := (tx (1 + k) (by omega) (by omega)).1.1
  rw [show σ.2.1 14 i + (1 + k) = σ.2.1 14 i + 1 + k by omega] at w
  unfold y_rw
  rw [e14, w]
/-- leaves are symbols -/
theorem z_lf_b (J : n_J σ) (hT : m_T σ) {i : Int} (i0 : 0 ≤ i) (i5 : i < σ.1 5) : ∀ k : Int, 0 ≤ k → k < σ.2.1 15 i - 1 → y_lf σ i k < σ.1 3 := fun k a b => by
  obtain ⟨p1, p2⟩ := (J i i0 i5).1.2.2 (σ.2.1 14 i + 1 + k) (by omega) (by omega)
  have s3 : -1 < σ.1 3 := by have : 0 ≤ σ.1 3 := (hT.1 3).1; omega
  unfold y_lf
  by_cases z : ¬ σ.2.1 17 (σ.2.1 14 i + 1 + k) = -1 ∧ ¬ y_lt σ i k = σ.1 11
  · rw [if_pos z]
    rcases p2 with ⟨_, w⟩ | ⟨_, w1, w2, _, _⟩
    · exact absurd w z.1
    · have s1 := (J _ w1 (by omega)).1.1.1
      have w := ((J _ w1 (by omega)).1.2.2 (σ.2.1 14 (σ.2.1 17 (σ.2.1 14 i + 1 + k))) (Int.le_refl _) (by omega)).1
      exact w
  · rw [if_neg z]; exact s3
theorem z_kr_l (K : z_kr σ τ) (J : n_J σ) {i : Int} (i0 : 0 ≤ i) (i5 : i < σ.1 5) : ∀ k : Int, 0 ≤ k → k < σ.2.1 15 i - 1 → y_lf τ i k = y_lf σ i k := fun k a b => by
  obtain ⟨⟨_, e14, _⟩, tx, _⟩ := K.1 i i0 i5
  have w := (tx (1 + k) (by omega) (by omega)).1.2.1
  rw [show σ.2.1 14 i + (1 + k) = σ.2.1 14 i + 1 + k by omega] at w
  obtain ⟨p1, p2⟩ := (J i i0 i5).1.2.2 (σ.2.1 14 i + 1 + k) (by omega) (by omega)
  unfold y_lf
  rcases p2 with ⟨_, u⟩ | ⟨_, w1, w2, _, _⟩
  · rw [e14, w, if_neg (fun z => z.1 u), if_neg (fun z => z.1 u)]
  · obtain ⟨⟨_, d14, _⟩, dx, _⟩ := K.1 _ w1 (by omega)
    have s1 := (J _ w1 (by omega)).1.1.1
    have d0 := dx 0 (Int.le_refl _) (by omega)
    rw [show σ.2.1 14 (σ.2.1 17 (σ.2.1 14 i + 1 + k)) + 0 = σ.2.1 14 (σ.2.1 17 (σ.2.1 14 i + 1 + k)) by omega] at d0
    have lt : y_lt τ i k = y_lt σ i k := by unfold y_lt; rw [e14, w, d14, d0.1.1]
    have tu := z_kr_t K (x := y_lt σ i k) d0.2.2.1 d0.2.2.2
    rw [e14, w, lt]
    by_cases z : y_lt σ i k = σ.1 11
    · rw [if_neg (fun y => y.2 (tu.mpr z)), if_neg (fun y => y.2 z)]
    · by_cases u : σ.2.1 17 (σ.2.1 14 i + 1 + k) = -1
      · rw [if_neg (fun y => y.1 u), if_neg (fun y => y.1 u)]
      · rw [if_pos ⟨u, fun y => z (tu.mp y)⟩, if_pos ⟨u, z⟩]
theorem z_kr_r (K : z_kr σ τ) (J : n_J σ) {i : Int} (i0 : 0 ≤ i) (i5 : i < σ.1 5) : y_rt τ i = y_rt σ i ∨ (y_rt σ i < 0 ∧ (y_rt τ i < 0 ∨ σ.1 3 ≤ y_rt τ i)) := by
  obtain ⟨⟨_, e14, _⟩, tx, _⟩ := K.1 i i0 i5
  have s1 := (J i i0 i5).1.1.1
  have t0 := tx 0 (Int.le_refl _) (by omega)
  rw [show σ.2.1 14 i + 0 = σ.2.1 14 i by omega] at t0
  have tu := z_kr_t K t0.2.2.1 t0.2.2.2
  unfold y_rt
  rw [e14, t0.1.1]
  by_cases z : σ.2.1 16 (σ.2.1 14 i) = σ.1 11
  · rw [if_pos (tu.mpr z), if_pos z]
    rcases K.2.2.1 with w | ⟨w1, w2⟩
    · rw [w]
      by_cases p : 0 ≤ σ.1 10
      · rw [K.2.2.2.2.2 _ p (K.2.2.2.2.1 p)]; exact Or.inl rfl
      · rw [if_neg (fun q => p q.1), if_neg (fun q => p q.1)]; exact Or.inl rfl
    · rw [if_neg (show ¬ (0 ≤ σ.1 10 ∧ σ.2.1 8 (σ.1 10) = 0) by omega)]
      refine Or.inr ⟨by omega, ?_⟩
      by_cases q : 0 ≤ τ.1 10 ∧ τ.2.1 8 (τ.1 10) = 0
      · rw [if_pos q]; exact w2
      · rw [if_neg q]; exact Or.inl (by omega)
  · rw [if_neg (fun y => z (tu.mp y)), if_neg z]; exact Or.inl rfl
/-- only symbols stand in a chart -/
theorem z_nW (J : n_J σ) (hT : m_T σ) {i t : Int} {W V : Int → Int → Int → Prop} {ρ : Int → Int → Int → Int} (i0 : 0 ≤ i) (i5 : i < σ.1 5) (len : 1 < σ.2.1 15 i) (ch : y_CH i (σ.2.1 15 i - 1) (y_In σ) (y_hd σ) (y_nn σ) (y_f σ) (y_rw σ i) (y_lf σ i) W V ρ) (h : t < 0 ∨ σ.1 3 ≤ t) : ¬ W t 0 (σ.2.1 15 i - 1) := fun w => by
  rcases (ch.2 t 0 (σ.2.1 15 i - 1) (Int.le_refl _) (by omega) (Int.le_refl _)).1.mp w with ⟨_, b, c⟩ | ⟨r, c, _⟩
  · have u := z_lf_b J hT i0 i5 0 (Int.le_refl _) (by omega)
    omega
  · have s1 := (J r c.1.1 (by have := c.1.2; omega)).1.1.1
    have u := ((J r c.1.1 (by have := c.1.2; omega)).1.2.2 (σ.2.1 14 r) (Int.le_refl _) (by omega)).1
    have v : 0 ≤ σ.2.1 16 (σ.2.1 14 r) := (hT.2 16 _).1
    have e : σ.2.1 16 (σ.2.1 14 r) = t := c.2.2
    omega
theorem z_CHk (K : z_kr σ τ) (J : n_J σ) {i : Int} (i0 : 0 ≤ i) (i5 : i < σ.1 5) {row ls row' ls' : Int → Int} {W V : Int → Int → Int → Prop} {ρ : Int → Int → Int → Int} (er : ∀ k : Int, 0 ≤ k → k < σ.2.1 15 i - 1 → row' k = row k) (el : ∀ k : Int, 0 ≤ k → k < σ.2.1 15 i - 1 → ls' k = ls k) (ch : y_CH i (σ.2.1 15 i - 1) (y_In σ) (y_hd σ) (y_nn σ) (y_f σ) row ls W V ρ) : y_CH i (σ.2.1 15 i - 1) (y_In τ) (y_hd τ) (y_nn τ) (y_f τ) row' ls' W V ρ :=
  z_CH y_nn1 (fun r a b => by
    obtain ⟨_, w2, w3, w4⟩ := z_kr_f K J a (by omega)
    exact ⟨z_kr_I K J a (by omega), w2, w3, fun k c d => w4 k (by omega) d⟩) er el ch
/-- what is counted is kept over a reading -/
theorem z_CT (K : z_kr σ τ) (J : n_J σ) (hT : m_T σ) (hS : m_T τ) (CT : y_CT σ) (k94 : ∀ i : Int, i < σ.1 5 → τ.2.1 94 i = σ.2.1 94 i) (n94 : ∀ i : Int, σ.1 5 ≤ i → i < 1500 → τ.2.1 94 i = -1) (e7 : τ.2.2 7 = σ.2.2 7) : y_CT τ := fun i i0 i5 nz => by
  have l5 : τ.1 5 ≤ 1500 := (hS.1 5).2
  have h5 : i < σ.1 5 := by
    by_cases z : i < σ.1 5
    · exact z
    · exact absurd (n94 i (by omega) (by omega)) nz
  rw [k94 i h5] at nz ⊢
  obtain ⟨c1, ⟨c2, W, V, ρ, ch, g1, g2⟩, c3⟩ := CT i i0 h5 nz
  obtain ⟨⟨_, e14, e15, _⟩, _, _⟩ := K.1 i i0 h5
  have RT := z_kr_r K J i0 h5
  refine ⟨by rw [e15]; exact c1, ⟨c2, W, V, ρ, ?_, ?_, ?_⟩, fun z => ?_⟩
  · rw [e15]; exact z_CHk K J i0 h5 (z_kr_w K i0 h5) (z_kr_l K J i0 h5) ch
  · rw [e15]
    rcases RT with w | ⟨w1, w2⟩
    · rw [w]; exact g1
    · constructor
      · intro x
        obtain ⟨y1, y2⟩ := g1.mp x
        exact absurd y2 (z_nW J hT i0 h5 y1 ch (Or.inl w1))
      · rintro ⟨y1, y2⟩
        exact absurd y2 (z_nW J hT i0 h5 y1 ch w2)
  · rw [e15]
    rcases RT with w | ⟨w1, w2⟩
    · rw [w]; exact g2
    · constructor
      · intro x
        obtain ⟨y1, y2⟩ := g2.mp x
        exact absurd (ch.1 _ _ _ y2) (z_nW J hT i0 h5 y1 ch (Or.inl w1))
      · rintro ⟨y1, y2⟩
        exact absurd (ch.1 _ _ _ y2) (z_nW J hT i0 h5 y1 ch w2)
  · obtain ⟨row, ls, W, V, ρ, ⟨er, el⟩, ch, Z, ⟨len, zr⟩, zk⟩ := c3 z
    have chc := y_CH_x (row2 := y_rw σ i) (ls2 := y_lf σ i) (fun k a b => (er k a b).symm) (fun k a b => (el k a b).symm) ch
    have er' : y_rt τ i = y_rt σ i := by
      rcases RT with w | ⟨w1, _⟩
      · exact w
      · exact absurd (zk _ _ _ zr).1.2.1 (z_nW J hT i0 h5 len chc (Or.inl w1))
    refine ⟨row, ls, W, V, ρ, ⟨fun k a b => ?_, fun k a b => ?_⟩, ?_, Z, ?_, fun t p q hz => ?_⟩
    · rw [e15] at b; rw [er k a b, z_kr_w K i0 h5 k a b]
    · rw [e15] at b; rw [el k a b, z_kr_l K J i0 h5 k a b]
    · rw [e15]; exact z_CHk K J i0 h5 (fun _ _ _ => rfl) (fun _ _ _ => rfl) ch
    · rw [e15, er']; exact ⟨len, zr⟩
    · obtain ⟨a1, a2⟩ := zk t p q hz
      rw [e15]
      refine ⟨a1, ?_⟩
      rcases a2 with a2 | ⟨r, cr, rb, D, d1, d2⟩
      · exact Or.inl a2
      · obtain ⟨_, w2, w3, w4⟩ := z_kr_f K J cr.1.1 (by have := cr.1.2; omega)
        have n1 := y_nn1 _ cr.2.1
        refine Or.inr ⟨r, ⟨cr.1, (z_kr_I K J cr.1.1 (by have := cr.1.2; omega)).mpr cr.2.1, by rw [w2]; exact cr.2.2⟩, by rw [e7]; exact rb, D, ?_, ?_⟩
        · rw [w3]
          refine ⟨d1.1, d1.2.1, fun m m0 m1 => ?_⟩
          rw [w4 (m + 1) (by omega) (by omega)]
          exact d1.2.2 m m0 m1
        · intro m m0 m1 mf
          rw [w3] at m1
          rw [w4 (m + 1) (by omega) (by omega)] at mf ⊢
          exact d2 m m0 m1 mf
theorem z_EQ (K : z_kr σ τ) (J : n_J σ) (hS : m_T τ) (EQ : y_EQ σ) (k96 : ∀ i : Int, i < σ.1 5 → τ.2.1 96 i = σ.2.1 96 i) (n96 : ∀ i : Int, σ.1 5 ≤ i → i < 1500 → τ.2.1 96 i = 0) : y_EQ τ := fun r r0 r5 nz => by
  have l5 : τ.1 5 ≤ 1500 := (hS.1 5).2
  have h5 : r < σ.1 5 := by
    by_cases z : r < σ.1 5
    · exact z
    · exact absurd (n96 r (by omega) (by omega)) nz
  rw [k96 r h5] at nz
  obtain ⟨a, b⟩ := EQ r r0 h5 nz
  obtain ⟨⟨_, e14, e15, _⟩, tx, _⟩ := K.1 r r0 h5
  refine ⟨(z_kr_f K J r0 h5).1.mpr a, ?_⟩
  rw [e15, ← b]
  refine sm_x (fun k k0 k1 => ?_)
  have w := (tx k k0 k1).1
  unfold y_vq
  rw [e14, w.1, w.2.2]
/-- all that is kept of trees, behind a reading -/
theorem z_BI_k (J : n_J σ) (M : m_J σ) (g : n_kp σ τ) (rl : n_rl σ τ) (hT : m_T σ) (hS : m_T τ) (n : n_tu (σ.1 3) (σ.1 10) (σ.1 11) (σ.2.1 1) (σ.2.1 2) (σ.2.1 3)) (m : n_tu (τ.1 3) (τ.1 10) (τ.1 11) (τ.2.1 1) (τ.2.1 2) (τ.2.1 3)) (nm : n_nm (σ.1 3) (σ.1 2) (σ.2.1 2) (σ.2.1 3)) (rc : n_rc σ τ) (BI : y_BI σ σ) (J' : n_J τ) (M' : m_J τ)
    (kp : ∀ i : Int, i < σ.1 5 → τ.2.1 94 i = σ.2.1 94 i ∧ τ.2.1 96 i = σ.2.1 96 i) (nw : ∀ i : Int, σ.1 5 ≤ i → i < 1500 → τ.2.1 94 i = -1 ∧ τ.2.1 96 i = 0) (df : ∀ i : Int, 0 ≤ i → i < 1500 → τ.2.1 95 i = -9) (e7 : τ.2.2 7 = σ.2.2 7) (e49 : τ.1 49 = 0) (e51 : τ.1 51 = σ.1 51) (e52 : τ.1 52 = σ.1 52) : y_BI τ τ := by
  have K := z_kr_mk J M g rl hT n m nm rc
  have l5 : τ.1 5 ≤ 1500 := (hS.1 5).2
  exact y_BI_0 (z_CT K J hT hS BI.1.1 (fun i a => (kp i a).1) (fun i a b => (nw i a b).1) e7) (fun j j0 j5 z => absurd (df j j0 (by omega)) z) (z_EQ K J hS BI.1.2.2.2.2 (fun i a => (kp i a).2) (fun i a b => (nw i a b).2)) (Or.inl e49) J' M' (by rw [e51, e52]; exact BI.2.2.2.2)
end
