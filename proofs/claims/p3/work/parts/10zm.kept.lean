-- pure: what the class keeps of rules and definitions is kept over reading
def c_kp (σ τ : S0) : Prop := (∀ r : Int, 0 ≤ r → r < σ.1 7 → τ.2.1 13 r = σ.2.1 13 r ∧ τ.2.1 14 r = σ.2.1 14 r ∧ τ.2.1 14 (r + 1) = σ.2.1 14 (r + 1) ∧ τ.2.1 27 r = σ.2.1 27 r ∧ τ.2.1 28 r = σ.2.1 28 r) ∧ (∀ p : Int, p < σ.1 6 → τ.2.1 15 p = σ.2.1 15 p ∧ τ.2.1 16 p = σ.2.1 16 p) ∧ (∀ q : Int, q < σ.1 13 → τ.2.1 29 q = σ.2.1 29 q) ∧ j_rr (σ.1 5) (σ.2.1 10) (τ.2.1 10)
theorem c_kp_ag {σ τ : S0} (g : c_ag σ τ) (rr : j_rr (σ.1 5) (σ.2.1 10) (τ.2.1 10)) : c_kp σ τ :=
  ⟨fun r r0 r1 => ⟨ag_k g 13 7 0 (by decide) r (by omega), ag_k g 14 7 1 (by decide) r (by omega), ag_k g 14 7 1 (by decide) (r + 1) (by omega), ag_k g 27 7 0 (by decide) r (by omega), ag_k g 28 7 0 (by decide) r (by omega)⟩, fun p h => ⟨ag_k g 15 6 0 (by decide) p (by omega), ag_k g 16 6 0 (by decide) p (by omega)⟩, fun q h => ag_k g 29 13 0 (by decide) q (by omega), rr⟩
/-- a statement's sort -/
theorem kp_s {σ τ : S0} (k : c_kp σ τ) (hJ : c_J σ) (tv : J_vs (σ.1 6) (σ.1 5) (σ.2.1 15)) (t0 : ∀ p, 0 ≤ σ.2.1 15 p) (a0 : ∀ p, 0 ≤ σ.2.1 14 p) {f : Int} (f0 : 0 ≤ f) (f1 : f < σ.1 7) : τ.2.1 15 (τ.2.1 14 f) = σ.2.1 15 (σ.2.1 14 f) ∧ τ.2.1 10 (σ.2.1 15 (σ.2.1 14 f)) = σ.2.1 10 (σ.2.1 15 (σ.2.1 14 f)) := by
  obtain ⟨j1, j2, _⟩ := (hJ.1 f f0 f1).1
  rw [(k.1 f f0 f1).2.1]
  have hp : σ.2.1 14 f < σ.1 6 := by omega
  exact ⟨(k.2.1 _ hp).1, k.2.2.2 _ (t0 _) (tv _ (a0 _) hp) j2⟩
theorem kp_h {σ τ : S0} (k : c_kp σ τ) (hJ : c_J σ) (y0 : ∀ p, 0 ≤ σ.2.1 29 p) {r j : Int} (r0 : 0 ≤ r) (r1 : r < σ.1 7) (rf : g_rf r (σ.2.1 13) (σ.2.1 14) (σ.2.1 27) (σ.2.1 28) (σ.2.1 29)) (j0 : 0 ≤ j) (j1 : j < σ.2.1 28 r) : τ.2.1 29 (τ.2.1 27 r + j) = σ.2.1 29 (σ.2.1 27 r + j) ∧ 0 ≤ σ.2.1 29 (σ.2.1 27 r + j) ∧ σ.2.1 29 (σ.2.1 27 r + j) < r ∧ σ.2.1 13 (σ.2.1 29 (σ.2.1 27 r + j)) = 0 := by
  obtain ⟨b1, b2, _⟩ := (hJ.1 r r0 r1).2.1 (by have := rf.1; omega)
  rw [(k.1 r r0 r1).2.2.2.1]
  exact ⟨k.2.2.1 _ (by omega), y0 _, (b2 j j0 j1).1, rf.2.2.2 j j0 j1⟩
theorem kp_sk {σ τ : S0} (k : c_kp σ τ) (hJ : c_J σ) (tv : J_vs (σ.1 6) (σ.1 5) (σ.2.1 15)) (t0 : ∀ p, 0 ≤ σ.2.1 15 p) (a0 : ∀ p, 0 ≤ σ.2.1 14 p) {r j : Int} (r0 : 0 ≤ r) (r1 : r < σ.1 7) (j0 : 0 ≤ j) (j1 : j < σ.2.1 14 (r + 1) - σ.2.1 14 r - 1) : j_sk (τ.2.1 14) (τ.2.1 15) (τ.2.1 16) (τ.2.1 10) r j = j_sk (σ.2.1 14) (σ.2.1 15) (σ.2.1 16) (σ.2.1 10) r j := by
  obtain ⟨t1, t2, t3⟩ := (hJ.1 r r0 r1).1
  have hp : σ.2.1 14 r + 1 + j < σ.1 6 := by omega
  unfold j_sk
  rw [(k.1 r r0 r1).2.1, (k.2.1 _ hp).1, (k.2.1 _ hp).2]
  by_cases z : σ.2.1 16 (σ.2.1 14 r + 1 + j) = -1
  · rw [if_pos z, if_pos z]
  · rw [if_neg z, if_neg z]
    obtain q | ⟨q1, q2, _⟩ := t3 (σ.2.1 14 r + 1 + j) (by omega) (by omega)
    · exact absurd q z
    · have w := kp_s k hJ tv t0 a0 q1 (by omega)
      rw [w.1, w.2]
theorem kp_rf {σ τ : S0} (k : c_kp σ τ) (hJ : c_J σ) (y0 : ∀ p, 0 ≤ σ.2.1 29 p) {r : Int} (r0 : 0 ≤ r) (r1 : r < σ.1 7) (rf : g_rf r (σ.2.1 13) (σ.2.1 14) (σ.2.1 27) (σ.2.1 28) (σ.2.1 29)) : g_rf r (τ.2.1 13) (τ.2.1 14) (τ.2.1 27) (τ.2.1 28) (τ.2.1 29) := by
  obtain ⟨k1, k2, k3, k4, k5⟩ := k.1 r r0 r1
  refine ⟨by rw [k1]; exact rf.1, by rw [k2, k3]; exact rf.2.1, by rw [k2, k3]; exact rf.2.2.1, fun j j0 j1 => ?_⟩
  rw [k5] at j1
  have w := kp_h k hJ y0 r0 r1 rf j0 j1
  rw [w.1, (k.1 _ w.2.1 (by omega)).1]
  exact w.2.2.2
theorem kp_nv {σ τ : S0} (k : c_kp σ τ) (hJ : c_J σ) {r : Int} (r0 : 0 ≤ r) (r1 : r < σ.1 7) (nv : g_nv r (σ.2.1 14) (σ.2.1 15) (σ.2.1 16)) : g_nv r (τ.2.1 14) (τ.2.1 15) (τ.2.1 16) := by
  obtain ⟨_, k2, k3, _, _⟩ := k.1 r r0 r1
  have t1 := (hJ.1 r r0 r1).1.1
  intro i j i0 ij j1
  rw [k2, k3] at j1
  rw [k2, (k.2.1 (σ.2.1 14 r + 1 + i) (by omega)).1, (k.2.1 (σ.2.1 14 r + 1 + i) (by omega)).2, (k.2.1 (σ.2.1 14 r + 1 + j) (by omega)).1, (k.2.1 (σ.2.1 14 r + 1 + j) (by omega)).2]
  exact nv i j i0 ij j1
/-- names -/
theorem kp_p1 {σ τ : S0} (nm : j_nm σ τ) (g : c_ag σ τ) (k : c_kp σ τ) (hJ : c_J σ) (mn : J_mn (σ.1 3) (σ.1 5) (σ.1 7 + 1) (σ.2.1 4)) (tv : J_vs (σ.1 6) (σ.1 5) (σ.2.1 15)) (t0 : ∀ p, 0 ≤ σ.2.1 15 p) (a0 : ∀ p, 0 ≤ σ.2.1 14 p) {r : Int} (r0 : 0 ≤ r) (r1 : r < σ.1 7) (p : g_p1 σ r) : g_p1 τ r := by
  obtain ⟨n1, n2, n3, n4, n5⟩ := nm
  obtain ⟨t1, t2, t3⟩ := (hJ.1 r r0 r1).1
  have tl := tv (σ.2.1 14 r) (a0 _) (by omega)
  have e1 := (kp_s k hJ tv t0 a0 r0 r1).1
  intro n m0 m1 s l m v
  rw [e1]
  by_cases z : n < σ.1 3
  · have w := n3 n m0 z
    rw [w.1] at m v ⊢
    have mb := mn n m0 z
    refine p n m0 z ((w.2 _ _).mp s) (fun x a b q => l x a (by omega) (((n3 x (by omega) b).2 _ _).mpr q)) m ?_
    rw [← ag_k g 8 5 0 (by decide) (-1 - σ.2.1 4 n) (by omega)]; exact v
  · have w := n4 n m0 (by omega) m1
    intro q; omega
theorem kp_pe {σ τ : S0} (nm : j_nm σ τ) (g : c_ag σ τ) (mn : J_mn (σ.1 3) (σ.1 5) (σ.1 7 + 1) (σ.2.1 4)) {x : Int} (x0 : 0 ≤ x) (p : g_pe σ x) : g_pe τ x := by
  obtain ⟨n1, n2, n3, n4, n5⟩ := nm
  obtain ⟨n, ⟨a, b⟩, c, d, e, f⟩ := p
  have w := n3 n a b
  have mb := mn n a b
  refine ⟨n, ⟨a, by omega⟩, (w.2 _ _).mpr c, fun m m0 m1 q => ?_, by rw [w.1]; exact e, by rw [ag_k g 8 5 0 (by decide) x (by omega)]; exact f⟩
  by_cases z : m < σ.1 3
  · exact d m m0 z (((n3 m (by omega) z).2 _ _).mp q)
  · exact n5 n m a b (by omega) m1 _ _ ((w.2 _ _).mpr c) q
theorem kp_we {σ τ : S0} (nm : j_nm σ τ) (g : c_ag σ τ) (mn : J_mn (σ.1 3) (σ.1 5) (σ.1 7 + 1) (σ.2.1 4)) {x : Int} (x0 : 0 ≤ x) (p : g_we σ x) : g_we τ x := by
  obtain ⟨n1, n2, n3, n4, n5⟩ := nm
  obtain ⟨n, ⟨a, b⟩, c, d, e, f⟩ := p
  have w := n3 n a b
  have mb := mn n a b
  refine ⟨n, ⟨a, by omega⟩, (w.2 _ _).mpr c, fun m m0 m1 q => ?_, by rw [w.1]; exact e, by rw [ag_k g 8 5 0 (by decide) x (by omega)]; exact f⟩
  by_cases z : m < σ.1 3
  · exact d m m0 z (((n3 m (by omega) z).2 _ _).mp q)
  · exact n5 n m a b (by omega) m1 _ _ ((w.2 _ _).mpr c) q
theorem kp_rk {σ τ : S0} (k : c_kp σ τ) (h5 : σ.1 5 ≤ τ.1 5) (r4 : 0 ≤ τ.1 4) (h : J_rks (σ.1 5) (σ.1 4) (σ.2.1 10) (σ.2.1 11)) (h' : J_rks (τ.1 5) (τ.1 4) (τ.2.1 10) (τ.2.1 11)) : σ.1 4 ≤ τ.1 4 := by
  by_cases z : σ.1 4 ≤ 0
  · omega
  · obtain ⟨a, b, c⟩ := h.1 (σ.1 4 - 1) (by omega) (by omega)
    have d := k.2.2.2 (σ.2.1 11 (σ.1 4 - 1)) a b (by omega)
    have e := (h'.2 (σ.2.1 11 (σ.1 4 - 1)) a (by omega)).1
    omega
/-- the learned rules -/
theorem kp_Ug {σ τ : S0} {l : Int} {par nof : Int → Int} {In : Int → Prop} (h : c_Ug l σ par nof In) (l7 : l ≤ σ.1 7) (k : c_kp σ τ) (g : c_ag σ τ) (nm : j_nm σ τ) (hJ : c_J σ) (mn : J_mn (σ.1 3) (σ.1 5) (σ.1 7 + 1) (σ.2.1 4)) (tv : J_vs (σ.1 6) (σ.1 5) (σ.2.1 15)) (t0 : ∀ p, 0 ≤ σ.2.1 15 p) (a0 : ∀ p, 0 ≤ σ.2.1 14 p) (y0 : ∀ p, 0 ≤ σ.2.1 29 p) (r4 : σ.1 4 ≤ τ.1 4) (w45 : τ.1 45 = σ.1 45) (w46 : τ.1 46 = σ.1 46) (gg : ∀ i, i ∈ [67, 68, 69, 70, 71, 72, 73, 74, 75, 76] → τ.2.1 i = σ.2.1 i) : c_Ug l τ par nof In := by
  obtain ⟨h1, h2, h3, h4, h5⟩ := h
  have inb : ∀ r : Int, In r → 0 ≤ r ∧ r < σ.1 7 := fun r hr => by have := (h2.2.1 r hr).1; omega
  refine ⟨?_, ?_, ?_, fun r hr => ⟨kp_p1 nm g k hJ mn tv t0 a0 (inb r hr).1 (inb r hr).2 (h4 r hr).1, kp_nv k hJ (inb r hr).1 (inb r hr).2 (h4 r hr).2⟩, fun c a b z => ?_⟩
  · rw [w45, gg 67 (by decide), gg 68 (by decide), gg 69 (by decide), gg 73 (by decide), gg 74 (by decide)]; exact h1
  · rw [w45, gg 69 (by decide), gg 70 (by decide), gg 71 (by decide), gg 72 (by decide)]
    refine ⟨h2.1, fun r hr => ?_, h2.2.2⟩
    obtain ⟨b1, b2, b3, ⟨π, p0, p1, p2⟩, b5⟩ := h2.2.1 r hr
    obtain ⟨i0, i1⟩ := inb r hr
    obtain ⟨k1, k2, k3, k4, k5⟩ := k.1 r i0 i1
    refine ⟨b1, kp_rf k hJ y0 i0 i1 b2, b3, ?_, b5⟩
    rw [k2, k3]
    refine ⟨π, p0, p1, fun j j0 j1 => ?_⟩
    rw [kp_sk k hJ tv t0 a0 i0 i1 j0 j1]
    exact p2 j j0 j1
  · rw [w46, gg 75 (by decide), gg 76 (by decide)]
    obtain ⟨u1, u2, u3, u4⟩ := h3
    refine ⟨fun u x y => ?_, u2, fun r hr e1 e2 => ?_, u4⟩
    · obtain ⟨v1, v2, v3, v4⟩ := u1 u x y
      obtain ⟨i0, i1⟩ := inb _ v1
      obtain ⟨k1, k2, k3, k4, k5⟩ := k.1 _ i0 i1
      obtain ⟨t1, t2, t3⟩ := (hJ.1 _ i0 i1).1
      have hp : σ.2.1 14 (σ.2.1 75 u) + 1 < σ.1 6 := by omega
      rw [k2, k3, (k.2.1 _ hp).2]
      obtain q | ⟨q1, q2, _⟩ := t3 (σ.2.1 14 (σ.2.1 75 u) + 1) (by omega) (by omega)
      · omega
      · have w := kp_s k hJ tv t0 a0 q1 (by omega)
        rw [w.1, w.2]
        exact ⟨v1, v2, v3, v4⟩
    · obtain ⟨i0, i1⟩ := inb _ hr
      obtain ⟨k1, k2, k3, k4, k5⟩ := k.1 _ i0 i1
      obtain ⟨t1, t2, t3⟩ := (hJ.1 _ i0 i1).1
      rw [k2, k3] at e1
      rw [k2, (k.2.1 (σ.2.1 14 r + 1) (by omega)).2] at e2
      exact u3 r hr e1 e2
  · rw [w45] at b
    rw [gg 69 (by decide)] at z ⊢
    have := h5 c a b z
    omega
theorem kp_T {σ τ : S0} (k : c_kp σ τ) (hJ : c_J σ) (tv : J_vs (σ.1 6) (σ.1 5) (σ.2.1 15)) (t0 : ∀ p, 0 ≤ σ.2.1 15 p) (a0 : ∀ p, 0 ≤ σ.2.1 14 p) (y0 : ∀ p, 0 ≤ σ.2.1 29 p) {In : Int → Prop} (ir : ∀ r : Int, In r → (0 ≤ r ∧ r < σ.1 7) ∧ g_rf r (σ.2.1 13) (σ.2.1 14) (σ.2.1 27) (σ.2.1 28) (σ.2.1 29)) {i p s e : Int} {L : List Int} (i0 : 0 ≤ i) (i1 : i < σ.1 7)
    (h : g_T (σ.2.1 14 (i + 1) - σ.2.1 14 i - 1) i p (fun q => σ.2.1 15 (σ.2.1 14 i + 1 + q)) (fun q => σ.2.1 16 (σ.2.1 14 i + 1 + q)) (σ.2.1 13) (σ.2.1 14) (σ.2.1 15) (σ.2.1 16) (σ.2.1 10) (σ.2.1 27) (σ.2.1 28) (σ.2.1 29) In s 0 e L) :
    g_T (τ.2.1 14 (i + 1) - τ.2.1 14 i - 1) i p (fun q => τ.2.1 15 (τ.2.1 14 i + 1 + q)) (fun q => τ.2.1 16 (τ.2.1 14 i + 1 + q)) (τ.2.1 13) (τ.2.1 14) (τ.2.1 15) (τ.2.1 16) (τ.2.1 10) (τ.2.1 27) (τ.2.1 28) (τ.2.1 29) In s 0 e L := by
  obtain ⟨ti1, ti2, ti3⟩ := (hJ.1 i i0 i1).1
  obtain ⟨_, ka, kb, _, _⟩ := k.1 i i0 i1
  rw [ka, kb]
  have pos : ∀ q : Int, 0 ≤ q → q < σ.2.1 14 (i + 1) - σ.2.1 14 i - 1 → σ.2.1 14 i + 1 + q < σ.1 6 := fun q a b => by omega
  refine g_T_t (fun q hq => ?_) (fun r i' e' D o hq => ?_) h
  · obtain ⟨⟨q0, q1⟩, l0, lk, lp⟩ := hq
    have hp := pos q q0 q1
    have e1 := (k.2.1 _ hp).2
    have l0' : 0 ≤ σ.2.1 16 (σ.2.1 14 i + 1 + q) := l0
    obtain z | ⟨z1, z2, _⟩ := ti3 (σ.2.1 14 i + 1 + q) (by omega) (by omega)
    · omega
    · have w := kp_s k hJ tv t0 a0 z1 (by omega)
      have kf := k.1 _ z1 (show σ.2.1 16 (σ.2.1 14 i + 1 + q) < σ.1 7 by omega)
      refine ⟨⟨⟨q0, q1⟩, ?_, ?_, ?_⟩, e1, ?_⟩
      · show 0 ≤ τ.2.1 16 (σ.2.1 14 i + 1 + q); rw [e1]; exact l0
      · show τ.2.1 13 (τ.2.1 16 (σ.2.1 14 i + 1 + q)) = 0; rw [e1, kf.1]; exact lk
      · show ¬ τ.2.1 15 (τ.2.1 14 (τ.2.1 16 (σ.2.1 14 i + 1 + q))) = p; rw [e1, w.1]; exact lp
      · show τ.2.1 10 (τ.2.1 15 (τ.2.1 14 (σ.2.1 16 (σ.2.1 14 i + 1 + q)))) = _; rw [w.1, w.2]
  · obtain ⟨⟨r0, r1⟩, rf⟩ := ir r hq.1.1
    have ub := g_Tr_u hq rf.2.1
    have md := g_Tr_m hq
    obtain ⟨h12, h3, d0, d1, d2, h4, h5, h6⟩ := hq
    obtain ⟨t1, t2, t3⟩ := (hJ.1 r r0 r1).1
    obtain ⟨k1, k2, k3, k4, k5⟩ := k.1 r r0 r1
    have pr : ∀ j : Int, 0 ≤ j → j < σ.2.1 14 (r + 1) - σ.2.1 14 r - 1 → σ.2.1 14 r + 1 + j < σ.1 6 := fun q a b => by omega
    have hh := fun (j : Int) (j0 : 0 ≤ j) (j1 : j < σ.2.1 28 r) => kp_h k hJ y0 r0 r1 rf j0 j1
    have sr := kp_s k hJ tv t0 a0 r0 r1
    refine ⟨⟨h12, h3, d0, by rw [k2, k3]; exact d1, fun j j0 j1 => ?_, fun z => ?_, fun kk x0 x1 => ?_, fun j j0 j1 jf => ?_⟩, k5, by rw [sr.1, sr.2], fun kk x0 x1 => ?_⟩
    · rw [k2, k3] at j1
      have w := d2 j j0 j1
      refine ⟨w.1, w.2.1, fun z => ?_⟩
      rw [k2, (k.2.1 _ (pr j j0 j1)).2] at z
      have v := w.2.2 z
      have m := md j.toNat (by omega)
      rw [show (j.toNat : Int) = j from by omega] at m
      refine ⟨v.1, ?_⟩
      show τ.2.1 15 (σ.2.1 14 i + 1 + D j) = _
      rw [(k.2.1 _ (pos (D j) (by omega) (by omega))).1, k2, (k.2.1 _ (pr j j0 j1)).1]
      exact v.2
    · have hp : σ.2.1 14 r + 1 < σ.1 6 := by have := rf.2.1; omega
      rw [k2, (k.2.1 _ hp).2] at z
      show τ.2.1 16 (σ.2.1 14 i + 1 + i') = -1
      rw [(k.2.1 _ (pos i' h3 (by omega))).2]
      exact h4 z
    · rw [k5] at x1
      obtain ⟨⟨o0, o1⟩, w2, w3, w4⟩ := h5 kk x0 x1
      have y := hh kk x0 x1
      have kf := k.1 _ y.2.1 (show σ.2.1 29 (σ.2.1 27 r + kk) < σ.1 7 by omega)
      have tf := (hJ.1 _ y.2.1 (show σ.2.1 29 (σ.2.1 27 r + kk) < σ.1 7 by omega)).1.1
      have tf2 := tf.2.2.2.1 y.2.2.2
      rw [k2, k3, (k.2.1 _ (pr (o kk) o0 o1)).2, (k.2.1 _ (pr (o kk) o0 o1)).1, y.1, kf.2.1, (k.2.1 (σ.2.1 14 (σ.2.1 29 (σ.2.1 27 r + kk)) + 1) (by omega)).1]
      exact ⟨⟨o0, o1⟩, w2, w3, w4⟩
    · rw [k2, k3] at j1
      rw [k2, (k.2.1 _ (pr j j0 j1)).2] at jf
      obtain ⟨kk, x0, x1, x2⟩ := h6 j j0 j1 jf
      exact ⟨kk, x0, by rw [k5]; exact x1, x2⟩
    · have y := hh kk x0 x1
      have w := kp_s k hJ tv t0 a0 y.2.1 (by omega)
      rw [y.1, w.1, w.2]
theorem kp_pp {σ τ : S0} (k : c_kp σ τ) (hJ : c_J σ) (y0 : ∀ p, 0 ≤ σ.2.1 29 p) {sz ft : Int} {ru : Int → Int} (nd : ∀ j : Int, 0 ≤ j → j < sz → 0 ≤ ru j ∧ ru j < σ.1 7) (s1 : 1 ≤ sz) (h : g_pp sz ft (σ.2.1 13) (σ.2.1 14) (σ.2.1 16) (σ.2.1 27) (σ.2.1 28) (σ.2.1 29) ru) : g_pp sz ft (τ.2.1 13) (τ.2.1 14) (τ.2.1 16) (τ.2.1 27) (τ.2.1 28) (τ.2.1 29) ru := by
  obtain ⟨h1, h2, p, l, ⟨v1, v2, v3⟩, ⟨b1, b2, b3⟩, h5, h6⟩ := h
  obtain ⟨r0, r1⟩ := nd 0 (Int.le_refl _) (by omega)
  obtain ⟨k1, k2, k3, k4, k5⟩ := k.1 _ r0 r1
  obtain ⟨t1, t2, t3⟩ := (hJ.1 _ r0 r1).1
  obtain ⟨f1, _⟩ := (hJ.1 _ r0 r1).2.1 (by omega)
  have nar : ∀ m : Int, m ≤ sz → sm (g_nar (τ.2.1 13) (τ.2.1 28) ru) m = sm (g_nar (σ.2.1 13) (σ.2.1 28) ru) m := fun m hm => sm_x (fun j j0 j1 => by
    obtain ⟨n0, n1⟩ := nd j j0 (by omega)
    obtain ⟨q1, _, _, _, q5⟩ := k.1 _ n0 n1
    unfold g_nar
    rw [q1, q5])
  have pu : p < σ.1 6 ∨ ¬ p < σ.2.1 14 (ru 0 + 1) - 1 := by omega
  have pl : p < σ.1 6 := by omega
  refine ⟨by rw [k1]; exact h1, by rw [k5]; exact h2, p, l, ⟨by rw [k2, k3]; exact v1, fun j j0 j1 => ?_, fun z => ?_⟩, ⟨b1, by rw [nar l (by omega), nar 1 (by omega)]; exact b2, fun m m0 m1 => by rw [nar m (by omega), nar 1 (by omega)]; exact b3 m m0 m1⟩, h5, ?_⟩
  · rw [k2] at j0
    rw [(k.2.1 j (by omega)).2]; exact v2 j j0 j1
  · rw [k3] at z
    rw [(k.2.1 p pl).2]; exact v3 z
  · rw [k4, k.2.2.1 _ (by omega), (k.2.1 p pl).2]; exact h6
theorem kp_fx {σ τ : S0} (k : c_kp σ τ) (hJ : c_J σ) {sz ft u : Int} {ru : Int → Int} (nd : ∀ j : Int, 0 ≤ j → j < sz → 0 ≤ ru j ∧ ru j < σ.1 7) (f0 : 0 ≤ ft) (fu : ft + u ≤ sz) (h : g_fx ft u (σ.2.1 13) (σ.2.1 14) (σ.2.1 15) ru) : g_fx ft u (τ.2.1 13) (τ.2.1 14) (τ.2.1 15) ru := by
  have v : ∀ j : Int, 1 ≤ j → j < u → τ.2.1 13 (ru (ft + j)) = σ.2.1 13 (ru (ft + j)) ∧ τ.2.1 15 (τ.2.1 14 (ru (ft + j)) + 1) = σ.2.1 15 (σ.2.1 14 (ru (ft + j)) + 1) := fun j j0 j1 => by
    obtain ⟨n0, n1⟩ := nd (ft + j) (by omega) (by omega)
    obtain ⟨q1, q2, _⟩ := k.1 _ n0 n1
    have t := (hJ.1 _ n0 n1).1.1
    have t2 := t.2.2.2.1 (h j j0 j1).1
    exact ⟨q1, by rw [q2, (k.2.1 _ (by omega)).1]⟩
  intro j j0 j1
  obtain ⟨a, b⟩ := h j j0 j1
  refine ⟨by rw [(v j j0 j1).1]; exact a, fun x x0 x1 => ?_⟩
  rw [(v x x0 (by omega)).2, (v j j0 j1).2]
  exact b x x0 x1
theorem kp_DT {σ τ : S0} (k : c_kp σ τ) (g : c_ag σ τ) (nm : j_nm σ τ) (hJ : c_J σ) (mn : J_mn (σ.1 3) (σ.1 5) (σ.1 7 + 1) (σ.2.1 4)) (tv : J_vs (σ.1 6) (σ.1 5) (σ.2.1 15)) (t0 : ∀ p, 0 ≤ σ.2.1 15 p) (a0 : ∀ p, 0 ≤ σ.2.1 14 p) (y0 : ∀ p, 0 ≤ σ.2.1 29 p) (f0 : ∀ p, 0 ≤ σ.2.1 28 p) {In : Int → Prop} (ir : ∀ r : Int, In r → (0 ≤ r ∧ r < σ.1 7) ∧ g_rf r (σ.2.1 13) (σ.2.1 14) (σ.2.1 27) (σ.2.1 28) (σ.2.1 29)) {i x : Int} (i0 : 0 ≤ i) (i1 : i < σ.1 7) (h : c_DT In σ i x) : c_DT In τ i x := by
  obtain ⟨h1, p, w, sz, ft, ru, ⟨a1, a2, a3, a4, a5⟩, ⟨s1, nd⟩, c, d1, ⟨d2, d3⟩, d4, d5, d6⟩ := h
  obtain ⟨k1, k2, k3, k4, k5⟩ := k.1 i i0 i1
  have v7 := g.1 7 (by decide)
  obtain ⟨r0, r1⟩ := nd ft d2 (by have := f0 (ru ft); omega)
  obtain ⟨q1, q2, q3, q4, q5⟩ := k.1 _ r0 r1
  have wr : 0 ≤ σ.2.1 10 w := by
    rcases g_T_i c with ⟨hl, es, _⟩ | ⟨r, D, o, Ls, hr, _, es, _⟩
    · obtain ⟨⟨z0, z1⟩, l0, lk, lp⟩ := hl
      obtain ⟨ti1, ti2, ti3⟩ := (hJ.1 i i0 i1).1
      have l0' : 0 ≤ σ.2.1 16 (σ.2.1 14 i + 1 + 0) := l0
      rcases ti3 (σ.2.1 14 i + 1 + 0) (by omega) (by omega) with y | ⟨y1, y2, _⟩
      · omega
      · rw [es]; exact (hJ.1 _ y1 (show σ.2.1 16 (σ.2.1 14 i + 1 + 0) < σ.1 7 by omega)).1.2.1
    · obtain ⟨⟨b0, b1⟩, _⟩ := ir r hr.1.1
      rw [es]; exact (hJ.1 r b0 b1).1.2.1
  have w5 : w < σ.1 5 := by
    obtain ⟨n, ⟨b0, b1⟩, _, _, b2, _⟩ := a2
    have := mn n b0 b1; omega
  refine ⟨by rw [k2, k3]; exact h1, p, w, sz, ft, ru, ⟨kp_pe nm g mn a4 a1, kp_we nm g mn a5 a2, by rw [(kp_s k hJ tv t0 a0 i0 i1).1]; exact a3, a4, a5⟩, ⟨s1, fun j b0 b1 => ⟨(nd j b0 b1).1, by have := (nd j b0 b1).2; omega⟩⟩, ?_, kp_pp k hJ y0 nd s1 d1, ⟨d2, by rw [q5]; exact d3⟩, d4, by rw [q1]; exact d5, by rw [q5]; exact kp_fx k hJ nd d2 (by omega) d6⟩
  rw [k.2.2.2 w a5 w5 wr]
  have T := kp_T k hJ tv t0 a0 y0 ir i0 i1 c
  have le : τ.2.1 14 (i + 1) - τ.2.1 14 i - 1 = σ.2.1 14 (i + 1) - σ.2.1 14 i - 1 := by rw [k2, k3]
  rw [le] at T ⊢
  exact T
theorem kp_Uk {σ τ : S0} {l : Int} {In0 : Int → Prop} (h : c_Uk l In0 σ) (l7 : l ≤ σ.1 7) (k : c_kp σ τ) (g : c_ag σ τ) (nm : j_nm σ τ) (hJ : c_J σ) (mn : J_mn (σ.1 3) (σ.1 5) (σ.1 7 + 1) (σ.2.1 4)) (tv : J_vs (σ.1 6) (σ.1 5) (σ.2.1 15)) (t0 : ∀ p, 0 ≤ σ.2.1 15 p) (a0 : ∀ p, 0 ≤ σ.2.1 14 p) (y0 : ∀ p, 0 ≤ σ.2.1 29 p) (r4 : σ.1 4 ≤ τ.1 4) (w45 : τ.1 45 = σ.1 45) (w46 : τ.1 46 = σ.1 46) (gg : ∀ i, i ∈ [67, 68, 69, 70, 71, 72, 73, 74, 75, 76] → τ.2.1 i = σ.2.1 i) : c_Uk l In0 τ := by
  obtain ⟨par, nof, In, hU, hI⟩ := h
  exact ⟨par, nof, In, kp_Ug hU l7 k g nm hJ mn tv t0 a0 y0 r4 w45 w46 gg, hI⟩
/-- all that the class keeps of rules, chart and definitions stays over a change that keeps statements and names -/
theorem kp_all {σ τ : S0} {In0 : Int → Prop} {lb : Nat} (gm : c_GM In0 σ) (ds : c_DS In0 σ) (db : c_DB lb σ) (g : c_ag σ τ) (rr : j_rr (σ.1 5) (σ.2.1 10) (τ.2.1 10)) (nm : j_nm σ τ) (hJ : c_J σ) (mn : J_mn (σ.1 3) (σ.1 5) (σ.1 7 + 1) (σ.2.1 4)) (tv : J_vs (σ.1 6) (σ.1 5) (σ.2.1 15)) (t0 : ∀ p, 0 ≤ σ.2.1 15 p) (a0 : ∀ p, 0 ≤ σ.2.1 14 p) (y0 : ∀ p, 0 ≤ σ.2.1 29 p) (f0 : ∀ p, 0 ≤ σ.2.1 28 p) (r4 : 0 ≤ τ.1 4) (rk : J_rks (σ.1 5) (σ.1 4) (σ.2.1 10) (σ.2.1 11)) (rk' : J_rks (τ.1 5) (τ.1 4) (τ.2.1 10) (τ.2.1 11)) {wv wa wb : List Nat} (hf : f_r wv wa wb σ τ) (d1 : [45, 46, 47, 50, 57, 59, 60].all (fun i => !wv.contains i) = true) (d2 : [67, 68, 69, 70, 71, 72, 73, 74, 75, 76, 77, 93, 94, 95, 97, 98, 99, 100].all (fun i => !wa.contains i) = true) (d3 : [3].all (fun i => !wb.contains i) = true) : c_GM In0 τ ∧ c_DS In0 τ ∧ c_DB lb τ := by
  have k := c_kp_ag g rr
  have w := fun i hi => hf.1 i (c_fl d1 i hi)
  have e := fun i hi => hf.2.1 i (c_fl d2 i hi)
  have b := fun i hi => hf.2.2 i (c_fl d3 i hi)
  have v5 := g.1 5 (by decide)
  have v7 := g.1 7 (by decide)
  have q4 := kp_rk k v5 r4 rk rk'
  obtain ⟨⟨l1, l2, l3, l4⟩, wz⟩ := gm
  obtain ⟨s1, s2, s3⟩ := ds
  obtain ⟨b1, b2, b3, b4⟩ := db
  have uk := kp_Uk l4 l1 k g nm hJ mn tv t0 a0 y0 q4 (w 45 (by decide)) (w 46 (by decide)) (fun i hi => e i (by simp only [List.mem_cons, List.mem_nil_iff, or_false] at hi ⊢; omega))
  have ir : ∀ r : Int, In0 r → (0 ≤ r ∧ r < σ.1 7) ∧ g_rf r (σ.2.1 13) (σ.2.1 14) (σ.2.1 27) (σ.2.1 28) (σ.2.1 29) := by
    obtain ⟨par, nof, In, hU, hI⟩ := l4
    intro r hr
    have x := hU.2.1.2.1 r (hI r hr)
    exact ⟨by have := x.1; omega, x.2.1⟩
  refine ⟨⟨⟨by rw [w 47 (by decide)]; omega, by rw [w 45 (by decide), w 47 (by decide), ag_k g 14 7 1 (by decide) (σ.1 47) (by omega)]; exact l2, by rw [w 46 (by decide), w 47 (by decide)]; exact l3, by rw [w 47 (by decide)]; exact uk⟩, ?_⟩, ⟨by rw [e 100 (by decide)]; exact s1, fun i i0 i1 z => ?_, by rw [w 57 (by decide)]; omega⟩, ⟨?_, by rw [w 60 (by decide)]; exact b2, by rw [w 59 (by decide), w 57 (by decide)]; exact b3, fun r r0 r1 z => by rw [e 95 (by decide)] at z; have := b4 r r0 r1 z; omega⟩⟩
  · unfold c_WZ at wz ⊢
    rw [w 50 (by decide), e 77 (by decide), b 3 (by decide)]; exact wz
  · rw [e 93 (by decide)] at z
    have x := s2 i i0 i1 z
    rw [e 94 (by decide)]
    exact ⟨by omega, x.2.1, kp_DT k g nm hJ mn tv t0 a0 y0 f0 ir i0 x.1 x.2.2⟩
  · rw [w 60 (by decide), e 95 (by decide), e 97 (by decide), e 98 (by decide), e 99 (by decide)]
    intro r r0 r1 z
    rw [(k.1 r r0 (b4 r r0 r1 z)).2.2.2.2]
    exact b1 r r0 r1 z
