-- pure: a node becomes what its rule tells
def y_hv (σ : S0) (r k : Int) : Int := σ.2.1 16 (σ.2.1 14 (σ.2.1 20 (σ.2.1 18 r + k)) + 1)
def y_sy (σ : S0) (r m : Int) : Int := σ.2.1 16 (σ.2.1 14 r + 1 + m)
def y_PD (σ : S0) (r b lo hi u nn j q : Int) (kd nf nt ns : Int → Int) : Prop := ∃ D : Int → Int, D nn = j ∧ D u = q ∧ ∀ m : Int, u ≤ m → m < nn → y_stp (σ.2.1 72) (y_Wσ σ) (y_f σ r (m + 1)) (D m) (D (m + 1)) ∧ (y_f σ r (m + 1) < 0 → ∃ k : Int, (0 ≤ k ∧ k < σ.2.1 19 r) ∧ y_hv σ r k = y_sy σ r m ∧ (lo ≤ kd (b + k) ∧ kd (b + k) < hi) ∧ ns (kd (b + k)) = σ.2.1 71 (-2 - y_f σ r (m + 1)) ∧ nf (kd (b + k)) = D m ∧ nt (kd (b + k)) = D (m + 1))
theorem y_PD_c {σ : S0} {r b lo hi u nn j q p : Int} {kd nf nt ns : Int → Int} (h : y_PD σ r b lo hi (u + 1) nn j q kd nf nt ns) (un : u < nn) (fc : 0 ≤ y_f σ r (u + 1)) (s : y_stp (σ.2.1 72) (y_Wσ σ) (y_f σ r (u + 1)) p q) : y_PD σ r b lo hi u nn j p kd nf nt ns := by
  obtain ⟨D, d1, d2, d3⟩ := h
  refine ⟨st D u p, by rw [st_n _ _ (by omega)]; exact d1, st_s _ _ _, fun m um mn => ?_⟩
  rcases (by omega : m = u ∨ u < m) with z | z
  · rw [z, st_s, st_n _ _ (by omega), d2]
    exact ⟨s, fun y => by omega⟩
  · rw [st_n _ _ (by omega), st_n _ _ (by omega)]
    exact d3 m (by omega) mn
theorem y_PD_v {σ : S0} {r b lo hi u nn j q p x : Int} {kd nf nt ns : Int → Int} (h : y_PD σ r b lo hi (u + 1) nn j q kd nf nt ns) (un : u < nn) (u0 : 0 ≤ u) (s : y_stp (σ.2.1 72) (y_Wσ σ) (y_f σ r (u + 1)) p q) (x0 : 0 ≤ x) (x1 : x < σ.2.1 19 r) (xv : y_hv σ r x = y_sy σ r u) (lh : lo ≤ hi) (dist : ∀ m o : Int, 0 ≤ o → o < m → m < nn → y_f σ r (m + 1) < 0 → y_sy σ r o ≠ y_sy σ r m) : y_PD σ r b lo (hi + 1) u nn j p (st kd (b + x) hi) (st nf hi p) (st nt hi q) (st ns hi (σ.2.1 71 (-2 - y_f σ r (u + 1)))) := by
  obtain ⟨D, d1, d2, d3⟩ := h
  refine ⟨st D u p, by rw [st_n _ _ (by omega)]; exact d1, st_s _ _ _, fun m um mn => ?_⟩
  rcases (by omega : m = u ∨ u < m) with z | z
  · rw [z, st_s, st_n _ _ (by omega), d2]
    refine ⟨s, fun _ => ⟨x, ⟨x0, x1⟩, xv, ?_⟩⟩
    rw [st_s, st_s, st_s, st_s]
    exact ⟨⟨lh, by omega⟩, rfl, rfl, rfl⟩
  · rw [st_n D _ (show m ≠ u by omega), st_n D _ (show m + 1 ≠ u by omega)]
    obtain ⟨e1, e2⟩ := d3 m (by omega) mn
    refine ⟨e1, fun y => ?_⟩
    obtain ⟨k, hk, kv, kl, k1, k2, k3⟩ := e2 y
    have ne : b + k ≠ b + x := fun q => dist m u u0 z mn y (by
      have : k = x := by omega
      rw [this] at kv
      exact xv.symm.trans kv)
    refine ⟨k, hk, kv, ?_⟩
    rw [st_n kd _ ne]
    rw [st_n _ _ (by omega), st_n _ _ (by omega), st_n _ _ (by omega)]
    exact ⟨⟨kl.1, by omega⟩, k1, k2, k3⟩
theorem y_PD_e {σ : S0} {r b lo hi nn i j q : Int} {kd nf nt ns : Int → Int} (h : y_PD σ r b lo hi 0 nn j q kd nf nt ns) (e : q = i) : ∃ D : Int → Int, y_wy (σ.2.1 72) (y_Wσ σ) (y_f σ r) i j nn D ∧ ∀ m : Int, 0 ≤ m → m < nn → y_f σ r (m + 1) < 0 → ∃ k : Int, (0 ≤ k ∧ k < σ.2.1 19 r) ∧ y_hv σ r k = y_sy σ r m ∧ (lo ≤ kd (b + k) ∧ kd (b + k) < hi) ∧ ns (kd (b + k)) = σ.2.1 71 (-2 - y_f σ r (m + 1)) ∧ nf (kd (b + k)) = D m ∧ nt (kd (b + k)) = D (m + 1) := by
  obtain ⟨D, d1, d2, d3⟩ := h
  exact ⟨D, ⟨d2.trans e, d1, fun m a b => (d3 m a b).1⟩, fun m a b => (d3 m a b).2⟩
theorem y_PD_0 {σ : S0} {r b lo hi nn j : Int} {kd nf nt ns : Int → Int} : y_PD σ r b lo hi nn nn j j kd nf nt ns := ⟨fun _ => j, rfl, rfl, fun m a b => by omega⟩
theorem y_vi_b (σ : S0) (r m : Int) : 0 ≤ y_vi σ r m ∧ y_vi σ r m ≤ 1 := by
  unfold y_vi
  by_cases z : y_f σ r (m + 1) < 0
  · rw [if_pos z]; omega
  · rw [if_neg z]; omega
theorem y_vi_s {σ : S0} {r u : Int} (u1 : 1 ≤ u) : (y_f σ r u < 0 → sm (y_vi σ r) u = sm (y_vi σ r) (u - 1) + 1) ∧ (0 ≤ y_f σ r u → sm (y_vi σ r) u = sm (y_vi σ r) (u - 1)) := by
  have e := sm_s (y_vi σ r) (n := u - 1) (by omega)
  rw [show u - 1 + 1 = u by omega] at e
  have f : y_vi σ r (u - 1) = if y_f σ r u < 0 then 1 else 0 := by
    unfold y_vi; rw [show u - 1 + 1 = u by omega]
  rw [e, f]
  exact ⟨fun z => by rw [if_pos z], fun z => by rw [if_neg (by omega)]; omega⟩
theorem y_vi_m {σ : S0} {r u n : Int} (u0 : 0 ≤ u) (un : u ≤ n) : 0 ≤ sm (y_vi σ r) u ∧ sm (y_vi σ r) u ≤ sm (y_vi σ r) n ∧ sm (y_vi σ r) n ≤ n := by
  have a := sm_m (g := y_vi σ r) (n := 0) (m := u) (fun e _ _ => (y_vi_b σ r e).1) (Int.le_refl _) u0
  rw [sm_0] at a
  have b := sm_m (g := y_vi σ r) (n := u) (m := n) (fun e _ _ => (y_vi_b σ r e).1) u0 un
  have c := sm_c (f := y_vi σ r) (n := n) (c := 1) (fun e _ _ => (y_vi_b σ r e).2) (by omega) (by omega)
  omega
/-- weights of nodes, one behind another -/
noncomputable def y_ws (ρ : Int → Int → Int → Int) (σ : S0) (lo : Int) (ns nf nt : Int → Int) : Int → Int := fun e => y_wt ρ σ (ns (lo + e)) (nf (lo + e)) (nt (lo + e))
theorem y_ws_s {ρ : Int → Int → Int → Int} {σ : S0} {lo hi c p q : Int} {ns nf nt : Int → Int} (l : lo ≤ hi) : sm (y_ws ρ σ lo (st ns hi c) (st nf hi p) (st nt hi q)) (hi + 1 - lo) = sm (y_ws ρ σ lo ns nf nt) (hi - lo) + y_wt ρ σ c p q := by
  rw [show hi + 1 - lo = hi - lo + 1 by omega, sm_s _ (show 0 ≤ hi - lo by omega)]
  have e : sm (y_ws ρ σ lo (st ns hi c) (st nf hi p) (st nt hi q)) (hi - lo) = sm (y_ws ρ σ lo ns nf nt) (hi - lo) := sm_x (fun j a b => by
    unfold y_ws
    rw [st_n _ _ (by omega), st_n _ _ (by omega), st_n _ _ (by omega)])
  have f : y_ws ρ σ lo (st ns hi c) (st nf hi p) (st nt hi q) (hi - lo) = y_wt ρ σ c p q := by
    unfold y_ws
    rw [show lo + (hi - lo) = hi by omega, st_s, st_s, st_s]
  rw [e, f]
theorem y_p1_b {row : Int → Int} {W : Int → Int → Int → Prop} {f : Int → Int} {i u q : Int} (u1 : 1 ≤ u) : y_p1 row W f i u.toNat q ↔ ∃ p : Int, i ≤ p ∧ y_p1 row W f i (u - 1).toNat p ∧ y_stp row W (f u) p q := by
  rw [show u.toNat = (u - 1).toNat + 1 by omega, y_p1_t, show (((u - 1).toNat : Int) + 1) = u by omega]
theorem y_p2_b {row : Int → Int} {W V : Int → Int → Int → Prop} {f : Int → Int} {i u p q : Int} (u1 : 1 ≤ u) (ip : i ≤ p) (s : y_stp row W (f u) p q) (h : ¬ y_p2 row W V f i u.toNat q) : ¬ y_p2 row W V f i (u - 1).toNat p ∧ (y_p1 row W f i (u - 1).toNat p → f u < 0 → ¬ V (-2 - f u) p q) := by
  rw [show u.toNat = (u - 1).toNat + 1 by omega] at h
  have w := y_p2_t (k := (u - 1).toNat) (V := V) ip (by rw [show (((u - 1).toNat : Int) + 1) = u by omega]; exact s) h
  rw [show (((u - 1).toNat : Int) + 1) = u by omega] at w
  exact w
/-- one hypothesis alone -/
theorem y_r1 {σ : S0} (J : n_J σ) (hT : m_T σ) {r : Int} (r0 : 0 ≤ r) (r1 : r < σ.1 5) (h : y_In σ r) (u : y_U σ r) : σ.2.1 19 r = 1 ∧ y_hv σ r 0 = y_sy σ r 0 := by
  obtain ⟨h1, h2, h3, _⟩ := y_rh J hT r0 r1 h
  obtain ⟨k, hk, e⟩ := h1 0 (Int.le_refl _) (by rw [u.1]; omega) u.2
  have al : ∀ o : Int, 0 ≤ o → o < σ.2.1 19 r → y_hv σ r o = y_sy σ r 0 := fun o a b => by
    obtain ⟨m, hm, _, e2⟩ := h2 o a b
    rw [u.1] at hm
    rw [show m = 0 by omega] at e2
    exact e2
  have one : σ.2.1 19 r = 1 := by
    rcases (by omega : σ.2.1 19 r = 1 ∨ 1 < σ.2.1 19 r) with z | z
    · exact z
    · exact absurd ((al 0 (by omega) (by omega)).trans (al 1 (by omega) z).symm) (h3 1 0 (by omega) (by omega) z)
  exact ⟨one, al 0 (by omega) (by omega)⟩
theorem y_TC_y {ρ : Int → Int → Int → Int} {σ : S0} (h : y_TC ρ σ) {r : Int} (r0 : 0 ≤ r) (r1 : r < σ.1 50) (hr : y_In σ r) : ∀ k : Int, 1 ≤ k → k ≤ y_nn σ r → y_f σ r k < 0 → 0 ≤ -2 - y_f σ r k ∧ -2 - y_f σ r k < σ.1 3 := (h.1.1.2.2.2.1 r r0 (by have := h.1.2.2; omega) hr).2
theorem y_PD_c1 {σ : S0} {r b lo hi u nn j q p : Int} {kd nf nt ns : Int → Int} (h : y_PD σ r b lo hi u nn j q kd nf nt ns) (u1 : 1 ≤ u) (un : u ≤ nn) (fc : 0 ≤ y_f σ r u) (s : y_stp (σ.2.1 72) (y_Wσ σ) (y_f σ r u) p q) : y_PD σ r b lo hi (u + -1) nn j p kd nf nt ns := by
  have e : u + -1 + 1 = u := by omega
  exact y_PD_c (by rw [e]; exact h) (by omega) (by rw [e]; exact fc) (by rw [e]; exact s)
theorem y_PD_v1 {σ : S0} {r b lo hi u nn j q p x : Int} {kd nf nt ns : Int → Int} (h : y_PD σ r b lo hi u nn j q kd nf nt ns) (u1 : 1 ≤ u) (un : u ≤ nn) (s : y_stp (σ.2.1 72) (y_Wσ σ) (y_f σ r u) p q) (x0 : 0 ≤ x) (x1 : x < σ.2.1 19 r) (xv : y_hv σ r x = y_sy σ r (u - 1)) (lh : lo ≤ hi) (dist : ∀ m o : Int, 0 ≤ o → o < m → m < nn → y_f σ r (m + 1) < 0 → y_sy σ r o ≠ y_sy σ r m) : y_PD σ r b lo (hi + 1) (u + -1) nn j p (st kd (b + x) hi) (st nf hi p) (st nt hi q) (st ns hi (σ.2.1 71 (-2 - y_f σ r u))) := by
  have e : u + -1 + 1 = u := by omega
  have w := y_PD_v (σ := σ) (r := r) (b := b) (lo := lo) (hi := hi) (u := u + -1) (nn := nn) (j := j) (q := q) (p := p) (x := x) (kd := kd) (nf := nf) (nt := nt) (ns := ns) (by rw [e]; exact h) (by omega) (by omega) (by rw [e]; exact s) x0 x1 (by rw [show u + -1 = u - 1 by omega]; exact xv) lh dist
  rw [e] at w
  exact w
theorem y_fk {σ : S0} {r u s : Int} (e : s = y_sy σ r (u - 1)) : (σ.2.1 8 s = 0 → y_f σ r u = s) ∧ (¬ σ.2.1 8 s = 0 → y_f σ r u = -2 - σ.2.1 10 s) := by
  have e2 : s = σ.2.1 16 (σ.2.1 14 r + u) := e.trans (congrArg (σ.2.1 16) (by omega))
  unfold y_f
  rw [← e2]
  exact ⟨fun z => if_pos z, fun z => if_neg z⟩
theorem y_nuv {σ : S0} {r : Int} (h : ¬ y_U σ r) (n1 : 1 ≤ y_nn σ r) : 2 ≤ y_nn σ r ∨ sm (y_vi σ r) (y_nn σ r) = 0 := by
  rcases (by omega : 2 ≤ y_nn σ r ∨ y_nn σ r = 1) with z | z
  · exact Or.inl z
  · refine Or.inr ?_
    rw [z]
    have f : 0 ≤ y_f σ r 1 := by
      rcases (by omega : y_f σ r 1 < 0 ∨ 0 ≤ y_f σ r 1) with y | y
      · exact absurd ⟨z, y⟩ h
      · exact y
    have e := (y_vi_s (σ := σ) (r := r) (u := 1) (Int.le_refl _)).2 f
    rw [e]; exact sm_0 _
set_option maxHeartbeats 16000000 in
theorem K_X13_part {n1 : Int} {n2 : Int} {ρ : Int → Int → Int → Int} {σ : S0} (hT : m_T σ) (p1 : 0 ≤ n1) (p2 : n1 < (σ.1 51)) (p3 : 0 ≤ n2) (p4 : n2 < (σ.1 50)) (p5 : y_In σ n2) (p6 : y_TC ρ σ) (p7 : y_p1 (σ.2.1 72) (y_Wσ σ) (y_f σ n2) (σ.2.1 88 n1) (y_nn σ n2).toNat (σ.2.1 89 n1)) (p8 : ¬ y_p2 (σ.2.1 72) (y_Wσ σ) (y_Vσ σ) (y_f σ n2) (σ.2.1 88 n1) (y_nn σ n2).toNat (σ.2.1 89 n1)) (p9 : (σ.1 51) ≤ 59000) (p10 : (σ.1 52) ≤ 100000) (p11 : y_c0 σ (σ.2.1 90 n1) (σ.2.1 88 n1) (σ.2.1 89 n1)) (p12 : y_nn σ n2 = 1 → y_f σ n2 1 < 0 → ρ (-2 - y_f σ n2 1) (σ.2.1 88 n1) (σ.2.1 89 n1) < ρ (y_inv (σ.1 3) (σ.2.1 71) (σ.2.1 90 n1)) (σ.2.1 88 n1) (σ.2.1 89 n1)) : W_X13_part n1 n2 σ (fun (τ : S0) => (m_T τ) ∧ (τ.2.1 86 = st (σ.2.1 86) n1 n2) ∧ (τ.2.1 87 = st (σ.2.1 87) n1 (σ.1 52)) ∧ ((τ.1 52) = (σ.1 52) + σ.2.1 19 n2) ∧ ((τ.1 51) = (σ.1 51) + sm (y_vi σ n2) (y_nn σ n2)) ∧ (∀ y : Int, y < (σ.1 51) → τ.2.1 88 y = σ.2.1 88 y ∧ τ.2.1 89 y = σ.2.1 89 y ∧ τ.2.1 90 y = σ.2.1 90 y) ∧ (∀ e : Int, e < (σ.1 52) → τ.2.1 91 e = σ.2.1 91 e) ∧ (∀ y : Int, (σ.1 51) ≤ y → y < (τ.1 51) → y_c0 σ (τ.2.1 90 y) (τ.2.1 88 y) (τ.2.1 89 y)) ∧ (∃ D : Int → Int, y_wy (σ.2.1 72) (y_Wσ σ) (y_f σ n2) (σ.2.1 88 n1) (σ.2.1 89 n1) (y_nn σ n2) D ∧ ∀ m : Int, 0 ≤ m → m < y_nn σ n2 → y_f σ n2 (m + 1) < 0 → ∃ k : Int, (0 ≤ k ∧ k < σ.2.1 19 n2) ∧ y_hv σ n2 k = y_sy σ n2 m ∧ ((σ.1 51) ≤ τ.2.1 91 ((σ.1 52) + k) ∧ τ.2.1 91 ((σ.1 52) + k) < (τ.1 51)) ∧ τ.2.1 90 (τ.2.1 91 ((σ.1 52) + k)) = σ.2.1 71 (-2 - y_f σ n2 (m + 1)) ∧ τ.2.1 88 (τ.2.1 91 ((σ.1 52) + k)) = D m ∧ τ.2.1 89 (τ.2.1 91 ((σ.1 52) + k)) = D (m + 1)) ∧ (sm (y_ws ρ σ (σ.1 51) (τ.2.1 90) (τ.2.1 88) (τ.2.1 89)) ((τ.1 51) - (σ.1 51)) + 1 ≤ y_wt ρ σ (σ.2.1 90 n1) (σ.2.1 88 n1) (σ.2.1 89 n1))) := by
  have A8 : ∀ j, 0 ≤ σ.2.1 8 j ∧ σ.2.1 8 j ≤ 1 := fun j => hT.2 8 j
  have A10 : ∀ j, (-1) ≤ σ.2.1 10 j ∧ σ.2.1 10 j ≤ 999 := fun j => hT.2 10 j
  have A13 : ∀ j, 0 ≤ σ.2.1 13 j ∧ σ.2.1 13 j ≤ 4 := fun j => hT.2 13 j
  have A14 : ∀ j, 0 ≤ σ.2.1 14 j ∧ σ.2.1 14 j ≤ 30000 := fun j => hT.2 14 j
  have A15 : ∀ j, 0 ≤ σ.2.1 15 j ∧ σ.2.1 15 j ≤ 300 := fun j => hT.2 15 j
  have A16 : ∀ j, 0 ≤ σ.2.1 16 j ∧ σ.2.1 16 j ≤ 999 := fun j => hT.2 16 j
  have A18 : ∀ j, 0 ≤ σ.2.1 18 j ∧ σ.2.1 18 j ≤ 90000 := fun j => hT.2 18 j
  have A19 : ∀ j, 0 ≤ σ.2.1 19 j ∧ σ.2.1 19 j ≤ 60 := fun j => hT.2 19 j
  have A20 : ∀ j, 0 ≤ σ.2.1 20 j ∧ σ.2.1 20 j ≤ 1499 := fun j => hT.2 20 j
  have A71 : ∀ j, (-1) ≤ σ.2.1 71 j ∧ σ.2.1 71 j ≤ 99 := fun j => hT.2 71 j
  have A72 : ∀ j, 0 ≤ σ.2.1 72 j ∧ σ.2.1 72 j ≤ 999 := fun j => hT.2 72 j
  have A75 : ∀ j, 0 ≤ σ.2.1 75 j ∧ σ.2.1 75 j ≤ 3 := fun j => hT.2 75 j
  have A85 : ∀ j, (-2147483648) ≤ σ.2.1 85 j ∧ σ.2.1 85 j ≤ 2147483647 := fun j => hT.2 85 j
  have A86 : ∀ j, (-1500) ≤ σ.2.1 86 j ∧ σ.2.1 86 j ≤ 1499 := fun j => hT.2 86 j
  have A87 : ∀ j, 0 ≤ σ.2.1 87 j ∧ σ.2.1 87 j ≤ 120000 := fun j => hT.2 87 j
  have A88 : ∀ j, 0 ≤ σ.2.1 88 j ∧ σ.2.1 88 j ≤ 59 := fun j => hT.2 88 j
  have A89 : ∀ j, 0 ≤ σ.2.1 89 j ∧ σ.2.1 89 j ≤ 59 := fun j => hT.2 89 j
  have A90 : ∀ j, (-1) ≤ σ.2.1 90 j ∧ σ.2.1 90 j ≤ 99 := fun j => hT.2 90 j
  have A91 : ∀ j, 0 ≤ σ.2.1 91 j ∧ σ.2.1 91 j ≤ 60000 := fun j => hT.2 91 j
  have v3 : 0 ≤ σ.1 3 ∧ σ.1 3 ≤ 1000 := hT.1 3
  have v5 : 0 ≤ σ.1 5 ∧ σ.1 5 ≤ 1500 := hT.1 5
  have v11 : (-1) ≤ σ.1 11 ∧ σ.1 11 ≤ 999 := hT.1 11
  have v45 : 0 ≤ σ.1 45 ∧ σ.1 45 ≤ 59 := hT.1 45
  have v50 : 0 ≤ σ.1 50 ∧ σ.1 50 ≤ 1500 := hT.1 50
  have v51 : 0 ≤ σ.1 51 ∧ σ.1 51 ≤ 60000 := hT.1 51
  have v52 : 0 ≤ σ.1 52 ∧ σ.1 52 ≤ 120000 := hT.1 52
  have W3 : σ.1 3 = σ.1 3 := rfl
  have W5 : σ.1 5 = σ.1 5 := rfl
  have W11 : σ.1 11 = σ.1 11 := rfl
  have W45 : σ.1 45 = σ.1 45 := rfl
  have W50 : σ.1 50 = σ.1 50 := rfl
  have G8 : σ.2.1 8 = σ.2.1 8 := rfl
  have G10 : σ.2.1 10 = σ.2.1 10 := rfl
  have G13 : σ.2.1 13 = σ.2.1 13 := rfl
  have G14 : σ.2.1 14 = σ.2.1 14 := rfl
  have G15 : σ.2.1 15 = σ.2.1 15 := rfl
  have G16 : σ.2.1 16 = σ.2.1 16 := rfl
  have G18 : σ.2.1 18 = σ.2.1 18 := rfl
  have G19 : σ.2.1 19 = σ.2.1 19 := rfl
  have G20 : σ.2.1 20 = σ.2.1 20 := rfl
  have G71 : σ.2.1 71 = σ.2.1 71 := rfl
  have G72 : σ.2.1 72 = σ.2.1 72 := rfl
  have G75 : σ.2.1 75 = σ.2.1 75 := rfl
  intro P133 P183 h133 h183
  have r5 : n2 < σ.1 5 := by (have w := p6.1.2.2; omega)
  have J := p6.2.2.2.1
  have hTσ := hT
  have RH := y_rh J hT p3 r5 p5
  obtain ⟨rh1, rh2, rh3, rh4⟩ := RH
  have nn1 := y_nn1 n2 p5
  have nn2 : y_nn σ n2 = σ.2.1 15 n2 - 1 := rfl
  have ts60 : σ.2.1 15 n2 ≤ 60 := p5.2
  have TY := y_TC_y p6 p3 p4 p5
  have WB := y_wt_b p6 p11
  obtain ⟨⟨ci0, cij, cjl⟩, ct⟩ := p11
  have a14 := A14 n2
  have a19 := A19 n2
  have l45 := v45
  have vin := fun u a b => y_vi_m (σ := σ) (r := n2) (u := u) (n := y_nn σ n2) a b
  have B16 := A16
  have l_133 : ∀ (m_133 : Nat) (u4_133 : Int) (u5_133 : Int) (u6_133 : Int) (τ_133 : S0), u6_133 < (m_133 : Int) → (m_T τ_133) → (τ_133.1 3 = σ.1 3) → (τ_133.1 5 = σ.1 5) → (τ_133.1 11 = σ.1 11) → (τ_133.1 45 = σ.1 45) → (τ_133.1 50 = σ.1 50) → (τ_133.2.1 8 = σ.2.1 8) → (τ_133.2.1 10 = σ.2.1 10) → (τ_133.2.1 13 = σ.2.1 13) → (τ_133.2.1 14 = σ.2.1 14) → (τ_133.2.1 15 = σ.2.1 15) → (τ_133.2.1 16 = σ.2.1 16) → (τ_133.2.1 18 = σ.2.1 18) → (τ_133.2.1 19 = σ.2.1 19) → (τ_133.2.1 20 = σ.2.1 20) → (τ_133.2.1 71 = σ.2.1 71) → (τ_133.2.1 72 = σ.2.1 72) → (τ_133.2.1 75 = σ.2.1 75) → (u4_133 = σ.2.1 14 n2 + 1) → (0 ≤ u6_133 ∧ u6_133 ≤ y_nn σ n2) → (τ_133.2.1 86 = st (σ.2.1 86) n1 n2) → (τ_133.2.1 87 = st (σ.2.1 87) n1 (σ.1 52)) → ((τ_133.1 52) = (σ.1 52) + σ.2.1 19 n2) → ((τ_133.1 51) = (σ.1 51) + (sm (y_vi σ n2) (y_nn σ n2) - sm (y_vi σ n2) u6_133)) → (∀ y : Int, y < (σ.1 51) → τ_133.2.1 88 y = σ.2.1 88 y ∧ τ_133.2.1 89 y = σ.2.1 89 y ∧ τ_133.2.1 90 y = σ.2.1 90 y) → (∀ e : Int, e < (σ.1 52) → τ_133.2.1 91 e = σ.2.1 91 e) → (∀ y : Int, (σ.1 51) ≤ y → y < (τ_133.1 51) → y_c0 σ (τ_133.2.1 90 y) (τ_133.2.1 88 y) (τ_133.2.1 89 y)) → (y_PD σ n2 (σ.1 52) (σ.1 51) (τ_133.1 51) u6_133 (y_nn σ n2) (σ.2.1 89 n1) u5_133 (τ_133.2.1 91) (τ_133.2.1 88) (τ_133.2.1 89) (τ_133.2.1 90)) → (sm (y_ws ρ σ (σ.1 51) (τ_133.2.1 90) (τ_133.2.1 88) (τ_133.2.1 89)) ((τ_133.1 51) - (σ.1 51)) ≤ 200 * ((σ.2.1 89 n1) - u5_133 - ((y_nn σ n2 - u6_133) - ((τ_133.1 51) - (σ.1 51)))) - 100 * ((τ_133.1 51) - (σ.1 51))) → (y_p1 (σ.2.1 72) (y_Wσ σ) (y_f σ n2) (σ.2.1 88 n1) (u6_133).toNat u5_133) → (¬ y_p2 (σ.2.1 72) (y_Wσ σ) (y_Vσ σ) (y_f σ n2) (σ.2.1 88 n1) (u6_133).toNat u5_133) → (u5_133 ≤ (σ.2.1 89 n1) - (y_nn σ n2 - u6_133)) → (∀ k : Int, 0 ≤ k → k ≤ y_nn σ n2 → y_f0 (σ.2.1 72) (y_Wσ σ) (y_f σ n2) (σ.2.1 88 n1) (σ.2.1 89 n1) (y_nn σ n2) (τ_133.2.1 85) k) → ((σ.2.1 88 n1) ≤ u5_133) → (¬ y_U σ n2) → P133 n1 n2 u4_133 u5_133 u6_133 τ_133 := by
    intro m_133
    induction m_133 with
    | zero =>
      intro u4_133 u5_133 u6_133 τ_133 hm hT W3 W5 W11 W45 W50 G8 G10 G13 G14 G15 G16 G18 G19 G20 G71 G72 G75 i133_1 i133_2 i133_3 i133_4 i133_5 i133_6 i133_7 i133_8 i133_9 i133_10 i133_11 i133_12 i133_13 i133_14 i133_15 i133_16 i133_17
      have A8 : ∀ j, 0 ≤ τ_133.2.1 8 j ∧ τ_133.2.1 8 j ≤ 1 := fun j => hT.2 8 j
      have A10 : ∀ j, (-1) ≤ τ_133.2.1 10 j ∧ τ_133.2.1 10 j ≤ 999 := fun j => hT.2 10 j
      have A13 : ∀ j, 0 ≤ τ_133.2.1 13 j ∧ τ_133.2.1 13 j ≤ 4 := fun j => hT.2 13 j
      have A14 : ∀ j, 0 ≤ τ_133.2.1 14 j ∧ τ_133.2.1 14 j ≤ 30000 := fun j => hT.2 14 j
      have A15 : ∀ j, 0 ≤ τ_133.2.1 15 j ∧ τ_133.2.1 15 j ≤ 300 := fun j => hT.2 15 j
      have A16 : ∀ j, 0 ≤ τ_133.2.1 16 j ∧ τ_133.2.1 16 j ≤ 999 := fun j => hT.2 16 j
      have A18 : ∀ j, 0 ≤ τ_133.2.1 18 j ∧ τ_133.2.1 18 j ≤ 90000 := fun j => hT.2 18 j
      have A19 : ∀ j, 0 ≤ τ_133.2.1 19 j ∧ τ_133.2.1 19 j ≤ 60 := fun j => hT.2 19 j
      have A20 : ∀ j, 0 ≤ τ_133.2.1 20 j ∧ τ_133.2.1 20 j ≤ 1499 := fun j => hT.2 20 j
      have A71 : ∀ j, (-1) ≤ τ_133.2.1 71 j ∧ τ_133.2.1 71 j ≤ 99 := fun j => hT.2 71 j
      have A72 : ∀ j, 0 ≤ τ_133.2.1 72 j ∧ τ_133.2.1 72 j ≤ 999 := fun j => hT.2 72 j
      have A75 : ∀ j, 0 ≤ τ_133.2.1 75 j ∧ τ_133.2.1 75 j ≤ 3 := fun j => hT.2 75 j
      have A85 : ∀ j, (-2147483648) ≤ τ_133.2.1 85 j ∧ τ_133.2.1 85 j ≤ 2147483647 := fun j => hT.2 85 j
      have A86 : ∀ j, (-1500) ≤ τ_133.2.1 86 j ∧ τ_133.2.1 86 j ≤ 1499 := fun j => hT.2 86 j
      have A87 : ∀ j, 0 ≤ τ_133.2.1 87 j ∧ τ_133.2.1 87 j ≤ 120000 := fun j => hT.2 87 j
      have A88 : ∀ j, 0 ≤ τ_133.2.1 88 j ∧ τ_133.2.1 88 j ≤ 59 := fun j => hT.2 88 j
      have A89 : ∀ j, 0 ≤ τ_133.2.1 89 j ∧ τ_133.2.1 89 j ≤ 59 := fun j => hT.2 89 j
      have A90 : ∀ j, (-1) ≤ τ_133.2.1 90 j ∧ τ_133.2.1 90 j ≤ 99 := fun j => hT.2 90 j
      have A91 : ∀ j, 0 ≤ τ_133.2.1 91 j ∧ τ_133.2.1 91 j ≤ 60000 := fun j => hT.2 91 j
      have v3 : 0 ≤ τ_133.1 3 ∧ τ_133.1 3 ≤ 1000 := hT.1 3
      have v5 : 0 ≤ τ_133.1 5 ∧ τ_133.1 5 ≤ 1500 := hT.1 5
      have v11 : (-1) ≤ τ_133.1 11 ∧ τ_133.1 11 ≤ 999 := hT.1 11
      have v45 : 0 ≤ τ_133.1 45 ∧ τ_133.1 45 ≤ 59 := hT.1 45
      have v50 : 0 ≤ τ_133.1 50 ∧ τ_133.1 50 ≤ 1500 := hT.1 50
      have v51 : 0 ≤ τ_133.1 51 ∧ τ_133.1 51 ≤ 60000 := hT.1 51
      have v52 : 0 ≤ τ_133.1 52 ∧ τ_133.1 52 ≤ 120000 := hT.1 52
      exfalso; (first | omega | (simp only [st_s] <;> omega) | assumption | omega | fail)
    | succ m_133 ih_133 =>
      intro u4_133 u5_133 u6_133 τ_133 hm_133 hT W3 W5 W11 W45 W50 G8 G10 G13 G14 G15 G16 G18 G19 G20 G71 G72 G75 i133_1 i133_2 i133_3 i133_4 i133_5 i133_6 i133_7 i133_8 i133_9 i133_10 i133_11 i133_12 i133_13 i133_14 i133_15 i133_16 i133_17
      have A8 : ∀ j, 0 ≤ τ_133.2.1 8 j ∧ τ_133.2.1 8 j ≤ 1 := fun j => hT.2 8 j
      have A10 : ∀ j, (-1) ≤ τ_133.2.1 10 j ∧ τ_133.2.1 10 j ≤ 999 := fun j => hT.2 10 j
      have A13 : ∀ j, 0 ≤ τ_133.2.1 13 j ∧ τ_133.2.1 13 j ≤ 4 := fun j => hT.2 13 j
      have A14 : ∀ j, 0 ≤ τ_133.2.1 14 j ∧ τ_133.2.1 14 j ≤ 30000 := fun j => hT.2 14 j
      have A15 : ∀ j, 0 ≤ τ_133.2.1 15 j ∧ τ_133.2.1 15 j ≤ 300 := fun j => hT.2 15 j
      have A16 : ∀ j, 0 ≤ τ_133.2.1 16 j ∧ τ_133.2.1 16 j ≤ 999 := fun j => hT.2 16 j
      have A18 : ∀ j, 0 ≤ τ_133.2.1 18 j ∧ τ_133.2.1 18 j ≤ 90000 := fun j => hT.2 18 j
      have A19 : ∀ j, 0 ≤ τ_133.2.1 19 j ∧ τ_133.2.1 19 j ≤ 60 := fun j => hT.2 19 j
      have A20 : ∀ j, 0 ≤ τ_133.2.1 20 j ∧ τ_133.2.1 20 j ≤ 1499 := fun j => hT.2 20 j
      have A71 : ∀ j, (-1) ≤ τ_133.2.1 71 j ∧ τ_133.2.1 71 j ≤ 99 := fun j => hT.2 71 j
      have A72 : ∀ j, 0 ≤ τ_133.2.1 72 j ∧ τ_133.2.1 72 j ≤ 999 := fun j => hT.2 72 j
      have A75 : ∀ j, 0 ≤ τ_133.2.1 75 j ∧ τ_133.2.1 75 j ≤ 3 := fun j => hT.2 75 j
      have A85 : ∀ j, (-2147483648) ≤ τ_133.2.1 85 j ∧ τ_133.2.1 85 j ≤ 2147483647 := fun j => hT.2 85 j
      have A86 : ∀ j, (-1500) ≤ τ_133.2.1 86 j ∧ τ_133.2.1 86 j ≤ 1499 := fun j => hT.2 86 j
      have A87 : ∀ j, 0 ≤ τ_133.2.1 87 j ∧ τ_133.2.1 87 j ≤ 120000 := fun j => hT.2 87 j
      have A88 : ∀ j, 0 ≤ τ_133.2.1 88 j ∧ τ_133.2.1 88 j ≤ 59 := fun j => hT.2 88 j
      have A89 : ∀ j, 0 ≤ τ_133.2.1 89 j ∧ τ_133.2.1 89 j ≤ 59 := fun j => hT.2 89 j
      have A90 : ∀ j, (-1) ≤ τ_133.2.1 90 j ∧ τ_133.2.1 90 j ≤ 99 := fun j => hT.2 90 j
      have A91 : ∀ j, 0 ≤ τ_133.2.1 91 j ∧ τ_133.2.1 91 j ≤ 60000 := fun j => hT.2 91 j
      have v3 : 0 ≤ τ_133.1 3 ∧ τ_133.1 3 ≤ 1000 := hT.1 3
      have v5 : 0 ≤ τ_133.1 5 ∧ τ_133.1 5 ≤ 1500 := hT.1 5
      have v11 : (-1) ≤ τ_133.1 11 ∧ τ_133.1 11 ≤ 999 := hT.1 11
      have v45 : 0 ≤ τ_133.1 45 ∧ τ_133.1 45 ≤ 59 := hT.1 45
      have v50 : 0 ≤ τ_133.1 50 ∧ τ_133.1 50 ≤ 1500 := hT.1 50
      have v51 : 0 ≤ τ_133.1 51 ∧ τ_133.1 51 ≤ 60000 := hT.1 51
      have v52 : 0 ≤ τ_133.1 52 ∧ τ_133.1 52 ≤ 120000 := hT.1 52
      have vis := fun a => y_vi_s (σ := σ) (r := n2) (u := u6_133) a
      have vim := vin u6_133 i133_2.1 i133_2.2
      have nuv := y_nuv i133_17 nn1
      have l_183 : ∀ (m_183 : Nat) (u4_183 : Int) (u5_183 : Int) (u6_183 : Int) (u7_183 : Int) (u8_183 : Int) (u9_183 : Int) (τ_183 : S0), u8_183 < (m_183 : Int) → (m_T τ_183) → (τ_183.1 3 = σ.1 3) → (τ_183.1 5 = σ.1 5) → (τ_183.1 11 = σ.1 11) → (τ_183.1 45 = σ.1 45) → (τ_183.1 50 = σ.1 50) → (τ_183.2.1 8 = σ.2.1 8) → (τ_183.2.1 10 = σ.2.1 10) → (τ_183.2.1 13 = σ.2.1 13) → (τ_183.2.1 14 = σ.2.1 14) → (τ_183.2.1 15 = σ.2.1 15) → (τ_183.2.1 16 = σ.2.1 16) → (τ_183.2.1 18 = σ.2.1 18) → (τ_183.2.1 19 = σ.2.1 19) → (τ_183.2.1 20 = σ.2.1 20) → (τ_183.2.1 71 = σ.2.1 71) → (τ_183.2.1 72 = σ.2.1 72) → (τ_183.2.1 75 = σ.2.1 75) → (u4_183 = σ.2.1 14 n2 + 1) → (0 ≤ u6_183 ∧ u6_183 ≤ y_nn σ n2) → (τ_183.2.1 86 = st (σ.2.1 86) n1 n2) → (τ_183.2.1 87 = st (σ.2.1 87) n1 (σ.1 52)) → ((τ_183.1 52) = (σ.1 52) + σ.2.1 19 n2) → ((τ_183.1 51) = (σ.1 51) + (sm (y_vi σ n2) (y_nn σ n2) - sm (y_vi σ n2) u6_183)) → (∀ y : Int, y < (σ.1 51) → τ_183.2.1 88 y = σ.2.1 88 y ∧ τ_183.2.1 89 y = σ.2.1 89 y ∧ τ_183.2.1 90 y = σ.2.1 90 y) → (∀ e : Int, e < (σ.1 52) → τ_183.2.1 91 e = σ.2.1 91 e) → (∀ y : Int, (σ.1 51) ≤ y → y < (τ_183.1 51) → y_c0 σ (τ_183.2.1 90 y) (τ_183.2.1 88 y) (τ_183.2.1 89 y)) → (y_PD σ n2 (σ.1 52) (σ.1 51) (τ_183.1 51) u6_183 (y_nn σ n2) (σ.2.1 89 n1) u5_183 (τ_183.2.1 91) (τ_183.2.1 88) (τ_183.2.1 89) (τ_183.2.1 90)) → (sm (y_ws ρ σ (σ.1 51) (τ_183.2.1 90) (τ_183.2.1 88) (τ_183.2.1 89)) ((τ_183.1 51) - (σ.1 51)) ≤ 200 * ((σ.2.1 89 n1) - u5_183 - ((y_nn σ n2 - u6_183) - ((τ_183.1 51) - (σ.1 51)))) - 100 * ((τ_183.1 51) - (σ.1 51))) → (y_p1 (σ.2.1 72) (y_Wσ σ) (y_f σ n2) (σ.2.1 88 n1) (u6_183).toNat u5_183) → (¬ y_p2 (σ.2.1 72) (y_Wσ σ) (y_Vσ σ) (y_f σ n2) (σ.2.1 88 n1) (u6_183).toNat u5_183) → (u5_183 ≤ (σ.2.1 89 n1) - (y_nn σ n2 - u6_183)) → (∀ k : Int, 0 ≤ k → k ≤ y_nn σ n2 → y_f0 (σ.2.1 72) (y_Wσ σ) (y_f σ n2) (σ.2.1 88 n1) (σ.2.1 89 n1) (y_nn σ n2) (τ_183.2.1 85) k) → ((σ.2.1 88 n1) ≤ u5_183) → (¬ y_U σ n2) → (1 ≤ u6_183) → (u7_183 = y_sy σ n2 (u6_183 - 1)) → (y_f σ n2 u6_183 < 0) → (u9_183 = σ.2.1 71 (-2 - y_f σ n2 u6_183)) → (∃ p : Int, (σ.2.1 88 n1) ≤ p ∧ p ≤ u8_183 ∧ y_p1 (σ.2.1 72) (y_Wσ σ) (y_f σ n2) (σ.2.1 88 n1) (u6_183 - 1).toNat p ∧ y_stp (σ.2.1 72) (y_Wσ σ) (y_f σ n2 u6_183) p u5_183) → (u8_183 < u5_183) → (u6_183 ≤ (m_133 : Int)) → (0 ≤ u9_183) → P183 n1 n2 u4_183 u5_183 u6_183 u7_183 u8_183 u9_183 τ_183 := by
        intro m_183
        induction m_183 with
        | zero =>
          intro u4_183 u5_183 u6_183 u7_183 u8_183 u9_183 τ_183 hm hT W3 W5 W11 W45 W50 G8 G10 G13 G14 G15 G16 G18 G19 G20 G71 G72 G75 i183_1 i183_2 i183_3 i183_4 i183_5 i183_6 i183_7 i183_8 i183_9 i183_10 i183_11 i183_12 i183_13 i183_14 i183_15 i183_16 i183_17 i183_18 i183_19 i183_20 i183_21 i183_22 i183_23 i183_24 i183_25
          have A8 : ∀ j, 0 ≤ τ_183.2.1 8 j ∧ τ_183.2.1 8 j ≤ 1 := fun j => hT.2 8 j
          have A10 : ∀ j, (-1) ≤ τ_183.2.1 10 j ∧ τ_183.2.1 10 j ≤ 999 := fun j => hT.2 10 j
          have A13 : ∀ j, 0 ≤ τ_183.2.1 13 j ∧ τ_183.2.1 13 j ≤ 4 := fun j => hT.2 13 j
          have A14 : ∀ j, 0 ≤ τ_183.2.1 14 j ∧ τ_183.2.1 14 j ≤ 30000 := fun j => hT.2 14 j
          have A15 : ∀ j, 0 ≤ τ_183.2.1 15 j ∧ τ_183.2.1 15 j ≤ 300 := fun j => hT.2 15 j
          have A16 : ∀ j, 0 ≤ τ_183.2.1 16 j ∧ τ_183.2.1 16 j ≤ 999 := fun j => hT.2 16 j
          have A18 : ∀ j, 0 ≤ τ_183.2.1 18 j ∧ τ_183.2.1 18 j ≤ 90000 := fun j => hT.2 18 j
          have A19 : ∀ j, 0 ≤ τ_183.2.1 19 j ∧ τ_183.2.1 19 j ≤ 60 := fun j => hT.2 19 j
          have A20 : ∀ j, 0 ≤ τ_183.2.1 20 j ∧ τ_183.2.1 20 j ≤ 1499 := fun j => hT.2 20 j
          have A71 : ∀ j, (-1) ≤ τ_183.2.1 71 j ∧ τ_183.2.1 71 j ≤ 99 := fun j => hT.2 71 j
          have A72 : ∀ j, 0 ≤ τ_183.2.1 72 j ∧ τ_183.2.1 72 j ≤ 999 := fun j => hT.2 72 j
          have A75 : ∀ j, 0 ≤ τ_183.2.1 75 j ∧ τ_183.2.1 75 j ≤ 3 := fun j => hT.2 75 j
          have A85 : ∀ j, (-2147483648) ≤ τ_183.2.1 85 j ∧ τ_183.2.1 85 j ≤ 2147483647 := fun j => hT.2 85 j
          have A86 : ∀ j, (-1500) ≤ τ_183.2.1 86 j ∧ τ_183.2.1 86 j ≤ 1499 := fun j => hT.2 86 j
          have A87 : ∀ j, 0 ≤ τ_183.2.1 87 j ∧ τ_183.2.1 87 j ≤ 120000 := fun j => hT.2 87 j
          have A88 : ∀ j, 0 ≤ τ_183.2.1 88 j ∧ τ_183.2.1 88 j ≤ 59 := fun j => hT.2 88 j
          have A89 : ∀ j, 0 ≤ τ_183.2.1 89 j ∧ τ_183.2.1 89 j ≤ 59 := fun j => hT.2 89 j
          have A90 : ∀ j, (-1) ≤ τ_183.2.1 90 j ∧ τ_183.2.1 90 j ≤ 99 := fun j => hT.2 90 j
          have A91 : ∀ j, 0 ≤ τ_183.2.1 91 j ∧ τ_183.2.1 91 j ≤ 60000 := fun j => hT.2 91 j
          have v3 : 0 ≤ τ_183.1 3 ∧ τ_183.1 3 ≤ 1000 := hT.1 3
          have v5 : 0 ≤ τ_183.1 5 ∧ τ_183.1 5 ≤ 1500 := hT.1 5
          have v11 : (-1) ≤ τ_183.1 11 ∧ τ_183.1 11 ≤ 999 := hT.1 11
          have v45 : 0 ≤ τ_183.1 45 ∧ τ_183.1 45 ≤ 59 := hT.1 45
          have v50 : 0 ≤ τ_183.1 50 ∧ τ_183.1 50 ≤ 1500 := hT.1 50
          have v51 : 0 ≤ τ_183.1 51 ∧ τ_183.1 51 ≤ 60000 := hT.1 51
          have v52 : 0 ≤ τ_183.1 52 ∧ τ_183.1 52 ≤ 120000 := hT.1 52
          exfalso; (first | omega | (simp only [st_s] <;> omega) | assumption | omega | fail)
        | succ m_183 ih_183 =>
          intro u4_183 u5_183 u6_183 u7_183 u8_183 u9_183 τ_183 hm_183 hT W3 W5 W11 W45 W50 G8 G10 G13 G14 G15 G16 G18 G19 G20 G71 G72 G75 i183_1 i183_2 i183_3 i183_4 i183_5 i183_6 i183_7 i183_8 i183_9 i183_10 i183_11 i183_12 i183_13 i183_14 i183_15 i183_16 i183_17 i183_18 i183_19 i183_20 i183_21 i183_22 i183_23 i183_24 i183_25
          have A8 : ∀ j, 0 ≤ τ_183.2.1 8 j ∧ τ_183.2.1 8 j ≤ 1 := fun j => hT.2 8 j
          have A10 : ∀ j, (-1) ≤ τ_183.2.1 10 j ∧ τ_183.2.1 10 j ≤ 999 := fun j => hT.2 10 j
          have A13 : ∀ j, 0 ≤ τ_183.2.1 13 j ∧ τ_183.2.1 13 j ≤ 4 := fun j => hT.2 13 j
          have A14 : ∀ j, 0 ≤ τ_183.2.1 14 j ∧ τ_183.2.1 14 j ≤ 30000 := fun j => hT.2 14 j
          have A15 : ∀ j, 0 ≤ τ_183.2.1 15 j ∧ τ_183.2.1 15 j ≤ 300 := fun j => hT.2 15 j
          have A16 : ∀ j, 0 ≤ τ_183.2.1 16 j ∧ τ_183.2.1 16 j ≤ 999 := fun j => hT.2 16 j
          have A18 : ∀ j, 0 ≤ τ_183.2.1 18 j ∧ τ_183.2.1 18 j ≤ 90000 := fun j => hT.2 18 j
          have A19 : ∀ j, 0 ≤ τ_183.2.1 19 j ∧ τ_183.2.1 19 j ≤ 60 := fun j => hT.2 19 j
          have A20 : ∀ j, 0 ≤ τ_183.2.1 20 j ∧ τ_183.2.1 20 j ≤ 1499 := fun j => hT.2 20 j
          have A71 : ∀ j, (-1) ≤ τ_183.2.1 71 j ∧ τ_183.2.1 71 j ≤ 99 := fun j => hT.2 71 j
          have A72 : ∀ j, 0 ≤ τ_183.2.1 72 j ∧ τ_183.2.1 72 j ≤ 999 := fun j => hT.2 72 j
          have A75 : ∀ j, 0 ≤ τ_183.2.1 75 j ∧ τ_183.2.1 75 j ≤ 3 := fun j => hT.2 75 j
          have A85 : ∀ j, (-2147483648) ≤ τ_183.2.1 85 j ∧ τ_183.2.1 85 j ≤ 2147483647 := fun j => hT.2 85 j
          have A86 : ∀ j, (-1500) ≤ τ_183.2.1 86 j ∧ τ_183.2.1 86 j ≤ 1499 := fun j => hT.2 86 j
          have A87 : ∀ j, 0 ≤ τ_183.2.1 87 j ∧ τ_183.2.1 87 j ≤ 120000 := fun j => hT.2 87 j
          have A88 : ∀ j, 0 ≤ τ_183.2.1 88 j ∧ τ_183.2.1 88 j ≤ 59 := fun j => hT.2 88 j
          have A89 : ∀ j, 0 ≤ τ_183.2.1 89 j ∧ τ_183.2.1 89 j ≤ 59 := fun j => hT.2 89 j
          have A90 : ∀ j, (-1) ≤ τ_183.2.1 90 j ∧ τ_183.2.1 90 j ≤ 99 := fun j => hT.2 90 j
          have A91 : ∀ j, 0 ≤ τ_183.2.1 91 j ∧ τ_183.2.1 91 j ≤ 60000 := fun j => hT.2 91 j
          have v3 : 0 ≤ τ_183.1 3 ∧ τ_183.1 3 ≤ 1000 := hT.1 3
          have v5 : 0 ≤ τ_183.1 5 ∧ τ_183.1 5 ≤ 1500 := hT.1 5
          have v11 : (-1) ≤ τ_183.1 11 ∧ τ_183.1 11 ≤ 999 := hT.1 11
          have v45 : 0 ≤ τ_183.1 45 ∧ τ_183.1 45 ≤ 59 := hT.1 45
          have v50 : 0 ≤ τ_183.1 50 ∧ τ_183.1 50 ≤ 1500 := hT.1 50
          have v51 : 0 ≤ τ_183.1 51 ∧ τ_183.1 51 ≤ 60000 := hT.1 51
          have v52 : 0 ≤ τ_183.1 52 ∧ τ_183.1 52 ≤ 120000 := hT.1 52
          have vis := y_vi_s (σ := σ) (r := n2) (u := u6_183) i183_18
          have vim := vin u6_183 i183_2.1 i183_2.2
          have tyu := TY u6_183 i183_18 i183_2.2 i183_20
          have t71 := hTσ.2 71 (-2 - y_f σ n2 u6_183)
          have t72 : σ.2.1 71 (-2 - y_f σ n2 u6_183) ≤ 99 := t71.2
          obtain ⟨pw, pw1, pw2, pw3, pw4⟩ := i183_22
          refine h183 n1 n2 u4_183 u5_183 u6_183 u7_183 u8_183 u9_183 τ_183 ?_
          refine ⟨(show 0 ≤ ((61 * (u6_183 - 1)) + u8_183) ∧ ((61 * (u6_183 - 1)) + u8_183) < 3800 from by (first | omega | (simp only [st_s] <;> omega) | assumption | omega | fail)), ?_⟩
          intro x45 r_x45 e_x45
          have b_x45 : (-2147483648) ≤ x45 ∧ x45 ≤ 2147483647 := by rw [e_x45]; exact hT.2 85 _
          have h45 := i183_15 (u6_183 - 1) (by omega) (by omega) u8_183 (by omega) (by omega)
          rw [← e_x45] at h45
          refine ⟨fun c46 => ?_, fun c46 => ?_⟩
          ·
            refine ⟨(⟨by (first | omega | (simp only [st_s] <;> omega) | assumption | omega | fail), by (first | omega | (simp only [st_s] <;> omega) | assumption | omega | fail)⟩ : rg (u8_183 + (-1))), ?_⟩
            exact ih_183 _ _ _ _ _ _ _ (show ((u8_183 + (-1)) : Int) < ((m_183 : Nat) : Int) from by ((first | omega | (simp only [st_s] <;> omega) | assumption | omega | fail))) hT (show τ_183.1 3 = σ.1 3 from by first | exact W3 | omega) (show τ_183.1 5 = σ.1 5 from by first | exact W5 | omega) (show τ_183.1 11 = σ.1 11 from by first | exact W11 | omega) (show τ_183.1 45 = σ.1 45 from by first | exact W45 | omega) (show τ_183.1 50 = σ.1 50 from by first | exact W50 | omega) G8 G10 G13 G14 G15 G16 G18 G19 G20 G71 G72 G75 (show u4_183 = σ.2.1 14 n2 + 1 from by (first | omega | (simp only [st_s] <;> omega) | assumption | omega | fail)) (show 0 ≤ u6_183 ∧ u6_183 ≤ y_nn σ n2 from by (first | omega | (simp only [st_s] <;> omega) | assumption | omega | fail)) (show τ_183.2.1 86 = st (σ.2.1 86) n1 n2 from by (first | omega | (simp only [st_s] <;> omega) | assumption | omega | fail)) (show τ_183.2.1 87 = st (σ.2.1 87) n1 (σ.1 52) from by (first | omega | (simp only [st_s] <;> omega) | assumption | omega | fail)) (show (τ_183.1 52) = (σ.1 52) + σ.2.1 19 n2 from by (first | omega | (simp only [st_s] <;> omega) | assumption | omega | fail)) (show (τ_183.1 51) = (σ.1 51) + (sm (y_vi σ n2) (y_nn σ n2) - sm (y_vi σ n2) u6_183) from by (first | omega | (simp only [st_s] <;> omega) | assumption | omega | fail)) (show ∀ y : Int, y < (σ.1 51) → τ_183.2.1 88 y = σ.2.1 88 y ∧ τ_183.2.1 89 y = σ.2.1 89 y ∧ τ_183.2.1 90 y = σ.2.1 90 y from by (first | omega | (simp only [st_s] <;> omega) | assumption | omega | fail)) (show ∀ e : Int, e < (σ.1 52) → τ_183.2.1 91 e = σ.2.1 91 e from by (first | omega | (simp only [st_s] <;> omega) | assumption | omega | fail)) (show ∀ y : Int, (σ.1 51) ≤ y → y < (τ_183.1 51) → y_c0 σ (τ_183.2.1 90 y) (τ_183.2.1 88 y) (τ_183.2.1 89 y) from by (first | omega | (simp only [st_s] <;> omega) | assumption | omega | fail)) (show y_PD σ n2 (σ.1 52) (σ.1 51) (τ_183.1 51) u6_183 (y_nn σ n2) (σ.2.1 89 n1) u5_183 (τ_183.2.1 91) (τ_183.2.1 88) (τ_183.2.1 89) (τ_183.2.1 90) from by (first | omega | (simp only [st_s] <;> omega) | assumption | omega | fail)) (show sm (y_ws ρ σ (σ.1 51) (τ_183.2.1 90) (τ_183.2.1 88) (τ_183.2.1 89)) ((τ_183.1 51) - (σ.1 51)) ≤ 200 * ((σ.2.1 89 n1) - u5_183 - ((y_nn σ n2 - u6_183) - ((τ_183.1 51) - (σ.1 51)))) - 100 * ((τ_183.1 51) - (σ.1 51)) from by (first | omega | (simp only [st_s] <;> omega) | assumption | omega | fail)) (show y_p1 (σ.2.1 72) (y_Wσ σ) (y_f σ n2) (σ.2.1 88 n1) (u6_183).toNat u5_183 from by (first | omega | (simp only [st_s] <;> omega) | assumption | omega | fail)) (show ¬ y_p2 (σ.2.1 72) (y_Wσ σ) (y_Vσ σ) (y_f σ n2) (σ.2.1 88 n1) (u6_183).toNat u5_183 from by (first | omega | (simp only [st_s] <;> omega) | assumption | omega | fail)) (show u5_183 ≤ (σ.2.1 89 n1) - (y_nn σ n2 - u6_183) from by (first | omega | (simp only [st_s] <;> omega) | assumption | omega | fail)) (show ∀ k : Int, 0 ≤ k → k ≤ y_nn σ n2 → y_f0 (σ.2.1 72) (y_Wσ σ) (y_f σ n2) (σ.2.1 88 n1) (σ.2.1 89 n1) (y_nn σ n2) (τ_183.2.1 85) k from by (first | omega | (simp only [st_s] <;> omega) | assumption | omega | fail)) (show (σ.2.1 88 n1) ≤ u5_183 from by (first | omega | (simp only [st_s] <;> omega) | assumption | omega | fail)) (show ¬ y_U σ n2 from by (first | omega | (simp only [st_s] <;> omega) | assumption | omega | fail)) (show 1 ≤ u6_183 from by (first | omega | (simp only [st_s] <;> omega) | assumption | omega | fail)) (show u7_183 = y_sy σ n2 (u6_183 - 1) from by (first | omega | (simp only [st_s] <;> omega) | assumption | omega | fail)) (show y_f σ n2 u6_183 < 0 from by (first | omega | (simp only [st_s] <;> omega) | assumption | omega | fail)) (show u9_183 = σ.2.1 71 (-2 - y_f σ n2 u6_183) from by (first | omega | (simp only [st_s] <;> omega) | assumption | omega | fail)) (show ∃ p : Int, (σ.2.1 88 n1) ≤ p ∧ p ≤ (u8_183 + (-1)) ∧ y_p1 (σ.2.1 72) (y_Wσ σ) (y_f σ n2) (σ.2.1 88 n1) (u6_183 - 1).toNat p ∧ y_stp (σ.2.1 72) (y_Wσ σ) (y_f σ n2 u6_183) p u5_183 from by (first | exact ⟨pp, pp1, by omega, pp2, pp3⟩ | (have ne : pw ≠ u8_183 := (fun z => absurd ((h45.2 (by omega)).mpr (by rw [← z]; exact pw3)) (by omega)); exact ⟨pw, pw1, by omega, pw3, pw4⟩) | (have ne : pw ≠ u8_183 := (fun z => by (have q9 := pw4; rcases q9 with ⟨w, _⟩ | ⟨_, _, w⟩; (omega); (have w2 := ww.mpr (by rw [← z]; exact w); omega))); exact ⟨pw, pw1, by omega, pw3, pw4⟩) | fail)) (show (u8_183 + (-1)) < u5_183 from by (first | omega | (simp only [st_s] <;> omega) | assumption | omega | fail)) (show u6_183 ≤ (m_133 : Int) from by (first | omega | (simp only [st_s] <;> omega) | assumption | omega | fail)) (show 0 ≤ u9_183 from by (first | omega | (simp only [st_s] <;> omega) | assumption | omega | fail))
          ·
            refine ⟨_, K_X13_wayAt hT (show 0 ≤ u9_183 ∧ u9_183 ≤ 99 from by (first | omega | (simp only [st_s] <;> omega) | assumption | omega | fail)) (show 0 ≤ u8_183 ∧ u8_183 ≤ 60 from by (first | omega | (simp only [st_s] <;> omega) | assumption | omega | fail)) (show 0 ≤ u5_183 ∧ u5_183 ≤ 60 from by (first | omega | (simp only [st_s] <;> omega) | assumption | omega | fail)), ?_⟩
            intro x49 r_x49 hq
            obtain ⟨q48_1, q48_2⟩ := hq
            replace q48_1 : x49 = (u9_183 * 61 + u8_183) * 61 + u5_183 := q48_1
            replace q48_2 : 0 ≤ x49 ∧ x49 < 372100 := q48_2
            refine ⟨(show 0 ≤ x49 ∧ x49 < 372100 from by (first | omega | (simp only [st_s] <;> omega) | assumption | omega | fail)), ?_⟩
            intro x52 r_x52 e_x52
            have b_x52 : 0 ≤ x52 ∧ x52 ≤ 3 := by rw [e_x52]; exact hT.2 75 _
            rw [q48_1, G75] at e_x52
            have ww : 1 ≤ x52 ↔ y_Wσ σ (-2 - y_f σ n2 u6_183) u8_183 u5_183 := by (show 1 ≤ x52 ↔ (0 ≤ -2 - y_f σ n2 u6_183 ∧ -2 - y_f σ n2 u6_183 < σ.1 3 ∧ 0 ≤ σ.2.1 71 (-2 - y_f σ n2 u6_183)) ∧ 1 ≤ σ.2.1 75 ((σ.2.1 71 (-2 - y_f σ n2 u6_183) * 61 + u8_183) * 61 + u5_183); rw [← i183_21, ← e_x52]; exact ⟨fun y => ⟨⟨tyu.1, tyu.2, by omega⟩, y⟩, fun y => y.2⟩)
            refine ⟨fun c53 => ?_, fun c53 => ?_⟩
            ·
              refine ⟨(show 0 ≤ n1 ∧ n1 < 60000 from by (first | omega | (simp only [st_s] <;> omega) | assumption | omega | fail)), ?_⟩
              intro x55 r_x55 e_x55
              have b_x55 : 0 ≤ x55 ∧ x55 ≤ 120000 := by rw [e_x55]; exact hT.2 87 _
              have f55 : x55 = σ.1 52 := by rw [e_x55, i183_4, st_s]
              refine ⟨_, K_X13_hypOf hT (show 0 ≤ n2 from by (first | omega | (simp only [st_s] <;> omega) | assumption | omega | fail)) (show n2 < (τ_183.1 5) from by (first | omega | (simp only [st_s] <;> omega) | assumption | omega | fail)), ?_⟩
              intro x57 r_x57 hq
              obtain ⟨q56_1, q56_2, q56_3⟩ := hq
              replace q56_1 : -1 ≤ x57 ∧ x57 < τ_183.2.1 19 n2 ∨ x57 = -1 := q56_1
              replace q56_2 : 0 ≤ x57 → x57 < τ_183.2.1 19 n2 ∧ τ_183.2.1 16 (τ_183.2.1 14 (τ_183.2.1 20 (τ_183.2.1 18 n2 + x57)) + 1) = u7_183 := q56_2
              replace q56_3 : x57 = -1 → ∀ k : Int, 0 ≤ k → k < τ_183.2.1 19 n2 → τ_183.2.1 16 (τ_183.2.1 14 (τ_183.2.1 20 (τ_183.2.1 18 n2 + k)) + 1) ≠ u7_183 := q56_3
              rw [G14, G16, G18, G19, G20] at q56_2 q56_3
              have h57 : 0 ≤ x57 ∧ x57 < σ.2.1 19 n2 ∧ y_hv σ n2 x57 = y_sy σ n2 (u6_183 - 1) := by (have e3 := rh1 (u6_183 - 1) (by omega) (by omega) (by rw [show u6_183 - 1 + 1 = u6_183 from by omega]; exact i183_20); obtain ⟨k3, hk3, ek3⟩ := e3; have nz : ¬ x57 = -1 := (fun z => q56_3 z k3 hk3.1 hk3.2 (ek3.trans i183_19.symm)); have z0 : 0 ≤ x57 := (by omega); have w := q56_2 z0; exact ⟨z0, w.1, w.2.trans i183_19⟩)
              have stv : y_stp (σ.2.1 72) (y_Wσ σ) (y_f σ n2 u6_183) u8_183 u5_183 := Or.inr ⟨i183_20, i183_23, ww.mp (by omega)⟩
              have p1v := (h45.2 (by omega)).mp (by assumption)
              have pbv := y_p2_b i183_18 (by omega) stv i183_13
              have c0v : y_c0 σ u9_183 u8_183 u5_183 := ⟨⟨by omega, i183_23, by omega⟩, -2 - y_f σ n2 u6_183, i183_21.symm, ww.mp (by omega), pbv.2 p1v i183_20⟩
              have wbv := y_wt_b p6 c0v
              refine ⟨_, K_X13_newNode hT (show (τ_183.1 51) < 60000 from by (first | omega | (simp only [st_s] <;> omega) | assumption | omega | fail)) (show -1 ≤ u9_183 ∧ u9_183 ≤ 99 from by (first | omega | (simp only [st_s] <;> omega) | assumption | omega | fail)) (show 0 ≤ u8_183 ∧ u8_183 ≤ 59 from by (first | omega | (simp only [st_s] <;> omega) | assumption | omega | fail)) (show 0 ≤ u5_183 ∧ u5_183 ≤ 59 from by (first | omega | (simp only [st_s] <;> omega) | assumption | omega | fail)), ?_⟩
              intro x60 τ61 r_x60 hn_τ61 hf_τ61 hq
              obtain ⟨hT, q59_1, q59_2, q59_3, q59_4, q59_5⟩ := hq
              replace q59_1 : x60 = (τ_183.1 51) := q59_1
              replace q59_2 : (τ61.1 51) = (τ_183.1 51) + 1 := q59_2
              replace q59_3 : τ61.2.1 90 = st (τ_183.2.1 90) (τ_183.1 51) u9_183 := q59_3
              replace q59_4 : τ61.2.1 88 = st (τ_183.2.1 88) (τ_183.1 51) u8_183 := q59_4
              replace q59_5 : τ61.2.1 89 = st (τ_183.2.1 89) (τ_183.1 51) u5_183 := q59_5
              have w3_τ61 : τ61.1 3 = τ_183.1 3 := hf_τ61.1 3 (by decide)
              have w5_τ61 : τ61.1 5 = τ_183.1 5 := hf_τ61.1 5 (by decide)
              have w11_τ61 : τ61.1 11 = τ_183.1 11 := hf_τ61.1 11 (by decide)
              have w45_τ61 : τ61.1 45 = τ_183.1 45 := hf_τ61.1 45 (by decide)
              have w50_τ61 : τ61.1 50 = τ_183.1 50 := hf_τ61.1 50 (by decide)
              have w52_τ61 : τ61.1 52 = τ_183.1 52 := hf_τ61.1 52 (by decide)
              have g8_τ61 : τ61.2.1 8 = τ_183.2.1 8 := hf_τ61.2.1 8 (by decide)
              have g10_τ61 : τ61.2.1 10 = τ_183.2.1 10 := hf_τ61.2.1 10 (by decide)
              have g13_τ61 : τ61.2.1 13 = τ_183.2.1 13 := hf_τ61.2.1 13 (by decide)
              have g14_τ61 : τ61.2.1 14 = τ_183.2.1 14 := hf_τ61.2.1 14 (by decide)
              have g15_τ61 : τ61.2.1 15 = τ_183.2.1 15 := hf_τ61.2.1 15 (by decide)
              have g16_τ61 : τ61.2.1 16 = τ_183.2.1 16 := hf_τ61.2.1 16 (by decide)
              have g18_τ61 : τ61.2.1 18 = τ_183.2.1 18 := hf_τ61.2.1 18 (by decide)
              have g19_τ61 : τ61.2.1 19 = τ_183.2.1 19 := hf_τ61.2.1 19 (by decide)
              have g20_τ61 : τ61.2.1 20 = τ_183.2.1 20 := hf_τ61.2.1 20 (by decide)
              have g71_τ61 : τ61.2.1 71 = τ_183.2.1 71 := hf_τ61.2.1 71 (by decide)
              have g72_τ61 : τ61.2.1 72 = τ_183.2.1 72 := hf_τ61.2.1 72 (by decide)
              have g75_τ61 : τ61.2.1 75 = τ_183.2.1 75 := hf_τ61.2.1 75 (by decide)
              have g85_τ61 : τ61.2.1 85 = τ_183.2.1 85 := hf_τ61.2.1 85 (by decide)
              have g86_τ61 : τ61.2.1 86 = τ_183.2.1 86 := hf_τ61.2.1 86 (by decide)
              have g87_τ61 : τ61.2.1 87 = τ_183.2.1 87 := hf_τ61.2.1 87 (by decide)
              have g91_τ61 : τ61.2.1 91 = τ_183.2.1 91 := hf_τ61.2.1 91 (by decide)
              have W3 : τ61.1 3 = σ.1 3 := by first | exact w3_τ61.trans W3 | omega
              have W5 : τ61.1 5 = σ.1 5 := by first | exact w5_τ61.trans W5 | omega
              have W11 : τ61.1 11 = σ.1 11 := by first | exact w11_τ61.trans W11 | omega
              have W45 : τ61.1 45 = σ.1 45 := by first | exact w45_τ61.trans W45 | omega
              have W50 : τ61.1 50 = σ.1 50 := by first | exact w50_τ61.trans W50 | omega
              have G8 : τ61.2.1 8 = σ.2.1 8 := (g8_τ61).trans G8
              have G10 : τ61.2.1 10 = σ.2.1 10 := (g10_τ61).trans G10
              have G13 : τ61.2.1 13 = σ.2.1 13 := (g13_τ61).trans G13
              have G14 : τ61.2.1 14 = σ.2.1 14 := (g14_τ61).trans G14
              have G15 : τ61.2.1 15 = σ.2.1 15 := (g15_τ61).trans G15
              have G16 : τ61.2.1 16 = σ.2.1 16 := (g16_τ61).trans G16
              have G18 : τ61.2.1 18 = σ.2.1 18 := (g18_τ61).trans G18
              have G19 : τ61.2.1 19 = σ.2.1 19 := (g19_τ61).trans G19
              have G20 : τ61.2.1 20 = σ.2.1 20 := (g20_τ61).trans G20
              have G71 : τ61.2.1 71 = σ.2.1 71 := (g71_τ61).trans G71
              have G72 : τ61.2.1 72 = σ.2.1 72 := (g72_τ61).trans G72
              have G75 : τ61.2.1 75 = σ.2.1 75 := (g75_τ61).trans G75
              have A8 : ∀ j, 0 ≤ τ61.2.1 8 j ∧ τ61.2.1 8 j ≤ 1 := fun j => hT.2 8 j
              have A10 : ∀ j, (-1) ≤ τ61.2.1 10 j ∧ τ61.2.1 10 j ≤ 999 := fun j => hT.2 10 j
              have A13 : ∀ j, 0 ≤ τ61.2.1 13 j ∧ τ61.2.1 13 j ≤ 4 := fun j => hT.2 13 j
              have A14 : ∀ j, 0 ≤ τ61.2.1 14 j ∧ τ61.2.1 14 j ≤ 30000 := fun j => hT.2 14 j
              have A15 : ∀ j, 0 ≤ τ61.2.1 15 j ∧ τ61.2.1 15 j ≤ 300 := fun j => hT.2 15 j
              have A16 : ∀ j, 0 ≤ τ61.2.1 16 j ∧ τ61.2.1 16 j ≤ 999 := fun j => hT.2 16 j
              have A18 : ∀ j, 0 ≤ τ61.2.1 18 j ∧ τ61.2.1 18 j ≤ 90000 := fun j => hT.2 18 j
              have A19 : ∀ j, 0 ≤ τ61.2.1 19 j ∧ τ61.2.1 19 j ≤ 60 := fun j => hT.2 19 j
              have A20 : ∀ j, 0 ≤ τ61.2.1 20 j ∧ τ61.2.1 20 j ≤ 1499 := fun j => hT.2 20 j
              have A71 : ∀ j, (-1) ≤ τ61.2.1 71 j ∧ τ61.2.1 71 j ≤ 99 := fun j => hT.2 71 j
              have A72 : ∀ j, 0 ≤ τ61.2.1 72 j ∧ τ61.2.1 72 j ≤ 999 := fun j => hT.2 72 j
              have A75 : ∀ j, 0 ≤ τ61.2.1 75 j ∧ τ61.2.1 75 j ≤ 3 := fun j => hT.2 75 j
              have A85 : ∀ j, (-2147483648) ≤ τ61.2.1 85 j ∧ τ61.2.1 85 j ≤ 2147483647 := fun j => hT.2 85 j
              have A86 : ∀ j, (-1500) ≤ τ61.2.1 86 j ∧ τ61.2.1 86 j ≤ 1499 := fun j => hT.2 86 j
              have A87 : ∀ j, 0 ≤ τ61.2.1 87 j ∧ τ61.2.1 87 j ≤ 120000 := fun j => hT.2 87 j
              have A88 : ∀ j, 0 ≤ τ61.2.1 88 j ∧ τ61.2.1 88 j ≤ 59 := fun j => hT.2 88 j
              have A89 : ∀ j, 0 ≤ τ61.2.1 89 j ∧ τ61.2.1 89 j ≤ 59 := fun j => hT.2 89 j
              have A90 : ∀ j, (-1) ≤ τ61.2.1 90 j ∧ τ61.2.1 90 j ≤ 99 := fun j => hT.2 90 j
              have A91 : ∀ j, 0 ≤ τ61.2.1 91 j ∧ τ61.2.1 91 j ≤ 60000 := fun j => hT.2 91 j
              have v3 : 0 ≤ τ61.1 3 ∧ τ61.1 3 ≤ 1000 := hT.1 3
              have v5 : 0 ≤ τ61.1 5 ∧ τ61.1 5 ≤ 1500 := hT.1 5
              have v11 : (-1) ≤ τ61.1 11 ∧ τ61.1 11 ≤ 999 := hT.1 11
              have v45 : 0 ≤ τ61.1 45 ∧ τ61.1 45 ≤ 59 := hT.1 45
              have v50 : 0 ≤ τ61.1 50 ∧ τ61.1 50 ≤ 1500 := hT.1 50
              have v51 : 0 ≤ τ61.1 51 ∧ τ61.1 51 ≤ 60000 := hT.1 51
              have v52 : 0 ≤ τ61.1 52 ∧ τ61.1 52 ≤ 120000 := hT.1 52
              have pdv := y_PD_v1 i183_10 i183_18 i183_2.2 stv h57.1 h57.2.1 h57.2.2 (by omega) rh4
              have wsv := y_ws_s (ρ := ρ) (σ := σ) (lo := σ.1 51) (hi := τ_183.1 51) (c := u9_183) (p := u8_183) (q := u5_183) (ns := τ_183.2.1 90) (nf := τ_183.2.1 88) (nt := τ_183.2.1 89) (by omega)
              refine ⟨(show 0 ≤ (x55 + x57) ∧ (x55 + x57) < 120000 from by (first | omega | (simp only [st_s] <;> omega) | assumption | omega | fail)), ?_⟩
              replace hT := mT_a (k := 91) (j := (x55 + x57)) hT (show (0 : Int) ≤ x60 ∧ x60 ≤ 60000 from by (first | omega | (simp only [st_s] <;> omega) | assumption | omega | fail))
              refine ⟨(⟨by (first | omega | (simp only [st_s] <;> omega) | assumption | omega | fail), by (first | omega | (simp only [st_s] <;> omega) | assumption | omega | fail)⟩ : rg (u6_183 + (-1))), ?_⟩
              exact ih_133 _ _ _ _ (show ((u6_183 + (-1)) : Int) < ((m_133 : Nat) : Int) from by ((first | omega | (simp only [st_s] <;> omega) | assumption | omega | fail))) hT (show τ61.1 3 = σ.1 3 from by first | exact W3 | omega) (show τ61.1 5 = σ.1 5 from by first | exact W5 | omega) (show τ61.1 11 = σ.1 11 from by first | exact W11 | omega) (show τ61.1 45 = σ.1 45 from by first | exact W45 | omega) (show τ61.1 50 = σ.1 50 from by first | exact W50 | omega) G8 G10 G13 G14 G15 G16 G18 G19 G20 G71 G72 G75 (show u4_183 = σ.2.1 14 n2 + 1 from by (first | omega | (simp only [st_s] <;> omega) | assumption | omega | fail)) (show 0 ≤ (u6_183 + (-1)) ∧ (u6_183 + (-1)) ≤ y_nn σ n2 from by (first | omega | (simp only [st_s] <;> omega) | assumption | omega | fail)) (show τ61.2.1 86 = st (σ.2.1 86) n1 n2 from by (first | exact i133_3 | rfl | (rw [g86_τ15]) | (rw [g86_τ61]; exact i183_3) | fail)) (show τ61.2.1 87 = st (σ.2.1 87) n1 (σ.1 52) from by (first | exact i133_4 | rfl | (rw [g87_τ15]) | (rw [g87_τ61]; exact i183_4) | fail)) (show (τ61.1 52) = (σ.1 52) + σ.2.1 19 n2 from by (first | omega | (simp only [st_s] <;> omega) | assumption | omega | fail)) (show (τ61.1 51) = (σ.1 51) + (sm (y_vi σ n2) (y_nn σ n2) - sm (y_vi σ n2) (u6_183 + (-1))) from by (first | (rw [show x5 - 1 = y_nn σ n2 from by omega]; omega) | (have w := vis (by omega); have w2 := fk.1 (by assumption); rw [show u6_133 + -1 = u6_133 - 1 from by omega]; omega) | (rw [show u6_183 + -1 = u6_183 - 1 from by omega]; omega) | fail)) (show ∀ y : Int, y < (σ.1 51) → τ61.2.1 88 y = σ.2.1 88 y ∧ τ61.2.1 89 y = σ.2.1 89 y ∧ τ61.2.1 90 y = σ.2.1 90 y from by (first | exact i133_7 | (intro y a; rw [g88_τ15, g89_τ15, g90_τ15]; exact ⟨rfl, rfl, rfl⟩) | (intro y a; rw [q59_4, q59_5, q59_3, st_n _ _ (show y ≠ τ_183.1 51 by omega), st_n _ _ (show y ≠ τ_183.1 51 by omega), st_n _ _ (show y ≠ τ_183.1 51 by omega)]; exact i183_7 y a) | fail)) (show ∀ e : Int, e < (σ.1 52) → (st (τ61.2.1 91) (x55 + x57) x60) e = σ.2.1 91 e from by (first | exact i133_8 | (intro e a; rw [g91_τ15]) | (intro e a; rw [st_n _ _ (by omega), g91_τ61]; exact i183_8 e a) | fail)) (show ∀ y : Int, (σ.1 51) ≤ y → y < (τ61.1 51) → y_c0 σ (τ61.2.1 90 y) (τ61.2.1 88 y) (τ61.2.1 89 y) from by (first | exact i133_9 | (intro y a b; exfalso; omega) | (intro y a b; rw [q59_4, q59_5, q59_3]; rcases (by omega : y < τ_183.1 51 ∨ y = τ_183.1 51) with z | z; (rw [st_n _ _ (show y ≠ τ_183.1 51 by omega), st_n _ _ (show y ≠ τ_183.1 51 by omega), st_n _ _ (show y ≠ τ_183.1 51 by omega)]; exact i183_9 y a z); (rw [z, st_s, st_s, st_s]; exact c0v)) | fail)) (show y_PD σ n2 (σ.1 52) (σ.1 51) (τ61.1 51) (u6_183 + (-1)) (y_nn σ n2) (σ.2.1 89 n1) u8_183 ((st (τ61.2.1 91) (x55 + x57) x60)) (τ61.2.1 88) (τ61.2.1 89) (τ61.2.1 90) from by (first | (rw [show x5 - 1 = y_nn σ n2 from by omega, e16]; exact y_PD_0) | exact y_PD_c1 i133_10 (by omega) i133_2.2 (by (have w2 := fk.1 (by assumption); omega)) (by (have w2 := fk.1 (by assumption); rw [show u5_133 - 1 = pp from by (have q9 := pp3; rcases q9 with ⟨_, w, _⟩ | ⟨w, _⟩ <;> omega)]; exact pp3)) | (rw [q59_4, q59_5, q59_3, q59_2, q59_1, g91_τ61, f55]; rw [← i183_21] at pdv; exact pdv) | fail)) (show sm (y_ws ρ σ (σ.1 51) (τ61.2.1 90) (τ61.2.1 88) (τ61.2.1 89)) ((τ61.1 51) - (σ.1 51)) ≤ 200 * ((σ.2.1 89 n1) - u8_183 - ((y_nn σ n2 - (u6_183 + (-1))) - ((τ61.1 51) - (σ.1 51)))) - 100 * ((τ61.1 51) - (σ.1 51)) from by (first | (rw [show τ15.1 51 - σ.1 51 = 0 from by omega, sm_0]; omega) | (have w := i133_11; omega) | (rw [q59_4, q59_5, q59_3, q59_2, wsv]; omega) | fail)) (show y_p1 (σ.2.1 72) (y_Wσ σ) (y_f σ n2) (σ.2.1 88 n1) ((u6_183 + (-1))).toNat u8_183 from by (first | (rw [show x5 - 1 = y_nn σ n2 from by omega, e16]; exact p7) | (rw [show u6_133 + -1 = u6_133 - 1 from by omega, show u5_133 - 1 = pp from by (have w2 := fk.1 (by assumption); have q9 := pp3; rcases q9 with ⟨_, w, _⟩ | ⟨w, _⟩ <;> omega)]; exact pp2) | (rw [show u6_183 + -1 = u6_183 - 1 from by omega]; exact p1v) | fail)) (show ¬ y_p2 (σ.2.1 72) (y_Wσ σ) (y_Vσ σ) (y_f σ n2) (σ.2.1 88 n1) ((u6_183 + (-1))).toNat u8_183 from by (first | (rw [show x5 - 1 = y_nn σ n2 from by omega, e16]; exact p8) | (rw [show u6_133 + -1 = u6_133 - 1 from by omega, show u5_133 - 1 = pp from by (have w2 := fk.1 (by assumption); have q9 := pp3; rcases q9 with ⟨_, w, _⟩ | ⟨w, _⟩ <;> omega)]; exact pbb.1) | (rw [show u6_183 + -1 = u6_183 - 1 from by omega]; exact pbv.1) | fail)) (show u8_183 ≤ (σ.2.1 89 n1) - (y_nn σ n2 - (u6_183 + (-1))) from by (first | omega | (simp only [st_s] <;> omega) | assumption | omega | fail)) (show ∀ k : Int, 0 ≤ k → k ≤ y_nn σ n2 → y_f0 (σ.2.1 72) (y_Wσ σ) (y_f σ n2) (σ.2.1 88 n1) (σ.2.1 89 n1) (y_nn σ n2) (τ61.2.1 85) k from by (first | exact F0s | exact i133_15 | (rw [g85_τ61]; exact i183_15) | fail)) (show (σ.2.1 88 n1) ≤ u8_183 from by (first | omega | (have w2 := fk.1 (by assumption); have q9 := pp3; rcases q9 with ⟨_, w, _⟩ | ⟨w, _⟩ <;> omega) | fail)) (show ¬ y_U σ n2 from by (first | exact i133_17 | exact i183_17 | exact fun z => absurd (q7u.mpr z) (by omega) | fail))
            ·
              refine ⟨(⟨by (first | omega | (simp only [st_s] <;> omega) | assumption | omega | fail), by (first | omega | (simp only [st_s] <;> omega) | assumption | omega | fail)⟩ : rg (u8_183 + (-1))), ?_⟩
              exact ih_183 _ _ _ _ _ _ _ (show ((u8_183 + (-1)) : Int) < ((m_183 : Nat) : Int) from by ((first | omega | (simp only [st_s] <;> omega) | assumption | omega | fail))) hT (show τ_183.1 3 = σ.1 3 from by first | exact W3 | omega) (show τ_183.1 5 = σ.1 5 from by first | exact W5 | omega) (show τ_183.1 11 = σ.1 11 from by first | exact W11 | omega) (show τ_183.1 45 = σ.1 45 from by first | exact W45 | omega) (show τ_183.1 50 = σ.1 50 from by first | exact W50 | omega) G8 G10 G13 G14 G15 G16 G18 G19 G20 G71 G72 G75 (show u4_183 = σ.2.1 14 n2 + 1 from by (first | omega | (simp only [st_s] <;> omega) | assumption | omega | fail)) (show 0 ≤ u6_183 ∧ u6_183 ≤ y_nn σ n2 from by (first | omega | (simp only [st_s] <;> omega) | assumption | omega | fail)) (show τ_183.2.1 86 = st (σ.2.1 86) n1 n2 from by (first | omega | (simp only [st_s] <;> omega) | assumption | omega | fail)) (show τ_183.2.1 87 = st (σ.2.1 87) n1 (σ.1 52) from by (first | omega | (simp only [st_s] <;> omega) | assumption | omega | fail)) (show (τ_183.1 52) = (σ.1 52) + σ.2.1 19 n2 from by (first | omega | (simp only [st_s] <;> omega) | assumption | omega | fail)) (show (τ_183.1 51) = (σ.1 51) + (sm (y_vi σ n2) (y_nn σ n2) - sm (y_vi σ n2) u6_183) from by (first | omega | (simp only [st_s] <;> omega) | assumption | omega | fail)) (show ∀ y : Int, y < (σ.1 51) → τ_183.2.1 88 y = σ.2.1 88 y ∧ τ_183.2.1 89 y = σ.2.1 89 y ∧ τ_183.2.1 90 y = σ.2.1 90 y from by (first | omega | (simp only [st_s] <;> omega) | assumption | omega | fail)) (show ∀ e : Int, e < (σ.1 52) → τ_183.2.1 91 e = σ.2.1 91 e from by (first | omega | (simp only [st_s] <;> omega) | assumption | omega | fail)) (show ∀ y : Int, (σ.1 51) ≤ y → y < (τ_183.1 51) → y_c0 σ (τ_183.2.1 90 y) (τ_183.2.1 88 y) (τ_183.2.1 89 y) from by (first | omega | (simp only [st_s] <;> omega) | assumption | omega | fail)) (show y_PD σ n2 (σ.1 52) (σ.1 51) (τ_183.1 51) u6_183 (y_nn σ n2) (σ.2.1 89 n1) u5_183 (τ_183.2.1 91) (τ_183.2.1 88) (τ_183.2.1 89) (τ_183.2.1 90) from by (first | omega | (simp only [st_s] <;> omega) | assumption | omega | fail)) (show sm (y_ws ρ σ (σ.1 51) (τ_183.2.1 90) (τ_183.2.1 88) (τ_183.2.1 89)) ((τ_183.1 51) - (σ.1 51)) ≤ 200 * ((σ.2.1 89 n1) - u5_183 - ((y_nn σ n2 - u6_183) - ((τ_183.1 51) - (σ.1 51)))) - 100 * ((τ_183.1 51) - (σ.1 51)) from by (first | omega | (simp only [st_s] <;> omega) | assumption | omega | fail)) (show y_p1 (σ.2.1 72) (y_Wσ σ) (y_f σ n2) (σ.2.1 88 n1) (u6_183).toNat u5_183 from by (first | omega | (simp only [st_s] <;> omega) | assumption | omega | fail)) (show ¬ y_p2 (σ.2.1 72) (y_Wσ σ) (y_Vσ σ) (y_f σ n2) (σ.2.1 88 n1) (u6_183).toNat u5_183 from by (first | omega | (simp only [st_s] <;> omega) | assumption | omega | fail)) (show u5_183 ≤ (σ.2.1 89 n1) - (y_nn σ n2 - u6_183) from by (first | omega | (simp only [st_s] <;> omega) | assumption | omega | fail)) (show ∀ k : Int, 0 ≤ k → k ≤ y_nn σ n2 → y_f0 (σ.2.1 72) (y_Wσ σ) (y_f σ n2) (σ.2.1 88 n1) (σ.2.1 89 n1) (y_nn σ n2) (τ_183.2.1 85) k from by (first | omega | (simp only [st_s] <;> omega) | assumption | omega | fail)) (show (σ.2.1 88 n1) ≤ u5_183 from by (first | omega | (simp only [st_s] <;> omega) | assumption | omega | fail)) (show ¬ y_U σ n2 from by (first | omega | (simp only [st_s] <;> omega) | assumption | omega | fail)) (show 1 ≤ u6_183 from by (first | omega | (simp only [st_s] <;> omega) | assumption | omega | fail)) (show u7_183 = y_sy σ n2 (u6_183 - 1) from by (first | omega | (simp only [st_s] <;> omega) | assumption | omega | fail)) (show y_f σ n2 u6_183 < 0 from by (first | omega | (simp only [st_s] <;> omega) | assumption | omega | fail)) (show u9_183 = σ.2.1 71 (-2 - y_f σ n2 u6_183) from by (first | omega | (simp only [st_s] <;> omega) | assumption | omega | fail)) (show ∃ p : Int, (σ.2.1 88 n1) ≤ p ∧ p ≤ (u8_183 + (-1)) ∧ y_p1 (σ.2.1 72) (y_Wσ σ) (y_f σ n2) (σ.2.1 88 n1) (u6_183 - 1).toNat p ∧ y_stp (σ.2.1 72) (y_Wσ σ) (y_f σ n2 u6_183) p u5_183 from by (first | exact ⟨pp, pp1, by omega, pp2, pp3⟩ | (have ne : pw ≠ u8_183 := (fun z => absurd ((h45.2 (by omega)).mpr (by rw [← z]; exact pw3)) (by omega)); exact ⟨pw, pw1, by omega, pw3, pw4⟩) | (have ne : pw ≠ u8_183 := (fun z => by (have q9 := pw4; rcases q9 with ⟨w, _⟩ | ⟨_, _, w⟩; (omega); (have w2 := ww.mpr (by rw [← z]; exact w); omega))); exact ⟨pw, pw1, by omega, pw3, pw4⟩) | fail)) (show (u8_183 + (-1)) < u5_183 from by (first | omega | (simp only [st_s] <;> omega) | assumption | omega | fail)) (show u6_183 ≤ (m_133 : Int) from by (first | omega | (simp only [st_s] <;> omega) | assumption | omega | fail)) (show 0 ≤ u9_183 from by (first | omega | (simp only [st_s] <;> omega) | assumption | omega | fail))
      refine h133 n1 n2 u4_133 u5_133 u6_133 τ_133 ?_
      refine ⟨fun c32 => ?_, fun c32 => ?_⟩
      ·
        exact ⟨hT, (show τ_133.2.1 86 = st (σ.2.1 86) n1 n2 from by (first | exact i133_3 | (rw [g86_τ30]) | fail)), (show τ_133.2.1 87 = st (σ.2.1 87) n1 (σ.1 52) from by (first | exact i133_4 | (rw [g87_τ30]) | fail)), (show (τ_133.1 52) = (σ.1 52) + σ.2.1 19 n2 from by (first | omega | (simp only [st_s] <;> omega) | assumption | omega | fail)), (show (τ_133.1 51) = (σ.1 51) + sm (y_vi σ n2) (y_nn σ n2) from by (first | (have w := i133_6; rw [show u6_133 = 0 from by omega, sm_0] at w; omega) | (rw [n1e, vi1]; omega) | fail)), (show ∀ y : Int, y < (σ.1 51) → τ_133.2.1 88 y = σ.2.1 88 y ∧ τ_133.2.1 89 y = σ.2.1 89 y ∧ τ_133.2.1 90 y = σ.2.1 90 y from by (first | exact i133_7 | (intro y a; rw [q28_4, q28_5, q28_3, st_n _ _ (by omega), st_n _ _ (by omega), st_n _ _ (by omega)]; exact ⟨rfl, rfl, rfl⟩) | fail)), (show ∀ e : Int, e < (σ.1 52) → τ_133.2.1 91 e = σ.2.1 91 e from by (first | exact i133_8 | (intro e a; rw [st_n _ _ (by omega), g91_τ30]) | fail)), (show ∀ y : Int, (σ.1 51) ≤ y → y < (τ_133.1 51) → y_c0 σ (τ_133.2.1 90 y) (τ_133.2.1 88 y) (τ_133.2.1 89 y) from by (first | exact i133_9 | (intro y a b; rw [q28_4, q28_5, q28_3, show y = σ.1 51 from by omega, st_s, st_s, st_s]; exact c0u) | fail)), (show ∃ D : Int → Int, y_wy (σ.2.1 72) (y_Wσ σ) (y_f σ n2) (σ.2.1 88 n1) (σ.2.1 89 n1) (y_nn σ n2) D ∧ ∀ m : Int, 0 ≤ m → m < y_nn σ n2 → y_f σ n2 (m + 1) < 0 → ∃ k : Int, (0 ≤ k ∧ k < σ.2.1 19 n2) ∧ y_hv σ n2 k = y_sy σ n2 m ∧ ((σ.1 51) ≤ τ_133.2.1 91 ((σ.1 52) + k) ∧ τ_133.2.1 91 ((σ.1 52) + k) < (τ_133.1 51)) ∧ τ_133.2.1 90 (τ_133.2.1 91 ((σ.1 52) + k)) = σ.2.1 71 (-2 - y_f σ n2 (m + 1)) ∧ τ_133.2.1 88 (τ_133.2.1 91 ((σ.1 52) + k)) = D m ∧ τ_133.2.1 89 (τ_133.2.1 91 ((σ.1 52) + k)) = D (m + 1) from by (first | (have w := i133_10; rw [show u6_133 = 0 from by omega] at w; exact y_PD_e w (by (have w2 := i133_12; rw [show u6_133 = 0 from by omega] at w2; exact w2))) | (rw [q28_4, q28_5, q28_3, q28_2, q28_1, g91_τ30, f19, e_x26, e_x27, f25]; rw [show (1 : Int) + -1 = 0 from rfl, show σ.1 52 + 0 = σ.1 52 from by omega] at pdu; exact y_PD_e pdu rfl) | fail)), (show sm (y_ws ρ σ (σ.1 51) (τ_133.2.1 90) (τ_133.2.1 88) (τ_133.2.1 89)) ((τ_133.1 51) - (σ.1 51)) + 1 ≤ y_wt ρ σ (σ.2.1 90 n1) (σ.2.1 88 n1) (σ.2.1 89 n1) from by (first | (have w := i133_11; have w2 := i133_12; rw [show u6_133 = 0 from by omega] at w2; have w3 : u5_133 = σ.2.1 88 n1 := w2; have w4 := i133_6; rw [show u6_133 = 0 from by omega, sm_0] at w4; have w5 := vin (y_nn σ n2) (by omega) (Int.le_refl _); have q9 := nuv; rcases q9 with nv | nv <;> omega) | (rw [q28_4, q28_5, q28_3, q28_2, wsu, show σ.1 51 - σ.1 51 = 0 from by omega, sm_0]; omega) | fail))⟩
      ·
        refine ⟨(show 0 ≤ ((u4_133 + u6_133) - 1) ∧ ((u4_133 + u6_133) - 1) < 30400 from by (first | omega | (simp only [st_s] <;> omega) | assumption | omega | fail)), ?_⟩
        intro x34 r_x34 e_x34
        have b_x34 : 0 ≤ x34 ∧ x34 ≤ 999 := by rw [e_x34]; exact hT.2 16 _
        rw [G16] at e_x34
        have f34 : x34 = y_sy σ n2 (u6_133 - 1) := by (rw [e_x34]; exact congrArg (σ.2.1 16) (by omega))
        refine ⟨(show 0 ≤ x34 ∧ x34 < 1001 from by (first | omega | (simp only [st_s] <;> omega) | assumption | omega | fail)), ?_⟩
        intro x36 r_x36 e_x36
        have b_x36 : 0 ≤ x36 ∧ x36 ≤ 1 := by rw [e_x36]; exact hT.2 8 _
        rw [G8] at e_x36
        have fk := y_fk f34
        rw [← e_x36] at fk
        have b34 := B16 (u4_133 + u6_133 - 1)
        rw [← e_x34] at b34
        refine ⟨fun c37 => ?_, fun c37 => ?_⟩
        ·
          obtain ⟨pp, pp1, pp2, pp3⟩ := (y_p1_b (by omega)).mp i133_12
          have pbb := y_p2_b (by omega) pp1 pp3 i133_13
          refine ⟨(⟨by (first | omega | (simp only [st_s] <;> omega) | assumption | omega | fail), by (first | omega | (simp only [st_s] <;> omega) | assumption | omega | fail)⟩ : rg (u5_133 - 1)), ?_⟩
          refine ⟨(⟨by (first | omega | (simp only [st_s] <;> omega) | assumption | omega | fail), by (first | omega | (simp only [st_s] <;> omega) | assumption | omega | fail)⟩ : rg (u6_133 + (-1))), ?_⟩
          exact ih_133 _ _ _ _ (show ((u6_133 + (-1)) : Int) < ((m_133 : Nat) : Int) from by ((first | omega | (simp only [st_s] <;> omega) | assumption | omega | fail))) hT (show τ_133.1 3 = σ.1 3 from by first | exact W3 | omega) (show τ_133.1 5 = σ.1 5 from by first | exact W5 | omega) (show τ_133.1 11 = σ.1 11 from by first | exact W11 | omega) (show τ_133.1 45 = σ.1 45 from by first | exact W45 | omega) (show τ_133.1 50 = σ.1 50 from by first | exact W50 | omega) G8 G10 G13 G14 G15 G16 G18 G19 G20 G71 G72 G75 (show u4_133 = σ.2.1 14 n2 + 1 from by (first | omega | (simp only [st_s] <;> omega) | assumption | omega | fail)) (show 0 ≤ (u6_133 + (-1)) ∧ (u6_133 + (-1)) ≤ y_nn σ n2 from by (first | omega | (simp only [st_s] <;> omega) | assumption | omega | fail)) (show τ_133.2.1 86 = st (σ.2.1 86) n1 n2 from by (first | exact i133_3 | rfl | (rw [g86_τ15]) | (rw [g86_τ61]; exact i183_3) | fail)) (show τ_133.2.1 87 = st (σ.2.1 87) n1 (σ.1 52) from by (first | exact i133_4 | rfl | (rw [g87_τ15]) | (rw [g87_τ61]; exact i183_4) | fail)) (show (τ_133.1 52) = (σ.1 52) + σ.2.1 19 n2 from by (first | omega | (simp only [st_s] <;> omega) | assumption | omega | fail)) (show (τ_133.1 51) = (σ.1 51) + (sm (y_vi σ n2) (y_nn σ n2) - sm (y_vi σ n2) (u6_133 + (-1))) from by (first | (rw [show x5 - 1 = y_nn σ n2 from by omega]; omega) | (have w := vis (by omega); have w2 := fk.1 (by assumption); rw [show u6_133 + -1 = u6_133 - 1 from by omega]; omega) | (rw [show u6_183 + -1 = u6_183 - 1 from by omega]; omega) | fail)) (show ∀ y : Int, y < (σ.1 51) → τ_133.2.1 88 y = σ.2.1 88 y ∧ τ_133.2.1 89 y = σ.2.1 89 y ∧ τ_133.2.1 90 y = σ.2.1 90 y from by (first | exact i133_7 | (intro y a; rw [g88_τ15, g89_τ15, g90_τ15]; exact ⟨rfl, rfl, rfl⟩) | (intro y a; rw [q59_4, q59_5, q59_3, st_n _ _ (show y ≠ τ_183.1 51 by omega), st_n _ _ (show y ≠ τ_183.1 51 by omega), st_n _ _ (show y ≠ τ_183.1 51 by omega)]; exact i183_7 y a) | fail)) (show ∀ e : Int, e < (σ.1 52) → τ_133.2.1 91 e = σ.2.1 91 e from by (first | exact i133_8 | (intro e a; rw [g91_τ15]) | (intro e a; rw [st_n _ _ (by omega), g91_τ61]; exact i183_8 e a) | fail)) (show ∀ y : Int, (σ.1 51) ≤ y → y < (τ_133.1 51) → y_c0 σ (τ_133.2.1 90 y) (τ_133.2.1 88 y) (τ_133.2.1 89 y) from by (first | exact i133_9 | (intro y a b; exfalso; omega) | (intro y a b; rw [q59_4, q59_5, q59_3]; rcases (by omega : y < τ_183.1 51 ∨ y = τ_183.1 51) with z | z; (rw [st_n _ _ (show y ≠ τ_183.1 51 by omega), st_n _ _ (show y ≠ τ_183.1 51 by omega), st_n _ _ (show y ≠ τ_183.1 51 by omega)]; exact i183_9 y a z); (rw [z, st_s, st_s, st_s]; exact c0v)) | fail)) (show y_PD σ n2 (σ.1 52) (σ.1 51) (τ_133.1 51) (u6_133 + (-1)) (y_nn σ n2) (σ.2.1 89 n1) (u5_133 - 1) (τ_133.2.1 91) (τ_133.2.1 88) (τ_133.2.1 89) (τ_133.2.1 90) from by (first | (rw [show x5 - 1 = y_nn σ n2 from by omega, e16]; exact y_PD_0) | exact y_PD_c1 i133_10 (by omega) i133_2.2 (by (have w2 := fk.1 (by assumption); omega)) (by (have w2 := fk.1 (by assumption); rw [show u5_133 - 1 = pp from by (have q9 := pp3; rcases q9 with ⟨_, w, _⟩ | ⟨w, _⟩ <;> omega)]; exact pp3)) | (rw [q59_4, q59_5, q59_3, q59_2, q59_1, g91_τ61, f55]; rw [← i183_21] at pdv; exact pdv) | fail)) (show sm (y_ws ρ σ (σ.1 51) (τ_133.2.1 90) (τ_133.2.1 88) (τ_133.2.1 89)) ((τ_133.1 51) - (σ.1 51)) ≤ 200 * ((σ.2.1 89 n1) - (u5_133 - 1) - ((y_nn σ n2 - (u6_133 + (-1))) - ((τ_133.1 51) - (σ.1 51)))) - 100 * ((τ_133.1 51) - (σ.1 51)) from by (first | (rw [show τ15.1 51 - σ.1 51 = 0 from by omega, sm_0]; omega) | (have w := i133_11; omega) | (rw [q59_4, q59_5, q59_3, q59_2, wsv]; omega) | fail)) (show y_p1 (σ.2.1 72) (y_Wσ σ) (y_f σ n2) (σ.2.1 88 n1) ((u6_133 + (-1))).toNat (u5_133 - 1) from by (first | (rw [show x5 - 1 = y_nn σ n2 from by omega, e16]; exact p7) | (rw [show u6_133 + -1 = u6_133 - 1 from by omega, show u5_133 - 1 = pp from by (have w2 := fk.1 (by assumption); have q9 := pp3; rcases q9 with ⟨_, w, _⟩ | ⟨w, _⟩ <;> omega)]; exact pp2) | (rw [show u6_183 + -1 = u6_183 - 1 from by omega]; exact p1v) | fail)) (show ¬ y_p2 (σ.2.1 72) (y_Wσ σ) (y_Vσ σ) (y_f σ n2) (σ.2.1 88 n1) ((u6_133 + (-1))).toNat (u5_133 - 1) from by (first | (rw [show x5 - 1 = y_nn σ n2 from by omega, e16]; exact p8) | (rw [show u6_133 + -1 = u6_133 - 1 from by omega, show u5_133 - 1 = pp from by (have w2 := fk.1 (by assumption); have q9 := pp3; rcases q9 with ⟨_, w, _⟩ | ⟨w, _⟩ <;> omega)]; exact pbb.1) | (rw [show u6_183 + -1 = u6_183 - 1 from by omega]; exact pbv.1) | fail)) (show (u5_133 - 1) ≤ (σ.2.1 89 n1) - (y_nn σ n2 - (u6_133 + (-1))) from by (first | omega | (simp only [st_s] <;> omega) | assumption | omega | fail)) (show ∀ k : Int, 0 ≤ k → k ≤ y_nn σ n2 → y_f0 (σ.2.1 72) (y_Wσ σ) (y_f σ n2) (σ.2.1 88 n1) (σ.2.1 89 n1) (y_nn σ n2) (τ_133.2.1 85) k from by (first | exact F0s | exact i133_15 | (rw [g85_τ61]; exact i183_15) | fail)) (show (σ.2.1 88 n1) ≤ (u5_133 - 1) from by (first | omega | (have w2 := fk.1 (by assumption); have q9 := pp3; rcases q9 with ⟨_, w, _⟩ | ⟨w, _⟩ <;> omega) | fail)) (show ¬ y_U σ n2 from by (first | exact i133_17 | exact i183_17 | exact fun z => absurd (q7u.mpr z) (by omega) | fail))
        ·
          obtain ⟨pp, pp1, pp2, pp3⟩ := (y_p1_b (by omega)).mp i133_12
          have pbb := y_p2_b (by omega) pp1 pp3 i133_13
          intro x40 r_x40 e_x40
          have b_x40 : (-1) ≤ x40 ∧ x40 ≤ 999 := by rw [e_x40]; exact hT.2 10 _
          rw [G10] at e_x40
          have f40 := fk.2 (by assumption)
          rw [← e_x40] at f40
          have t40 := TY u6_133 (by omega) (by omega) (by (have w := hTσ.2 10 x34; have w1 : -1 ≤ σ.2.1 10 x34 := w.1; omega))
          refine ⟨(show 0 ≤ x40 ∧ x40 < 1001 from by (first | omega | (simp only [st_s] <;> omega) | assumption | omega | fail)), ?_⟩
          intro x42 r_x42 e_x42
          have b_x42 : (-1) ≤ x42 ∧ x42 ≤ 99 := by rw [e_x42]; exact hT.2 71 _
          rw [G71] at e_x42
          have f42 : x42 = σ.2.1 71 (-2 - y_f σ n2 u6_133) := by (rw [e_x42, show x40 = -2 - y_f σ n2 u6_133 from by omega])
          have p42 : 0 ≤ x42 := by (rw [f42]; rcases pp3 with ⟨w, _⟩ | ⟨_, _, w⟩; (exfalso; omega); (exact w.1.2.2))
          have l42 : pp < u5_133 := by (rcases pp3 with ⟨w, _⟩ | ⟨_, w, _⟩; (exfalso; omega); (exact w))
          refine ⟨(⟨by (first | omega | (simp only [st_s] <;> omega) | assumption | omega | fail), by (first | omega | (simp only [st_s] <;> omega) | assumption | omega | fail)⟩ : rg (u5_133 - 1)), ?_⟩
          exact l_183 (((u5_133 - 1) : Int).toNat + 1) _ _ _ _ _ _ _ (show ((u5_133 - 1) : Int) < ((((u5_133 - 1) : Int).toNat + 1 : Nat) : Int) from by ((first | omega | (simp only [st_s] <;> omega) | assumption | omega | fail))) hT (show τ_133.1 3 = σ.1 3 from by first | exact W3 | omega) (show τ_133.1 5 = σ.1 5 from by first | exact W5 | omega) (show τ_133.1 11 = σ.1 11 from by first | exact W11 | omega) (show τ_133.1 45 = σ.1 45 from by first | exact W45 | omega) (show τ_133.1 50 = σ.1 50 from by first | exact W50 | omega) G8 G10 G13 G14 G15 G16 G18 G19 G20 G71 G72 G75 (show u4_133 = σ.2.1 14 n2 + 1 from by (first | omega | (simp only [st_s] <;> omega) | assumption | omega | fail)) (show 0 ≤ u6_133 ∧ u6_133 ≤ y_nn σ n2 from by (first | omega | (simp only [st_s] <;> omega) | assumption | omega | fail)) (show τ_133.2.1 86 = st (σ.2.1 86) n1 n2 from by (first | omega | (simp only [st_s] <;> omega) | assumption | omega | fail)) (show τ_133.2.1 87 = st (σ.2.1 87) n1 (σ.1 52) from by (first | omega | (simp only [st_s] <;> omega) | assumption | omega | fail)) (show (τ_133.1 52) = (σ.1 52) + σ.2.1 19 n2 from by (first | omega | (simp only [st_s] <;> omega) | assumption | omega | fail)) (show (τ_133.1 51) = (σ.1 51) + (sm (y_vi σ n2) (y_nn σ n2) - sm (y_vi σ n2) u6_133) from by (first | omega | (simp only [st_s] <;> omega) | assumption | omega | fail)) (show ∀ y : Int, y < (σ.1 51) → τ_133.2.1 88 y = σ.2.1 88 y ∧ τ_133.2.1 89 y = σ.2.1 89 y ∧ τ_133.2.1 90 y = σ.2.1 90 y from by (first | omega | (simp only [st_s] <;> omega) | assumption | omega | fail)) (show ∀ e : Int, e < (σ.1 52) → τ_133.2.1 91 e = σ.2.1 91 e from by (first | omega | (simp only [st_s] <;> omega) | assumption | omega | fail)) (show ∀ y : Int, (σ.1 51) ≤ y → y < (τ_133.1 51) → y_c0 σ (τ_133.2.1 90 y) (τ_133.2.1 88 y) (τ_133.2.1 89 y) from by (first | omega | (simp only [st_s] <;> omega) | assumption | omega | fail)) (show y_PD σ n2 (σ.1 52) (σ.1 51) (τ_133.1 51) u6_133 (y_nn σ n2) (σ.2.1 89 n1) u5_133 (τ_133.2.1 91) (τ_133.2.1 88) (τ_133.2.1 89) (τ_133.2.1 90) from by (first | omega | (simp only [st_s] <;> omega) | assumption | omega | fail)) (show sm (y_ws ρ σ (σ.1 51) (τ_133.2.1 90) (τ_133.2.1 88) (τ_133.2.1 89)) ((τ_133.1 51) - (σ.1 51)) ≤ 200 * ((σ.2.1 89 n1) - u5_133 - ((y_nn σ n2 - u6_133) - ((τ_133.1 51) - (σ.1 51)))) - 100 * ((τ_133.1 51) - (σ.1 51)) from by (first | omega | (simp only [st_s] <;> omega) | assumption | omega | fail)) (show y_p1 (σ.2.1 72) (y_Wσ σ) (y_f σ n2) (σ.2.1 88 n1) (u6_133).toNat u5_133 from by (first | omega | (simp only [st_s] <;> omega) | assumption | omega | fail)) (show ¬ y_p2 (σ.2.1 72) (y_Wσ σ) (y_Vσ σ) (y_f σ n2) (σ.2.1 88 n1) (u6_133).toNat u5_133 from by (first | omega | (simp only [st_s] <;> omega) | assumption | omega | fail)) (show u5_133 ≤ (σ.2.1 89 n1) - (y_nn σ n2 - u6_133) from by (first | omega | (simp only [st_s] <;> omega) | assumption | omega | fail)) (show ∀ k : Int, 0 ≤ k → k ≤ y_nn σ n2 → y_f0 (σ.2.1 72) (y_Wσ σ) (y_f σ n2) (σ.2.1 88 n1) (σ.2.1 89 n1) (y_nn σ n2) (τ_133.2.1 85) k from by (first | omega | (simp only [st_s] <;> omega) | assumption | omega | fail)) (show (σ.2.1 88 n1) ≤ u5_133 from by (first | omega | (simp only [st_s] <;> omega) | assumption | omega | fail)) (show ¬ y_U σ n2 from by (first | omega | (simp only [st_s] <;> omega) | assumption | omega | fail)) (show 1 ≤ u6_133 from by (first | omega | (simp only [st_s] <;> omega) | assumption | omega | fail)) (show x34 = y_sy σ n2 (u6_133 - 1) from by (first | omega | (simp only [st_s] <;> omega) | assumption | omega | fail)) (show y_f σ n2 u6_133 < 0 from by (first | omega | (simp only [st_s] <;> omega) | assumption | omega | fail)) (show x42 = σ.2.1 71 (-2 - y_f σ n2 u6_133) from by (first | omega | (simp only [st_s] <;> omega) | assumption | omega | fail)) (show ∃ p : Int, (σ.2.1 88 n1) ≤ p ∧ p ≤ (u5_133 - 1) ∧ y_p1 (σ.2.1 72) (y_Wσ σ) (y_f σ n2) (σ.2.1 88 n1) (u6_133 - 1).toNat p ∧ y_stp (σ.2.1 72) (y_Wσ σ) (y_f σ n2 u6_133) p u5_133 from by (first | exact ⟨pp, pp1, by omega, pp2, pp3⟩ | (have ne : pw ≠ u8_183 := (fun z => absurd ((h45.2 (by omega)).mpr (by rw [← z]; exact pw3)) (by omega)); exact ⟨pw, pw1, by omega, pw3, pw4⟩) | (have ne : pw ≠ u8_183 := (fun z => by (have q9 := pw4; rcases q9 with ⟨w, _⟩ | ⟨_, _, w⟩; (omega); (have w2 := ww.mpr (by rw [← z]; exact w); omega))); exact ⟨pw, pw1, by omega, pw3, pw4⟩) | fail)) (show (u5_133 - 1) < u5_133 from by (first | omega | (simp only [st_s] <;> omega) | assumption | omega | fail)) (show u6_133 ≤ (m_133 : Int) from by (first | omega | (simp only [st_s] <;> omega) | assumption | omega | fail)) (show 0 ≤ x42 from by (first | omega | (simp only [st_s] <;> omega) | assumption | omega | fail))
  refine ⟨(show 0 ≤ n1 ∧ n1 < 60000 from by (first | omega | (simp only [st_s] <;> omega) | assumption | omega | fail)), ?_⟩
  replace hT := mT_a (k := 86) (j := n1) hT (show (-1500 : Int) ≤ n2 ∧ n2 ≤ 1499 from by (first | omega | (simp only [st_s] <;> omega) | assumption | omega | fail))
  replace hT := mT_a (k := 87) (j := n1) hT (show (0 : Int) ≤ (σ.1 52) ∧ (σ.1 52) ≤ 120000 from by (first | omega | (simp only [st_s] <;> omega) | assumption | omega | fail))
  refine ⟨(show 0 ≤ n2 ∧ n2 < 1501 from by (first | omega | (simp only [st_s] <;> omega) | assumption | omega | fail)), ?_⟩
  intro x3 r_x3 e_x3
  have b_x3 : 0 ≤ x3 ∧ x3 ≤ 60 := by rw [e_x3]; exact hT.2 19 _
  refine ⟨(⟨by (first | omega | (simp only [st_s] <;> omega) | assumption | omega | fail), by (first | omega | (simp only [st_s] <;> omega) | assumption | omega | fail)⟩ : rg (σ.1 52 + x3)), ?_⟩
  replace hT := mT_v (i := 52) hT (show 0 ≤ (σ.1 52 + x3) ∧ (σ.1 52 + x3) ≤ 120000 from by (first | omega | (simp only [st_s] <;> omega) | assumption | omega | fail))
  intro x5 r_x5 e_x5
  have b_x5 : 0 ≤ x5 ∧ x5 ≤ 300 := by rw [e_x5]; exact hT.2 15 _
  intro x6 r_x6 e_x6
  have b_x6 : 0 ≤ x6 ∧ x6 ≤ 30000 := by rw [e_x6]; exact hT.2 14 _
  refine ⟨_, K_X13_isUnit hT (show 0 ≤ n2 from by (first | omega | (simp only [st_s] <;> omega) | assumption | omega | fail)) (show n2 < (σ.1 5) from by (first | omega | (simp only [st_s] <;> omega) | assumption | omega | fail)), ?_⟩
  intro x8 r_x8 hq
  obtain ⟨q7_1, q7_2⟩ := hq
  replace q7_1 : 0 ≤ x8 ∧ x8 ≤ 1 := q7_1
  replace q7_2 : ¬ x8 = 0 ↔ y_U (s_v (s_a (s_a σ 86 n1 n2) 87 n1 (σ.1 52)) 52 (σ.1 52 + x3)) n2 := q7_2
  have q7u : ¬ x8 = 0 ↔ y_U σ n2 := q7_2
  refine ⟨fun c10 => ?_, fun c10 => ?_⟩
  ·
    intro x11 r_x11 e_x11
    have b_x11 : 0 ≤ x11 ∧ x11 ≤ 59 := by rw [e_x11]; exact hT.2 88 _
    intro x12 r_x12 e_x12
    have b_x12 : 0 ≤ x12 ∧ x12 ≤ 59 := by rw [e_x12]; exact hT.2 89 _
    have SDc : y_SD σ (s_v (s_a (s_a σ 86 n1 n2) 87 n1 (σ.1 52)) 52 (σ.1 52 + x3)) := ⟨rfl, rfl, rfl, rfl, rfl, rfl, rfl, rfl, rfl, rfl⟩
    obtain ⟨_, sc2, _, sc4, sc5, _, _⟩ := y_SD_e SDc
    refine ⟨_, K_X13_match hT (show 0 ≤ n2 from by (first | omega | (simp only [st_s] <;> omega) | assumption | omega | fail)) (show n2 < (σ.1 5) from by (first | omega | (simp only [st_s] <;> omega) | assumption | omega | fail)) (show y_In (s_v (s_a (s_a σ 86 n1 n2) 87 n1 (σ.1 52)) 52 (σ.1 52 + x3)) n2 from by (rw [sc2]; exact p5)) (show ∀ k : Int, 1 ≤ k → k ≤ y_nn (s_v (s_a (s_a σ 86 n1 n2) 87 n1 (σ.1 52)) 52 (σ.1 52 + x3)) n2 → y_f (s_v (s_a (s_a σ 86 n1 n2) 87 n1 (σ.1 52)) 52 (σ.1 52 + x3)) n2 k < 0 → 0 ≤ -2 - y_f (s_v (s_a (s_a σ 86 n1 n2) 87 n1 (σ.1 52)) 52 (σ.1 52 + x3)) n2 k ∧ -2 - y_f (s_v (s_a (s_a σ 86 n1 n2) 87 n1 (σ.1 52)) 52 (σ.1 52 + x3)) n2 k < (σ.1 3) from by (rw [sc4, sc5]; exact TY)) (show 0 ≤ x11 from by (first | omega | (simp only [st_s] <;> omega) | assumption | omega | fail)) (show x11 < x12 from by (first | omega | (simp only [st_s] <;> omega) | assumption | omega | fail)) (show x12 ≤ 59 from by (first | omega | (simp only [st_s] <;> omega) | assumption | omega | fail)) (show ∀ t p q : Int, 0 ≤ t → t < (σ.1 3) → 0 ≤ σ.2.1 71 t → x11 ≤ p → p < q → q ≤ x12 → 0 ≤ σ.2.1 75 ((σ.2.1 71 t * 61 + p) * 61 + q) ∧ σ.2.1 75 ((σ.2.1 71 t * 61 + p) * 61 + q) ≤ 2 from by (intro t p q a b c d e f; exact (p6.2.2.1 t p q a b c (by omega) e (by omega)).1)), ?_⟩
    intro x14 τ15 r_x14 hn_τ15 hf_τ15 hq
    obtain ⟨hT, q13_1⟩ := hq
    replace q13_1 : y_p1 (σ.2.1 72) (y_W1 (σ.1 3) (σ.2.1 71) (σ.2.1 75)) (y_f (s_v (s_a (s_a σ 86 n1 n2) 87 n1 (σ.1 52)) 52 (σ.1 52 + x3)) n2) x11 (y_nn (s_v (s_a (s_a σ 86 n1 n2) 87 n1 (σ.1 52)) 52 (σ.1 52 + x3)) n2).toNat x12 → ∀ k : Int, 0 ≤ k → k ≤ y_nn (s_v (s_a (s_a σ 86 n1 n2) 87 n1 (σ.1 52)) 52 (σ.1 52 + x3)) n2 → y_f0 (σ.2.1 72) (y_W1 (σ.1 3) (σ.2.1 71) (σ.2.1 75)) (y_f (s_v (s_a (s_a σ 86 n1 n2) 87 n1 (σ.1 52)) 52 (σ.1 52 + x3)) n2) x11 x12 (y_nn (s_v (s_a (s_a σ 86 n1 n2) 87 n1 (σ.1 52)) 52 (σ.1 52 + x3)) n2) (τ15.2.1 85) k := q13_1
    have w3_τ15 : τ15.1 3 = σ.1 3 := hf_τ15.1 3 (by decide)
    have w5_τ15 : τ15.1 5 = σ.1 5 := hf_τ15.1 5 (by decide)
    have w11_τ15 : τ15.1 11 = σ.1 11 := hf_τ15.1 11 (by decide)
    have w45_τ15 : τ15.1 45 = σ.1 45 := hf_τ15.1 45 (by decide)
    have w50_τ15 : τ15.1 50 = σ.1 50 := hf_τ15.1 50 (by decide)
    have w51_τ15 : τ15.1 51 = σ.1 51 := hf_τ15.1 51 (by decide)
    have w52_τ15 : τ15.1 52 = (σ.1 52 + x3) := hf_τ15.1 52 (by decide)
    have g8_τ15 : τ15.2.1 8 = σ.2.1 8 := hf_τ15.2.1 8 (by decide)
    have g10_τ15 : τ15.2.1 10 = σ.2.1 10 := hf_τ15.2.1 10 (by decide)
    have g13_τ15 : τ15.2.1 13 = σ.2.1 13 := hf_τ15.2.1 13 (by decide)
    have g14_τ15 : τ15.2.1 14 = σ.2.1 14 := hf_τ15.2.1 14 (by decide)
    have g15_τ15 : τ15.2.1 15 = σ.2.1 15 := hf_τ15.2.1 15 (by decide)
    have g16_τ15 : τ15.2.1 16 = σ.2.1 16 := hf_τ15.2.1 16 (by decide)
    have g18_τ15 : τ15.2.1 18 = σ.2.1 18 := hf_τ15.2.1 18 (by decide)
    have g19_τ15 : τ15.2.1 19 = σ.2.1 19 := hf_τ15.2.1 19 (by decide)
    have g20_τ15 : τ15.2.1 20 = σ.2.1 20 := hf_τ15.2.1 20 (by decide)
    have g71_τ15 : τ15.2.1 71 = σ.2.1 71 := hf_τ15.2.1 71 (by decide)
    have g72_τ15 : τ15.2.1 72 = σ.2.1 72 := hf_τ15.2.1 72 (by decide)
    have g75_τ15 : τ15.2.1 75 = σ.2.1 75 := hf_τ15.2.1 75 (by decide)
    have g86_τ15 : τ15.2.1 86 = (st (σ.2.1 86) n1 n2) := hf_τ15.2.1 86 (by decide)
    have g87_τ15 : τ15.2.1 87 = (st (σ.2.1 87) n1 (σ.1 52)) := hf_τ15.2.1 87 (by decide)
    have g88_τ15 : τ15.2.1 88 = σ.2.1 88 := hf_τ15.2.1 88 (by decide)
    have g89_τ15 : τ15.2.1 89 = σ.2.1 89 := hf_τ15.2.1 89 (by decide)
    have g90_τ15 : τ15.2.1 90 = σ.2.1 90 := hf_τ15.2.1 90 (by decide)
    have g91_τ15 : τ15.2.1 91 = σ.2.1 91 := hf_τ15.2.1 91 (by decide)
    have W3 : τ15.1 3 = σ.1 3 := by first | exact w3_τ15.trans W3 | omega
    have W5 : τ15.1 5 = σ.1 5 := by first | exact w5_τ15.trans W5 | omega
    have W11 : τ15.1 11 = σ.1 11 := by first | exact w11_τ15.trans W11 | omega
    have W45 : τ15.1 45 = σ.1 45 := by first | exact w45_τ15.trans W45 | omega
    have W50 : τ15.1 50 = σ.1 50 := by first | exact w50_τ15.trans W50 | omega
    have G8 : τ15.2.1 8 = σ.2.1 8 := (g8_τ15).trans G8
    have G10 : τ15.2.1 10 = σ.2.1 10 := (g10_τ15).trans G10
    have G13 : τ15.2.1 13 = σ.2.1 13 := (g13_τ15).trans G13
    have G14 : τ15.2.1 14 = σ.2.1 14 := (g14_τ15).trans G14
    have G15 : τ15.2.1 15 = σ.2.1 15 := (g15_τ15).trans G15
    have G16 : τ15.2.1 16 = σ.2.1 16 := (g16_τ15).trans G16
    have G18 : τ15.2.1 18 = σ.2.1 18 := (g18_τ15).trans G18
    have G19 : τ15.2.1 19 = σ.2.1 19 := (g19_τ15).trans G19
    have G20 : τ15.2.1 20 = σ.2.1 20 := (g20_τ15).trans G20
    have G71 : τ15.2.1 71 = σ.2.1 71 := (g71_τ15).trans G71
    have G72 : τ15.2.1 72 = σ.2.1 72 := (g72_τ15).trans G72
    have G75 : τ15.2.1 75 = σ.2.1 75 := (g75_τ15).trans G75
    have A8 : ∀ j, 0 ≤ τ15.2.1 8 j ∧ τ15.2.1 8 j ≤ 1 := fun j => hT.2 8 j
    have A10 : ∀ j, (-1) ≤ τ15.2.1 10 j ∧ τ15.2.1 10 j ≤ 999 := fun j => hT.2 10 j
    have A13 : ∀ j, 0 ≤ τ15.2.1 13 j ∧ τ15.2.1 13 j ≤ 4 := fun j => hT.2 13 j
    have A14 : ∀ j, 0 ≤ τ15.2.1 14 j ∧ τ15.2.1 14 j ≤ 30000 := fun j => hT.2 14 j
    have A15 : ∀ j, 0 ≤ τ15.2.1 15 j ∧ τ15.2.1 15 j ≤ 300 := fun j => hT.2 15 j
    have A16 : ∀ j, 0 ≤ τ15.2.1 16 j ∧ τ15.2.1 16 j ≤ 999 := fun j => hT.2 16 j
    have A18 : ∀ j, 0 ≤ τ15.2.1 18 j ∧ τ15.2.1 18 j ≤ 90000 := fun j => hT.2 18 j
    have A19 : ∀ j, 0 ≤ τ15.2.1 19 j ∧ τ15.2.1 19 j ≤ 60 := fun j => hT.2 19 j
    have A20 : ∀ j, 0 ≤ τ15.2.1 20 j ∧ τ15.2.1 20 j ≤ 1499 := fun j => hT.2 20 j
    have A71 : ∀ j, (-1) ≤ τ15.2.1 71 j ∧ τ15.2.1 71 j ≤ 99 := fun j => hT.2 71 j
    have A72 : ∀ j, 0 ≤ τ15.2.1 72 j ∧ τ15.2.1 72 j ≤ 999 := fun j => hT.2 72 j
    have A75 : ∀ j, 0 ≤ τ15.2.1 75 j ∧ τ15.2.1 75 j ≤ 3 := fun j => hT.2 75 j
    have A85 : ∀ j, (-2147483648) ≤ τ15.2.1 85 j ∧ τ15.2.1 85 j ≤ 2147483647 := fun j => hT.2 85 j
    have A86 : ∀ j, (-1500) ≤ τ15.2.1 86 j ∧ τ15.2.1 86 j ≤ 1499 := fun j => hT.2 86 j
    have A87 : ∀ j, 0 ≤ τ15.2.1 87 j ∧ τ15.2.1 87 j ≤ 120000 := fun j => hT.2 87 j
    have A88 : ∀ j, 0 ≤ τ15.2.1 88 j ∧ τ15.2.1 88 j ≤ 59 := fun j => hT.2 88 j
    have A89 : ∀ j, 0 ≤ τ15.2.1 89 j ∧ τ15.2.1 89 j ≤ 59 := fun j => hT.2 89 j
    have A90 : ∀ j, (-1) ≤ τ15.2.1 90 j ∧ τ15.2.1 90 j ≤ 99 := fun j => hT.2 90 j
    have A91 : ∀ j, 0 ≤ τ15.2.1 91 j ∧ τ15.2.1 91 j ≤ 60000 := fun j => hT.2 91 j
    have v3 : 0 ≤ τ15.1 3 ∧ τ15.1 3 ≤ 1000 := hT.1 3
    have v5 : 0 ≤ τ15.1 5 ∧ τ15.1 5 ≤ 1500 := hT.1 5
    have v11 : (-1) ≤ τ15.1 11 ∧ τ15.1 11 ≤ 999 := hT.1 11
    have v45 : 0 ≤ τ15.1 45 ∧ τ15.1 45 ≤ 59 := hT.1 45
    have v50 : 0 ≤ τ15.1 50 ∧ τ15.1 50 ≤ 1500 := hT.1 50
    have v51 : 0 ≤ τ15.1 51 ∧ τ15.1 51 ≤ 60000 := hT.1 51
    have v52 : 0 ≤ τ15.1 52 ∧ τ15.1 52 ≤ 120000 := hT.1 52
    rw [sc4, sc5] at q13_1
    have F0s : ∀ k : Int, 0 ≤ k → k ≤ y_nn σ n2 → y_f0 (σ.2.1 72) (y_Wσ σ) (y_f σ n2) (σ.2.1 88 n1) (σ.2.1 89 n1) (y_nn σ n2) (τ15.2.1 85) k := by (rw [← e_x11, ← e_x12]; exact q13_1 (by rw [e_x11, e_x12]; exact p7))
    intro x16 r_x16 e_x16
    have b_x16 : 0 ≤ x16 ∧ x16 ≤ 59 := by rw [e_x16]; exact hT.2 89 _
    have e16 : x16 = σ.2.1 89 n1 := by rw [e_x16, g89_τ15]
    refine ⟨(⟨by (first | omega | (simp only [st_s] <;> omega) | assumption | omega | fail), by (first | omega | (simp only [st_s] <;> omega) | assumption | omega | fail)⟩ : rg (x6 + 1)), ?_⟩
    refine ⟨(⟨by (first | omega | (simp only [st_s] <;> omega) | assumption | omega | fail), by (first | omega | (simp only [st_s] <;> omega) | assumption | omega | fail)⟩ : rg (x5 - 1)), ?_⟩
    exact l_133 (((x5 - 1) : Int).toNat + 1) _ _ _ _ (show ((x5 - 1) : Int) < ((((x5 - 1) : Int).toNat + 1 : Nat) : Int) from by ((first | omega | (simp only [st_s] <;> omega) | assumption | omega | fail))) hT (show τ15.1 3 = σ.1 3 from by first | exact W3 | omega) (show τ15.1 5 = σ.1 5 from by first | exact W5 | omega) (show τ15.1 11 = σ.1 11 from by first | exact W11 | omega) (show τ15.1 45 = σ.1 45 from by first | exact W45 | omega) (show τ15.1 50 = σ.1 50 from by first | exact W50 | omega) G8 G10 G13 G14 G15 G16 G18 G19 G20 G71 G72 G75 (show (x6 + 1) = σ.2.1 14 n2 + 1 from by (first | omega | (simp only [st_s] <;> omega) | assumption | omega | fail)) (show 0 ≤ (x5 - 1) ∧ (x5 - 1) ≤ y_nn σ n2 from by (first | omega | (simp only [st_s] <;> omega) | assumption | omega | fail)) (show τ15.2.1 86 = st (σ.2.1 86) n1 n2 from by (first | exact i133_3 | rfl | (rw [g86_τ15]) | (rw [g86_τ61]; exact i183_3) | fail)) (show τ15.2.1 87 = st (σ.2.1 87) n1 (σ.1 52) from by (first | exact i133_4 | rfl | (rw [g87_τ15]) | (rw [g87_τ61]; exact i183_4) | fail)) (show (τ15.1 52) = (σ.1 52) + σ.2.1 19 n2 from by (first | omega | (simp only [st_s] <;> omega) | assumption | omega | fail)) (show (τ15.1 51) = (σ.1 51) + (sm (y_vi σ n2) (y_nn σ n2) - sm (y_vi σ n2) (x5 - 1)) from by (first | (rw [show x5 - 1 = y_nn σ n2 from by omega]; omega) | (have w := vis (by omega); have w2 := fk.1 (by assumption); rw [show u6_133 + -1 = u6_133 - 1 from by omega]; omega) | (rw [show u6_183 + -1 = u6_183 - 1 from by omega]; omega) | fail)) (show ∀ y : Int, y < (σ.1 51) → τ15.2.1 88 y = σ.2.1 88 y ∧ τ15.2.1 89 y = σ.2.1 89 y ∧ τ15.2.1 90 y = σ.2.1 90 y from by (first | exact i133_7 | (intro y a; rw [g88_τ15, g89_τ15, g90_τ15]; exact ⟨rfl, rfl, rfl⟩) | (intro y a; rw [q59_4, q59_5, q59_3, st_n _ _ (show y ≠ τ_183.1 51 by omega), st_n _ _ (show y ≠ τ_183.1 51 by omega), st_n _ _ (show y ≠ τ_183.1 51 by omega)]; exact i183_7 y a) | fail)) (show ∀ e : Int, e < (σ.1 52) → τ15.2.1 91 e = σ.2.1 91 e from by (first | exact i133_8 | (intro e a; rw [g91_τ15]) | (intro e a; rw [st_n _ _ (by omega), g91_τ61]; exact i183_8 e a) | fail)) (show ∀ y : Int, (σ.1 51) ≤ y → y < (τ15.1 51) → y_c0 σ (τ15.2.1 90 y) (τ15.2.1 88 y) (τ15.2.1 89 y) from by (first | exact i133_9 | (intro y a b; exfalso; omega) | (intro y a b; rw [q59_4, q59_5, q59_3]; rcases (by omega : y < τ_183.1 51 ∨ y = τ_183.1 51) with z | z; (rw [st_n _ _ (show y ≠ τ_183.1 51 by omega), st_n _ _ (show y ≠ τ_183.1 51 by omega), st_n _ _ (show y ≠ τ_183.1 51 by omega)]; exact i183_9 y a z); (rw [z, st_s, st_s, st_s]; exact c0v)) | fail)) (show y_PD σ n2 (σ.1 52) (σ.1 51) (τ15.1 51) (x5 - 1) (y_nn σ n2) (σ.2.1 89 n1) x16 (τ15.2.1 91) (τ15.2.1 88) (τ15.2.1 89) (τ15.2.1 90) from by (first | (rw [show x5 - 1 = y_nn σ n2 from by omega, e16]; exact y_PD_0) | exact y_PD_c1 i133_10 (by omega) i133_2.2 (by (have w2 := fk.1 (by assumption); omega)) (by (have w2 := fk.1 (by assumption); rw [show u5_133 - 1 = pp from by (have q9 := pp3; rcases q9 with ⟨_, w, _⟩ | ⟨w, _⟩ <;> omega)]; exact pp3)) | (rw [q59_4, q59_5, q59_3, q59_2, q59_1, g91_τ61, f55]; rw [← i183_21] at pdv; exact pdv) | fail)) (show sm (y_ws ρ σ (σ.1 51) (τ15.2.1 90) (τ15.2.1 88) (τ15.2.1 89)) ((τ15.1 51) - (σ.1 51)) ≤ 200 * ((σ.2.1 89 n1) - x16 - ((y_nn σ n2 - (x5 - 1)) - ((τ15.1 51) - (σ.1 51)))) - 100 * ((τ15.1 51) - (σ.1 51)) from by (first | (rw [show τ15.1 51 - σ.1 51 = 0 from by omega, sm_0]; omega) | (have w := i133_11; omega) | (rw [q59_4, q59_5, q59_3, q59_2, wsv]; omega) | fail)) (show y_p1 (σ.2.1 72) (y_Wσ σ) (y_f σ n2) (σ.2.1 88 n1) ((x5 - 1)).toNat x16 from by (first | (rw [show x5 - 1 = y_nn σ n2 from by omega, e16]; exact p7) | (rw [show u6_133 + -1 = u6_133 - 1 from by omega, show u5_133 - 1 = pp from by (have w2 := fk.1 (by assumption); have q9 := pp3; rcases q9 with ⟨_, w, _⟩ | ⟨w, _⟩ <;> omega)]; exact pp2) | (rw [show u6_183 + -1 = u6_183 - 1 from by omega]; exact p1v) | fail)) (show ¬ y_p2 (σ.2.1 72) (y_Wσ σ) (y_Vσ σ) (y_f σ n2) (σ.2.1 88 n1) ((x5 - 1)).toNat x16 from by (first | (rw [show x5 - 1 = y_nn σ n2 from by omega, e16]; exact p8) | (rw [show u6_133 + -1 = u6_133 - 1 from by omega, show u5_133 - 1 = pp from by (have w2 := fk.1 (by assumption); have q9 := pp3; rcases q9 with ⟨_, w, _⟩ | ⟨w, _⟩ <;> omega)]; exact pbb.1) | (rw [show u6_183 + -1 = u6_183 - 1 from by omega]; exact pbv.1) | fail)) (show x16 ≤ (σ.2.1 89 n1) - (y_nn σ n2 - (x5 - 1)) from by (first | omega | (simp only [st_s] <;> omega) | assumption | omega | fail)) (show ∀ k : Int, 0 ≤ k → k ≤ y_nn σ n2 → y_f0 (σ.2.1 72) (y_Wσ σ) (y_f σ n2) (σ.2.1 88 n1) (σ.2.1 89 n1) (y_nn σ n2) (τ15.2.1 85) k from by (first | exact F0s | exact i133_15 | (rw [g85_τ61]; exact i183_15) | fail)) (show (σ.2.1 88 n1) ≤ x16 from by (first | omega | (have w2 := fk.1 (by assumption); have q9 := pp3; rcases q9 with ⟨_, w, _⟩ | ⟨w, _⟩ <;> omega) | fail)) (show ¬ y_U σ n2 from by (first | exact i133_17 | exact i183_17 | exact fun z => absurd (q7u.mpr z) (by omega) | fail))
  ·
    intro x19 r_x19 e_x19
    have b_x19 : 0 ≤ x19 ∧ x19 ≤ 120000 := by rw [e_x19]; exact hT.2 87 _
    have f19 : x19 = σ.1 52 := by rw [e_x19, st_s]
    have hU : y_U σ n2 := q7u.mp (by assumption)
    have R1 := y_r1 J hTσ p3 r5 p5 hU
    refine ⟨(show 0 ≤ (x6 + 1) ∧ (x6 + 1) < 30400 from by (first | omega | (simp only [st_s] <;> omega) | assumption | omega | fail)), ?_⟩
    intro x21 r_x21 e_x21
    have b_x21 : 0 ≤ x21 ∧ x21 ≤ 999 := by rw [e_x21]; exact hT.2 16 _
    have f21 : x21 = y_sy σ n2 (1 - 1) := by (rw [e_x21]; exact congrArg (σ.2.1 16) (by omega))
    have fk1 := y_fk f21
    have iv1 : ¬ σ.2.1 8 x21 = 0 := (fun z => by have w := fk1.1 z; have w2 := hU.2; have b := B16 (x6 + 1); rw [← e_x21] at b; omega)
    have f1e := fk1.2 iv1
    have ty1 := TY 1 (Int.le_refl _) nn1 hU.2
    refine ⟨(show 0 ≤ x21 ∧ x21 < 1001 from by (first | omega | (simp only [st_s] <;> omega) | assumption | omega | fail)), ?_⟩
    intro x23 r_x23 e_x23
    have b_x23 : (-1) ≤ x23 ∧ x23 ≤ 999 := by rw [e_x23]; exact hT.2 10 _
    refine ⟨(show 0 ≤ x23 ∧ x23 < 1001 from by (first | omega | (simp only [st_s] <;> omega) | assumption | omega | fail)), ?_⟩
    intro x25 r_x25 e_x25
    have b_x25 : (-1) ≤ x25 ∧ x25 ≤ 99 := by rw [e_x25]; exact hT.2 71 _
    have f25 : x25 = σ.2.1 71 (-2 - y_f σ n2 1) := by (rw [e_x25, e_x23, f1e]; exact congrArg (σ.2.1 71) (by omega))
    intro x26 r_x26 e_x26
    have b_x26 : 0 ≤ x26 ∧ x26 ≤ 59 := by rw [e_x26]; exact hT.2 88 _
    intro x27 r_x27 e_x27
    have b_x27 : 0 ≤ x27 ∧ x27 ≤ 59 := by rw [e_x27]; exact hT.2 89 _
    have n1e : y_nn σ n2 = 1 := hU.1
    have P7 : y_p1 (σ.2.1 72) (y_Wσ σ) (y_f σ n2) (σ.2.1 88 n1) 1 (σ.2.1 89 n1) := by (have w := p7; rw [n1e] at w; exact w)
    have P8 : ¬ y_p2 (σ.2.1 72) (y_Wσ σ) (y_Vσ σ) (y_f σ n2) (σ.2.1 88 n1) 1 (σ.2.1 89 n1) := by (have w := p8; rw [n1e] at w; exact w)
    have WU := (y_u1 hU.2 cij).mp P7
    have VU := fun z => P8 ((y_u2 hU.2 cij).mpr z)
    have c0u : y_c0 σ x25 x26 x27 := by (rw [e_x26, e_x27, f25]; exact ⟨⟨ci0, cij, cjl⟩, _, rfl, WU, VU⟩)
    have q25 : 0 ≤ x25 := by (rw [f25]; exact WU.1.2.2)
    have inj := p6.1.1.2.2.1.2
    have wtu : y_wt ρ σ x25 x26 x27 + 1 ≤ y_wt ρ σ (σ.2.1 90 n1) (σ.2.1 88 n1) (σ.2.1 89 n1) := by (have w := p12 n1e hU.2; rw [e_x26, e_x27, f25]; unfold y_wt; rw [y_inv_s inj WU.1.1 WU.1.2.1 WU.1.2.2]; omega)
    have vi1 : sm (y_vi σ n2) 1 = 1 := by (have w := (y_vi_s (σ := σ) (r := n2) (u := 1) (Int.le_refl _)).1 hU.2; rw [w, show (1 : Int) - 1 = 0 from rfl, sm_0]; rfl)
    refine ⟨_, K_X13_newNode hT (show (σ.1 51) < 60000 from by (first | omega | (simp only [st_s] <;> omega) | assumption | omega | fail)) (show -1 ≤ x25 ∧ x25 ≤ 99 from by (first | omega | (simp only [st_s] <;> omega) | assumption | omega | fail)) (show 0 ≤ x26 ∧ x26 ≤ 59 from by (first | omega | (simp only [st_s] <;> omega) | assumption | omega | fail)) (show 0 ≤ x27 ∧ x27 ≤ 59 from by (first | omega | (simp only [st_s] <;> omega) | assumption | omega | fail)), ?_⟩
    intro x29 τ30 r_x29 hn_τ30 hf_τ30 hq
    obtain ⟨hT, q28_1, q28_2, q28_3, q28_4, q28_5⟩ := hq
    replace q28_1 : x29 = (σ.1 51) := q28_1
    replace q28_2 : (τ30.1 51) = (σ.1 51) + 1 := q28_2
    replace q28_3 : τ30.2.1 90 = st (σ.2.1 90) (σ.1 51) x25 := q28_3
    replace q28_4 : τ30.2.1 88 = st (σ.2.1 88) (σ.1 51) x26 := q28_4
    replace q28_5 : τ30.2.1 89 = st (σ.2.1 89) (σ.1 51) x27 := q28_5
    have w3_τ30 : τ30.1 3 = σ.1 3 := hf_τ30.1 3 (by decide)
    have w5_τ30 : τ30.1 5 = σ.1 5 := hf_τ30.1 5 (by decide)
    have w11_τ30 : τ30.1 11 = σ.1 11 := hf_τ30.1 11 (by decide)
    have w45_τ30 : τ30.1 45 = σ.1 45 := hf_τ30.1 45 (by decide)
    have w50_τ30 : τ30.1 50 = σ.1 50 := hf_τ30.1 50 (by decide)
    have w52_τ30 : τ30.1 52 = (σ.1 52 + x3) := hf_τ30.1 52 (by decide)
    have g8_τ30 : τ30.2.1 8 = σ.2.1 8 := hf_τ30.2.1 8 (by decide)
    have g10_τ30 : τ30.2.1 10 = σ.2.1 10 := hf_τ30.2.1 10 (by decide)
    have g13_τ30 : τ30.2.1 13 = σ.2.1 13 := hf_τ30.2.1 13 (by decide)
    have g14_τ30 : τ30.2.1 14 = σ.2.1 14 := hf_τ30.2.1 14 (by decide)
    have g15_τ30 : τ30.2.1 15 = σ.2.1 15 := hf_τ30.2.1 15 (by decide)
    have g16_τ30 : τ30.2.1 16 = σ.2.1 16 := hf_τ30.2.1 16 (by decide)
    have g18_τ30 : τ30.2.1 18 = σ.2.1 18 := hf_τ30.2.1 18 (by decide)
    have g19_τ30 : τ30.2.1 19 = σ.2.1 19 := hf_τ30.2.1 19 (by decide)
    have g20_τ30 : τ30.2.1 20 = σ.2.1 20 := hf_τ30.2.1 20 (by decide)
    have g71_τ30 : τ30.2.1 71 = σ.2.1 71 := hf_τ30.2.1 71 (by decide)
    have g72_τ30 : τ30.2.1 72 = σ.2.1 72 := hf_τ30.2.1 72 (by decide)
    have g75_τ30 : τ30.2.1 75 = σ.2.1 75 := hf_τ30.2.1 75 (by decide)
    have g85_τ30 : τ30.2.1 85 = σ.2.1 85 := hf_τ30.2.1 85 (by decide)
    have g86_τ30 : τ30.2.1 86 = (st (σ.2.1 86) n1 n2) := hf_τ30.2.1 86 (by decide)
    have g87_τ30 : τ30.2.1 87 = (st (σ.2.1 87) n1 (σ.1 52)) := hf_τ30.2.1 87 (by decide)
    have g91_τ30 : τ30.2.1 91 = σ.2.1 91 := hf_τ30.2.1 91 (by decide)
    have W3 : τ30.1 3 = σ.1 3 := by first | exact w3_τ30.trans W3 | omega
    have W5 : τ30.1 5 = σ.1 5 := by first | exact w5_τ30.trans W5 | omega
    have W11 : τ30.1 11 = σ.1 11 := by first | exact w11_τ30.trans W11 | omega
    have W45 : τ30.1 45 = σ.1 45 := by first | exact w45_τ30.trans W45 | omega
    have W50 : τ30.1 50 = σ.1 50 := by first | exact w50_τ30.trans W50 | omega
    have G8 : τ30.2.1 8 = σ.2.1 8 := (g8_τ30).trans G8
    have G10 : τ30.2.1 10 = σ.2.1 10 := (g10_τ30).trans G10
    have G13 : τ30.2.1 13 = σ.2.1 13 := (g13_τ30).trans G13
    have G14 : τ30.2.1 14 = σ.2.1 14 := (g14_τ30).trans G14
    have G15 : τ30.2.1 15 = σ.2.1 15 := (g15_τ30).trans G15
    have G16 : τ30.2.1 16 = σ.2.1 16 := (g16_τ30).trans G16
    have G18 : τ30.2.1 18 = σ.2.1 18 := (g18_τ30).trans G18
    have G19 : τ30.2.1 19 = σ.2.1 19 := (g19_τ30).trans G19
    have G20 : τ30.2.1 20 = σ.2.1 20 := (g20_τ30).trans G20
    have G71 : τ30.2.1 71 = σ.2.1 71 := (g71_τ30).trans G71
    have G72 : τ30.2.1 72 = σ.2.1 72 := (g72_τ30).trans G72
    have G75 : τ30.2.1 75 = σ.2.1 75 := (g75_τ30).trans G75
    have A8 : ∀ j, 0 ≤ τ30.2.1 8 j ∧ τ30.2.1 8 j ≤ 1 := fun j => hT.2 8 j
    have A10 : ∀ j, (-1) ≤ τ30.2.1 10 j ∧ τ30.2.1 10 j ≤ 999 := fun j => hT.2 10 j
    have A13 : ∀ j, 0 ≤ τ30.2.1 13 j ∧ τ30.2.1 13 j ≤ 4 := fun j => hT.2 13 j
    have A14 : ∀ j, 0 ≤ τ30.2.1 14 j ∧ τ30.2.1 14 j ≤ 30000 := fun j => hT.2 14 j
    have A15 : ∀ j, 0 ≤ τ30.2.1 15 j ∧ τ30.2.1 15 j ≤ 300 := fun j => hT.2 15 j
    have A16 : ∀ j, 0 ≤ τ30.2.1 16 j ∧ τ30.2.1 16 j ≤ 999 := fun j => hT.2 16 j
    have A18 : ∀ j, 0 ≤ τ30.2.1 18 j ∧ τ30.2.1 18 j ≤ 90000 := fun j => hT.2 18 j
    have A19 : ∀ j, 0 ≤ τ30.2.1 19 j ∧ τ30.2.1 19 j ≤ 60 := fun j => hT.2 19 j
    have A20 : ∀ j, 0 ≤ τ30.2.1 20 j ∧ τ30.2.1 20 j ≤ 1499 := fun j => hT.2 20 j
    have A71 : ∀ j, (-1) ≤ τ30.2.1 71 j ∧ τ30.2.1 71 j ≤ 99 := fun j => hT.2 71 j
    have A72 : ∀ j, 0 ≤ τ30.2.1 72 j ∧ τ30.2.1 72 j ≤ 999 := fun j => hT.2 72 j
    have A75 : ∀ j, 0 ≤ τ30.2.1 75 j ∧ τ30.2.1 75 j ≤ 3 := fun j => hT.2 75 j
    have A85 : ∀ j, (-2147483648) ≤ τ30.2.1 85 j ∧ τ30.2.1 85 j ≤ 2147483647 := fun j => hT.2 85 j
    have A86 : ∀ j, (-1500) ≤ τ30.2.1 86 j ∧ τ30.2.1 86 j ≤ 1499 := fun j => hT.2 86 j
    have A87 : ∀ j, 0 ≤ τ30.2.1 87 j ∧ τ30.2.1 87 j ≤ 120000 := fun j => hT.2 87 j
    have A88 : ∀ j, 0 ≤ τ30.2.1 88 j ∧ τ30.2.1 88 j ≤ 59 := fun j => hT.2 88 j
    have A89 : ∀ j, 0 ≤ τ30.2.1 89 j ∧ τ30.2.1 89 j ≤ 59 := fun j => hT.2 89 j
    have A90 : ∀ j, (-1) ≤ τ30.2.1 90 j ∧ τ30.2.1 90 j ≤ 99 := fun j => hT.2 90 j
    have A91 : ∀ j, 0 ≤ τ30.2.1 91 j ∧ τ30.2.1 91 j ≤ 60000 := fun j => hT.2 91 j
    have v3 : 0 ≤ τ30.1 3 ∧ τ30.1 3 ≤ 1000 := hT.1 3
    have v5 : 0 ≤ τ30.1 5 ∧ τ30.1 5 ≤ 1500 := hT.1 5
    have v11 : (-1) ≤ τ30.1 11 ∧ τ30.1 11 ≤ 999 := hT.1 11
    have v45 : 0 ≤ τ30.1 45 ∧ τ30.1 45 ≤ 59 := hT.1 45
    have v50 : 0 ≤ τ30.1 50 ∧ τ30.1 50 ≤ 1500 := hT.1 50
    have v51 : 0 ≤ τ30.1 51 ∧ τ30.1 51 ≤ 60000 := hT.1 51
    have v52 : 0 ≤ τ30.1 52 ∧ τ30.1 52 ≤ 120000 := hT.1 52
    have pdu := y_PD_v1 (σ := σ) (r := n2) (b := σ.1 52) (lo := σ.1 51) (hi := σ.1 51) (u := 1) (nn := y_nn σ n2) (j := σ.2.1 89 n1) (q := σ.2.1 89 n1) (p := σ.2.1 88 n1) (x := 0) (kd := σ.2.1 91) (nf := σ.2.1 88) (nt := σ.2.1 89) (ns := σ.2.1 90) (by rw [n1e]; exact y_PD_0) (Int.le_refl _) (by omega) (Or.inr ⟨hU.2, cij, WU⟩) (Int.le_refl _) (by omega) R1.2 (Int.le_refl _) rh4
    have wsu := y_ws_s (ρ := ρ) (σ := σ) (lo := σ.1 51) (hi := σ.1 51) (c := x25) (p := x26) (q := x27) (ns := σ.2.1 90) (nf := σ.2.1 88) (nt := σ.2.1 89) (Int.le_refl _)
    refine ⟨(show 0 ≤ x19 ∧ x19 < 120000 from by (first | omega | (simp only [st_s] <;> omega) | assumption | omega | fail)), ?_⟩
    replace hT := mT_a (k := 91) (j := x19) hT (show (0 : Int) ≤ x29 ∧ x29 ≤ 60000 from by (first | omega | (simp only [st_s] <;> omega) | assumption | omega | fail))
    exact ⟨hT, (show τ30.2.1 86 = st (σ.2.1 86) n1 n2 from by (first | exact i133_3 | (rw [g86_τ30]) | fail)), (show τ30.2.1 87 = st (σ.2.1 87) n1 (σ.1 52) from by (first | exact i133_4 | (rw [g87_τ30]) | fail)), (show (τ30.1 52) = (σ.1 52) + σ.2.1 19 n2 from by (first | omega | (simp only [st_s] <;> omega) | assumption | omega | fail)), (show (τ30.1 51) = (σ.1 51) + sm (y_vi σ n2) (y_nn σ n2) from by (first | (have w := i133_6; rw [show u6_133 = 0 from by omega, sm_0] at w; omega) | (rw [n1e, vi1]; omega) | fail)), (show ∀ y : Int, y < (σ.1 51) → τ30.2.1 88 y = σ.2.1 88 y ∧ τ30.2.1 89 y = σ.2.1 89 y ∧ τ30.2.1 90 y = σ.2.1 90 y from by (first | exact i133_7 | (intro y a; rw [q28_4, q28_5, q28_3, st_n _ _ (by omega), st_n _ _ (by omega), st_n _ _ (by omega)]; exact ⟨rfl, rfl, rfl⟩) | fail)), (show ∀ e : Int, e < (σ.1 52) → (st (τ30.2.1 91) x19 x29) e = σ.2.1 91 e from by (first | exact i133_8 | (intro e a; rw [st_n _ _ (by omega), g91_τ30]) | fail)), (show ∀ y : Int, (σ.1 51) ≤ y → y < (τ30.1 51) → y_c0 σ (τ30.2.1 90 y) (τ30.2.1 88 y) (τ30.2.1 89 y) from by (first | exact i133_9 | (intro y a b; rw [q28_4, q28_5, q28_3, show y = σ.1 51 from by omega, st_s, st_s, st_s]; exact c0u) | fail)), (show ∃ D : Int → Int, y_wy (σ.2.1 72) (y_Wσ σ) (y_f σ n2) (σ.2.1 88 n1) (σ.2.1 89 n1) (y_nn σ n2) D ∧ ∀ m : Int, 0 ≤ m → m < y_nn σ n2 → y_f σ n2 (m + 1) < 0 → ∃ k : Int, (0 ≤ k ∧ k < σ.2.1 19 n2) ∧ y_hv σ n2 k = y_sy σ n2 m ∧ ((σ.1 51) ≤ (st (τ30.2.1 91) x19 x29) ((σ.1 52) + k) ∧ (st (τ30.2.1 91) x19 x29) ((σ.1 52) + k) < (τ30.1 51)) ∧ τ30.2.1 90 ((st (τ30.2.1 91) x19 x29) ((σ.1 52) + k)) = σ.2.1 71 (-2 - y_f σ n2 (m + 1)) ∧ τ30.2.1 88 ((st (τ30.2.1 91) x19 x29) ((σ.1 52) + k)) = D m ∧ τ30.2.1 89 ((st (τ30.2.1 91) x19 x29) ((σ.1 52) + k)) = D (m + 1) from by (first | (have w := i133_10; rw [show u6_133 = 0 from by omega] at w; exact y_PD_e w (by (have w2 := i133_12; rw [show u6_133 = 0 from by omega] at w2; exact w2))) | (rw [q28_4, q28_5, q28_3, q28_2, q28_1, g91_τ30, f19, e_x26, e_x27, f25]; rw [show (1 : Int) + -1 = 0 from rfl, show σ.1 52 + 0 = σ.1 52 from by omega] at pdu; exact y_PD_e pdu rfl) | fail)), (show sm (y_ws ρ σ (σ.1 51) (τ30.2.1 90) (τ30.2.1 88) (τ30.2.1 89)) ((τ30.1 51) - (σ.1 51)) + 1 ≤ y_wt ρ σ (σ.2.1 90 n1) (σ.2.1 88 n1) (σ.2.1 89 n1) from by (first | (have w := i133_11; have w2 := i133_12; rw [show u6_133 = 0 from by omega] at w2; have w3 : u5_133 = σ.2.1 88 n1 := w2; have w4 := i133_6; rw [show u6_133 = 0 from by omega, sm_0] at w4; have w5 := vin (y_nn σ n2) (by omega) (Int.le_refl _); have q9 := nuv; rcases q9 with nv | nv <;> omega) | (rw [q28_4, q28_5, q28_3, q28_2, wsu, show σ.1 51 - σ.1 51 = 0 from by omega, sm_0]; omega) | fail))⟩
