-- pure: what the nodes of a tree weigh
/-- steps over a stretch are a way -/
theorem y_wp {row : Int → Int} {W : Int → Int → Int → Prop} {f : Int → Int} {i j n : Int} {D : Int → Int} (h : y_wy row W f i j n D) : ∀ k : Nat, (k : Int) ≤ n → y_p1 row W f i k (D (k : Int))
  | 0, _ => h.1
  | k + 1, l => by
    have ih := y_wp h k (by omega)
    have l1 := y_p1_l k _ ih
    have c : ((k + 1 : Nat) : Int) = (k : Int) + 1 := by omega
    rw [c]
    rcases h.2.2 (k : Int) (by omega) (by omega) with ⟨a, b, d⟩ | ⟨a, b, d⟩
    · exact Or.inl ⟨a, by omega, by rw [b, show D (k : Int) + 1 - 1 = D (k : Int) by omega]; exact d, by rw [b, show D (k : Int) + 1 - 1 = D (k : Int) by omega]; exact ih⟩
    · exact Or.inr ⟨a, D (k : Int), ⟨by omega, b⟩, ih, d⟩
/-- a step's weight -/
noncomputable def y_sw (ρ : Int → Int → Int → Int) (σ : S0) (r : Int) (D : Int → Int) (m : Int) : Int := if y_f σ r (m + 1) < 0 then y_wt ρ σ (σ.2.1 71 (-2 - y_f σ r (m + 1))) (D m) (D (m + 1)) else 0
/-- the kids of a cell that is reached once weigh less than it -/
theorem y_kw {ρ : Int → Int → Int → Int} {σ : S0} {c i j r : Int} {D : Int → Int} (h : y_TC ρ σ) (n : y_c0 σ c i j) (hr : (0 ≤ r ∧ r < σ.1 50) ∧ y_In σ r ∧ σ.2.1 71 (y_hd σ r) = c) (w : y_wy (σ.2.1 72) (y_Wσ σ) (y_f σ r) i j (y_nn σ r) D) : sm (y_sw ρ σ r D) (y_nn σ r) + 1 ≤ y_wt ρ σ c i j ∧ ∀ m : Int, 0 ≤ m → m < y_nn σ r → 0 ≤ y_sw ρ σ r D m := by
  have nn1 := y_nn1 r hr.2.1
  have b := y_wt_b h n
  have inj := h.1.1.2.2.1.2
  have p1 := y_wp w (y_nn σ r).toNat (by omega)
  rw [show (((y_nn σ r).toNat : Nat) : Int) = y_nn σ r by omega, w.2.1] at p1
  have DD : ∀ m : Nat, (m : Int) ≤ y_nn σ r → i + (m : Int) ≤ D (m : Int) := fun m l => y_p1_l m _ (y_wp w m l)
  have up : ∀ k : Nat, ∀ m : Int, 0 ≤ m → m + (k : Int) ≤ y_nn σ r → D m + (k : Int) ≤ D (m + (k : Int)) := fun k => by
    induction k with
    | zero => intro m _ _; rw [show m + ((0 : Nat) : Int) = m by omega]; omega
    | succ k ih =>
      intro m a e
      have x := ih m a (by omega)
      have y := w.2.2 (m + (k : Int)) (by omega) (by omega)
      rw [show m + ((k + 1 : Nat) : Int) = m + (k : Int) + 1 by omega]
      rcases y with ⟨_, y, _⟩ | ⟨_, y, _⟩ <;> omega
  have Dj : ∀ m : Int, 0 ≤ m → m ≤ y_nn σ r → i ≤ D m ∧ D m ≤ j := fun m a e => by
    have x := DD m.toNat (by omega)
    have y := up (y_nn σ r - m).toNat m a (by omega)
    rw [show m + (((y_nn σ r - m).toNat : Nat) : Int) = y_nn σ r by omega, w.2.1] at y
    rw [show ((m.toNat : Nat) : Int) = m by omega] at x
    omega
  have g0 : ∀ m : Int, 0 ≤ m → m < y_nn σ r → y_f σ r (m + 1) < 0 → D m < D (m + 1) ∧ y_Wσ σ (-2 - y_f σ r (m + 1)) (D m) (D (m + 1)) ∧ (0 ≤ ρ (-2 - y_f σ r (m + 1)) (D m) (D (m + 1)) ∧ ρ (-2 - y_f σ r (m + 1)) (D m) (D (m + 1)) ≤ 99) ∧ y_sw ρ σ r D m = 1 + ρ (-2 - y_f σ r (m + 1)) (D m) (D (m + 1)) + 200 * (D (m + 1) - D m - 1) := fun m a e z => by
    rcases w.2.2 m a e with ⟨x, _⟩ | ⟨_, x, y⟩
    · omega
    · have q := Dj m a (by omega)
      have q2 := Dj (m + 1) (by omega) (by omega)
      have u := ((h.2.1 (-2 - y_f σ r (m + 1)) (D m) (D (m + 1)) (by have := n.1; omega) x (by have := n.1; omega)).2.2 y).1
      refine ⟨x, y, u, ?_⟩
      unfold y_sw y_wt
      rw [if_pos z, y_inv_s inj y.1.1 y.1.2.1 y.1.2.2]
  have gn : ∀ m : Int, 0 ≤ m → m < y_nn σ r → 0 ≤ y_sw ρ σ r D m := fun m a e => by
    by_cases z : y_f σ r (m + 1) < 0
    · have x := g0 m a e z; omega
    · unfold y_sw; rw [if_neg z]; exact Int.le_refl _
  refine ⟨?_, gn⟩
  by_cases U : y_nn σ r = 1
  · rw [U, show (1 : Int) = 0 + 1 from rfl, sm_s _ (Int.le_refl _), sm_0]
    by_cases z : y_f σ r 1 < 0
    · have x := (g0 0 (Int.le_refl _) (by omega) (by simpa using z)).2.2.2
      rw [w.1, show D (0 + 1) = j by (have y := w.2.1; rw [U] at y; exact y)] at x
      obtain ⟨r', hR⟩ := y_R0_e h n
      have nl : ¬ (j = i + 1 ∧ σ.2.1 73 i = c) := fun q => by
        obtain ⟨⟨i0, ij, jl⟩, t, tc, tw, tv⟩ := n
        have QD := h.1.1
        have hd := (QD.2.2.2.1 r hr.1.1 (by have := h.1.2.2; omega) hr.2.1).1
        have et : y_hd σ r = t := by
          rcases Int.lt_trichotomy (y_hd σ r) t with y | y | y
          · exact absurd (hr.2.2.trans tc.symm) (inj _ _ hd.1 y tw.1.2.1 hd.2.2)
          · exact y
          · exact absurd (tc.trans hr.2.2.symm) (inj _ _ tw.1.1 y hd.2.1 tw.1.2.2)
        refine tv ((h.2.1 t i j i0 ij jl).2.1.mpr (Or.inl ⟨(y_lsL inj (QD.2.2.2.2 i i0 (by omega))).mpr ⟨q.1, ?_, ⟨tw.1.1, tw.1.2.1⟩, by rw [tc]; exact q.2.symm⟩, r, ⟨⟨hr.1.1, hr.1.2⟩, hr.2.1, et⟩, p1⟩))
        rw [q.2, ← tc]; exact tw.1.2.2
      obtain ⟨_, _, _, _, _, dec, un⟩ := hR nl
      have e := un r hr.1.1 hr.1.2 hr.2.1 hr.2.2 p1
      subst e
      have d := dec U z
      unfold y_wt
      rw [show (0 : Int) + 1 = 1 from rfl] at x
      omega
    · have x : y_sw ρ σ r D 0 = 0 := by unfold y_sw; rw [if_neg (by simpa using z)]
      have := n.1
      omega
  · have s := sm_le (f := y_sw ρ σ r D) (g := fun m => 200 * (D (m + 1) - D m) + (-100)) (n := y_nn σ r) (fun m a e => by
      show y_sw ρ σ r D m ≤ 200 * (D (m + 1) - D m) + (-100)
      by_cases z : y_f σ r (m + 1) < 0
      · have x := g0 m a e z; omega
      · have y : D m < D (m + 1) := by rcases w.2.2 m a e with ⟨_, y, _⟩ | ⟨y, _⟩ <;> omega
        unfold y_sw; rw [if_neg z]; omega)
    have t : ∀ k : Nat, smN (fun m => 200 * (D (m + 1) - D m) + (-100)) k = 200 * (D (k : Int) - D 0) - 100 * (k : Int) := fun k => by
      induction k with
      | zero => show (0 : Int) = _; simp
      | succ k ih =>
        show smN (fun m => 200 * (D (m + 1) - D m) + (-100)) k + (200 * (D ((k : Int) + 1) - D (k : Int)) + (-100)) = _
        rw [ih, show ((k + 1 : Nat) : Int) = (k : Int) + 1 by omega]
        omega
    have t2 := t (y_nn σ r).toNat
    rw [show (((y_nn σ r).toNat : Nat) : Int) = y_nn σ r by omega, w.2.1, w.1] at t2
    have t3 : sm (fun m => 200 * (D (m + 1) - D m) + (-100)) (y_nn σ r) = 200 * (j - i) - 100 * y_nn σ r := t2
    omega
/-- a node's kids weigh less than it -/
theorem y_kk {ρ : Int → Int → Int → Int} {σ : S0} {is kb kd nf nt ns : Int → Int} {x lo hi kc : Int} (TC : y_TC ρ σ) (hT : m_T σ) (n : y_c0 σ (ns x) (nf x) (nt x)) (nd : y_nd σ is kb kd nf nt ns x lo hi kc) (r0 : 0 ≤ is x) : (is x < σ.1 50 ∧ 0 ≤ kb x ∧ kb x + σ.2.1 19 (is x) ≤ kc) ∧ (∀ k : Int, 0 ≤ k → k < σ.2.1 19 (is x) → lo ≤ kd (kb x + k) ∧ kd (kb x + k) < hi) ∧ sm (fun k => y_wt ρ σ (ns (kd (kb x + k))) (nf (kd (kb x + k))) (nt (kd (kb x + k)))) (σ.2.1 19 (is x)) + 1 ≤ y_wt ρ σ (ns x) (nf x) (nt x) := by
  rcases nd with ⟨_, n1, _⟩ | ⟨n1, n2, n3, n4, D, n5, n6⟩
  · omega
  · obtain ⟨kA, kB⟩ := y_kw TC n ⟨n1, n2, n3⟩ n5
    obtain ⟨_, h2, h3, _⟩ := y_rh TC.2.2.2.1 hT n1.1 (by have := TC.1.2.2; omega) n2
    have nn1 := y_nn1 (is x) n2
    have ch : ∀ k : Int, ∃ m : Int, 0 ≤ k → k < σ.2.1 19 (is x) → (0 ≤ m ∧ m < y_nn σ (is x)) ∧ y_f σ (is x) (m + 1) < 0 ∧ y_hv σ (is x) k = y_sy σ (is x) m := fun k => by
      by_cases z : 0 ≤ k ∧ k < σ.2.1 19 (is x)
      · obtain ⟨m, a, b, c⟩ := h2 k z.1 z.2
        exact ⟨m, fun _ _ => ⟨a, b, c⟩⟩
      · exact ⟨0, fun a b => absurd ⟨a, b⟩ z⟩
    have o := fun k => Classical.choose_spec (ch k)
    have kid : ∀ k : Int, 0 ≤ k → k < σ.2.1 19 (is x) → (lo ≤ kd (kb x + k) ∧ kd (kb x + k) < hi) ∧ y_wt ρ σ (ns (kd (kb x + k))) (nf (kd (kb x + k))) (nt (kd (kb x + k))) = y_sw ρ σ (is x) D (Classical.choose (ch k)) := fun k k0 k1 => by
      obtain ⟨o1, o2, o3⟩ := o k k0 k1
      obtain ⟨k', l0, l1, l2, l3, l4, l5⟩ := n6 _ o1.1 o1.2 o2
      have e : k' = k := by
        have e := l1.trans o3.symm
        rcases Int.lt_trichotomy k' k with y | y | y
        · exact absurd e (h3 k k' l0.1 y k1)
        · exact y
        · exact absurd e.symm (h3 k' k k0 y l0.2)
      rw [e] at l2 l3 l4 l5
      refine ⟨l2, ?_⟩
      unfold y_sw
      rw [if_pos o2, l3, l4, l5]
    refine ⟨⟨n1.2, n4⟩, fun k a b => (kid k a b).1, ?_⟩
    rw [sm_x (fun k a b => (kid k a b).2)]
    have a := sm_i (f := fun k => Classical.choose (ch k)) (w := y_sw ρ σ (is x) D) (n := y_nn σ (is x)) (m := σ.2.1 19 (is x)) (by omega) kB (fun k a b => (o k a b).1) (fun k j a b c e => by
      have ek := (o k a (by omega)).2.2
      have ej := (o j (by omega) c).2.2
      have e : Classical.choose (ch k) = Classical.choose (ch j) := e
      rw [e] at ek
      exact absurd (ek.trans ej.symm) (h3 j k a b c))
    have a : sm (fun k => y_sw ρ σ (is x) D (Classical.choose (ch k))) (σ.2.1 19 (is x)) ≤ sm (y_sw ρ σ (is x) D) (y_nn σ (is x)) := a
    omega
/-- nodes that stand in trees: each has a weight, its kids weigh less -/
def y_TW (σ : S0) (wt : Int → Int) (lo hi : Int) : Prop := ∀ y : Int, lo ≤ y → y < hi → (1 ≤ wt y ∧ wt y ≤ 11700) ∧ (0 ≤ σ.2.1 86 y → (σ.2.1 86 y < σ.1 5 ∧ 0 ≤ σ.2.1 87 y ∧ σ.2.1 87 y + σ.2.1 19 (σ.2.1 86 y) ≤ σ.1 52) ∧ (∀ k : Int, 0 ≤ k → k < σ.2.1 19 (σ.2.1 86 y) → y + 1 ≤ σ.2.1 91 (σ.2.1 87 y + k) ∧ σ.2.1 91 (σ.2.1 87 y + k) < hi) ∧ sm (fun k => wt (σ.2.1 91 (σ.2.1 87 y + k))) (σ.2.1 19 (σ.2.1 86 y)) + 1 ≤ wt y)
theorem y_TW_mk {ρ : Int → Int → Int → Int} {σ : S0} {lo : Int} (TC : y_TC ρ σ) (hT : m_T σ) (c0 : ∀ y : Int, lo ≤ y → y < σ.1 51 → y_c0 σ (σ.2.1 90 y) (σ.2.1 88 y) (σ.2.1 89 y)) (nd : ∀ y : Int, lo ≤ y → y < σ.1 51 → y_nd σ (σ.2.1 86) (σ.2.1 87) (σ.2.1 91) (σ.2.1 88) (σ.2.1 89) (σ.2.1 90) y (y + 1) (σ.1 51) (σ.1 52)) : ∃ wt : Int → Int, y_TW σ wt lo (σ.1 51) := by
  refine ⟨fun y => y_wt ρ σ (σ.2.1 90 y) (σ.2.1 88 y) (σ.2.1 89 y), fun y a b => ⟨?_, fun r0 => ?_⟩⟩
  · have w := y_wt_b TC (c0 y a b)
    have n := (c0 y a b).1
    have l : σ.1 45 ≤ 59 := (hT.1 45).2
    show 1 ≤ y_wt ρ σ _ _ _ ∧ y_wt ρ σ _ _ _ ≤ 11700
    omega
  · obtain ⟨k1, k2, k3⟩ := y_kk TC hT (c0 y a b) (nd y a b) r0
    exact ⟨⟨by have := TC.1.2.2; omega, k1.2⟩, k2, k3⟩
/-- what trees weigh stands while their nodes stand -/
theorem y_TW_e {σ τ : S0} {wt : Int → Int} {lo hi : Int} (h : y_TW σ wt lo hi) (e5 : τ.1 5 = σ.1 5) (e19 : τ.2.1 19 = σ.2.1 19) (e52 : σ.1 52 ≤ τ.1 52) (e86 : ∀ y : Int, lo ≤ y → y < hi → τ.2.1 86 y = σ.2.1 86 y ∧ τ.2.1 87 y = σ.2.1 87 y) (e91 : ∀ e : Int, 0 ≤ e → e < σ.1 52 → τ.2.1 91 e = σ.2.1 91 e) : y_TW τ wt lo hi := fun y a b => by
  obtain ⟨h1, h2⟩ := h y a b
  refine ⟨h1, ?_⟩
  rw [(e86 y a b).1, (e86 y a b).2, e5, e19]
  intro r0
  obtain ⟨g1, g2, g3⟩ := h2 r0
  refine ⟨⟨g1.1, g1.2.1, by omega⟩, fun k k0 k1 => by rw [e91 _ (by omega) (by omega)]; exact g2 k k0 k1, ?_⟩
  rw [sm_x (fun k k0 k1 => by rw [e91 _ (by omega) (by omega)])]
  exact g3
theorem y_TW_h {σ τ : S0} {wt : Int → Int} {lo hi : Int} {wv wa wb : List Nat} (h : y_TW σ wt lo hi) (hf : f_r wv wa wb σ τ) (d1 : [5, 52].all (fun i => !wv.contains i) = true) (d2 : [19, 86, 87, 91].all (fun i => !wa.contains i) = true) : y_TW τ wt lo hi := by
  have V : ∀ i : Nat, i ∈ [5, 52] → τ.1 i = σ.1 i := fun i hi => hf.1 i (by simpa using List.all_eq_true.mp d1 i hi)
  have A : ∀ i : Nat, i ∈ [19, 86, 87, 91] → τ.2.1 i = σ.2.1 i := fun i hi => hf.2.1 i (by simpa using List.all_eq_true.mp d2 i hi)
  exact y_TW_e h (V 5 (by simp)) (A 19 (by simp)) (by rw [V 52 (by simp)]; exact Int.le_refl _) (fun y _ _ => ⟨by rw [A 86 (by simp)], by rw [A 87 (by simp)]⟩) (fun e _ _ => by rw [A 91 (by simp)])
/-- a walk's stack: nodes that are still to come -/
def y_SK (wt : Int → Int) (lo hi n : Int) (st_ : Int → Int) : Prop := ∀ s : Int, 0 ≤ s → s < n → lo ≤ st_ s ∧ st_ s < hi
theorem y_SK_a {wt : Int → Int} {lo hi n x : Int} {f : Int → Int} (h : y_SK wt lo hi n f) (x0 : lo ≤ x) (x1 : x < hi) : y_SK wt lo hi (n + 1) (st f n x) := fun s a b => by
  by_cases z : s = n
  · rw [z, st_s]; exact ⟨x0, x1⟩
  · rw [st_n _ _ z]; exact h s a (by omega)
theorem y_SK_p {wt : Int → Int} {lo hi n m : Int} {f : Int → Int} (h : y_SK wt lo hi n f) (mn : m ≤ n) : y_SK wt lo hi m f := fun s a b => h s a (by omega)
/-- the weight of a stack -/
theorem y_sW_a {wt f : Int → Int} {n x : Int} (n0 : 0 ≤ n) : sm (fun s => wt (st f n x s)) (n + 1) = sm (fun s => wt (f s)) n + wt x := by
  rw [sm_s _ n0, st_s, sm_x (fun s a b => by rw [st_n _ _ (show s ≠ n by omega)])]
theorem y_sW_n {σ : S0} {wt : Int → Int} {lo hi n : Int} {f : Int → Int} (h : y_TW σ wt lo hi) (k : y_SK wt lo hi n f) (n0 : 0 ≤ n) : n ≤ sm (fun s => wt (f s)) n := by
  have a := sm_ge (f := fun s => wt (f s)) n.toNat (fun e e0 e1 => (h _ (k e e0 (by omega)).1 (k e e0 (by omega)).2).1.1)
  have b : ((n.toNat : Nat) : Int) ≤ sm (fun s => wt (f s)) n := a
  omega
/-- a walk over a tree: what was met, what is still to come -/
def y_PZ (σ : S0) (lo hi n2 : Int) (F : Int → Prop) (Z S : Int → Prop) : Prop := ∀ y : Int, Z y → (lo ≤ y ∧ y < hi) ∧ ¬ σ.2.1 86 y = n2 ∧ (σ.2.1 86 y < 0 → F (σ.2.1 86 y)) ∧ (0 ≤ σ.2.1 86 y → ∀ k : Int, 0 ≤ k → k < σ.2.1 19 (σ.2.1 86 y) → Z (σ.2.1 91 (σ.2.1 87 y + k)) ∨ S (σ.2.1 91 (σ.2.1 87 y + k)))
def y_Sk (n : Int) (f : Int → Int) (y : Int) : Prop := ∃ s : Int, (0 ≤ s ∧ s < n) ∧ f s = y
theorem y_PZ_s {σ : S0} {lo hi n2 : Int} {F Z S S' : Int → Prop} (h : y_PZ σ lo hi n2 F Z S) (e : ∀ y : Int, S y → S' y) : y_PZ σ lo hi n2 F Z S' := fun y z => by
  obtain ⟨a, b, c, d⟩ := h y z
  exact ⟨a, b, c, fun r k k0 k1 => (d r k k0 k1).imp id (e _)⟩
theorem y_PZ_u {σ : S0} {lo hi n2 u : Int} {F Z S : Int → Prop} (h : y_PZ σ lo hi n2 F Z (fun y => S y ∨ y = u)) (hu : lo ≤ u ∧ u < hi) (n : ¬ σ.2.1 86 u = n2) (l : σ.2.1 86 u < 0 → F (σ.2.1 86 u)) (k : 0 ≤ σ.2.1 86 u → ∀ k : Int, 0 ≤ k → k < σ.2.1 19 (σ.2.1 86 u) → Z (σ.2.1 91 (σ.2.1 87 u + k)) ∨ S (σ.2.1 91 (σ.2.1 87 u + k))) : y_PZ σ lo hi n2 F (fun y => Z y ∨ y = u) S := fun y z => by
  rcases z with z | z
  · obtain ⟨a, b, c, d⟩ := h y z
    refine ⟨a, b, c, fun r k k0 k1 => ?_⟩
    rcases d r k k0 k1 with w | w | w
    · exact Or.inl (Or.inl w)
    · exact Or.inr w
    · exact Or.inl (Or.inr w)
  · subst z
    exact ⟨hu, n, l, fun r m k0 k1 => (k r m k0 k1).imp Or.inl id⟩
theorem y_Sk_a {n x y : Int} {f : Int → Int} (n0 : 0 ≤ n) (h : y_Sk n f y ∨ y = x) : y_Sk (n + 1) (st f n x) y := by
  rcases h with ⟨s, a, b⟩ | h
  · exact ⟨s, by omega, by rw [st_n _ _ (by omega)]; exact b⟩
  · exact ⟨n, by omega, by rw [st_s, h]⟩
theorem y_Sk_p {n y : Int} {f : Int → Int} (h : y_Sk n f y) : y_Sk (n - 1) f y ∨ y = f (n - 1) := by
  obtain ⟨s, a, b⟩ := h
  rcases (by omega : s < n - 1 ∨ s = n - 1) with z | z
  · exact Or.inl ⟨s, by omega, b⟩
  · exact Or.inr (by rw [← z, b])
/-- kids from one on weigh what is left -/
theorem y_kf (g : Int → Int) {u n : Int} (u0 : 0 ≤ u) (un : u < n) : sm (fun k => g (u + k)) (n - u) = g u + sm (fun k => g (u + 1 + k)) (n - (u + 1)) := by
  have a := sm_at (fun k => g (u + k)) (n := 1) (d := n - u - 1) (by omega) (by omega)
  rw [show 1 + (n - u - 1) = n - u by omega] at a
  rw [a, show (1 : Int) = 0 + 1 from rfl, sm_s _ (Int.le_refl _), sm_0, show n - u - (0 + 1) = n - (u + (0 + 1)) by omega, sm_x (f := fun h => g (u + (0 + 1 + h))) (g := fun k => g (u + (0 + 1) + k)) (fun e _ _ => congrArg g (by omega)), show u + 0 = u by omega]
  omega
theorem y_k0 (g : Int → Int) (n : Int) : sm (fun k => g (0 + k)) (n - 0) = sm g n := by
  rw [show n - 0 = n by omega]
  exact sm_x (fun e _ _ => congrArg g (by omega))
theorem y_sW_p (wt f : Int → Int) {n : Int} (n0 : 0 < n) : sm (fun s => wt (f s)) n = sm (fun s => wt (f s)) (n - 1) + wt (f (n - 1)) := by
  have w := sm_s (fun s => wt (f s)) (n := n - 1) (by omega)
  rw [show n - 1 + 1 = n by omega] at w
  exact w
set_option maxHeartbeats 1000000 in
theorem K_X13_hasLeaf {n1 : Int} {n2 : Int} {wt : Int → Int} {lo hi : Int} {σ : S0} (hT : m_T σ) (p1 : y_TW σ wt lo hi) (p2 : lo ≤ n1 ∧ n1 < hi) (p3 : 0 ≤ lo ∧ hi ≤ 60000) (p4 : 0 ≤ σ.2.1 86 n1) : W_X13_hasLeaf n1 n2 σ (fun (x : Int) => (x = 0 ∨ x = 1) ∧ (x = 1 ↔ ∃ k : Int, (0 ≤ k ∧ k < σ.2.1 19 (σ.2.1 86 n1)) ∧ σ.2.1 86 (σ.2.1 91 (σ.2.1 87 n1 + k)) = n2)) := by
  have A19 : ∀ j, 0 ≤ σ.2.1 19 j ∧ σ.2.1 19 j ≤ 60 := fun j => hT.2 19 j
  have A86 : ∀ j, (-1500) ≤ σ.2.1 86 j ∧ σ.2.1 86 j ≤ 1499 := fun j => hT.2 86 j
  have A87 : ∀ j, 0 ≤ σ.2.1 87 j ∧ σ.2.1 87 j ≤ 120000 := fun j => hT.2 87 j
  have A91 : ∀ j, 0 ≤ σ.2.1 91 j ∧ σ.2.1 91 j ≤ 60000 := fun j => hT.2 91 j
  have v52 : 0 ≤ σ.1 52 ∧ σ.1 52 ≤ 120000 := hT.1 52
  intro P5 h5
  have l52 : σ.1 52 ≤ 120000 := (hT.1 52).2
  obtain ⟨w1, w2⟩ := p1 n1 p2.1 p2.2
  obtain ⟨w3, w4, w5⟩ := w2 p4
  have a19 := A19 (σ.2.1 86 n1)
  have l_5 : ∀ (m_5 : Nat) (u3_5 : Int) (u4_5 : Int), 61 - u4_5 < (m_5 : Int) → (0 ≤ u4_5 ∧ u4_5 ≤ σ.2.1 19 (σ.2.1 86 n1)) → (u3_5 = 0 ∨ u3_5 = 1) → (u3_5 = 1 ↔ ∃ k : Int, (0 ≤ k ∧ k < u4_5) ∧ σ.2.1 86 (σ.2.1 91 (σ.2.1 87 n1 + k)) = n2) → P5 n1 n2 u3_5 u4_5 := by
    intro m_5
    induction m_5 with
    | zero =>
      intro u3_5 u4_5 hm i5_1 i5_2 i5_3
      exfalso; (first | omega | (simp only [st_s] <;> omega) | assumption | omega | fail)
    | succ m_5 ih_5 =>
      intro u3_5 u4_5 hm_5 i5_1 i5_2 i5_3
      refine h5 n1 n2 u3_5 u4_5 ?_
      refine ⟨(show 0 ≤ n1 ∧ n1 < 60000 from by (first | omega | (simp only [st_s] <;> omega) | assumption | omega | fail)), ?_⟩
      intro x2 r_x2 e_x2
      have b_x2 : (-1500) ≤ x2 ∧ x2 ≤ 1499 := by rw [e_x2]; exact hT.2 86 _
      refine ⟨(show 0 ≤ x2 ∧ x2 < 1501 from by (first | omega | (simp only [st_s] <;> omega) | assumption | omega | fail)), ?_⟩
      intro x4 r_x4 e_x4
      have b_x4 : 0 ≤ x4 ∧ x4 ≤ 60 := by rw [e_x4]; exact hT.2 19 _
      rw [e_x2] at e_x4
      refine ⟨fun c5 => ?_, fun c5 => ?_⟩
      ·
        refine ⟨(show 0 ≤ u3_5 ∧ u3_5 ≤ 1 from by (first | omega | (simp only [st_s] <;> omega) | assumption | omega | fail)), ?_⟩
        exact ⟨(show u3_5 = 0 ∨ u3_5 = 1 from by (first | omega | (simp only [st_s] <;> omega) | assumption | omega | fail)), (show u3_5 = 1 ↔ ∃ k : Int, (0 ≤ k ∧ k < σ.2.1 19 (σ.2.1 86 n1)) ∧ σ.2.1 86 (σ.2.1 91 (σ.2.1 87 n1 + k)) = n2 from by (rw [show σ.2.1 19 (σ.2.1 86 n1) = u4_5 from by omega]; exact i5_3))⟩
      ·
        refine ⟨fun c7 => ?_, fun c7 => ?_⟩
        ·
          refine ⟨(⟨by (first | omega | (simp only [st_s] <;> omega) | assumption | omega | fail), by (first | omega | (simp only [st_s] <;> omega) | assumption | omega | fail)⟩ : rg (u4_5 + 1)), ?_⟩
          exact ih_5 _ _ (show (61 - (u4_5 + 1) : Int) < ((m_5 : Nat) : Int) from by ((first | omega | (simp only [st_s] <;> omega) | assumption | omega | fail))) (show 0 ≤ (u4_5 + 1) ∧ (u4_5 + 1) ≤ σ.2.1 19 (σ.2.1 86 n1) from by (first | omega | (simp only [st_s] <;> omega) | assumption | omega | fail)) (show 1 = 0 ∨ 1 = 1 from by (first | omega | (simp only [st_s] <;> omega) | assumption | omega | fail)) (show 1 = 1 ↔ ∃ k : Int, (0 ≤ k ∧ k < (u4_5 + 1)) ∧ σ.2.1 86 (σ.2.1 91 (σ.2.1 87 n1 + k)) = n2 from by (first | (constructor; (intro z; exfalso; omega); (rintro ⟨k, a, _⟩; exfalso; omega)) | (constructor; (intro _; have q9 := i5_3.mp (by omega); obtain ⟨k, a, b⟩ := q9; exact ⟨k, by omega, b⟩); (intro _; rfl)) | (constructor; (intro _; exact ⟨u4_5, by omega, by rw [← e_x9, ← e_x11, ← e_x13]; assumption⟩); (intro _; rfl)) | (constructor; (intro z; exfalso; omega); (rintro ⟨k, a, b⟩; rcases (by omega : k < u4_5 ∨ k = u4_5) with y | y; (have w := i5_3.mpr ⟨k, by omega, b⟩; omega); (rw [y, ← e_x9, ← e_x11, ← e_x13] at b; exact absurd b (by assumption)))) | fail))
        ·
          intro x9 r_x9 e_x9
          have b_x9 : 0 ≤ x9 ∧ x9 ≤ 120000 := by rw [e_x9]; exact hT.2 87 _
          have w6 := w4 u4_5 i5_1.1 (by omega)
          rw [← e_x9] at w6
          refine ⟨(show 0 ≤ (x9 + u4_5) ∧ (x9 + u4_5) < 120000 from by (first | omega | (simp only [st_s] <;> omega) | assumption | omega | fail)), ?_⟩
          intro x11 r_x11 e_x11
          have b_x11 : 0 ≤ x11 ∧ x11 ≤ 60000 := by rw [e_x11]; exact hT.2 91 _
          have w7 : n1 + 1 ≤ x11 ∧ x11 < hi := by (rw [e_x11]; exact w6)
          refine ⟨(show 0 ≤ x11 ∧ x11 < 60000 from by (first | omega | (simp only [st_s] <;> omega) | assumption | omega | fail)), ?_⟩
          intro x13 r_x13 e_x13
          have b_x13 : (-1500) ≤ x13 ∧ x13 ≤ 1499 := by rw [e_x13]; exact hT.2 86 _
          refine ⟨fun c14 => ?_, fun c14 => ?_⟩
          ·
            refine ⟨(⟨by (first | omega | (simp only [st_s] <;> omega) | assumption | omega | fail), by (first | omega | (simp only [st_s] <;> omega) | assumption | omega | fail)⟩ : rg (u4_5 + 1)), ?_⟩
            exact ih_5 _ _ (show (61 - (u4_5 + 1) : Int) < ((m_5 : Nat) : Int) from by ((first | omega | (simp only [st_s] <;> omega) | assumption | omega | fail))) (show 0 ≤ (u4_5 + 1) ∧ (u4_5 + 1) ≤ σ.2.1 19 (σ.2.1 86 n1) from by (first | omega | (simp only [st_s] <;> omega) | assumption | omega | fail)) (show 0 = 0 ∨ 0 = 1 from by (first | omega | (simp only [st_s] <;> omega) | assumption | omega | fail)) (show 0 = 1 ↔ ∃ k : Int, (0 ≤ k ∧ k < (u4_5 + 1)) ∧ σ.2.1 86 (σ.2.1 91 (σ.2.1 87 n1 + k)) = n2 from by (first | (constructor; (intro z; exfalso; omega); (rintro ⟨k, a, _⟩; exfalso; omega)) | (constructor; (intro _; have q9 := i5_3.mp (by omega); obtain ⟨k, a, b⟩ := q9; exact ⟨k, by omega, b⟩); (intro _; rfl)) | (constructor; (intro _; exact ⟨u4_5, by omega, by rw [← e_x9, ← e_x11, ← e_x13]; assumption⟩); (intro _; rfl)) | (constructor; (intro z; exfalso; omega); (rintro ⟨k, a, b⟩; rcases (by omega : k < u4_5 ∨ k = u4_5) with y | y; (have w := i5_3.mpr ⟨k, by omega, b⟩; omega); (rw [y, ← e_x9, ← e_x11, ← e_x13] at b; exact absurd b (by assumption)))) | fail))
          ·
            refine ⟨(⟨by (first | omega | (simp only [st_s] <;> omega) | assumption | omega | fail), by (first | omega | (simp only [st_s] <;> omega) | assumption | omega | fail)⟩ : rg (u4_5 + 1)), ?_⟩
            exact ih_5 _ _ (show (61 - (u4_5 + 1) : Int) < ((m_5 : Nat) : Int) from by ((first | omega | (simp only [st_s] <;> omega) | assumption | omega | fail))) (show 0 ≤ (u4_5 + 1) ∧ (u4_5 + 1) ≤ σ.2.1 19 (σ.2.1 86 n1) from by (first | omega | (simp only [st_s] <;> omega) | assumption | omega | fail)) (show 1 = 0 ∨ 1 = 1 from by (first | omega | (simp only [st_s] <;> omega) | assumption | omega | fail)) (show 1 = 1 ↔ ∃ k : Int, (0 ≤ k ∧ k < (u4_5 + 1)) ∧ σ.2.1 86 (σ.2.1 91 (σ.2.1 87 n1 + k)) = n2 from by (first | (constructor; (intro z; exfalso; omega); (rintro ⟨k, a, _⟩; exfalso; omega)) | (constructor; (intro _; have q9 := i5_3.mp (by omega); obtain ⟨k, a, b⟩ := q9; exact ⟨k, by omega, b⟩); (intro _; rfl)) | (constructor; (intro _; exact ⟨u4_5, by omega, by rw [← e_x9, ← e_x11, ← e_x13]; assumption⟩); (intro _; rfl)) | (constructor; (intro z; exfalso; omega); (rintro ⟨k, a, b⟩; rcases (by omega : k < u4_5 ∨ k = u4_5) with y | y; (have w := i5_3.mpr ⟨k, by omega, b⟩; omega); (rw [y, ← e_x9, ← e_x11, ← e_x13] at b; exact absurd b (by assumption)))) | fail))
  exact l_5 ((61 - 0 : Int).toNat + 1) _ _ (show (61 - 0 : Int) < (((61 - 0 : Int).toNat + 1 : Nat) : Int) from by ((first | omega | (simp only [st_s] <;> omega) | assumption | omega | fail))) (show 0 ≤ 0 ∧ 0 ≤ σ.2.1 19 (σ.2.1 86 n1) from by (first | omega | (simp only [st_s] <;> omega) | assumption | omega | fail)) (show 0 = 0 ∨ 0 = 1 from by (first | omega | (simp only [st_s] <;> omega) | assumption | omega | fail)) (show 0 = 1 ↔ ∃ k : Int, (0 ≤ k ∧ k < 0) ∧ σ.2.1 86 (σ.2.1 91 (σ.2.1 87 n1 + k)) = n2 from by (first | (constructor; (intro z; exfalso; omega); (rintro ⟨k, a, _⟩; exfalso; omega)) | (constructor; (intro _; have q9 := i5_3.mp (by omega); obtain ⟨k, a, b⟩ := q9; exact ⟨k, by omega, b⟩); (intro _; rfl)) | (constructor; (intro _; exact ⟨u4_5, by omega, by rw [← e_x9, ← e_x11, ← e_x13]; assumption⟩); (intro _; rfl)) | (constructor; (intro z; exfalso; omega); (rintro ⟨k, a, b⟩; rcases (by omega : k < u4_5 ∨ k = u4_5) with y | y; (have w := i5_3.mpr ⟨k, by omega, b⟩; omega); (rw [y, ← e_x9, ← e_x11, ← e_x13] at b; exact absurd b (by assumption)))) | fail))
set_option maxHeartbeats 1000000 in
theorem K_X13_isFlat {n1 : Int} {wt : Int → Int} {lo hi : Int} {σ : S0} (hT : m_T σ) (p1 : y_TW σ wt lo hi) (p2 : lo ≤ n1 ∧ n1 < hi) (p3 : 0 ≤ lo ∧ hi ≤ 60000) (p4 : 0 ≤ σ.2.1 86 n1) : W_X13_isFlat n1 σ (fun (x : Int) => (x = 0 ∨ x = 1) ∧ (x = 1 → ∀ k : Int, 0 ≤ k → k < σ.2.1 19 (σ.2.1 86 n1) → σ.2.1 86 (σ.2.1 91 (σ.2.1 87 n1 + k)) < 0 ∧ ∀ j : Int, 0 ≤ j → j < k → ¬ σ.2.1 86 (σ.2.1 91 (σ.2.1 87 n1 + j)) = σ.2.1 86 (σ.2.1 91 (σ.2.1 87 n1 + k)))) := by
  have A19 : ∀ j, 0 ≤ σ.2.1 19 j ∧ σ.2.1 19 j ≤ 60 := fun j => hT.2 19 j
  have A86 : ∀ j, (-1500) ≤ σ.2.1 86 j ∧ σ.2.1 86 j ≤ 1499 := fun j => hT.2 86 j
  have A87 : ∀ j, 0 ≤ σ.2.1 87 j ∧ σ.2.1 87 j ≤ 120000 := fun j => hT.2 87 j
  have A91 : ∀ j, 0 ≤ σ.2.1 91 j ∧ σ.2.1 91 j ≤ 60000 := fun j => hT.2 91 j
  have v52 : 0 ≤ σ.1 52 ∧ σ.1 52 ≤ 120000 := hT.1 52
  intro P4 P57 h4 h57
  have l52 : σ.1 52 ≤ 120000 := (hT.1 52).2
  obtain ⟨w1, w2⟩ := p1 n1 p2.1 p2.2
  obtain ⟨w3, w4, w5⟩ := w2 p4
  have a19 := A19 (σ.2.1 86 n1)
  have l_4 : ∀ (m_4 : Nat) (u2_4 : Int) (u3_4 : Int), 61 - u3_4 < (m_4 : Int) → (0 ≤ u3_4 ∧ u3_4 ≤ σ.2.1 19 (σ.2.1 86 n1)) → (u2_4 = 0 ∨ u2_4 = 1) → (u2_4 = 1 → ∀ k : Int, 0 ≤ k → k < u3_4 → σ.2.1 86 (σ.2.1 91 (σ.2.1 87 n1 + k)) < 0 ∧ ∀ j : Int, 0 ≤ j → j < k → ¬ σ.2.1 86 (σ.2.1 91 (σ.2.1 87 n1 + j)) = σ.2.1 86 (σ.2.1 91 (σ.2.1 87 n1 + k))) → P4 n1 u2_4 u3_4 := by
    intro m_4
    induction m_4 with
    | zero =>
      intro u2_4 u3_4 hm i4_1 i4_2 i4_3
      exfalso; (first | omega | (simp only [st_s] <;> omega) | assumption | omega | fail)
    | succ m_4 ih_4 =>
      intro u2_4 u3_4 hm_4 i4_1 i4_2 i4_3
      have l_57 : ∀ (m_57 : Nat) (u2_57 : Int) (u3_57 : Int) (u4_57 : Int) (u5_57 : Int), 61 - u5_57 < (m_57 : Int) → (0 ≤ u3_57 ∧ u3_57 < σ.2.1 19 (σ.2.1 86 n1)) → (u2_57 = 0 ∨ u2_57 = 1) → (0 ≤ u5_57 ∧ u5_57 ≤ u3_57) → (u4_57 = σ.2.1 86 (σ.2.1 91 (σ.2.1 87 n1 + u3_57))) → (u2_57 = 1 → u4_57 < 0 ∧ (∀ k : Int, 0 ≤ k → k < u3_57 → σ.2.1 86 (σ.2.1 91 (σ.2.1 87 n1 + k)) < 0 ∧ ∀ j : Int, 0 ≤ j → j < k → ¬ σ.2.1 86 (σ.2.1 91 (σ.2.1 87 n1 + j)) = σ.2.1 86 (σ.2.1 91 (σ.2.1 87 n1 + k))) ∧ ∀ j : Int, 0 ≤ j → j < u5_57 → ¬ σ.2.1 86 (σ.2.1 91 (σ.2.1 87 n1 + j)) = u4_57) → (u3_57 + (m_4 : Int) ≥ 61) → P57 n1 u2_57 u3_57 u4_57 u5_57 := by
        intro m_57
        induction m_57 with
        | zero =>
          intro u2_57 u3_57 u4_57 u5_57 hm i57_1 i57_2 i57_3 i57_4 i57_5 i57_6
          exfalso; (first | omega | (simp only [st_s] <;> omega) | assumption | omega | fail)
        | succ m_57 ih_57 =>
          intro u2_57 u3_57 u4_57 u5_57 hm_57 i57_1 i57_2 i57_3 i57_4 i57_5 i57_6
          refine h57 n1 u2_57 u3_57 u4_57 u5_57 ?_
          refine ⟨fun c15 => ?_, fun c15 => ?_⟩
          ·
            refine ⟨(⟨by (first | omega | (simp only [st_s] <;> omega) | assumption | omega | fail), by (first | omega | (simp only [st_s] <;> omega) | assumption | omega | fail)⟩ : rg (u3_57 + 1)), ?_⟩
            exact ih_4 _ _ (show (61 - (u3_57 + 1) : Int) < ((m_4 : Nat) : Int) from by ((first | omega | (simp only [st_s] <;> omega) | assumption | omega | fail))) (show 0 ≤ (u3_57 + 1) ∧ (u3_57 + 1) ≤ σ.2.1 19 (σ.2.1 86 n1) from by (first | omega | (simp only [st_s] <;> omega) | assumption | omega | fail)) (show u2_57 = 0 ∨ u2_57 = 1 from by (first | omega | (simp only [st_s] <;> omega) | assumption | omega | fail)) (show u2_57 = 1 → ∀ k : Int, 0 ≤ k → k < (u3_57 + 1) → σ.2.1 86 (σ.2.1 91 (σ.2.1 87 n1 + k)) < 0 ∧ ∀ j : Int, 0 ≤ j → j < k → ¬ σ.2.1 86 (σ.2.1 91 (σ.2.1 87 n1 + j)) = σ.2.1 86 (σ.2.1 91 (σ.2.1 87 n1 + k)) from by (first | (intro z k a b; exfalso; omega) | (intro z k a b; have q9 := i57_5 (by omega); obtain ⟨v1, v2, v3⟩ := q9; rcases (by omega : k < u3_57 ∨ k = u3_57) with y | y; (exact v2 k a y); (rw [y, ← i57_4]; exact ⟨v1, fun j c d => v3 j c (by omega)⟩)) | fail))
          ·
            refine ⟨fun c17 => ?_, fun c17 => ?_⟩
            ·
              refine ⟨(⟨by (first | omega | (simp only [st_s] <;> omega) | assumption | omega | fail), by (first | omega | (simp only [st_s] <;> omega) | assumption | omega | fail)⟩ : rg (u3_57 + 1)), ?_⟩
              exact ih_4 _ _ (show (61 - (u3_57 + 1) : Int) < ((m_4 : Nat) : Int) from by ((first | omega | (simp only [st_s] <;> omega) | assumption | omega | fail))) (show 0 ≤ (u3_57 + 1) ∧ (u3_57 + 1) ≤ σ.2.1 19 (σ.2.1 86 n1) from by (first | omega | (simp only [st_s] <;> omega) | assumption | omega | fail)) (show u2_57 = 0 ∨ u2_57 = 1 from by (first | omega | (simp only [st_s] <;> omega) | assumption | omega | fail)) (show u2_57 = 1 → ∀ k : Int, 0 ≤ k → k < (u3_57 + 1) → σ.2.1 86 (σ.2.1 91 (σ.2.1 87 n1 + k)) < 0 ∧ ∀ j : Int, 0 ≤ j → j < k → ¬ σ.2.1 86 (σ.2.1 91 (σ.2.1 87 n1 + j)) = σ.2.1 86 (σ.2.1 91 (σ.2.1 87 n1 + k)) from by (first | (intro z k a b; exfalso; omega) | (intro z k a b; have q9 := i57_5 (by omega); obtain ⟨v1, v2, v3⟩ := q9; rcases (by omega : k < u3_57 ∨ k = u3_57) with y | y; (exact v2 k a y); (rw [y, ← i57_4]; exact ⟨v1, fun j c d => v3 j c (by omega)⟩)) | fail))
            ·
              refine ⟨(show 0 ≤ n1 ∧ n1 < 60000 from by (first | omega | (simp only [st_s] <;> omega) | assumption | omega | fail)), ?_⟩
              intro x20 r_x20 e_x20
              have b_x20 : 0 ≤ x20 ∧ x20 ≤ 120000 := by rw [e_x20]; exact hT.2 87 _
              have w6 := w4 u5_57 i57_3.1 (by omega)
              rw [← e_x20] at w6
              refine ⟨(show 0 ≤ (x20 + u5_57) ∧ (x20 + u5_57) < 120000 from by (first | omega | (simp only [st_s] <;> omega) | assumption | omega | fail)), ?_⟩
              intro x22 r_x22 e_x22
              have b_x22 : 0 ≤ x22 ∧ x22 ≤ 60000 := by rw [e_x22]; exact hT.2 91 _
              have w7 : n1 + 1 ≤ x22 ∧ x22 < hi := by (rw [e_x22]; exact w6)
              refine ⟨(show 0 ≤ x22 ∧ x22 < 60000 from by (first | omega | (simp only [st_s] <;> omega) | assumption | omega | fail)), ?_⟩
              intro x24 r_x24 e_x24
              have b_x24 : (-1500) ≤ x24 ∧ x24 ≤ 1499 := by rw [e_x24]; exact hT.2 86 _
              have f24 : x24 = σ.2.1 86 (σ.2.1 91 (σ.2.1 87 n1 + u5_57)) := by rw [e_x24, e_x22, e_x20]
              refine ⟨fun c25 => ?_, fun c25 => ?_⟩
              ·
                refine ⟨(⟨by (first | omega | (simp only [st_s] <;> omega) | assumption | omega | fail), by (first | omega | (simp only [st_s] <;> omega) | assumption | omega | fail)⟩ : rg (u5_57 + 1)), ?_⟩
                exact ih_57 _ _ _ _ (show (61 - (u5_57 + 1) : Int) < ((m_57 : Nat) : Int) from by ((first | omega | (simp only [st_s] <;> omega) | assumption | omega | fail))) (show 0 ≤ u3_57 ∧ u3_57 < σ.2.1 19 (σ.2.1 86 n1) from by (first | omega | (simp only [st_s] <;> omega) | assumption | omega | fail)) (show 0 = 0 ∨ 0 = 1 from by (first | omega | (simp only [st_s] <;> omega) | assumption | omega | fail)) (show 0 ≤ (u5_57 + 1) ∧ (u5_57 + 1) ≤ u3_57 from by (first | omega | (simp only [st_s] <;> omega) | assumption | omega | fail)) (show u4_57 = σ.2.1 86 (σ.2.1 91 (σ.2.1 87 n1 + u3_57)) from by (first | exact f13 | exact i57_4 | fail)) (show 0 = 1 → u4_57 < 0 ∧ (∀ k : Int, 0 ≤ k → k < u3_57 → σ.2.1 86 (σ.2.1 91 (σ.2.1 87 n1 + k)) < 0 ∧ ∀ j : Int, 0 ≤ j → j < k → ¬ σ.2.1 86 (σ.2.1 91 (σ.2.1 87 n1 + j)) = σ.2.1 86 (σ.2.1 91 (σ.2.1 87 n1 + k))) ∧ ∀ j : Int, 0 ≤ j → j < (u5_57 + 1) → ¬ σ.2.1 86 (σ.2.1 91 (σ.2.1 87 n1 + j)) = u4_57 from by (first | (intro z; exfalso; omega) | (intro _; exact ⟨by assumption, i4_3 (by omega), fun j a b => by exfalso; omega⟩) | (intro z; have q9 := i57_5 (by omega); obtain ⟨v1, v2, v3⟩ := q9; exact ⟨v1, v2, fun j a b => by (rcases (by omega : j < u5_57 ∨ j = u5_57) with y | y; (exact v3 j a y); (rw [y, ← f24]; assumption))⟩) | fail)) (show u3_57 + (m_4 : Int) ≥ 61 from by (first | omega | (simp only [st_s] <;> omega) | assumption | omega | fail))
              ·
                refine ⟨(⟨by (first | omega | (simp only [st_s] <;> omega) | assumption | omega | fail), by (first | omega | (simp only [st_s] <;> omega) | assumption | omega | fail)⟩ : rg (u5_57 + 1)), ?_⟩
                exact ih_57 _ _ _ _ (show (61 - (u5_57 + 1) : Int) < ((m_57 : Nat) : Int) from by ((first | omega | (simp only [st_s] <;> omega) | assumption | omega | fail))) (show 0 ≤ u3_57 ∧ u3_57 < σ.2.1 19 (σ.2.1 86 n1) from by (first | omega | (simp only [st_s] <;> omega) | assumption | omega | fail)) (show 1 = 0 ∨ 1 = 1 from by (first | omega | (simp only [st_s] <;> omega) | assumption | omega | fail)) (show 0 ≤ (u5_57 + 1) ∧ (u5_57 + 1) ≤ u3_57 from by (first | omega | (simp only [st_s] <;> omega) | assumption | omega | fail)) (show u4_57 = σ.2.1 86 (σ.2.1 91 (σ.2.1 87 n1 + u3_57)) from by (first | exact f13 | exact i57_4 | fail)) (show 1 = 1 → u4_57 < 0 ∧ (∀ k : Int, 0 ≤ k → k < u3_57 → σ.2.1 86 (σ.2.1 91 (σ.2.1 87 n1 + k)) < 0 ∧ ∀ j : Int, 0 ≤ j → j < k → ¬ σ.2.1 86 (σ.2.1 91 (σ.2.1 87 n1 + j)) = σ.2.1 86 (σ.2.1 91 (σ.2.1 87 n1 + k))) ∧ ∀ j : Int, 0 ≤ j → j < (u5_57 + 1) → ¬ σ.2.1 86 (σ.2.1 91 (σ.2.1 87 n1 + j)) = u4_57 from by (first | (intro z; exfalso; omega) | (intro _; exact ⟨by assumption, i4_3 (by omega), fun j a b => by exfalso; omega⟩) | (intro z; have q9 := i57_5 (by omega); obtain ⟨v1, v2, v3⟩ := q9; exact ⟨v1, v2, fun j a b => by (rcases (by omega : j < u5_57 ∨ j = u5_57) with y | y; (exact v3 j a y); (rw [y, ← f24]; assumption))⟩) | fail)) (show u3_57 + (m_4 : Int) ≥ 61 from by (first | omega | (simp only [st_s] <;> omega) | assumption | omega | fail))
      refine h4 n1 u2_4 u3_4 ?_
      refine ⟨(show 0 ≤ n1 ∧ n1 < 60000 from by (first | omega | (simp only [st_s] <;> omega) | assumption | omega | fail)), ?_⟩
      intro x2 r_x2 e_x2
      have b_x2 : (-1500) ≤ x2 ∧ x2 ≤ 1499 := by rw [e_x2]; exact hT.2 86 _
      refine ⟨(show 0 ≤ x2 ∧ x2 < 1501 from by (first | omega | (simp only [st_s] <;> omega) | assumption | omega | fail)), ?_⟩
      intro x4 r_x4 e_x4
      have b_x4 : 0 ≤ x4 ∧ x4 ≤ 60 := by rw [e_x4]; exact hT.2 19 _
      rw [e_x2] at e_x4
      refine ⟨fun c5 => ?_, fun c5 => ?_⟩
      ·
        refine ⟨(show 0 ≤ u2_4 ∧ u2_4 ≤ 1 from by (first | omega | (simp only [st_s] <;> omega) | assumption | omega | fail)), ?_⟩
        exact ⟨(show u2_4 = 0 ∨ u2_4 = 1 from by (first | omega | (simp only [st_s] <;> omega) | assumption | omega | fail)), (show u2_4 = 1 → ∀ k : Int, 0 ≤ k → k < σ.2.1 19 (σ.2.1 86 n1) → σ.2.1 86 (σ.2.1 91 (σ.2.1 87 n1 + k)) < 0 ∧ ∀ j : Int, 0 ≤ j → j < k → ¬ σ.2.1 86 (σ.2.1 91 (σ.2.1 87 n1 + j)) = σ.2.1 86 (σ.2.1 91 (σ.2.1 87 n1 + k)) from by (first | (intro z; exfalso; omega) | (intro z; rw [show σ.2.1 19 (σ.2.1 86 n1) = u3_4 from by omega]; exact i4_3 z) | fail))⟩
      ·
        refine ⟨fun c7 => ?_, fun c7 => ?_⟩
        ·
          refine ⟨(show 0 ≤ u2_4 ∧ u2_4 ≤ 1 from by (first | omega | (simp only [st_s] <;> omega) | assumption | omega | fail)), ?_⟩
          exact ⟨(show u2_4 = 0 ∨ u2_4 = 1 from by (first | omega | (simp only [st_s] <;> omega) | assumption | omega | fail)), (show u2_4 = 1 → ∀ k : Int, 0 ≤ k → k < σ.2.1 19 (σ.2.1 86 n1) → σ.2.1 86 (σ.2.1 91 (σ.2.1 87 n1 + k)) < 0 ∧ ∀ j : Int, 0 ≤ j → j < k → ¬ σ.2.1 86 (σ.2.1 91 (σ.2.1 87 n1 + j)) = σ.2.1 86 (σ.2.1 91 (σ.2.1 87 n1 + k)) from by (first | (intro z; exfalso; omega) | (intro z; rw [show σ.2.1 19 (σ.2.1 86 n1) = u3_4 from by omega]; exact i4_3 z) | fail))⟩
        ·
          intro x9 r_x9 e_x9
          have b_x9 : 0 ≤ x9 ∧ x9 ≤ 120000 := by rw [e_x9]; exact hT.2 87 _
          have w6 := w4 u3_4 i4_1.1 (by omega)
          rw [← e_x9] at w6
          refine ⟨(show 0 ≤ (x9 + u3_4) ∧ (x9 + u3_4) < 120000 from by (first | omega | (simp only [st_s] <;> omega) | assumption | omega | fail)), ?_⟩
          intro x11 r_x11 e_x11
          have b_x11 : 0 ≤ x11 ∧ x11 ≤ 60000 := by rw [e_x11]; exact hT.2 91 _
          have w7 : n1 + 1 ≤ x11 ∧ x11 < hi := by (rw [e_x11]; exact w6)
          refine ⟨(show 0 ≤ x11 ∧ x11 < 60000 from by (first | omega | (simp only [st_s] <;> omega) | assumption | omega | fail)), ?_⟩
          intro x13 r_x13 e_x13
          have b_x13 : (-1500) ≤ x13 ∧ x13 ≤ 1499 := by rw [e_x13]; exact hT.2 86 _
          have f13 : x13 = σ.2.1 86 (σ.2.1 91 (σ.2.1 87 n1 + u3_4)) := by rw [e_x13, e_x11, e_x9]
          refine ⟨fun c14 => ?_, fun c14 => ?_⟩
          ·
            exact l_57 ((61 - 0 : Int).toNat + 1) _ _ _ _ (show (61 - 0 : Int) < (((61 - 0 : Int).toNat + 1 : Nat) : Int) from by ((first | omega | (simp only [st_s] <;> omega) | assumption | omega | fail))) (show 0 ≤ u3_4 ∧ u3_4 < σ.2.1 19 (σ.2.1 86 n1) from by (first | omega | (simp only [st_s] <;> omega) | assumption | omega | fail)) (show 0 = 0 ∨ 0 = 1 from by (first | omega | (simp only [st_s] <;> omega) | assumption | omega | fail)) (show 0 ≤ 0 ∧ 0 ≤ u3_4 from by (first | omega | (simp only [st_s] <;> omega) | assumption | omega | fail)) (show x13 = σ.2.1 86 (σ.2.1 91 (σ.2.1 87 n1 + u3_4)) from by (first | exact f13 | exact i57_4 | fail)) (show 0 = 1 → x13 < 0 ∧ (∀ k : Int, 0 ≤ k → k < u3_4 → σ.2.1 86 (σ.2.1 91 (σ.2.1 87 n1 + k)) < 0 ∧ ∀ j : Int, 0 ≤ j → j < k → ¬ σ.2.1 86 (σ.2.1 91 (σ.2.1 87 n1 + j)) = σ.2.1 86 (σ.2.1 91 (σ.2.1 87 n1 + k))) ∧ ∀ j : Int, 0 ≤ j → j < 0 → ¬ σ.2.1 86 (σ.2.1 91 (σ.2.1 87 n1 + j)) = x13 from by (first | (intro z; exfalso; omega) | (intro _; exact ⟨by assumption, i4_3 (by omega), fun j a b => by exfalso; omega⟩) | (intro z; have q9 := i57_5 (by omega); obtain ⟨v1, v2, v3⟩ := q9; exact ⟨v1, v2, fun j a b => by (rcases (by omega : j < u5_57 ∨ j = u5_57) with y | y; (exact v3 j a y); (rw [y, ← f24]; assumption))⟩) | fail)) (show u3_4 + (m_4 : Int) ≥ 61 from by (first | omega | (simp only [st_s] <;> omega) | assumption | omega | fail))
          ·
            exact l_57 ((61 - 0 : Int).toNat + 1) _ _ _ _ (show (61 - 0 : Int) < (((61 - 0 : Int).toNat + 1 : Nat) : Int) from by ((first | omega | (simp only [st_s] <;> omega) | assumption | omega | fail))) (show 0 ≤ u3_4 ∧ u3_4 < σ.2.1 19 (σ.2.1 86 n1) from by (first | omega | (simp only [st_s] <;> omega) | assumption | omega | fail)) (show 1 = 0 ∨ 1 = 1 from by (first | omega | (simp only [st_s] <;> omega) | assumption | omega | fail)) (show 0 ≤ 0 ∧ 0 ≤ u3_4 from by (first | omega | (simp only [st_s] <;> omega) | assumption | omega | fail)) (show x13 = σ.2.1 86 (σ.2.1 91 (σ.2.1 87 n1 + u3_4)) from by (first | exact f13 | exact i57_4 | fail)) (show 1 = 1 → x13 < 0 ∧ (∀ k : Int, 0 ≤ k → k < u3_4 → σ.2.1 86 (σ.2.1 91 (σ.2.1 87 n1 + k)) < 0 ∧ ∀ j : Int, 0 ≤ j → j < k → ¬ σ.2.1 86 (σ.2.1 91 (σ.2.1 87 n1 + j)) = σ.2.1 86 (σ.2.1 91 (σ.2.1 87 n1 + k))) ∧ ∀ j : Int, 0 ≤ j → j < 0 → ¬ σ.2.1 86 (σ.2.1 91 (σ.2.1 87 n1 + j)) = x13 from by (first | (intro z; exfalso; omega) | (intro _; exact ⟨by assumption, i4_3 (by omega), fun j a b => by exfalso; omega⟩) | (intro z; have q9 := i57_5 (by omega); obtain ⟨v1, v2, v3⟩ := q9; exact ⟨v1, v2, fun j a b => by (rcases (by omega : j < u5_57 ∨ j = u5_57) with y | y; (exact v3 j a y); (rw [y, ← f24]; assumption))⟩) | fail)) (show u3_4 + (m_4 : Int) ≥ 61 from by (first | omega | (simp only [st_s] <;> omega) | assumption | omega | fail))
  exact l_4 ((61 - 0 : Int).toNat + 1) _ _ (show (61 - 0 : Int) < (((61 - 0 : Int).toNat + 1 : Nat) : Int) from by ((first | omega | (simp only [st_s] <;> omega) | assumption | omega | fail))) (show 0 ≤ 0 ∧ 0 ≤ σ.2.1 19 (σ.2.1 86 n1) from by (first | omega | (simp only [st_s] <;> omega) | assumption | omega | fail)) (show 1 = 0 ∨ 1 = 1 from by (first | omega | (simp only [st_s] <;> omega) | assumption | omega | fail)) (show 1 = 1 → ∀ k : Int, 0 ≤ k → k < 0 → σ.2.1 86 (σ.2.1 91 (σ.2.1 87 n1 + k)) < 0 ∧ ∀ j : Int, 0 ≤ j → j < k → ¬ σ.2.1 86 (σ.2.1 91 (σ.2.1 87 n1 + j)) = σ.2.1 86 (σ.2.1 91 (σ.2.1 87 n1 + k)) from by (first | (intro z k a b; exfalso; omega) | (intro z k a b; have q9 := i57_5 (by omega); obtain ⟨v1, v2, v3⟩ := q9; rcases (by omega : k < u3_57 ∨ k = u3_57) with y | y; (exact v2 k a y); (rw [y, ← i57_4]; exact ⟨v1, fun j c d => v3 j c (by omega)⟩)) | fail))
set_option maxHeartbeats 6000000 in
theorem K_X13_isPlain {n1 : Int} {n2 : Int} {n3 : Int} {wt : Int → Int} {lo hi : Int} {σ : S0} (hT : m_T σ) (p1 : y_TW σ wt lo hi) (p2 : lo ≤ n1 ∧ n1 < hi) (p3 : 0 ≤ lo ∧ hi ≤ 60000) (p4 : lo ≤ n3 ∧ n3 < hi) (p5 : 0 ≤ σ.2.1 86 n3) : W_X13_isPlain n1 n2 n3 σ (fun (x : Int) (τ : S0) => (m_T τ) ∧ (x = 0 ∨ x = 1) ∧ (x = 1 → ∃ Z : Int → Prop, y_PZ σ lo hi n2 (fun v => ∃ k : Int, (0 ≤ k ∧ k < σ.2.1 19 (σ.2.1 86 n3)) ∧ σ.2.1 86 (σ.2.1 91 (σ.2.1 87 n3 + k)) = v) Z (fun _ => False) ∧ Z n1)) := by
  have A19 : ∀ j, 0 ≤ σ.2.1 19 j ∧ σ.2.1 19 j ≤ 60 := fun j => hT.2 19 j
  have A65 : ∀ j, 0 ≤ σ.2.1 65 j ∧ σ.2.1 65 j ≤ 60000 := fun j => hT.2 65 j
  have A86 : ∀ j, (-1500) ≤ σ.2.1 86 j ∧ σ.2.1 86 j ≤ 1499 := fun j => hT.2 86 j
  have A87 : ∀ j, 0 ≤ σ.2.1 87 j ∧ σ.2.1 87 j ≤ 120000 := fun j => hT.2 87 j
  have A91 : ∀ j, 0 ≤ σ.2.1 91 j ∧ σ.2.1 91 j ≤ 60000 := fun j => hT.2 91 j
  have v5 : 0 ≤ σ.1 5 ∧ σ.1 5 ≤ 1500 := hT.1 5
  have v42 : 0 ≤ σ.1 42 ∧ σ.1 42 ≤ 40000 := hT.1 42
  have v52 : 0 ≤ σ.1 52 ∧ σ.1 52 ≤ 120000 := hT.1 52
  have W5 : σ.1 5 = σ.1 5 := rfl
  have W52 : σ.1 52 = σ.1 52 := rfl
  have G19 : σ.2.1 19 = σ.2.1 19 := rfl
  have G86 : σ.2.1 86 = σ.2.1 86 := rfl
  have G87 : σ.2.1 87 = σ.2.1 87 := rfl
  have G91 : σ.2.1 91 = σ.2.1 91 := rfl
  intro P13 P86 h13 h86
  have l52 : σ.1 52 ≤ 120000 := (hT.1 52).2
  have l5 : σ.1 5 ≤ 1500 := (hT.1 5).2
  have B19 := A19
  have wn1 := (p1 n1 p2.1 p2.2).1
  have l_13 : ∀ (m_13 : Nat) (u4_13 : Int) (τ_13 : S0), sm (fun s => wt (τ_13.2.1 65 s)) (τ_13.1 42) < (m_13 : Int) → (m_T τ_13) → (τ_13.1 5 = σ.1 5) → (τ_13.1 52 = σ.1 52) → (τ_13.2.1 19 = σ.2.1 19) → (τ_13.2.1 86 = σ.2.1 86) → (τ_13.2.1 87 = σ.2.1 87) → (τ_13.2.1 91 = σ.2.1 91) → (u4_13 = 0 ∨ u4_13 = 1) → (y_SK wt lo hi (τ_13.1 42) (τ_13.2.1 65)) → (0 ≤ τ_13.1 42) → (sm (fun s => wt (τ_13.2.1 65 s)) (τ_13.1 42) ≤ 11700) → (u4_13 = 1 → ∃ Z : Int → Prop, y_PZ σ lo hi n2 (fun v => ∃ k : Int, (0 ≤ k ∧ k < σ.2.1 19 (σ.2.1 86 n3)) ∧ σ.2.1 86 (σ.2.1 91 (σ.2.1 87 n3 + k)) = v) Z (y_Sk (τ_13.1 42) (τ_13.2.1 65)) ∧ (Z n1 ∨ y_Sk (τ_13.1 42) (τ_13.2.1 65) n1)) → P13 n2 n3 u4_13 τ_13 := by
    intro m_13
    induction m_13 with
    | zero =>
      intro u4_13 τ_13 hm hT W5 W52 G19 G86 G87 G91 i13_1 i13_2 i13_3 i13_4 i13_5
      have A19 : ∀ j, 0 ≤ τ_13.2.1 19 j ∧ τ_13.2.1 19 j ≤ 60 := fun j => hT.2 19 j
      have A65 : ∀ j, 0 ≤ τ_13.2.1 65 j ∧ τ_13.2.1 65 j ≤ 60000 := fun j => hT.2 65 j
      have A86 : ∀ j, (-1500) ≤ τ_13.2.1 86 j ∧ τ_13.2.1 86 j ≤ 1499 := fun j => hT.2 86 j
      have A87 : ∀ j, 0 ≤ τ_13.2.1 87 j ∧ τ_13.2.1 87 j ≤ 120000 := fun j => hT.2 87 j
      have A91 : ∀ j, 0 ≤ τ_13.2.1 91 j ∧ τ_13.2.1 91 j ≤ 60000 := fun j => hT.2 91 j
      have v5 : 0 ≤ τ_13.1 5 ∧ τ_13.1 5 ≤ 1500 := hT.1 5
      have v42 : 0 ≤ τ_13.1 42 ∧ τ_13.1 42 ≤ 40000 := hT.1 42
      have v52 : 0 ≤ τ_13.1 52 ∧ τ_13.1 52 ≤ 120000 := hT.1 52
      exfalso; (have sn := y_sW_n p1 i13_2 i13_3; omega)
    | succ m_13 ih_13 =>
      intro u4_13 τ_13 hm_13 hT W5 W52 G19 G86 G87 G91 i13_1 i13_2 i13_3 i13_4 i13_5
      have A19 : ∀ j, 0 ≤ τ_13.2.1 19 j ∧ τ_13.2.1 19 j ≤ 60 := fun j => hT.2 19 j
      have A65 : ∀ j, 0 ≤ τ_13.2.1 65 j ∧ τ_13.2.1 65 j ≤ 60000 := fun j => hT.2 65 j
      have A86 : ∀ j, (-1500) ≤ τ_13.2.1 86 j ∧ τ_13.2.1 86 j ≤ 1499 := fun j => hT.2 86 j
      have A87 : ∀ j, 0 ≤ τ_13.2.1 87 j ∧ τ_13.2.1 87 j ≤ 120000 := fun j => hT.2 87 j
      have A91 : ∀ j, 0 ≤ τ_13.2.1 91 j ∧ τ_13.2.1 91 j ≤ 60000 := fun j => hT.2 91 j
      have v5 : 0 ≤ τ_13.1 5 ∧ τ_13.1 5 ≤ 1500 := hT.1 5
      have v42 : 0 ≤ τ_13.1 42 ∧ τ_13.1 42 ≤ 40000 := hT.1 42
      have v52 : 0 ≤ τ_13.1 52 ∧ τ_13.1 52 ≤ 120000 := hT.1 52
      have sn := y_sW_n p1 i13_2 i13_3
      have TWτ : y_TW τ_13 wt lo hi := y_TW_e p1 W5 G19 (by omega) (fun y _ _ => ⟨by rw [G86], by rw [G87]⟩) (fun e _ _ => by rw [G91])
      have l_86 : ∀ (m_86 : Nat) (u4_86 : Int) (u5_86 : Int) (u6_86 : Int) (u7_86 : Int) (τ_86 : S0), 61 - u7_86 < (m_86 : Int) → (m_T τ_86) → (τ_86.1 5 = σ.1 5) → (τ_86.1 52 = σ.1 52) → (τ_86.2.1 19 = σ.2.1 19) → (τ_86.2.1 86 = σ.2.1 86) → (τ_86.2.1 87 = σ.2.1 87) → (τ_86.2.1 91 = σ.2.1 91) → (u4_86 = 0 ∨ u4_86 = 1) → (y_SK wt lo hi (τ_86.1 42) (τ_86.2.1 65)) → (0 ≤ τ_86.1 42) → (lo ≤ u5_86 ∧ u5_86 < hi) → (u6_86 = σ.2.1 86 u5_86) → (0 ≤ u7_86) → (u6_86 < 0 → u7_86 = 0 ∧ sm (fun s => wt (τ_86.2.1 65 s)) (τ_86.1 42) + 1 ≤ 11700 ∧ sm (fun s => wt (τ_86.2.1 65 s)) (τ_86.1 42) + 1 ≤ (m_13 : Int)) → (0 ≤ u6_86 → u7_86 ≤ σ.2.1 19 u6_86 ∧ sm (fun s => wt (τ_86.2.1 65 s)) (τ_86.1 42) + sm (fun k => wt (σ.2.1 91 (σ.2.1 87 u5_86 + (u7_86 + k)))) (σ.2.1 19 u6_86 - u7_86) + 1 ≤ 11700 ∧ sm (fun s => wt (τ_86.2.1 65 s)) (τ_86.1 42) + sm (fun k => wt (σ.2.1 91 (σ.2.1 87 u5_86 + (u7_86 + k)))) (σ.2.1 19 u6_86 - u7_86) + 1 ≤ (m_13 : Int)) → (u4_86 = 1 → (¬ u6_86 = n2 ∧ (u6_86 < 0 → (fun v => ∃ k : Int, (0 ≤ k ∧ k < σ.2.1 19 (σ.2.1 86 n3)) ∧ σ.2.1 86 (σ.2.1 91 (σ.2.1 87 n3 + k)) = v) u6_86)) ∧ ∃ Z : Int → Prop, y_PZ σ lo hi n2 (fun v => ∃ k : Int, (0 ≤ k ∧ k < σ.2.1 19 (σ.2.1 86 n3)) ∧ σ.2.1 86 (σ.2.1 91 (σ.2.1 87 n3 + k)) = v) Z (fun y => y_Sk (τ_86.1 42) (τ_86.2.1 65) y ∨ y = u5_86) ∧ (Z n1 ∨ y_Sk (τ_86.1 42) (τ_86.2.1 65) n1 ∨ n1 = u5_86) ∧ (0 ≤ u6_86 → ∀ k : Int, 0 ≤ k → k < u7_86 → Z (σ.2.1 91 (σ.2.1 87 u5_86 + k)) ∨ y_Sk (τ_86.1 42) (τ_86.2.1 65) (σ.2.1 91 (σ.2.1 87 u5_86 + k)))) → P86 n2 n3 u4_86 u5_86 u6_86 u7_86 τ_86 := by
        intro m_86
        induction m_86 with
        | zero =>
          intro u4_86 u5_86 u6_86 u7_86 τ_86 hm hT W5 W52 G19 G86 G87 G91 i86_1 i86_2 i86_3 i86_4 i86_5 i86_6 i86_7 i86_8 i86_9
          have A19 : ∀ j, 0 ≤ τ_86.2.1 19 j ∧ τ_86.2.1 19 j ≤ 60 := fun j => hT.2 19 j
          have A65 : ∀ j, 0 ≤ τ_86.2.1 65 j ∧ τ_86.2.1 65 j ≤ 60000 := fun j => hT.2 65 j
          have A86 : ∀ j, (-1500) ≤ τ_86.2.1 86 j ∧ τ_86.2.1 86 j ≤ 1499 := fun j => hT.2 86 j
          have A87 : ∀ j, 0 ≤ τ_86.2.1 87 j ∧ τ_86.2.1 87 j ≤ 120000 := fun j => hT.2 87 j
          have A91 : ∀ j, 0 ≤ τ_86.2.1 91 j ∧ τ_86.2.1 91 j ≤ 60000 := fun j => hT.2 91 j
          have v5 : 0 ≤ τ_86.1 5 ∧ τ_86.1 5 ≤ 1500 := hT.1 5
          have v42 : 0 ≤ τ_86.1 42 ∧ τ_86.1 42 ≤ 40000 := hT.1 42
          have v52 : 0 ≤ τ_86.1 52 ∧ τ_86.1 52 ≤ 120000 := hT.1 52
          exfalso; (by_cases z : u6_86 < 0; (have w := i86_7 z; omega); (have w := i86_8 (by omega); have s := B19 u6_86; omega))
        | succ m_86 ih_86 =>
          intro u4_86 u5_86 u6_86 u7_86 τ_86 hm_86 hT W5 W52 G19 G86 G87 G91 i86_1 i86_2 i86_3 i86_4 i86_5 i86_6 i86_7 i86_8 i86_9
          have A19 : ∀ j, 0 ≤ τ_86.2.1 19 j ∧ τ_86.2.1 19 j ≤ 60 := fun j => hT.2 19 j
          have A65 : ∀ j, 0 ≤ τ_86.2.1 65 j ∧ τ_86.2.1 65 j ≤ 60000 := fun j => hT.2 65 j
          have A86 : ∀ j, (-1500) ≤ τ_86.2.1 86 j ∧ τ_86.2.1 86 j ≤ 1499 := fun j => hT.2 86 j
          have A87 : ∀ j, 0 ≤ τ_86.2.1 87 j ∧ τ_86.2.1 87 j ≤ 120000 := fun j => hT.2 87 j
          have A91 : ∀ j, 0 ≤ τ_86.2.1 91 j ∧ τ_86.2.1 91 j ≤ 60000 := fun j => hT.2 91 j
          have v5 : 0 ≤ τ_86.1 5 ∧ τ_86.1 5 ≤ 1500 := hT.1 5
          have v42 : 0 ≤ τ_86.1 42 ∧ τ_86.1 42 ≤ 40000 := hT.1 42
          have v52 : 0 ≤ τ_86.1 52 ∧ τ_86.1 52 ≤ 120000 := hT.1 52
          have sn := y_sW_n p1 i86_2 i86_3
          have t5 := p1 u5_86 i86_4.1 i86_4.2
          have k5 : 0 ≤ u6_86 → (u6_86 < σ.1 5 ∧ 0 ≤ σ.2.1 87 u5_86 ∧ σ.2.1 87 u5_86 + σ.2.1 19 u6_86 ≤ σ.1 52) ∧ ∀ k : Int, 0 ≤ k → k < σ.2.1 19 u6_86 → (lo ≤ σ.2.1 91 (σ.2.1 87 u5_86 + k) ∧ σ.2.1 91 (σ.2.1 87 u5_86 + k) < hi) ∧ 1 ≤ wt (σ.2.1 91 (σ.2.1 87 u5_86 + k)) := by (rw [i86_5]; intro z; obtain ⟨ta, tb, _⟩ := t5.2 z; exact ⟨ta, fun k k0 k1 => by (have w := tb k k0 k1; have v := (p1 _ (show lo ≤ σ.2.1 91 (σ.2.1 87 u5_86 + k) by omega) w.2).1.1; exact ⟨⟨by omega, w.2⟩, v⟩)⟩)
          have w78 : sm (fun s => wt (τ_86.2.1 65 s)) (τ_86.1 42) + 1 ≤ 11700 ∧ sm (fun s => wt (τ_86.2.1 65 s)) (τ_86.1 42) + 1 ≤ (m_13 : Int) := by (by_cases z : u6_86 < 0; (exact (i86_7 z).2); (have w := i86_8 (by omega); have s : 0 ≤ sm (fun k => wt (σ.2.1 91 (σ.2.1 87 u5_86 + (u7_86 + k)))) (σ.2.1 19 u6_86 - u7_86) := sm_n (fun e e0 e1 => by (have v := ((k5 (by omega)).2 (u7_86 + e) (by omega) (by omega)).2; show 0 ≤ wt (σ.2.1 91 (σ.2.1 87 u5_86 + (u7_86 + e))); omega)); omega))
          have l6 : u6_86 < 1501 := by (by_cases z : 0 ≤ u6_86; (have w := (k5 z).1.1; omega); omega)
          refine h86 n2 n3 u4_86 u5_86 u6_86 u7_86 τ_86 ?_
          refine ⟨fun c19 => ?_, fun c19 => ?_⟩
          ·
            exact ih_13 _ _ (show (sm (fun s => wt (τ_86.2.1 65 s)) (τ_86.1 42) : Int) < ((m_13 : Nat) : Int) from by ((first | omega | (simp only [st_s] <;> omega) | assumption | omega | fail))) hT (show τ_86.1 5 = σ.1 5 from by first | exact W5 | omega) (show τ_86.1 52 = σ.1 52 from by first | exact W52 | omega) G19 G86 G87 G91 (show u4_86 = 0 ∨ u4_86 = 1 from by (first | omega | (simp only [st_s] <;> omega) | assumption | omega | fail)) (show y_SK wt lo hi (τ_86.1 42) (τ_86.2.1 65) from by (first | exact i86_2 | (rw [q1_1, q1_2]; exact y_SK_a (n := 0) (fun s a b => by omega) p2.1 p2.2) | fail)) (show 0 ≤ τ_86.1 42 from by (first | omega | (simp only [st_s] <;> omega) | assumption | omega | fail)) (show sm (fun s => wt (τ_86.2.1 65 s)) (τ_86.1 42) ≤ 11700 from by (first | exact (by omega) | (rw [q1_1, q1_2, sw1]; omega) | (rw [q1_1, q1_2]; show sm _ (0 + 1) ≤ _; rw [sw1]; omega) | fail)) (show u4_86 = 1 → ∃ Z : Int → Prop, y_PZ σ lo hi n2 (fun v => ∃ k : Int, (0 ≤ k ∧ k < σ.2.1 19 (σ.2.1 86 n3)) ∧ σ.2.1 86 (σ.2.1 91 (σ.2.1 87 n3 + k)) = v) Z (y_Sk (τ_86.1 42) (τ_86.2.1 65)) ∧ (Z n1 ∨ y_Sk (τ_86.1 42) (τ_86.2.1 65) n1) from by (first | (intro _; exact ⟨fun _ => False, fun y z => z.elim, Or.inr (by rw [q1_1, q1_2]; exact y_Sk_a (Int.le_refl _) (Or.inr rfl))⟩) | (intro z; have q9 := i86_9 z; obtain ⟨⟨a1, a2⟩, Z, b, c, d⟩ := q9; refine ⟨fun y => Z y ∨ y = u5_86, y_PZ_u b i86_4 (by rw [← i86_5]; exact a1) (by rw [← i86_5]; exact a2) (fun r k k0 k1 => d (by omega) k k0 (by first | (rw [← i86_5] at k1; omega) | (exfalso; omega))), ?_⟩; have q9 := c; rcases q9 with c | c | c; (exact Or.inl (Or.inl c)); (exact Or.inr c); (exact Or.inl (Or.inr c))) | fail))
          ·
            refine ⟨(show 0 ≤ u6_86 ∧ u6_86 < 1501 from by (first | omega | (simp only [st_s] <;> omega) | assumption | omega | fail)), ?_⟩
            intro x21 r_x21 e_x21
            have b_x21 : 0 ≤ x21 ∧ x21 ≤ 60 := by rw [e_x21]; exact hT.2 19 _
            rw [G19] at e_x21
            refine ⟨fun c22 => ?_, fun c22 => ?_⟩
            ·
              exact ih_13 _ _ (show (sm (fun s => wt (τ_86.2.1 65 s)) (τ_86.1 42) : Int) < ((m_13 : Nat) : Int) from by ((first | omega | (simp only [st_s] <;> omega) | assumption | omega | fail))) hT (show τ_86.1 5 = σ.1 5 from by first | exact W5 | omega) (show τ_86.1 52 = σ.1 52 from by first | exact W52 | omega) G19 G86 G87 G91 (show u4_86 = 0 ∨ u4_86 = 1 from by (first | omega | (simp only [st_s] <;> omega) | assumption | omega | fail)) (show y_SK wt lo hi (τ_86.1 42) (τ_86.2.1 65) from by (first | exact i86_2 | (rw [q1_1, q1_2]; exact y_SK_a (n := 0) (fun s a b => by omega) p2.1 p2.2) | fail)) (show 0 ≤ τ_86.1 42 from by (first | omega | (simp only [st_s] <;> omega) | assumption | omega | fail)) (show sm (fun s => wt (τ_86.2.1 65 s)) (τ_86.1 42) ≤ 11700 from by (first | exact (by omega) | (rw [q1_1, q1_2, sw1]; omega) | (rw [q1_1, q1_2]; show sm _ (0 + 1) ≤ _; rw [sw1]; omega) | fail)) (show u4_86 = 1 → ∃ Z : Int → Prop, y_PZ σ lo hi n2 (fun v => ∃ k : Int, (0 ≤ k ∧ k < σ.2.1 19 (σ.2.1 86 n3)) ∧ σ.2.1 86 (σ.2.1 91 (σ.2.1 87 n3 + k)) = v) Z (y_Sk (τ_86.1 42) (τ_86.2.1 65)) ∧ (Z n1 ∨ y_Sk (τ_86.1 42) (τ_86.2.1 65) n1) from by (first | (intro _; exact ⟨fun _ => False, fun y z => z.elim, Or.inr (by rw [q1_1, q1_2]; exact y_Sk_a (Int.le_refl _) (Or.inr rfl))⟩) | (intro z; have q9 := i86_9 z; obtain ⟨⟨a1, a2⟩, Z, b, c, d⟩ := q9; refine ⟨fun y => Z y ∨ y = u5_86, y_PZ_u b i86_4 (by rw [← i86_5]; exact a1) (by rw [← i86_5]; exact a2) (fun r k k0 k1 => d (by omega) k k0 (by first | (rw [← i86_5] at k1; omega) | (exfalso; omega))), ?_⟩; have q9 := c; rcases q9 with c | c | c; (exact Or.inl (Or.inl c)); (exact Or.inr c); (exact Or.inl (Or.inr c))) | fail))
            ·
              refine ⟨(show 0 ≤ u5_86 ∧ u5_86 < 60000 from by (first | omega | (simp only [st_s] <;> omega) | assumption | omega | fail)), ?_⟩
              intro x24 r_x24 e_x24
              have b_x24 : 0 ≤ x24 ∧ x24 ≤ 120000 := by rw [e_x24]; exact hT.2 87 _
              rw [G87] at e_x24
              have k6 := k5 (by omega)
              have k7 := k6.2 u7_86 i86_6 (by omega)
              have kf : sm (fun k => wt (σ.2.1 91 (σ.2.1 87 u5_86 + (u7_86 + k)))) (σ.2.1 19 u6_86 - u7_86) = wt (σ.2.1 91 (σ.2.1 87 u5_86 + u7_86)) + sm (fun k => wt (σ.2.1 91 (σ.2.1 87 u5_86 + (u7_86 + 1 + k)))) (σ.2.1 19 u6_86 - (u7_86 + 1)) := y_kf (fun k => wt (σ.2.1 91 (σ.2.1 87 u5_86 + k))) i86_6 (by omega)
              refine ⟨(show 0 ≤ (x24 + u7_86) ∧ (x24 + u7_86) < 120000 from by (first | omega | (simp only [st_s] <;> omega) | assumption | omega | fail)), ?_⟩
              intro x26 r_x26 e_x26
              have b_x26 : 0 ≤ x26 ∧ x26 ≤ 60000 := by rw [e_x26]; exact hT.2 91 _
              rw [G91] at e_x26
              have f26 : x26 = σ.2.1 91 (σ.2.1 87 u5_86 + u7_86) := by rw [e_x26, e_x24]
              rw [← f26] at kf k7
              have w8 := i86_8 (by omega)
              refine ⟨_, K_X13_enter hT (show (τ_86.1 42) < 40000 from by (first | omega | (simp only [st_s] <;> omega) | assumption | omega | fail)) (show 0 ≤ x26 ∧ x26 ≤ 60000 from by (first | omega | (simp only [st_s] <;> omega) | assumption | omega | fail)), ?_⟩
              intro τ29 hn_τ29 hf_τ29 hq
              obtain ⟨hT, q27_1, q27_2, q27_3⟩ := hq
              replace q27_1 : (τ29.1 42) = (τ_86.1 42) + 1 := q27_1
              replace q27_2 : τ29.2.1 65 = st (τ_86.2.1 65) (τ_86.1 42) x26 := q27_2
              replace q27_3 : τ29.2.1 66 = st (τ_86.2.1 66) (τ_86.1 42) 0 := q27_3
              have w5_τ29 : τ29.1 5 = τ_86.1 5 := hf_τ29.1 5 (by decide)
              have w52_τ29 : τ29.1 52 = τ_86.1 52 := hf_τ29.1 52 (by decide)
              have g19_τ29 : τ29.2.1 19 = τ_86.2.1 19 := hf_τ29.2.1 19 (by decide)
              have g86_τ29 : τ29.2.1 86 = τ_86.2.1 86 := hf_τ29.2.1 86 (by decide)
              have g87_τ29 : τ29.2.1 87 = τ_86.2.1 87 := hf_τ29.2.1 87 (by decide)
              have g91_τ29 : τ29.2.1 91 = τ_86.2.1 91 := hf_τ29.2.1 91 (by decide)
              have W5 : τ29.1 5 = σ.1 5 := by first | exact w5_τ29.trans W5 | omega
              have W52 : τ29.1 52 = σ.1 52 := by first | exact w52_τ29.trans W52 | omega
              have G19 : τ29.2.1 19 = σ.2.1 19 := (g19_τ29).trans G19
              have G86 : τ29.2.1 86 = σ.2.1 86 := (g86_τ29).trans G86
              have G87 : τ29.2.1 87 = σ.2.1 87 := (g87_τ29).trans G87
              have G91 : τ29.2.1 91 = σ.2.1 91 := (g91_τ29).trans G91
              have A19 : ∀ j, 0 ≤ τ29.2.1 19 j ∧ τ29.2.1 19 j ≤ 60 := fun j => hT.2 19 j
              have A65 : ∀ j, 0 ≤ τ29.2.1 65 j ∧ τ29.2.1 65 j ≤ 60000 := fun j => hT.2 65 j
              have A86 : ∀ j, (-1500) ≤ τ29.2.1 86 j ∧ τ29.2.1 86 j ≤ 1499 := fun j => hT.2 86 j
              have A87 : ∀ j, 0 ≤ τ29.2.1 87 j ∧ τ29.2.1 87 j ≤ 120000 := fun j => hT.2 87 j
              have A91 : ∀ j, 0 ≤ τ29.2.1 91 j ∧ τ29.2.1 91 j ≤ 60000 := fun j => hT.2 91 j
              have v5 : 0 ≤ τ29.1 5 ∧ τ29.1 5 ≤ 1500 := hT.1 5
              have v42 : 0 ≤ τ29.1 42 ∧ τ29.1 42 ≤ 40000 := hT.1 42
              have v52 : 0 ≤ τ29.1 52 ∧ τ29.1 52 ≤ 120000 := hT.1 52
              have sw27 := y_sW_a (wt := wt) (f := τ_86.2.1 65) (n := τ_86.1 42) (x := x26) i86_3
              refine ⟨(⟨by (first | omega | (simp only [st_s] <;> omega) | assumption | omega | fail), by (first | omega | (simp only [st_s] <;> omega) | assumption | omega | fail)⟩ : rg (u7_86 + 1)), ?_⟩
              exact ih_86 _ _ _ _ _ (show (61 - (u7_86 + 1) : Int) < ((m_86 : Nat) : Int) from by ((first | omega | (simp only [st_s] <;> omega) | assumption | omega | fail))) hT (show τ29.1 5 = σ.1 5 from by first | exact W5 | omega) (show τ29.1 52 = σ.1 52 from by first | exact W52 | omega) G19 G86 G87 G91 (show u4_86 = 0 ∨ u4_86 = 1 from by (first | omega | (simp only [st_s] <;> omega) | assumption | omega | fail)) (show y_SK wt lo hi (τ29.1 42) (τ29.2.1 65) from by (first | exact y_SK_p i13_2 (by omega) | (rw [q27_1, q27_2]; exact y_SK_a i86_2 k7.1.1 k7.1.2) | fail)) (show 0 ≤ τ29.1 42 from by (first | omega | (simp only [st_s] <;> omega) | assumption | omega | fail)) (show lo ≤ u5_86 ∧ u5_86 < hi from by (first | omega | (simp only [st_s] <;> omega) | assumption | omega | fail)) (show u6_86 = σ.2.1 86 u5_86 from by (first | exact e_x12 | exact i86_5 | fail)) (show 0 ≤ (u7_86 + 1) from by (first | omega | (simp only [st_s] <;> omega) | assumption | omega | fail)) (show u6_86 < 0 → (u7_86 + 1) = 0 ∧ sm (fun s => wt (τ29.2.1 65 s)) (τ29.1 42) + 1 ≤ 11700 ∧ sm (fun s => wt (τ29.2.1 65 s)) (τ29.1 42) + 1 ≤ (m_13 : Int) from by (first | (intro z; exfalso; omega) | (intro z; exact ⟨rfl, by omega, by omega⟩) | fail)) (show 0 ≤ u6_86 → (u7_86 + 1) ≤ σ.2.1 19 u6_86 ∧ sm (fun s => wt (τ29.2.1 65 s)) (τ29.1 42) + sm (fun k => wt (σ.2.1 91 (σ.2.1 87 u5_86 + ((u7_86 + 1) + k)))) (σ.2.1 19 u6_86 - (u7_86 + 1)) + 1 ≤ 11700 ∧ sm (fun s => wt (τ29.2.1 65 s)) (τ29.1 42) + sm (fun k => wt (σ.2.1 91 (σ.2.1 87 u5_86 + ((u7_86 + 1) + k)))) (σ.2.1 19 u6_86 - (u7_86 + 1)) + 1 ≤ (m_13 : Int) from by (first | (intro z; exfalso; omega) | (intro z; have w := t12 z; exact ⟨by omega, by omega, by omega⟩) | (intro z; rw [q27_1, q27_2, sw27]; exact ⟨by omega, by omega, by omega⟩) | fail)) (show u4_86 = 1 → (¬ u6_86 = n2 ∧ (u6_86 < 0 → (fun v => ∃ k : Int, (0 ≤ k ∧ k < σ.2.1 19 (σ.2.1 86 n3)) ∧ σ.2.1 86 (σ.2.1 91 (σ.2.1 87 n3 + k)) = v) u6_86)) ∧ ∃ Z : Int → Prop, y_PZ σ lo hi n2 (fun v => ∃ k : Int, (0 ≤ k ∧ k < σ.2.1 19 (σ.2.1 86 n3)) ∧ σ.2.1 86 (σ.2.1 91 (σ.2.1 87 n3 + k)) = v) Z (fun y => y_Sk (τ29.1 42) (τ29.2.1 65) y ∨ y = u5_86) ∧ (Z n1 ∨ y_Sk (τ29.1 42) (τ29.2.1 65) n1 ∨ n1 = u5_86) ∧ (0 ≤ u6_86 → ∀ k : Int, 0 ≤ k → k < (u7_86 + 1) → Z (σ.2.1 91 (σ.2.1 87 u5_86 + k)) ∨ y_Sk (τ29.1 42) (τ29.2.1 65) (σ.2.1 91 (σ.2.1 87 u5_86 + k))) from by (first | (intro z; exfalso; omega) | (intro _; have q9 := Pz u4_13 u41 rfl; obtain ⟨Z, b, c⟩ := q9; refine ⟨⟨by assumption, fun l => ?_⟩, Z, b, c, fun _ k a b => by exfalso; omega⟩; first | (exfalso; omega) | exact q15_2.mp (by omega)) | (intro z; have q9 := i86_9 z; obtain ⟨⟨a1, a2⟩, Z, b, c, d⟩ := q9; rw [q27_1, q27_2]; exact ⟨⟨a1, a2⟩, Z, y_PZ_s b (fun y h => h.imp (fun w => y_Sk_a i86_3 (Or.inl w)) id), c.imp id (fun w => w.imp (fun v => y_Sk_a i86_3 (Or.inl v)) id), fun r k k0 k1 => by (rcases (by omega : k < u7_86 ∨ k = u7_86) with y | y; (exact (d r k k0 y).imp id (fun v => y_Sk_a i86_3 (Or.inl v))); (rw [y, ← f26]; exact Or.inr (y_Sk_a i86_3 (Or.inr rfl))))⟩) | fail))
      refine h13 n2 n3 u4_13 τ_13 ?_
      refine ⟨fun c4 => ?_, fun c4 => ?_⟩
      ·
        refine ⟨(show 0 ≤ u4_13 ∧ u4_13 ≤ 1 from by (first | omega | (simp only [st_s] <;> omega) | assumption | omega | fail)), ?_⟩
        exact ⟨hT, (show u4_13 = 0 ∨ u4_13 = 1 from by (first | omega | (simp only [st_s] <;> omega) | assumption | omega | fail)), (show u4_13 = 1 → ∃ Z : Int → Prop, y_PZ σ lo hi n2 (fun v => ∃ k : Int, (0 ≤ k ∧ k < σ.2.1 19 (σ.2.1 86 n3)) ∧ σ.2.1 86 (σ.2.1 91 (σ.2.1 87 n3 + k)) = v) Z (fun _ => False) ∧ Z n1 from by (first | (intro z; exfalso; omega) | (intro z; have q9 := i13_5 z; obtain ⟨Z, b, c⟩ := q9; exact ⟨Z, y_PZ_s b (fun y h => by (have q9 := h; obtain ⟨s, a, _⟩ := q9; omega)), c.resolve_right (fun h => by (have q9 := h; obtain ⟨s, a, _⟩ := q9; omega))⟩) | fail))⟩
      ·
        refine ⟨fun c6 => ?_, fun c6 => ?_⟩
        ·
          refine ⟨(show 0 ≤ u4_13 ∧ u4_13 ≤ 1 from by (first | omega | (simp only [st_s] <;> omega) | assumption | omega | fail)), ?_⟩
          exact ⟨hT, (show u4_13 = 0 ∨ u4_13 = 1 from by (first | omega | (simp only [st_s] <;> omega) | assumption | omega | fail)), (show u4_13 = 1 → ∃ Z : Int → Prop, y_PZ σ lo hi n2 (fun v => ∃ k : Int, (0 ≤ k ∧ k < σ.2.1 19 (σ.2.1 86 n3)) ∧ σ.2.1 86 (σ.2.1 91 (σ.2.1 87 n3 + k)) = v) Z (fun _ => False) ∧ Z n1 from by (first | (intro z; exfalso; omega) | (intro z; have q9 := i13_5 z; obtain ⟨Z, b, c⟩ := q9; exact ⟨Z, y_PZ_s b (fun y h => by (have q9 := h; obtain ⟨s, a, _⟩ := q9; omega)), c.resolve_right (fun h => by (have q9 := h; obtain ⟨s, a, _⟩ := q9; omega))⟩) | fail))⟩
        ·
          refine ⟨(⟨by (first | omega | (simp only [st_s] <;> omega) | assumption | omega | fail), by (first | omega | (simp only [st_s] <;> omega) | assumption | omega | fail)⟩ : rg (τ_13.1 42 - 1)), ?_⟩
          replace hT := mT_v (i := 42) hT (show 0 ≤ (τ_13.1 42 - 1) ∧ (τ_13.1 42 - 1) ≤ 40000 from by (first | omega | (simp only [st_s] <;> omega) | assumption | omega | fail))
          refine ⟨(show 0 ≤ (τ_13.1 42 - 1) ∧ (τ_13.1 42 - 1) < 40002 from by (first | omega | (simp only [st_s] <;> omega) | assumption | omega | fail)), ?_⟩
          intro x10 r_x10 e_x10
          have b_x10 : 0 ≤ x10 ∧ x10 ≤ 60000 := by rw [e_x10]; exact hT.2 65 _
          have r10 := i13_2 (τ_13.1 42 - 1) (by omega) (by omega)
          have sp := y_sW_p wt (τ_13.2.1 65) (n := τ_13.1 42) (by omega)
          rw [← e_x10] at r10 sp
          have t10 := p1 x10 r10.1 r10.2
          refine ⟨(show 0 ≤ x10 ∧ x10 < 60000 from by (first | omega | (simp only [st_s] <;> omega) | assumption | omega | fail)), ?_⟩
          intro x12 r_x12 e_x12
          have b_x12 : (-1500) ≤ x12 ∧ x12 ≤ 1499 := by rw [e_x12]; exact hT.2 86 _
          rw [G86] at e_x12
          have t12 : 0 ≤ x12 → sm (fun k => wt (σ.2.1 91 (σ.2.1 87 x10 + (0 + k)))) (σ.2.1 19 x12 - 0) + 1 ≤ wt x10 := by (rw [e_x12]; intro z; rw [y_k0 (fun k => wt (σ.2.1 91 (σ.2.1 87 x10 + k)))]; exact (t10.2 z).2.2)
          have Pz : ∀ u : Int, u = 1 → u4_13 = u → ∃ Z : Int → Prop, y_PZ σ lo hi n2 (fun v => ∃ k : Int, (0 ≤ k ∧ k < σ.2.1 19 (σ.2.1 86 n3)) ∧ σ.2.1 86 (σ.2.1 91 (σ.2.1 87 n3 + k)) = v) Z (fun y => y_Sk (τ_13.1 42 - 1) (τ_13.2.1 65) y ∨ y = x10) ∧ (Z n1 ∨ y_Sk (τ_13.1 42 - 1) (τ_13.2.1 65) n1 ∨ n1 = x10) := fun u z e => by (obtain ⟨Z, b, c⟩ := i13_5 (e.trans z); rw [e_x10]; exact ⟨Z, y_PZ_s b (fun y h => y_Sk_p h), c.imp id y_Sk_p⟩)
          have u41 : u4_13 = 1 := by omega
          have b19 := B19 x12
          refine ⟨fun c13 => ?_, fun c13 => ?_⟩
          ·
            exact l_86 ((61 - 0 : Int).toNat + 1) _ _ _ _ _ (show (61 - 0 : Int) < (((61 - 0 : Int).toNat + 1 : Nat) : Int) from by ((first | omega | (simp only [st_s] <;> omega) | assumption | omega | fail))) hT (show τ_13.1 5 = σ.1 5 from by first | exact W5 | omega) (show τ_13.1 52 = σ.1 52 from by first | exact W52 | omega) G19 G86 G87 G91 (show 0 = 0 ∨ 0 = 1 from by (first | omega | (simp only [st_s] <;> omega) | assumption | omega | fail)) (show y_SK wt lo hi ((τ_13.1 42 - 1)) (τ_13.2.1 65) from by (first | exact y_SK_p i13_2 (by omega) | (rw [q27_1, q27_2]; exact y_SK_a i86_2 k7.1.1 k7.1.2) | fail)) (show 0 ≤ (τ_13.1 42 - 1) from by (first | omega | (simp only [st_s] <;> omega) | assumption | omega | fail)) (show lo ≤ x10 ∧ x10 < hi from by (first | omega | (simp only [st_s] <;> omega) | assumption | omega | fail)) (show x12 = σ.2.1 86 x10 from by (first | exact e_x12 | exact i86_5 | fail)) (show 0 ≤ 0 from by (first | omega | (simp only [st_s] <;> omega) | assumption | omega | fail)) (show x12 < 0 → 0 = 0 ∧ sm (fun s => wt (τ_13.2.1 65 s)) ((τ_13.1 42 - 1)) + 1 ≤ 11700 ∧ sm (fun s => wt (τ_13.2.1 65 s)) ((τ_13.1 42 - 1)) + 1 ≤ (m_13 : Int) from by (first | (intro z; exfalso; omega) | (intro z; exact ⟨rfl, by omega, by omega⟩) | fail)) (show 0 ≤ x12 → 0 ≤ σ.2.1 19 x12 ∧ sm (fun s => wt (τ_13.2.1 65 s)) ((τ_13.1 42 - 1)) + sm (fun k => wt (σ.2.1 91 (σ.2.1 87 x10 + (0 + k)))) (σ.2.1 19 x12 - 0) + 1 ≤ 11700 ∧ sm (fun s => wt (τ_13.2.1 65 s)) ((τ_13.1 42 - 1)) + sm (fun k => wt (σ.2.1 91 (σ.2.1 87 x10 + (0 + k)))) (σ.2.1 19 x12 - 0) + 1 ≤ (m_13 : Int) from by (first | (intro z; exfalso; omega) | (intro z; have w := t12 z; exact ⟨by omega, by omega, by omega⟩) | (intro z; rw [q27_1, q27_2, sw27]; exact ⟨by omega, by omega, by omega⟩) | fail)) (show 0 = 1 → (¬ x12 = n2 ∧ (x12 < 0 → (fun v => ∃ k : Int, (0 ≤ k ∧ k < σ.2.1 19 (σ.2.1 86 n3)) ∧ σ.2.1 86 (σ.2.1 91 (σ.2.1 87 n3 + k)) = v) x12)) ∧ ∃ Z : Int → Prop, y_PZ σ lo hi n2 (fun v => ∃ k : Int, (0 ≤ k ∧ k < σ.2.1 19 (σ.2.1 86 n3)) ∧ σ.2.1 86 (σ.2.1 91 (σ.2.1 87 n3 + k)) = v) Z (fun y => y_Sk ((τ_13.1 42 - 1)) (τ_13.2.1 65) y ∨ y = x10) ∧ (Z n1 ∨ y_Sk ((τ_13.1 42 - 1)) (τ_13.2.1 65) n1 ∨ n1 = x10) ∧ (0 ≤ x12 → ∀ k : Int, 0 ≤ k → k < 0 → Z (σ.2.1 91 (σ.2.1 87 x10 + k)) ∨ y_Sk ((τ_13.1 42 - 1)) (τ_13.2.1 65) (σ.2.1 91 (σ.2.1 87 x10 + k))) from by (first | (intro z; exfalso; omega) | (intro _; have q9 := Pz u4_13 u41 rfl; obtain ⟨Z, b, c⟩ := q9; refine ⟨⟨by assumption, fun l => ?_⟩, Z, b, c, fun _ k a b => by exfalso; omega⟩; first | (exfalso; omega) | exact q15_2.mp (by omega)) | (intro z; have q9 := i86_9 z; obtain ⟨⟨a1, a2⟩, Z, b, c, d⟩ := q9; rw [q27_1, q27_2]; exact ⟨⟨a1, a2⟩, Z, y_PZ_s b (fun y h => h.imp (fun w => y_Sk_a i86_3 (Or.inl w)) id), c.imp id (fun w => w.imp (fun v => y_Sk_a i86_3 (Or.inl v)) id), fun r k k0 k1 => by (rcases (by omega : k < u7_86 ∨ k = u7_86) with y | y; (exact (d r k k0 y).imp id (fun v => y_Sk_a i86_3 (Or.inl v))); (rw [y, ← f26]; exact Or.inr (y_Sk_a i86_3 (Or.inr rfl))))⟩) | fail))
          ·
            refine ⟨fun c14 => ?_, fun c14 => ?_⟩
            ·
              exact l_86 ((61 - 0 : Int).toNat + 1) _ _ _ _ _ (show (61 - 0 : Int) < (((61 - 0 : Int).toNat + 1 : Nat) : Int) from by ((first | omega | (simp only [st_s] <;> omega) | assumption | omega | fail))) hT (show τ_13.1 5 = σ.1 5 from by first | exact W5 | omega) (show τ_13.1 52 = σ.1 52 from by first | exact W52 | omega) G19 G86 G87 G91 (show 1 = 0 ∨ 1 = 1 from by (first | omega | (simp only [st_s] <;> omega) | assumption | omega | fail)) (show y_SK wt lo hi ((τ_13.1 42 - 1)) (τ_13.2.1 65) from by (first | exact y_SK_p i13_2 (by omega) | (rw [q27_1, q27_2]; exact y_SK_a i86_2 k7.1.1 k7.1.2) | fail)) (show 0 ≤ (τ_13.1 42 - 1) from by (first | omega | (simp only [st_s] <;> omega) | assumption | omega | fail)) (show lo ≤ x10 ∧ x10 < hi from by (first | omega | (simp only [st_s] <;> omega) | assumption | omega | fail)) (show x12 = σ.2.1 86 x10 from by (first | exact e_x12 | exact i86_5 | fail)) (show 0 ≤ 0 from by (first | omega | (simp only [st_s] <;> omega) | assumption | omega | fail)) (show x12 < 0 → 0 = 0 ∧ sm (fun s => wt (τ_13.2.1 65 s)) ((τ_13.1 42 - 1)) + 1 ≤ 11700 ∧ sm (fun s => wt (τ_13.2.1 65 s)) ((τ_13.1 42 - 1)) + 1 ≤ (m_13 : Int) from by (first | (intro z; exfalso; omega) | (intro z; exact ⟨rfl, by omega, by omega⟩) | fail)) (show 0 ≤ x12 → 0 ≤ σ.2.1 19 x12 ∧ sm (fun s => wt (τ_13.2.1 65 s)) ((τ_13.1 42 - 1)) + sm (fun k => wt (σ.2.1 91 (σ.2.1 87 x10 + (0 + k)))) (σ.2.1 19 x12 - 0) + 1 ≤ 11700 ∧ sm (fun s => wt (τ_13.2.1 65 s)) ((τ_13.1 42 - 1)) + sm (fun k => wt (σ.2.1 91 (σ.2.1 87 x10 + (0 + k)))) (σ.2.1 19 x12 - 0) + 1 ≤ (m_13 : Int) from by (first | (intro z; exfalso; omega) | (intro z; have w := t12 z; exact ⟨by omega, by omega, by omega⟩) | (intro z; rw [q27_1, q27_2, sw27]; exact ⟨by omega, by omega, by omega⟩) | fail)) (show 1 = 1 → (¬ x12 = n2 ∧ (x12 < 0 → (fun v => ∃ k : Int, (0 ≤ k ∧ k < σ.2.1 19 (σ.2.1 86 n3)) ∧ σ.2.1 86 (σ.2.1 91 (σ.2.1 87 n3 + k)) = v) x12)) ∧ ∃ Z : Int → Prop, y_PZ σ lo hi n2 (fun v => ∃ k : Int, (0 ≤ k ∧ k < σ.2.1 19 (σ.2.1 86 n3)) ∧ σ.2.1 86 (σ.2.1 91 (σ.2.1 87 n3 + k)) = v) Z (fun y => y_Sk ((τ_13.1 42 - 1)) (τ_13.2.1 65) y ∨ y = x10) ∧ (Z n1 ∨ y_Sk ((τ_13.1 42 - 1)) (τ_13.2.1 65) n1 ∨ n1 = x10) ∧ (0 ≤ x12 → ∀ k : Int, 0 ≤ k → k < 0 → Z (σ.2.1 91 (σ.2.1 87 x10 + k)) ∨ y_Sk ((τ_13.1 42 - 1)) (τ_13.2.1 65) (σ.2.1 91 (σ.2.1 87 x10 + k))) from by (first | (intro z; exfalso; omega) | (intro _; have q9 := Pz u4_13 u41 rfl; obtain ⟨Z, b, c⟩ := q9; refine ⟨⟨by assumption, fun l => ?_⟩, Z, b, c, fun _ k a b => by exfalso; omega⟩; first | (exfalso; omega) | exact q15_2.mp (by omega)) | (intro z; have q9 := i86_9 z; obtain ⟨⟨a1, a2⟩, Z, b, c, d⟩ := q9; rw [q27_1, q27_2]; exact ⟨⟨a1, a2⟩, Z, y_PZ_s b (fun y h => h.imp (fun w => y_Sk_a i86_3 (Or.inl w)) id), c.imp id (fun w => w.imp (fun v => y_Sk_a i86_3 (Or.inl v)) id), fun r k k0 k1 => by (rcases (by omega : k < u7_86 ∨ k = u7_86) with y | y; (exact (d r k k0 y).imp id (fun v => y_Sk_a i86_3 (Or.inl v))); (rw [y, ← f26]; exact Or.inr (y_Sk_a i86_3 (Or.inr rfl))))⟩) | fail))
            ·
              refine ⟨_, K_X13_hasLeaf hT (show y_TW (s_v τ_13 42 (τ_13.1 42 - 1)) wt lo hi from by exact TWτ) (show lo ≤ n3 ∧ n3 < hi from by (first | omega | (simp only [st_s] <;> omega) | assumption | omega | fail)) (show 0 ≤ lo ∧ hi ≤ 60000 from by (first | omega | (simp only [st_s] <;> omega) | assumption | omega | fail)) (show 0 ≤ τ_13.2.1 86 n3 from by (rw [G86]; exact p5)), ?_⟩
              intro x16 r_x16 hq
              obtain ⟨q15_1, q15_2⟩ := hq
              replace q15_1 : x16 = 0 ∨ x16 = 1 := q15_1
              replace q15_2 : x16 = 1 ↔ ∃ k : Int, (0 ≤ k ∧ k < τ_13.2.1 19 (τ_13.2.1 86 n3)) ∧ τ_13.2.1 86 (τ_13.2.1 91 (τ_13.2.1 87 n3 + k)) = x12 := q15_2
              rw [G19, G86, G87, G91] at q15_2
              refine ⟨fun c18 => ?_, fun c18 => ?_⟩
              ·
                exact l_86 ((61 - 0 : Int).toNat + 1) _ _ _ _ _ (show (61 - 0 : Int) < (((61 - 0 : Int).toNat + 1 : Nat) : Int) from by ((first | omega | (simp only [st_s] <;> omega) | assumption | omega | fail))) hT (show τ_13.1 5 = σ.1 5 from by first | exact W5 | omega) (show τ_13.1 52 = σ.1 52 from by first | exact W52 | omega) G19 G86 G87 G91 (show 0 = 0 ∨ 0 = 1 from by (first | omega | (simp only [st_s] <;> omega) | assumption | omega | fail)) (show y_SK wt lo hi ((τ_13.1 42 - 1)) (τ_13.2.1 65) from by (first | exact y_SK_p i13_2 (by omega) | (rw [q27_1, q27_2]; exact y_SK_a i86_2 k7.1.1 k7.1.2) | fail)) (show 0 ≤ (τ_13.1 42 - 1) from by (first | omega | (simp only [st_s] <;> omega) | assumption | omega | fail)) (show lo ≤ x10 ∧ x10 < hi from by (first | omega | (simp only [st_s] <;> omega) | assumption | omega | fail)) (show x12 = σ.2.1 86 x10 from by (first | exact e_x12 | exact i86_5 | fail)) (show 0 ≤ 0 from by (first | omega | (simp only [st_s] <;> omega) | assumption | omega | fail)) (show x12 < 0 → 0 = 0 ∧ sm (fun s => wt (τ_13.2.1 65 s)) ((τ_13.1 42 - 1)) + 1 ≤ 11700 ∧ sm (fun s => wt (τ_13.2.1 65 s)) ((τ_13.1 42 - 1)) + 1 ≤ (m_13 : Int) from by (first | (intro z; exfalso; omega) | (intro z; exact ⟨rfl, by omega, by omega⟩) | fail)) (show 0 ≤ x12 → 0 ≤ σ.2.1 19 x12 ∧ sm (fun s => wt (τ_13.2.1 65 s)) ((τ_13.1 42 - 1)) + sm (fun k => wt (σ.2.1 91 (σ.2.1 87 x10 + (0 + k)))) (σ.2.1 19 x12 - 0) + 1 ≤ 11700 ∧ sm (fun s => wt (τ_13.2.1 65 s)) ((τ_13.1 42 - 1)) + sm (fun k => wt (σ.2.1 91 (σ.2.1 87 x10 + (0 + k)))) (σ.2.1 19 x12 - 0) + 1 ≤ (m_13 : Int) from by (first | (intro z; exfalso; omega) | (intro z; have w := t12 z; exact ⟨by omega, by omega, by omega⟩) | (intro z; rw [q27_1, q27_2, sw27]; exact ⟨by omega, by omega, by omega⟩) | fail)) (show 0 = 1 → (¬ x12 = n2 ∧ (x12 < 0 → (fun v => ∃ k : Int, (0 ≤ k ∧ k < σ.2.1 19 (σ.2.1 86 n3)) ∧ σ.2.1 86 (σ.2.1 91 (σ.2.1 87 n3 + k)) = v) x12)) ∧ ∃ Z : Int → Prop, y_PZ σ lo hi n2 (fun v => ∃ k : Int, (0 ≤ k ∧ k < σ.2.1 19 (σ.2.1 86 n3)) ∧ σ.2.1 86 (σ.2.1 91 (σ.2.1 87 n3 + k)) = v) Z (fun y => y_Sk ((τ_13.1 42 - 1)) (τ_13.2.1 65) y ∨ y = x10) ∧ (Z n1 ∨ y_Sk ((τ_13.1 42 - 1)) (τ_13.2.1 65) n1 ∨ n1 = x10) ∧ (0 ≤ x12 → ∀ k : Int, 0 ≤ k → k < 0 → Z (σ.2.1 91 (σ.2.1 87 x10 + k)) ∨ y_Sk ((τ_13.1 42 - 1)) (τ_13.2.1 65) (σ.2.1 91 (σ.2.1 87 x10 + k))) from by (first | (intro z; exfalso; omega) | (intro _; have q9 := Pz u4_13 u41 rfl; obtain ⟨Z, b, c⟩ := q9; refine ⟨⟨by assumption, fun l => ?_⟩, Z, b, c, fun _ k a b => by exfalso; omega⟩; first | (exfalso; omega) | exact q15_2.mp (by omega)) | (intro z; have q9 := i86_9 z; obtain ⟨⟨a1, a2⟩, Z, b, c, d⟩ := q9; rw [q27_1, q27_2]; exact ⟨⟨a1, a2⟩, Z, y_PZ_s b (fun y h => h.imp (fun w => y_Sk_a i86_3 (Or.inl w)) id), c.imp id (fun w => w.imp (fun v => y_Sk_a i86_3 (Or.inl v)) id), fun r k k0 k1 => by (rcases (by omega : k < u7_86 ∨ k = u7_86) with y | y; (exact (d r k k0 y).imp id (fun v => y_Sk_a i86_3 (Or.inl v))); (rw [y, ← f26]; exact Or.inr (y_Sk_a i86_3 (Or.inr rfl))))⟩) | fail))
              ·
                exact l_86 ((61 - 0 : Int).toNat + 1) _ _ _ _ _ (show (61 - 0 : Int) < (((61 - 0 : Int).toNat + 1 : Nat) : Int) from by ((first | omega | (simp only [st_s] <;> omega) | assumption | omega | fail))) hT (show τ_13.1 5 = σ.1 5 from by first | exact W5 | omega) (show τ_13.1 52 = σ.1 52 from by first | exact W52 | omega) G19 G86 G87 G91 (show 1 = 0 ∨ 1 = 1 from by (first | omega | (simp only [st_s] <;> omega) | assumption | omega | fail)) (show y_SK wt lo hi ((τ_13.1 42 - 1)) (τ_13.2.1 65) from by (first | exact y_SK_p i13_2 (by omega) | (rw [q27_1, q27_2]; exact y_SK_a i86_2 k7.1.1 k7.1.2) | fail)) (show 0 ≤ (τ_13.1 42 - 1) from by (first | omega | (simp only [st_s] <;> omega) | assumption | omega | fail)) (show lo ≤ x10 ∧ x10 < hi from by (first | omega | (simp only [st_s] <;> omega) | assumption | omega | fail)) (show x12 = σ.2.1 86 x10 from by (first | exact e_x12 | exact i86_5 | fail)) (show 0 ≤ 0 from by (first | omega | (simp only [st_s] <;> omega) | assumption | omega | fail)) (show x12 < 0 → 0 = 0 ∧ sm (fun s => wt (τ_13.2.1 65 s)) ((τ_13.1 42 - 1)) + 1 ≤ 11700 ∧ sm (fun s => wt (τ_13.2.1 65 s)) ((τ_13.1 42 - 1)) + 1 ≤ (m_13 : Int) from by (first | (intro z; exfalso; omega) | (intro z; exact ⟨rfl, by omega, by omega⟩) | fail)) (show 0 ≤ x12 → 0 ≤ σ.2.1 19 x12 ∧ sm (fun s => wt (τ_13.2.1 65 s)) ((τ_13.1 42 - 1)) + sm (fun k => wt (σ.2.1 91 (σ.2.1 87 x10 + (0 + k)))) (σ.2.1 19 x12 - 0) + 1 ≤ 11700 ∧ sm (fun s => wt (τ_13.2.1 65 s)) ((τ_13.1 42 - 1)) + sm (fun k => wt (σ.2.1 91 (σ.2.1 87 x10 + (0 + k)))) (σ.2.1 19 x12 - 0) + 1 ≤ (m_13 : Int) from by (first | (intro z; exfalso; omega) | (intro z; have w := t12 z; exact ⟨by omega, by omega, by omega⟩) | (intro z; rw [q27_1, q27_2, sw27]; exact ⟨by omega, by omega, by omega⟩) | fail)) (show 1 = 1 → (¬ x12 = n2 ∧ (x12 < 0 → (fun v => ∃ k : Int, (0 ≤ k ∧ k < σ.2.1 19 (σ.2.1 86 n3)) ∧ σ.2.1 86 (σ.2.1 91 (σ.2.1 87 n3 + k)) = v) x12)) ∧ ∃ Z : Int → Prop, y_PZ σ lo hi n2 (fun v => ∃ k : Int, (0 ≤ k ∧ k < σ.2.1 19 (σ.2.1 86 n3)) ∧ σ.2.1 86 (σ.2.1 91 (σ.2.1 87 n3 + k)) = v) Z (fun y => y_Sk ((τ_13.1 42 - 1)) (τ_13.2.1 65) y ∨ y = x10) ∧ (Z n1 ∨ y_Sk ((τ_13.1 42 - 1)) (τ_13.2.1 65) n1 ∨ n1 = x10) ∧ (0 ≤ x12 → ∀ k : Int, 0 ≤ k → k < 0 → Z (σ.2.1 91 (σ.2.1 87 x10 + k)) ∨ y_Sk ((τ_13.1 42 - 1)) (τ_13.2.1 65) (σ.2.1 91 (σ.2.1 87 x10 + k))) from by (first | (intro z; exfalso; omega) | (intro _; have q9 := Pz u4_13 u41 rfl; obtain ⟨Z, b, c⟩ := q9; refine ⟨⟨by assumption, fun l => ?_⟩, Z, b, c, fun _ k a b => by exfalso; omega⟩; first | (exfalso; omega) | exact q15_2.mp (by omega)) | (intro z; have q9 := i86_9 z; obtain ⟨⟨a1, a2⟩, Z, b, c, d⟩ := q9; rw [q27_1, q27_2]; exact ⟨⟨a1, a2⟩, Z, y_PZ_s b (fun y h => h.imp (fun w => y_Sk_a i86_3 (Or.inl w)) id), c.imp id (fun w => w.imp (fun v => y_Sk_a i86_3 (Or.inl v)) id), fun r k k0 k1 => by (rcases (by omega : k < u7_86 ∨ k = u7_86) with y | y; (exact (d r k k0 y).imp id (fun v => y_Sk_a i86_3 (Or.inl v))); (rw [y, ← f26]; exact Or.inr (y_Sk_a i86_3 (Or.inr rfl))))⟩) | fail))
  replace hT := mT_v (i := 42) hT (show (0 : Int) ≤ 0 ∧ 0 ≤ 40000 from by (first | omega | (simp only [st_s] <;> omega) | assumption | omega | fail))
  refine ⟨_, K_X13_enter hT (show ((0 : Int)) < 40000 from by (first | omega | (simp only [st_s] <;> omega) | assumption | omega | fail)) (show 0 ≤ n1 ∧ n1 ≤ 60000 from by (first | omega | (simp only [st_s] <;> omega) | assumption | omega | fail)), ?_⟩
  intro τ3 hn_τ3 hf_τ3 hq
  obtain ⟨hT, q1_1, q1_2, q1_3⟩ := hq
  replace q1_1 : (τ3.1 42) = ((0 : Int)) + 1 := q1_1
  replace q1_2 : τ3.2.1 65 = st (σ.2.1 65) ((0 : Int)) n1 := q1_2
  replace q1_3 : τ3.2.1 66 = st (σ.2.1 66) ((0 : Int)) 0 := q1_3
  have w5_τ3 : τ3.1 5 = σ.1 5 := hf_τ3.1 5 (by decide)
  have w52_τ3 : τ3.1 52 = σ.1 52 := hf_τ3.1 52 (by decide)
  have g19_τ3 : τ3.2.1 19 = σ.2.1 19 := hf_τ3.2.1 19 (by decide)
  have g86_τ3 : τ3.2.1 86 = σ.2.1 86 := hf_τ3.2.1 86 (by decide)
  have g87_τ3 : τ3.2.1 87 = σ.2.1 87 := hf_τ3.2.1 87 (by decide)
  have g91_τ3 : τ3.2.1 91 = σ.2.1 91 := hf_τ3.2.1 91 (by decide)
  have W5 : τ3.1 5 = σ.1 5 := by first | exact w5_τ3.trans W5 | omega
  have W52 : τ3.1 52 = σ.1 52 := by first | exact w52_τ3.trans W52 | omega
  have G19 : τ3.2.1 19 = σ.2.1 19 := (g19_τ3).trans G19
  have G86 : τ3.2.1 86 = σ.2.1 86 := (g86_τ3).trans G86
  have G87 : τ3.2.1 87 = σ.2.1 87 := (g87_τ3).trans G87
  have G91 : τ3.2.1 91 = σ.2.1 91 := (g91_τ3).trans G91
  have A19 : ∀ j, 0 ≤ τ3.2.1 19 j ∧ τ3.2.1 19 j ≤ 60 := fun j => hT.2 19 j
  have A65 : ∀ j, 0 ≤ τ3.2.1 65 j ∧ τ3.2.1 65 j ≤ 60000 := fun j => hT.2 65 j
  have A86 : ∀ j, (-1500) ≤ τ3.2.1 86 j ∧ τ3.2.1 86 j ≤ 1499 := fun j => hT.2 86 j
  have A87 : ∀ j, 0 ≤ τ3.2.1 87 j ∧ τ3.2.1 87 j ≤ 120000 := fun j => hT.2 87 j
  have A91 : ∀ j, 0 ≤ τ3.2.1 91 j ∧ τ3.2.1 91 j ≤ 60000 := fun j => hT.2 91 j
  have v5 : 0 ≤ τ3.1 5 ∧ τ3.1 5 ≤ 1500 := hT.1 5
  have v42 : 0 ≤ τ3.1 42 ∧ τ3.1 42 ≤ 40000 := hT.1 42
  have v52 : 0 ≤ τ3.1 52 ∧ τ3.1 52 ≤ 120000 := hT.1 52
  have sw1 := y_sW_a (wt := wt) (f := σ.2.1 65) (n := 0) (x := n1) (Int.le_refl _)
  rw [sm_0] at sw1
  exact l_13 ((sm (fun s => wt (τ3.2.1 65 s)) (τ3.1 42) : Int).toNat + 1) _ _ (show (sm (fun s => wt (τ3.2.1 65 s)) (τ3.1 42) : Int) < (((sm (fun s => wt (τ3.2.1 65 s)) (τ3.1 42) : Int).toNat + 1 : Nat) : Int) from by ((first | omega | (simp only [st_s] <;> omega) | assumption | omega | fail))) hT (show τ3.1 5 = σ.1 5 from by first | exact W5 | omega) (show τ3.1 52 = σ.1 52 from by first | exact W52 | omega) G19 G86 G87 G91 (show 1 = 0 ∨ 1 = 1 from by (first | omega | (simp only [st_s] <;> omega) | assumption | omega | fail)) (show y_SK wt lo hi (τ3.1 42) (τ3.2.1 65) from by (first | exact i86_2 | (rw [q1_1, q1_2]; exact y_SK_a (n := 0) (fun s a b => by omega) p2.1 p2.2) | fail)) (show 0 ≤ τ3.1 42 from by (first | omega | (simp only [st_s] <;> omega) | assumption | omega | fail)) (show sm (fun s => wt (τ3.2.1 65 s)) (τ3.1 42) ≤ 11700 from by (first | exact (by omega) | (rw [q1_1, q1_2, sw1]; omega) | (rw [q1_1, q1_2]; show sm _ (0 + 1) ≤ _; rw [sw1]; omega) | fail)) (show 1 = 1 → ∃ Z : Int → Prop, y_PZ σ lo hi n2 (fun v => ∃ k : Int, (0 ≤ k ∧ k < σ.2.1 19 (σ.2.1 86 n3)) ∧ σ.2.1 86 (σ.2.1 91 (σ.2.1 87 n3 + k)) = v) Z (y_Sk (τ3.1 42) (τ3.2.1 65)) ∧ (Z n1 ∨ y_Sk (τ3.1 42) (τ3.2.1 65) n1) from by (first | (intro _; exact ⟨fun _ => False, fun y z => z.elim, Or.inr (by rw [q1_1, q1_2]; exact y_Sk_a (Int.le_refl _) (Or.inr rfl))⟩) | (intro z; have q9 := i86_9 z; obtain ⟨⟨a1, a2⟩, Z, b, c, d⟩ := q9; refine ⟨fun y => Z y ∨ y = u5_86, y_PZ_u b i86_4 (by rw [← i86_5]; exact a1) (by rw [← i86_5]; exact a2) (fun r k k0 k1 => d (by omega) k k0 (by first | (rw [← i86_5] at k1; omega) | (exfalso; omega))), ?_⟩; have q9 := c; rcases q9 with c | c | c; (exact Or.inl (Or.inl c)); (exact Or.inr c); (exact Or.inl (Or.inr c))) | fail))
