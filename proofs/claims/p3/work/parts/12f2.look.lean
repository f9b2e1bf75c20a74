-- pure: a node is looked at
/-- a node that is done -/
def y_nd (σ : S0) (is kb kd nf nt ns : Int → Int) (x lo hi kc : Int) : Prop := (is x = -1 - σ.2.1 74 (nf x) ∧ is x < 0 ∧ nt x = nf x + 1 ∧ σ.2.1 73 (nf x) = ns x) ∨
  ((0 ≤ is x ∧ is x < σ.1 50) ∧ y_In σ (is x) ∧ σ.2.1 71 (y_hd σ (is x)) = ns x ∧ (0 ≤ kb x ∧ kb x + σ.2.1 19 (is x) ≤ kc) ∧ ∃ D : Int → Int, y_wy (σ.2.1 72) (y_Wσ σ) (y_f σ (is x)) (nf x) (nt x) (y_nn σ (is x)) D ∧ ∀ m : Int, 0 ≤ m → m < y_nn σ (is x) → y_f σ (is x) (m + 1) < 0 → ∃ k : Int, (0 ≤ k ∧ k < σ.2.1 19 (is x)) ∧ y_hv σ (is x) k = y_sy σ (is x) m ∧ (lo ≤ kd (kb x + k) ∧ kd (kb x + k) < hi) ∧ ns (kd (kb x + k)) = σ.2.1 71 (-2 - y_f σ (is x) (m + 1)) ∧ nf (kd (kb x + k)) = D m ∧ nt (kd (kb x + k)) = D (m + 1))
/-- what a cell that is reached once is made by -/
def y_R0 (ρ : Int → Int → Int → Int) (σ : S0) (c i j r : Int) : Prop := (0 ≤ r ∧ r < σ.1 50) ∧ y_In σ r ∧ σ.2.1 71 (y_hd σ r) = c ∧ y_p1 (σ.2.1 72) (y_Wσ σ) (y_f σ r) i (y_nn σ r).toNat j ∧ ¬ y_p2 (σ.2.1 72) (y_Wσ σ) (y_Vσ σ) (y_f σ r) i (y_nn σ r).toNat j ∧ (y_nn σ r = 1 → y_f σ r 1 < 0 → ρ (-2 - y_f σ r 1) i j < ρ (y_inv (σ.1 3) (σ.2.1 71) c) i j) ∧ ∀ s : Int, 0 ≤ s → s < σ.1 50 → y_In σ s → σ.2.1 71 (y_hd σ s) = c → y_p1 (σ.2.1 72) (y_Wσ σ) (y_f σ s) i (y_nn σ s).toNat j → s = r
theorem y_R0_e {ρ : Int → Int → Int → Int} {σ : S0} {c i j : Int} (h : y_TC ρ σ) (n : y_c0 σ c i j) : ∃ r : Int, ¬ (j = i + 1 ∧ σ.2.1 73 i = c) → y_R0 ρ σ c i j r := by
  by_cases lf : j = i + 1 ∧ σ.2.1 73 i = c
  · exact ⟨0, fun z => absurd lf z⟩
  · obtain ⟨⟨i0, ij, jl⟩, t, tc, w, nv⟩ := n
    have inj := h.1.1.2.2.1.2
    have QD := h.1.1
    have hlf := QD.2.2.2.2 i i0 (by omega)
    obtain ⟨o1, o2, o3⟩ := h.2.1 t i j i0 ij jl
    have nL : ¬ y_L (y_ls (σ.1 3) (σ.2.1 71) (σ.2.1 73)) t i j := fun z => by
      have q := (y_lsL inj hlf).mp z
      exact lf ⟨q.1, by rw [← tc]; exact q.2.2.2.symm⟩
    obtain ⟨_, e3⟩ := o3 w
    rcases e3 with e3 | ⟨r, cr, pr, kr⟩
    · exact absurd e3 nL
    · have ct : ∀ s : Int, 0 ≤ s → s < σ.1 50 → y_In σ s → σ.2.1 71 (y_hd σ s) = c → y_cb (σ.1 50) (y_In σ) (y_hd σ) t s := fun s s0 s1 si sc => by
        have d := (QD.2.2.2.1 s s0 (by have := h.1.2.2; omega) si).1
        refine ⟨⟨s0, s1⟩, si, ?_⟩
        rcases Int.lt_trichotomy (y_hd σ s) t with z | z | z
        · exact absurd (sc.trans tc.symm) (inj _ _ d.1 z w.1.2.1 d.2.2)
        · exact z
        · exact absurd (tc.trans sc.symm) (inj _ _ w.1.1 z d.2.1 w.1.2.2)
      refine ⟨r, fun _ => ⟨cr.1, cr.2.1, by rw [cr.2.2]; exact tc, pr, fun z => nv (o2.mpr (Or.inr (Or.inl ⟨r, cr, z⟩))), fun a b => ?_, fun s s0 s1 si sc sp => ?_⟩⟩
      · have := kr a b
        rw [← tc, y_inv_s inj w.1.1 w.1.2.1 w.1.2.2]; exact this
      · have cs := ct s s0 s1 si sc
        rcases Int.lt_trichotomy s r with z | z | z
        · exact absurd (o2.mpr (Or.inr (Or.inr ⟨s, r, z, ⟨cs, sp⟩, cr, pr⟩))) nv
        · exact z
        · exact absurd (o2.mpr (Or.inr (Or.inr ⟨r, s, z, ⟨cr, pr⟩, cs, sp⟩))) nv
/-- no more hypotheses than variables -/
theorem y_hs {σ : S0} (J : n_J σ) (hT : m_T σ) {r : Int} (r0 : 0 ≤ r) (r1 : r < σ.1 5) (h : y_In σ r) : σ.2.1 19 r ≤ sm (y_vi σ r) (y_nn σ r) := by
  obtain ⟨_, h2, h3, _⟩ := y_rh J hT r0 r1 h
  have n1 := y_nn1 r h
  have ch : ∀ k : Int, ∃ m : Int, 0 ≤ k → k < σ.2.1 19 r → (0 ≤ m ∧ m < y_nn σ r) ∧ y_f σ r (m + 1) < 0 ∧ y_hv σ r k = y_sy σ r m := fun k => by
    by_cases z : 0 ≤ k ∧ k < σ.2.1 19 r
    · obtain ⟨m, a, b, c⟩ := h2 k z.1 z.2
      exact ⟨m, fun _ _ => ⟨a, b, c⟩⟩
    · exact ⟨0, fun a b => absurd ⟨a, b⟩ z⟩
  have o := fun k => Classical.choose_spec (ch k)
  have a := sm_i (f := fun k => Classical.choose (ch k)) (w := y_vi σ r) (n := y_nn σ r) (m := σ.2.1 19 r) (by omega) (fun e _ _ => (y_vi_b σ r e).1) (fun k a b => (o k a b).1) (fun k j a b c e => by
    have ek := (o k a (by omega)).2.2
    have ej := (o j (by omega) c).2.2
    have e : Classical.choose (ch k) = Classical.choose (ch j) := e
    rw [e] at ek
    exact absurd (ek.trans ej.symm) (h3 j k a b c))
  have b := sm_ge (f := fun k => y_vi σ r (Classical.choose (ch k))) (σ.2.1 19 r).toNat (fun e e0 e1 => by
    have w := (o e e0 (by omega)).2.1
    show 1 ≤ y_vi σ r (Classical.choose (ch e))
    unfold y_vi
    rw [if_pos w]
    exact Int.le_refl _)
  have b2 : ((σ.2.1 19 r).toNat : Int) ≤ sm (fun k => y_vi σ r (Classical.choose (ch k))) (σ.2.1 19 r) := b
  omega
theorem y_by {ρ : Int → Int → Int → Int} {σ : S0} {c i j r : Int} (h : y_TC ρ σ) (n : y_c0 σ c i j) (R : y_R0 ρ σ c i j r) : (σ.2.1 76 ((c * 61 + i) * 61 + j) = -1 ∧ ∃ k : Int, (0 ≤ k ∧ k < σ.1 48) ∧ σ.2.1 84 k = r) ∨ σ.2.1 76 ((c * 61 + i) * 61 + j) = r := by
  obtain ⟨⟨i0, ij, jl⟩, t, tc, w, _⟩ := n
  have inj := h.1.1.2.2.1.2
  have QU := h.1.1.2.1
  have MB := (h.2.2.1 t i j w.1.1 w.1.2.1 w.1.2.2 i0 ij jl).2
  rw [tc] at MB
  rcases MB with ⟨m1, m2⟩ | ⟨s, cs, ps, es⟩
  · refine Or.inl ⟨m1, ?_⟩
    have l5 := h.1.2.2
    have d := (h.1.1.2.2.2.1 r R.1.1 (by have := R.1.2; omega) R.2.1).1
    have ht : y_hd σ r = t := by
      rcases Int.lt_trichotomy (y_hd σ r) t with z | z | z
      · exact absurd (R.2.2.1.trans tc.symm) (inj _ _ d.1 z w.1.2.1 d.2.2)
      · exact z
      · exact absurd (tc.trans R.2.2.1.symm) (inj _ _ w.1.1 z d.2.1 w.1.2.2)
    by_cases u : y_U σ r
    · exact QU.2.2 r R.1.1 (by have := R.1.2; omega) R.2.1 u
    · exact absurd ⟨r, ⟨R.1, ⟨R.2.1, u⟩, ht⟩, R.2.2.2.1⟩ m2
  · exact Or.inr (es.trans (R.2.2.2.2.2.2 s cs.1.1 cs.1.2 cs.2.1.1 (by rw [cs.2.2]; exact tc) ps))
theorem y_uty {σ : S0} (hT : m_T σ) (QU : y_Un σ (σ.1 5) (σ.1 48) (σ.2.1 84)) {k : Int} (k0 : 0 ≤ k) (k1 : k < σ.1 48) : -2 - y_f σ (σ.2.1 84 k) 1 = σ.2.1 10 (σ.2.1 16 (σ.2.1 14 (σ.2.1 84 k) + 1)) := by
  have t0 : 0 ≤ σ.2.1 16 (σ.2.1 14 (σ.2.1 84 k) + 1) := (hT.2 16 _).1
  have e := y_ty (QU.1 k k0 k1).2.2.2 t0
  omega
theorem y_uw {ρ : Int → Int → Int → Int} {σ : S0} {c i j r k : Int} (hT : m_T σ) (h : y_TC ρ σ) (ij : i < j) (R : y_R0 ρ σ c i j r) (k0 : 0 ≤ k) (k1 : k < σ.1 48) (z : σ.2.1 84 k = r) : σ.2.1 71 (y_hd σ (σ.2.1 84 k)) = c ∧ 0 ≤ σ.2.1 71 (σ.2.1 10 (σ.2.1 16 (σ.2.1 14 (σ.2.1 84 k) + 1))) ∧ 1 ≤ σ.2.1 75 ((σ.2.1 71 (σ.2.1 10 (σ.2.1 16 (σ.2.1 14 (σ.2.1 84 k) + 1))) * 61 + i) * 61 + j) := by
  have QU := h.1.1.2.1
  have u := (QU.1 k k0 k1).2.2
  have e := y_uty hT QU k0 k1
  have p := R.2.2.2.1
  rw [← z] at p
  rw [u.1] at p
  have w := (y_u1 u.2 ij).mp p
  rw [e] at w
  exact ⟨by rw [z]; exact R.2.2.1, w.1.2.2, w.2⟩
theorem y_uk {ρ : Int → Int → Int → Int} {σ : S0} {c i j r k : Int} (hT : m_T σ) (h : y_TC ρ σ) (ij : i < j) (R : y_R0 ρ σ c i j r) (k0 : 0 ≤ k) (k1 : k < σ.1 48) (kl : σ.2.1 84 k < σ.1 50) (a : σ.2.1 71 (y_hd σ (σ.2.1 84 k)) = c) (b : 0 ≤ σ.2.1 71 (σ.2.1 10 (σ.2.1 16 (σ.2.1 14 (σ.2.1 84 k) + 1)))) (d : 1 ≤ σ.2.1 75 ((σ.2.1 71 (σ.2.1 10 (σ.2.1 16 (σ.2.1 14 (σ.2.1 84 k) + 1))) * 61 + i) * 61 + j)) : σ.2.1 84 k = r := by
  have QU := h.1.1.2.1
  obtain ⟨u0, u1, u2⟩ := QU.1 k k0 k1
  have e := y_uty hT QU k0 k1
  have ty := (h.1.1.2.2.2.1 _ u0.1 u0.2 u1).2 1 (Int.le_refl _) (by rw [u2.1]; exact Int.le_refl _) u2.2
  refine R.2.2.2.2.2.2 _ u0.1 kl u1 a ?_
  rw [u2.1]
  refine (y_u1 u2.2 ij).mpr ⟨⟨ty.1, ty.2, ?_⟩, ?_⟩
  · rw [e]; exact b
  · rw [e]; exact d
set_option maxHeartbeats 16000000 in
theorem K_X13_lookAt {n1 : Int} {ρ : Int → Int → Int → Int} {σ : S0} (hT : m_T σ) (p1 : 0 ≤ n1) (p2 : n1 < (σ.1 51)) (p3 : y_TC ρ σ) (p4 : y_c0 σ (σ.2.1 90 n1) (σ.2.1 88 n1) (σ.2.1 89 n1)) (p5 : (σ.1 51) ≤ 59000) (p6 : (σ.1 52) ≤ 100000) (p7 : ∀ k : Int, 0 ≤ k → k < (σ.1 45) → ¬ σ.2.1 73 k = -1 → 0 ≤ σ.2.1 74 k) : W_X13_lookAt n1 σ (fun (τ : S0) => (m_T τ) ∧ (∀ y : Int, y ≠ n1 → τ.2.1 86 y = σ.2.1 86 y ∧ τ.2.1 87 y = σ.2.1 87 y) ∧ ((σ.1 51) ≤ (τ.1 51)) ∧ ((σ.1 52) ≤ (τ.1 52) ∧ (τ.1 52) - (σ.1 52) ≤ (τ.1 51) - (σ.1 51)) ∧ (∀ y : Int, y < (σ.1 51) → τ.2.1 88 y = σ.2.1 88 y ∧ τ.2.1 89 y = σ.2.1 89 y ∧ τ.2.1 90 y = σ.2.1 90 y) ∧ (∀ e : Int, e < (σ.1 52) → τ.2.1 91 e = σ.2.1 91 e) ∧ (∀ y : Int, (σ.1 51) ≤ y → y < (τ.1 51) → y_c0 σ (τ.2.1 90 y) (τ.2.1 88 y) (τ.2.1 89 y)) ∧ (y_nd σ (τ.2.1 86) (τ.2.1 87) (τ.2.1 91) (τ.2.1 88) (τ.2.1 89) (τ.2.1 90) n1 (σ.1 51) (τ.1 51) (τ.1 52)) ∧ (sm (y_ws ρ σ (σ.1 51) (τ.2.1 90) (τ.2.1 88) (τ.2.1 89)) ((τ.1 51) - (σ.1 51)) + 1 ≤ y_wt ρ σ (σ.2.1 90 n1) (σ.2.1 88 n1) (σ.2.1 89 n1))) := by
  have A8 : ∀ j, 0 ≤ σ.2.1 8 j ∧ σ.2.1 8 j ≤ 1 := fun j => hT.2 8 j
  have A10 : ∀ j, (-1) ≤ σ.2.1 10 j ∧ σ.2.1 10 j ≤ 999 := fun j => hT.2 10 j
  have A13 : ∀ j, 0 ≤ σ.2.1 13 j ∧ σ.2.1 13 j ≤ 4 := fun j => hT.2 13 j
  have A14 : ∀ j, 0 ≤ σ.2.1 14 j ∧ σ.2.1 14 j ≤ 30000 := fun j => hT.2 14 j
  have A15 : ∀ j, 0 ≤ σ.2.1 15 j ∧ σ.2.1 15 j ≤ 300 := fun j => hT.2 15 j
  have A16 : ∀ j, 0 ≤ σ.2.1 16 j ∧ σ.2.1 16 j ≤ 999 := fun j => hT.2 16 j
  have A18 : ∀ j, 0 ≤ σ.2.1 18 j ∧ σ.2.1 18 j ≤ 90000 := fun j => hT.2 18 j
  have A19 : ∀ j, 0 ≤ σ.2.1 19 j ∧ σ.2.1 19 j ≤ 60 := fun j => hT.2 19 j
  have A20 : ∀ j, 0 ≤ σ.2.1 20 j ∧ σ.2.1 20 j ≤ 1499 := fun j => hT.2 20 j
  have A71 : ∀ j, (-1) ≤ σ.2.1 71 j ∧ σ.2.1 71 j ≤ 99 := fun j => hT.2 71 j
  have A72 : ∀ j, 0 ≤ σ.2.1 72 j ∧ σ.2.1 72 j ≤ 999 := fun j => hT.2 72 j
  have A73 : ∀ j, (-1) ≤ σ.2.1 73 j ∧ σ.2.1 73 j ≤ 99 := fun j => hT.2 73 j
  have A74 : ∀ j, (-1) ≤ σ.2.1 74 j ∧ σ.2.1 74 j ≤ 1499 := fun j => hT.2 74 j
  have A75 : ∀ j, 0 ≤ σ.2.1 75 j ∧ σ.2.1 75 j ≤ 3 := fun j => hT.2 75 j
  have A76 : ∀ j, (-1) ≤ σ.2.1 76 j ∧ σ.2.1 76 j ≤ 1499 := fun j => hT.2 76 j
  have A84 : ∀ j, 0 ≤ σ.2.1 84 j ∧ σ.2.1 84 j ≤ 1499 := fun j => hT.2 84 j
  have A86 : ∀ j, (-1500) ≤ σ.2.1 86 j ∧ σ.2.1 86 j ≤ 1499 := fun j => hT.2 86 j
  have A87 : ∀ j, 0 ≤ σ.2.1 87 j ∧ σ.2.1 87 j ≤ 120000 := fun j => hT.2 87 j
  have A88 : ∀ j, 0 ≤ σ.2.1 88 j ∧ σ.2.1 88 j ≤ 59 := fun j => hT.2 88 j
  have A89 : ∀ j, 0 ≤ σ.2.1 89 j ∧ σ.2.1 89 j ≤ 59 := fun j => hT.2 89 j
  have A90 : ∀ j, (-1) ≤ σ.2.1 90 j ∧ σ.2.1 90 j ≤ 99 := fun j => hT.2 90 j
  have A91 : ∀ j, 0 ≤ σ.2.1 91 j ∧ σ.2.1 91 j ≤ 60000 := fun j => hT.2 91 j
  have v3 : 0 ≤ σ.1 3 ∧ σ.1 3 ≤ 1000 := hT.1 3
  have v5 : 0 ≤ σ.1 5 ∧ σ.1 5 ≤ 1500 := hT.1 5
  have v11 : (-1) ≤ σ.1 11 ∧ σ.1 11 ≤ 999 := hT.1 11
  have v45 : 0 ≤ σ.1 45 ∧ σ.1 45 ≤ 59 := hT.1 45
  have v46 : 0 ≤ σ.1 46 ∧ σ.1 46 ≤ 100 := hT.1 46
  have v48 : 0 ≤ σ.1 48 ∧ σ.1 48 ≤ 1500 := hT.1 48
  have v50 : 0 ≤ σ.1 50 ∧ σ.1 50 ≤ 1500 := hT.1 50
  have v51 : 0 ≤ σ.1 51 ∧ σ.1 51 ≤ 60000 := hT.1 51
  have v52 : 0 ≤ σ.1 52 ∧ σ.1 52 ≤ 120000 := hT.1 52
  have W3 : σ.1 3 = σ.1 3 := rfl
  have W5 : σ.1 5 = σ.1 5 := rfl
  have W11 : σ.1 11 = σ.1 11 := rfl
  have W45 : σ.1 45 = σ.1 45 := rfl
  have W46 : σ.1 46 = σ.1 46 := rfl
  have W48 : σ.1 48 = σ.1 48 := rfl
  have W50 : σ.1 50 = σ.1 50 := rfl
  have G8 : σ.2.1 8 = σ.2.1 8 := rfl
  have G10 : σ.2.1 10 = σ.2.1 10 := rfl
  have G13 : σ.2.1 13 = σ.2.1 13 := rfl
  have G14 : σ.2.1 14 = σ.2.1 14 := rfl
  have G15 : σ.2.1 15 = σ.2.1 15 := rfl
  have G16 : σ.2.1 16 = σ.2.1 16 := rfl
  have G18 : σ.2.1 18 = σ.2.1 18 := rfl
  have G19 : σ.2.1 19 = σ.2.1 19 := rfl
  have G20 : σ.2.1 20 = σ.2.1 20 := rfl
  have G71 : σ.2.1 71 = σ.2.1 71 := rfl
  have G72 : σ.2.1 72 = σ.2.1 72 := rfl
  have G73 : σ.2.1 73 = σ.2.1 73 := rfl
  have G74 : σ.2.1 74 = σ.2.1 74 := rfl
  have G75 : σ.2.1 75 = σ.2.1 75 := rfl
  have G76 : σ.2.1 76 = σ.2.1 76 := rfl
  have G84 : σ.2.1 84 = σ.2.1 84 := rfl
  intro P51 P73 P191 P218 h51 h73 h191 h218
  obtain ⟨r0, R0⟩ := y_R0_e p3 p4
  have J := p3.2.2.2.1
  have hTσ := hT
  have WB := y_wt_b p3 p4
  have QD := p3.1.1
  have QU := QD.2.1
  have inj := QD.2.2.1.2
  have soS := y_soS QD.2.2.1
  have ut := y_ut QU QD.2.2.1 QD.2.2.2.1 hT
  have B16 := A16
  have p4s := p4
  obtain ⟨⟨ci0, cij, cjl⟩, tt, tc, tw, tv⟩ := p4
  have st0 : 0 ≤ σ.2.1 90 n1 ∧ σ.2.1 90 n1 < σ.1 46 := by (rw [← tc]; exact ⟨tw.1.2.2, soS tt tw.1.1 tw.1.2.1 tw.1.2.2⟩)
  have l46 := v46
  have l45 := v45
  have l50 := p3.1.2
  have MB := p3.2.2.1 tt (σ.2.1 88 n1) (σ.2.1 89 n1) tw.1.1 tw.1.2.1 tw.1.2.2 ci0 cij cjl
  have hlf := QD.2.2.2.2 (σ.2.1 88 n1) ci0 (by omega)
  have l_73 : ∀ (m_73 : Nat) (u2_73 : Int) (u3_73 : Int) (u4_73 : Int) (u5_73 : Int) (τ_73 : S0), 1501 - u5_73 < (m_73 : Int) → (m_T τ_73) → (τ_73.1 3 = σ.1 3) → (τ_73.1 5 = σ.1 5) → (τ_73.1 11 = σ.1 11) → (τ_73.1 45 = σ.1 45) → (τ_73.1 46 = σ.1 46) → (τ_73.1 48 = σ.1 48) → (τ_73.1 50 = σ.1 50) → (τ_73.2.1 8 = σ.2.1 8) → (τ_73.2.1 10 = σ.2.1 10) → (τ_73.2.1 13 = σ.2.1 13) → (τ_73.2.1 14 = σ.2.1 14) → (τ_73.2.1 15 = σ.2.1 15) → (τ_73.2.1 16 = σ.2.1 16) → (τ_73.2.1 18 = σ.2.1 18) → (τ_73.2.1 19 = σ.2.1 19) → (τ_73.2.1 20 = σ.2.1 20) → (τ_73.2.1 71 = σ.2.1 71) → (τ_73.2.1 72 = σ.2.1 72) → (τ_73.2.1 73 = σ.2.1 73) → (τ_73.2.1 74 = σ.2.1 74) → (τ_73.2.1 75 = σ.2.1 75) → (τ_73.2.1 76 = σ.2.1 76) → (τ_73.2.1 84 = σ.2.1 84) → (τ_73 = σ) → (u2_73 = σ.2.1 88 n1) → (u3_73 = σ.2.1 89 n1) → (0 ≤ u5_73 ∧ u5_73 ≤ (σ.1 48)) → (¬ (σ.2.1 89 n1 = σ.2.1 88 n1 + 1 ∧ σ.2.1 73 (σ.2.1 88 n1) = σ.2.1 90 n1)) → ((u4_73 = -1 ∧ ∀ k : Int, 0 ≤ k → k < u5_73 → σ.2.1 84 k ≠ r0) ∨ u4_73 = r0) → ((∃ k : Int, (0 ≤ k ∧ k < (σ.1 48)) ∧ σ.2.1 84 k = r0) ∨ u4_73 = r0) → P73 n1 u2_73 u3_73 u4_73 u5_73 τ_73 := by
    intro m_73
    induction m_73 with
    | zero =>
      intro u2_73 u3_73 u4_73 u5_73 τ_73 hm hT W3 W5 W11 W45 W46 W48 W50 G8 G10 G13 G14 G15 G16 G18 G19 G20 G71 G72 G73 G74 G75 G76 G84 i73_1 i73_2 i73_3 i73_4 i73_5 i73_6 i73_7
      have A8 : ∀ j, 0 ≤ τ_73.2.1 8 j ∧ τ_73.2.1 8 j ≤ 1 := fun j => hT.2 8 j
      have A10 : ∀ j, (-1) ≤ τ_73.2.1 10 j ∧ τ_73.2.1 10 j ≤ 999 := fun j => hT.2 10 j
      have A13 : ∀ j, 0 ≤ τ_73.2.1 13 j ∧ τ_73.2.1 13 j ≤ 4 := fun j => hT.2 13 j
      have A14 : ∀ j, 0 ≤ τ_73.2.1 14 j ∧ τ_73.2.1 14 j ≤ 30000 := fun j => hT.2 14 j
      have A15 : ∀ j, 0 ≤ τ_73.2.1 15 j ∧ τ_73.2.1 15 j ≤ 300 := fun j => hT.2 15 j
      have A16 : ∀ j, 0 ≤ τ_73.2.1 16 j ∧ τ_73.2.1 16 j ≤ 999 := fun j => hT.2 16 j
      have A18 : ∀ j, 0 ≤ τ_73.2.1 18 j ∧ τ_73.2.1 18 j ≤ 90000 := fun j => hT.2 18 j
      have A19 : ∀ j, 0 ≤ τ_73.2.1 19 j ∧ τ_73.2.1 19 j ≤ 60 := fun j => hT.2 19 j
      have A20 : ∀ j, 0 ≤ τ_73.2.1 20 j ∧ τ_73.2.1 20 j ≤ 1499 := fun j => hT.2 20 j
      have A71 : ∀ j, (-1) ≤ τ_73.2.1 71 j ∧ τ_73.2.1 71 j ≤ 99 := fun j => hT.2 71 j
      have A72 : ∀ j, 0 ≤ τ_73.2.1 72 j ∧ τ_73.2.1 72 j ≤ 999 := fun j => hT.2 72 j
      have A73 : ∀ j, (-1) ≤ τ_73.2.1 73 j ∧ τ_73.2.1 73 j ≤ 99 := fun j => hT.2 73 j
      have A74 : ∀ j, (-1) ≤ τ_73.2.1 74 j ∧ τ_73.2.1 74 j ≤ 1499 := fun j => hT.2 74 j
      have A75 : ∀ j, 0 ≤ τ_73.2.1 75 j ∧ τ_73.2.1 75 j ≤ 3 := fun j => hT.2 75 j
      have A76 : ∀ j, (-1) ≤ τ_73.2.1 76 j ∧ τ_73.2.1 76 j ≤ 1499 := fun j => hT.2 76 j
      have A84 : ∀ j, 0 ≤ τ_73.2.1 84 j ∧ τ_73.2.1 84 j ≤ 1499 := fun j => hT.2 84 j
      have A86 : ∀ j, (-1500) ≤ τ_73.2.1 86 j ∧ τ_73.2.1 86 j ≤ 1499 := fun j => hT.2 86 j
      have A87 : ∀ j, 0 ≤ τ_73.2.1 87 j ∧ τ_73.2.1 87 j ≤ 120000 := fun j => hT.2 87 j
      have A88 : ∀ j, 0 ≤ τ_73.2.1 88 j ∧ τ_73.2.1 88 j ≤ 59 := fun j => hT.2 88 j
      have A89 : ∀ j, 0 ≤ τ_73.2.1 89 j ∧ τ_73.2.1 89 j ≤ 59 := fun j => hT.2 89 j
      have A90 : ∀ j, (-1) ≤ τ_73.2.1 90 j ∧ τ_73.2.1 90 j ≤ 99 := fun j => hT.2 90 j
      have A91 : ∀ j, 0 ≤ τ_73.2.1 91 j ∧ τ_73.2.1 91 j ≤ 60000 := fun j => hT.2 91 j
      have v3 : 0 ≤ τ_73.1 3 ∧ τ_73.1 3 ≤ 1000 := hT.1 3
      have v5 : 0 ≤ τ_73.1 5 ∧ τ_73.1 5 ≤ 1500 := hT.1 5
      have v11 : (-1) ≤ τ_73.1 11 ∧ τ_73.1 11 ≤ 999 := hT.1 11
      have v45 : 0 ≤ τ_73.1 45 ∧ τ_73.1 45 ≤ 59 := hT.1 45
      have v46 : 0 ≤ τ_73.1 46 ∧ τ_73.1 46 ≤ 100 := hT.1 46
      have v48 : 0 ≤ τ_73.1 48 ∧ τ_73.1 48 ≤ 1500 := hT.1 48
      have v50 : 0 ≤ τ_73.1 50 ∧ τ_73.1 50 ≤ 1500 := hT.1 50
      have v51 : 0 ≤ τ_73.1 51 ∧ τ_73.1 51 ≤ 60000 := hT.1 51
      have v52 : 0 ≤ τ_73.1 52 ∧ τ_73.1 52 ≤ 120000 := hT.1 52
      exfalso; (first | omega | (simp only [st_s] <;> omega) | assumption | omega | fail)
    | succ m_73 ih_73 =>
      intro u2_73 u3_73 u4_73 u5_73 τ_73 hm_73 hT W3 W5 W11 W45 W46 W48 W50 G8 G10 G13 G14 G15 G16 G18 G19 G20 G71 G72 G73 G74 G75 G76 G84 i73_1 i73_2 i73_3 i73_4 i73_5 i73_6 i73_7
      have A8 : ∀ j, 0 ≤ τ_73.2.1 8 j ∧ τ_73.2.1 8 j ≤ 1 := fun j => hT.2 8 j
      have A10 : ∀ j, (-1) ≤ τ_73.2.1 10 j ∧ τ_73.2.1 10 j ≤ 999 := fun j => hT.2 10 j
      have A13 : ∀ j, 0 ≤ τ_73.2.1 13 j ∧ τ_73.2.1 13 j ≤ 4 := fun j => hT.2 13 j
      have A14 : ∀ j, 0 ≤ τ_73.2.1 14 j ∧ τ_73.2.1 14 j ≤ 30000 := fun j => hT.2 14 j
      have A15 : ∀ j, 0 ≤ τ_73.2.1 15 j ∧ τ_73.2.1 15 j ≤ 300 := fun j => hT.2 15 j
      have A16 : ∀ j, 0 ≤ τ_73.2.1 16 j ∧ τ_73.2.1 16 j ≤ 999 := fun j => hT.2 16 j
      have A18 : ∀ j, 0 ≤ τ_73.2.1 18 j ∧ τ_73.2.1 18 j ≤ 90000 := fun j => hT.2 18 j
      have A19 : ∀ j, 0 ≤ τ_73.2.1 19 j ∧ τ_73.2.1 19 j ≤ 60 := fun j => hT.2 19 j
      have A20 : ∀ j, 0 ≤ τ_73.2.1 20 j ∧ τ_73.2.1 20 j ≤ 1499 := fun j => hT.2 20 j
      have A71 : ∀ j, (-1) ≤ τ_73.2.1 71 j ∧ τ_73.2.1 71 j ≤ 99 := fun j => hT.2 71 j
      have A72 : ∀ j, 0 ≤ τ_73.2.1 72 j ∧ τ_73.2.1 72 j ≤ 999 := fun j => hT.2 72 j
      have A73 : ∀ j, (-1) ≤ τ_73.2.1 73 j ∧ τ_73.2.1 73 j ≤ 99 := fun j => hT.2 73 j
      have A74 : ∀ j, (-1) ≤ τ_73.2.1 74 j ∧ τ_73.2.1 74 j ≤ 1499 := fun j => hT.2 74 j
      have A75 : ∀ j, 0 ≤ τ_73.2.1 75 j ∧ τ_73.2.1 75 j ≤ 3 := fun j => hT.2 75 j
      have A76 : ∀ j, (-1) ≤ τ_73.2.1 76 j ∧ τ_73.2.1 76 j ≤ 1499 := fun j => hT.2 76 j
      have A84 : ∀ j, 0 ≤ τ_73.2.1 84 j ∧ τ_73.2.1 84 j ≤ 1499 := fun j => hT.2 84 j
      have A86 : ∀ j, (-1500) ≤ τ_73.2.1 86 j ∧ τ_73.2.1 86 j ≤ 1499 := fun j => hT.2 86 j
      have A87 : ∀ j, 0 ≤ τ_73.2.1 87 j ∧ τ_73.2.1 87 j ≤ 120000 := fun j => hT.2 87 j
      have A88 : ∀ j, 0 ≤ τ_73.2.1 88 j ∧ τ_73.2.1 88 j ≤ 59 := fun j => hT.2 88 j
      have A89 : ∀ j, 0 ≤ τ_73.2.1 89 j ∧ τ_73.2.1 89 j ≤ 59 := fun j => hT.2 89 j
      have A90 : ∀ j, (-1) ≤ τ_73.2.1 90 j ∧ τ_73.2.1 90 j ≤ 99 := fun j => hT.2 90 j
      have A91 : ∀ j, 0 ≤ τ_73.2.1 91 j ∧ τ_73.2.1 91 j ≤ 60000 := fun j => hT.2 91 j
      have v3 : 0 ≤ τ_73.1 3 ∧ τ_73.1 3 ≤ 1000 := hT.1 3
      have v5 : 0 ≤ τ_73.1 5 ∧ τ_73.1 5 ≤ 1500 := hT.1 5
      have v11 : (-1) ≤ τ_73.1 11 ∧ τ_73.1 11 ≤ 999 := hT.1 11
      have v45 : 0 ≤ τ_73.1 45 ∧ τ_73.1 45 ≤ 59 := hT.1 45
      have v46 : 0 ≤ τ_73.1 46 ∧ τ_73.1 46 ≤ 100 := hT.1 46
      have v48 : 0 ≤ τ_73.1 48 ∧ τ_73.1 48 ≤ 1500 := hT.1 48
      have v50 : 0 ≤ τ_73.1 50 ∧ τ_73.1 50 ≤ 1500 := hT.1 50
      have v51 : 0 ≤ τ_73.1 51 ∧ τ_73.1 51 ≤ 60000 := hT.1 51
      have v52 : 0 ≤ τ_73.1 52 ∧ τ_73.1 52 ≤ 120000 := hT.1 52
      obtain ⟨⟨ra1, ra2⟩, rb, rc, rd, re, rf, rg0⟩ := R0 i73_5
      refine h73 n1 u2_73 u3_73 u4_73 u5_73 τ_73 ?_
      refine ⟨fun c19 => ?_, fun c19 => ?_⟩
      ·
        refine h218 _ _ _ ?_
        refine ⟨fun c50 => ?_, fun c50 => ?_⟩
        ·
          have e0 : u4_73 = r0 := by (rcases i73_6 with ⟨z, w⟩ | w; (rcases i73_7 with ⟨k0, hk0, ek0⟩ | w2; (exfalso; first | omega | exact w k0 hk0.1 (by omega) ek0 | (rcases (by omega : k0 < u5_73 ∨ k0 = u5_73 ∨ u5_73 < k0) with y | y | y; (exact w k0 hk0.1 y ek0); (rw [y] at ek0; omega); (have m := QU.2.1 u5_73 k0 i73_4.1 y hk0.2; omega)) | omega); (exact w2)); (exact w))
          exact ⟨hT, (show ∀ y : Int, y ≠ n1 → τ_73.2.1 86 y = σ.2.1 86 y ∧ τ_73.2.1 87 y = σ.2.1 87 y from by (first | (exfalso; omega) | (intro y a; rw [q51_1, q51_2, st_n _ _ a, st_n _ _ a]; exact ⟨rfl, rfl⟩) | (intro y a; rw [st_n _ _ a]; exact ⟨rfl, rfl⟩) | fail)), (show (σ.1 51) ≤ (τ_73.1 51) from by (first | omega | fail)), (show (σ.1 52) ≤ (τ_73.1 52) ∧ (τ_73.1 52) - (σ.1 52) ≤ (τ_73.1 51) - (σ.1 51) from by (first | omega | fail)), (show ∀ y : Int, y < (σ.1 51) → τ_73.2.1 88 y = σ.2.1 88 y ∧ τ_73.2.1 89 y = σ.2.1 89 y ∧ τ_73.2.1 90 y = σ.2.1 90 y from by (first | (exfalso; omega) | exact q51_5 | exact fun y a => ⟨rfl, rfl, rfl⟩ | fail)), (show ∀ e : Int, e < (σ.1 52) → τ_73.2.1 91 e = σ.2.1 91 e from by (first | (exfalso; omega) | exact q51_6 | exact fun y a => rfl | fail)), (show ∀ y : Int, (σ.1 51) ≤ y → y < (τ_73.1 51) → y_c0 σ (τ_73.2.1 90 y) (τ_73.2.1 88 y) (τ_73.2.1 89 y) from by (first | (exfalso; omega) | exact q51_7 | (intro y a b; exfalso; omega) | fail)), (show y_nd σ (τ_73.2.1 86) (τ_73.2.1 87) (τ_73.2.1 91) (τ_73.2.1 88) (τ_73.2.1 89) (τ_73.2.1 90) n1 (σ.1 51) (τ_73.1 51) (τ_73.1 52) from by (first | (exfalso; omega) | (refine Or.inr ?_; rw [i1, k1, f1.1, f1.2.1, f1.2.2]; exact ⟨⟨ra1, ra2⟩, rb, rc, ⟨by omega, by omega⟩, q51_8⟩) | (refine Or.inl ⟨?_, ?_, ?_, ?_⟩; (rw [st_s, e_x10, e_x2]); (rw [st_s]; have w := p7 x2 (by omega) (by omega) (by omega); omega); (omega); (rw [← e_x2, ← e_x7, ← e_x8]; assumption)) | fail)), (show sm (y_ws ρ σ (σ.1 51) (τ_73.2.1 90) (τ_73.2.1 88) (τ_73.2.1 89)) ((τ_73.1 51) - (σ.1 51)) + 1 ≤ y_wt ρ σ (σ.2.1 90 n1) (σ.2.1 88 n1) (σ.2.1 89 n1) from by (first | (exfalso; omega) | exact q51_9 | (rw [show σ.1 51 - σ.1 51 = 0 from by omega, sm_0]; omega) | fail))⟩
        ·
          have e0 : u4_73 = r0 := by (rcases i73_6 with ⟨z, w⟩ | w; (rcases i73_7 with ⟨k0, hk0, ek0⟩ | w2; (exfalso; first | omega | exact w k0 hk0.1 (by omega) ek0 | (rcases (by omega : k0 < u5_73 ∨ k0 = u5_73 ∨ u5_73 < k0) with y | y | y; (exact w k0 hk0.1 y ek0); (rw [y] at ek0; omega); (have m := QU.2.1 u5_73 k0 i73_4.1 y hk0.2; omega)) | omega); (exact w2)); (exact w))
          refine ⟨_, K_X13_part hT (show 0 ≤ n1 from by (first | omega | (simp only [st_s] <;> omega) | assumption | omega | fail)) (show n1 < (τ_73.1 51) from by (rw [i73_1]; exact p2)) (show 0 ≤ u4_73 from by (first | omega | (simp only [st_s] <;> omega) | assumption | omega | fail)) (show u4_73 < (τ_73.1 50) from by (rw [i73_1]; omega)) (show y_In τ_73 u4_73 from by (rw [i73_1, e0]; exact rb)) (show y_TC ρ τ_73 from by (rw [i73_1]; exact p3)) (show y_p1 (τ_73.2.1 72) (y_Wσ τ_73) (y_f τ_73 u4_73) (τ_73.2.1 88 n1) (y_nn τ_73 u4_73).toNat (τ_73.2.1 89 n1) from by (rw [i73_1, e0]; exact rd)) (show ¬ y_p2 (τ_73.2.1 72) (y_Wσ τ_73) (y_Vσ τ_73) (y_f τ_73 u4_73) (τ_73.2.1 88 n1) (y_nn τ_73 u4_73).toNat (τ_73.2.1 89 n1) from by (rw [i73_1, e0]; exact re)) (show (τ_73.1 51) ≤ 59000 from by (rw [i73_1]; exact p5)) (show (τ_73.1 52) ≤ 100000 from by (rw [i73_1]; exact p6)) (show y_c0 τ_73 (τ_73.2.1 90 n1) (τ_73.2.1 88 n1) (τ_73.2.1 89 n1) from by (rw [i73_1]; exact p4s)) (show y_nn τ_73 u4_73 = 1 → y_f τ_73 u4_73 1 < 0 → ρ (-2 - y_f τ_73 u4_73 1) (τ_73.2.1 88 n1) (τ_73.2.1 89 n1) < ρ (y_inv (τ_73.1 3) (τ_73.2.1 71) (τ_73.2.1 90 n1)) (τ_73.2.1 88 n1) (τ_73.2.1 89 n1) from by (rw [i73_1, e0]; exact rf)), ?_⟩
          intro τ53 hn_τ53 hf_τ53 hq
          obtain ⟨hT, q51_1, q51_2, q51_3, q51_4, q51_5, q51_6, q51_7, q51_8, q51_9⟩ := hq
          replace q51_1 : τ53.2.1 86 = st (τ_73.2.1 86) n1 u4_73 := q51_1
          replace q51_2 : τ53.2.1 87 = st (τ_73.2.1 87) n1 (τ_73.1 52) := q51_2
          replace q51_3 : (τ53.1 52) = (τ_73.1 52) + τ_73.2.1 19 u4_73 := q51_3
          replace q51_4 : (τ53.1 51) = (τ_73.1 51) + sm (y_vi τ_73 u4_73) (y_nn τ_73 u4_73) := q51_4
          replace q51_5 : ∀ y : Int, y < (τ_73.1 51) → τ53.2.1 88 y = τ_73.2.1 88 y ∧ τ53.2.1 89 y = τ_73.2.1 89 y ∧ τ53.2.1 90 y = τ_73.2.1 90 y := q51_5
          replace q51_6 : ∀ e : Int, e < (τ_73.1 52) → τ53.2.1 91 e = τ_73.2.1 91 e := q51_6
          replace q51_7 : ∀ y : Int, (τ_73.1 51) ≤ y → y < (τ53.1 51) → y_c0 τ_73 (τ53.2.1 90 y) (τ53.2.1 88 y) (τ53.2.1 89 y) := q51_7
          replace q51_8 : ∃ D : Int → Int, y_wy (τ_73.2.1 72) (y_Wσ τ_73) (y_f τ_73 u4_73) (τ_73.2.1 88 n1) (τ_73.2.1 89 n1) (y_nn τ_73 u4_73) D ∧ ∀ m : Int, 0 ≤ m → m < y_nn τ_73 u4_73 → y_f τ_73 u4_73 (m + 1) < 0 → ∃ k : Int, (0 ≤ k ∧ k < τ_73.2.1 19 u4_73) ∧ y_hv τ_73 u4_73 k = y_sy τ_73 u4_73 m ∧ ((τ_73.1 51) ≤ τ53.2.1 91 ((τ_73.1 52) + k) ∧ τ53.2.1 91 ((τ_73.1 52) + k) < (τ53.1 51)) ∧ τ53.2.1 90 (τ53.2.1 91 ((τ_73.1 52) + k)) = τ_73.2.1 71 (-2 - y_f τ_73 u4_73 (m + 1)) ∧ τ53.2.1 88 (τ53.2.1 91 ((τ_73.1 52) + k)) = D m ∧ τ53.2.1 89 (τ53.2.1 91 ((τ_73.1 52) + k)) = D (m + 1) := q51_8
          replace q51_9 : sm (y_ws ρ τ_73 (τ_73.1 51) (τ53.2.1 90) (τ53.2.1 88) (τ53.2.1 89)) ((τ53.1 51) - (τ_73.1 51)) + 1 ≤ y_wt ρ τ_73 (τ_73.2.1 90 n1) (τ_73.2.1 88 n1) (τ_73.2.1 89 n1) := q51_9
          have w3_τ53 : τ53.1 3 = τ_73.1 3 := hf_τ53.1 3 (by decide)
          have w5_τ53 : τ53.1 5 = τ_73.1 5 := hf_τ53.1 5 (by decide)
          have w11_τ53 : τ53.1 11 = τ_73.1 11 := hf_τ53.1 11 (by decide)
          have w45_τ53 : τ53.1 45 = τ_73.1 45 := hf_τ53.1 45 (by decide)
          have w46_τ53 : τ53.1 46 = τ_73.1 46 := hf_τ53.1 46 (by decide)
          have w48_τ53 : τ53.1 48 = τ_73.1 48 := hf_τ53.1 48 (by decide)
          have w50_τ53 : τ53.1 50 = τ_73.1 50 := hf_τ53.1 50 (by decide)
          have g8_τ53 : τ53.2.1 8 = τ_73.2.1 8 := hf_τ53.2.1 8 (by decide)
          have g10_τ53 : τ53.2.1 10 = τ_73.2.1 10 := hf_τ53.2.1 10 (by decide)
          have g13_τ53 : τ53.2.1 13 = τ_73.2.1 13 := hf_τ53.2.1 13 (by decide)
          have g14_τ53 : τ53.2.1 14 = τ_73.2.1 14 := hf_τ53.2.1 14 (by decide)
          have g15_τ53 : τ53.2.1 15 = τ_73.2.1 15 := hf_τ53.2.1 15 (by decide)
          have g16_τ53 : τ53.2.1 16 = τ_73.2.1 16 := hf_τ53.2.1 16 (by decide)
          have g18_τ53 : τ53.2.1 18 = τ_73.2.1 18 := hf_τ53.2.1 18 (by decide)
          have g19_τ53 : τ53.2.1 19 = τ_73.2.1 19 := hf_τ53.2.1 19 (by decide)
          have g20_τ53 : τ53.2.1 20 = τ_73.2.1 20 := hf_τ53.2.1 20 (by decide)
          have g71_τ53 : τ53.2.1 71 = τ_73.2.1 71 := hf_τ53.2.1 71 (by decide)
          have g72_τ53 : τ53.2.1 72 = τ_73.2.1 72 := hf_τ53.2.1 72 (by decide)
          have g73_τ53 : τ53.2.1 73 = τ_73.2.1 73 := hf_τ53.2.1 73 (by decide)
          have g74_τ53 : τ53.2.1 74 = τ_73.2.1 74 := hf_τ53.2.1 74 (by decide)
          have g75_τ53 : τ53.2.1 75 = τ_73.2.1 75 := hf_τ53.2.1 75 (by decide)
          have g76_τ53 : τ53.2.1 76 = τ_73.2.1 76 := hf_τ53.2.1 76 (by decide)
          have g84_τ53 : τ53.2.1 84 = τ_73.2.1 84 := hf_τ53.2.1 84 (by decide)
          have W3 : τ53.1 3 = σ.1 3 := by first | exact w3_τ53.trans W3 | omega
          have W5 : τ53.1 5 = σ.1 5 := by first | exact w5_τ53.trans W5 | omega
          have W11 : τ53.1 11 = σ.1 11 := by first | exact w11_τ53.trans W11 | omega
          have W45 : τ53.1 45 = σ.1 45 := by first | exact w45_τ53.trans W45 | omega
          have W46 : τ53.1 46 = σ.1 46 := by first | exact w46_τ53.trans W46 | omega
          have W48 : τ53.1 48 = σ.1 48 := by first | exact w48_τ53.trans W48 | omega
          have W50 : τ53.1 50 = σ.1 50 := by first | exact w50_τ53.trans W50 | omega
          have G8 : τ53.2.1 8 = σ.2.1 8 := (g8_τ53).trans G8
          have G10 : τ53.2.1 10 = σ.2.1 10 := (g10_τ53).trans G10
          have G13 : τ53.2.1 13 = σ.2.1 13 := (g13_τ53).trans G13
          have G14 : τ53.2.1 14 = σ.2.1 14 := (g14_τ53).trans G14
          have G15 : τ53.2.1 15 = σ.2.1 15 := (g15_τ53).trans G15
          have G16 : τ53.2.1 16 = σ.2.1 16 := (g16_τ53).trans G16
          have G18 : τ53.2.1 18 = σ.2.1 18 := (g18_τ53).trans G18
          have G19 : τ53.2.1 19 = σ.2.1 19 := (g19_τ53).trans G19
          have G20 : τ53.2.1 20 = σ.2.1 20 := (g20_τ53).trans G20
          have G71 : τ53.2.1 71 = σ.2.1 71 := (g71_τ53).trans G71
          have G72 : τ53.2.1 72 = σ.2.1 72 := (g72_τ53).trans G72
          have G73 : τ53.2.1 73 = σ.2.1 73 := (g73_τ53).trans G73
          have G74 : τ53.2.1 74 = σ.2.1 74 := (g74_τ53).trans G74
          have G75 : τ53.2.1 75 = σ.2.1 75 := (g75_τ53).trans G75
          have G76 : τ53.2.1 76 = σ.2.1 76 := (g76_τ53).trans G76
          have G84 : τ53.2.1 84 = σ.2.1 84 := (g84_τ53).trans G84
          have A8 : ∀ j, 0 ≤ τ53.2.1 8 j ∧ τ53.2.1 8 j ≤ 1 := fun j => hT.2 8 j
          have A10 : ∀ j, (-1) ≤ τ53.2.1 10 j ∧ τ53.2.1 10 j ≤ 999 := fun j => hT.2 10 j
          have A13 : ∀ j, 0 ≤ τ53.2.1 13 j ∧ τ53.2.1 13 j ≤ 4 := fun j => hT.2 13 j
          have A14 : ∀ j, 0 ≤ τ53.2.1 14 j ∧ τ53.2.1 14 j ≤ 30000 := fun j => hT.2 14 j
          have A15 : ∀ j, 0 ≤ τ53.2.1 15 j ∧ τ53.2.1 15 j ≤ 300 := fun j => hT.2 15 j
          have A16 : ∀ j, 0 ≤ τ53.2.1 16 j ∧ τ53.2.1 16 j ≤ 999 := fun j => hT.2 16 j
          have A18 : ∀ j, 0 ≤ τ53.2.1 18 j ∧ τ53.2.1 18 j ≤ 90000 := fun j => hT.2 18 j
          have A19 : ∀ j, 0 ≤ τ53.2.1 19 j ∧ τ53.2.1 19 j ≤ 60 := fun j => hT.2 19 j
          have A20 : ∀ j, 0 ≤ τ53.2.1 20 j ∧ τ53.2.1 20 j ≤ 1499 := fun j => hT.2 20 j
          have A71 : ∀ j, (-1) ≤ τ53.2.1 71 j ∧ τ53.2.1 71 j ≤ 99 := fun j => hT.2 71 j
          have A72 : ∀ j, 0 ≤ τ53.2.1 72 j ∧ τ53.2.1 72 j ≤ 999 := fun j => hT.2 72 j
          have A73 : ∀ j, (-1) ≤ τ53.2.1 73 j ∧ τ53.2.1 73 j ≤ 99 := fun j => hT.2 73 j
          have A74 : ∀ j, (-1) ≤ τ53.2.1 74 j ∧ τ53.2.1 74 j ≤ 1499 := fun j => hT.2 74 j
          have A75 : ∀ j, 0 ≤ τ53.2.1 75 j ∧ τ53.2.1 75 j ≤ 3 := fun j => hT.2 75 j
          have A76 : ∀ j, (-1) ≤ τ53.2.1 76 j ∧ τ53.2.1 76 j ≤ 1499 := fun j => hT.2 76 j
          have A84 : ∀ j, 0 ≤ τ53.2.1 84 j ∧ τ53.2.1 84 j ≤ 1499 := fun j => hT.2 84 j
          have A86 : ∀ j, (-1500) ≤ τ53.2.1 86 j ∧ τ53.2.1 86 j ≤ 1499 := fun j => hT.2 86 j
          have A87 : ∀ j, 0 ≤ τ53.2.1 87 j ∧ τ53.2.1 87 j ≤ 120000 := fun j => hT.2 87 j
          have A88 : ∀ j, 0 ≤ τ53.2.1 88 j ∧ τ53.2.1 88 j ≤ 59 := fun j => hT.2 88 j
          have A89 : ∀ j, 0 ≤ τ53.2.1 89 j ∧ τ53.2.1 89 j ≤ 59 := fun j => hT.2 89 j
          have A90 : ∀ j, (-1) ≤ τ53.2.1 90 j ∧ τ53.2.1 90 j ≤ 99 := fun j => hT.2 90 j
          have A91 : ∀ j, 0 ≤ τ53.2.1 91 j ∧ τ53.2.1 91 j ≤ 60000 := fun j => hT.2 91 j
          have v3 : 0 ≤ τ53.1 3 ∧ τ53.1 3 ≤ 1000 := hT.1 3
          have v5 : 0 ≤ τ53.1 5 ∧ τ53.1 5 ≤ 1500 := hT.1 5
          have v11 : (-1) ≤ τ53.1 11 ∧ τ53.1 11 ≤ 999 := hT.1 11
          have v45 : 0 ≤ τ53.1 45 ∧ τ53.1 45 ≤ 59 := hT.1 45
          have v46 : 0 ≤ τ53.1 46 ∧ τ53.1 46 ≤ 100 := hT.1 46
          have v48 : 0 ≤ τ53.1 48 ∧ τ53.1 48 ≤ 1500 := hT.1 48
          have v50 : 0 ≤ τ53.1 50 ∧ τ53.1 50 ≤ 1500 := hT.1 50
          have v51 : 0 ≤ τ53.1 51 ∧ τ53.1 51 ≤ 60000 := hT.1 51
          have v52 : 0 ≤ τ53.1 52 ∧ τ53.1 52 ≤ 120000 := hT.1 52
          rw [i73_1] at q51_1 q51_2 q51_3 q51_4 q51_5 q51_6 q51_7 q51_8 q51_9
          rw [e0] at q51_1 q51_3 q51_4 q51_8
          have hsv := y_hs J hTσ ra1 (by omega) rb
          have v0 := y_vi_m (σ := σ) (r := r0) (u := 0) (n := y_nn σ r0) (Int.le_refl _) (by have w := y_nn1 r0 rb; omega)
          have a19r := hTσ.2 19 r0
          have a19r : 0 ≤ σ.2.1 19 r0 := a19r.1
          have i1 : τ53.2.1 86 n1 = r0 := by rw [q51_1, st_s]
          have k1 : τ53.2.1 87 n1 = σ.1 52 := by rw [q51_2, st_s]
          have f1 := q51_5 n1 p2
          exact ⟨hT, (show ∀ y : Int, y ≠ n1 → τ53.2.1 86 y = σ.2.1 86 y ∧ τ53.2.1 87 y = σ.2.1 87 y from by (first | (exfalso; omega) | (intro y a; rw [q51_1, q51_2, st_n _ _ a, st_n _ _ a]; exact ⟨rfl, rfl⟩) | (intro y a; rw [st_n _ _ a]; exact ⟨rfl, rfl⟩) | fail)), (show (σ.1 51) ≤ (τ53.1 51) from by (first | omega | fail)), (show (σ.1 52) ≤ (τ53.1 52) ∧ (τ53.1 52) - (σ.1 52) ≤ (τ53.1 51) - (σ.1 51) from by (first | omega | fail)), (show ∀ y : Int, y < (σ.1 51) → τ53.2.1 88 y = σ.2.1 88 y ∧ τ53.2.1 89 y = σ.2.1 89 y ∧ τ53.2.1 90 y = σ.2.1 90 y from by (first | (exfalso; omega) | exact q51_5 | exact fun y a => ⟨rfl, rfl, rfl⟩ | fail)), (show ∀ e : Int, e < (σ.1 52) → τ53.2.1 91 e = σ.2.1 91 e from by (first | (exfalso; omega) | exact q51_6 | exact fun y a => rfl | fail)), (show ∀ y : Int, (σ.1 51) ≤ y → y < (τ53.1 51) → y_c0 σ (τ53.2.1 90 y) (τ53.2.1 88 y) (τ53.2.1 89 y) from by (first | (exfalso; omega) | exact q51_7 | (intro y a b; exfalso; omega) | fail)), (show y_nd σ (τ53.2.1 86) (τ53.2.1 87) (τ53.2.1 91) (τ53.2.1 88) (τ53.2.1 89) (τ53.2.1 90) n1 (σ.1 51) (τ53.1 51) (τ53.1 52) from by (first | (exfalso; omega) | (refine Or.inr ?_; rw [i1, k1, f1.1, f1.2.1, f1.2.2]; exact ⟨⟨ra1, ra2⟩, rb, rc, ⟨by omega, by omega⟩, q51_8⟩) | (refine Or.inl ⟨?_, ?_, ?_, ?_⟩; (rw [st_s, e_x10, e_x2]); (rw [st_s]; have w := p7 x2 (by omega) (by omega) (by omega); omega); (omega); (rw [← e_x2, ← e_x7, ← e_x8]; assumption)) | fail)), (show sm (y_ws ρ σ (σ.1 51) (τ53.2.1 90) (τ53.2.1 88) (τ53.2.1 89)) ((τ53.1 51) - (σ.1 51)) + 1 ≤ y_wt ρ σ (σ.2.1 90 n1) (σ.2.1 88 n1) (σ.2.1 89 n1) from by (first | (exfalso; omega) | exact q51_9 | (rw [show σ.1 51 - σ.1 51 = 0 from by omega, sm_0]; omega) | fail))⟩
      ·
        refine ⟨(show 0 ≤ u5_73 ∧ u5_73 < 1501 from by (first | omega | (simp only [st_s] <;> omega) | assumption | omega | fail)), ?_⟩
        intro x21 r_x21 e_x21
        have b_x21 : 0 ≤ x21 ∧ x21 ≤ 1499 := by rw [e_x21]; exact hT.2 84 _
        rw [G84] at e_x21
        refine ⟨fun c22 => ?_, fun c22 => ?_⟩
        ·
          refine h218 _ _ _ ?_
          refine ⟨fun c50 => ?_, fun c50 => ?_⟩
          ·
            have e0 : u4_73 = r0 := by (rcases i73_6 with ⟨z, w⟩ | w; (rcases i73_7 with ⟨k0, hk0, ek0⟩ | w2; (exfalso; first | omega | exact w k0 hk0.1 (by omega) ek0 | (rcases (by omega : k0 < u5_73 ∨ k0 = u5_73 ∨ u5_73 < k0) with y | y | y; (exact w k0 hk0.1 y ek0); (rw [y] at ek0; omega); (have m := QU.2.1 u5_73 k0 i73_4.1 y hk0.2; omega)) | omega); (exact w2)); (exact w))
            exact ⟨hT, (show ∀ y : Int, y ≠ n1 → τ_73.2.1 86 y = σ.2.1 86 y ∧ τ_73.2.1 87 y = σ.2.1 87 y from by (first | (exfalso; omega) | (intro y a; rw [q51_1, q51_2, st_n _ _ a, st_n _ _ a]; exact ⟨rfl, rfl⟩) | (intro y a; rw [st_n _ _ a]; exact ⟨rfl, rfl⟩) | fail)), (show (σ.1 51) ≤ (τ_73.1 51) from by (first | omega | fail)), (show (σ.1 52) ≤ (τ_73.1 52) ∧ (τ_73.1 52) - (σ.1 52) ≤ (τ_73.1 51) - (σ.1 51) from by (first | omega | fail)), (show ∀ y : Int, y < (σ.1 51) → τ_73.2.1 88 y = σ.2.1 88 y ∧ τ_73.2.1 89 y = σ.2.1 89 y ∧ τ_73.2.1 90 y = σ.2.1 90 y from by (first | (exfalso; omega) | exact q51_5 | exact fun y a => ⟨rfl, rfl, rfl⟩ | fail)), (show ∀ e : Int, e < (σ.1 52) → τ_73.2.1 91 e = σ.2.1 91 e from by (first | (exfalso; omega) | exact q51_6 | exact fun y a => rfl | fail)), (show ∀ y : Int, (σ.1 51) ≤ y → y < (τ_73.1 51) → y_c0 σ (τ_73.2.1 90 y) (τ_73.2.1 88 y) (τ_73.2.1 89 y) from by (first | (exfalso; omega) | exact q51_7 | (intro y a b; exfalso; omega) | fail)), (show y_nd σ (τ_73.2.1 86) (τ_73.2.1 87) (τ_73.2.1 91) (τ_73.2.1 88) (τ_73.2.1 89) (τ_73.2.1 90) n1 (σ.1 51) (τ_73.1 51) (τ_73.1 52) from by (first | (exfalso; omega) | (refine Or.inr ?_; rw [i1, k1, f1.1, f1.2.1, f1.2.2]; exact ⟨⟨ra1, ra2⟩, rb, rc, ⟨by omega, by omega⟩, q51_8⟩) | (refine Or.inl ⟨?_, ?_, ?_, ?_⟩; (rw [st_s, e_x10, e_x2]); (rw [st_s]; have w := p7 x2 (by omega) (by omega) (by omega); omega); (omega); (rw [← e_x2, ← e_x7, ← e_x8]; assumption)) | fail)), (show sm (y_ws ρ σ (σ.1 51) (τ_73.2.1 90) (τ_73.2.1 88) (τ_73.2.1 89)) ((τ_73.1 51) - (σ.1 51)) + 1 ≤ y_wt ρ σ (σ.2.1 90 n1) (σ.2.1 88 n1) (σ.2.1 89 n1) from by (first | (exfalso; omega) | exact q51_9 | (rw [show σ.1 51 - σ.1 51 = 0 from by omega, sm_0]; omega) | fail))⟩
          ·
            have e0 : u4_73 = r0 := by (rcases i73_6 with ⟨z, w⟩ | w; (rcases i73_7 with ⟨k0, hk0, ek0⟩ | w2; (exfalso; first | omega | exact w k0 hk0.1 (by omega) ek0 | (rcases (by omega : k0 < u5_73 ∨ k0 = u5_73 ∨ u5_73 < k0) with y | y | y; (exact w k0 hk0.1 y ek0); (rw [y] at ek0; omega); (have m := QU.2.1 u5_73 k0 i73_4.1 y hk0.2; omega)) | omega); (exact w2)); (exact w))
            refine ⟨_, K_X13_part hT (show 0 ≤ n1 from by (first | omega | (simp only [st_s] <;> omega) | assumption | omega | fail)) (show n1 < (τ_73.1 51) from by (rw [i73_1]; exact p2)) (show 0 ≤ u4_73 from by (first | omega | (simp only [st_s] <;> omega) | assumption | omega | fail)) (show u4_73 < (τ_73.1 50) from by (rw [i73_1]; omega)) (show y_In τ_73 u4_73 from by (rw [i73_1, e0]; exact rb)) (show y_TC ρ τ_73 from by (rw [i73_1]; exact p3)) (show y_p1 (τ_73.2.1 72) (y_Wσ τ_73) (y_f τ_73 u4_73) (τ_73.2.1 88 n1) (y_nn τ_73 u4_73).toNat (τ_73.2.1 89 n1) from by (rw [i73_1, e0]; exact rd)) (show ¬ y_p2 (τ_73.2.1 72) (y_Wσ τ_73) (y_Vσ τ_73) (y_f τ_73 u4_73) (τ_73.2.1 88 n1) (y_nn τ_73 u4_73).toNat (τ_73.2.1 89 n1) from by (rw [i73_1, e0]; exact re)) (show (τ_73.1 51) ≤ 59000 from by (rw [i73_1]; exact p5)) (show (τ_73.1 52) ≤ 100000 from by (rw [i73_1]; exact p6)) (show y_c0 τ_73 (τ_73.2.1 90 n1) (τ_73.2.1 88 n1) (τ_73.2.1 89 n1) from by (rw [i73_1]; exact p4s)) (show y_nn τ_73 u4_73 = 1 → y_f τ_73 u4_73 1 < 0 → ρ (-2 - y_f τ_73 u4_73 1) (τ_73.2.1 88 n1) (τ_73.2.1 89 n1) < ρ (y_inv (τ_73.1 3) (τ_73.2.1 71) (τ_73.2.1 90 n1)) (τ_73.2.1 88 n1) (τ_73.2.1 89 n1) from by (rw [i73_1, e0]; exact rf)), ?_⟩
            intro τ53 hn_τ53 hf_τ53 hq
            obtain ⟨hT, q51_1, q51_2, q51_3, q51_4, q51_5, q51_6, q51_7, q51_8, q51_9⟩ := hq
            replace q51_1 : τ53.2.1 86 = st (τ_73.2.1 86) n1 u4_73 := q51_1
            replace q51_2 : τ53.2.1 87 = st (τ_73.2.1 87) n1 (τ_73.1 52) := q51_2
            replace q51_3 : (τ53.1 52) = (τ_73.1 52) + τ_73.2.1 19 u4_73 := q51_3
            replace q51_4 : (τ53.1 51) = (τ_73.1 51) + sm (y_vi τ_73 u4_73) (y_nn τ_73 u4_73) := q51_4
            replace q51_5 : ∀ y : Int, y < (τ_73.1 51) → τ53.2.1 88 y = τ_73.2.1 88 y ∧ τ53.2.1 89 y = τ_73.2.1 89 y ∧ τ53.2.1 90 y = τ_73.2.1 90 y := q51_5
            replace q51_6 : ∀ e : Int, e < (τ_73.1 52) → τ53.2.1 91 e = τ_73.2.1 91 e := q51_6
            replace q51_7 : ∀ y : Int, (τ_73.1 51) ≤ y → y < (τ53.1 51) → y_c0 τ_73 (τ53.2.1 90 y) (τ53.2.1 88 y) (τ53.2.1 89 y) := q51_7
            replace q51_8 : ∃ D : Int → Int, y_wy (τ_73.2.1 72) (y_Wσ τ_73) (y_f τ_73 u4_73) (τ_73.2.1 88 n1) (τ_73.2.1 89 n1) (y_nn τ_73 u4_73) D ∧ ∀ m : Int, 0 ≤ m → m < y_nn τ_73 u4_73 → y_f τ_73 u4_73 (m + 1) < 0 → ∃ k : Int, (0 ≤ k ∧ k < τ_73.2.1 19 u4_73) ∧ y_hv τ_73 u4_73 k = y_sy τ_73 u4_73 m ∧ ((τ_73.1 51) ≤ τ53.2.1 91 ((τ_73.1 52) + k) ∧ τ53.2.1 91 ((τ_73.1 52) + k) < (τ53.1 51)) ∧ τ53.2.1 90 (τ53.2.1 91 ((τ_73.1 52) + k)) = τ_73.2.1 71 (-2 - y_f τ_73 u4_73 (m + 1)) ∧ τ53.2.1 88 (τ53.2.1 91 ((τ_73.1 52) + k)) = D m ∧ τ53.2.1 89 (τ53.2.1 91 ((τ_73.1 52) + k)) = D (m + 1) := q51_8
            replace q51_9 : sm (y_ws ρ τ_73 (τ_73.1 51) (τ53.2.1 90) (τ53.2.1 88) (τ53.2.1 89)) ((τ53.1 51) - (τ_73.1 51)) + 1 ≤ y_wt ρ τ_73 (τ_73.2.1 90 n1) (τ_73.2.1 88 n1) (τ_73.2.1 89 n1) := q51_9
            have w3_τ53 : τ53.1 3 = τ_73.1 3 := hf_τ53.1 3 (by decide)
            have w5_τ53 : τ53.1 5 = τ_73.1 5 := hf_τ53.1 5 (by decide)
            have w11_τ53 : τ53.1 11 = τ_73.1 11 := hf_τ53.1 11 (by decide)
            have w45_τ53 : τ53.1 45 = τ_73.1 45 := hf_τ53.1 45 (by decide)
            have w46_τ53 : τ53.1 46 = τ_73.1 46 := hf_τ53.1 46 (by decide)
            have w48_τ53 : τ53.1 48 = τ_73.1 48 := hf_τ53.1 48 (by decide)
            have w50_τ53 : τ53.1 50 = τ_73.1 50 := hf_τ53.1 50 (by decide)
            have g8_τ53 : τ53.2.1 8 = τ_73.2.1 8 := hf_τ53.2.1 8 (by decide)
            have g10_τ53 : τ53.2.1 10 = τ_73.2.1 10 := hf_τ53.2.1 10 (by decide)
            have g13_τ53 : τ53.2.1 13 = τ_73.2.1 13 := hf_τ53.2.1 13 (by decide)
            have g14_τ53 : τ53.2.1 14 = τ_73.2.1 14 := hf_τ53.2.1 14 (by decide)
            have g15_τ53 : τ53.2.1 15 = τ_73.2.1 15 := hf_τ53.2.1 15 (by decide)
            have g16_τ53 : τ53.2.1 16 = τ_73.2.1 16 := hf_τ53.2.1 16 (by decide)
            have g18_τ53 : τ53.2.1 18 = τ_73.2.1 18 := hf_τ53.2.1 18 (by decide)
            have g19_τ53 : τ53.2.1 19 = τ_73.2.1 19 := hf_τ53.2.1 19 (by decide)
            have g20_τ53 : τ53.2.1 20 = τ_73.2.1 20 := hf_τ53.2.1 20 (by decide)
            have g71_τ53 : τ53.2.1 71 = τ_73.2.1 71 := hf_τ53.2.1 71 (by decide)
            have g72_τ53 : τ53.2.1 72 = τ_73.2.1 72 := hf_τ53.2.1 72 (by decide)
            have g73_τ53 : τ53.2.1 73 = τ_73.2.1 73 := hf_τ53.2.1 73 (by decide)
            have g74_τ53 : τ53.2.1 74 = τ_73.2.1 74 := hf_τ53.2.1 74 (by decide)
            have g75_τ53 : τ53.2.1 75 = τ_73.2.1 75 := hf_τ53.2.1 75 (by decide)
            have g76_τ53 : τ53.2.1 76 = τ_73.2.1 76 := hf_τ53.2.1 76 (by decide)
            have g84_τ53 : τ53.2.1 84 = τ_73.2.1 84 := hf_τ53.2.1 84 (by decide)
            have W3 : τ53.1 3 = σ.1 3 := by first | exact w3_τ53.trans W3 | omega
            have W5 : τ53.1 5 = σ.1 5 := by first | exact w5_τ53.trans W5 | omega
            have W11 : τ53.1 11 = σ.1 11 := by first | exact w11_τ53.trans W11 | omega
            have W45 : τ53.1 45 = σ.1 45 := by first | exact w45_τ53.trans W45 | omega
            have W46 : τ53.1 46 = σ.1 46 := by first | exact w46_τ53.trans W46 | omega
            have W48 : τ53.1 48 = σ.1 48 := by first | exact w48_τ53.trans W48 | omega
            have W50 : τ53.1 50 = σ.1 50 := by first | exact w50_τ53.trans W50 | omega
            have G8 : τ53.2.1 8 = σ.2.1 8 := (g8_τ53).trans G8
            have G10 : τ53.2.1 10 = σ.2.1 10 := (g10_τ53).trans G10
            have G13 : τ53.2.1 13 = σ.2.1 13 := (g13_τ53).trans G13
            have G14 : τ53.2.1 14 = σ.2.1 14 := (g14_τ53).trans G14
            have G15 : τ53.2.1 15 = σ.2.1 15 := (g15_τ53).trans G15
            have G16 : τ53.2.1 16 = σ.2.1 16 := (g16_τ53).trans G16
            have G18 : τ53.2.1 18 = σ.2.1 18 := (g18_τ53).trans G18
            have G19 : τ53.2.1 19 = σ.2.1 19 := (g19_τ53).trans G19
            have G20 : τ53.2.1 20 = σ.2.1 20 := (g20_τ53).trans G20
            have G71 : τ53.2.1 71 = σ.2.1 71 := (g71_τ53).trans G71
            have G72 : τ53.2.1 72 = σ.2.1 72 := (g72_τ53).trans G72
            have G73 : τ53.2.1 73 = σ.2.1 73 := (g73_τ53).trans G73
            have G74 : τ53.2.1 74 = σ.2.1 74 := (g74_τ53).trans G74
            have G75 : τ53.2.1 75 = σ.2.1 75 := (g75_τ53).trans G75
            have G76 : τ53.2.1 76 = σ.2.1 76 := (g76_τ53).trans G76
            have G84 : τ53.2.1 84 = σ.2.1 84 := (g84_τ53).trans G84
            have A8 : ∀ j, 0 ≤ τ53.2.1 8 j ∧ τ53.2.1 8 j ≤ 1 := fun j => hT.2 8 j
            have A10 : ∀ j, (-1) ≤ τ53.2.1 10 j ∧ τ53.2.1 10 j ≤ 999 := fun j => hT.2 10 j
            have A13 : ∀ j, 0 ≤ τ53.2.1 13 j ∧ τ53.2.1 13 j ≤ 4 := fun j => hT.2 13 j
            have A14 : ∀ j, 0 ≤ τ53.2.1 14 j ∧ τ53.2.1 14 j ≤ 30000 := fun j => hT.2 14 j
            have A15 : ∀ j, 0 ≤ τ53.2.1 15 j ∧ τ53.2.1 15 j ≤ 300 := fun j => hT.2 15 j
            have A16 : ∀ j, 0 ≤ τ53.2.1 16 j ∧ τ53.2.1 16 j ≤ 999 := fun j => hT.2 16 j
            have A18 : ∀ j, 0 ≤ τ53.2.1 18 j ∧ τ53.2.1 18 j ≤ 90000 := fun j => hT.2 18 j
            have A19 : ∀ j, 0 ≤ τ53.2.1 19 j ∧ τ53.2.1 19 j ≤ 60 := fun j => hT.2 19 j
            have A20 : ∀ j, 0 ≤ τ53.2.1 20 j ∧ τ53.2.1 20 j ≤ 1499 := fun j => hT.2 20 j
            have A71 : ∀ j, (-1) ≤ τ53.2.1 71 j ∧ τ53.2.1 71 j ≤ 99 := fun j => hT.2 71 j
            have A72 : ∀ j, 0 ≤ τ53.2.1 72 j ∧ τ53.2.1 72 j ≤ 999 := fun j => hT.2 72 j
            have A73 : ∀ j, (-1) ≤ τ53.2.1 73 j ∧ τ53.2.1 73 j ≤ 99 := fun j => hT.2 73 j
            have A74 : ∀ j, (-1) ≤ τ53.2.1 74 j ∧ τ53.2.1 74 j ≤ 1499 := fun j => hT.2 74 j
            have A75 : ∀ j, 0 ≤ τ53.2.1 75 j ∧ τ53.2.1 75 j ≤ 3 := fun j => hT.2 75 j
            have A76 : ∀ j, (-1) ≤ τ53.2.1 76 j ∧ τ53.2.1 76 j ≤ 1499 := fun j => hT.2 76 j
            have A84 : ∀ j, 0 ≤ τ53.2.1 84 j ∧ τ53.2.1 84 j ≤ 1499 := fun j => hT.2 84 j
            have A86 : ∀ j, (-1500) ≤ τ53.2.1 86 j ∧ τ53.2.1 86 j ≤ 1499 := fun j => hT.2 86 j
            have A87 : ∀ j, 0 ≤ τ53.2.1 87 j ∧ τ53.2.1 87 j ≤ 120000 := fun j => hT.2 87 j
            have A88 : ∀ j, 0 ≤ τ53.2.1 88 j ∧ τ53.2.1 88 j ≤ 59 := fun j => hT.2 88 j
            have A89 : ∀ j, 0 ≤ τ53.2.1 89 j ∧ τ53.2.1 89 j ≤ 59 := fun j => hT.2 89 j
            have A90 : ∀ j, (-1) ≤ τ53.2.1 90 j ∧ τ53.2.1 90 j ≤ 99 := fun j => hT.2 90 j
            have A91 : ∀ j, 0 ≤ τ53.2.1 91 j ∧ τ53.2.1 91 j ≤ 60000 := fun j => hT.2 91 j
            have v3 : 0 ≤ τ53.1 3 ∧ τ53.1 3 ≤ 1000 := hT.1 3
            have v5 : 0 ≤ τ53.1 5 ∧ τ53.1 5 ≤ 1500 := hT.1 5
            have v11 : (-1) ≤ τ53.1 11 ∧ τ53.1 11 ≤ 999 := hT.1 11
            have v45 : 0 ≤ τ53.1 45 ∧ τ53.1 45 ≤ 59 := hT.1 45
            have v46 : 0 ≤ τ53.1 46 ∧ τ53.1 46 ≤ 100 := hT.1 46
            have v48 : 0 ≤ τ53.1 48 ∧ τ53.1 48 ≤ 1500 := hT.1 48
            have v50 : 0 ≤ τ53.1 50 ∧ τ53.1 50 ≤ 1500 := hT.1 50
            have v51 : 0 ≤ τ53.1 51 ∧ τ53.1 51 ≤ 60000 := hT.1 51
            have v52 : 0 ≤ τ53.1 52 ∧ τ53.1 52 ≤ 120000 := hT.1 52
            rw [i73_1] at q51_1 q51_2 q51_3 q51_4 q51_5 q51_6 q51_7 q51_8 q51_9
            rw [e0] at q51_1 q51_3 q51_4 q51_8
            have hsv := y_hs J hTσ ra1 (by omega) rb
            have v0 := y_vi_m (σ := σ) (r := r0) (u := 0) (n := y_nn σ r0) (Int.le_refl _) (by have w := y_nn1 r0 rb; omega)
            have a19r := hTσ.2 19 r0
            have a19r : 0 ≤ σ.2.1 19 r0 := a19r.1
            have i1 : τ53.2.1 86 n1 = r0 := by rw [q51_1, st_s]
            have k1 : τ53.2.1 87 n1 = σ.1 52 := by rw [q51_2, st_s]
            have f1 := q51_5 n1 p2
            exact ⟨hT, (show ∀ y : Int, y ≠ n1 → τ53.2.1 86 y = σ.2.1 86 y ∧ τ53.2.1 87 y = σ.2.1 87 y from by (first | (exfalso; omega) | (intro y a; rw [q51_1, q51_2, st_n _ _ a, st_n _ _ a]; exact ⟨rfl, rfl⟩) | (intro y a; rw [st_n _ _ a]; exact ⟨rfl, rfl⟩) | fail)), (show (σ.1 51) ≤ (τ53.1 51) from by (first | omega | fail)), (show (σ.1 52) ≤ (τ53.1 52) ∧ (τ53.1 52) - (σ.1 52) ≤ (τ53.1 51) - (σ.1 51) from by (first | omega | fail)), (show ∀ y : Int, y < (σ.1 51) → τ53.2.1 88 y = σ.2.1 88 y ∧ τ53.2.1 89 y = σ.2.1 89 y ∧ τ53.2.1 90 y = σ.2.1 90 y from by (first | (exfalso; omega) | exact q51_5 | exact fun y a => ⟨rfl, rfl, rfl⟩ | fail)), (show ∀ e : Int, e < (σ.1 52) → τ53.2.1 91 e = σ.2.1 91 e from by (first | (exfalso; omega) | exact q51_6 | exact fun y a => rfl | fail)), (show ∀ y : Int, (σ.1 51) ≤ y → y < (τ53.1 51) → y_c0 σ (τ53.2.1 90 y) (τ53.2.1 88 y) (τ53.2.1 89 y) from by (first | (exfalso; omega) | exact q51_7 | (intro y a b; exfalso; omega) | fail)), (show y_nd σ (τ53.2.1 86) (τ53.2.1 87) (τ53.2.1 91) (τ53.2.1 88) (τ53.2.1 89) (τ53.2.1 90) n1 (σ.1 51) (τ53.1 51) (τ53.1 52) from by (first | (exfalso; omega) | (refine Or.inr ?_; rw [i1, k1, f1.1, f1.2.1, f1.2.2]; exact ⟨⟨ra1, ra2⟩, rb, rc, ⟨by omega, by omega⟩, q51_8⟩) | (refine Or.inl ⟨?_, ?_, ?_, ?_⟩; (rw [st_s, e_x10, e_x2]); (rw [st_s]; have w := p7 x2 (by omega) (by omega) (by omega); omega); (omega); (rw [← e_x2, ← e_x7, ← e_x8]; assumption)) | fail)), (show sm (y_ws ρ σ (σ.1 51) (τ53.2.1 90) (τ53.2.1 88) (τ53.2.1 89)) ((τ53.1 51) - (σ.1 51)) + 1 ≤ y_wt ρ σ (σ.2.1 90 n1) (σ.2.1 88 n1) (σ.2.1 89 n1) from by (first | (exfalso; omega) | exact q51_9 | (rw [show σ.1 51 - σ.1 51 = 0 from by omega, sm_0]; omega) | fail))⟩
        ·
          refine ⟨fun c23 => ?_, fun c23 => ?_⟩
          ·
            refine h218 _ _ _ ?_
            refine ⟨fun c50 => ?_, fun c50 => ?_⟩
            ·
              have e0 : u4_73 = r0 := by (rcases i73_6 with ⟨z, w⟩ | w; (rcases i73_7 with ⟨k0, hk0, ek0⟩ | w2; (exfalso; first | omega | exact w k0 hk0.1 (by omega) ek0 | (rcases (by omega : k0 < u5_73 ∨ k0 = u5_73 ∨ u5_73 < k0) with y | y | y; (exact w k0 hk0.1 y ek0); (rw [y] at ek0; omega); (have m := QU.2.1 u5_73 k0 i73_4.1 y hk0.2; omega)) | omega); (exact w2)); (exact w))
              exact ⟨hT, (show ∀ y : Int, y ≠ n1 → τ_73.2.1 86 y = σ.2.1 86 y ∧ τ_73.2.1 87 y = σ.2.1 87 y from by (first | (exfalso; omega) | (intro y a; rw [q51_1, q51_2, st_n _ _ a, st_n _ _ a]; exact ⟨rfl, rfl⟩) | (intro y a; rw [st_n _ _ a]; exact ⟨rfl, rfl⟩) | fail)), (show (σ.1 51) ≤ (τ_73.1 51) from by (first | omega | fail)), (show (σ.1 52) ≤ (τ_73.1 52) ∧ (τ_73.1 52) - (σ.1 52) ≤ (τ_73.1 51) - (σ.1 51) from by (first | omega | fail)), (show ∀ y : Int, y < (σ.1 51) → τ_73.2.1 88 y = σ.2.1 88 y ∧ τ_73.2.1 89 y = σ.2.1 89 y ∧ τ_73.2.1 90 y = σ.2.1 90 y from by (first | (exfalso; omega) | exact q51_5 | exact fun y a => ⟨rfl, rfl, rfl⟩ | fail)), (show ∀ e : Int, e < (σ.1 52) → τ_73.2.1 91 e = σ.2.1 91 e from by (first | (exfalso; omega) | exact q51_6 | exact fun y a => rfl | fail)), (show ∀ y : Int, (σ.1 51) ≤ y → y < (τ_73.1 51) → y_c0 σ (τ_73.2.1 90 y) (τ_73.2.1 88 y) (τ_73.2.1 89 y) from by (first | (exfalso; omega) | exact q51_7 | (intro y a b; exfalso; omega) | fail)), (show y_nd σ (τ_73.2.1 86) (τ_73.2.1 87) (τ_73.2.1 91) (τ_73.2.1 88) (τ_73.2.1 89) (τ_73.2.1 90) n1 (σ.1 51) (τ_73.1 51) (τ_73.1 52) from by (first | (exfalso; omega) | (refine Or.inr ?_; rw [i1, k1, f1.1, f1.2.1, f1.2.2]; exact ⟨⟨ra1, ra2⟩, rb, rc, ⟨by omega, by omega⟩, q51_8⟩) | (refine Or.inl ⟨?_, ?_, ?_, ?_⟩; (rw [st_s, e_x10, e_x2]); (rw [st_s]; have w := p7 x2 (by omega) (by omega) (by omega); omega); (omega); (rw [← e_x2, ← e_x7, ← e_x8]; assumption)) | fail)), (show sm (y_ws ρ σ (σ.1 51) (τ_73.2.1 90) (τ_73.2.1 88) (τ_73.2.1 89)) ((τ_73.1 51) - (σ.1 51)) + 1 ≤ y_wt ρ σ (σ.2.1 90 n1) (σ.2.1 88 n1) (σ.2.1 89 n1) from by (first | (exfalso; omega) | exact q51_9 | (rw [show σ.1 51 - σ.1 51 = 0 from by omega, sm_0]; omega) | fail))⟩
            ·
              have e0 : u4_73 = r0 := by (rcases i73_6 with ⟨z, w⟩ | w; (rcases i73_7 with ⟨k0, hk0, ek0⟩ | w2; (exfalso; first | omega | exact w k0 hk0.1 (by omega) ek0 | (rcases (by omega : k0 < u5_73 ∨ k0 = u5_73 ∨ u5_73 < k0) with y | y | y; (exact w k0 hk0.1 y ek0); (rw [y] at ek0; omega); (have m := QU.2.1 u5_73 k0 i73_4.1 y hk0.2; omega)) | omega); (exact w2)); (exact w))
              refine ⟨_, K_X13_part hT (show 0 ≤ n1 from by (first | omega | (simp only [st_s] <;> omega) | assumption | omega | fail)) (show n1 < (τ_73.1 51) from by (rw [i73_1]; exact p2)) (show 0 ≤ u4_73 from by (first | omega | (simp only [st_s] <;> omega) | assumption | omega | fail)) (show u4_73 < (τ_73.1 50) from by (rw [i73_1]; omega)) (show y_In τ_73 u4_73 from by (rw [i73_1, e0]; exact rb)) (show y_TC ρ τ_73 from by (rw [i73_1]; exact p3)) (show y_p1 (τ_73.2.1 72) (y_Wσ τ_73) (y_f τ_73 u4_73) (τ_73.2.1 88 n1) (y_nn τ_73 u4_73).toNat (τ_73.2.1 89 n1) from by (rw [i73_1, e0]; exact rd)) (show ¬ y_p2 (τ_73.2.1 72) (y_Wσ τ_73) (y_Vσ τ_73) (y_f τ_73 u4_73) (τ_73.2.1 88 n1) (y_nn τ_73 u4_73).toNat (τ_73.2.1 89 n1) from by (rw [i73_1, e0]; exact re)) (show (τ_73.1 51) ≤ 59000 from by (rw [i73_1]; exact p5)) (show (τ_73.1 52) ≤ 100000 from by (rw [i73_1]; exact p6)) (show y_c0 τ_73 (τ_73.2.1 90 n1) (τ_73.2.1 88 n1) (τ_73.2.1 89 n1) from by (rw [i73_1]; exact p4s)) (show y_nn τ_73 u4_73 = 1 → y_f τ_73 u4_73 1 < 0 → ρ (-2 - y_f τ_73 u4_73 1) (τ_73.2.1 88 n1) (τ_73.2.1 89 n1) < ρ (y_inv (τ_73.1 3) (τ_73.2.1 71) (τ_73.2.1 90 n1)) (τ_73.2.1 88 n1) (τ_73.2.1 89 n1) from by (rw [i73_1, e0]; exact rf)), ?_⟩
              intro τ53 hn_τ53 hf_τ53 hq
              obtain ⟨hT, q51_1, q51_2, q51_3, q51_4, q51_5, q51_6, q51_7, q51_8, q51_9⟩ := hq
              replace q51_1 : τ53.2.1 86 = st (τ_73.2.1 86) n1 u4_73 := q51_1
              replace q51_2 : τ53.2.1 87 = st (τ_73.2.1 87) n1 (τ_73.1 52) := q51_2
              replace q51_3 : (τ53.1 52) = (τ_73.1 52) + τ_73.2.1 19 u4_73 := q51_3
              replace q51_4 : (τ53.1 51) = (τ_73.1 51) + sm (y_vi τ_73 u4_73) (y_nn τ_73 u4_73) := q51_4
              replace q51_5 : ∀ y : Int, y < (τ_73.1 51) → τ53.2.1 88 y = τ_73.2.1 88 y ∧ τ53.2.1 89 y = τ_73.2.1 89 y ∧ τ53.2.1 90 y = τ_73.2.1 90 y := q51_5
              replace q51_6 : ∀ e : Int, e < (τ_73.1 52) → τ53.2.1 91 e = τ_73.2.1 91 e := q51_6
              replace q51_7 : ∀ y : Int, (τ_73.1 51) ≤ y → y < (τ53.1 51) → y_c0 τ_73 (τ53.2.1 90 y) (τ53.2.1 88 y) (τ53.2.1 89 y) := q51_7
              replace q51_8 : ∃ D : Int → Int, y_wy (τ_73.2.1 72) (y_Wσ τ_73) (y_f τ_73 u4_73) (τ_73.2.1 88 n1) (τ_73.2.1 89 n1) (y_nn τ_73 u4_73) D ∧ ∀ m : Int, 0 ≤ m → m < y_nn τ_73 u4_73 → y_f τ_73 u4_73 (m + 1) < 0 → ∃ k : Int, (0 ≤ k ∧ k < τ_73.2.1 19 u4_73) ∧ y_hv τ_73 u4_73 k = y_sy τ_73 u4_73 m ∧ ((τ_73.1 51) ≤ τ53.2.1 91 ((τ_73.1 52) + k) ∧ τ53.2.1 91 ((τ_73.1 52) + k) < (τ53.1 51)) ∧ τ53.2.1 90 (τ53.2.1 91 ((τ_73.1 52) + k)) = τ_73.2.1 71 (-2 - y_f τ_73 u4_73 (m + 1)) ∧ τ53.2.1 88 (τ53.2.1 91 ((τ_73.1 52) + k)) = D m ∧ τ53.2.1 89 (τ53.2.1 91 ((τ_73.1 52) + k)) = D (m + 1) := q51_8
              replace q51_9 : sm (y_ws ρ τ_73 (τ_73.1 51) (τ53.2.1 90) (τ53.2.1 88) (τ53.2.1 89)) ((τ53.1 51) - (τ_73.1 51)) + 1 ≤ y_wt ρ τ_73 (τ_73.2.1 90 n1) (τ_73.2.1 88 n1) (τ_73.2.1 89 n1) := q51_9
              have w3_τ53 : τ53.1 3 = τ_73.1 3 := hf_τ53.1 3 (by decide)
              have w5_τ53 : τ53.1 5 = τ_73.1 5 := hf_τ53.1 5 (by decide)
              have w11_τ53 : τ53.1 11 = τ_73.1 11 := hf_τ53.1 11 (by decide)
              have w45_τ53 : τ53.1 45 = τ_73.1 45 := hf_τ53.1 45 (by decide)
              have w46_τ53 : τ53.1 46 = τ_73.1 46 := hf_τ53.1 46 (by decide)
              have w48_τ53 : τ53.1 48 = τ_73.1 48 := hf_τ53.1 48 (by decide)
              have w50_τ53 : τ53.1 50 = τ_73.1 50 := hf_τ53.1 50 (by decide)
              have g8_τ53 : τ53.2.1 8 = τ_73.2.1 8 := hf_τ53.2.1 8 (by decide)
              have g10_τ53 : τ53.2.1 10 = τ_73.2.1 10 := hf_τ53.2.1 10 (by decide)
              have g13_τ53 : τ53.2.1 13 = τ_73.2.1 13 := hf_τ53.2.1 13 (by decide)
              have g14_τ53 : τ53.2.1 14 = τ_73.2.1 14 := hf_τ53.2.1 14 (by decide)
              have g15_τ53 : τ53.2.1 15 = τ_73.2.1 15 := hf_τ53.2.1 15 (by decide)
              have g16_τ53 : τ53.2.1 16 = τ_73.2.1 16 := hf_τ53.2.1 16 (by decide)
              have g18_τ53 : τ53.2.1 18 = τ_73.2.1 18 := hf_τ53.2.1 18 (by decide)
              have g19_τ53 : τ53.2.1 19 = τ_73.2.1 19 := hf_τ53.2.1 19 (by decide)
              have g20_τ53 : τ53.2.1 20 = τ_73.2.1 20 := hf_τ53.2.1 20 (by decide)
              have g71_τ53 : τ53.2.1 71 = τ_73.2.1 71 := hf_τ53.2.1 71 (by decide)
              have g72_τ53 : τ53.2.1 72 = τ_73.2.1 72 := hf_τ53.2.1 72 (by decide)
              have g73_τ53 : τ53.2.1 73 = τ_73.2.1 73 := hf_τ53.2.1 73 (by decide)
              have g74_τ53 : τ53.2.1 74 = τ_73.2.1 74 := hf_τ53.2.1 74 (by decide)
              have g75_τ53 : τ53.2.1 75 = τ_73.2.1 75 := hf_τ53.2.1 75 (by decide)
              have g76_τ53 : τ53.2.1 76 = τ_73.2.1 76 := hf_τ53.2.1 76 (by decide)
              have g84_τ53 : τ53.2.1 84 = τ_73.2.1 84 := hf_τ53.2.1 84 (by decide)
              have W3 : τ53.1 3 = σ.1 3 := by first | exact w3_τ53.trans W3 | omega
              have W5 : τ53.1 5 = σ.1 5 := by first | exact w5_τ53.trans W5 | omega
              have W11 : τ53.1 11 = σ.1 11 := by first | exact w11_τ53.trans W11 | omega
              have W45 : τ53.1 45 = σ.1 45 := by first | exact w45_τ53.trans W45 | omega
              have W46 : τ53.1 46 = σ.1 46 := by first | exact w46_τ53.trans W46 | omega
              have W48 : τ53.1 48 = σ.1 48 := by first | exact w48_τ53.trans W48 | omega
              have W50 : τ53.1 50 = σ.1 50 := by first | exact w50_τ53.trans W50 | omega
              have G8 : τ53.2.1 8 = σ.2.1 8 := (g8_τ53).trans G8
              have G10 : τ53.2.1 10 = σ.2.1 10 := (g10_τ53).trans G10
              have G13 : τ53.2.1 13 = σ.2.1 13 := (g13_τ53).trans G13
              have G14 : τ53.2.1 14 = σ.2.1 14 := (g14_τ53).trans G14
              have G15 : τ53.2.1 15 = σ.2.1 15 := (g15_τ53).trans G15
              have G16 : τ53.2.1 16 = σ.2.1 16 := (g16_τ53).trans G16
              have G18 : τ53.2.1 18 = σ.2.1 18 := (g18_τ53).trans G18
              have G19 : τ53.2.1 19 = σ.2.1 19 := (g19_τ53).trans G19
              have G20 : τ53.2.1 20 = σ.2.1 20 := (g20_τ53).trans G20
              have G71 : τ53.2.1 71 = σ.2.1 71 := (g71_τ53).trans G71
              have G72 : τ53.2.1 72 = σ.2.1 72 := (g72_τ53).trans G72
              have G73 : τ53.2.1 73 = σ.2.1 73 := (g73_τ53).trans G73
              have G74 : τ53.2.1 74 = σ.2.1 74 := (g74_τ53).trans G74
              have G75 : τ53.2.1 75 = σ.2.1 75 := (g75_τ53).trans G75
              have G76 : τ53.2.1 76 = σ.2.1 76 := (g76_τ53).trans G76
              have G84 : τ53.2.1 84 = σ.2.1 84 := (g84_τ53).trans G84
              have A8 : ∀ j, 0 ≤ τ53.2.1 8 j ∧ τ53.2.1 8 j ≤ 1 := fun j => hT.2 8 j
              have A10 : ∀ j, (-1) ≤ τ53.2.1 10 j ∧ τ53.2.1 10 j ≤ 999 := fun j => hT.2 10 j
              have A13 : ∀ j, 0 ≤ τ53.2.1 13 j ∧ τ53.2.1 13 j ≤ 4 := fun j => hT.2 13 j
              have A14 : ∀ j, 0 ≤ τ53.2.1 14 j ∧ τ53.2.1 14 j ≤ 30000 := fun j => hT.2 14 j
              have A15 : ∀ j, 0 ≤ τ53.2.1 15 j ∧ τ53.2.1 15 j ≤ 300 := fun j => hT.2 15 j
              have A16 : ∀ j, 0 ≤ τ53.2.1 16 j ∧ τ53.2.1 16 j ≤ 999 := fun j => hT.2 16 j
              have A18 : ∀ j, 0 ≤ τ53.2.1 18 j ∧ τ53.2.1 18 j ≤ 90000 := fun j => hT.2 18 j
              have A19 : ∀ j, 0 ≤ τ53.2.1 19 j ∧ τ53.2.1 19 j ≤ 60 := fun j => hT.2 19 j
              have A20 : ∀ j, 0 ≤ τ53.2.1 20 j ∧ τ53.2.1 20 j ≤ 1499 := fun j => hT.2 20 j
              have A71 : ∀ j, (-1) ≤ τ53.2.1 71 j ∧ τ53.2.1 71 j ≤ 99 := fun j => hT.2 71 j
              have A72 : ∀ j, 0 ≤ τ53.2.1 72 j ∧ τ53.2.1 72 j ≤ 999 := fun j => hT.2 72 j
              have A73 : ∀ j, (-1) ≤ τ53.2.1 73 j ∧ τ53.2.1 73 j ≤ 99 := fun j => hT.2 73 j
              have A74 : ∀ j, (-1) ≤ τ53.2.1 74 j ∧ τ53.2.1 74 j ≤ 1499 := fun j => hT.2 74 j
              have A75 : ∀ j, 0 ≤ τ53.2.1 75 j ∧ τ53.2.1 75 j ≤ 3 := fun j => hT.2 75 j
              have A76 : ∀ j, (-1) ≤ τ53.2.1 76 j ∧ τ53.2.1 76 j ≤ 1499 := fun j => hT.2 76 j
              have A84 : ∀ j, 0 ≤ τ53.2.1 84 j ∧ τ53.2.1 84 j ≤ 1499 := fun j => hT.2 84 j
              have A86 : ∀ j, (-1500) ≤ τ53.2.1 86 j ∧ τ53.2.1 86 j ≤ 1499 := fun j => hT.2 86 j
              have A87 : ∀ j, 0 ≤ τ53.2.1 87 j ∧ τ53.2.1 87 j ≤ 120000 := fun j => hT.2 87 j
              have A88 : ∀ j, 0 ≤ τ53.2.1 88 j ∧ τ53.2.1 88 j ≤ 59 := fun j => hT.2 88 j
              have A89 : ∀ j, 0 ≤ τ53.2.1 89 j ∧ τ53.2.1 89 j ≤ 59 := fun j => hT.2 89 j
              have A90 : ∀ j, (-1) ≤ τ53.2.1 90 j ∧ τ53.2.1 90 j ≤ 99 := fun j => hT.2 90 j
              have A91 : ∀ j, 0 ≤ τ53.2.1 91 j ∧ τ53.2.1 91 j ≤ 60000 := fun j => hT.2 91 j
              have v3 : 0 ≤ τ53.1 3 ∧ τ53.1 3 ≤ 1000 := hT.1 3
              have v5 : 0 ≤ τ53.1 5 ∧ τ53.1 5 ≤ 1500 := hT.1 5
              have v11 : (-1) ≤ τ53.1 11 ∧ τ53.1 11 ≤ 999 := hT.1 11
              have v45 : 0 ≤ τ53.1 45 ∧ τ53.1 45 ≤ 59 := hT.1 45
              have v46 : 0 ≤ τ53.1 46 ∧ τ53.1 46 ≤ 100 := hT.1 46
              have v48 : 0 ≤ τ53.1 48 ∧ τ53.1 48 ≤ 1500 := hT.1 48
              have v50 : 0 ≤ τ53.1 50 ∧ τ53.1 50 ≤ 1500 := hT.1 50
              have v51 : 0 ≤ τ53.1 51 ∧ τ53.1 51 ≤ 60000 := hT.1 51
              have v52 : 0 ≤ τ53.1 52 ∧ τ53.1 52 ≤ 120000 := hT.1 52
              rw [i73_1] at q51_1 q51_2 q51_3 q51_4 q51_5 q51_6 q51_7 q51_8 q51_9
              rw [e0] at q51_1 q51_3 q51_4 q51_8
              have hsv := y_hs J hTσ ra1 (by omega) rb
              have v0 := y_vi_m (σ := σ) (r := r0) (u := 0) (n := y_nn σ r0) (Int.le_refl _) (by have w := y_nn1 r0 rb; omega)
              have a19r := hTσ.2 19 r0
              have a19r : 0 ≤ σ.2.1 19 r0 := a19r.1
              have i1 : τ53.2.1 86 n1 = r0 := by rw [q51_1, st_s]
              have k1 : τ53.2.1 87 n1 = σ.1 52 := by rw [q51_2, st_s]
              have f1 := q51_5 n1 p2
              exact ⟨hT, (show ∀ y : Int, y ≠ n1 → τ53.2.1 86 y = σ.2.1 86 y ∧ τ53.2.1 87 y = σ.2.1 87 y from by (first | (exfalso; omega) | (intro y a; rw [q51_1, q51_2, st_n _ _ a, st_n _ _ a]; exact ⟨rfl, rfl⟩) | (intro y a; rw [st_n _ _ a]; exact ⟨rfl, rfl⟩) | fail)), (show (σ.1 51) ≤ (τ53.1 51) from by (first | omega | fail)), (show (σ.1 52) ≤ (τ53.1 52) ∧ (τ53.1 52) - (σ.1 52) ≤ (τ53.1 51) - (σ.1 51) from by (first | omega | fail)), (show ∀ y : Int, y < (σ.1 51) → τ53.2.1 88 y = σ.2.1 88 y ∧ τ53.2.1 89 y = σ.2.1 89 y ∧ τ53.2.1 90 y = σ.2.1 90 y from by (first | (exfalso; omega) | exact q51_5 | exact fun y a => ⟨rfl, rfl, rfl⟩ | fail)), (show ∀ e : Int, e < (σ.1 52) → τ53.2.1 91 e = σ.2.1 91 e from by (first | (exfalso; omega) | exact q51_6 | exact fun y a => rfl | fail)), (show ∀ y : Int, (σ.1 51) ≤ y → y < (τ53.1 51) → y_c0 σ (τ53.2.1 90 y) (τ53.2.1 88 y) (τ53.2.1 89 y) from by (first | (exfalso; omega) | exact q51_7 | (intro y a b; exfalso; omega) | fail)), (show y_nd σ (τ53.2.1 86) (τ53.2.1 87) (τ53.2.1 91) (τ53.2.1 88) (τ53.2.1 89) (τ53.2.1 90) n1 (σ.1 51) (τ53.1 51) (τ53.1 52) from by (first | (exfalso; omega) | (refine Or.inr ?_; rw [i1, k1, f1.1, f1.2.1, f1.2.2]; exact ⟨⟨ra1, ra2⟩, rb, rc, ⟨by omega, by omega⟩, q51_8⟩) | (refine Or.inl ⟨?_, ?_, ?_, ?_⟩; (rw [st_s, e_x10, e_x2]); (rw [st_s]; have w := p7 x2 (by omega) (by omega) (by omega); omega); (omega); (rw [← e_x2, ← e_x7, ← e_x8]; assumption)) | fail)), (show sm (y_ws ρ σ (σ.1 51) (τ53.2.1 90) (τ53.2.1 88) (τ53.2.1 89)) ((τ53.1 51) - (σ.1 51)) + 1 ≤ y_wt ρ σ (σ.2.1 90 n1) (σ.2.1 88 n1) (σ.2.1 89 n1) from by (first | (exfalso; omega) | exact q51_9 | (rw [show σ.1 51 - σ.1 51 = 0 from by omega, sm_0]; omega) | fail))⟩
          ·
            intro x24 r_x24 e_x24
            have b_x24 : 0 ≤ x24 ∧ x24 ≤ 1499 := by rw [e_x24]; exact hT.2 84 _
            rw [G84] at e_x24
            refine ⟨(show 0 ≤ x24 ∧ x24 < 1501 from by (first | omega | (simp only [st_s] <;> omega) | assumption | omega | fail)), ?_⟩
            intro x26 r_x26 e_x26
            have b_x26 : 0 ≤ x26 ∧ x26 ≤ 30000 := by rw [e_x26]; exact hT.2 14 _
            rw [G14] at e_x26
            refine ⟨(show 0 ≤ (x26 + 1) ∧ (x26 + 1) < 30400 from by (first | omega | (simp only [st_s] <;> omega) | assumption | omega | fail)), ?_⟩
            intro x28 r_x28 e_x28
            have b_x28 : 0 ≤ x28 ∧ x28 ≤ 999 := by rw [e_x28]; exact hT.2 16 _
            rw [G16] at e_x28
            refine ⟨(show 0 ≤ x28 ∧ x28 < 1001 from by (first | omega | (simp only [st_s] <;> omega) | assumption | omega | fail)), ?_⟩
            intro x30 r_x30 e_x30
            have b_x30 : (-1) ≤ x30 ∧ x30 ≤ 999 := by rw [e_x30]; exact hT.2 10 _
            rw [G10] at e_x30
            have utk := ut u5_73 i73_4.1 (by omega)
            have v30 : 0 ≤ x30 := by (have w := utk.2.1; rw [e_x30, e_x28, e_x26, e_x24]; exact w)
            refine ⟨(show 0 ≤ x30 ∧ x30 < 1001 from by (first | omega | (simp only [st_s] <;> omega) | assumption | omega | fail)), ?_⟩
            intro x32 r_x32 e_x32
            have b_x32 : (-1) ≤ x32 ∧ x32 ≤ 99 := by rw [e_x32]; exact hT.2 71 _
            rw [G71] at e_x32
            have g32 : x32 = σ.2.1 71 (σ.2.1 10 (σ.2.1 16 (σ.2.1 14 (σ.2.1 84 u5_73) + 1))) := by rw [e_x32, e_x30, e_x28, e_x26, e_x24]
            intro x33 r_x33 e_x33
            have b_x33 : 0 ≤ x33 ∧ x33 ≤ 1499 := by rw [e_x33]; exact hT.2 84 _
            rw [G84] at e_x33
            refine ⟨(show 0 ≤ x33 ∧ x33 < 1501 from by (first | omega | (simp only [st_s] <;> omega) | assumption | omega | fail)), ?_⟩
            intro x35 r_x35 e_x35
            have b_x35 : 0 ≤ x35 ∧ x35 ≤ 30000 := by rw [e_x35]; exact hT.2 14 _
            rw [G14] at e_x35
            refine ⟨(show 0 ≤ x35 ∧ x35 < 30400 from by (first | omega | (simp only [st_s] <;> omega) | assumption | omega | fail)), ?_⟩
            intro x37 r_x37 e_x37
            have b_x37 : 0 ≤ x37 ∧ x37 ≤ 999 := by rw [e_x37]; exact hT.2 16 _
            rw [G16] at e_x37
            refine ⟨(show 0 ≤ x37 ∧ x37 < 1001 from by (first | omega | (simp only [st_s] <;> omega) | assumption | omega | fail)), ?_⟩
            intro x39 r_x39 e_x39
            have b_x39 : (-1) ≤ x39 ∧ x39 ≤ 99 := by rw [e_x39]; exact hT.2 71 _
            rw [G71] at e_x39
            have g39 : x39 = σ.2.1 71 (y_hd σ (σ.2.1 84 u5_73)) := by (rw [e_x39, e_x37, e_x35, e_x33]; rfl)
            refine ⟨(show 0 ≤ n1 ∧ n1 < 60000 from by (first | omega | (simp only [st_s] <;> omega) | assumption | omega | fail)), ?_⟩
            intro x41 r_x41 e_x41
            have b_x41 : (-1) ≤ x41 ∧ x41 ≤ 99 := by rw [e_x41]; exact hT.2 90 _
            rw [i73_1] at e_x41
            refine ⟨fun c42 => ?_, fun c42 => ?_⟩
            ·
              refine h191 _ _ _ _ _ _ _ ?_
              refine ⟨fun c54 => ?_, fun c54 => ?_⟩
              ·
                refine ⟨(⟨by (first | omega | (simp only [st_s] <;> omega) | assumption | omega | fail), by (first | omega | (simp only [st_s] <;> omega) | assumption | omega | fail)⟩ : rg (u5_73 + 1)), ?_⟩
                exact ih_73 _ _ _ _ _ (show (1501 - (u5_73 + 1) : Int) < ((m_73 : Nat) : Int) from by ((first | omega | (simp only [st_s] <;> omega) | assumption | omega | fail))) hT (show τ_73.1 3 = σ.1 3 from by first | exact W3 | omega) (show τ_73.1 5 = σ.1 5 from by first | exact W5 | omega) (show τ_73.1 11 = σ.1 11 from by first | exact W11 | omega) (show τ_73.1 45 = σ.1 45 from by first | exact W45 | omega) (show τ_73.1 46 = σ.1 46 from by first | exact W46 | omega) (show τ_73.1 48 = σ.1 48 from by first | exact W48 | omega) (show τ_73.1 50 = σ.1 50 from by first | exact W50 | omega) G8 G10 G13 G14 G15 G16 G18 G19 G20 G71 G72 G73 G74 G75 G76 G84 (show τ_73 = σ from by (first | exact i73_1 | rfl | fail)) (show u2_73 = σ.2.1 88 n1 from by (first | omega | (simp only [st_s] <;> omega) | assumption | omega | fail)) (show u3_73 = σ.2.1 89 n1 from by (first | omega | (simp only [st_s] <;> omega) | assumption | omega | fail)) (show 0 ≤ (u5_73 + 1) ∧ (u5_73 + 1) ≤ (σ.1 48) from by (first | omega | (simp only [st_s] <;> omega) | assumption | omega | fail)) (show ¬ (σ.2.1 89 n1 = σ.2.1 88 n1 + 1 ∧ σ.2.1 73 (σ.2.1 88 n1) = σ.2.1 90 n1) from by (first | exact i73_5 | (intro z; omega) | (intro z; exact absurd (show x7 = x8 by rw [e_x7, e_x8, e_x2]; exact z.2) (by assumption)) | fail)) (show (u4_73 = -1 ∧ ∀ k : Int, 0 ≤ k → k < (u5_73 + 1) → σ.2.1 84 k ≠ r0) ∨ u4_73 = r0 from by (first | exact Or.inr uR | (have q9 := M18; rcases q9 with ⟨w, _⟩ | w; (exact Or.inl ⟨w, fun k a b => by exfalso; omega⟩); (exact Or.inr w)) | (refine Or.inl ⟨by omega, fun k a b => ?_⟩; rcases (by omega : k < u5_73 ∨ k = u5_73) with y | y; (have q9 := i73_6; rcases q9 with ⟨_, w⟩ | w; (exact w k a y); (exfalso; omega)); (rw [y]; exact fun z => by (have w := y_uw hTσ p3 cij (R0 i73_5) i73_4.1 (by omega) z; rw [← g39, ← g32] at w; first | omega | (rw [← i73_2, ← i73_3, ← e_x48] at w; omega)))) | fail)) (show (∃ k : Int, (0 ≤ k ∧ k < (σ.1 48)) ∧ σ.2.1 84 k = r0) ∨ u4_73 = r0 from by (first | exact i73_7 | exact Or.inr uR | (have q9 := M18; rcases q9 with ⟨_, w⟩ | w; (exact Or.inl w); (exact Or.inr w)) | (have q9 := i73_7; rcases q9 with w | w; (exact Or.inl w); (exfalso; omega)) | fail))
              ·
                refine ⟨(show 0 ≤ u5_73 ∧ u5_73 < 1501 from by (first | omega | (simp only [st_s] <;> omega) | assumption | omega | fail)), ?_⟩
                intro x57 r_x57 e_x57
                have b_x57 : 0 ≤ x57 ∧ x57 ≤ 1499 := by rw [e_x57]; exact hT.2 84 _
                rw [G84] at e_x57
                have uR : x57 = r0 := by (first | (exfalso; omega) | (rw [e_x57]; exact y_uk hTσ p3 cij (R0 i73_5) i73_4.1 (by omega) (by rw [← e_x21]; omega) (by rw [← g39, ← e_x41]; assumption) (by rw [← g32]; omega) (by rw [← g32, ← i73_2, ← i73_3, ← e_x48]; omega)))
                refine ⟨(⟨by (first | omega | (simp only [st_s] <;> omega) | assumption | omega | fail), by (first | omega | (simp only [st_s] <;> omega) | assumption | omega | fail)⟩ : rg (u5_73 + 1)), ?_⟩
                exact ih_73 _ _ _ _ _ (show (1501 - (u5_73 + 1) : Int) < ((m_73 : Nat) : Int) from by ((first | omega | (simp only [st_s] <;> omega) | assumption | omega | fail))) hT (show τ_73.1 3 = σ.1 3 from by first | exact W3 | omega) (show τ_73.1 5 = σ.1 5 from by first | exact W5 | omega) (show τ_73.1 11 = σ.1 11 from by first | exact W11 | omega) (show τ_73.1 45 = σ.1 45 from by first | exact W45 | omega) (show τ_73.1 46 = σ.1 46 from by first | exact W46 | omega) (show τ_73.1 48 = σ.1 48 from by first | exact W48 | omega) (show τ_73.1 50 = σ.1 50 from by first | exact W50 | omega) G8 G10 G13 G14 G15 G16 G18 G19 G20 G71 G72 G73 G74 G75 G76 G84 (show τ_73 = σ from by (first | exact i73_1 | rfl | fail)) (show u2_73 = σ.2.1 88 n1 from by (first | omega | (simp only [st_s] <;> omega) | assumption | omega | fail)) (show u3_73 = σ.2.1 89 n1 from by (first | omega | (simp only [st_s] <;> omega) | assumption | omega | fail)) (show 0 ≤ (u5_73 + 1) ∧ (u5_73 + 1) ≤ (σ.1 48) from by (first | omega | (simp only [st_s] <;> omega) | assumption | omega | fail)) (show ¬ (σ.2.1 89 n1 = σ.2.1 88 n1 + 1 ∧ σ.2.1 73 (σ.2.1 88 n1) = σ.2.1 90 n1) from by (first | exact i73_5 | (intro z; omega) | (intro z; exact absurd (show x7 = x8 by rw [e_x7, e_x8, e_x2]; exact z.2) (by assumption)) | fail)) (show (x57 = -1 ∧ ∀ k : Int, 0 ≤ k → k < (u5_73 + 1) → σ.2.1 84 k ≠ r0) ∨ x57 = r0 from by (first | exact Or.inr uR | (have q9 := M18; rcases q9 with ⟨w, _⟩ | w; (exact Or.inl ⟨w, fun k a b => by exfalso; omega⟩); (exact Or.inr w)) | (refine Or.inl ⟨by omega, fun k a b => ?_⟩; rcases (by omega : k < u5_73 ∨ k = u5_73) with y | y; (have q9 := i73_6; rcases q9 with ⟨_, w⟩ | w; (exact w k a y); (exfalso; omega)); (rw [y]; exact fun z => by (have w := y_uw hTσ p3 cij (R0 i73_5) i73_4.1 (by omega) z; rw [← g39, ← g32] at w; first | omega | (rw [← i73_2, ← i73_3, ← e_x48] at w; omega)))) | fail)) (show (∃ k : Int, (0 ≤ k ∧ k < (σ.1 48)) ∧ σ.2.1 84 k = r0) ∨ x57 = r0 from by (first | exact i73_7 | exact Or.inr uR | (have q9 := M18; rcases q9 with ⟨_, w⟩ | w; (exact Or.inl w); (exact Or.inr w)) | (have q9 := i73_7; rcases q9 with w | w; (exact Or.inl w); (exfalso; omega)) | fail))
            ·
              refine ⟨fun c43 => ?_, fun c43 => ?_⟩
              ·
                refine h191 _ _ _ _ _ _ _ ?_
                refine ⟨fun c54 => ?_, fun c54 => ?_⟩
                ·
                  refine ⟨(⟨by (first | omega | (simp only [st_s] <;> omega) | assumption | omega | fail), by (first | omega | (simp only [st_s] <;> omega) | assumption | omega | fail)⟩ : rg (u5_73 + 1)), ?_⟩
                  exact ih_73 _ _ _ _ _ (show (1501 - (u5_73 + 1) : Int) < ((m_73 : Nat) : Int) from by ((first | omega | (simp only [st_s] <;> omega) | assumption | omega | fail))) hT (show τ_73.1 3 = σ.1 3 from by first | exact W3 | omega) (show τ_73.1 5 = σ.1 5 from by first | exact W5 | omega) (show τ_73.1 11 = σ.1 11 from by first | exact W11 | omega) (show τ_73.1 45 = σ.1 45 from by first | exact W45 | omega) (show τ_73.1 46 = σ.1 46 from by first | exact W46 | omega) (show τ_73.1 48 = σ.1 48 from by first | exact W48 | omega) (show τ_73.1 50 = σ.1 50 from by first | exact W50 | omega) G8 G10 G13 G14 G15 G16 G18 G19 G20 G71 G72 G73 G74 G75 G76 G84 (show τ_73 = σ from by (first | exact i73_1 | rfl | fail)) (show u2_73 = σ.2.1 88 n1 from by (first | omega | (simp only [st_s] <;> omega) | assumption | omega | fail)) (show u3_73 = σ.2.1 89 n1 from by (first | omega | (simp only [st_s] <;> omega) | assumption | omega | fail)) (show 0 ≤ (u5_73 + 1) ∧ (u5_73 + 1) ≤ (σ.1 48) from by (first | omega | (simp only [st_s] <;> omega) | assumption | omega | fail)) (show ¬ (σ.2.1 89 n1 = σ.2.1 88 n1 + 1 ∧ σ.2.1 73 (σ.2.1 88 n1) = σ.2.1 90 n1) from by (first | exact i73_5 | (intro z; omega) | (intro z; exact absurd (show x7 = x8 by rw [e_x7, e_x8, e_x2]; exact z.2) (by assumption)) | fail)) (show (u4_73 = -1 ∧ ∀ k : Int, 0 ≤ k → k < (u5_73 + 1) → σ.2.1 84 k ≠ r0) ∨ u4_73 = r0 from by (first | exact Or.inr uR | (have q9 := M18; rcases q9 with ⟨w, _⟩ | w; (exact Or.inl ⟨w, fun k a b => by exfalso; omega⟩); (exact Or.inr w)) | (refine Or.inl ⟨by omega, fun k a b => ?_⟩; rcases (by omega : k < u5_73 ∨ k = u5_73) with y | y; (have q9 := i73_6; rcases q9 with ⟨_, w⟩ | w; (exact w k a y); (exfalso; omega)); (rw [y]; exact fun z => by (have w := y_uw hTσ p3 cij (R0 i73_5) i73_4.1 (by omega) z; rw [← g39, ← g32] at w; first | omega | (rw [← i73_2, ← i73_3, ← e_x48] at w; omega)))) | fail)) (show (∃ k : Int, (0 ≤ k ∧ k < (σ.1 48)) ∧ σ.2.1 84 k = r0) ∨ u4_73 = r0 from by (first | exact i73_7 | exact Or.inr uR | (have q9 := M18; rcases q9 with ⟨_, w⟩ | w; (exact Or.inl w); (exact Or.inr w)) | (have q9 := i73_7; rcases q9 with w | w; (exact Or.inl w); (exfalso; omega)) | fail))
                ·
                  refine ⟨(show 0 ≤ u5_73 ∧ u5_73 < 1501 from by (first | omega | (simp only [st_s] <;> omega) | assumption | omega | fail)), ?_⟩
                  intro x57 r_x57 e_x57
                  have b_x57 : 0 ≤ x57 ∧ x57 ≤ 1499 := by rw [e_x57]; exact hT.2 84 _
                  rw [G84] at e_x57
                  have uR : x57 = r0 := by (first | (exfalso; omega) | (rw [e_x57]; exact y_uk hTσ p3 cij (R0 i73_5) i73_4.1 (by omega) (by rw [← e_x21]; omega) (by rw [← g39, ← e_x41]; assumption) (by rw [← g32]; omega) (by rw [← g32, ← i73_2, ← i73_3, ← e_x48]; omega)))
                  refine ⟨(⟨by (first | omega | (simp only [st_s] <;> omega) | assumption | omega | fail), by (first | omega | (simp only [st_s] <;> omega) | assumption | omega | fail)⟩ : rg (u5_73 + 1)), ?_⟩
                  exact ih_73 _ _ _ _ _ (show (1501 - (u5_73 + 1) : Int) < ((m_73 : Nat) : Int) from by ((first | omega | (simp only [st_s] <;> omega) | assumption | omega | fail))) hT (show τ_73.1 3 = σ.1 3 from by first | exact W3 | omega) (show τ_73.1 5 = σ.1 5 from by first | exact W5 | omega) (show τ_73.1 11 = σ.1 11 from by first | exact W11 | omega) (show τ_73.1 45 = σ.1 45 from by first | exact W45 | omega) (show τ_73.1 46 = σ.1 46 from by first | exact W46 | omega) (show τ_73.1 48 = σ.1 48 from by first | exact W48 | omega) (show τ_73.1 50 = σ.1 50 from by first | exact W50 | omega) G8 G10 G13 G14 G15 G16 G18 G19 G20 G71 G72 G73 G74 G75 G76 G84 (show τ_73 = σ from by (first | exact i73_1 | rfl | fail)) (show u2_73 = σ.2.1 88 n1 from by (first | omega | (simp only [st_s] <;> omega) | assumption | omega | fail)) (show u3_73 = σ.2.1 89 n1 from by (first | omega | (simp only [st_s] <;> omega) | assumption | omega | fail)) (show 0 ≤ (u5_73 + 1) ∧ (u5_73 + 1) ≤ (σ.1 48) from by (first | omega | (simp only [st_s] <;> omega) | assumption | omega | fail)) (show ¬ (σ.2.1 89 n1 = σ.2.1 88 n1 + 1 ∧ σ.2.1 73 (σ.2.1 88 n1) = σ.2.1 90 n1) from by (first | exact i73_5 | (intro z; omega) | (intro z; exact absurd (show x7 = x8 by rw [e_x7, e_x8, e_x2]; exact z.2) (by assumption)) | fail)) (show (x57 = -1 ∧ ∀ k : Int, 0 ≤ k → k < (u5_73 + 1) → σ.2.1 84 k ≠ r0) ∨ x57 = r0 from by (first | exact Or.inr uR | (have q9 := M18; rcases q9 with ⟨w, _⟩ | w; (exact Or.inl ⟨w, fun k a b => by exfalso; omega⟩); (exact Or.inr w)) | (refine Or.inl ⟨by omega, fun k a b => ?_⟩; rcases (by omega : k < u5_73 ∨ k = u5_73) with y | y; (have q9 := i73_6; rcases q9 with ⟨_, w⟩ | w; (exact w k a y); (exfalso; omega)); (rw [y]; exact fun z => by (have w := y_uw hTσ p3 cij (R0 i73_5) i73_4.1 (by omega) z; rw [← g39, ← g32] at w; first | omega | (rw [← i73_2, ← i73_3, ← e_x48] at w; omega)))) | fail)) (show (∃ k : Int, (0 ≤ k ∧ k < (σ.1 48)) ∧ σ.2.1 84 k = r0) ∨ x57 = r0 from by (first | exact i73_7 | exact Or.inr uR | (have q9 := M18; rcases q9 with ⟨_, w⟩ | w; (exact Or.inl w); (exact Or.inr w)) | (have q9 := i73_7; rcases q9 with w | w; (exact Or.inl w); (exfalso; omega)) | fail))
              ·
                refine ⟨_, K_X13_wayAt hT (show 0 ≤ x32 ∧ x32 ≤ 99 from by (first | omega | (simp only [st_s] <;> omega) | assumption | omega | fail)) (show 0 ≤ u2_73 ∧ u2_73 ≤ 60 from by (first | omega | (simp only [st_s] <;> omega) | assumption | omega | fail)) (show 0 ≤ u3_73 ∧ u3_73 ≤ 60 from by (first | omega | (simp only [st_s] <;> omega) | assumption | omega | fail)), ?_⟩
                intro x45 r_x45 hq
                obtain ⟨q44_1, q44_2⟩ := hq
                replace q44_1 : x45 = (x32 * 61 + u2_73) * 61 + u3_73 := q44_1
                replace q44_2 : 0 ≤ x45 ∧ x45 < 372100 := q44_2
                refine ⟨(show 0 ≤ x45 ∧ x45 < 372100 from by (first | omega | (simp only [st_s] <;> omega) | assumption | omega | fail)), ?_⟩
                intro x48 r_x48 e_x48
                have b_x48 : 0 ≤ x48 ∧ x48 ≤ 3 := by rw [e_x48]; exact hT.2 75 _
                rw [q44_1, G75] at e_x48
                refine ⟨fun c49 => ?_, fun c49 => ?_⟩
                ·
                  refine h191 _ _ _ _ _ _ _ ?_
                  refine ⟨fun c54 => ?_, fun c54 => ?_⟩
                  ·
                    refine ⟨(⟨by (first | omega | (simp only [st_s] <;> omega) | assumption | omega | fail), by (first | omega | (simp only [st_s] <;> omega) | assumption | omega | fail)⟩ : rg (u5_73 + 1)), ?_⟩
                    exact ih_73 _ _ _ _ _ (show (1501 - (u5_73 + 1) : Int) < ((m_73 : Nat) : Int) from by ((first | omega | (simp only [st_s] <;> omega) | assumption | omega | fail))) hT (show τ_73.1 3 = σ.1 3 from by first | exact W3 | omega) (show τ_73.1 5 = σ.1 5 from by first | exact W5 | omega) (show τ_73.1 11 = σ.1 11 from by first | exact W11 | omega) (show τ_73.1 45 = σ.1 45 from by first | exact W45 | omega) (show τ_73.1 46 = σ.1 46 from by first | exact W46 | omega) (show τ_73.1 48 = σ.1 48 from by first | exact W48 | omega) (show τ_73.1 50 = σ.1 50 from by first | exact W50 | omega) G8 G10 G13 G14 G15 G16 G18 G19 G20 G71 G72 G73 G74 G75 G76 G84 (show τ_73 = σ from by (first | exact i73_1 | rfl | fail)) (show u2_73 = σ.2.1 88 n1 from by (first | omega | (simp only [st_s] <;> omega) | assumption | omega | fail)) (show u3_73 = σ.2.1 89 n1 from by (first | omega | (simp only [st_s] <;> omega) | assumption | omega | fail)) (show 0 ≤ (u5_73 + 1) ∧ (u5_73 + 1) ≤ (σ.1 48) from by (first | omega | (simp only [st_s] <;> omega) | assumption | omega | fail)) (show ¬ (σ.2.1 89 n1 = σ.2.1 88 n1 + 1 ∧ σ.2.1 73 (σ.2.1 88 n1) = σ.2.1 90 n1) from by (first | exact i73_5 | (intro z; omega) | (intro z; exact absurd (show x7 = x8 by rw [e_x7, e_x8, e_x2]; exact z.2) (by assumption)) | fail)) (show (u4_73 = -1 ∧ ∀ k : Int, 0 ≤ k → k < (u5_73 + 1) → σ.2.1 84 k ≠ r0) ∨ u4_73 = r0 from by (first | exact Or.inr uR | (have q9 := M18; rcases q9 with ⟨w, _⟩ | w; (exact Or.inl ⟨w, fun k a b => by exfalso; omega⟩); (exact Or.inr w)) | (refine Or.inl ⟨by omega, fun k a b => ?_⟩; rcases (by omega : k < u5_73 ∨ k = u5_73) with y | y; (have q9 := i73_6; rcases q9 with ⟨_, w⟩ | w; (exact w k a y); (exfalso; omega)); (rw [y]; exact fun z => by (have w := y_uw hTσ p3 cij (R0 i73_5) i73_4.1 (by omega) z; rw [← g39, ← g32] at w; first | omega | (rw [← i73_2, ← i73_3, ← e_x48] at w; omega)))) | fail)) (show (∃ k : Int, (0 ≤ k ∧ k < (σ.1 48)) ∧ σ.2.1 84 k = r0) ∨ u4_73 = r0 from by (first | exact i73_7 | exact Or.inr uR | (have q9 := M18; rcases q9 with ⟨_, w⟩ | w; (exact Or.inl w); (exact Or.inr w)) | (have q9 := i73_7; rcases q9 with w | w; (exact Or.inl w); (exfalso; omega)) | fail))
                  ·
                    refine ⟨(show 0 ≤ u5_73 ∧ u5_73 < 1501 from by (first | omega | (simp only [st_s] <;> omega) | assumption | omega | fail)), ?_⟩
                    intro x57 r_x57 e_x57
                    have b_x57 : 0 ≤ x57 ∧ x57 ≤ 1499 := by rw [e_x57]; exact hT.2 84 _
                    rw [G84] at e_x57
                    have uR : x57 = r0 := by (first | (exfalso; omega) | (rw [e_x57]; exact y_uk hTσ p3 cij (R0 i73_5) i73_4.1 (by omega) (by rw [← e_x21]; omega) (by rw [← g39, ← e_x41]; assumption) (by rw [← g32]; omega) (by rw [← g32, ← i73_2, ← i73_3, ← e_x48]; omega)))
                    refine ⟨(⟨by (first | omega | (simp only [st_s] <;> omega) | assumption | omega | fail), by (first | omega | (simp only [st_s] <;> omega) | assumption | omega | fail)⟩ : rg (u5_73 + 1)), ?_⟩
                    exact ih_73 _ _ _ _ _ (show (1501 - (u5_73 + 1) : Int) < ((m_73 : Nat) : Int) from by ((first | omega | (simp only [st_s] <;> omega) | assumption | omega | fail))) hT (show τ_73.1 3 = σ.1 3 from by first | exact W3 | omega) (show τ_73.1 5 = σ.1 5 from by first | exact W5 | omega) (show τ_73.1 11 = σ.1 11 from by first | exact W11 | omega) (show τ_73.1 45 = σ.1 45 from by first | exact W45 | omega) (show τ_73.1 46 = σ.1 46 from by first | exact W46 | omega) (show τ_73.1 48 = σ.1 48 from by first | exact W48 | omega) (show τ_73.1 50 = σ.1 50 from by first | exact W50 | omega) G8 G10 G13 G14 G15 G16 G18 G19 G20 G71 G72 G73 G74 G75 G76 G84 (show τ_73 = σ from by (first | exact i73_1 | rfl | fail)) (show u2_73 = σ.2.1 88 n1 from by (first | omega | (simp only [st_s] <;> omega) | assumption | omega | fail)) (show u3_73 = σ.2.1 89 n1 from by (first | omega | (simp only [st_s] <;> omega) | assumption | omega | fail)) (show 0 ≤ (u5_73 + 1) ∧ (u5_73 + 1) ≤ (σ.1 48) from by (first | omega | (simp only [st_s] <;> omega) | assumption | omega | fail)) (show ¬ (σ.2.1 89 n1 = σ.2.1 88 n1 + 1 ∧ σ.2.1 73 (σ.2.1 88 n1) = σ.2.1 90 n1) from by (first | exact i73_5 | (intro z; omega) | (intro z; exact absurd (show x7 = x8 by rw [e_x7, e_x8, e_x2]; exact z.2) (by assumption)) | fail)) (show (x57 = -1 ∧ ∀ k : Int, 0 ≤ k → k < (u5_73 + 1) → σ.2.1 84 k ≠ r0) ∨ x57 = r0 from by (first | exact Or.inr uR | (have q9 := M18; rcases q9 with ⟨w, _⟩ | w; (exact Or.inl ⟨w, fun k a b => by exfalso; omega⟩); (exact Or.inr w)) | (refine Or.inl ⟨by omega, fun k a b => ?_⟩; rcases (by omega : k < u5_73 ∨ k = u5_73) with y | y; (have q9 := i73_6; rcases q9 with ⟨_, w⟩ | w; (exact w k a y); (exfalso; omega)); (rw [y]; exact fun z => by (have w := y_uw hTσ p3 cij (R0 i73_5) i73_4.1 (by omega) z; rw [← g39, ← g32] at w; first | omega | (rw [← i73_2, ← i73_3, ← e_x48] at w; omega)))) | fail)) (show (∃ k : Int, (0 ≤ k ∧ k < (σ.1 48)) ∧ σ.2.1 84 k = r0) ∨ x57 = r0 from by (first | exact i73_7 | exact Or.inr uR | (have q9 := M18; rcases q9 with ⟨_, w⟩ | w; (exact Or.inl w); (exact Or.inr w)) | (have q9 := i73_7; rcases q9 with w | w; (exact Or.inl w); (exfalso; omega)) | fail))
                ·
                  refine h191 _ _ _ _ _ _ _ ?_
                  refine ⟨fun c54 => ?_, fun c54 => ?_⟩
                  ·
                    refine ⟨(⟨by (first | omega | (simp only [st_s] <;> omega) | assumption | omega | fail), by (first | omega | (simp only [st_s] <;> omega) | assumption | omega | fail)⟩ : rg (u5_73 + 1)), ?_⟩
                    exact ih_73 _ _ _ _ _ (show (1501 - (u5_73 + 1) : Int) < ((m_73 : Nat) : Int) from by ((first | omega | (simp only [st_s] <;> omega) | assumption | omega | fail))) hT (show τ_73.1 3 = σ.1 3 from by first | exact W3 | omega) (show τ_73.1 5 = σ.1 5 from by first | exact W5 | omega) (show τ_73.1 11 = σ.1 11 from by first | exact W11 | omega) (show τ_73.1 45 = σ.1 45 from by first | exact W45 | omega) (show τ_73.1 46 = σ.1 46 from by first | exact W46 | omega) (show τ_73.1 48 = σ.1 48 from by first | exact W48 | omega) (show τ_73.1 50 = σ.1 50 from by first | exact W50 | omega) G8 G10 G13 G14 G15 G16 G18 G19 G20 G71 G72 G73 G74 G75 G76 G84 (show τ_73 = σ from by (first | exact i73_1 | rfl | fail)) (show u2_73 = σ.2.1 88 n1 from by (first | omega | (simp only [st_s] <;> omega) | assumption | omega | fail)) (show u3_73 = σ.2.1 89 n1 from by (first | omega | (simp only [st_s] <;> omega) | assumption | omega | fail)) (show 0 ≤ (u5_73 + 1) ∧ (u5_73 + 1) ≤ (σ.1 48) from by (first | omega | (simp only [st_s] <;> omega) | assumption | omega | fail)) (show ¬ (σ.2.1 89 n1 = σ.2.1 88 n1 + 1 ∧ σ.2.1 73 (σ.2.1 88 n1) = σ.2.1 90 n1) from by (first | exact i73_5 | (intro z; omega) | (intro z; exact absurd (show x7 = x8 by rw [e_x7, e_x8, e_x2]; exact z.2) (by assumption)) | fail)) (show (u4_73 = -1 ∧ ∀ k : Int, 0 ≤ k → k < (u5_73 + 1) → σ.2.1 84 k ≠ r0) ∨ u4_73 = r0 from by (first | exact Or.inr uR | (have q9 := M18; rcases q9 with ⟨w, _⟩ | w; (exact Or.inl ⟨w, fun k a b => by exfalso; omega⟩); (exact Or.inr w)) | (refine Or.inl ⟨by omega, fun k a b => ?_⟩; rcases (by omega : k < u5_73 ∨ k = u5_73) with y | y; (have q9 := i73_6; rcases q9 with ⟨_, w⟩ | w; (exact w k a y); (exfalso; omega)); (rw [y]; exact fun z => by (have w := y_uw hTσ p3 cij (R0 i73_5) i73_4.1 (by omega) z; rw [← g39, ← g32] at w; first | omega | (rw [← i73_2, ← i73_3, ← e_x48] at w; omega)))) | fail)) (show (∃ k : Int, (0 ≤ k ∧ k < (σ.1 48)) ∧ σ.2.1 84 k = r0) ∨ u4_73 = r0 from by (first | exact i73_7 | exact Or.inr uR | (have q9 := M18; rcases q9 with ⟨_, w⟩ | w; (exact Or.inl w); (exact Or.inr w)) | (have q9 := i73_7; rcases q9 with w | w; (exact Or.inl w); (exfalso; omega)) | fail))
                  ·
                    refine ⟨(show 0 ≤ u5_73 ∧ u5_73 < 1501 from by (first | omega | (simp only [st_s] <;> omega) | assumption | omega | fail)), ?_⟩
                    intro x57 r_x57 e_x57
                    have b_x57 : 0 ≤ x57 ∧ x57 ≤ 1499 := by rw [e_x57]; exact hT.2 84 _
                    rw [G84] at e_x57
                    have uR : x57 = r0 := by (first | (exfalso; omega) | (rw [e_x57]; exact y_uk hTσ p3 cij (R0 i73_5) i73_4.1 (by omega) (by rw [← e_x21]; omega) (by rw [← g39, ← e_x41]; assumption) (by rw [← g32]; omega) (by rw [← g32, ← i73_2, ← i73_3, ← e_x48]; omega)))
                    refine ⟨(⟨by (first | omega | (simp only [st_s] <;> omega) | assumption | omega | fail), by (first | omega | (simp only [st_s] <;> omega) | assumption | omega | fail)⟩ : rg (u5_73 + 1)), ?_⟩
                    exact ih_73 _ _ _ _ _ (show (1501 - (u5_73 + 1) : Int) < ((m_73 : Nat) : Int) from by ((first | omega | (simp only [st_s] <;> omega) | assumption | omega | fail))) hT (show τ_73.1 3 = σ.1 3 from by first | exact W3 | omega) (show τ_73.1 5 = σ.1 5 from by first | exact W5 | omega) (show τ_73.1 11 = σ.1 11 from by first | exact W11 | omega) (show τ_73.1 45 = σ.1 45 from by first | exact W45 | omega) (show τ_73.1 46 = σ.1 46 from by first | exact W46 | omega) (show τ_73.1 48 = σ.1 48 from by first | exact W48 | omega) (show τ_73.1 50 = σ.1 50 from by first | exact W50 | omega) G8 G10 G13 G14 G15 G16 G18 G19 G20 G71 G72 G73 G74 G75 G76 G84 (show τ_73 = σ from by (first | exact i73_1 | rfl | fail)) (show u2_73 = σ.2.1 88 n1 from by (first | omega | (simp only [st_s] <;> omega) | assumption | omega | fail)) (show u3_73 = σ.2.1 89 n1 from by (first | omega | (simp only [st_s] <;> omega) | assumption | omega | fail)) (show 0 ≤ (u5_73 + 1) ∧ (u5_73 + 1) ≤ (σ.1 48) from by (first | omega | (simp only [st_s] <;> omega) | assumption | omega | fail)) (show ¬ (σ.2.1 89 n1 = σ.2.1 88 n1 + 1 ∧ σ.2.1 73 (σ.2.1 88 n1) = σ.2.1 90 n1) from by (first | exact i73_5 | (intro z; omega) | (intro z; exact absurd (show x7 = x8 by rw [e_x7, e_x8, e_x2]; exact z.2) (by assumption)) | fail)) (show (x57 = -1 ∧ ∀ k : Int, 0 ≤ k → k < (u5_73 + 1) → σ.2.1 84 k ≠ r0) ∨ x57 = r0 from by (first | exact Or.inr uR | (have q9 := M18; rcases q9 with ⟨w, _⟩ | w; (exact Or.inl ⟨w, fun k a b => by exfalso; omega⟩); (exact Or.inr w)) | (refine Or.inl ⟨by omega, fun k a b => ?_⟩; rcases (by omega : k < u5_73 ∨ k = u5_73) with y | y; (have q9 := i73_6; rcases q9 with ⟨_, w⟩ | w; (exact w k a y); (exfalso; omega)); (rw [y]; exact fun z => by (have w := y_uw hTσ p3 cij (R0 i73_5) i73_4.1 (by omega) z; rw [← g39, ← g32] at w; first | omega | (rw [← i73_2, ← i73_3, ← e_x48] at w; omega)))) | fail)) (show (∃ k : Int, (0 ≤ k ∧ k < (σ.1 48)) ∧ σ.2.1 84 k = r0) ∨ x57 = r0 from by (first | exact i73_7 | exact Or.inr uR | (have q9 := M18; rcases q9 with ⟨_, w⟩ | w; (exact Or.inl w); (exact Or.inr w)) | (have q9 := i73_7; rcases q9 with w | w; (exact Or.inl w); (exfalso; omega)) | fail))
  refine ⟨(show 0 ≤ n1 ∧ n1 < 60000 from by (first | omega | (simp only [st_s] <;> omega) | assumption | omega | fail)), ?_⟩
  intro x2 r_x2 e_x2
  have b_x2 : 0 ≤ x2 ∧ x2 ≤ 59 := by rw [e_x2]; exact hT.2 88 _
  intro x3 r_x3 e_x3
  have b_x3 : 0 ≤ x3 ∧ x3 ≤ 59 := by rw [e_x3]; exact hT.2 89 _
  refine ⟨(⟨by (first | omega | (simp only [st_s] <;> omega) | assumption | omega | fail), by (first | omega | (simp only [st_s] <;> omega) | assumption | omega | fail)⟩ : rg (x2 + 1)), ?_⟩
  refine ⟨fun c5 => ?_, fun c5 => ?_⟩
  ·
    refine h51 _ _ _ _ ?_
    refine ⟨(show 0 ≤ n1 ∧ n1 < 60000 from by (first | omega | (simp only [st_s] <;> omega) | assumption | omega | fail)), ?_⟩
    intro x13 r_x13 e_x13
    have b_x13 : (-1) ≤ x13 ∧ x13 ≤ 99 := by rw [e_x13]; exact hT.2 90 _
    refine ⟨_, K_X13_wayAt hT (show 0 ≤ x13 ∧ x13 ≤ 99 from by (first | omega | (simp only [st_s] <;> omega) | assumption | omega | fail)) (show 0 ≤ x2 ∧ x2 ≤ 60 from by (first | omega | (simp only [st_s] <;> omega) | assumption | omega | fail)) (show 0 ≤ x3 ∧ x3 ≤ 60 from by (first | omega | (simp only [st_s] <;> omega) | assumption | omega | fail)), ?_⟩
    intro x15 r_x15 hq
    obtain ⟨q14_1, q14_2⟩ := hq
    replace q14_1 : x15 = (x13 * 61 + x2) * 61 + x3 := q14_1
    replace q14_2 : 0 ≤ x15 ∧ x15 < 372100 := q14_2
    refine ⟨(show 0 ≤ x15 ∧ x15 < 372100 from by (first | omega | (simp only [st_s] <;> omega) | assumption | omega | fail)), ?_⟩
    intro x18 r_x18 e_x18
    have b_x18 : (-1) ≤ x18 ∧ x18 ≤ 1499 := by rw [e_x18]; exact hT.2 76 _
    rw [q14_1] at e_x18
    have nlf : ¬ (σ.2.1 89 n1 = σ.2.1 88 n1 + 1 ∧ σ.2.1 73 (σ.2.1 88 n1) = σ.2.1 90 n1) := by (first | (intro z; omega) | (intro z; exact absurd (show x7 = x8 by (rw [e_x7, e_x8, e_x2]; exact z.2)) (by assumption)))
    have M18 := y_by p3 p4s (R0 nlf)
    rw [← e_x13, ← e_x2, ← e_x3, ← e_x18] at M18
    exact l_73 ((1501 - 0 : Int).toNat + 1) _ _ _ _ _ (show (1501 - 0 : Int) < (((1501 - 0 : Int).toNat + 1 : Nat) : Int) from by ((first | omega | (simp only [st_s] <;> omega) | assumption | omega | fail))) hT (show σ.1 3 = σ.1 3 from by first | exact W3 | omega) (show σ.1 5 = σ.1 5 from by first | exact W5 | omega) (show σ.1 11 = σ.1 11 from by first | exact W11 | omega) (show σ.1 45 = σ.1 45 from by first | exact W45 | omega) (show σ.1 46 = σ.1 46 from by first | exact W46 | omega) (show σ.1 48 = σ.1 48 from by first | exact W48 | omega) (show σ.1 50 = σ.1 50 from by first | exact W50 | omega) G8 G10 G13 G14 G15 G16 G18 G19 G20 G71 G72 G73 G74 G75 G76 G84 (show σ = σ from by (first | exact i73_1 | rfl | fail)) (show x2 = σ.2.1 88 n1 from by (first | omega | (simp only [st_s] <;> omega) | assumption | omega | fail)) (show x3 = σ.2.1 89 n1 from by (first | omega | (simp only [st_s] <;> omega) | assumption | omega | fail)) (show 0 ≤ 0 ∧ 0 ≤ (σ.1 48) from by (first | omega | (simp only [st_s] <;> omega) | assumption | omega | fail)) (show ¬ (σ.2.1 89 n1 = σ.2.1 88 n1 + 1 ∧ σ.2.1 73 (σ.2.1 88 n1) = σ.2.1 90 n1) from by (first | exact i73_5 | (intro z; omega) | (intro z; exact absurd (show x7 = x8 by rw [e_x7, e_x8, e_x2]; exact z.2) (by assumption)) | fail)) (show (x18 = -1 ∧ ∀ k : Int, 0 ≤ k → k < 0 → σ.2.1 84 k ≠ r0) ∨ x18 = r0 from by (first | exact Or.inr uR | (have q9 := M18; rcases q9 with ⟨w, _⟩ | w; (exact Or.inl ⟨w, fun k a b => by exfalso; omega⟩); (exact Or.inr w)) | (refine Or.inl ⟨by omega, fun k a b => ?_⟩; rcases (by omega : k < u5_73 ∨ k = u5_73) with y | y; (have q9 := i73_6; rcases q9 with ⟨_, w⟩ | w; (exact w k a y); (exfalso; omega)); (rw [y]; exact fun z => by (have w := y_uw hTσ p3 cij (R0 i73_5) i73_4.1 (by omega) z; rw [← g39, ← g32] at w; first | omega | (rw [← i73_2, ← i73_3, ← e_x48] at w; omega)))) | fail)) (show (∃ k : Int, (0 ≤ k ∧ k < (σ.1 48)) ∧ σ.2.1 84 k = r0) ∨ x18 = r0 from by (first | exact i73_7 | exact Or.inr uR | (have q9 := M18; rcases q9 with ⟨_, w⟩ | w; (exact Or.inl w); (exact Or.inr w)) | (have q9 := i73_7; rcases q9 with w | w; (exact Or.inl w); (exfalso; omega)) | fail))
  ·
    refine ⟨(show 0 ≤ x2 ∧ x2 < 64 from by (first | omega | (simp only [st_s] <;> omega) | assumption | omega | fail)), ?_⟩
    intro x7 r_x7 e_x7
    have b_x7 : (-1) ≤ x7 ∧ x7 ≤ 99 := by rw [e_x7]; exact hT.2 73 _
    intro x8 r_x8 e_x8
    have b_x8 : (-1) ≤ x8 ∧ x8 ≤ 99 := by rw [e_x8]; exact hT.2 90 _
    refine ⟨fun c9 => ?_, fun c9 => ?_⟩
    ·
      refine h51 _ _ _ _ ?_
      refine ⟨(show 0 ≤ n1 ∧ n1 < 60000 from by (first | omega | (simp only [st_s] <;> omega) | assumption | omega | fail)), ?_⟩
      intro x13 r_x13 e_x13
      have b_x13 : (-1) ≤ x13 ∧ x13 ≤ 99 := by rw [e_x13]; exact hT.2 90 _
      refine ⟨_, K_X13_wayAt hT (show 0 ≤ x13 ∧ x13 ≤ 99 from by (first | omega | (simp only [st_s] <;> omega) | assumption | omega | fail)) (show 0 ≤ x2 ∧ x2 ≤ 60 from by (first | omega | (simp only [st_s] <;> omega) | assumption | omega | fail)) (show 0 ≤ x3 ∧ x3 ≤ 60 from by (first | omega | (simp only [st_s] <;> omega) | assumption | omega | fail)), ?_⟩
      intro x15 r_x15 hq
      obtain ⟨q14_1, q14_2⟩ := hq
      replace q14_1 : x15 = (x13 * 61 + x2) * 61 + x3 := q14_1
      replace q14_2 : 0 ≤ x15 ∧ x15 < 372100 := q14_2
      refine ⟨(show 0 ≤ x15 ∧ x15 < 372100 from by (first | omega | (simp only [st_s] <;> omega) | assumption | omega | fail)), ?_⟩
      intro x18 r_x18 e_x18
      have b_x18 : (-1) ≤ x18 ∧ x18 ≤ 1499 := by rw [e_x18]; exact hT.2 76 _
      rw [q14_1] at e_x18
      have nlf : ¬ (σ.2.1 89 n1 = σ.2.1 88 n1 + 1 ∧ σ.2.1 73 (σ.2.1 88 n1) = σ.2.1 90 n1) := by (first | (intro z; omega) | (intro z; exact absurd (show x7 = x8 by (rw [e_x7, e_x8, e_x2]; exact z.2)) (by assumption)))
      have M18 := y_by p3 p4s (R0 nlf)
      rw [← e_x13, ← e_x2, ← e_x3, ← e_x18] at M18
      exact l_73 ((1501 - 0 : Int).toNat + 1) _ _ _ _ _ (show (1501 - 0 : Int) < (((1501 - 0 : Int).toNat + 1 : Nat) : Int) from by ((first | omega | (simp only [st_s] <;> omega) | assumption | omega | fail))) hT (show σ.1 3 = σ.1 3 from by first | exact W3 | omega) (show σ.1 5 = σ.1 5 from by first | exact W5 | omega) (show σ.1 11 = σ.1 11 from by first | exact W11 | omega) (show σ.1 45 = σ.1 45 from by first | exact W45 | omega) (show σ.1 46 = σ.1 46 from by first | exact W46 | omega) (show σ.1 48 = σ.1 48 from by first | exact W48 | omega) (show σ.1 50 = σ.1 50 from by first | exact W50 | omega) G8 G10 G13 G14 G15 G16 G18 G19 G20 G71 G72 G73 G74 G75 G76 G84 (show σ = σ from by (first | exact i73_1 | rfl | fail)) (show x2 = σ.2.1 88 n1 from by (first | omega | (simp only [st_s] <;> omega) | assumption | omega | fail)) (show x3 = σ.2.1 89 n1 from by (first | omega | (simp only [st_s] <;> omega) | assumption | omega | fail)) (show 0 ≤ 0 ∧ 0 ≤ (σ.1 48) from by (first | omega | (simp only [st_s] <;> omega) | assumption | omega | fail)) (show ¬ (σ.2.1 89 n1 = σ.2.1 88 n1 + 1 ∧ σ.2.1 73 (σ.2.1 88 n1) = σ.2.1 90 n1) from by (first | exact i73_5 | (intro z; omega) | (intro z; exact absurd (show x7 = x8 by rw [e_x7, e_x8, e_x2]; exact z.2) (by assumption)) | fail)) (show (x18 = -1 ∧ ∀ k : Int, 0 ≤ k → k < 0 → σ.2.1 84 k ≠ r0) ∨ x18 = r0 from by (first | exact Or.inr uR | (have q9 := M18; rcases q9 with ⟨w, _⟩ | w; (exact Or.inl ⟨w, fun k a b => by exfalso; omega⟩); (exact Or.inr w)) | (refine Or.inl ⟨by omega, fun k a b => ?_⟩; rcases (by omega : k < u5_73 ∨ k = u5_73) with y | y; (have q9 := i73_6; rcases q9 with ⟨_, w⟩ | w; (exact w k a y); (exfalso; omega)); (rw [y]; exact fun z => by (have w := y_uw hTσ p3 cij (R0 i73_5) i73_4.1 (by omega) z; rw [← g39, ← g32] at w; first | omega | (rw [← i73_2, ← i73_3, ← e_x48] at w; omega)))) | fail)) (show (∃ k : Int, (0 ≤ k ∧ k < (σ.1 48)) ∧ σ.2.1 84 k = r0) ∨ x18 = r0 from by (first | exact i73_7 | exact Or.inr uR | (have q9 := M18; rcases q9 with ⟨_, w⟩ | w; (exact Or.inl w); (exact Or.inr w)) | (have q9 := i73_7; rcases q9 with w | w; (exact Or.inl w); (exfalso; omega)) | fail))
    ·
      intro x10 r_x10 e_x10
      have b_x10 : (-1) ≤ x10 ∧ x10 ≤ 1499 := by rw [e_x10]; exact hT.2 74 _
      refine ⟨(⟨by (first | omega | (simp only [st_s] <;> omega) | assumption | omega | fail), by (first | omega | (simp only [st_s] <;> omega) | assumption | omega | fail)⟩ : rg ((-1) - x10)), ?_⟩
      replace hT := mT_a (k := 86) (j := n1) hT (show (-1500 : Int) ≤ ((-1) - x10) ∧ ((-1) - x10) ≤ 1499 from by (first | omega | (simp only [st_s] <;> omega) | assumption | omega | fail))
      exact ⟨hT, (show ∀ y : Int, y ≠ n1 → (st (σ.2.1 86) n1 ((-1) - x10)) y = σ.2.1 86 y ∧ σ.2.1 87 y = σ.2.1 87 y from by (first | (exfalso; omega) | (intro y a; rw [q51_1, q51_2, st_n _ _ a, st_n _ _ a]; exact ⟨rfl, rfl⟩) | (intro y a; rw [st_n _ _ a]; exact ⟨rfl, rfl⟩) | fail)), (show (σ.1 51) ≤ (σ.1 51) from by (first | omega | fail)), (show (σ.1 52) ≤ (σ.1 52) ∧ (σ.1 52) - (σ.1 52) ≤ (σ.1 51) - (σ.1 51) from by (first | omega | fail)), (show ∀ y : Int, y < (σ.1 51) → σ.2.1 88 y = σ.2.1 88 y ∧ σ.2.1 89 y = σ.2.1 89 y ∧ σ.2.1 90 y = σ.2.1 90 y from by (first | (exfalso; omega) | exact q51_5 | exact fun y a => ⟨rfl, rfl, rfl⟩ | fail)), (show ∀ e : Int, e < (σ.1 52) → σ.2.1 91 e = σ.2.1 91 e from by (first | (exfalso; omega) | exact q51_6 | exact fun y a => rfl | fail)), (show ∀ y : Int, (σ.1 51) ≤ y → y < (σ.1 51) → y_c0 σ (σ.2.1 90 y) (σ.2.1 88 y) (σ.2.1 89 y) from by (first | (exfalso; omega) | exact q51_7 | (intro y a b; exfalso; omega) | fail)), (show y_nd σ ((st (σ.2.1 86) n1 ((-1) - x10))) (σ.2.1 87) (σ.2.1 91) (σ.2.1 88) (σ.2.1 89) (σ.2.1 90) n1 (σ.1 51) (σ.1 51) (σ.1 52) from by (first | (exfalso; omega) | (refine Or.inr ?_; rw [i1, k1, f1.1, f1.2.1, f1.2.2]; exact ⟨⟨ra1, ra2⟩, rb, rc, ⟨by omega, by omega⟩, q51_8⟩) | (refine Or.inl ⟨?_, ?_, ?_, ?_⟩; (rw [st_s, e_x10, e_x2]); (rw [st_s]; have w := p7 x2 (by omega) (by omega) (by omega); omega); (omega); (rw [← e_x2, ← e_x7, ← e_x8]; assumption)) | fail)), (show sm (y_ws ρ σ (σ.1 51) (σ.2.1 90) (σ.2.1 88) (σ.2.1 89)) ((σ.1 51) - (σ.1 51)) + 1 ≤ y_wt ρ σ (σ.2.1 90 n1) (σ.2.1 88 n1) (σ.2.1 89 n1) from by (first | (exfalso; omega) | exact q51_9 | (rw [show σ.1 51 - σ.1 51 = 0 from by omega, sm_0]; omega) | fail))⟩
