-- pure: the tree of a row
def y_TD (σ τ : S0) : Prop := y_SD σ τ ∧ τ.1 3 = σ.1 3 ∧ τ.1 45 = σ.1 45 ∧ τ.1 50 = σ.1 50 ∧ τ.2.1 71 = σ.2.1 71 ∧ τ.2.1 72 = σ.2.1 72 ∧ τ.2.1 73 = σ.2.1 73 ∧ τ.2.1 74 = σ.2.1 74 ∧ τ.2.1 75 = σ.2.1 75
theorem y_TD_e {σ τ : S0} (h : y_TD σ τ) (ρ : Int → Int → Int → Int) : y_c0 τ = y_c0 σ ∧ y_wt ρ τ = y_wt ρ σ ∧ y_nd τ = y_nd σ ∧ y_ws ρ τ = y_ws ρ σ := by
  obtain ⟨sd, e3, e45, e50, e71, e72, e73, e74, e75⟩ := h
  obtain ⟨_, s2, s3, s4, s5, _, _⟩ := y_SD_e sd
  obtain ⟨_, _, _, _, d14, _, d16, d18, d19, d20⟩ := sd
  have w : y_wt ρ τ = y_wt ρ σ := by funext c i j; unfold y_wt; rw [e3, e71]
  refine ⟨by funext c i j; unfold y_c0 y_Wσ y_Vσ; rw [e3, e45, e71, e75], w, ?_, by funext a b c d e; unfold y_ws; rw [w]⟩
  funext is kb kd nf nt ns x lo hi kc
  unfold y_nd y_Wσ y_hv y_sy
  rw [s2, s3, s4, s5, e3, e50, e71, e72, e73, e74, e75, d14, d16, d18, d19, d20]
theorem y_TC_h {ρ : Int → Int → Int → Int} {σ τ : S0} {wv wa wb : List Nat} (h : y_TC ρ σ) (hf : f_r wv wa wb σ τ) (d1 : [3, 5, 6, 7, 8, 9, 11, 45, 46, 47, 48, 50].all (fun i => !wv.contains i) = true) (d2 : [8, 10, 12, 13, 14, 15, 16, 17, 18, 19, 20, 21, 22, 25, 26, 27, 28, 71, 72, 73, 75, 76, 77, 78, 79, 80, 81, 82, 83, 84].all (fun i => !wa.contains i) = true) (J : n_J τ) (M : m_J τ) : y_TC ρ τ := by
  have V : ∀ i : Nat, i ∈ [3, 5, 6, 7, 8, 9, 11, 45, 46, 47, 48, 50] → τ.1 i = σ.1 i := fun i hi => hf.1 i (by simpa using List.all_eq_true.mp d1 i hi)
  have A : ∀ i : Nat, i ∈ [8, 10, 12, 13, 14, 15, 16, 17, 18, 19, 20, 21, 22, 25, 26, 27, 28, 71, 72, 73, 75, 76, 77, 78, 79, 80, 81, 82, 83, 84] → τ.2.1 i = σ.2.1 i := fun i hi => hf.2.1 i (by simpa using List.all_eq_true.mp d2 i hi)
  have SD : y_SD σ τ := ⟨V 11 (by simp), A 8 (by simp), A 10 (by simp), A 13 (by simp), A 14 (by simp), A 15 (by simp), A 16 (by simp), A 18 (by simp), A 19 (by simp), A 20 (by simp)⟩
  obtain ⟨_, s2, s3, s4, s5, s6, s7⟩ := y_SD_e SD
  obtain ⟨⟨⟨q1, q2, q3, q4, q5⟩, h2, h3⟩, h4, h5, _, _⟩ := h
  refine ⟨⟨?_, ?_, ?_⟩, ?_, ?_, J, M⟩
  · unfold y_QD y_TT y_Un
    rw [s2, s3, s4, s5, s6, s7, V 3 (by simp), V 5 (by simp), V 11 (by simp), V 45 (by simp), V 46 (by simp), V 47 (by simp), V 48 (by simp), A 8 (by simp), A 12 (by simp), A 71 (by simp), A 73 (by simp), A 77 (by simp), A 78 (by simp), A 79 (by simp), A 80 (by simp), A 81 (by simp), A 82 (by simp), A 83 (by simp), A 84 (by simp)]
    exact ⟨q1, q2, q3, q4, q5⟩
  · rw [V 50 (by simp)]; exact h2
  · rw [V 50 (by simp), V 5 (by simp)]; exact h3
  · rw [s2, s3, s4, s5, V 3 (by simp), V 45 (by simp), V 50 (by simp), A 71 (by simp), A 72 (by simp), A 73 (by simp), A 75 (by simp)]
    exact h4
  · unfold y_mb
    rw [s3, s4, s5, s7, V 3 (by simp), V 45 (by simp), V 50 (by simp), A 71 (by simp), A 72 (by simp), A 75 (by simp), A 76 (by simp)]
    exact h5
/-- a node that is done stays so -/
theorem y_nd_k {σ : S0} {is kb kd nf nt ns is' kb' kd' nf' nt' ns' : Int → Int} {x lo hi kc hi' kc' : Int} (h : y_nd σ is kb kd nf nt ns x lo hi kc) (e1 : is' x = is x ∧ kb' x = kb x ∧ nf' x = nf x ∧ nt' x = nt x ∧ ns' x = ns x) (e2 : ∀ e : Int, e < kc → kd' e = kd e) (e3 : ∀ y : Int, y < hi → nf' y = nf y ∧ nt' y = nt y ∧ ns' y = ns y) (lh : hi ≤ hi') (lk : kc ≤ kc') : y_nd σ is' kb' kd' nf' nt' ns' x lo hi' kc' := by
  obtain ⟨a1, a2, a3, a4, a5⟩ := e1
  unfold y_nd
  rw [a1, a2, a3, a4, a5]
  rcases h with h | ⟨h1, h2, h3, h4, D, h5, h6⟩
  · exact Or.inl h
  · refine Or.inr ⟨h1, h2, h3, ⟨h4.1, by omega⟩, D, h5, fun m m0 mn z => ?_⟩
    obtain ⟨k, hk, kv, kl, k1, k2, k3⟩ := h6 m m0 mn z
    have ek := e2 (kb x + k) (by omega)
    have en := e3 (kd (kb x + k)) kl.2
    refine ⟨k, hk, kv, ?_⟩
    rw [ek, en.1, en.2.1, en.2.2]
    exact ⟨⟨kl.1, by omega⟩, k1, k2, k3⟩
theorem y_nd_l {σ : S0} {is kb kd nf nt ns : Int → Int} {x lo lo' hi kc : Int} (h : y_nd σ is kb kd nf nt ns x lo hi kc) (l : lo' ≤ lo) : y_nd σ is kb kd nf nt ns x lo' hi kc := by
  rcases h with h | ⟨h1, h2, h3, h4, D, h5, h6⟩
  · exact Or.inl h
  · refine Or.inr ⟨h1, h2, h3, h4, D, h5, fun m m0 mn z => ?_⟩
    obtain ⟨k, hk, kv, kl, k1⟩ := h6 m m0 mn z
    exact ⟨k, hk, kv, ⟨by omega, kl.2⟩, k1⟩
theorem y_ws_n {ρ : Int → Int → Int → Int} {σ : S0} {lo hi : Int} {ns nf nt : Int → Int} (l : lo ≤ hi) (h : ∀ y : Int, lo ≤ y → y < hi → 1 ≤ y_wt ρ σ (ns y) (nf y) (nt y)) : hi - lo ≤ sm (y_ws ρ σ lo ns nf nt) (hi - lo) := by
  have b := sm_ge (f := y_ws ρ σ lo ns nf nt) (hi - lo).toNat (fun e e0 e1 => h (lo + e) (by omega) (by omega))
  have b2 : ((hi - lo).toNat : Int) ≤ sm (y_ws ρ σ lo ns nf nt) (hi - lo) := b
  omega
theorem y_ws_c {ρ : Int → Int → Int → Int} {σ : S0} {lo hi hi' : Int} {ns nf nt ns' nf' nt' : Int → Int} (l : lo < hi) (l2 : hi ≤ hi') (e : ∀ y : Int, y < hi → nf' y = nf y ∧ nt' y = nt y ∧ ns' y = ns y) : sm (y_ws ρ σ (lo + 1) ns' nf' nt') (hi' - (lo + 1)) = sm (y_ws ρ σ lo ns nf nt) (hi - lo) - y_wt ρ σ (ns lo) (nf lo) (nt lo) + sm (y_ws ρ σ hi ns' nf' nt') (hi' - hi) := by
  have a := sm_at (y_ws ρ σ (lo + 1) ns' nf' nt') (n := hi - (lo + 1)) (d := hi' - hi) (by omega) (by omega)
  rw [show hi - (lo + 1) + (hi' - hi) = hi' - (lo + 1) by omega] at a
  have b := sm_at (y_ws ρ σ lo ns nf nt) (n := 1) (d := hi - (lo + 1)) (by omega) (by omega)
  rw [show 1 + (hi - (lo + 1)) = hi - lo by omega] at b
  have c : sm (y_ws ρ σ lo ns nf nt) 1 = y_wt ρ σ (ns lo) (nf lo) (nt lo) := by
    have w := sm_s (y_ws ρ σ lo ns nf nt) (n := 0) (Int.le_refl _)
    rw [show (0 : Int) + 1 = 1 from rfl, sm_0] at w
    rw [w]
    unfold y_ws
    rw [show lo + 0 = lo by omega]; omega
  have d : sm (fun h => y_ws ρ σ lo ns nf nt (1 + h)) (hi - (lo + 1)) = sm (y_ws ρ σ (lo + 1) ns' nf' nt') (hi - (lo + 1)) := sm_x (fun y y0 y1 => by
    show y_ws ρ σ lo ns nf nt (1 + y) = y_ws ρ σ (lo + 1) ns' nf' nt' y
    unfold y_ws
    have w := e (lo + 1 + y) (by omega)
    rw [show lo + (1 + y) = lo + 1 + y by omega, w.1, w.2.1, w.2.2])
  have f : sm (fun h => y_ws ρ σ (lo + 1) ns' nf' nt' (hi - (lo + 1) + h)) (hi' - hi) = sm (y_ws ρ σ hi ns' nf' nt') (hi' - hi) := sm_x (fun y y0 y1 => by
    show y_ws ρ σ (lo + 1) ns' nf' nt' (hi - (lo + 1) + y) = y_ws ρ σ hi ns' nf' nt' y
    unfold y_ws
    rw [show lo + 1 + (hi - (lo + 1) + y) = hi + y by omega])
  omega
set_option maxHeartbeats 16000000 in
theorem K_X13_makeTree {n1 : Int} {ρ : Int → Int → Int → Int} {σ : S0} (hT : m_T σ) (p1 : y_TC ρ σ) (p2 : (σ.1 51) ≤ 47000) (p3 : (σ.1 52) ≤ 88000) (p4 : y_c0 σ n1 0 (σ.1 45)) (p5 : ∀ k : Int, 0 ≤ k → k < (σ.1 45) → ¬ σ.2.1 73 k = -1 → 0 ≤ σ.2.1 74 k) : W_X13_makeTree n1 σ (fun (x : Int) (τ : S0) => (m_T τ) ∧ (x = (σ.1 51)) ∧ ((σ.1 51) < (τ.1 51) ∧ (τ.1 51) ≤ (σ.1 51) + 11700) ∧ ((σ.1 52) ≤ (τ.1 52) ∧ (τ.1 52) ≤ (σ.1 52) + 11700) ∧ (∀ y : Int, y < (σ.1 51) → (τ.2.1 86 y = σ.2.1 86 y ∧ τ.2.1 87 y = σ.2.1 87 y) ∧ τ.2.1 88 y = σ.2.1 88 y ∧ τ.2.1 89 y = σ.2.1 89 y ∧ τ.2.1 90 y = σ.2.1 90 y) ∧ (∀ e : Int, e < (σ.1 52) → τ.2.1 91 e = σ.2.1 91 e) ∧ (∀ y : Int, (σ.1 51) ≤ y → y < (τ.1 51) → y_c0 σ (τ.2.1 90 y) (τ.2.1 88 y) (τ.2.1 89 y)) ∧ (∀ y : Int, (σ.1 51) ≤ y → y < (τ.1 51) → y_nd σ (τ.2.1 86) (τ.2.1 87) (τ.2.1 91) (τ.2.1 88) (τ.2.1 89) (τ.2.1 90) y (y + 1) (τ.1 51) (τ.1 52)) ∧ (τ.2.1 90 (σ.1 51) = n1 ∧ τ.2.1 88 (σ.1 51) = 0 ∧ τ.2.1 89 (σ.1 51) = (σ.1 45))) := by
  have A8 : ∀ j, 0 ≤ σ.2.1 8 j ∧ σ.2.1 8 j ≤ 1 := fun j => hT.2 8 j
  have A10 : ∀ j, (-1) ≤ σ.2.1 10 j ∧ σ.2.1 10 j ≤ 999 := fun j => hT.2 10 j
  have A13 : ∀ j, 0 ≤ σ.2.1 13 j ∧ σ.2.1 13 j ≤ 4 := fun j => hT.2 13 j
  have A14 : ∀ j, 0 ≤ σ.2.1 14 j ∧ σ.2.1 14 j ≤ 30000 := fun j => hT.2 14 j
  have A15 : ∀ j, 0 ≤ σ.2.1 15 j ∧ σ.2.1 15 j ≤ 300 := fun j => hT.2 15 j
  have A16 : ∀ j, 0 ≤ σ.2.1 16 j ∧ σ.2.1 16 j ≤ 999 := fun j => hT.2 16 j
  have A18 : ∀ j, 0 ≤ σ.2.1 18 j ∧ σ.2.1 18 j ≤ 90000 := fun j => hT.2 18 j
  have A19 : ∀ j, 0 ≤ σ.2.1 19 j ∧ σ.2.1 19 j ≤ 60 := fun j => hT.2 19 j
  have A20 : ∀ j, 0 ≤ σ.2.1 20 j ∧ σ.2.1 20 j ≤ 1499 := fun j => hT.2 20 j
  have A71 : ∀ j, (-1) ≤ σ.2.1 71 j ∧ σ.2.1 71 j ≤ 99 := fun j => hT.2 71 j
  have A72 : ∀ j, 0 ≤ σ.2.1 72 j ∧ σ.2.1 72 j ≤ 999 := fun j => hT.2 72 j
  have A73 : ∀ j, (-1) ≤ σ.2.1 73 j ∧ σ.2.1 73 j ≤ 99 := fun j => hT.2 73 j
  have A74 : ∀ j, (-1) ≤ σ.2.1 74 j ∧ σ.2.1 74 j ≤ 1499 := fun j => hT.2 74 j
  have A75 : ∀ j, 0 ≤ σ.2.1 75 j ∧ σ.2.1 75 j ≤ 3 := fun j => hT.2 75 j
  have A86 : ∀ j, (-1500) ≤ σ.2.1 86 j ∧ σ.2.1 86 j ≤ 1499 := fun j => hT.2 86 j
  have A87 : ∀ j, 0 ≤ σ.2.1 87 j ∧ σ.2.1 87 j ≤ 120000 := fun j => hT.2 87 j
  have A88 : ∀ j, 0 ≤ σ.2.1 88 j ∧ σ.2.1 88 j ≤ 59 := fun j => hT.2 88 j
  have A89 : ∀ j, 0 ≤ σ.2.1 89 j ∧ σ.2.1 89 j ≤ 59 := fun j => hT.2 89 j
  have A90 : ∀ j, (-1) ≤ σ.2.1 90 j ∧ σ.2.1 90 j ≤ 99 := fun j => hT.2 90 j
  have A91 : ∀ j, 0 ≤ σ.2.1 91 j ∧ σ.2.1 91 j ≤ 60000 := fun j => hT.2 91 j
  have v3 : 0 ≤ σ.1 3 ∧ σ.1 3 ≤ 1000 := hT.1 3
  have v5 : 0 ≤ σ.1 5 ∧ σ.1 5 ≤ 1500 := hT.1 5
  have v11 : (-1) ≤ σ.1 11 ∧ σ.1 11 ≤ 999 := hT.1 11
  have v45 : 0 ≤ σ.1 45 ∧ σ.1 45 ≤ 59 := hT.1 45
  have v46 : 0 ≤ σ.1 46 ∧ σ.1 46 ≤ 100 := hT.1 46
  have v50 : 0 ≤ σ.1 50 ∧ σ.1 50 ≤ 1500 := hT.1 50
  have v51 : 0 ≤ σ.1 51 ∧ σ.1 51 ≤ 60000 := hT.1 51
  have v52 : 0 ≤ σ.1 52 ∧ σ.1 52 ≤ 120000 := hT.1 52
  have a88_51 : 0 ≤ σ.2.1 88 (σ.1 51) ∧ σ.2.1 88 (σ.1 51) ≤ 59 := hT.2 88 _
  have a89_51 : 0 ≤ σ.2.1 89 (σ.1 51) ∧ σ.2.1 89 (σ.1 51) ≤ 59 := hT.2 89 _
  have a90_51 : (-1) ≤ σ.2.1 90 (σ.1 51) ∧ σ.2.1 90 (σ.1 51) ≤ 99 := hT.2 90 _
  have W3 : σ.1 3 = σ.1 3 := rfl
  have W5 : σ.1 5 = σ.1 5 := rfl
  have W11 : σ.1 11 = σ.1 11 := rfl
  have W45 : σ.1 45 = σ.1 45 := rfl
  have W46 : σ.1 46 = σ.1 46 := rfl
  have W50 : σ.1 50 = σ.1 50 := rfl
  have G8 : σ.2.1 8 = σ.2.1 8 := rfl
  have G10 : σ.2.1 10 = σ.2.1 10 := rfl
  have G13 : σ.2.1 13 = σ.2.1 13 := rfl
  have G14 : σ.2.1 14 = σ.2.1 14 := rfl
  have G15 : σ.2.1 15 = σ.2.1 15 := rfl
  have G16 : σ.2.1 16 = σ.2.1 16 := rfl
  have G18 : σ.2.1 18 = σ.2.1 18 := rfl
  have G19 : σ.2.1 19 = σ.2.1 19 := rfl
  have G20 : σ.2.1 20 = σ.2.1 20 := rfl
  have G71 : σ.2.1 71 = σ.2.1 71 := rfl
  have G72 : σ.2.1 72 = σ.2.1 72 := rfl
  have G73 : σ.2.1 73 = σ.2.1 73 := rfl
  have G74 : σ.2.1 74 = σ.2.1 74 := rfl
  have G75 : σ.2.1 75 = σ.2.1 75 := rfl
  intro P13 h13
  have WB := y_wt_b p1 p4
  have l45 := v45
  have t4 := p4.2
  have p4s := p4
  obtain ⟨tt, tc, tw, tv⟩ := t4
  have soS := y_soS p1.1.1.2.2.1
  have st0 := soS tt tw.1.1 tw.1.2.1 tw.1.2.2
  have l46 := (hT.1 46)
  have l46 : σ.1 46 ≤ 100 := l46.2
  have l_13 : ∀ (m_13 : Nat) (u2_13 : Int) (u3_13 : Int) (τ_13 : S0), 60001 - u3_13 < (m_13 : Int) → (m_T τ_13) → (τ_13.1 3 = σ.1 3) → (τ_13.1 5 = σ.1 5) → (τ_13.1 11 = σ.1 11) → (τ_13.1 45 = σ.1 45) → (τ_13.1 46 = σ.1 46) → (τ_13.1 50 = σ.1 50) → (τ_13.2.1 8 = σ.2.1 8) → (τ_13.2.1 10 = σ.2.1 10) → (τ_13.2.1 13 = σ.2.1 13) → (τ_13.2.1 14 = σ.2.1 14) → (τ_13.2.1 15 = σ.2.1 15) → (τ_13.2.1 16 = σ.2.1 16) → (τ_13.2.1 18 = σ.2.1 18) → (τ_13.2.1 19 = σ.2.1 19) → (τ_13.2.1 20 = σ.2.1 20) → (τ_13.2.1 71 = σ.2.1 71) → (τ_13.2.1 72 = σ.2.1 72) → (τ_13.2.1 73 = σ.2.1 73) → (τ_13.2.1 74 = σ.2.1 74) → (τ_13.2.1 75 = σ.2.1 75) → (u2_13 = (σ.1 51)) → ((σ.1 51) ≤ u3_13 ∧ u3_13 ≤ (τ_13.1 51) ∧ (σ.1 51) < (τ_13.1 51)) → (y_TC ρ τ_13) → (∀ y : Int, y < (σ.1 51) → (τ_13.2.1 86 y = σ.2.1 86 y ∧ τ_13.2.1 87 y = σ.2.1 87 y) ∧ τ_13.2.1 88 y = σ.2.1 88 y ∧ τ_13.2.1 89 y = σ.2.1 89 y ∧ τ_13.2.1 90 y = σ.2.1 90 y) → (∀ e : Int, e < (σ.1 52) → τ_13.2.1 91 e = σ.2.1 91 e) → (∀ y : Int, (σ.1 51) ≤ y → y < (τ_13.1 51) → y_c0 σ (τ_13.2.1 90 y) (τ_13.2.1 88 y) (τ_13.2.1 89 y)) → (∀ y : Int, (σ.1 51) ≤ y → y < u3_13 → y_nd σ (τ_13.2.1 86) (τ_13.2.1 87) (τ_13.2.1 91) (τ_13.2.1 88) (τ_13.2.1 89) (τ_13.2.1 90) y (y + 1) (τ_13.1 51) (τ_13.1 52)) → ((σ.1 52) ≤ (τ_13.1 52) ∧ (τ_13.1 52) - (σ.1 52) ≤ (τ_13.1 51) - (σ.1 51) - 1) → (sm (y_ws ρ σ u3_13 (τ_13.2.1 90) (τ_13.2.1 88) (τ_13.2.1 89)) ((τ_13.1 51) - u3_13) + (u3_13 - (σ.1 51)) ≤ 11700) → (τ_13.2.1 90 (σ.1 51) = n1 ∧ τ_13.2.1 88 (σ.1 51) = 0 ∧ τ_13.2.1 89 (σ.1 51) = (σ.1 45)) → P13 u2_13 u3_13 τ_13 := by
    intro m_13
    induction m_13 with
    | zero =>
      intro u2_13 u3_13 τ_13 hm hT W3 W5 W11 W45 W46 W50 G8 G10 G13 G14 G15 G16 G18 G19 G20 G71 G72 G73 G74 G75 i13_1 i13_2 i13_3 i13_4 i13_5 i13_6 i13_7 i13_8 i13_9 i13_10
      have A8 : ∀ j, 0 ≤ τ_13.2.1 8 j ∧ τ_13.2.1 8 j ≤ 1 := fun j => hT.2 8 j
      have A10 : ∀ j, (-1) ≤ τ_13.2.1 10 j ∧ τ_13.2.1 10 j ≤ 999 := fun j => hT.2 10 j
      have A13 : ∀ j, 0 ≤ τ_13.2.1 13 j ∧ τ_13.2.1 13 j ≤ 4 := fun j => hT.2 13 j
      have A14 : ∀ j, 0 ≤ τ_13.2.1 14 j ∧ τ_13.2.1 14 j ≤ 30000 := fun j => hT.2 14 j
      have A15 : ∀ j, 0 ≤ τ_13.2.1 15 j ∧ τ_13.2.1 15 j ≤ 300 := fun j => hT.2 15 j
      have A16 : ∀ j, 0 ≤ τ_13.2.1 16 j ∧ τ_13.2.1 16 j ≤ 999 := fun j => hT.2 16 j
      have A18 : ∀ j, 0 ≤ τ_13.2.1 18 j ∧ τ_13.2.1 18 j ≤ 90000 := fun j => hT.2 18 j
      have A19 : ∀ j, 0 ≤ τ_13.2.1 19 j ∧ τ_13.2.1 19 j ≤ 60 := fun j => hT.2 19 j
      have A20 : ∀ j, 0 ≤ τ_13.2.1 20 j ∧ τ_13.2.1 20 j ≤ 1499 := fun j => hT.2 20 j
      have A71 : ∀ j, (-1) ≤ τ_13.2.1 71 j ∧ τ_13.2.1 71 j ≤ 99 := fun j => hT.2 71 j
      have A72 : ∀ j, 0 ≤ τ_13.2.1 72 j ∧ τ_13.2.1 72 j ≤ 999 := fun j => hT.2 72 j
      have A73 : ∀ j, (-1) ≤ τ_13.2.1 73 j ∧ τ_13.2.1 73 j ≤ 99 := fun j => hT.2 73 j
      have A74 : ∀ j, (-1) ≤ τ_13.2.1 74 j ∧ τ_13.2.1 74 j ≤ 1499 := fun j => hT.2 74 j
      have A75 : ∀ j, 0 ≤ τ_13.2.1 75 j ∧ τ_13.2.1 75 j ≤ 3 := fun j => hT.2 75 j
      have A86 : ∀ j, (-1500) ≤ τ_13.2.1 86 j ∧ τ_13.2.1 86 j ≤ 1499 := fun j => hT.2 86 j
      have A87 : ∀ j, 0 ≤ τ_13.2.1 87 j ∧ τ_13.2.1 87 j ≤ 120000 := fun j => hT.2 87 j
      have A88 : ∀ j, 0 ≤ τ_13.2.1 88 j ∧ τ_13.2.1 88 j ≤ 59 := fun j => hT.2 88 j
      have A89 : ∀ j, 0 ≤ τ_13.2.1 89 j ∧ τ_13.2.1 89 j ≤ 59 := fun j => hT.2 89 j
      have A90 : ∀ j, (-1) ≤ τ_13.2.1 90 j ∧ τ_13.2.1 90 j ≤ 99 := fun j => hT.2 90 j
      have A91 : ∀ j, 0 ≤ τ_13.2.1 91 j ∧ τ_13.2.1 91 j ≤ 60000 := fun j => hT.2 91 j
      have v3 : 0 ≤ τ_13.1 3 ∧ τ_13.1 3 ≤ 1000 := hT.1 3
      have v5 : 0 ≤ τ_13.1 5 ∧ τ_13.1 5 ≤ 1500 := hT.1 5
      have v11 : (-1) ≤ τ_13.1 11 ∧ τ_13.1 11 ≤ 999 := hT.1 11
      have v45 : 0 ≤ τ_13.1 45 ∧ τ_13.1 45 ≤ 59 := hT.1 45
      have v46 : 0 ≤ τ_13.1 46 ∧ τ_13.1 46 ≤ 100 := hT.1 46
      have v50 : 0 ≤ τ_13.1 50 ∧ τ_13.1 50 ≤ 1500 := hT.1 50
      have v51 : 0 ≤ τ_13.1 51 ∧ τ_13.1 51 ≤ 60000 := hT.1 51
      have v52 : 0 ≤ τ_13.1 52 ∧ τ_13.1 52 ≤ 120000 := hT.1 52
      have a88_51 : 0 ≤ τ_13.2.1 88 (τ_13.1 51) ∧ τ_13.2.1 88 (τ_13.1 51) ≤ 59 := hT.2 88 _
      have a89_51 : 0 ≤ τ_13.2.1 89 (τ_13.1 51) ∧ τ_13.2.1 89 (τ_13.1 51) ≤ 59 := hT.2 89 _
      have a90_51 : (-1) ≤ τ_13.2.1 90 (τ_13.1 51) ∧ τ_13.2.1 90 (τ_13.1 51) ≤ 99 := hT.2 90 _
      exfalso; (first | omega | (simp only [st_s] <;> omega) | assumption | omega | fail)
    | succ m_13 ih_13 =>
      intro u2_13 u3_13 τ_13 hm_13 hT W3 W5 W11 W45 W46 W50 G8 G10 G13 G14 G15 G16 G18 G19 G20 G71 G72 G73 G74 G75 i13_1 i13_2 i13_3 i13_4 i13_5 i13_6 i13_7 i13_8 i13_9 i13_10
      have A8 : ∀ j, 0 ≤ τ_13.2.1 8 j ∧ τ_13.2.1 8 j ≤ 1 := fun j => hT.2 8 j
      have A10 : ∀ j, (-1) ≤ τ_13.2.1 10 j ∧ τ_13.2.1 10 j ≤ 999 := fun j => hT.2 10 j
      have A13 : ∀ j, 0 ≤ τ_13.2.1 13 j ∧ τ_13.2.1 13 j ≤ 4 := fun j => hT.2 13 j
      have A14 : ∀ j, 0 ≤ τ_13.2.1 14 j ∧ τ_13.2.1 14 j ≤ 30000 := fun j => hT.2 14 j
      have A15 : ∀ j, 0 ≤ τ_13.2.1 15 j ∧ τ_13.2.1 15 j ≤ 300 := fun j => hT.2 15 j
      have A16 : ∀ j, 0 ≤ τ_13.2.1 16 j ∧ τ_13.2.1 16 j ≤ 999 := fun j => hT.2 16 j
      have A18 : ∀ j, 0 ≤ τ_13.2.1 18 j ∧ τ_13.2.1 18 j ≤ 90000 := fun j => hT.2 18 j
      have A19 : ∀ j, 0 ≤ τ_13.2.1 19 j ∧ τ_13.2.1 19 j ≤ 60 := fun j => hT.2 19 j
      have A20 : ∀ j, 0 ≤ τ_13.2.1 20 j ∧ τ_13.2.1 20 j ≤ 1499 := fun j => hT.2 20 j
      have A71 : ∀ j, (-1) ≤ τ_13.2.1 71 j ∧ τ_13.2.1 71 j ≤ 99 := fun j => hT.2 71 j
      have A72 : ∀ j, 0 ≤ τ_13.2.1 72 j ∧ τ_13.2.1 72 j ≤ 999 := fun j => hT.2 72 j
      have A73 : ∀ j, (-1) ≤ τ_13.2.1 73 j ∧ τ_13.2.1 73 j ≤ 99 := fun j => hT.2 73 j
      have A74 : ∀ j, (-1) ≤ τ_13.2.1 74 j ∧ τ_13.2.1 74 j ≤ 1499 := fun j => hT.2 74 j
      have A75 : ∀ j, 0 ≤ τ_13.2.1 75 j ∧ τ_13.2.1 75 j ≤ 3 := fun j => hT.2 75 j
      have A86 : ∀ j, (-1500) ≤ τ_13.2.1 86 j ∧ τ_13.2.1 86 j ≤ 1499 := fun j => hT.2 86 j
      have A87 : ∀ j, 0 ≤ τ_13.2.1 87 j ∧ τ_13.2.1 87 j ≤ 120000 := fun j => hT.2 87 j
      have A88 : ∀ j, 0 ≤ τ_13.2.1 88 j ∧ τ_13.2.1 88 j ≤ 59 := fun j => hT.2 88 j
      have A89 : ∀ j, 0 ≤ τ_13.2.1 89 j ∧ τ_13.2.1 89 j ≤ 59 := fun j => hT.2 89 j
      have A90 : ∀ j, (-1) ≤ τ_13.2.1 90 j ∧ τ_13.2.1 90 j ≤ 99 := fun j => hT.2 90 j
      have A91 : ∀ j, 0 ≤ τ_13.2.1 91 j ∧ τ_13.2.1 91 j ≤ 60000 := fun j => hT.2 91 j
      have v3 : 0 ≤ τ_13.1 3 ∧ τ_13.1 3 ≤ 1000 := hT.1 3
      have v5 : 0 ≤ τ_13.1 5 ∧ τ_13.1 5 ≤ 1500 := hT.1 5
      have v11 : (-1) ≤ τ_13.1 11 ∧ τ_13.1 11 ≤ 999 := hT.1 11
      have v45 : 0 ≤ τ_13.1 45 ∧ τ_13.1 45 ≤ 59 := hT.1 45
      have v46 : 0 ≤ τ_13.1 46 ∧ τ_13.1 46 ≤ 100 := hT.1 46
      have v50 : 0 ≤ τ_13.1 50 ∧ τ_13.1 50 ≤ 1500 := hT.1 50
      have v51 : 0 ≤ τ_13.1 51 ∧ τ_13.1 51 ≤ 60000 := hT.1 51
      have v52 : 0 ≤ τ_13.1 52 ∧ τ_13.1 52 ≤ 120000 := hT.1 52
      have a88_51 : 0 ≤ τ_13.2.1 88 (τ_13.1 51) ∧ τ_13.2.1 88 (τ_13.1 51) ≤ 59 := hT.2 88 _
      have a89_51 : 0 ≤ τ_13.2.1 89 (τ_13.1 51) ∧ τ_13.2.1 89 (τ_13.1 51) ≤ 59 := hT.2 89 _
      have a90_51 : (-1) ≤ τ_13.2.1 90 (τ_13.1 51) ∧ τ_13.2.1 90 (τ_13.1 51) ≤ 99 := hT.2 90 _
      have TD : y_TD σ τ_13 := ⟨⟨W11, G8, G10, G13, G14, G15, G16, G18, G19, G20⟩, W3, W45, W50, G71, G72, G73, G74, G75⟩
      obtain ⟨td1, td2, td3, td4⟩ := y_TD_e TD ρ
      have wn := y_ws_n (ρ := ρ) (σ := σ) (lo := u3_13) (hi := τ_13.1 51) (ns := τ_13.2.1 90) (nf := τ_13.2.1 88) (nt := τ_13.2.1 89) (by omega) (fun y a b => by (have c := i13_6 y (by omega) b; have w := y_wt_b p1 c; have v := c.1; omega))
      refine h13 u2_13 u3_13 τ_13 ?_
      refine ⟨fun c4 => ?_, fun c4 => ?_⟩
      ·
        exact ⟨hT, (show u2_13 = (σ.1 51) from by (first | omega | (simp only [st_s] <;> omega) | assumption | omega | fail)), (show (σ.1 51) < (τ_13.1 51) ∧ (τ_13.1 51) ≤ (σ.1 51) + 11700 from by (first | omega | (simp only [st_s] <;> omega) | assumption | omega | fail)), (show (σ.1 52) ≤ (τ_13.1 52) ∧ (τ_13.1 52) ≤ (σ.1 52) + 11700 from by (first | omega | (simp only [st_s] <;> omega) | assumption | omega | fail)), (show ∀ y : Int, y < (σ.1 51) → (τ_13.2.1 86 y = σ.2.1 86 y ∧ τ_13.2.1 87 y = σ.2.1 87 y) ∧ τ_13.2.1 88 y = σ.2.1 88 y ∧ τ_13.2.1 89 y = σ.2.1 89 y ∧ τ_13.2.1 90 y = σ.2.1 90 y from by exact i13_4), (show ∀ e : Int, e < (σ.1 52) → τ_13.2.1 91 e = σ.2.1 91 e from by exact i13_5), (show ∀ y : Int, (σ.1 51) ≤ y → y < (τ_13.1 51) → y_c0 σ (τ_13.2.1 90 y) (τ_13.2.1 88 y) (τ_13.2.1 89 y) from by exact i13_6), (show ∀ y : Int, (σ.1 51) ≤ y → y < (τ_13.1 51) → y_nd σ (τ_13.2.1 86) (τ_13.2.1 87) (τ_13.2.1 91) (τ_13.2.1 88) (τ_13.2.1 89) (τ_13.2.1 90) y (y + 1) (τ_13.1 51) (τ_13.1 52) from by (intro y a b; exact i13_7 y a (by omega))), (show τ_13.2.1 90 (σ.1 51) = n1 ∧ τ_13.2.1 88 (σ.1 51) = 0 ∧ τ_13.2.1 89 (σ.1 51) = (σ.1 45) from by exact i13_10)⟩
      ·
        have H73 := G73
        have H74 := G74
        have H45 := W45
        refine ⟨_, K_X13_lookAt hT (show 0 ≤ u3_13 from by (first | omega | (simp only [st_s] <;> omega) | assumption | omega | fail)) (show u3_13 < (τ_13.1 51) from by (first | omega | (simp only [st_s] <;> omega) | assumption | omega | fail)) (show y_TC ρ τ_13 from by exact i13_3) (show y_c0 τ_13 (τ_13.2.1 90 u3_13) (τ_13.2.1 88 u3_13) (τ_13.2.1 89 u3_13) from by (rw [td1]; exact i13_6 u3_13 i13_2.1 (by omega))) (show (τ_13.1 51) ≤ 59000 from by (first | omega | (simp only [st_s] <;> omega) | assumption | omega | fail)) (show (τ_13.1 52) ≤ 100000 from by (first | omega | (simp only [st_s] <;> omega) | assumption | omega | fail)) (show ∀ k : Int, 0 ≤ k → k < (τ_13.1 45) → ¬ τ_13.2.1 73 k = -1 → 0 ≤ τ_13.2.1 74 k from by (rw [W45, G73, G74]; exact p5)), ?_⟩
        intro τ7 hn_τ7 hf_τ7 hq
        obtain ⟨hT, q5_1, q5_2, q5_3, q5_4, q5_5, q5_6, q5_7, q5_8⟩ := hq
        replace q5_1 : ∀ y : Int, y ≠ u3_13 → τ7.2.1 86 y = τ_13.2.1 86 y ∧ τ7.2.1 87 y = τ_13.2.1 87 y := q5_1
        replace q5_2 : (τ_13.1 51) ≤ (τ7.1 51) := q5_2
        replace q5_3 : (τ_13.1 52) ≤ (τ7.1 52) ∧ (τ7.1 52) - (τ_13.1 52) ≤ (τ7.1 51) - (τ_13.1 51) := q5_3
        replace q5_4 : ∀ y : Int, y < (τ_13.1 51) → τ7.2.1 88 y = τ_13.2.1 88 y ∧ τ7.2.1 89 y = τ_13.2.1 89 y ∧ τ7.2.1 90 y = τ_13.2.1 90 y := q5_4
        replace q5_5 : ∀ e : Int, e < (τ_13.1 52) → τ7.2.1 91 e = τ_13.2.1 91 e := q5_5
        replace q5_6 : ∀ y : Int, (τ_13.1 51) ≤ y → y < (τ7.1 51) → y_c0 τ_13 (τ7.2.1 90 y) (τ7.2.1 88 y) (τ7.2.1 89 y) := q5_6
        replace q5_7 : y_nd τ_13 (τ7.2.1 86) (τ7.2.1 87) (τ7.2.1 91) (τ7.2.1 88) (τ7.2.1 89) (τ7.2.1 90) u3_13 (τ_13.1 51) (τ7.1 51) (τ7.1 52) := q5_7
        replace q5_8 : sm (y_ws ρ τ_13 (τ_13.1 51) (τ7.2.1 90) (τ7.2.1 88) (τ7.2.1 89)) ((τ7.1 51) - (τ_13.1 51)) + 1 ≤ y_wt ρ τ_13 (τ_13.2.1 90 u3_13) (τ_13.2.1 88 u3_13) (τ_13.2.1 89 u3_13) := q5_8
        have w3_τ7 : τ7.1 3 = τ_13.1 3 := hf_τ7.1 3 (by decide)
        have w5_τ7 : τ7.1 5 = τ_13.1 5 := hf_τ7.1 5 (by decide)
        have w11_τ7 : τ7.1 11 = τ_13.1 11 := hf_τ7.1 11 (by decide)
        have w45_τ7 : τ7.1 45 = τ_13.1 45 := hf_τ7.1 45 (by decide)
        have w46_τ7 : τ7.1 46 = τ_13.1 46 := hf_τ7.1 46 (by decide)
        have w50_τ7 : τ7.1 50 = τ_13.1 50 := hf_τ7.1 50 (by decide)
        have g8_τ7 : τ7.2.1 8 = τ_13.2.1 8 := hf_τ7.2.1 8 (by decide)
        have g10_τ7 : τ7.2.1 10 = τ_13.2.1 10 := hf_τ7.2.1 10 (by decide)
        have g13_τ7 : τ7.2.1 13 = τ_13.2.1 13 := hf_τ7.2.1 13 (by decide)
        have g14_τ7 : τ7.2.1 14 = τ_13.2.1 14 := hf_τ7.2.1 14 (by decide)
        have g15_τ7 : τ7.2.1 15 = τ_13.2.1 15 := hf_τ7.2.1 15 (by decide)
        have g16_τ7 : τ7.2.1 16 = τ_13.2.1 16 := hf_τ7.2.1 16 (by decide)
        have g18_τ7 : τ7.2.1 18 = τ_13.2.1 18 := hf_τ7.2.1 18 (by decide)
        have g19_τ7 : τ7.2.1 19 = τ_13.2.1 19 := hf_τ7.2.1 19 (by decide)
        have g20_τ7 : τ7.2.1 20 = τ_13.2.1 20 := hf_τ7.2.1 20 (by decide)
        have g71_τ7 : τ7.2.1 71 = τ_13.2.1 71 := hf_τ7.2.1 71 (by decide)
        have g72_τ7 : τ7.2.1 72 = τ_13.2.1 72 := hf_τ7.2.1 72 (by decide)
        have g73_τ7 : τ7.2.1 73 = τ_13.2.1 73 := hf_τ7.2.1 73 (by decide)
        have g74_τ7 : τ7.2.1 74 = τ_13.2.1 74 := hf_τ7.2.1 74 (by decide)
        have g75_τ7 : τ7.2.1 75 = τ_13.2.1 75 := hf_τ7.2.1 75 (by decide)
        have W3 : τ7.1 3 = σ.1 3 := by first | exact w3_τ7.trans W3 | omega
        have W5 : τ7.1 5 = σ.1 5 := by first | exact w5_τ7.trans W5 | omega
        have W11 : τ7.1 11 = σ.1 11 := by first | exact w11_τ7.trans W11 | omega
        have W45 : τ7.1 45 = σ.1 45 := by first | exact w45_τ7.trans W45 | omega
        have W46 : τ7.1 46 = σ.1 46 := by first | exact w46_τ7.trans W46 | omega
        have W50 : τ7.1 50 = σ.1 50 := by first | exact w50_τ7.trans W50 | omega
        have G8 : τ7.2.1 8 = σ.2.1 8 := (g8_τ7).trans G8
        have G10 : τ7.2.1 10 = σ.2.1 10 := (g10_τ7).trans G10
        have G13 : τ7.2.1 13 = σ.2.1 13 := (g13_τ7).trans G13
        have G14 : τ7.2.1 14 = σ.2.1 14 := (g14_τ7).trans G14
        have G15 : τ7.2.1 15 = σ.2.1 15 := (g15_τ7).trans G15
        have G16 : τ7.2.1 16 = σ.2.1 16 := (g16_τ7).trans G16
        have G18 : τ7.2.1 18 = σ.2.1 18 := (g18_τ7).trans G18
        have G19 : τ7.2.1 19 = σ.2.1 19 := (g19_τ7).trans G19
        have G20 : τ7.2.1 20 = σ.2.1 20 := (g20_τ7).trans G20
        have G71 : τ7.2.1 71 = σ.2.1 71 := (g71_τ7).trans G71
        have G72 : τ7.2.1 72 = σ.2.1 72 := (g72_τ7).trans G72
        have G73 : τ7.2.1 73 = σ.2.1 73 := (g73_τ7).trans G73
        have G74 : τ7.2.1 74 = σ.2.1 74 := (g74_τ7).trans G74
        have G75 : τ7.2.1 75 = σ.2.1 75 := (g75_τ7).trans G75
        have A8 : ∀ j, 0 ≤ τ7.2.1 8 j ∧ τ7.2.1 8 j ≤ 1 := fun j => hT.2 8 j
        have A10 : ∀ j, (-1) ≤ τ7.2.1 10 j ∧ τ7.2.1 10 j ≤ 999 := fun j => hT.2 10 j
        have A13 : ∀ j, 0 ≤ τ7.2.1 13 j ∧ τ7.2.1 13 j ≤ 4 := fun j => hT.2 13 j
        have A14 : ∀ j, 0 ≤ τ7.2.1 14 j ∧ τ7.2.1 14 j ≤ 30000 := fun j => hT.2 14 j
        have A15 : ∀ j, 0 ≤ τ7.2.1 15 j ∧ τ7.2.1 15 j ≤ 300 := fun j => hT.2 15 j
        have A16 : ∀ j, 0 ≤ τ7.2.1 16 j ∧ τ7.2.1 16 j ≤ 999 := fun j => hT.2 16 j
        have A18 : ∀ j, 0 ≤ τ7.2.1 18 j ∧ τ7.2.1 18 j ≤ 90000 := fun j => hT.2 18 j
        have A19 : ∀ j, 0 ≤ τ7.2.1 19 j ∧ τ7.2.1 19 j ≤ 60 := fun j => hT.2 19 j
        have A20 : ∀ j, 0 ≤ τ7.2.1 20 j ∧ τ7.2.1 20 j ≤ 1499 := fun j => hT.2 20 j
        have A71 : ∀ j, (-1) ≤ τ7.2.1 71 j ∧ τ7.2.1 71 j ≤ 99 := fun j => hT.2 71 j
        have A72 : ∀ j, 0 ≤ τ7.2.1 72 j ∧ τ7.2.1 72 j ≤ 999 := fun j => hT.2 72 j
        have A73 : ∀ j, (-1) ≤ τ7.2.1 73 j ∧ τ7.2.1 73 j ≤ 99 := fun j => hT.2 73 j
        have A74 : ∀ j, (-1) ≤ τ7.2.1 74 j ∧ τ7.2.1 74 j ≤ 1499 := fun j => hT.2 74 j
        have A75 : ∀ j, 0 ≤ τ7.2.1 75 j ∧ τ7.2.1 75 j ≤ 3 := fun j => hT.2 75 j
        have A86 : ∀ j, (-1500) ≤ τ7.2.1 86 j ∧ τ7.2.1 86 j ≤ 1499 := fun j => hT.2 86 j
        have A87 : ∀ j, 0 ≤ τ7.2.1 87 j ∧ τ7.2.1 87 j ≤ 120000 := fun j => hT.2 87 j
        have A88 : ∀ j, 0 ≤ τ7.2.1 88 j ∧ τ7.2.1 88 j ≤ 59 := fun j => hT.2 88 j
        have A89 : ∀ j, 0 ≤ τ7.2.1 89 j ∧ τ7.2.1 89 j ≤ 59 := fun j => hT.2 89 j
        have A90 : ∀ j, (-1) ≤ τ7.2.1 90 j ∧ τ7.2.1 90 j ≤ 99 := fun j => hT.2 90 j
        have A91 : ∀ j, 0 ≤ τ7.2.1 91 j ∧ τ7.2.1 91 j ≤ 60000 := fun j => hT.2 91 j
        have v3 : 0 ≤ τ7.1 3 ∧ τ7.1 3 ≤ 1000 := hT.1 3
        have v5 : 0 ≤ τ7.1 5 ∧ τ7.1 5 ≤ 1500 := hT.1 5
        have v11 : (-1) ≤ τ7.1 11 ∧ τ7.1 11 ≤ 999 := hT.1 11
        have v45 : 0 ≤ τ7.1 45 ∧ τ7.1 45 ≤ 59 := hT.1 45
        have v46 : 0 ≤ τ7.1 46 ∧ τ7.1 46 ≤ 100 := hT.1 46
        have v50 : 0 ≤ τ7.1 50 ∧ τ7.1 50 ≤ 1500 := hT.1 50
        have v51 : 0 ≤ τ7.1 51 ∧ τ7.1 51 ≤ 60000 := hT.1 51
        have v52 : 0 ≤ τ7.1 52 ∧ τ7.1 52 ≤ 120000 := hT.1 52
        have a88_51 : 0 ≤ τ7.2.1 88 (τ7.1 51) ∧ τ7.2.1 88 (τ7.1 51) ≤ 59 := hT.2 88 _
        have a89_51 : 0 ≤ τ7.2.1 89 (τ7.1 51) ∧ τ7.2.1 89 (τ7.1 51) ≤ 59 := hT.2 89 _
        have a90_51 : (-1) ≤ τ7.2.1 90 (τ7.1 51) ∧ τ7.2.1 90 (τ7.1 51) ≤ 99 := hT.2 90 _
        have tc7 : y_TC ρ τ7 := y_TC_h i13_3 hf_τ7 rfl rfl (n_J_hh i13_3.2.2.2.1 hf_τ7 rfl rfl) (m_J_f i13_3.2.2.2.2 hf_τ7 rfl rfl)
        rw [td1] at q5_6
        rw [td3] at q5_7
        rw [td4, td2] at q5_8
        have wc := y_ws_c (ρ := ρ) (σ := σ) (lo := u3_13) (hi := τ_13.1 51) (hi' := τ7.1 51) (ns := τ_13.2.1 90) (nf := τ_13.2.1 88) (nt := τ_13.2.1 89) (ns' := τ7.2.1 90) (nf' := τ7.2.1 88) (nt' := τ7.2.1 89) (by omega) q5_2 (fun y a => ⟨(q5_4 y a).1, (q5_4 y a).2.1, (q5_4 y a).2.2⟩)
        refine ⟨(⟨by (first | omega | (simp only [st_s] <;> omega) | assumption | omega | fail), by (first | omega | (simp only [st_s] <;> omega) | assumption | omega | fail)⟩ : rg (u3_13 + 1)), ?_⟩
        exact ih_13 _ _ _ (show (60001 - (u3_13 + 1) : Int) < ((m_13 : Nat) : Int) from by ((first | omega | (simp only [st_s] <;> omega) | assumption | omega | fail))) hT (show τ7.1 3 = σ.1 3 from by first | exact W3 | omega) (show τ7.1 5 = σ.1 5 from by first | exact W5 | omega) (show τ7.1 11 = σ.1 11 from by first | exact W11 | omega) (show τ7.1 45 = σ.1 45 from by first | exact W45 | omega) (show τ7.1 46 = σ.1 46 from by first | exact W46 | omega) (show τ7.1 50 = σ.1 50 from by first | exact W50 | omega) G8 G10 G13 G14 G15 G16 G18 G19 G20 G71 G72 G73 G74 G75 (show u2_13 = (σ.1 51) from by (first | omega | (simp only [st_s] <;> omega) | assumption | omega | fail)) (show (σ.1 51) ≤ (u3_13 + 1) ∧ (u3_13 + 1) ≤ (τ7.1 51) ∧ (σ.1 51) < (τ7.1 51) from by (first | omega | (simp only [st_s] <;> omega) | assumption | omega | fail)) (show y_TC ρ τ7 from by (first | exact tc3 | exact tc7 | fail)) (show ∀ y : Int, y < (σ.1 51) → (τ7.2.1 86 y = σ.2.1 86 y ∧ τ7.2.1 87 y = σ.2.1 87 y) ∧ τ7.2.1 88 y = σ.2.1 88 y ∧ τ7.2.1 89 y = σ.2.1 89 y ∧ τ7.2.1 90 y = σ.2.1 90 y from by (first | (intro y a; rw [q1_3, q1_4, q1_5, g86_τ3, g87_τ3, st_n _ _ (by omega), st_n _ _ (by omega), st_n _ _ (by omega)]; exact ⟨⟨rfl, rfl⟩, rfl, rfl, rfl⟩) | (intro y a; have w := i13_4 y a; have v := q5_1 y (by omega); have x := q5_4 y (by omega); rw [v.1, v.2, x.1, x.2.1, x.2.2]; exact w) | fail)) (show ∀ e : Int, e < (σ.1 52) → τ7.2.1 91 e = σ.2.1 91 e from by (first | (intro e a; rw [g91_τ3]) | (intro e a; rw [q5_5 e (by omega)]; exact i13_5 e a) | fail)) (show ∀ y : Int, (σ.1 51) ≤ y → y < (τ7.1 51) → y_c0 σ (τ7.2.1 90 y) (τ7.2.1 88 y) (τ7.2.1 89 y) from by (first | (intro y a b; rw [q1_3, q1_4, q1_5, show y = σ.1 51 from by omega, st_s, st_s, st_s]; exact p4s) | (intro y a b; rcases (by omega : y < τ_13.1 51 ∨ τ_13.1 51 ≤ y) with z | z; (have x := q5_4 y z; rw [x.1, x.2.1, x.2.2]; exact i13_6 y a z); (exact q5_6 y z b)) | fail)) (show ∀ y : Int, (σ.1 51) ≤ y → y < (u3_13 + 1) → y_nd σ (τ7.2.1 86) (τ7.2.1 87) (τ7.2.1 91) (τ7.2.1 88) (τ7.2.1 89) (τ7.2.1 90) y (y + 1) (τ7.1 51) (τ7.1 52) from by (first | (intro y a b; exfalso; omega) | (intro y a b; rcases (by omega : y < u3_13 ∨ y = u3_13) with z | z; (have v := q5_1 y (by omega); have x := q5_4 y (by omega); exact y_nd_k (i13_7 y a z) ⟨v.1, v.2, x.1, x.2.1, x.2.2⟩ q5_5 q5_4 q5_2 (by omega)); (rw [z]; exact y_nd_l q5_7 (by omega))) | fail)) (show (σ.1 52) ≤ (τ7.1 52) ∧ (τ7.1 52) - (σ.1 52) ≤ (τ7.1 51) - (σ.1 51) - 1 from by (first | omega | (simp only [st_s] <;> omega) | assumption | omega | fail)) (show sm (y_ws ρ σ (u3_13 + 1) (τ7.2.1 90) (τ7.2.1 88) (τ7.2.1 89)) ((τ7.1 51) - (u3_13 + 1)) + ((u3_13 + 1) - (σ.1 51)) ≤ 11700 from by (first | (rw [q1_1, q1_2, q1_3, q1_4, q1_5, ws1]; omega) | (rw [wc]; have w := i13_9; omega) | fail)) (show τ7.2.1 90 (σ.1 51) = n1 ∧ τ7.2.1 88 (σ.1 51) = 0 ∧ τ7.2.1 89 (σ.1 51) = (σ.1 45) from by (first | (rw [q1_3, q1_4, q1_5, st_s, st_s, st_s]; exact ⟨rfl, rfl, rfl⟩) | (have x := q5_4 σ.1 51 (by omega); rw [x.1, x.2.1, x.2.2]; exact i13_10) | (have x := q5_4 (σ.1 51) (by omega); rw [x.1, x.2.1, x.2.2]; exact i13_10) | fail))
  refine ⟨_, K_X13_newNode hT (show (σ.1 51) < 60000 from by (first | omega | (simp only [st_s] <;> omega) | assumption | omega | fail)) (show -1 ≤ n1 ∧ n1 ≤ 99 from by (rw [← tc]; have t71 := tw.1.2.2; omega)) (show 0 ≤ (0 : Int) ∧ (0 : Int) ≤ 59 from by (first | omega | (simp only [st_s] <;> omega) | assumption | omega | fail)) (show 0 ≤ (σ.1 45) ∧ (σ.1 45) ≤ 59 from by (first | omega | (simp only [st_s] <;> omega) | assumption | omega | fail)), ?_⟩
  intro x2 τ3 r_x2 hn_τ3 hf_τ3 hq
  obtain ⟨hT, q1_1, q1_2, q1_3, q1_4, q1_5⟩ := hq
  replace q1_1 : x2 = (σ.1 51) := q1_1
  replace q1_2 : (τ3.1 51) = (σ.1 51) + 1 := q1_2
  replace q1_3 : τ3.2.1 90 = st (σ.2.1 90) (σ.1 51) n1 := q1_3
  replace q1_4 : τ3.2.1 88 = st (σ.2.1 88) (σ.1 51) (0 : Int) := q1_4
  replace q1_5 : τ3.2.1 89 = st (σ.2.1 89) (σ.1 51) (σ.1 45) := q1_5
  have w3_τ3 : τ3.1 3 = σ.1 3 := hf_τ3.1 3 (by decide)
  have w5_τ3 : τ3.1 5 = σ.1 5 := hf_τ3.1 5 (by decide)
  have w11_τ3 : τ3.1 11 = σ.1 11 := hf_τ3.1 11 (by decide)
  have w45_τ3 : τ3.1 45 = σ.1 45 := hf_τ3.1 45 (by decide)
  have w46_τ3 : τ3.1 46 = σ.1 46 := hf_τ3.1 46 (by decide)
  have w50_τ3 : τ3.1 50 = σ.1 50 := hf_τ3.1 50 (by decide)
  have w52_τ3 : τ3.1 52 = σ.1 52 := hf_τ3.1 52 (by decide)
  have g8_τ3 : τ3.2.1 8 = σ.2.1 8 := hf_τ3.2.1 8 (by decide)
  have g10_τ3 : τ3.2.1 10 = σ.2.1 10 := hf_τ3.2.1 10 (by decide)
  have g13_τ3 : τ3.2.1 13 = σ.2.1 13 := hf_τ3.2.1 13 (by decide)
  have g14_τ3 : τ3.2.1 14 = σ.2.1 14 := hf_τ3.2.1 14 (by decide)
  have g15_τ3 : τ3.2.1 15 = σ.2.1 15 := hf_τ3.2.1 15 (by decide)
  have g16_τ3 : τ3.2.1 16 = σ.2.1 16 := hf_τ3.2.1 16 (by decide)
  have g18_τ3 : τ3.2.1 18 = σ.2.1 18 := hf_τ3.2.1 18 (by decide)
  have g19_τ3 : τ3.2.1 19 = σ.2.1 19 := hf_τ3.2.1 19 (by decide)
  have g20_τ3 : τ3.2.1 20 = σ.2.1 20 := hf_τ3.2.1 20 (by decide)
  have g71_τ3 : τ3.2.1 71 = σ.2.1 71 := hf_τ3.2.1 71 (by decide)
  have g72_τ3 : τ3.2.1 72 = σ.2.1 72 := hf_τ3.2.1 72 (by decide)
  have g73_τ3 : τ3.2.1 73 = σ.2.1 73 := hf_τ3.2.1 73 (by decide)
  have g74_τ3 : τ3.2.1 74 = σ.2.1 74 := hf_τ3.2.1 74 (by decide)
  have g75_τ3 : τ3.2.1 75 = σ.2.1 75 := hf_τ3.2.1 75 (by decide)
  have g86_τ3 : τ3.2.1 86 = σ.2.1 86 := hf_τ3.2.1 86 (by decide)
  have g87_τ3 : τ3.2.1 87 = σ.2.1 87 := hf_τ3.2.1 87 (by decide)
  have g91_τ3 : τ3.2.1 91 = σ.2.1 91 := hf_τ3.2.1 91 (by decide)
  have W3 : τ3.1 3 = σ.1 3 := by first | exact w3_τ3.trans W3 | omega
  have W5 : τ3.1 5 = σ.1 5 := by first | exact w5_τ3.trans W5 | omega
  have W11 : τ3.1 11 = σ.1 11 := by first | exact w11_τ3.trans W11 | omega
  have W45 : τ3.1 45 = σ.1 45 := by first | exact w45_τ3.trans W45 | omega
  have W46 : τ3.1 46 = σ.1 46 := by first | exact w46_τ3.trans W46 | omega
  have W50 : τ3.1 50 = σ.1 50 := by first | exact w50_τ3.trans W50 | omega
  have G8 : τ3.2.1 8 = σ.2.1 8 := (g8_τ3).trans G8
  have G10 : τ3.2.1 10 = σ.2.1 10 := (g10_τ3).trans G10
  have G13 : τ3.2.1 13 = σ.2.1 13 := (g13_τ3).trans G13
  have G14 : τ3.2.1 14 = σ.2.1 14 := (g14_τ3).trans G14
  have G15 : τ3.2.1 15 = σ.2.1 15 := (g15_τ3).trans G15
  have G16 : τ3.2.1 16 = σ.2.1 16 := (g16_τ3).trans G16
  have G18 : τ3.2.1 18 = σ.2.1 18 := (g18_τ3).trans G18
  have G19 : τ3.2.1 19 = σ.2.1 19 := (g19_τ3).trans G19
  have G20 : τ3.2.1 20 = σ.2.1 20 := (g20_τ3).trans G20
  have G71 : τ3.2.1 71 = σ.2.1 71 := (g71_τ3).trans G71
  have G72 : τ3.2.1 72 = σ.2.1 72 := (g72_τ3).trans G72
  have G73 : τ3.2.1 73 = σ.2.1 73 := (g73_τ3).trans G73
  have G74 : τ3.2.1 74 = σ.2.1 74 := (g74_τ3).trans G74
  have G75 : τ3.2.1 75 = σ.2.1 75 := (g75_τ3).trans G75
  have A8 : ∀ j, 0 ≤ τ3.2.1 8 j ∧ τ3.2.1 8 j ≤ 1 := fun j => hT.2 8 j
  have A10 : ∀ j, (-1) ≤ τ3.2.1 10 j ∧ τ3.2.1 10 j ≤ 999 := fun j => hT.2 10 j
  have A13 : ∀ j, 0 ≤ τ3.2.1 13 j ∧ τ3.2.1 13 j ≤ 4 := fun j => hT.2 13 j
  have A14 : ∀ j, 0 ≤ τ3.2.1 14 j ∧ τ3.2.1 14 j ≤ 30000 := fun j => hT.2 14 j
  have A15 : ∀ j, 0 ≤ τ3.2.1 15 j ∧ τ3.2.1 15 j ≤ 300 := fun j => hT.2 15 j
  have A16 : ∀ j, 0 ≤ τ3.2.1 16 j ∧ τ3.2.1 16 j ≤ 999 := fun j => hT.2 16 j
  have A18 : ∀ j, 0 ≤ τ3.2.1 18 j ∧ τ3.2.1 18 j ≤ 90000 := fun j => hT.2 18 j
  have A19 : ∀ j, 0 ≤ τ3.2.1 19 j ∧ τ3.2.1 19 j ≤ 60 := fun j => hT.2 19 j
  have A20 : ∀ j, 0 ≤ τ3.2.1 20 j ∧ τ3.2.1 20 j ≤ 1499 := fun j => hT.2 20 j
  have A71 : ∀ j, (-1) ≤ τ3.2.1 71 j ∧ τ3.2.1 71 j ≤ 99 := fun j => hT.2 71 j
  have A72 : ∀ j, 0 ≤ τ3.2.1 72 j ∧ τ3.2.1 72 j ≤ 999 := fun j => hT.2 72 j
  have A73 : ∀ j, (-1) ≤ τ3.2.1 73 j ∧ τ3.2.1 73 j ≤ 99 := fun j => hT.2 73 j
  have A74 : ∀ j, (-1) ≤ τ3.2.1 74 j ∧ τ3.2.1 74 j ≤ 1499 := fun j => hT.2 74 j
  have A75 : ∀ j, 0 ≤ τ3.2.1 75 j ∧ τ3.2.1 75 j ≤ 3 := fun j => hT.2 75 j
  have A86 : ∀ j, (-1500) ≤ τ3.2.1 86 j ∧ τ3.2.1 86 j ≤ 1499 := fun j => hT.2 86 j
  have A87 : ∀ j, 0 ≤ τ3.2.1 87 j ∧ τ3.2.1 87 j ≤ 120000 := fun j => hT.2 87 j
  have A88 : ∀ j, 0 ≤ τ3.2.1 88 j ∧ τ3.2.1 88 j ≤ 59 := fun j => hT.2 88 j
  have A89 : ∀ j, 0 ≤ τ3.2.1 89 j ∧ τ3.2.1 89 j ≤ 59 := fun j => hT.2 89 j
  have A90 : ∀ j, (-1) ≤ τ3.2.1 90 j ∧ τ3.2.1 90 j ≤ 99 := fun j => hT.2 90 j
  have A91 : ∀ j, 0 ≤ τ3.2.1 91 j ∧ τ3.2.1 91 j ≤ 60000 := fun j => hT.2 91 j
  have v3 : 0 ≤ τ3.1 3 ∧ τ3.1 3 ≤ 1000 := hT.1 3
  have v5 : 0 ≤ τ3.1 5 ∧ τ3.1 5 ≤ 1500 := hT.1 5
  have v11 : (-1) ≤ τ3.1 11 ∧ τ3.1 11 ≤ 999 := hT.1 11
  have v45 : 0 ≤ τ3.1 45 ∧ τ3.1 45 ≤ 59 := hT.1 45
  have v46 : 0 ≤ τ3.1 46 ∧ τ3.1 46 ≤ 100 := hT.1 46
  have v50 : 0 ≤ τ3.1 50 ∧ τ3.1 50 ≤ 1500 := hT.1 50
  have v51 : 0 ≤ τ3.1 51 ∧ τ3.1 51 ≤ 60000 := hT.1 51
  have v52 : 0 ≤ τ3.1 52 ∧ τ3.1 52 ≤ 120000 := hT.1 52
  have a88_51 : 0 ≤ τ3.2.1 88 (τ3.1 51) ∧ τ3.2.1 88 (τ3.1 51) ≤ 59 := hT.2 88 _
  have a89_51 : 0 ≤ τ3.2.1 89 (τ3.1 51) ∧ τ3.2.1 89 (τ3.1 51) ≤ 59 := hT.2 89 _
  have a90_51 : (-1) ≤ τ3.2.1 90 (τ3.1 51) ∧ τ3.2.1 90 (τ3.1 51) ≤ 99 := hT.2 90 _
  have tc3 : y_TC ρ τ3 := y_TC_h p1 hf_τ3 rfl rfl (n_J_hh p1.2.2.2.1 hf_τ3 rfl rfl) (m_J_f p1.2.2.2.2 hf_τ3 rfl rfl)
  have ws1 := y_ws_s (ρ := ρ) (σ := σ) (lo := σ.1 51) (hi := σ.1 51) (c := n1) (p := 0) (q := σ.1 45) (ns := σ.2.1 90) (nf := σ.2.1 88) (nt := σ.2.1 89) (Int.le_refl _)
  rw [show σ.1 51 - σ.1 51 = 0 from by omega, sm_0] at ws1
  exact l_13 ((60001 - x2 : Int).toNat + 1) _ _ _ (show (60001 - x2 : Int) < (((60001 - x2 : Int).toNat + 1 : Nat) : Int) from by ((first | omega | (simp only [st_s] <;> omega) | assumption | omega | fail))) hT (show τ3.1 3 = σ.1 3 from by first | exact W3 | omega) (show τ3.1 5 = σ.1 5 from by first | exact W5 | omega) (show τ3.1 11 = σ.1 11 from by first | exact W11 | omega) (show τ3.1 45 = σ.1 45 from by first | exact W45 | omega) (show τ3.1 46 = σ.1 46 from by first | exact W46 | omega) (show τ3.1 50 = σ.1 50 from by first | exact W50 | omega) G8 G10 G13 G14 G15 G16 G18 G19 G20 G71 G72 G73 G74 G75 (show x2 = (σ.1 51) from by (first | omega | (simp only [st_s] <;> omega) | assumption | omega | fail)) (show (σ.1 51) ≤ x2 ∧ x2 ≤ (τ3.1 51) ∧ (σ.1 51) < (τ3.1 51) from by (first | omega | (simp only [st_s] <;> omega) | assumption | omega | fail)) (show y_TC ρ τ3 from by (first | exact tc3 | exact tc7 | fail)) (show ∀ y : Int, y < (σ.1 51) → (τ3.2.1 86 y = σ.2.1 86 y ∧ τ3.2.1 87 y = σ.2.1 87 y) ∧ τ3.2.1 88 y = σ.2.1 88 y ∧ τ3.2.1 89 y = σ.2.1 89 y ∧ τ3.2.1 90 y = σ.2.1 90 y from by (first | (intro y a; rw [q1_3, q1_4, q1_5, g86_τ3, g87_τ3, st_n _ _ (by omega), st_n _ _ (by omega), st_n _ _ (by omega)]; exact ⟨⟨rfl, rfl⟩, rfl, rfl, rfl⟩) | (intro y a; have w := i13_4 y a; have v := q5_1 y (by omega); have x := q5_4 y (by omega); rw [v.1, v.2, x.1, x.2.1, x.2.2]; exact w) | fail)) (show ∀ e : Int, e < (σ.1 52) → τ3.2.1 91 e = σ.2.1 91 e from by (first | (intro e a; rw [g91_τ3]) | (intro e a; rw [q5_5 e (by omega)]; exact i13_5 e a) | fail)) (show ∀ y : Int, (σ.1 51) ≤ y → y < (τ3.1 51) → y_c0 σ (τ3.2.1 90 y) (τ3.2.1 88 y) (τ3.2.1 89 y) from by (first | (intro y a b; rw [q1_3, q1_4, q1_5, show y = σ.1 51 from by omega, st_s, st_s, st_s]; exact p4s) | (intro y a b; rcases (by omega : y < τ_13.1 51 ∨ τ_13.1 51 ≤ y) with z | z; (have x := q5_4 y z; rw [x.1, x.2.1, x.2.2]; exact i13_6 y a z); (exact q5_6 y z b)) | fail)) (show ∀ y : Int, (σ.1 51) ≤ y → y < x2 → y_nd σ (τ3.2.1 86) (τ3.2.1 87) (τ3.2.1 91) (τ3.2.1 88) (τ3.2.1 89) (τ3.2.1 90) y (y + 1) (τ3.1 51) (τ3.1 52) from by (first | (intro y a b; exfalso; omega) | (intro y a b; rcases (by omega : y < u3_13 ∨ y = u3_13) with z | z; (have v := q5_1 y (by omega); have x := q5_4 y (by omega); exact y_nd_k (i13_7 y a z) ⟨v.1, v.2, x.1, x.2.1, x.2.2⟩ q5_5 q5_4 q5_2 (by omega)); (rw [z]; exact y_nd_l q5_7 (by omega))) | fail)) (show (σ.1 52) ≤ (τ3.1 52) ∧ (τ3.1 52) - (σ.1 52) ≤ (τ3.1 51) - (σ.1 51) - 1 from by (first | omega | (simp only [st_s] <;> omega) | assumption | omega | fail)) (show sm (y_ws ρ σ x2 (τ3.2.1 90) (τ3.2.1 88) (τ3.2.1 89)) ((τ3.1 51) - x2) + (x2 - (σ.1 51)) ≤ 11700 from by (first | (rw [q1_1, q1_2, q1_3, q1_4, q1_5, ws1]; omega) | (rw [wc]; have w := i13_9; omega) | fail)) (show τ3.2.1 90 (σ.1 51) = n1 ∧ τ3.2.1 88 (σ.1 51) = 0 ∧ τ3.2.1 89 (σ.1 51) = (σ.1 45) from by (first | (rw [q1_3, q1_4, q1_5, st_s, st_s, st_s]; exact ⟨rfl, rfl, rfl⟩) | (have x := q5_4 σ.1 51 (by omega); rw [x.1, x.2.1, x.2.2]; exact i13_10) | (have x := q5_4 (σ.1 51) (by omega); rw [x.1, x.2.1, x.2.2]; exact i13_10) | fail))
