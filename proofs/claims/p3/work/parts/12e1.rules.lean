-- pure: the rules of the model, as nodes
def y_h1 (tu : Int) (kd ta tx hy : Int → Int) (a u : Int) : Prop := ∀ k : Int, a ≤ k → k < u → kd (hy k) = 0 ∧ ¬ tx (ta (hy k)) = tu
def y_h3 (iv tx : Int → Int) (a w v : Int) : Prop := ∀ p : Int, a ≤ p → p < w → ¬ iv (tx v) = 0 → ¬ tx p = tx v
def y_h2 (iv tx : Int → Int) (a v : Int) : Prop := ∀ q : Int, a ≤ q → q < v → y_h3 iv tx a q q
theorem y_h1_s {tu : Int} {kd ta tx hy : Int → Int} {a u : Int} (l : a ≤ u) : y_h1 tu kd ta tx hy a (u + 1) ↔ y_h1 tu kd ta tx hy a u ∧ kd (hy u) = 0 ∧ ¬ tx (ta (hy u)) = tu :=
  ⟨fun h => ⟨fun k a b => h k a (by omega), h u l (by omega)⟩, fun h k a b => by
    rcases (by omega : k < u ∨ k = u) with q | q
    · exact h.1 k a q
    · rw [q]; exact h.2⟩
theorem y_h3_s {iv tx : Int → Int} {a w v : Int} (l : a ≤ w) : y_h3 iv tx a (w + 1) v ↔ y_h3 iv tx a w v ∧ (¬ iv (tx v) = 0 → ¬ tx w = tx v) :=
  ⟨fun h => ⟨fun k a b => h k a (by omega), h w l (by omega)⟩, fun h k a b => by
    rcases (by omega : k < w ∨ k = w) with q | q
    · exact h.1 k a q
    · rw [q]; exact h.2⟩
theorem y_h2_s {iv tx : Int → Int} {a v : Int} (l : a ≤ v) : y_h2 iv tx a (v + 1) ↔ y_h2 iv tx a v ∧ y_h3 iv tx a v v :=
  ⟨fun h => ⟨fun k a b => h k a (by omega), h v l (by omega)⟩, fun h k a b => by
    rcases (by omega : k < v ∨ k = v) with q | q
    · exact h.1 k a q
    · rw [q]; exact h.2⟩
/-- a rule -/
def y_rl (tu : Int) (iv kd ta ts tx ha hs hy : Int → Int) (r : Int) : Prop := (kd r = 2 ∧ 2 ≤ ts r ∧ iv (tx (ta r)) = 0 ∧ ¬ tx (ta r) = tu) ∧ y_h1 tu kd ta tx hy (ha r) (ha r + hs r) ∧ y_h2 iv tx (ta r + 1) (ta r + ts r)
def y_R (σ : S0) (r : Int) : Prop := y_rl (σ.1 11) (σ.2.1 8) (σ.2.1 13) (σ.2.1 14) (σ.2.1 15) (σ.2.1 16) (σ.2.1 18) (σ.2.1 19) (σ.2.1 20) r
def y_In (σ : S0) (r : Int) : Prop := y_R σ r ∧ σ.2.1 15 r ≤ 60
def y_hd (σ : S0) (r : Int) : Int := σ.2.1 16 (σ.2.1 14 r)
def y_nn (σ : S0) (r : Int) : Int := σ.2.1 15 r - 1
def y_f (σ : S0) (r k : Int) : Int := if σ.2.1 8 (σ.2.1 16 (σ.2.1 14 r + k)) = 0 then σ.2.1 16 (σ.2.1 14 r + k) else -2 - σ.2.1 10 (σ.2.1 16 (σ.2.1 14 r + k))
def y_U (σ : S0) (r : Int) : Prop := y_nn σ r = 1 ∧ y_f σ r 1 < 0
def y_RN (σ : S0) (r : Int) : Prop := y_In σ r ∧ ¬ y_U σ r
/-- the same statements -/
def y_SD (σ τ : S0) : Prop := τ.1 11 = σ.1 11 ∧ τ.2.1 8 = σ.2.1 8 ∧ τ.2.1 10 = σ.2.1 10 ∧ τ.2.1 13 = σ.2.1 13 ∧ τ.2.1 14 = σ.2.1 14 ∧ τ.2.1 15 = σ.2.1 15 ∧ τ.2.1 16 = σ.2.1 16 ∧ τ.2.1 18 = σ.2.1 18 ∧ τ.2.1 19 = σ.2.1 19 ∧ τ.2.1 20 = σ.2.1 20
theorem y_SD_h {σ τ : S0} {wv wa wb : List Nat} (hf : f_r wv wa wb σ τ) (d1 : [11].all (fun i => !wv.contains i) = true) (d2 : [8, 10, 13, 14, 15, 16, 18, 19, 20].all (fun i => !wa.contains i) = true) : y_SD σ τ :=
  ⟨hf.1 11 (by simpa using List.all_eq_true.mp d1 11 (by simp)), hf.2.1 8 (by simpa using List.all_eq_true.mp d2 8 (by simp)), hf.2.1 10 (by simpa using List.all_eq_true.mp d2 10 (by simp)), hf.2.1 13 (by simpa using List.all_eq_true.mp d2 13 (by simp)), hf.2.1 14 (by simpa using List.all_eq_true.mp d2 14 (by simp)), hf.2.1 15 (by simpa using List.all_eq_true.mp d2 15 (by simp)), hf.2.1 16 (by simpa using List.all_eq_true.mp d2 16 (by simp)), hf.2.1 18 (by simpa using List.all_eq_true.mp d2 18 (by simp)), hf.2.1 19 (by simpa using List.all_eq_true.mp d2 19 (by simp)), hf.2.1 20 (by simpa using List.all_eq_true.mp d2 20 (by simp))⟩
theorem y_SD_t {σ τ υ : S0} (h : y_SD σ τ) (g : y_SD τ υ) : y_SD σ υ := by
  obtain ⟨a0, a1, a2, a3, a4, a5, a6, a7, a8, a9⟩ := h
  obtain ⟨b0, b1, b2, b3, b4, b5, b6, b7, b8, b9⟩ := g
  exact ⟨b0.trans a0, b1.trans a1, b2.trans a2, b3.trans a3, b4.trans a4, b5.trans a5, b6.trans a6, b7.trans a7, b8.trans a8, b9.trans a9⟩
theorem y_SD_e {σ τ : S0} (h : y_SD σ τ) : y_R τ = y_R σ ∧ y_In τ = y_In σ ∧ y_hd τ = y_hd σ ∧ y_nn τ = y_nn σ ∧ y_f τ = y_f σ ∧ y_U τ = y_U σ ∧ y_RN τ = y_RN σ := by
  obtain ⟨a0, a1, a2, a3, a4, a5, a6, a7, a8, a9⟩ := h
  have e1 : y_R τ = y_R σ := by funext r; unfold y_R; rw [a0, a1, a3, a4, a5, a6, a7, a8, a9]
  have e2 : y_In τ = y_In σ := by funext r; unfold y_In; rw [e1, a5]
  have e4 : y_nn τ = y_nn σ := by funext r; unfold y_nn; rw [a5]
  have e5 : y_f τ = y_f σ := by funext r k; unfold y_f; rw [a1, a2, a4, a6]
  have e6 : y_U τ = y_U σ := by funext r; unfold y_U; rw [e4, e5]
  exact ⟨e1, e2, by funext r; unfold y_hd; rw [a4, a6], e4, e5, e6, by funext r; unfold y_RN; rw [e2, e6]⟩
/-- the nodes tell the rules -/
def y_TT (σ τ : S0) (M Z : Int) : Prop := (y_T (τ.1 47) M Z (y_RN σ) (y_hd σ) (y_nn σ) (y_f σ) (τ.2.1 78) (τ.2.1 77) (τ.2.1 81) (τ.2.1 82) (τ.2.1 83) ∧ y_K (τ.1 47) (τ.2.1 78) (τ.2.1 79) (τ.2.1 80)) ∧ 1 ≤ τ.1 47 ∧ y_Tf (τ.1 47) (τ.2.1 81) (τ.2.1 83)
theorem y_TT_e {σ τ ρ : S0} (h : y_SD σ ρ) {M Z : Int} : y_TT ρ τ M Z ↔ y_TT σ τ M Z := by
  obtain ⟨_, _, e3, e4, e5, _, e7⟩ := y_SD_e h
  unfold y_TT; rw [e3, e4, e5, e7]
/-- rules of one variable alone -/
def y_Un (σ : S0) (M uc : Int) (un : Int → Int) : Prop := (∀ k : Int, 0 ≤ k → k < uc → (0 ≤ un k ∧ un k < M) ∧ y_In σ (un k) ∧ y_U σ (un k)) ∧ (∀ j k : Int, 0 ≤ j → j < k → k < uc → un j < un k) ∧ ∀ r : Int, 0 ≤ r → r < M → y_In σ r → y_U σ r → ∃ k : Int, (0 ≤ k ∧ k < uc) ∧ un k = r
theorem y_Un_e {σ ρ : S0} (h : y_SD σ ρ) {M uc : Int} {un : Int → Int} : y_Un ρ M uc un ↔ y_Un σ M uc un := by
  obtain ⟨_, e2, _, _, _, e6, _⟩ := y_SD_e h
  unfold y_Un; rw [e2, e6]
theorem y_Un_n {σ : S0} {M uc : Int} {un : Int → Int} (h : y_Un σ M uc un) (n : ¬ (y_In σ M ∧ y_U σ M)) : y_Un σ (M + 1) uc un := by
  obtain ⟨h1, h2, h3⟩ := h
  refine ⟨fun k a b => ⟨⟨(h1 k a b).1.1, by have := (h1 k a b).1.2; omega⟩, (h1 k a b).2⟩, h2, fun r a b c d => ?_⟩
  rcases (by omega : r < M ∨ r = M) with q | q
  · exact h3 r a q c d
  · rw [q] at c d; exact absurd ⟨c, d⟩ n
theorem y_Un_y {σ : S0} {M uc : Int} {un : Int → Int} (h : y_Un σ M uc un) (u0 : 0 ≤ uc) (m0 : 0 ≤ M) (c : y_In σ M) (d : y_U σ M) : y_Un σ (M + 1) (uc + 1) (st un uc M) := by
  obtain ⟨h1, h2, h3⟩ := h
  refine ⟨fun k a b => ?_, fun j k a b e => ?_, fun r a b g l => ?_⟩
  · rcases (by omega : k < uc ∨ k = uc) with q | q
    · rw [st_n _ _ (by omega)]; exact ⟨⟨(h1 k a q).1.1, by have := (h1 k a q).1.2; omega⟩, (h1 k a q).2⟩
    · rw [q, st_s]; exact ⟨⟨m0, by omega⟩, c, d⟩
  · rcases (by omega : k < uc ∨ k = uc) with q | q
    · rw [st_n _ _ (by omega), st_n _ _ (by omega)]; exact h2 j k a b q
    · rw [q, st_s, st_n _ _ (by omega)]; exact (h1 j a (by omega)).1.2
  · rcases (by omega : r < M ∨ r = M) with q | q
    · obtain ⟨k, k1, k2⟩ := h3 r a q g l
      exact ⟨k, ⟨k1.1, by omega⟩, by rw [st_n _ _ (by omega)]; exact k2⟩
    · exact ⟨uc, ⟨u0, by omega⟩, by rw [st_s, q]⟩
theorem y_Un_b {σ : S0} {M uc : Int} {un : Int → Int} (h : y_Un σ M uc un) (m0 : 0 ≤ M) : ∀ n : Nat, (n : Int) < uc → (n : Int) ≤ un (n : Int)
  | 0, l => (h.1 _ (by omega) l).1.1
  | n + 1, l => by
    have a := y_Un_b h m0 n (by omega)
    have b := h.2.1 (n : Int) ((n : Int) + 1) (by omega) (by omega) (by omega)
    rw [show ((n + 1 : Nat) : Int) = (n : Int) + 1 by omega]; omega
theorem y_Un_c {σ : S0} {M uc : Int} {un : Int → Int} (h : y_Un σ M uc un) (m0 : 0 ≤ M) : uc ≤ M := by
  rcases (by omega : uc ≤ 0 ∨ 0 < uc) with q | q
  · omega
  · have a := y_Un_b h m0 (uc - 1).toNat (by omega)
    rw [show ((uc - 1).toNat : Int) = uc - 1 by omega] at a
    have b := (h.1 (uc - 1) (by omega) (by omega)).1.2
    omega
theorem y_T_0 {M Z : Int} {R : Int → Prop} {hd nn : Int → Int} {f : Int → Int → Int} {up sp fi ot le : Int → Int} (z : Z ≤ 0) : y_T 1 M Z R hd nn f up sp fi ot le := ⟨fun x a b => by omega, fun r a b => by omega, fun x a b => by omega, fun x a b => by omega⟩
theorem y_TT_m {σ τ : S0} {r : Int} (h : y_TT σ τ r r) (r0 : 0 ≤ r) (n : ¬ y_RN σ r) : y_TT σ τ (r + 1) (r + 1) := by
  obtain ⟨⟨⟨h0, h1, h2, h3⟩, hk⟩, hn⟩ := h
  refine ⟨⟨⟨h0, fun s a b c => ?_, fun z a b => ?_, fun z a b => ?_⟩, hk⟩, hn⟩
  · rcases (by omega : s < r ∨ s = r) with q | q
    · exact h1 s a q c
    · rw [q] at c; exact absurd c n
  · have w := h2 z a b
    exact ⟨⟨w.1.1, by omega, w.1.2.2⟩, w.2⟩
  · have w := h3 z a b
    exact ⟨fun l => ⟨⟨(w.1 l).1.1, by have := (w.1 l).1.2.1; omega, (w.1 l).1.2.2⟩, (w.1 l).2⟩, fun l => ⟨(w.2 l).1, ⟨by have := (w.2 l).2.1.1; omega, (w.2 l).2.1.2⟩, (w.2 l).2.2⟩⟩
theorem y_K_l {N n1 x l : Int} {up kid nx kid' nx' : Int → Int} (h : y_K N up kid nx) (n0 : 0 ≤ n1) (nN : n1 < N) (e : x = N) (hc : (l = -1 ∧ kid' = st (st kid N (-1)) n1 x ∧ nx' = st nx N (-1)) ∨ ((0 ≤ l ∧ l < N ∧ up l = n1) ∧ kid' = st kid N (-1) ∧ nx' = st (st nx N (-1)) l x)) (n1u : ∀ y : Int, 0 ≤ y → y < N → y ≠ N) : y_K (N + 1) (st up N n1) kid' nx' := by
  subst e
  have hN : ∀ y : Int, y < x → st up x n1 y = up y := fun y a => st_n _ _ (by omega)
  rcases hc with ⟨_, ek, en⟩ | ⟨⟨l0, l1, lu⟩, ek, en⟩ <;> rw [ek, en] <;> intro y a b
  · refine ⟨?_, ?_⟩
    · by_cases z : y = n1
      · rw [z, st_s]; exact Or.inr ⟨by omega, by omega, st_s _ _ _⟩
      · rw [st_n _ _ z]
        rcases (by omega : y < x ∨ y = x) with q | q
        · rw [st_n _ _ (by omega)]
          rcases (h y a q).1 with w | ⟨w1, w2, w3⟩
          · exact Or.inl w
          · exact Or.inr ⟨w1, by omega, by rw [hN _ w2]; exact w3⟩
        · rw [q, st_s]; exact Or.inl rfl
    · rcases (by omega : y < x ∨ y = x) with q | q
      · rw [st_n nx _ (show y ≠ x by omega), hN y q]
        rcases (h y a q).2 with w | ⟨w1, w2, w3⟩
        · exact Or.inl w
        · exact Or.inr ⟨w1, by omega, by rw [hN _ w2]; exact w3⟩
      · rw [q, st_s]; exact Or.inl rfl
  · refine ⟨?_, ?_⟩
    · rcases (by omega : y < x ∨ y = x) with q | q
      · rw [st_n _ _ (by omega)]
        rcases (h y a q).1 with w | ⟨w1, w2, w3⟩
        · exact Or.inl w
        · exact Or.inr ⟨w1, by omega, by rw [hN _ w2]; exact w3⟩
      · rw [q, st_s]; exact Or.inl rfl
    · by_cases z : y = l
      · rw [z, st_s, hN l l1]; exact Or.inr ⟨l1, by omega, by rw [st_s]; exact lu.symm⟩
      · rw [st_n _ _ z]
        rcases (by omega : y < x ∨ y = x) with q | q
        · rw [st_n _ _ (by omega), hN y q]
          rcases (h y a q).2 with w | ⟨w1, w2, w3⟩
          · exact Or.inl w
          · exact Or.inr ⟨w1, by omega, by rw [hN _ w2]; exact w3⟩
        · rw [q, st_s]; exact Or.inl rfl
set_option maxHeartbeats 1000000 in
theorem K_X13_isSort {n1 : Int} {σ : S0} (hT : m_T σ) (p1 : -1 ≤ n1) (p2 : n1 < 1001) : W_X13_isSort n1 σ (fun (x : Int) => (0 ≤ x ∧ x ≤ 1) ∧ (¬ x = 0 → σ.2.1 8 n1 = 0 ∧ ¬ n1 = (σ.1 11)) ∧ (0 ≤ n1 → σ.2.1 8 n1 = 0 → ¬ n1 = (σ.1 11) → ¬ x = 0)) := by
  have v11 : (-1) ≤ σ.1 11 ∧ σ.1 11 ≤ 999 := hT.1 11
  unfold W_X13_isSort
  refine ⟨fun c1 => ?_, fun c1 => ?_⟩
  ·
    exact ⟨(show 0 ≤ 0 ∧ 0 ≤ 1 from by (first | omega | (simp only [st_s] <;> omega) | assumption | omega | fail)), (show ¬ 0 = 0 → σ.2.1 8 n1 = 0 ∧ ¬ n1 = (σ.1 11) from by (intro q; first | (exfalso; omega) | exact ⟨by omega, by omega⟩)), (show 0 ≤ n1 → σ.2.1 8 n1 = 0 → ¬ n1 = (σ.1 11) → ¬ 0 = 0 from by (intro q q2 q3; omega))⟩
  ·
    refine ⟨(show 0 ≤ n1 ∧ n1 < 1001 from by (first | omega | (simp only [st_s] <;> omega) | assumption | omega | fail)), ?_⟩
    intro x3 r_x3 e_x3
    have b_x3 : 0 ≤ x3 ∧ x3 ≤ 1 := by rw [e_x3]; exact hT.2 8 _
    refine ⟨fun c4 => ?_, fun c4 => ?_⟩
    ·
      exact ⟨(show 0 ≤ 0 ∧ 0 ≤ 1 from by (first | omega | (simp only [st_s] <;> omega) | assumption | omega | fail)), (show ¬ 0 = 0 → σ.2.1 8 n1 = 0 ∧ ¬ n1 = (σ.1 11) from by (intro q; first | (exfalso; omega) | exact ⟨by omega, by omega⟩)), (show 0 ≤ n1 → σ.2.1 8 n1 = 0 → ¬ n1 = (σ.1 11) → ¬ 0 = 0 from by (intro q q2 q3; omega))⟩
    ·
      refine ⟨fun c5 => ?_, fun c5 => ?_⟩
      ·
        exact ⟨(show 0 ≤ 0 ∧ 0 ≤ 1 from by (first | omega | (simp only [st_s] <;> omega) | assumption | omega | fail)), (show ¬ 0 = 0 → σ.2.1 8 n1 = 0 ∧ ¬ n1 = (σ.1 11) from by (intro q; first | (exfalso; omega) | exact ⟨by omega, by omega⟩)), (show 0 ≤ n1 → σ.2.1 8 n1 = 0 → ¬ n1 = (σ.1 11) → ¬ 0 = 0 from by (intro q q2 q3; omega))⟩
      ·
        exact ⟨(show 0 ≤ 1 ∧ 1 ≤ 1 from by (first | omega | (simp only [st_s] <;> omega) | assumption | omega | fail)), (show ¬ 1 = 0 → σ.2.1 8 n1 = 0 ∧ ¬ n1 = (σ.1 11) from by (intro q; first | (exfalso; omega) | exact ⟨by omega, by omega⟩)), (show 0 ≤ n1 → σ.2.1 8 n1 = 0 → ¬ n1 = (σ.1 11) → ¬ 1 = 0 from by (intro q q2 q3; omega))⟩
set_option maxHeartbeats 4000000 in
theorem K_X13_isRule {n1 : Int} {σ : S0} (hT : m_T σ) (p1 : 0 ≤ n1) (p2 : n1 < (σ.1 5)) : W_X13_isRule n1 σ (fun (x : Int) => (0 ≤ x ∧ x ≤ 1) ∧ (¬ x = 0 ↔ y_R σ n1)) := by
  have A8 : ∀ j, 0 ≤ σ.2.1 8 j ∧ σ.2.1 8 j ≤ 1 := fun j => hT.2 8 j
  have A13 : ∀ j, 0 ≤ σ.2.1 13 j ∧ σ.2.1 13 j ≤ 4 := fun j => hT.2 13 j
  have A14 : ∀ j, 0 ≤ σ.2.1 14 j ∧ σ.2.1 14 j ≤ 30000 := fun j => hT.2 14 j
  have A15 : ∀ j, 0 ≤ σ.2.1 15 j ∧ σ.2.1 15 j ≤ 300 := fun j => hT.2 15 j
  have A16 : ∀ j, 0 ≤ σ.2.1 16 j ∧ σ.2.1 16 j ≤ 999 := fun j => hT.2 16 j
  have A18 : ∀ j, 0 ≤ σ.2.1 18 j ∧ σ.2.1 18 j ≤ 90000 := fun j => hT.2 18 j
  have A19 : ∀ j, 0 ≤ σ.2.1 19 j ∧ σ.2.1 19 j ≤ 60 := fun j => hT.2 19 j
  have A20 : ∀ j, 0 ≤ σ.2.1 20 j ∧ σ.2.1 20 j ≤ 1499 := fun j => hT.2 20 j
  have v5 : 0 ≤ σ.1 5 ∧ σ.1 5 ≤ 1500 := hT.1 5
  have v11 : (-1) ≤ σ.1 11 ∧ σ.1 11 ≤ 999 := hT.1 11
  intro P49 P128 P159 h49 h128 h159
  have a14 := A14 n1
  have a15 := A15 n1
  have a18 := A18 n1
  have a19 := A19 n1
  have l_128 : ∀ (m_128 : Nat) (u2_128 : Int) (u3_128 : Int), 30400 - u3_128 < (m_128 : Int) → (σ.2.1 13 n1 = 2 ∧ 2 ≤ σ.2.1 15 n1 ∧ σ.2.1 8 (σ.2.1 16 (σ.2.1 14 n1)) = 0 ∧ ¬ σ.2.1 16 (σ.2.1 14 n1) = (σ.1 11)) → (σ.2.1 14 n1 + 1 ≤ u3_128) → (u3_128 ≤ (σ.2.1 14 n1 + σ.2.1 15 n1)) → ((u2_128 = 1 ∧ (y_h1 (σ.1 11) (σ.2.1 13) (σ.2.1 14) (σ.2.1 16) (σ.2.1 20) (σ.2.1 18 n1) (σ.2.1 18 n1 + σ.2.1 19 n1) ∧ y_h2 (σ.2.1 8) (σ.2.1 16) (σ.2.1 14 n1 + 1) u3_128)) ∨ (u2_128 = 0 ∧ ¬ (y_h1 (σ.1 11) (σ.2.1 13) (σ.2.1 14) (σ.2.1 16) (σ.2.1 20) (σ.2.1 18 n1) (σ.2.1 18 n1 + σ.2.1 19 n1) ∧ y_h2 (σ.2.1 8) (σ.2.1 16) (σ.2.1 14 n1 + 1) u3_128))) → P128 n1 u2_128 u3_128 := by
    intro m_128
    induction m_128 with
    | zero =>
      intro u2_128 u3_128 hm i128_1 i128_2 i128_3 i128_4
      exfalso; (first | omega | (simp only [st_s] <;> omega) | assumption | omega | fail)
    | succ m_128 ih_128 =>
      intro u2_128 u3_128 hm_128 i128_1 i128_2 i128_3 i128_4
      have e128 := y_h2_s (iv := σ.2.1 8) (tx := σ.2.1 16) i128_2
      have l_159 : ∀ (m_159 : Nat) (u2_159 : Int) (u3_159 : Int) (u4_159 : Int), 30500 - u4_159 < (m_159 : Int) → (σ.2.1 13 n1 = 2 ∧ 2 ≤ σ.2.1 15 n1 ∧ σ.2.1 8 (σ.2.1 16 (σ.2.1 14 n1)) = 0 ∧ ¬ σ.2.1 16 (σ.2.1 14 n1) = (σ.1 11)) → (σ.2.1 14 n1 + 1 ≤ u3_159) → (u3_159 < (σ.2.1 14 n1 + σ.2.1 15 n1)) → (σ.2.1 14 n1 + 1 ≤ u4_159) → (u4_159 ≤ u3_159) → ((u2_159 = 1 ∧ (y_h1 (σ.1 11) (σ.2.1 13) (σ.2.1 14) (σ.2.1 16) (σ.2.1 20) (σ.2.1 18 n1) (σ.2.1 18 n1 + σ.2.1 19 n1) ∧ y_h2 (σ.2.1 8) (σ.2.1 16) (σ.2.1 14 n1 + 1) u3_159 ∧ y_h3 (σ.2.1 8) (σ.2.1 16) (σ.2.1 14 n1 + 1) u4_159 u3_159)) ∨ (u2_159 = 0 ∧ ¬ (y_h1 (σ.1 11) (σ.2.1 13) (σ.2.1 14) (σ.2.1 16) (σ.2.1 20) (σ.2.1 18 n1) (σ.2.1 18 n1 + σ.2.1 19 n1) ∧ y_h2 (σ.2.1 8) (σ.2.1 16) (σ.2.1 14 n1 + 1) u3_159 ∧ y_h3 (σ.2.1 8) (σ.2.1 16) (σ.2.1 14 n1 + 1) u4_159 u3_159))) → (u3_159 + (m_128 : Int) ≥ 30400) → P159 n1 u2_159 u3_159 u4_159 := by
        intro m_159
        induction m_159 with
        | zero =>
          intro u2_159 u3_159 u4_159 hm i159_1 i159_2 i159_3 i159_4 i159_5 i159_6 i159_7
          exfalso; (first | omega | (simp only [st_s] <;> omega) | assumption | omega | fail)
        | succ m_159 ih_159 =>
          intro u2_159 u3_159 u4_159 hm_159 i159_1 i159_2 i159_3 i159_4 i159_5 i159_6 i159_7
          have e128 := y_h2_s (iv := σ.2.1 8) (tx := σ.2.1 16) i159_2
          have e159 := y_h3_s (iv := σ.2.1 8) (tx := σ.2.1 16) (v := u3_159) i159_4
          refine h159 n1 u2_159 u3_159 u4_159 ?_
          refine ⟨fun c47 => ?_, fun c47 => ?_⟩
          ·
            refine ⟨(⟨by (first | omega | (simp only [st_s] <;> omega) | assumption | omega | fail), by (first | omega | (simp only [st_s] <;> omega) | assumption | omega | fail)⟩ : rg (u3_159 + 1)), ?_⟩
            exact ih_128 _ _ (show (30400 - (u3_159 + 1) : Int) < ((m_128 : Nat) : Int) from by ((first | omega | (simp only [st_s] <;> omega) | assumption | omega | fail))) (show (σ.2.1 13 n1 = 2 ∧ 2 ≤ σ.2.1 15 n1 ∧ σ.2.1 8 (σ.2.1 16 (σ.2.1 14 n1)) = 0 ∧ ¬ σ.2.1 16 (σ.2.1 14 n1) = (σ.1 11)) from by (first | omega | (simp only [st_s] <;> omega) | assumption | omega | fail)) (show σ.2.1 14 n1 + 1 ≤ (u3_159 + 1) from by (first | omega | (simp only [st_s] <;> omega) | assumption | omega | fail)) (show (u3_159 + 1) ≤ (σ.2.1 14 n1 + σ.2.1 15 n1) from by (first | omega | (simp only [st_s] <;> omega) | assumption | omega | fail)) (show (u2_159 = 1 ∧ (y_h1 (σ.1 11) (σ.2.1 13) (σ.2.1 14) (σ.2.1 16) (σ.2.1 20) (σ.2.1 18 n1) (σ.2.1 18 n1 + σ.2.1 19 n1) ∧ y_h2 (σ.2.1 8) (σ.2.1 16) (σ.2.1 14 n1 + 1) (u3_159 + 1))) ∨ (u2_159 = 0 ∧ ¬ (y_h1 (σ.1 11) (σ.2.1 13) (σ.2.1 14) (σ.2.1 16) (σ.2.1 20) (σ.2.1 18 n1) (σ.2.1 18 n1 + σ.2.1 19 n1) ∧ y_h2 (σ.2.1 8) (σ.2.1 16) (σ.2.1 14 n1 + 1) (u3_159 + 1))) from by (first | (have q9 := i49_4; rcases q9 with ⟨zz, ww⟩ | ⟨zz, ww⟩; (exact Or.inl ⟨zz, by (rw [show u3_49 = σ.2.1 18 n1 + σ.2.1 19 n1 by omega] at ww; exact ww), fun k a b => by exfalso; omega⟩); (exact Or.inr ⟨zz, fun g => ww (by rw [show u3_49 = σ.2.1 18 n1 + σ.2.1 19 n1 by omega]; exact g.1)⟩)) | (have q9 := i159_6; rcases q9 with ⟨zz, ww⟩ | ⟨zz, ww⟩; (exact Or.inl ⟨zz, ww.1, e128.mpr ⟨ww.2.1, by (rw [show u4_159 = u3_159 by omega] at ww; exact ww.2.2)⟩⟩); (exact Or.inr ⟨zz, fun g => ww ⟨g.1, (e128.mp g.2).1, by (rw [show u4_159 = u3_159 by omega]; exact (e128.mp g.2).2)⟩⟩)) | (have q9 := i159_6; rcases q9 with ⟨zz, ww⟩ | ⟨zz, ww⟩; (exfalso; omega); (exact Or.inr ⟨zz, fun g => ww ⟨g.1, (e128.mp g.2).1, fun p a b => (e128.mp g.2).2 p a (by omega)⟩⟩)) | fail))
          ·
            refine ⟨fun c49 => ?_, fun c49 => ?_⟩
            ·
              refine ⟨(⟨by (first | omega | (simp only [st_s] <;> omega) | assumption | omega | fail), by (first | omega | (simp only [st_s] <;> omega) | assumption | omega | fail)⟩ : rg (u3_159 + 1)), ?_⟩
              exact ih_128 _ _ (show (30400 - (u3_159 + 1) : Int) < ((m_128 : Nat) : Int) from by ((first | omega | (simp only [st_s] <;> omega) | assumption | omega | fail))) (show (σ.2.1 13 n1 = 2 ∧ 2 ≤ σ.2.1 15 n1 ∧ σ.2.1 8 (σ.2.1 16 (σ.2.1 14 n1)) = 0 ∧ ¬ σ.2.1 16 (σ.2.1 14 n1) = (σ.1 11)) from by (first | omega | (simp only [st_s] <;> omega) | assumption | omega | fail)) (show σ.2.1 14 n1 + 1 ≤ (u3_159 + 1) from by (first | omega | (simp only [st_s] <;> omega) | assumption | omega | fail)) (show (u3_159 + 1) ≤ (σ.2.1 14 n1 + σ.2.1 15 n1) from by (first | omega | (simp only [st_s] <;> omega) | assumption | omega | fail)) (show (u2_159 = 1 ∧ (y_h1 (σ.1 11) (σ.2.1 13) (σ.2.1 14) (σ.2.1 16) (σ.2.1 20) (σ.2.1 18 n1) (σ.2.1 18 n1 + σ.2.1 19 n1) ∧ y_h2 (σ.2.1 8) (σ.2.1 16) (σ.2.1 14 n1 + 1) (u3_159 + 1))) ∨ (u2_159 = 0 ∧ ¬ (y_h1 (σ.1 11) (σ.2.1 13) (σ.2.1 14) (σ.2.1 16) (σ.2.1 20) (σ.2.1 18 n1) (σ.2.1 18 n1 + σ.2.1 19 n1) ∧ y_h2 (σ.2.1 8) (σ.2.1 16) (σ.2.1 14 n1 + 1) (u3_159 + 1))) from by (first | (have q9 := i49_4; rcases q9 with ⟨zz, ww⟩ | ⟨zz, ww⟩; (exact Or.inl ⟨zz, by (rw [show u3_49 = σ.2.1 18 n1 + σ.2.1 19 n1 by omega] at ww; exact ww), fun k a b => by exfalso; omega⟩); (exact Or.inr ⟨zz, fun g => ww (by rw [show u3_49 = σ.2.1 18 n1 + σ.2.1 19 n1 by omega]; exact g.1)⟩)) | (have q9 := i159_6; rcases q9 with ⟨zz, ww⟩ | ⟨zz, ww⟩; (exact Or.inl ⟨zz, ww.1, e128.mpr ⟨ww.2.1, by (rw [show u4_159 = u3_159 by omega] at ww; exact ww.2.2)⟩⟩); (exact Or.inr ⟨zz, fun g => ww ⟨g.1, (e128.mp g.2).1, by (rw [show u4_159 = u3_159 by omega]; exact (e128.mp g.2).2)⟩⟩)) | (have q9 := i159_6; rcases q9 with ⟨zz, ww⟩ | ⟨zz, ww⟩; (exfalso; omega); (exact Or.inr ⟨zz, fun g => ww ⟨g.1, (e128.mp g.2).1, fun p a b => (e128.mp g.2).2 p a (by omega)⟩⟩)) | fail))
            ·
              refine ⟨(show 0 ≤ u3_159 ∧ u3_159 < 30400 from by (first | omega | (simp only [st_s] <;> omega) | assumption | omega | fail)), ?_⟩
              intro x52 r_x52 e_x52
              have b_x52 : 0 ≤ x52 ∧ x52 ≤ 999 := by rw [e_x52]; exact hT.2 16 _
              refine ⟨(show 0 ≤ x52 ∧ x52 < 1001 from by (first | omega | (simp only [st_s] <;> omega) | assumption | omega | fail)), ?_⟩
              intro x54 r_x54 e_x54
              have b_x54 : 0 ≤ x54 ∧ x54 ≤ 1 := by rw [e_x54]; exact hT.2 8 _
              have d54 : σ.2.1 8 (σ.2.1 16 u3_159) = x54 := by rw [← e_x52, ← e_x54]
              refine ⟨fun c55 => ?_, fun c55 => ?_⟩
              ·
                refine ⟨(⟨by (first | omega | (simp only [st_s] <;> omega) | assumption | omega | fail), by (first | omega | (simp only [st_s] <;> omega) | assumption | omega | fail)⟩ : rg (u4_159 + 1)), ?_⟩
                exact ih_159 _ _ _ (show (30500 - (u4_159 + 1) : Int) < ((m_159 : Nat) : Int) from by ((first | omega | (simp only [st_s] <;> omega) | assumption | omega | fail))) (show (σ.2.1 13 n1 = 2 ∧ 2 ≤ σ.2.1 15 n1 ∧ σ.2.1 8 (σ.2.1 16 (σ.2.1 14 n1)) = 0 ∧ ¬ σ.2.1 16 (σ.2.1 14 n1) = (σ.1 11)) from by (first | omega | (simp only [st_s] <;> omega) | assumption | omega | fail)) (show σ.2.1 14 n1 + 1 ≤ u3_159 from by (first | omega | (simp only [st_s] <;> omega) | assumption | omega | fail)) (show u3_159 < (σ.2.1 14 n1 + σ.2.1 15 n1) from by (first | omega | (simp only [st_s] <;> omega) | assumption | omega | fail)) (show σ.2.1 14 n1 + 1 ≤ (u4_159 + 1) from by (first | omega | (simp only [st_s] <;> omega) | assumption | omega | fail)) (show (u4_159 + 1) ≤ u3_159 from by (first | omega | (simp only [st_s] <;> omega) | assumption | omega | fail)) (show (1 = 1 ∧ (y_h1 (σ.1 11) (σ.2.1 13) (σ.2.1 14) (σ.2.1 16) (σ.2.1 20) (σ.2.1 18 n1) (σ.2.1 18 n1 + σ.2.1 19 n1) ∧ y_h2 (σ.2.1 8) (σ.2.1 16) (σ.2.1 14 n1 + 1) u3_159 ∧ y_h3 (σ.2.1 8) (σ.2.1 16) (σ.2.1 14 n1 + 1) (u4_159 + 1) u3_159)) ∨ (1 = 0 ∧ ¬ (y_h1 (σ.1 11) (σ.2.1 13) (σ.2.1 14) (σ.2.1 16) (σ.2.1 20) (σ.2.1 18 n1) (σ.2.1 18 n1 + σ.2.1 19 n1) ∧ y_h2 (σ.2.1 8) (σ.2.1 16) (σ.2.1 14 n1 + 1) u3_159 ∧ y_h3 (σ.2.1 8) (σ.2.1 16) (σ.2.1 14 n1 + 1) (u4_159 + 1) u3_159)) from by (first | (have q9 := i128_4; rcases q9 with ⟨zz, ww⟩ | ⟨zz, ww⟩; (exact Or.inl ⟨zz, ww.1, ww.2, fun p a b => by exfalso; omega⟩); (exact Or.inr ⟨zz, fun g => ww ⟨g.1, g.2.1⟩⟩)) | (have q9 := i159_6; rcases q9 with ⟨zz, ww⟩ | ⟨zz, ww⟩ <;> first | (exfalso; omega) | exact Or.inl ⟨rfl, ww.1, ww.2.1, e159.mpr ⟨ww.2.2, fun g => by omega⟩⟩ | exact Or.inr ⟨rfl, fun g => by have g2 := (e159.mp g.2.2).2; omega⟩ | exact Or.inl ⟨rfl, ww.1, ww.2.1, e159.mpr ⟨ww.2.2, fun g => by (rw [← e_x58, ← e_x59]; assumption)⟩⟩ | exact Or.inr ⟨rfl, fun g => (e159.mp g.2.2).2 (by rw [d54]; assumption) (by rw [← e_x58, ← e_x59]; assumption)⟩) | fail)) (show u3_159 + (m_128 : Int) ≥ 30400 from by (first | omega | (simp only [st_s] <;> omega) | assumption | omega | fail))
              ·
                refine ⟨(show 0 ≤ u4_159 ∧ u4_159 < 30400 from by (first | omega | (simp only [st_s] <;> omega) | assumption | omega | fail)), ?_⟩
                intro x58 r_x58 e_x58
                have b_x58 : 0 ≤ x58 ∧ x58 ≤ 999 := by rw [e_x58]; exact hT.2 16 _
                intro x59 r_x59 e_x59
                have b_x59 : 0 ≤ x59 ∧ x59 ≤ 999 := by rw [e_x59]; exact hT.2 16 _
                refine ⟨fun c60 => ?_, fun c60 => ?_⟩
                ·
                  refine ⟨(⟨by (first | omega | (simp only [st_s] <;> omega) | assumption | omega | fail), by (first | omega | (simp only [st_s] <;> omega) | assumption | omega | fail)⟩ : rg (u4_159 + 1)), ?_⟩
                  exact ih_159 _ _ _ (show (30500 - (u4_159 + 1) : Int) < ((m_159 : Nat) : Int) from by ((first | omega | (simp only [st_s] <;> omega) | assumption | omega | fail))) (show (σ.2.1 13 n1 = 2 ∧ 2 ≤ σ.2.1 15 n1 ∧ σ.2.1 8 (σ.2.1 16 (σ.2.1 14 n1)) = 0 ∧ ¬ σ.2.1 16 (σ.2.1 14 n1) = (σ.1 11)) from by (first | omega | (simp only [st_s] <;> omega) | assumption | omega | fail)) (show σ.2.1 14 n1 + 1 ≤ u3_159 from by (first | omega | (simp only [st_s] <;> omega) | assumption | omega | fail)) (show u3_159 < (σ.2.1 14 n1 + σ.2.1 15 n1) from by (first | omega | (simp only [st_s] <;> omega) | assumption | omega | fail)) (show σ.2.1 14 n1 + 1 ≤ (u4_159 + 1) from by (first | omega | (simp only [st_s] <;> omega) | assumption | omega | fail)) (show (u4_159 + 1) ≤ u3_159 from by (first | omega | (simp only [st_s] <;> omega) | assumption | omega | fail)) (show (0 = 1 ∧ (y_h1 (σ.1 11) (σ.2.1 13) (σ.2.1 14) (σ.2.1 16) (σ.2.1 20) (σ.2.1 18 n1) (σ.2.1 18 n1 + σ.2.1 19 n1) ∧ y_h2 (σ.2.1 8) (σ.2.1 16) (σ.2.1 14 n1 + 1) u3_159 ∧ y_h3 (σ.2.1 8) (σ.2.1 16) (σ.2.1 14 n1 + 1) (u4_159 + 1) u3_159)) ∨ (0 = 0 ∧ ¬ (y_h1 (σ.1 11) (σ.2.1 13) (σ.2.1 14) (σ.2.1 16) (σ.2.1 20) (σ.2.1 18 n1) (σ.2.1 18 n1 + σ.2.1 19 n1) ∧ y_h2 (σ.2.1 8) (σ.2.1 16) (σ.2.1 14 n1 + 1) u3_159 ∧ y_h3 (σ.2.1 8) (σ.2.1 16) (σ.2.1 14 n1 + 1) (u4_159 + 1) u3_159)) from by (first | (have q9 := i128_4; rcases q9 with ⟨zz, ww⟩ | ⟨zz, ww⟩; (exact Or.inl ⟨zz, ww.1, ww.2, fun p a b => by exfalso; omega⟩); (exact Or.inr ⟨zz, fun g => ww ⟨g.1, g.2.1⟩⟩)) | (have q9 := i159_6; rcases q9 with ⟨zz, ww⟩ | ⟨zz, ww⟩ <;> first | (exfalso; omega) | exact Or.inl ⟨rfl, ww.1, ww.2.1, e159.mpr ⟨ww.2.2, fun g => by omega⟩⟩ | exact Or.inr ⟨rfl, fun g => by have g2 := (e159.mp g.2.2).2; omega⟩ | exact Or.inl ⟨rfl, ww.1, ww.2.1, e159.mpr ⟨ww.2.2, fun g => by (rw [← e_x58, ← e_x59]; assumption)⟩⟩ | exact Or.inr ⟨rfl, fun g => (e159.mp g.2.2).2 (by rw [d54]; assumption) (by rw [← e_x58, ← e_x59]; assumption)⟩) | fail)) (show u3_159 + (m_128 : Int) ≥ 30400 from by (first | omega | (simp only [st_s] <;> omega) | assumption | omega | fail))
                ·
                  refine ⟨(⟨by (first | omega | (simp only [st_s] <;> omega) | assumption | omega | fail), by (first | omega | (simp only [st_s] <;> omega) | assumption | omega | fail)⟩ : rg (u4_159 + 1)), ?_⟩
                  exact ih_159 _ _ _ (show (30500 - (u4_159 + 1) : Int) < ((m_159 : Nat) : Int) from by ((first | omega | (simp only [st_s] <;> omega) | assumption | omega | fail))) (show (σ.2.1 13 n1 = 2 ∧ 2 ≤ σ.2.1 15 n1 ∧ σ.2.1 8 (σ.2.1 16 (σ.2.1 14 n1)) = 0 ∧ ¬ σ.2.1 16 (σ.2.1 14 n1) = (σ.1 11)) from by (first | omega | (simp only [st_s] <;> omega) | assumption | omega | fail)) (show σ.2.1 14 n1 + 1 ≤ u3_159 from by (first | omega | (simp only [st_s] <;> omega) | assumption | omega | fail)) (show u3_159 < (σ.2.1 14 n1 + σ.2.1 15 n1) from by (first | omega | (simp only [st_s] <;> omega) | assumption | omega | fail)) (show σ.2.1 14 n1 + 1 ≤ (u4_159 + 1) from by (first | omega | (simp only [st_s] <;> omega) | assumption | omega | fail)) (show (u4_159 + 1) ≤ u3_159 from by (first | omega | (simp only [st_s] <;> omega) | assumption | omega | fail)) (show (1 = 1 ∧ (y_h1 (σ.1 11) (σ.2.1 13) (σ.2.1 14) (σ.2.1 16) (σ.2.1 20) (σ.2.1 18 n1) (σ.2.1 18 n1 + σ.2.1 19 n1) ∧ y_h2 (σ.2.1 8) (σ.2.1 16) (σ.2.1 14 n1 + 1) u3_159 ∧ y_h3 (σ.2.1 8) (σ.2.1 16) (σ.2.1 14 n1 + 1) (u4_159 + 1) u3_159)) ∨ (1 = 0 ∧ ¬ (y_h1 (σ.1 11) (σ.2.1 13) (σ.2.1 14) (σ.2.1 16) (σ.2.1 20) (σ.2.1 18 n1) (σ.2.1 18 n1 + σ.2.1 19 n1) ∧ y_h2 (σ.2.1 8) (σ.2.1 16) (σ.2.1 14 n1 + 1) u3_159 ∧ y_h3 (σ.2.1 8) (σ.2.1 16) (σ.2.1 14 n1 + 1) (u4_159 + 1) u3_159)) from by (first | (have q9 := i128_4; rcases q9 with ⟨zz, ww⟩ | ⟨zz, ww⟩; (exact Or.inl ⟨zz, ww.1, ww.2, fun p a b => by exfalso; omega⟩); (exact Or.inr ⟨zz, fun g => ww ⟨g.1, g.2.1⟩⟩)) | (have q9 := i159_6; rcases q9 with ⟨zz, ww⟩ | ⟨zz, ww⟩ <;> first | (exfalso; omega) | exact Or.inl ⟨rfl, ww.1, ww.2.1, e159.mpr ⟨ww.2.2, fun g => by omega⟩⟩ | exact Or.inr ⟨rfl, fun g => by have g2 := (e159.mp g.2.2).2; omega⟩ | exact Or.inl ⟨rfl, ww.1, ww.2.1, e159.mpr ⟨ww.2.2, fun g => by (rw [← e_x58, ← e_x59]; assumption)⟩⟩ | exact Or.inr ⟨rfl, fun g => (e159.mp g.2.2).2 (by rw [d54]; assumption) (by rw [← e_x58, ← e_x59]; assumption)⟩) | fail)) (show u3_159 + (m_128 : Int) ≥ 30400 from by (first | omega | (simp only [st_s] <;> omega) | assumption | omega | fail))
      refine h128 n1 u2_128 u3_128 ?_
      refine ⟨(show 0 ≤ n1 ∧ n1 < 1501 from by (first | omega | (simp only [st_s] <;> omega) | assumption | omega | fail)), ?_⟩
      intro x38 r_x38 e_x38
      have b_x38 : 0 ≤ x38 ∧ x38 ≤ 30000 := by rw [e_x38]; exact hT.2 14 _
      intro x39 r_x39 e_x39
      have b_x39 : 0 ≤ x39 ∧ x39 ≤ 300 := by rw [e_x39]; exact hT.2 15 _
      refine ⟨(⟨by (first | omega | (simp only [st_s] <;> omega) | assumption | omega | fail), by (first | omega | (simp only [st_s] <;> omega) | assumption | omega | fail)⟩ : rg (x38 + x39)), ?_⟩
      refine ⟨fun c41 => ?_, fun c41 => ?_⟩
      ·
        refine ⟨(show 0 ≤ u2_128 ∧ u2_128 ≤ 1 from by (first | omega | (simp only [st_s] <;> omega) | assumption | omega | fail)), ?_⟩
        exact ⟨(show 0 ≤ u2_128 ∧ u2_128 ≤ 1 from by (first | omega | (simp only [st_s] <;> omega) | assumption | omega | fail)), (show ¬ u2_128 = 0 ↔ y_R σ n1 from by (first | exact ⟨fun q => absurd rfl q, fun g => by (have g1 := g.1; rw [← e_x2] at g1; omega)⟩ | exact ⟨fun q => absurd rfl q, fun g => by (have g1 := g.1; rw [← e_x4] at g1; omega)⟩ | exact ⟨fun q => absurd rfl q, fun g => absurd c12 (q9_3 (by omega) (by (rw [e_x8, e_x6]; exact g.1.2.2.1)) (by (rw [e_x8, e_x6]; exact g.1.2.2.2)))⟩ | (have q9 := i128_4; rcases q9 with ⟨zz, ww⟩ | ⟨zz, ww⟩; (exact ⟨fun _ => ⟨i128_1, ww.1, by (rw [show σ.2.1 14 n1 + σ.2.1 15 n1 = u3_128 by omega]; exact ww.2)⟩, fun _ => by omega⟩); (exact ⟨fun q => absurd zz q, fun g => absurd ⟨g.2.1, fun q a b => g.2.2 q a (by omega)⟩ ww⟩)) | fail))⟩
      ·
        refine ⟨fun c43 => ?_, fun c43 => ?_⟩
        ·
          refine ⟨(show 0 ≤ u2_128 ∧ u2_128 ≤ 1 from by (first | omega | (simp only [st_s] <;> omega) | assumption | omega | fail)), ?_⟩
          exact ⟨(show 0 ≤ u2_128 ∧ u2_128 ≤ 1 from by (first | omega | (simp only [st_s] <;> omega) | assumption | omega | fail)), (show ¬ u2_128 = 0 ↔ y_R σ n1 from by (first | exact ⟨fun q => absurd rfl q, fun g => by (have g1 := g.1; rw [← e_x2] at g1; omega)⟩ | exact ⟨fun q => absurd rfl q, fun g => by (have g1 := g.1; rw [← e_x4] at g1; omega)⟩ | exact ⟨fun q => absurd rfl q, fun g => absurd c12 (q9_3 (by omega) (by (rw [e_x8, e_x6]; exact g.1.2.2.1)) (by (rw [e_x8, e_x6]; exact g.1.2.2.2)))⟩ | (have q9 := i128_4; rcases q9 with ⟨zz, ww⟩ | ⟨zz, ww⟩; (exact ⟨fun _ => ⟨i128_1, ww.1, by (rw [show σ.2.1 14 n1 + σ.2.1 15 n1 = u3_128 by omega]; exact ww.2)⟩, fun _ => by omega⟩); (exact ⟨fun q => absurd zz q, fun g => absurd ⟨g.2.1, fun q a b => g.2.2 q a (by omega)⟩ ww⟩)) | fail))⟩
        ·
          intro x45 r_x45 e_x45
          have b_x45 : 0 ≤ x45 ∧ x45 ≤ 30000 := by rw [e_x45]; exact hT.2 14 _
          refine ⟨(⟨by (first | omega | (simp only [st_s] <;> omega) | assumption | omega | fail), by (first | omega | (simp only [st_s] <;> omega) | assumption | omega | fail)⟩ : rg (x45 + 1)), ?_⟩
          exact l_159 ((30500 - (x45 + 1) : Int).toNat + 1) _ _ _ (show (30500 - (x45 + 1) : Int) < (((30500 - (x45 + 1) : Int).toNat + 1 : Nat) : Int) from by ((first | omega | (simp only [st_s] <;> omega) | assumption | omega | fail))) (show (σ.2.1 13 n1 = 2 ∧ 2 ≤ σ.2.1 15 n1 ∧ σ.2.1 8 (σ.2.1 16 (σ.2.1 14 n1)) = 0 ∧ ¬ σ.2.1 16 (σ.2.1 14 n1) = (σ.1 11)) from by (first | omega | (simp only [st_s] <;> omega) | assumption | omega | fail)) (show σ.2.1 14 n1 + 1 ≤ u3_128 from by (first | omega | (simp only [st_s] <;> omega) | assumption | omega | fail)) (show u3_128 < (σ.2.1 14 n1 + σ.2.1 15 n1) from by (first | omega | (simp only [st_s] <;> omega) | assumption | omega | fail)) (show σ.2.1 14 n1 + 1 ≤ (x45 + 1) from by (first | omega | (simp only [st_s] <;> omega) | assumption | omega | fail)) (show (x45 + 1) ≤ u3_128 from by (first | omega | (simp only [st_s] <;> omega) | assumption | omega | fail)) (show (u2_128 = 1 ∧ (y_h1 (σ.1 11) (σ.2.1 13) (σ.2.1 14) (σ.2.1 16) (σ.2.1 20) (σ.2.1 18 n1) (σ.2.1 18 n1 + σ.2.1 19 n1) ∧ y_h2 (σ.2.1 8) (σ.2.1 16) (σ.2.1 14 n1 + 1) u3_128 ∧ y_h3 (σ.2.1 8) (σ.2.1 16) (σ.2.1 14 n1 + 1) (x45 + 1) u3_128)) ∨ (u2_128 = 0 ∧ ¬ (y_h1 (σ.1 11) (σ.2.1 13) (σ.2.1 14) (σ.2.1 16) (σ.2.1 20) (σ.2.1 18 n1) (σ.2.1 18 n1 + σ.2.1 19 n1) ∧ y_h2 (σ.2.1 8) (σ.2.1 16) (σ.2.1 14 n1 + 1) u3_128 ∧ y_h3 (σ.2.1 8) (σ.2.1 16) (σ.2.1 14 n1 + 1) (x45 + 1) u3_128)) from by (first | (have q9 := i128_4; rcases q9 with ⟨zz, ww⟩ | ⟨zz, ww⟩; (exact Or.inl ⟨zz, ww.1, ww.2, fun p a b => by exfalso; omega⟩); (exact Or.inr ⟨zz, fun g => ww ⟨g.1, g.2.1⟩⟩)) | (have q9 := i159_6; rcases q9 with ⟨zz, ww⟩ | ⟨zz, ww⟩ <;> first | (exfalso; omega) | exact Or.inl ⟨rfl, ww.1, ww.2.1, e159.mpr ⟨ww.2.2, fun g => by omega⟩⟩ | exact Or.inr ⟨rfl, fun g => by have g2 := (e159.mp g.2.2).2; omega⟩ | exact Or.inl ⟨rfl, ww.1, ww.2.1, e159.mpr ⟨ww.2.2, fun g => by (rw [← e_x58, ← e_x59]; assumption)⟩⟩ | exact Or.inr ⟨rfl, fun g => (e159.mp g.2.2).2 (by rw [d54]; assumption) (by rw [← e_x58, ← e_x59]; assumption)⟩) | fail)) (show u3_128 + (m_128 : Int) ≥ 30400 from by (first | omega | (simp only [st_s] <;> omega) | assumption | omega | fail))
  have l_49 : ∀ (m_49 : Nat) (u2_49 : Int) (u3_49 : Int), 90200 - u3_49 < (m_49 : Int) → (σ.2.1 13 n1 = 2 ∧ 2 ≤ σ.2.1 15 n1 ∧ σ.2.1 8 (σ.2.1 16 (σ.2.1 14 n1)) = 0 ∧ ¬ σ.2.1 16 (σ.2.1 14 n1) = (σ.1 11)) → (σ.2.1 18 n1 ≤ u3_49) → (u3_49 ≤ (σ.2.1 18 n1 + σ.2.1 19 n1)) → ((u2_49 = 1 ∧ (y_h1 (σ.1 11) (σ.2.1 13) (σ.2.1 14) (σ.2.1 16) (σ.2.1 20) (σ.2.1 18 n1) u3_49)) ∨ (u2_49 = 0 ∧ ¬ (y_h1 (σ.1 11) (σ.2.1 13) (σ.2.1 14) (σ.2.1 16) (σ.2.1 20) (σ.2.1 18 n1) u3_49))) → P49 n1 u2_49 u3_49 := by
    intro m_49
    induction m_49 with
    | zero =>
      intro u2_49 u3_49 hm i49_1 i49_2 i49_3 i49_4
      exfalso; (first | omega | (simp only [st_s] <;> omega) | assumption | omega | fail)
    | succ m_49 ih_49 =>
      intro u2_49 u3_49 hm_49 i49_1 i49_2 i49_3 i49_4
      have e49 := y_h1_s (tu := σ.1 11) (kd := σ.2.1 13) (ta := σ.2.1 14) (tx := σ.2.1 16) (hy := σ.2.1 20) i49_2
      refine h49 n1 u2_49 u3_49 ?_
      refine ⟨(show 0 ≤ n1 ∧ n1 < 1501 from by (first | omega | (simp only [st_s] <;> omega) | assumption | omega | fail)), ?_⟩
      intro x15 r_x15 e_x15
      have b_x15 : 0 ≤ x15 ∧ x15 ≤ 90000 := by rw [e_x15]; exact hT.2 18 _
      intro x16 r_x16 e_x16
      have b_x16 : 0 ≤ x16 ∧ x16 ≤ 60 := by rw [e_x16]; exact hT.2 19 _
      refine ⟨(⟨by (first | omega | (simp only [st_s] <;> omega) | assumption | omega | fail), by (first | omega | (simp only [st_s] <;> omega) | assumption | omega | fail)⟩ : rg (x15 + x16)), ?_⟩
      refine ⟨fun c18 => ?_, fun c18 => ?_⟩
      ·
        intro x19 r_x19 e_x19
        have b_x19 : 0 ≤ x19 ∧ x19 ≤ 30000 := by rw [e_x19]; exact hT.2 14 _
        refine ⟨(⟨by (first | omega | (simp only [st_s] <;> omega) | assumption | omega | fail), by (first | omega | (simp only [st_s] <;> omega) | assumption | omega | fail)⟩ : rg (x19 + 1)), ?_⟩
        exact l_128 ((30400 - (x19 + 1) : Int).toNat + 1) _ _ (show (30400 - (x19 + 1) : Int) < (((30400 - (x19 + 1) : Int).toNat + 1 : Nat) : Int) from by ((first | omega | (simp only [st_s] <;> omega) | assumption | omega | fail))) (show (σ.2.1 13 n1 = 2 ∧ 2 ≤ σ.2.1 15 n1 ∧ σ.2.1 8 (σ.2.1 16 (σ.2.1 14 n1)) = 0 ∧ ¬ σ.2.1 16 (σ.2.1 14 n1) = (σ.1 11)) from by (first | omega | (simp only [st_s] <;> omega) | assumption | omega | fail)) (show σ.2.1 14 n1 + 1 ≤ (x19 + 1) from by (first | omega | (simp only [st_s] <;> omega) | assumption | omega | fail)) (show (x19 + 1) ≤ (σ.2.1 14 n1 + σ.2.1 15 n1) from by (first | omega | (simp only [st_s] <;> omega) | assumption | omega | fail)) (show (u2_49 = 1 ∧ (y_h1 (σ.1 11) (σ.2.1 13) (σ.2.1 14) (σ.2.1 16) (σ.2.1 20) (σ.2.1 18 n1) (σ.2.1 18 n1 + σ.2.1 19 n1) ∧ y_h2 (σ.2.1 8) (σ.2.1 16) (σ.2.1 14 n1 + 1) (x19 + 1))) ∨ (u2_49 = 0 ∧ ¬ (y_h1 (σ.1 11) (σ.2.1 13) (σ.2.1 14) (σ.2.1 16) (σ.2.1 20) (σ.2.1 18 n1) (σ.2.1 18 n1 + σ.2.1 19 n1) ∧ y_h2 (σ.2.1 8) (σ.2.1 16) (σ.2.1 14 n1 + 1) (x19 + 1))) from by (first | (have q9 := i49_4; rcases q9 with ⟨zz, ww⟩ | ⟨zz, ww⟩; (exact Or.inl ⟨zz, by (rw [show u3_49 = σ.2.1 18 n1 + σ.2.1 19 n1 by omega] at ww; exact ww), fun k a b => by exfalso; omega⟩); (exact Or.inr ⟨zz, fun g => ww (by rw [show u3_49 = σ.2.1 18 n1 + σ.2.1 19 n1 by omega]; exact g.1)⟩)) | (have q9 := i159_6; rcases q9 with ⟨zz, ww⟩ | ⟨zz, ww⟩; (exact Or.inl ⟨zz, ww.1, e128.mpr ⟨ww.2.1, by (rw [show u4_159 = u3_159 by omega] at ww; exact ww.2.2)⟩⟩); (exact Or.inr ⟨zz, fun g => ww ⟨g.1, (e128.mp g.2).1, by (rw [show u4_159 = u3_159 by omega]; exact (e128.mp g.2).2)⟩⟩)) | (have q9 := i159_6; rcases q9 with ⟨zz, ww⟩ | ⟨zz, ww⟩; (exfalso; omega); (exact Or.inr ⟨zz, fun g => ww ⟨g.1, (e128.mp g.2).1, fun p a b => (e128.mp g.2).2 p a (by omega)⟩⟩)) | fail))
      ·
        refine ⟨fun c21 => ?_, fun c21 => ?_⟩
        ·
          refine ⟨(⟨by (first | omega | (simp only [st_s] <;> omega) | assumption | omega | fail), by (first | omega | (simp only [st_s] <;> omega) | assumption | omega | fail)⟩ : rg (u3_49 + 1)), ?_⟩
          exact ih_49 _ _ (show (90200 - (u3_49 + 1) : Int) < ((m_49 : Nat) : Int) from by ((first | omega | (simp only [st_s] <;> omega) | assumption | omega | fail))) (show (σ.2.1 13 n1 = 2 ∧ 2 ≤ σ.2.1 15 n1 ∧ σ.2.1 8 (σ.2.1 16 (σ.2.1 14 n1)) = 0 ∧ ¬ σ.2.1 16 (σ.2.1 14 n1) = (σ.1 11)) from by (first | exact i49_1 | exact ⟨by omega, by omega, by (rw [← e_x6, ← e_x8]; exact (q9_2 c12).1), by (rw [← e_x6, ← e_x8]; exact (q9_2 c12).2)⟩ | fail)) (show σ.2.1 18 n1 ≤ (u3_49 + 1) from by (first | omega | (simp only [st_s] <;> omega) | assumption | omega | fail)) (show (u3_49 + 1) ≤ (σ.2.1 18 n1 + σ.2.1 19 n1) from by (first | omega | (simp only [st_s] <;> omega) | assumption | omega | fail)) (show (0 = 1 ∧ (y_h1 (σ.1 11) (σ.2.1 13) (σ.2.1 14) (σ.2.1 16) (σ.2.1 20) (σ.2.1 18 n1) (u3_49 + 1))) ∨ (0 = 0 ∧ ¬ (y_h1 (σ.1 11) (σ.2.1 13) (σ.2.1 14) (σ.2.1 16) (σ.2.1 20) (σ.2.1 18 n1) (u3_49 + 1))) from by (first | exact Or.inl ⟨rfl, fun k a b => by exfalso; omega⟩ | (have q9 := i49_4; rcases q9 with ⟨zz, ww⟩ | ⟨zz, ww⟩ <;> first | (exfalso; omega) | exact Or.inl ⟨rfl, e49.mpr ⟨ww, by omega, by omega⟩⟩ | exact Or.inr ⟨rfl, fun g => ww (e49.mp g).1⟩ | exact Or.inr ⟨rfl, fun g => by have g2 := (e49.mp g).2; omega⟩) | fail))
        ·
          refine ⟨(show 0 ≤ u3_49 ∧ u3_49 < 90100 from by (first | omega | (simp only [st_s] <;> omega) | assumption | omega | fail)), ?_⟩
          intro x24 r_x24 e_x24
          have b_x24 : 0 ≤ x24 ∧ x24 ≤ 1499 := by rw [e_x24]; exact hT.2 20 _
          refine ⟨(show 0 ≤ x24 ∧ x24 < 1501 from by (first | omega | (simp only [st_s] <;> omega) | assumption | omega | fail)), ?_⟩
          intro x26 r_x26 e_x26
          have b_x26 : 0 ≤ x26 ∧ x26 ≤ 4 := by rw [e_x26]; exact hT.2 13 _
          have d26 : σ.2.1 13 (σ.2.1 20 u3_49) = x26 := by rw [← e_x24, ← e_x26]
          refine ⟨fun c27 => ?_, fun c27 => ?_⟩
          ·
            refine ⟨(⟨by (first | omega | (simp only [st_s] <;> omega) | assumption | omega | fail), by (first | omega | (simp only [st_s] <;> omega) | assumption | omega | fail)⟩ : rg (u3_49 + 1)), ?_⟩
            exact ih_49 _ _ (show (90200 - (u3_49 + 1) : Int) < ((m_49 : Nat) : Int) from by ((first | omega | (simp only [st_s] <;> omega) | assumption | omega | fail))) (show (σ.2.1 13 n1 = 2 ∧ 2 ≤ σ.2.1 15 n1 ∧ σ.2.1 8 (σ.2.1 16 (σ.2.1 14 n1)) = 0 ∧ ¬ σ.2.1 16 (σ.2.1 14 n1) = (σ.1 11)) from by (first | exact i49_1 | exact ⟨by omega, by omega, by (rw [← e_x6, ← e_x8]; exact (q9_2 c12).1), by (rw [← e_x6, ← e_x8]; exact (q9_2 c12).2)⟩ | fail)) (show σ.2.1 18 n1 ≤ (u3_49 + 1) from by (first | omega | (simp only [st_s] <;> omega) | assumption | omega | fail)) (show (u3_49 + 1) ≤ (σ.2.1 18 n1 + σ.2.1 19 n1) from by (first | omega | (simp only [st_s] <;> omega) | assumption | omega | fail)) (show (0 = 1 ∧ (y_h1 (σ.1 11) (σ.2.1 13) (σ.2.1 14) (σ.2.1 16) (σ.2.1 20) (σ.2.1 18 n1) (u3_49 + 1))) ∨ (0 = 0 ∧ ¬ (y_h1 (σ.1 11) (σ.2.1 13) (σ.2.1 14) (σ.2.1 16) (σ.2.1 20) (σ.2.1 18 n1) (u3_49 + 1))) from by (first | exact Or.inl ⟨rfl, fun k a b => by exfalso; omega⟩ | (have q9 := i49_4; rcases q9 with ⟨zz, ww⟩ | ⟨zz, ww⟩ <;> first | (exfalso; omega) | exact Or.inl ⟨rfl, e49.mpr ⟨ww, by omega, by omega⟩⟩ | exact Or.inr ⟨rfl, fun g => ww (e49.mp g).1⟩ | exact Or.inr ⟨rfl, fun g => by have g2 := (e49.mp g).2; omega⟩) | fail))
          ·
            intro x29 r_x29 e_x29
            have b_x29 : 0 ≤ x29 ∧ x29 ≤ 1499 := by rw [e_x29]; exact hT.2 20 _
            refine ⟨(show 0 ≤ x29 ∧ x29 < 1501 from by (first | omega | (simp only [st_s] <;> omega) | assumption | omega | fail)), ?_⟩
            intro x31 r_x31 e_x31
            have b_x31 : 0 ≤ x31 ∧ x31 ≤ 30000 := by rw [e_x31]; exact hT.2 14 _
            refine ⟨(show 0 ≤ x31 ∧ x31 < 30400 from by (first | omega | (simp only [st_s] <;> omega) | assumption | omega | fail)), ?_⟩
            intro x33 r_x33 e_x33
            have b_x33 : 0 ≤ x33 ∧ x33 ≤ 999 := by rw [e_x33]; exact hT.2 16 _
            have d33 : σ.2.1 16 (σ.2.1 14 (σ.2.1 20 u3_49)) = x33 := by rw [← e_x29, ← e_x31, ← e_x33]
            refine ⟨fun c34 => ?_, fun c34 => ?_⟩
            ·
              refine ⟨(⟨by (first | omega | (simp only [st_s] <;> omega) | assumption | omega | fail), by (first | omega | (simp only [st_s] <;> omega) | assumption | omega | fail)⟩ : rg (u3_49 + 1)), ?_⟩
              exact ih_49 _ _ (show (90200 - (u3_49 + 1) : Int) < ((m_49 : Nat) : Int) from by ((first | omega | (simp only [st_s] <;> omega) | assumption | omega | fail))) (show (σ.2.1 13 n1 = 2 ∧ 2 ≤ σ.2.1 15 n1 ∧ σ.2.1 8 (σ.2.1 16 (σ.2.1 14 n1)) = 0 ∧ ¬ σ.2.1 16 (σ.2.1 14 n1) = (σ.1 11)) from by (first | exact i49_1 | exact ⟨by omega, by omega, by (rw [← e_x6, ← e_x8]; exact (q9_2 c12).1), by (rw [← e_x6, ← e_x8]; exact (q9_2 c12).2)⟩ | fail)) (show σ.2.1 18 n1 ≤ (u3_49 + 1) from by (first | omega | (simp only [st_s] <;> omega) | assumption | omega | fail)) (show (u3_49 + 1) ≤ (σ.2.1 18 n1 + σ.2.1 19 n1) from by (first | omega | (simp only [st_s] <;> omega) | assumption | omega | fail)) (show (0 = 1 ∧ (y_h1 (σ.1 11) (σ.2.1 13) (σ.2.1 14) (σ.2.1 16) (σ.2.1 20) (σ.2.1 18 n1) (u3_49 + 1))) ∨ (0 = 0 ∧ ¬ (y_h1 (σ.1 11) (σ.2.1 13) (σ.2.1 14) (σ.2.1 16) (σ.2.1 20) (σ.2.1 18 n1) (u3_49 + 1))) from by (first | exact Or.inl ⟨rfl, fun k a b => by exfalso; omega⟩ | (have q9 := i49_4; rcases q9 with ⟨zz, ww⟩ | ⟨zz, ww⟩ <;> first | (exfalso; omega) | exact Or.inl ⟨rfl, e49.mpr ⟨ww, by omega, by omega⟩⟩ | exact Or.inr ⟨rfl, fun g => ww (e49.mp g).1⟩ | exact Or.inr ⟨rfl, fun g => by have g2 := (e49.mp g).2; omega⟩) | fail))
            ·
              refine ⟨(⟨by (first | omega | (simp only [st_s] <;> omega) | assumption | omega | fail), by (first | omega | (simp only [st_s] <;> omega) | assumption | omega | fail)⟩ : rg (u3_49 + 1)), ?_⟩
              exact ih_49 _ _ (show (90200 - (u3_49 + 1) : Int) < ((m_49 : Nat) : Int) from by ((first | omega | (simp only [st_s] <;> omega) | assumption | omega | fail))) (show (σ.2.1 13 n1 = 2 ∧ 2 ≤ σ.2.1 15 n1 ∧ σ.2.1 8 (σ.2.1 16 (σ.2.1 14 n1)) = 0 ∧ ¬ σ.2.1 16 (σ.2.1 14 n1) = (σ.1 11)) from by (first | exact i49_1 | exact ⟨by omega, by omega, by (rw [← e_x6, ← e_x8]; exact (q9_2 c12).1), by (rw [← e_x6, ← e_x8]; exact (q9_2 c12).2)⟩ | fail)) (show σ.2.1 18 n1 ≤ (u3_49 + 1) from by (first | omega | (simp only [st_s] <;> omega) | assumption | omega | fail)) (show (u3_49 + 1) ≤ (σ.2.1 18 n1 + σ.2.1 19 n1) from by (first | omega | (simp only [st_s] <;> omega) | assumption | omega | fail)) (show (1 = 1 ∧ (y_h1 (σ.1 11) (σ.2.1 13) (σ.2.1 14) (σ.2.1 16) (σ.2.1 20) (σ.2.1 18 n1) (u3_49 + 1))) ∨ (1 = 0 ∧ ¬ (y_h1 (σ.1 11) (σ.2.1 13) (σ.2.1 14) (σ.2.1 16) (σ.2.1 20) (σ.2.1 18 n1) (u3_49 + 1))) from by (first | exact Or.inl ⟨rfl, fun k a b => by exfalso; omega⟩ | (have q9 := i49_4; rcases q9 with ⟨zz, ww⟩ | ⟨zz, ww⟩ <;> first | (exfalso; omega) | exact Or.inl ⟨rfl, e49.mpr ⟨ww, by omega, by omega⟩⟩ | exact Or.inr ⟨rfl, fun g => ww (e49.mp g).1⟩ | exact Or.inr ⟨rfl, fun g => by have g2 := (e49.mp g).2; omega⟩) | fail))
  refine ⟨(show 0 ≤ n1 ∧ n1 < 1501 from by (first | omega | (simp only [st_s] <;> omega) | assumption | omega | fail)), ?_⟩
  intro x2 r_x2 e_x2
  have b_x2 : 0 ≤ x2 ∧ x2 ≤ 4 := by rw [e_x2]; exact hT.2 13 _
  refine ⟨fun c3 => ?_, fun c3 => ?_⟩
  ·
    exact ⟨(show 0 ≤ 0 ∧ 0 ≤ 1 from by (first | omega | (simp only [st_s] <;> omega) | assumption | omega | fail)), (show ¬ 0 = 0 ↔ y_R σ n1 from by (first | exact ⟨fun q => absurd rfl q, fun g => by (have g1 := g.1; rw [← e_x2] at g1; omega)⟩ | exact ⟨fun q => absurd rfl q, fun g => by (have g1 := g.1; rw [← e_x4] at g1; omega)⟩ | exact ⟨fun q => absurd rfl q, fun g => absurd c12 (q9_3 (by omega) (by (rw [e_x8, e_x6]; exact g.1.2.2.1)) (by (rw [e_x8, e_x6]; exact g.1.2.2.2)))⟩ | (have q9 := i128_4; rcases q9 with ⟨zz, ww⟩ | ⟨zz, ww⟩; (exact ⟨fun _ => ⟨i128_1, ww.1, by (rw [show σ.2.1 14 n1 + σ.2.1 15 n1 = u3_128 by omega]; exact ww.2)⟩, fun _ => by omega⟩); (exact ⟨fun q => absurd zz q, fun g => absurd ⟨g.2.1, fun q a b => g.2.2 q a (by omega)⟩ ww⟩)) | fail))⟩
  ·
    intro x4 r_x4 e_x4
    have b_x4 : 0 ≤ x4 ∧ x4 ≤ 300 := by rw [e_x4]; exact hT.2 15 _
    refine ⟨fun c5 => ?_, fun c5 => ?_⟩
    ·
      exact ⟨(show 0 ≤ 0 ∧ 0 ≤ 1 from by (first | omega | (simp only [st_s] <;> omega) | assumption | omega | fail)), (show ¬ 0 = 0 ↔ y_R σ n1 from by (first | exact ⟨fun q => absurd rfl q, fun g => by (have g1 := g.1; rw [← e_x2] at g1; omega)⟩ | exact ⟨fun q => absurd rfl q, fun g => by (have g1 := g.1; rw [← e_x4] at g1; omega)⟩ | exact ⟨fun q => absurd rfl q, fun g => absurd c12 (q9_3 (by omega) (by (rw [e_x8, e_x6]; exact g.1.2.2.1)) (by (rw [e_x8, e_x6]; exact g.1.2.2.2)))⟩ | (have q9 := i128_4; rcases q9 with ⟨zz, ww⟩ | ⟨zz, ww⟩; (exact ⟨fun _ => ⟨i128_1, ww.1, by (rw [show σ.2.1 14 n1 + σ.2.1 15 n1 = u3_128 by omega]; exact ww.2)⟩, fun _ => by omega⟩); (exact ⟨fun q => absurd zz q, fun g => absurd ⟨g.2.1, fun q a b => g.2.2 q a (by omega)⟩ ww⟩)) | fail))⟩
    ·
      intro x6 r_x6 e_x6
      have b_x6 : 0 ≤ x6 ∧ x6 ≤ 30000 := by rw [e_x6]; exact hT.2 14 _
      refine ⟨(show 0 ≤ x6 ∧ x6 < 30400 from by (first | omega | (simp only [st_s] <;> omega) | assumption | omega | fail)), ?_⟩
      intro x8 r_x8 e_x8
      have b_x8 : 0 ≤ x8 ∧ x8 ≤ 999 := by rw [e_x8]; exact hT.2 16 _
      refine ⟨_, K_X13_isSort hT (show -1 ≤ x8 from by (first | omega | (simp only [st_s] <;> omega) | assumption | omega | fail)) (show x8 < 1001 from by (first | omega | (simp only [st_s] <;> omega) | assumption | omega | fail)), ?_⟩
      intro x10 r_x10 hq
      obtain ⟨q9_1, q9_2, q9_3⟩ := hq
      replace q9_1 : 0 ≤ x10 ∧ x10 ≤ 1 := q9_1
      replace q9_2 : ¬ x10 = 0 → σ.2.1 8 x8 = 0 ∧ ¬ x8 = (σ.1 11) := q9_2
      replace q9_3 : 0 ≤ x8 → σ.2.1 8 x8 = 0 → ¬ x8 = (σ.1 11) → ¬ x10 = 0 := q9_3
      refine ⟨fun c12 => ?_, fun c12 => ?_⟩
      ·
        intro x13 r_x13 e_x13
        have b_x13 : 0 ≤ x13 ∧ x13 ≤ 90000 := by rw [e_x13]; exact hT.2 18 _
        exact l_49 ((90200 - x13 : Int).toNat + 1) _ _ (show (90200 - x13 : Int) < (((90200 - x13 : Int).toNat + 1 : Nat) : Int) from by ((first | omega | (simp only [st_s] <;> omega) | assumption | omega | fail))) (show (σ.2.1 13 n1 = 2 ∧ 2 ≤ σ.2.1 15 n1 ∧ σ.2.1 8 (σ.2.1 16 (σ.2.1 14 n1)) = 0 ∧ ¬ σ.2.1 16 (σ.2.1 14 n1) = (σ.1 11)) from by (first | exact i49_1 | exact ⟨by omega, by omega, by (rw [← e_x6, ← e_x8]; exact (q9_2 c12).1), by (rw [← e_x6, ← e_x8]; exact (q9_2 c12).2)⟩ | fail)) (show σ.2.1 18 n1 ≤ x13 from by (first | omega | (simp only [st_s] <;> omega) | assumption | omega | fail)) (show x13 ≤ (σ.2.1 18 n1 + σ.2.1 19 n1) from by (first | omega | (simp only [st_s] <;> omega) | assumption | omega | fail)) (show (1 = 1 ∧ (y_h1 (σ.1 11) (σ.2.1 13) (σ.2.1 14) (σ.2.1 16) (σ.2.1 20) (σ.2.1 18 n1) x13)) ∨ (1 = 0 ∧ ¬ (y_h1 (σ.1 11) (σ.2.1 13) (σ.2.1 14) (σ.2.1 16) (σ.2.1 20) (σ.2.1 18 n1) x13)) from by (first | exact Or.inl ⟨rfl, fun k a b => by exfalso; omega⟩ | (have q9 := i49_4; rcases q9 with ⟨zz, ww⟩ | ⟨zz, ww⟩ <;> first | (exfalso; omega) | exact Or.inl ⟨rfl, e49.mpr ⟨ww, by omega, by omega⟩⟩ | exact Or.inr ⟨rfl, fun g => ww (e49.mp g).1⟩ | exact Or.inr ⟨rfl, fun g => by have g2 := (e49.mp g).2; omega⟩) | fail))
      ·
        exact ⟨(show 0 ≤ 0 ∧ 0 ≤ 1 from by (first | omega | (simp only [st_s] <;> omega) | assumption | omega | fail)), (show ¬ 0 = 0 ↔ y_R σ n1 from by (first | exact ⟨fun q => absurd rfl q, fun g => by (have g1 := g.1; rw [← e_x2] at g1; omega)⟩ | exact ⟨fun q => absurd rfl q, fun g => by (have g1 := g.1; rw [← e_x4] at g1; omega)⟩ | exact ⟨fun q => absurd rfl q, fun g => absurd c12 (q9_3 (by omega) (by (rw [e_x8, e_x6]; exact g.1.2.2.1)) (by (rw [e_x8, e_x6]; exact g.1.2.2.2)))⟩ | (have q9 := i128_4; rcases q9 with ⟨zz, ww⟩ | ⟨zz, ww⟩; (exact ⟨fun _ => ⟨i128_1, ww.1, by (rw [show σ.2.1 14 n1 + σ.2.1 15 n1 = u3_128 by omega]; exact ww.2)⟩, fun _ => by omega⟩); (exact ⟨fun q => absurd zz q, fun g => absurd ⟨g.2.1, fun q a b => g.2.2 q a (by omega)⟩ ww⟩)) | fail))⟩
set_option maxHeartbeats 1000000 in
theorem K_X13_isUnit {n1 : Int} {σ : S0} (hT : m_T σ) (p1 : 0 ≤ n1) (p2 : n1 < (σ.1 5)) : W_X13_isUnit n1 σ (fun (x : Int) => (0 ≤ x ∧ x ≤ 1) ∧ (¬ x = 0 ↔ y_U σ n1)) := by
  have A8 : ∀ j, 0 ≤ σ.2.1 8 j ∧ σ.2.1 8 j ≤ 1 := fun j => hT.2 8 j
  have A14 : ∀ j, 0 ≤ σ.2.1 14 j ∧ σ.2.1 14 j ≤ 30000 := fun j => hT.2 14 j
  have A15 : ∀ j, 0 ≤ σ.2.1 15 j ∧ σ.2.1 15 j ≤ 300 := fun j => hT.2 15 j
  have A16 : ∀ j, 0 ≤ σ.2.1 16 j ∧ σ.2.1 16 j ≤ 999 := fun j => hT.2 16 j
  have v5 : 0 ≤ σ.1 5 ∧ σ.1 5 ≤ 1500 := hT.1 5
  unfold W_X13_isUnit
  refine ⟨(show 0 ≤ n1 ∧ n1 < 1501 from by (first | omega | (simp only [st_s] <;> omega) | assumption | omega | fail)), ?_⟩
  intro x2 r_x2 e_x2
  have b_x2 : 0 ≤ x2 ∧ x2 ≤ 300 := by rw [e_x2]; exact hT.2 15 _
  refine ⟨fun c3 => ?_, fun c3 => ?_⟩
  ·
    exact ⟨(show 0 ≤ 0 ∧ 0 ≤ 1 from by (first | omega | (simp only [st_s] <;> omega) | assumption | omega | fail)), (show ¬ 0 = 0 ↔ y_U σ n1 from by (unfold y_U y_nn y_f; first | (refine ⟨fun q => absurd rfl q, fun g => ?_⟩; exfalso; omega) | (rw [← e_x4, ← e_x6, ← e_x8, if_pos (by assumption)]; refine ⟨fun q => absurd rfl q, fun g => ?_⟩; exfalso; omega) | (rw [← e_x4, ← e_x6, ← e_x8, if_neg (by assumption)]; have t10 := hT.2 10 x6; refine ⟨fun _ => ⟨by omega, ?_⟩, fun _ => by omega⟩; have t11 : -1 ≤ σ.2.1 10 x6 := t10.1; omega)))⟩
  ·
    intro x4 r_x4 e_x4
    have b_x4 : 0 ≤ x4 ∧ x4 ≤ 30000 := by rw [e_x4]; exact hT.2 14 _
    refine ⟨(show 0 ≤ (x4 + 1) ∧ (x4 + 1) < 30400 from by (first | omega | (simp only [st_s] <;> omega) | assumption | omega | fail)), ?_⟩
    intro x6 r_x6 e_x6
    have b_x6 : 0 ≤ x6 ∧ x6 ≤ 999 := by rw [e_x6]; exact hT.2 16 _
    refine ⟨(show 0 ≤ x6 ∧ x6 < 1001 from by (first | omega | (simp only [st_s] <;> omega) | assumption | omega | fail)), ?_⟩
    intro x8 r_x8 e_x8
    have b_x8 : 0 ≤ x8 ∧ x8 ≤ 1 := by rw [e_x8]; exact hT.2 8 _
    refine ⟨fun c9 => ?_, fun c9 => ?_⟩
    ·
      exact ⟨(show 0 ≤ 0 ∧ 0 ≤ 1 from by (first | omega | (simp only [st_s] <;> omega) | assumption | omega | fail)), (show ¬ 0 = 0 ↔ y_U σ n1 from by (unfold y_U y_nn y_f; first | (refine ⟨fun q => absurd rfl q, fun g => ?_⟩; exfalso; omega) | (rw [← e_x4, ← e_x6, ← e_x8, if_pos (by assumption)]; refine ⟨fun q => absurd rfl q, fun g => ?_⟩; exfalso; omega) | (rw [← e_x4, ← e_x6, ← e_x8, if_neg (by assumption)]; have t10 := hT.2 10 x6; refine ⟨fun _ => ⟨by omega, ?_⟩, fun _ => by omega⟩; have t11 : -1 ≤ σ.2.1 10 x6 := t10.1; omega)))⟩
    ·
      exact ⟨(show 0 ≤ 1 ∧ 1 ≤ 1 from by (first | omega | (simp only [st_s] <;> omega) | assumption | omega | fail)), (show ¬ 1 = 0 ↔ y_U σ n1 from by (unfold y_U y_nn y_f; first | (refine ⟨fun q => absurd rfl q, fun g => ?_⟩; exfalso; omega) | (rw [← e_x4, ← e_x6, ← e_x8, if_pos (by assumption)]; refine ⟨fun q => absurd rfl q, fun g => ?_⟩; exfalso; omega) | (rw [← e_x4, ← e_x6, ← e_x8, if_neg (by assumption)]; have t10 := hT.2 10 x6; refine ⟨fun _ => ⟨by omega, ?_⟩, fun _ => by omega⟩; have t11 : -1 ≤ σ.2.1 10 x6 := t10.1; omega)))⟩
set_option maxHeartbeats 1000000 in
theorem K_X13_newRuleNode {n1 : Int} {n2 : Int} {σ : S0} (hT : m_T σ) (p1 : (σ.1 47) ≤ 30000) (p2 : -1 ≤ n1) (p3 : n1 ≤ 30001) (p4 : -1001 ≤ n2) (p5 : n2 ≤ 999) : W_X13_newRuleNode n1 n2 σ (fun (x : Int) (τ : S0) => (m_T τ) ∧ (x = (σ.1 47)) ∧ ((τ.1 47) = (σ.1 47) + 1) ∧ (τ.2.1 77 = st (σ.2.1 77) (σ.1 47) n2) ∧ (τ.2.1 78 = st (σ.2.1 78) (σ.1 47) n1) ∧ (τ.2.1 79 = st (σ.2.1 79) (σ.1 47) (-1)) ∧ (τ.2.1 80 = st (σ.2.1 80) (σ.1 47) (-1)) ∧ (τ.2.1 81 = st (σ.2.1 81) (σ.1 47) 1500) ∧ (τ.2.1 82 = st (σ.2.1 82) (σ.1 47) 1500) ∧ (τ.2.1 83 = st (σ.2.1 83) (σ.1 47) 1500)) := by
  have A77 : ∀ j, (-1001) ≤ σ.2.1 77 j ∧ σ.2.1 77 j ≤ 999 := fun j => hT.2 77 j
  have A78 : ∀ j, (-1) ≤ σ.2.1 78 j ∧ σ.2.1 78 j ≤ 30001 := fun j => hT.2 78 j
  have A79 : ∀ j, (-1) ≤ σ.2.1 79 j ∧ σ.2.1 79 j ≤ 30001 := fun j => hT.2 79 j
  have A80 : ∀ j, (-1) ≤ σ.2.1 80 j ∧ σ.2.1 80 j ≤ 30001 := fun j => hT.2 80 j
  have A81 : ∀ j, 0 ≤ σ.2.1 81 j ∧ σ.2.1 81 j ≤ 1500 := fun j => hT.2 81 j
  have A82 : ∀ j, 0 ≤ σ.2.1 82 j ∧ σ.2.1 82 j ≤ 1500 := fun j => hT.2 82 j
  have A83 : ∀ j, 0 ≤ σ.2.1 83 j ∧ σ.2.1 83 j ≤ 1500 := fun j => hT.2 83 j
  have v47 : 0 ≤ σ.1 47 ∧ σ.1 47 ≤ 30001 := hT.1 47
  unfold W_X13_newRuleNode
  refine ⟨(⟨by (first | omega | (simp only [st_s] <;> omega) | assumption | omega | fail), by (first | omega | (simp only [st_s] <;> omega) | assumption | omega | fail)⟩ : rg (σ.1 47 + 1)), ?_⟩
  replace hT := mT_v (i := 47) hT (show 0 ≤ (σ.1 47 + 1) ∧ (σ.1 47 + 1) ≤ 30001 from by (first | omega | (simp only [st_s] <;> omega) | assumption | omega | fail))
  refine ⟨(show 0 ≤ σ.1 47 ∧ σ.1 47 < 30002 from by (first | omega | (simp only [st_s] <;> omega) | assumption | omega | fail)), ?_⟩
  replace hT := mT_a (k := 77) (j := (σ.1 47)) hT (show (-1001 : Int) ≤ n2 ∧ n2 ≤ 999 from by (first | omega | (simp only [st_s] <;> omega) | assumption | omega | fail))
  replace hT := mT_a (k := 78) (j := (σ.1 47)) hT (show (-1 : Int) ≤ n1 ∧ n1 ≤ 30001 from by (first | omega | (simp only [st_s] <;> omega) | assumption | omega | fail))
  replace hT := mT_a (k := 79) (j := (σ.1 47)) hT (show (-1 : Int) ≤ (-1) ∧ (-1) ≤ 30001 from by (first | omega | (simp only [st_s] <;> omega) | assumption | omega | fail))
  replace hT := mT_a (k := 80) (j := (σ.1 47)) hT (show (-1 : Int) ≤ (-1) ∧ (-1) ≤ 30001 from by (first | omega | (simp only [st_s] <;> omega) | assumption | omega | fail))
  replace hT := mT_a (k := 81) (j := (σ.1 47)) hT (show (0 : Int) ≤ 1500 ∧ 1500 ≤ 1500 from by (first | omega | (simp only [st_s] <;> omega) | assumption | omega | fail))
  replace hT := mT_a (k := 82) (j := (σ.1 47)) hT (show (0 : Int) ≤ 1500 ∧ 1500 ≤ 1500 from by (first | omega | (simp only [st_s] <;> omega) | assumption | omega | fail))
  replace hT := mT_a (k := 83) (j := (σ.1 47)) hT (show (0 : Int) ≤ 1500 ∧ 1500 ≤ 1500 from by (first | omega | (simp only [st_s] <;> omega) | assumption | omega | fail))
  exact ⟨hT, (show (σ.1 47) = (σ.1 47) from by (first | omega | (simp only [st_s] <;> omega) | assumption | omega | fail)), (show ((σ.1 47 + 1)) = (σ.1 47) + 1 from by (first | omega | (simp only [st_s] <;> omega) | assumption | omega | fail)), (show (st (σ.2.1 77) (σ.1 47) n2) = st (σ.2.1 77) (σ.1 47) n2 from by (first | omega | (simp only [st_s] <;> omega) | assumption | omega | fail)), (show (st (σ.2.1 78) (σ.1 47) n1) = st (σ.2.1 78) (σ.1 47) n1 from by (first | omega | (simp only [st_s] <;> omega) | assumption | omega | fail)), (show (st (σ.2.1 79) (σ.1 47) (-1)) = st (σ.2.1 79) (σ.1 47) (-1) from by (first | omega | (simp only [st_s] <;> omega) | assumption | omega | fail)), (show (st (σ.2.1 80) (σ.1 47) (-1)) = st (σ.2.1 80) (σ.1 47) (-1) from by (first | omega | (simp only [st_s] <;> omega) | assumption | omega | fail)), (show (st (σ.2.1 81) (σ.1 47) 1500) = st (σ.2.1 81) (σ.1 47) 1500 from by (first | omega | (simp only [st_s] <;> omega) | assumption | omega | fail)), (show (st (σ.2.1 82) (σ.1 47) 1500) = st (σ.2.1 82) (σ.1 47) 1500 from by (first | omega | (simp only [st_s] <;> omega) | assumption | omega | fail)), (show (st (σ.2.1 83) (σ.1 47) 1500) = st (σ.2.1 83) (σ.1 47) 1500 from by (first | omega | (simp only [st_s] <;> omega) | assumption | omega | fail))⟩
set_option maxHeartbeats 4000000 in
theorem K_X13_stepBelow {n1 : Int} {n2 : Int} {σ : S0} (hT : m_T σ) (p1 : (σ.1 47) ≤ 30000) (p2 : 0 ≤ n1) (p3 : n1 < (σ.1 47)) (p4 : -1001 ≤ n2) (p5 : n2 ≤ 999) (p6 : y_K (σ.1 47) (σ.2.1 78) (σ.2.1 79) (σ.2.1 80)) (p7 : ∀ y : Int, 1 ≤ y → y < (σ.1 47) → 0 ≤ σ.2.1 78 y ∧ σ.2.1 78 y < y) : W_X13_stepBelow n1 n2 σ (fun (x : Int) (τ : S0) => (m_T τ) ∧ (y_Sb n1 n2 (σ.1 47) (τ.1 47) x (σ.2.1 78) (σ.2.1 77) (σ.2.1 81) (σ.2.1 82) (σ.2.1 83) (τ.2.1 78) (τ.2.1 77) (τ.2.1 81) (τ.2.1 82) (τ.2.1 83)) ∧ (y_K (τ.1 47) (τ.2.1 78) (τ.2.1 79) (τ.2.1 80)) ∧ (1 ≤ x ∧ x < (τ.1 47)) ∧ ((τ.1 47) ≤ (σ.1 47) + 1)) := by
  have A77 : ∀ j, (-1001) ≤ σ.2.1 77 j ∧ σ.2.1 77 j ≤ 999 := fun j => hT.2 77 j
  have A78 : ∀ j, (-1) ≤ σ.2.1 78 j ∧ σ.2.1 78 j ≤ 30001 := fun j => hT.2 78 j
  have A79 : ∀ j, (-1) ≤ σ.2.1 79 j ∧ σ.2.1 79 j ≤ 30001 := fun j => hT.2 79 j
  have A80 : ∀ j, (-1) ≤ σ.2.1 80 j ∧ σ.2.1 80 j ≤ 30001 := fun j => hT.2 80 j
  have A81 : ∀ j, 0 ≤ σ.2.1 81 j ∧ σ.2.1 81 j ≤ 1500 := fun j => hT.2 81 j
  have A82 : ∀ j, 0 ≤ σ.2.1 82 j ∧ σ.2.1 82 j ≤ 1500 := fun j => hT.2 82 j
  have A83 : ∀ j, 0 ≤ σ.2.1 83 j ∧ σ.2.1 83 j ≤ 1500 := fun j => hT.2 83 j
  have v47 : 0 ≤ σ.1 47 ∧ σ.1 47 ≤ 30001 := hT.1 47
  intro P10 h10
  have kn := (p6 n1 p2 p3).1
  have l_10 : ∀ (m_10 : Nat) (u3_10 : Int) (u4_10 : Int) (τ_10 : S0), 60006 - u4_10 - 50000 * z_0 (u4_10 + 1) < (m_10 : Int) → (m_T τ_10) → ((τ_10.1 47) = (σ.1 47) ∧ τ_10.2.1 77 = σ.2.1 77 ∧ τ_10.2.1 78 = σ.2.1 78 ∧ τ_10.2.1 79 = σ.2.1 79 ∧ τ_10.2.1 80 = σ.2.1 80 ∧ τ_10.2.1 81 = σ.2.1 81 ∧ τ_10.2.1 82 = σ.2.1 82 ∧ τ_10.2.1 83 = σ.2.1 83) → (u4_10 = -1 ∨ (n1 < u4_10 ∧ u4_10 < (σ.1 47) ∧ σ.2.1 78 u4_10 = n1)) → (u3_10 = -1 ∨ (n1 < u3_10 ∧ u3_10 < (σ.1 47) ∧ σ.2.1 78 u3_10 = n1)) → P10 n1 n2 u3_10 u4_10 τ_10 := by
    intro m_10
    induction m_10 with
    | zero =>
      intro u3_10 u4_10 τ_10 hm hT i10_1 i10_2 i10_3
      have A77 : ∀ j, (-1001) ≤ τ_10.2.1 77 j ∧ τ_10.2.1 77 j ≤ 999 := fun j => hT.2 77 j
      have A78 : ∀ j, (-1) ≤ τ_10.2.1 78 j ∧ τ_10.2.1 78 j ≤ 30001 := fun j => hT.2 78 j
      have A79 : ∀ j, (-1) ≤ τ_10.2.1 79 j ∧ τ_10.2.1 79 j ≤ 30001 := fun j => hT.2 79 j
      have A80 : ∀ j, (-1) ≤ τ_10.2.1 80 j ∧ τ_10.2.1 80 j ≤ 30001 := fun j => hT.2 80 j
      have A81 : ∀ j, 0 ≤ τ_10.2.1 81 j ∧ τ_10.2.1 81 j ≤ 1500 := fun j => hT.2 81 j
      have A82 : ∀ j, 0 ≤ τ_10.2.1 82 j ∧ τ_10.2.1 82 j ≤ 1500 := fun j => hT.2 82 j
      have A83 : ∀ j, 0 ≤ τ_10.2.1 83 j ∧ τ_10.2.1 83 j ≤ 1500 := fun j => hT.2 83 j
      have v47 : 0 ≤ τ_10.1 47 ∧ τ_10.1 47 ≤ 30001 := hT.1 47
      have zz0 := z_e (u4_10 + 1)
      exfalso; (first | omega | (simp only [st_s] <;> omega) | assumption | omega | fail)
    | succ m_10 ih_10 =>
      intro u3_10 u4_10 τ_10 hm_10 hT i10_1 i10_2 i10_3
      have A77 : ∀ j, (-1001) ≤ τ_10.2.1 77 j ∧ τ_10.2.1 77 j ≤ 999 := fun j => hT.2 77 j
      have A78 : ∀ j, (-1) ≤ τ_10.2.1 78 j ∧ τ_10.2.1 78 j ≤ 30001 := fun j => hT.2 78 j
      have A79 : ∀ j, (-1) ≤ τ_10.2.1 79 j ∧ τ_10.2.1 79 j ≤ 30001 := fun j => hT.2 79 j
      have A80 : ∀ j, (-1) ≤ τ_10.2.1 80 j ∧ τ_10.2.1 80 j ≤ 30001 := fun j => hT.2 80 j
      have A81 : ∀ j, 0 ≤ τ_10.2.1 81 j ∧ τ_10.2.1 81 j ≤ 1500 := fun j => hT.2 81 j
      have A82 : ∀ j, 0 ≤ τ_10.2.1 82 j ∧ τ_10.2.1 82 j ≤ 1500 := fun j => hT.2 82 j
      have A83 : ∀ j, 0 ≤ τ_10.2.1 83 j ∧ τ_10.2.1 83 j ≤ 1500 := fun j => hT.2 83 j
      have v47 : 0 ≤ τ_10.1 47 ∧ τ_10.1 47 ≤ 30001 := hT.1 47
      have zy10_0 := z_e (u4_10 + 1)
      obtain ⟨j0, j1, j2, j3, j4, j5, j6, j7⟩ := i10_1
      refine h10 n1 n2 u3_10 u4_10 τ_10 ?_
      refine ⟨fun c3 => ?_, fun c3 => ?_⟩
      ·
        refine ⟨_, K_X13_newRuleNode hT (show (τ_10.1 47) ≤ 30000 from by (first | omega | (simp only [st_s] <;> omega) | assumption | omega | fail)) (show -1 ≤ n1 from by (first | omega | (simp only [st_s] <;> omega) | assumption | omega | fail)) (show n1 ≤ 30001 from by (first | omega | (simp only [st_s] <;> omega) | assumption | omega | fail)) (show -1001 ≤ n2 from by (first | omega | (simp only [st_s] <;> omega) | assumption | omega | fail)) (show n2 ≤ 999 from by (first | omega | (simp only [st_s] <;> omega) | assumption | omega | fail)), ?_⟩
        intro x5 τ6 r_x5 hn_τ6 hf_τ6 hq
        obtain ⟨hT, q4_1, q4_2, q4_3, q4_4, q4_5, q4_6, q4_7, q4_8, q4_9⟩ := hq
        replace q4_1 : x5 = (τ_10.1 47) := q4_1
        replace q4_2 : (τ6.1 47) = (τ_10.1 47) + 1 := q4_2
        replace q4_3 : τ6.2.1 77 = st (τ_10.2.1 77) (τ_10.1 47) n2 := q4_3
        replace q4_4 : τ6.2.1 78 = st (τ_10.2.1 78) (τ_10.1 47) n1 := q4_4
        replace q4_5 : τ6.2.1 79 = st (τ_10.2.1 79) (τ_10.1 47) (-1) := q4_5
        replace q4_6 : τ6.2.1 80 = st (τ_10.2.1 80) (τ_10.1 47) (-1) := q4_6
        replace q4_7 : τ6.2.1 81 = st (τ_10.2.1 81) (τ_10.1 47) 1500 := q4_7
        replace q4_8 : τ6.2.1 82 = st (τ_10.2.1 82) (τ_10.1 47) 1500 := q4_8
        replace q4_9 : τ6.2.1 83 = st (τ_10.2.1 83) (τ_10.1 47) 1500 := q4_9
        have A77 : ∀ j, (-1001) ≤ τ6.2.1 77 j ∧ τ6.2.1 77 j ≤ 999 := fun j => hT.2 77 j
        have A78 : ∀ j, (-1) ≤ τ6.2.1 78 j ∧ τ6.2.1 78 j ≤ 30001 := fun j => hT.2 78 j
        have A79 : ∀ j, (-1) ≤ τ6.2.1 79 j ∧ τ6.2.1 79 j ≤ 30001 := fun j => hT.2 79 j
        have A80 : ∀ j, (-1) ≤ τ6.2.1 80 j ∧ τ6.2.1 80 j ≤ 30001 := fun j => hT.2 80 j
        have A81 : ∀ j, 0 ≤ τ6.2.1 81 j ∧ τ6.2.1 81 j ≤ 1500 := fun j => hT.2 81 j
        have A82 : ∀ j, 0 ≤ τ6.2.1 82 j ∧ τ6.2.1 82 j ≤ 1500 := fun j => hT.2 82 j
        have A83 : ∀ j, 0 ≤ τ6.2.1 83 j ∧ τ6.2.1 83 j ≤ 1500 := fun j => hT.2 83 j
        have v47 : 0 ≤ τ6.1 47 ∧ τ6.1 47 ≤ 30001 := hT.1 47
        refine ⟨fun c7 => ?_, fun c7 => ?_⟩
        ·
          refine ⟨(show 0 ≤ u3_10 ∧ u3_10 < 30002 from by (first | omega | (simp only [st_s] <;> omega) | assumption | omega | fail)), ?_⟩
          replace hT := mT_a (k := 80) (j := u3_10) hT (show (-1 : Int) ≤ x5 ∧ x5 ≤ 30001 from by (first | omega | (simp only [st_s] <;> omega) | assumption | omega | fail))
          exact ⟨hT, (show y_Sb n1 n2 (σ.1 47) (τ6.1 47) x5 (σ.2.1 78) (σ.2.1 77) (σ.2.1 81) (σ.2.1 82) (σ.2.1 83) (τ6.2.1 78) (τ6.2.1 77) (τ6.2.1 81) (τ6.2.1 82) (τ6.2.1 83) from by (first | (refine Or.inl ⟨⟨by omega, by omega, by omega, by omega⟩, j0, j2, j1, j5, j6, j7⟩) | (refine Or.inr ⟨by omega, by omega, ?_, ?_, ?_, ?_, ?_⟩; (rw [q4_4, j0, j2]); (rw [q4_3, j0, j1]); (rw [q4_7, j0, j5]); (rw [q4_8, j0, j6]); (rw [q4_9, j0, j7])) | fail)), (show y_K (τ6.1 47) (τ6.2.1 78) (τ6.2.1 79) ((st (τ6.2.1 80) u3_10 x5)) from by (first | (rw [j0, j2, j3, j4]; exact p6) | (have w := y_K_l (x := x5) (l := u3_10) p6 p2 p3 (by omega) (kid' := st (τ6.2.1 79) n1 x5) (nx' := τ6.2.1 80) (Or.inl ⟨by omega, by rw [q4_5, j0, j3], by rw [q4_6, j0, j4]⟩) (fun y a b => by omega); rw [q4_2, q4_4, j0, j2]; exact w) | (have w := y_K_l (x := x5) (l := u3_10) p6 p2 p3 (by omega) (kid' := τ6.2.1 79) (nx' := st (τ6.2.1 80) u3_10 x5) (Or.inr ⟨by omega, by rw [q4_5, j0, j3], by rw [q4_6, j0, j4]⟩) (fun y a b => by omega); rw [q4_2, q4_4, j0, j2]; exact w) | fail)), (show 1 ≤ x5 ∧ x5 < (τ6.1 47) from by (first | omega | (simp only [st_s] <;> omega) | assumption | omega | fail)), (show (τ6.1 47) ≤ (σ.1 47) + 1 from by (first | omega | (simp only [st_s] <;> omega) | assumption | omega | fail))⟩
        ·
          refine ⟨(show 0 ≤ n1 ∧ n1 < 30002 from by (first | omega | (simp only [st_s] <;> omega) | assumption | omega | fail)), ?_⟩
          replace hT := mT_a (k := 79) (j := n1) hT (show (-1 : Int) ≤ x5 ∧ x5 ≤ 30001 from by (first | omega | (simp only [st_s] <;> omega) | assumption | omega | fail))
          exact ⟨hT, (show y_Sb n1 n2 (σ.1 47) (τ6.1 47) x5 (σ.2.1 78) (σ.2.1 77) (σ.2.1 81) (σ.2.1 82) (σ.2.1 83) (τ6.2.1 78) (τ6.2.1 77) (τ6.2.1 81) (τ6.2.1 82) (τ6.2.1 83) from by (first | (refine Or.inl ⟨⟨by omega, by omega, by omega, by omega⟩, j0, j2, j1, j5, j6, j7⟩) | (refine Or.inr ⟨by omega, by omega, ?_, ?_, ?_, ?_, ?_⟩; (rw [q4_4, j0, j2]); (rw [q4_3, j0, j1]); (rw [q4_7, j0, j5]); (rw [q4_8, j0, j6]); (rw [q4_9, j0, j7])) | fail)), (show y_K (τ6.1 47) (τ6.2.1 78) ((st (τ6.2.1 79) n1 x5)) (τ6.2.1 80) from by (first | (rw [j0, j2, j3, j4]; exact p6) | (have w := y_K_l (x := x5) (l := u3_10) p6 p2 p3 (by omega) (kid' := st (τ6.2.1 79) n1 x5) (nx' := τ6.2.1 80) (Or.inl ⟨by omega, by rw [q4_5, j0, j3], by rw [q4_6, j0, j4]⟩) (fun y a b => by omega); rw [q4_2, q4_4, j0, j2]; exact w) | (have w := y_K_l (x := x5) (l := u3_10) p6 p2 p3 (by omega) (kid' := τ6.2.1 79) (nx' := st (τ6.2.1 80) u3_10 x5) (Or.inr ⟨by omega, by rw [q4_5, j0, j3], by rw [q4_6, j0, j4]⟩) (fun y a b => by omega); rw [q4_2, q4_4, j0, j2]; exact w) | fail)), (show 1 ≤ x5 ∧ x5 < (τ6.1 47) from by (first | omega | (simp only [st_s] <;> omega) | assumption | omega | fail)), (show (τ6.1 47) ≤ (σ.1 47) + 1 from by (first | omega | (simp only [st_s] <;> omega) | assumption | omega | fail))⟩
      ·
        refine ⟨(show 0 ≤ u4_10 ∧ u4_10 < 30002 from by (first | omega | (simp only [st_s] <;> omega) | assumption | omega | fail)), ?_⟩
        intro x11 r_x11 e_x11
        have b_x11 : (-1001) ≤ x11 ∧ x11 ≤ 999 := by rw [e_x11]; exact hT.2 77 _
        rw [j1] at e_x11
        refine ⟨fun c12 => ?_, fun c12 => ?_⟩
        ·
          intro x13 r_x13 e_x13
          have b_x13 : (-1) ≤ x13 ∧ x13 ≤ 30001 := by rw [e_x13]; exact hT.2 80 _
          have kx := (p6 u4_10 (by omega) (by omega)).2
          rw [j4] at e_x13
          rw [← e_x13] at kx
          exact ih_10 _ _ _ (show (60006 - x13 - 50000 * z_0 (x13 + 1) : Int) < ((m_10 : Nat) : Int) from by (have zz0 := z_e (x13 + 1); (first | omega | (have zx := z_e (x13 + 1); have zy := z_e (u4_10 + 1); have q9 := kx; rcases q9 with w | ⟨w1, w2, w3⟩ <;> omega) | fail))) hT (show (τ_10.1 47) = (σ.1 47) ∧ τ_10.2.1 77 = σ.2.1 77 ∧ τ_10.2.1 78 = σ.2.1 78 ∧ τ_10.2.1 79 = σ.2.1 79 ∧ τ_10.2.1 80 = σ.2.1 80 ∧ τ_10.2.1 81 = σ.2.1 81 ∧ τ_10.2.1 82 = σ.2.1 82 ∧ τ_10.2.1 83 = σ.2.1 83 from by (first | exact ⟨rfl, rfl, rfl, rfl, rfl, rfl, rfl, rfl⟩ | exact ⟨j0, j1, j2, j3, j4, j5, j6, j7⟩ | fail)) (show (x13 = -1 ∨ (n1 < x13 ∧ x13 < (σ.1 47) ∧ σ.2.1 78 x13 = n1)) from by (first | (rw [← e_x2] at kn; have q9 := kn; rcases q9 with w | ⟨w1, w2, w3⟩; (exact Or.inl w); (exact Or.inr ⟨w1, w2, w3⟩)) | (have q9 := kx; rcases q9 with w | ⟨w1, w2, w3⟩; (exact Or.inl w); (exact Or.inr ⟨by omega, w2, by omega⟩)) | fail)) (show (u4_10 = -1 ∨ (n1 < u4_10 ∧ u4_10 < (σ.1 47) ∧ σ.2.1 78 u4_10 = n1)) from by (first | omega | (simp only [st_s] <;> omega) | assumption | omega | fail))
        ·
          exact ⟨hT, (show y_Sb n1 n2 (σ.1 47) (τ_10.1 47) u4_10 (σ.2.1 78) (σ.2.1 77) (σ.2.1 81) (σ.2.1 82) (σ.2.1 83) (τ_10.2.1 78) (τ_10.2.1 77) (τ_10.2.1 81) (τ_10.2.1 82) (τ_10.2.1 83) from by (first | (refine Or.inl ⟨⟨by omega, by omega, by omega, by omega⟩, j0, j2, j1, j5, j6, j7⟩) | (refine Or.inr ⟨by omega, by omega, ?_, ?_, ?_, ?_, ?_⟩; (rw [q4_4, j0, j2]); (rw [q4_3, j0, j1]); (rw [q4_7, j0, j5]); (rw [q4_8, j0, j6]); (rw [q4_9, j0, j7])) | fail)), (show y_K (τ_10.1 47) (τ_10.2.1 78) (τ_10.2.1 79) (τ_10.2.1 80) from by (first | (rw [j0, j2, j3, j4]; exact p6) | (have w := y_K_l (x := x5) (l := u3_10) p6 p2 p3 (by omega) (kid' := st (τ6.2.1 79) n1 x5) (nx' := τ6.2.1 80) (Or.inl ⟨by omega, by rw [q4_5, j0, j3], by rw [q4_6, j0, j4]⟩) (fun y a b => by omega); rw [q4_2, q4_4, j0, j2]; exact w) | (have w := y_K_l (x := x5) (l := u3_10) p6 p2 p3 (by omega) (kid' := τ6.2.1 79) (nx' := st (τ6.2.1 80) u3_10 x5) (Or.inr ⟨by omega, by rw [q4_5, j0, j3], by rw [q4_6, j0, j4]⟩) (fun y a b => by omega); rw [q4_2, q4_4, j0, j2]; exact w) | fail)), (show 1 ≤ u4_10 ∧ u4_10 < (τ_10.1 47) from by (first | omega | (simp only [st_s] <;> omega) | assumption | omega | fail)), (show (τ_10.1 47) ≤ (σ.1 47) + 1 from by (first | omega | (simp only [st_s] <;> omega) | assumption | omega | fail))⟩
  refine ⟨(show 0 ≤ n1 ∧ n1 < 30002 from by (first | omega | (simp only [st_s] <;> omega) | assumption | omega | fail)), ?_⟩
  intro x2 r_x2 e_x2
  have b_x2 : (-1) ≤ x2 ∧ x2 ≤ 30001 := by rw [e_x2]; exact hT.2 79 _
  exact l_10 ((60006 - x2 - 50000 * z_0 (x2 + 1) : Int).toNat + 1) _ _ _ (show (60006 - x2 - 50000 * z_0 (x2 + 1) : Int) < (((60006 - x2 - 50000 * z_0 (x2 + 1) : Int).toNat + 1 : Nat) : Int) from by (have zz0 := z_e (x2 + 1); (first | omega | (have zx := z_e (x13 + 1); have zy := z_e (u4_10 + 1); have q9 := kx; rcases q9 with w | ⟨w1, w2, w3⟩ <;> omega) | fail))) hT (show (σ.1 47) = (σ.1 47) ∧ σ.2.1 77 = σ.2.1 77 ∧ σ.2.1 78 = σ.2.1 78 ∧ σ.2.1 79 = σ.2.1 79 ∧ σ.2.1 80 = σ.2.1 80 ∧ σ.2.1 81 = σ.2.1 81 ∧ σ.2.1 82 = σ.2.1 82 ∧ σ.2.1 83 = σ.2.1 83 from by (first | exact ⟨rfl, rfl, rfl, rfl, rfl, rfl, rfl, rfl⟩ | exact ⟨j0, j1, j2, j3, j4, j5, j6, j7⟩ | fail)) (show (x2 = -1 ∨ (n1 < x2 ∧ x2 < (σ.1 47) ∧ σ.2.1 78 x2 = n1)) from by (first | (rw [← e_x2] at kn; have q9 := kn; rcases q9 with w | ⟨w1, w2, w3⟩; (exact Or.inl w); (exact Or.inr ⟨w1, w2, w3⟩)) | (have q9 := kx; rcases q9 with w | ⟨w1, w2, w3⟩; (exact Or.inl w); (exact Or.inr ⟨by omega, w2, by omega⟩)) | fail)) (show ((-1) = -1 ∨ (n1 < (-1) ∧ (-1) < (σ.1 47) ∧ σ.2.1 78 (-1) = n1)) from by (first | omega | (simp only [st_s] <;> omega) | assumption | omega | fail))
