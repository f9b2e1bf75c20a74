-- pure: rows of a proof made again
theorem smN_z (w : Int → Int) (e : Int) : ∀ n : Nat, 0 ≤ e → smN (st w e 0) n = smN w n - (if e < (n : Int) then w e else 0)
  | 0, h => by
    rw [if_neg (by omega)]
    show (0 : Int) = 0 - 0
    omega
  | n + 1, h => by
    show smN (st w e 0) n + st w e 0 (n : Int) = smN w n + w (n : Int) - _
    rw [smN_z w e n h]
    by_cases a : e < (n : Int)
    · rw [if_pos a, if_pos (by omega), st_n _ _ (show (n : Int) ≠ e from by omega)]; omega
    · by_cases b : (n : Int) = e
      · rw [if_neg a, if_pos (by omega), b, st_s]; omega
      · rw [if_neg a, if_neg (by omega), st_n _ _ b]; omega
theorem sm_z (w : Int → Int) {e n : Int} (e0 : 0 ≤ e) (e1 : e < n) : sm (st w e 0) n = sm w n - w e := by
  unfold sm
  rw [smN_z w e n.toNat e0, if_pos (by omega)]
/-- what no two share is no more than all -/
theorem smN_i {f : Int → Int} {n : Int} (n0 : 0 ≤ n) : ∀ (m : Nat) (w : Int → Int), (∀ r : Int, 0 ≤ r → r < n → 0 ≤ w r) → (∀ k : Int, 0 ≤ k → k < (m : Int) → 0 ≤ f k ∧ f k < n) → (∀ k j : Int, 0 ≤ k → k < j → j < (m : Int) → f k = f j → w (f k) = 0) → smN (fun k => w (f k)) m ≤ sm w n
  | 0, w, h, _, _ => by
    show (0 : Int) ≤ _
    exact sm_n h
  | m + 1, w, h, hf, hi => by
    have fm := hf (m : Int) (by omega) (by omega)
    have a := smN_i n0 m (st w (f (m : Int)) 0) (fun r r0 r1 => by
      by_cases z : r = f (m : Int)
      · rw [z, st_s]; exact Int.le_refl _
      · rw [st_n _ _ z]; exact h r r0 r1) (fun k k0 k1 => hf k k0 (by omega)) (fun k j k0 k1 k2 e => by
      by_cases z : f k = f (m : Int)
      · rw [z, st_s]
      · rw [st_n _ _ z]; exact hi k j k0 k1 (by omega) e)
    rw [sm_z w fm.1 fm.2] at a
    have b : smN (fun k => st w (f (m : Int)) 0 (f k)) m = smN (fun k => w (f k)) m := smN_x m (fun e e0 e1 => by
      show st w (f (m : Int)) 0 (f e) = w (f e)
      by_cases z : f e = f (m : Int)
      · rw [z, st_s]; have q := hi e (m : Int) e0 e1 (by omega) z; rw [← z]; exact q.symm
      · rw [st_n _ _ z])
    rw [b] at a
    show smN (fun k => w (f k)) m + w (f (m : Int)) ≤ _
    omega
theorem sm_i {f w : Int → Int} {n m : Int} (n0 : 0 ≤ n) (h : ∀ r : Int, 0 ≤ r → r < n → 0 ≤ w r) (hf : ∀ k : Int, 0 ≤ k → k < m → 0 ≤ f k ∧ f k < n) (hi : ∀ k j : Int, 0 ≤ k → k < j → j < m → f k = f j → w (f k) = 0) : sm (fun k => w (f k)) m ≤ sm w n :=
  smN_i n0 m.toNat w h (fun k a b => hf k a (by omega)) (fun k j a b c => hi k j a b (by omega))
/-- how often rows are used, as far as their uses are counted -/
def J_us (lo hi cnt : Int) (ch us : Int → Int) : Prop := (∀ r : Int, 0 ≤ r → r < cnt → 0 ≤ us r ∧ us r ≤ hi - lo) ∧ (∀ c : Int, lo ≤ c → c < hi → 1 ≤ us (ch c)) ∧ ∀ c d : Int, lo ≤ c → c < d → d < hi → ch c = ch d → 2 ≤ us (ch c)
theorem J_us0 {lo cnt : Int} {ch us : Int → Int} (h : ∀ e : Int, 0 ≤ e → e < cnt → us e = 0) : J_us lo lo cnt ch us := ⟨fun r a b => by rw [h r a b]; omega, fun c a b => by omega, fun c d a b e => by omega⟩
theorem J_us_s {lo u cnt x : Int} {ch us : Int → Int} (h : J_us lo u cnt ch us) (l : lo ≤ u) (c0 : ∀ c : Int, lo ≤ c → c ≤ u → 0 ≤ ch c ∧ ch c < cnt) (hx : x = us (ch u) + 1) : J_us lo (u + 1) cnt ch (st us (ch u) x) := by
  have cu := c0 u l (Int.le_refl _)
  have u0 := h.1 _ cu.1 cu.2
  refine ⟨fun r a b => ?_, fun c a b => ?_, fun c d a b e q => ?_⟩
  · by_cases z : r = ch u
    · rw [z, st_s]; omega
    · rw [st_n _ _ z]; have := h.1 r a b; omega
  · by_cases z : ch c = ch u
    · rw [z, st_s]; omega
    · rw [st_n _ _ z]
      exact h.2.1 c a (by rcases (by omega : c < u ∨ c = u) with y | y; exact y; exact absurd (by rw [y]) z)
  · by_cases z : ch c = ch u
    · rw [z, st_s]
      have := h.2.1 c a (by omega)
      rw [z] at this; omega
    · rw [st_n _ _ z]
      exact h.2.2 c d a b (by rcases (by omega : d < u ∨ d = u) with y | y; exact y; exact absurd (by rw [q, y]) z) q
/-- what is used more than once -/
def J_on (lo hi : Int) (ch us : Int → Int) : Prop := ∀ c d : Int, lo ≤ c → c < d → d < hi → ch c = ch d → 2 ≤ us (ch c)
theorem J_on_p {lo hi r x : Int} {ch us : Int → Int} (h : J_on lo hi ch us) (hx : 2 ≤ us r → 2 ≤ x) : J_on lo hi ch (st us r x) := fun c d a b e q => by
  have := h c d a b e q
  by_cases z : ch c = r
  · rw [z, st_s]; rw [z] at this; exact hx this
  · rw [st_n _ _ z]; exact this
/-- the low part: rows that are used once and not taken yet -/
def J_lw (lw R lo C : Int) (ch us sz : Int → Int) : Prop := lw = sm (j_w us sz) R - sm (fun k => j_w us sz (ch (lo + k))) (C - lo)
theorem J_lw0 (lo : Int) (ch us sz : Int → Int) : J_lw 0 0 lo lo ch us sz := by
  unfold J_lw
  rw [show lo - lo = 0 from by omega]
  rfl
/-- what is dropped is there -/
theorem J_lw_d {lw R lo C D hi : Int} {ch us sz : Int → Int} (h : J_lw lw R lo C ch us sz) (on : J_on lo hi ch us) (R0 : 0 ≤ R) (s0 : ∀ r : Int, 0 ≤ r → r < R → 0 ≤ sz r) (l : lo ≤ C) (cd : C ≤ D) (dh : D ≤ hi) (c0 : ∀ c : Int, lo ≤ c → c < D → 0 ≤ ch c ∧ ch c < R) :
    sm (fun k => j_w us sz (ch (C + k))) (D - C) ≤ lw ∧ J_lw (lw - sm (fun k => j_w us sz (ch (C + k))) (D - C)) R lo D ch us sz := by
  have w0 : ∀ r : Int, 0 ≤ r → r < R → 0 ≤ j_w us sz r := fun r a b => by have := j_w_u us sz r; have := s0 r a b; omega
  have a := sm_i (f := fun k => ch (lo + k)) (w := j_w us sz) (n := R) (m := D - lo) R0 w0 (fun k k0 k1 => c0 _ (by omega) (by omega)) (fun k j k0 k1 k2 e => by
    have := on (lo + k) (lo + j) (by omega) (by omega) (by omega) e
    have := j_w_u us sz (ch (lo + k))
    show j_w us sz (ch (lo + k)) = 0
    omega)
  have b := sm_at (fun k => j_w us sz (ch (lo + k))) (n := C - lo) (d := D - C) (by omega) (by omega)
  rw [show C - lo + (D - C) = D - lo from by omega] at b
  have c : sm (fun h => j_w us sz (ch (lo + (C - lo + h)))) (D - C) = sm (fun k => j_w us sz (ch (C + k))) (D - C) := sm_x (fun e _ _ => by show j_w us sz (ch (lo + (C - lo + e))) = j_w us sz (ch (C + e)); rw [show lo + (C - lo + e) = C + e from by omega])
  unfold J_lw at h ⊢
  have a' : sm (fun k => j_w us sz (ch (lo + k))) (D - lo) ≤ sm (j_w us sz) R := a
  rw [b, c] at a'
  rw [b, c]
  omega
/-- a row is put -/
theorem J_lw_p {lw lw' R lo C x y : Int} {ch us sz : Int → Int} (h : J_lw lw R lo C ch us sz) (R0 : 0 ≤ R) (l : lo ≤ C) (c0 : ∀ c : Int, lo ≤ c → c < C → 0 ≤ ch c ∧ ch c < R) (e : lw' = lw + (if x < 2 then y else 0)) : J_lw lw' (R + 1) lo C ch (st us R x) (st sz R y) := by
  have o : ∀ r : Int, r ≠ R → j_w (st us R x) (st sz R y) r = j_w us sz r := fun r z => by unfold j_w; rw [st_n _ _ z, st_n _ _ z]
  have a : sm (j_w (st us R x) (st sz R y)) R = sm (j_w us sz) R := sm_x (fun r _ b => o r (by omega))
  have b : sm (fun k => j_w (st us R x) (st sz R y) (ch (lo + k))) (C - lo) = sm (fun k => j_w us sz (ch (lo + k))) (C - lo) := sm_x (fun k k0 k1 => o _ (by have := c0 (lo + k) (by omega) (by omega); omega))
  have c : j_w (st us R x) (st sz R y) R = if x < 2 then y else 0 := by unfold j_w; rw [st_s, st_s]
  unfold J_lw at h ⊢
  rw [sm_s _ R0, a, b, c, e]
  omega
/-- children of rows up to one -/
theorem J_r_c {i ru : Int} {kd fs ra rc rs ca ch : Int → Int} (h : J_r i ru kd fs ra rc rs ca ch) (f0 : ∀ j, 0 ≤ fs j) : ∀ (d : Nat), (d : Int) ≤ rc i → ∀ c : Int, ca (ra i) ≤ c → c < ca (ra i + (d : Int)) → ch c < (d : Int) - 1 ∨ ch c < (d : Int)
  | 0, _, c, a, b => by rw [show ra i + ((0 : Nat) : Int) = ra i from by omega] at b; omega
  | d + 1, hd, c, a, b => by
    obtain ⟨h1, h2, h3⟩ := h.2 (ra i + (d : Int)) (by omega) (by omega)
    rw [show ra i + ((d + 1 : Nat) : Int) = ra i + (d : Int) + 1 from by omega] at b
    by_cases z : c < ca (ra i + (d : Int))
    · have := J_r_c h f0 d (by omega) c a z; omega
    · have := h3 c (by omega) b; omega
theorem J_r_h {i ru R c : Int} {kd fs ra rc rs ca ch : Int → Int} (h : J_r i ru kd fs ra rc rs ca ch) (f0 : ∀ j, 0 ≤ fs j) (R0 : 0 ≤ R) (R1 : R < rc i) (a : ca (ra i) ≤ c) (b : c < ca (ra i + R + 1)) : ch c < R := by
  obtain ⟨h1, h2, h3⟩ := h.2 (ra i + R) (by omega) (by omega)
  by_cases z : c < ca (ra i + R)
  · have := J_r_c h f0 R.toNat (by omega) c a (by rw [show (R.toNat : Int) = R from by omega]; exact z); omega
  · have := h3 c (by omega) b; omega
set_option maxHeartbeats 1000000 in
theorem K2_X0_childCount {n1 : Int} {σ : S0} (hT : c_T σ) (p1 : 0 ≤ n1) (p2 : n1 < 20000) : W_X0_childCount n1 σ (fun (x : Int) => (x = σ.2.1 36 (n1 + 1) - σ.2.1 36 n1)) := by
  have A36 : ∀ j, 0 ≤ σ.2.1 36 j ∧ σ.2.1 36 j ≤ 20000 := fun j => hT.2 36 j
  unfold W_X0_childCount
  refine ⟨(show 0 ≤ (n1 + 1) ∧ (n1 + 1) < 20001 from by (first | omega | (simp only [st_s] <;> omega) | assumption | omega | fail)), ?_⟩
  intro x2 r_x2 e_x2
  have b_x2 : 0 ≤ x2 ∧ x2 ≤ 20000 := by rw [e_x2]; exact hT.2 36 _
  refine ⟨(show 0 ≤ n1 ∧ n1 < 20001 from by (first | omega | (simp only [st_s] <;> omega) | assumption | omega | fail)), ?_⟩
  intro x4 r_x4 e_x4
  have b_x4 : 0 ≤ x4 ∧ x4 ≤ 20000 := by rw [e_x4]; exact hT.2 36 _
  refine ⟨(⟨by (first | omega | (simp only [st_s] <;> omega) | assumption | omega | fail), by (first | omega | (simp only [st_s] <;> omega) | assumption | omega | fail)⟩ : rg (x2 - x4)), ?_⟩
  exact (show (x2 - x4) = σ.2.1 36 (n1 + 1) - σ.2.1 36 n1 from by (first | omega | (simp only [st_s] <;> omega) | assumption | omega | fail))
set_option maxHeartbeats 4000000 in
theorem K_X6_goAgain {n1 : Int} {n2 : Int} {σ : S0} (hT : c_T σ) (p1 : 0 ≤ n1) (p2 : n1 < (σ.1 7)) (p3 : σ.2.1 13 n1 = 3) (p4 : n2 < σ.2.1 34 n1) (p5 : J_all (σ.1 7) (σ.1 6) (σ.1 13) (σ.1 14) (σ.1 15) (σ.2.1 13) (σ.2.1 14) (σ.2.1 15) (σ.2.1 16) (σ.2.1 10) (σ.2.1 27) (σ.2.1 28) (σ.2.1 29) (σ.2.1 30) (σ.2.1 31) (σ.2.1 32) (σ.2.1 33) (σ.2.1 34) (σ.2.1 35) (σ.2.1 36) (σ.2.1 37)) (p6 : J_bp (σ.2.1 44) (σ.2.1 45)) (p7 : -1 ≤ n2) : W_X6_goAgain n1 n2 σ (fun (x : Int) (τ : S0) => (c_T τ) ∧ (0 ≤ x ∧ x ≤ 1) ∧ (J_bp (τ.2.1 44) (τ.2.1 45)) ∧ (¬ x = 0 → J_dt (τ.1 17) (τ.1 18) (n2 + 1) (τ.2.1 39) (τ.2.1 40) (τ.2.1 41))) := by
  have A10 : ∀ j, (-1) ≤ σ.2.1 10 j ∧ σ.2.1 10 j ≤ 99 := fun j => hT.2 10 j
  have A13 : ∀ j, 0 ≤ σ.2.1 13 j ∧ σ.2.1 13 j ≤ 4 := fun j => hT.2 13 j
  have A14 : ∀ j, 0 ≤ σ.2.1 14 j ∧ σ.2.1 14 j ≤ 30000 := fun j => hT.2 14 j
  have A15 : ∀ j, 0 ≤ σ.2.1 15 j ∧ σ.2.1 15 j ≤ 999 := fun j => hT.2 15 j
  have A16 : ∀ j, (-1) ≤ σ.2.1 16 j ∧ σ.2.1 16 j ≤ 1499 := fun j => hT.2 16 j
  have A27 : ∀ j, 0 ≤ σ.2.1 27 j ∧ σ.2.1 27 j ≤ 90000 := fun j => hT.2 27 j
  have A28 : ∀ j, 0 ≤ σ.2.1 28 j ∧ σ.2.1 28 j ≤ 60 := fun j => hT.2 28 j
  have A29 : ∀ j, 0 ≤ σ.2.1 29 j ∧ σ.2.1 29 j ≤ 1499 := fun j => hT.2 29 j
  have A30 : ∀ j, 0 ≤ σ.2.1 30 j ∧ σ.2.1 30 j ≤ 20000 := fun j => hT.2 30 j
  have A31 : ∀ j, 0 ≤ σ.2.1 31 j ∧ σ.2.1 31 j ≤ 20000 := fun j => hT.2 31 j
  have A32 : ∀ j, 0 ≤ σ.2.1 32 j ∧ σ.2.1 32 j ≤ 999999 := fun j => hT.2 32 j
  have A33 : ∀ j, 0 ≤ σ.2.1 33 j ∧ σ.2.1 33 j ≤ 20000 := fun j => hT.2 33 j
  have A34 : ∀ j, 0 ≤ σ.2.1 34 j ∧ σ.2.1 34 j ≤ 20000 := fun j => hT.2 34 j
  have A35 : ∀ j, 0 ≤ σ.2.1 35 j ∧ σ.2.1 35 j ≤ 1499 := fun j => hT.2 35 j
  have A36 : ∀ j, 0 ≤ σ.2.1 36 j ∧ σ.2.1 36 j ≤ 20000 := fun j => hT.2 36 j
  have A37 : ∀ j, 0 ≤ σ.2.1 37 j ∧ σ.2.1 37 j ≤ 19999 := fun j => hT.2 37 j
  have A39 : ∀ j, 0 ≤ σ.2.1 39 j ∧ σ.2.1 39 j ≤ 1060 := fun j => hT.2 39 j
  have A40 : ∀ j, 0 ≤ σ.2.1 40 j ∧ σ.2.1 40 j ≤ 42000 := fun j => hT.2 40 j
  have A41 : ∀ j, (-2) ≤ σ.2.1 41 j ∧ σ.2.1 41 j ≤ 1000 := fun j => hT.2 41 j
  have A42 : ∀ j, (-2147483648) ≤ σ.2.1 42 j ∧ σ.2.1 42 j ≤ 2147483647 := fun j => hT.2 42 j
  have A43 : ∀ j, 0 ≤ σ.2.1 43 j ∧ σ.2.1 43 j ≤ 1060 := fun j => hT.2 43 j
  have A44 : ∀ j, 0 ≤ σ.2.1 44 j ∧ σ.2.1 44 j ≤ 42000 := fun j => hT.2 44 j
  have A45 : ∀ j, 0 ≤ σ.2.1 45 j ∧ σ.2.1 45 j ≤ 1000 := fun j => hT.2 45 j
  have v6 : 0 ≤ σ.1 6 ∧ σ.1 6 ≤ 30000 := hT.1 6
  have v7 : 0 ≤ σ.1 7 ∧ σ.1 7 ≤ 1500 := hT.1 7
  have v13 : 0 ≤ σ.1 13 ∧ σ.1 13 ≤ 90000 := hT.1 13
  have v14 : 0 ≤ σ.1 14 ∧ σ.1 14 ≤ 20000 := hT.1 14
  have v15 : 0 ≤ σ.1 15 ∧ σ.1 15 ≤ 20000 := hT.1 15
  have v17 : 0 ≤ σ.1 17 ∧ σ.1 17 ≤ 42000 := hT.1 17
  have v18 : 0 ≤ σ.1 18 ∧ σ.1 18 ≤ 42000 := hT.1 18
  have v19 : 0 ≤ σ.1 19 ∧ σ.1 19 ≤ 1000 := hT.1 19
  have W6 : σ.1 6 = σ.1 6 := rfl
  have W7 : σ.1 7 = σ.1 7 := rfl
  have W13 : σ.1 13 = σ.1 13 := rfl
  have W14 : σ.1 14 = σ.1 14 := rfl
  have W15 : σ.1 15 = σ.1 15 := rfl
  have G10 : σ.2.1 10 = σ.2.1 10 := rfl
  have G13 : σ.2.1 13 = σ.2.1 13 := rfl
  have G14 : σ.2.1 14 = σ.2.1 14 := rfl
  have G15 : σ.2.1 15 = σ.2.1 15 := rfl
  have G16 : σ.2.1 16 = σ.2.1 16 := rfl
  have G27 : σ.2.1 27 = σ.2.1 27 := rfl
  have G28 : σ.2.1 28 = σ.2.1 28 := rfl
  have G29 : σ.2.1 29 = σ.2.1 29 := rfl
  have G30 : σ.2.1 30 = σ.2.1 30 := rfl
  have G31 : σ.2.1 31 = σ.2.1 31 := rfl
  have G32 : σ.2.1 32 = σ.2.1 32 := rfl
  have G33 : σ.2.1 33 = σ.2.1 33 := rfl
  have G34 : σ.2.1 34 = σ.2.1 34 := rfl
  have G35 : σ.2.1 35 = σ.2.1 35 := rfl
  have G36 : σ.2.1 36 = σ.2.1 36 := rfl
  have G37 : σ.2.1 37 = σ.2.1 37 := rfl
  intro P51 P94 P173 P209 h51 h94 h173 h209
  have hT0 := hT
  have jr := (p5.1 n1 p1 p2).2.2 p3
  have jr1 := jr.1
  have f0 : ∀ j, 0 ≤ σ.2.1 28 j := fun j => (A28 j).1
  have ra0 := A33 n1
  have c0 := A37
  have s35 := A35
  have mono := p5.2
  have hca := fun R => A36 (σ.2.1 33 n1 + R)
  have m0 := mono (σ.2.1 33 n1) (σ.2.1 33 n1 + σ.2.1 34 n1) (by omega) (by omega) (by omega)
  have chh := fun (R c : Int) a b d e => J_r_h (R := R) (c := c) jr f0 a b d e
  have cha := fun (c : Int) (a : σ.2.1 36 (σ.2.1 33 n1) ≤ c) (b : c < σ.2.1 36 (σ.2.1 33 n1 + σ.2.1 34 n1)) => chh (σ.2.1 34 n1 - 1) c (by omega) (by omega) a (by rw [show σ.2.1 33 n1 + (σ.2.1 34 n1 - 1) + 1 = σ.2.1 33 n1 + σ.2.1 34 n1 from by omega]; exact b)
  have hi0 := A36 (σ.2.1 33 n1 + σ.2.1 34 n1)
  have lo0 := A36 (σ.2.1 33 n1)
  have s14 := A14
  have CJ : J_all (σ.1 7) (σ.1 6) (σ.1 13) (σ.1 14) (σ.1 15) (σ.2.1 13) (σ.2.1 14) (σ.2.1 15) (σ.2.1 16) (σ.2.1 10) (σ.2.1 27) (σ.2.1 28) (σ.2.1 29) (σ.2.1 30) (σ.2.1 31) (σ.2.1 32) (σ.2.1 33) (σ.2.1 34) (σ.2.1 35) (σ.2.1 36) (σ.2.1 37) := p5
  have BP : J_bp (σ.2.1 44) (σ.2.1 45) := p6
  have BP_0 := BP
  have CJ_0 := CJ
  have l_94 : ∀ (m_94 : Nat) (u3_94 : Int) (u5_94 : Int) (τ_94 : S0), 20001 - u5_94 < (m_94 : Int) → (c_T τ_94) → (τ_94.1 6 = σ.1 6) → (τ_94.1 7 = σ.1 7) → (τ_94.1 13 = σ.1 13) → (τ_94.1 14 = σ.1 14) → (τ_94.1 15 = σ.1 15) → (τ_94.2.1 10 = σ.2.1 10) → (τ_94.2.1 13 = σ.2.1 13) → (τ_94.2.1 14 = σ.2.1 14) → (τ_94.2.1 15 = σ.2.1 15) → (τ_94.2.1 16 = σ.2.1 16) → (τ_94.2.1 27 = σ.2.1 27) → (τ_94.2.1 28 = σ.2.1 28) → (τ_94.2.1 29 = σ.2.1 29) → (τ_94.2.1 30 = σ.2.1 30) → (τ_94.2.1 31 = σ.2.1 31) → (τ_94.2.1 32 = σ.2.1 32) → (τ_94.2.1 33 = σ.2.1 33) → (τ_94.2.1 34 = σ.2.1 34) → (τ_94.2.1 35 = σ.2.1 35) → (τ_94.2.1 36 = σ.2.1 36) → (τ_94.2.1 37 = σ.2.1 37) → (0 ≤ u5_94 ∧ u5_94 ≤ n2 + 1) → (J_dt (τ_94.1 17) (τ_94.1 18) (u5_94) (τ_94.2.1 39) (τ_94.2.1 40) (τ_94.2.1 41)) → (J_bp (τ_94.2.1 44) (τ_94.2.1 45)) → (J_lw (τ_94.1 17) (u5_94) (σ.2.1 36 (σ.2.1 33 n1)) (σ.2.1 36 (σ.2.1 33 n1 + u5_94)) (σ.2.1 37) (τ_94.2.1 42) (τ_94.2.1 41)) → (J_on (σ.2.1 36 (σ.2.1 33 n1)) (σ.2.1 36 (σ.2.1 33 n1 + σ.2.1 34 n1)) (σ.2.1 37) (τ_94.2.1 42)) → (u3_94 = σ.2.1 33 n1) → P94 n2 u3_94 u5_94 τ_94 := by
    intro m_94
    induction m_94 with
    | zero =>
      intro u3_94 u5_94 τ_94 hm hT W6 W7 W13 W14 W15 G10 G13 G14 G15 G16 G27 G28 G29 G30 G31 G32 G33 G34 G35 G36 G37 i94_1 i94_2 i94_3 i94_4 i94_5 i94_6
      have A10 : ∀ j, (-1) ≤ τ_94.2.1 10 j ∧ τ_94.2.1 10 j ≤ 99 := fun j => hT.2 10 j
      have A13 : ∀ j, 0 ≤ τ_94.2.1 13 j ∧ τ_94.2.1 13 j ≤ 4 := fun j => hT.2 13 j
      have A14 : ∀ j, 0 ≤ τ_94.2.1 14 j ∧ τ_94.2.1 14 j ≤ 30000 := fun j => hT.2 14 j
      have A15 : ∀ j, 0 ≤ τ_94.2.1 15 j ∧ τ_94.2.1 15 j ≤ 999 := fun j => hT.2 15 j
      have A16 : ∀ j, (-1) ≤ τ_94.2.1 16 j ∧ τ_94.2.1 16 j ≤ 1499 := fun j => hT.2 16 j
      have A27 : ∀ j, 0 ≤ τ_94.2.1 27 j ∧ τ_94.2.1 27 j ≤ 90000 := fun j => hT.2 27 j
      have A28 : ∀ j, 0 ≤ τ_94.2.1 28 j ∧ τ_94.2.1 28 j ≤ 60 := fun j => hT.2 28 j
      have A29 : ∀ j, 0 ≤ τ_94.2.1 29 j ∧ τ_94.2.1 29 j ≤ 1499 := fun j => hT.2 29 j
      have A30 : ∀ j, 0 ≤ τ_94.2.1 30 j ∧ τ_94.2.1 30 j ≤ 20000 := fun j => hT.2 30 j
      have A31 : ∀ j, 0 ≤ τ_94.2.1 31 j ∧ τ_94.2.1 31 j ≤ 20000 := fun j => hT.2 31 j
      have A32 : ∀ j, 0 ≤ τ_94.2.1 32 j ∧ τ_94.2.1 32 j ≤ 999999 := fun j => hT.2 32 j
      have A33 : ∀ j, 0 ≤ τ_94.2.1 33 j ∧ τ_94.2.1 33 j ≤ 20000 := fun j => hT.2 33 j
      have A34 : ∀ j, 0 ≤ τ_94.2.1 34 j ∧ τ_94.2.1 34 j ≤ 20000 := fun j => hT.2 34 j
      have A35 : ∀ j, 0 ≤ τ_94.2.1 35 j ∧ τ_94.2.1 35 j ≤ 1499 := fun j => hT.2 35 j
      have A36 : ∀ j, 0 ≤ τ_94.2.1 36 j ∧ τ_94.2.1 36 j ≤ 20000 := fun j => hT.2 36 j
      have A37 : ∀ j, 0 ≤ τ_94.2.1 37 j ∧ τ_94.2.1 37 j ≤ 19999 := fun j => hT.2 37 j
      have A39 : ∀ j, 0 ≤ τ_94.2.1 39 j ∧ τ_94.2.1 39 j ≤ 1060 := fun j => hT.2 39 j
      have A40 : ∀ j, 0 ≤ τ_94.2.1 40 j ∧ τ_94.2.1 40 j ≤ 42000 := fun j => hT.2 40 j
      have A41 : ∀ j, (-2) ≤ τ_94.2.1 41 j ∧ τ_94.2.1 41 j ≤ 1000 := fun j => hT.2 41 j
      have A42 : ∀ j, (-2147483648) ≤ τ_94.2.1 42 j ∧ τ_94.2.1 42 j ≤ 2147483647 := fun j => hT.2 42 j
      have A43 : ∀ j, 0 ≤ τ_94.2.1 43 j ∧ τ_94.2.1 43 j ≤ 1060 := fun j => hT.2 43 j
      have A44 : ∀ j, 0 ≤ τ_94.2.1 44 j ∧ τ_94.2.1 44 j ≤ 42000 := fun j => hT.2 44 j
      have A45 : ∀ j, 0 ≤ τ_94.2.1 45 j ∧ τ_94.2.1 45 j ≤ 1000 := fun j => hT.2 45 j
      have v6 : 0 ≤ τ_94.1 6 ∧ τ_94.1 6 ≤ 30000 := hT.1 6
      have v7 : 0 ≤ τ_94.1 7 ∧ τ_94.1 7 ≤ 1500 := hT.1 7
      have v13 : 0 ≤ τ_94.1 13 ∧ τ_94.1 13 ≤ 90000 := hT.1 13
      have v14 : 0 ≤ τ_94.1 14 ∧ τ_94.1 14 ≤ 20000 := hT.1 14
      have v15 : 0 ≤ τ_94.1 15 ∧ τ_94.1 15 ≤ 20000 := hT.1 15
      have v17 : 0 ≤ τ_94.1 17 ∧ τ_94.1 17 ≤ 42000 := hT.1 17
      have v18 : 0 ≤ τ_94.1 18 ∧ τ_94.1 18 ≤ 42000 := hT.1 18
      have v19 : 0 ≤ τ_94.1 19 ∧ τ_94.1 19 ≤ 1000 := hT.1 19
      exfalso; (first | omega | (simp only [st_s] <;> omega) | assumption | omega | fail)
    | succ m_94 ih_94 =>
      intro u3_94 u5_94 τ_94 hm_94 hT W6 W7 W13 W14 W15 G10 G13 G14 G15 G16 G27 G28 G29 G30 G31 G32 G33 G34 G35 G36 G37 i94_1 i94_2 i94_3 i94_4 i94_5 i94_6
      have A10 : ∀ j, (-1) ≤ τ_94.2.1 10 j ∧ τ_94.2.1 10 j ≤ 99 := fun j => hT.2 10 j
      have A13 : ∀ j, 0 ≤ τ_94.2.1 13 j ∧ τ_94.2.1 13 j ≤ 4 := fun j => hT.2 13 j
      have A14 : ∀ j, 0 ≤ τ_94.2.1 14 j ∧ τ_94.2.1 14 j ≤ 30000 := fun j => hT.2 14 j
      have A15 : ∀ j, 0 ≤ τ_94.2.1 15 j ∧ τ_94.2.1 15 j ≤ 999 := fun j => hT.2 15 j
      have A16 : ∀ j, (-1) ≤ τ_94.2.1 16 j ∧ τ_94.2.1 16 j ≤ 1499 := fun j => hT.2 16 j
      have A27 : ∀ j, 0 ≤ τ_94.2.1 27 j ∧ τ_94.2.1 27 j ≤ 90000 := fun j => hT.2 27 j
      have A28 : ∀ j, 0 ≤ τ_94.2.1 28 j ∧ τ_94.2.1 28 j ≤ 60 := fun j => hT.2 28 j
      have A29 : ∀ j, 0 ≤ τ_94.2.1 29 j ∧ τ_94.2.1 29 j ≤ 1499 := fun j => hT.2 29 j
      have A30 : ∀ j, 0 ≤ τ_94.2.1 30 j ∧ τ_94.2.1 30 j ≤ 20000 := fun j => hT.2 30 j
      have A31 : ∀ j, 0 ≤ τ_94.2.1 31 j ∧ τ_94.2.1 31 j ≤ 20000 := fun j => hT.2 31 j
      have A32 : ∀ j, 0 ≤ τ_94.2.1 32 j ∧ τ_94.2.1 32 j ≤ 999999 := fun j => hT.2 32 j
      have A33 : ∀ j, 0 ≤ τ_94.2.1 33 j ∧ τ_94.2.1 33 j ≤ 20000 := fun j => hT.2 33 j
      have A34 : ∀ j, 0 ≤ τ_94.2.1 34 j ∧ τ_94.2.1 34 j ≤ 20000 := fun j => hT.2 34 j
      have A35 : ∀ j, 0 ≤ τ_94.2.1 35 j ∧ τ_94.2.1 35 j ≤ 1499 := fun j => hT.2 35 j
      have A36 : ∀ j, 0 ≤ τ_94.2.1 36 j ∧ τ_94.2.1 36 j ≤ 20000 := fun j => hT.2 36 j
      have A37 : ∀ j, 0 ≤ τ_94.2.1 37 j ∧ τ_94.2.1 37 j ≤ 19999 := fun j => hT.2 37 j
      have A39 : ∀ j, 0 ≤ τ_94.2.1 39 j ∧ τ_94.2.1 39 j ≤ 1060 := fun j => hT.2 39 j
      have A40 : ∀ j, 0 ≤ τ_94.2.1 40 j ∧ τ_94.2.1 40 j ≤ 42000 := fun j => hT.2 40 j
      have A41 : ∀ j, (-2) ≤ τ_94.2.1 41 j ∧ τ_94.2.1 41 j ≤ 1000 := fun j => hT.2 41 j
      have A42 : ∀ j, (-2147483648) ≤ τ_94.2.1 42 j ∧ τ_94.2.1 42 j ≤ 2147483647 := fun j => hT.2 42 j
      have A43 : ∀ j, 0 ≤ τ_94.2.1 43 j ∧ τ_94.2.1 43 j ≤ 1060 := fun j => hT.2 43 j
      have A44 : ∀ j, 0 ≤ τ_94.2.1 44 j ∧ τ_94.2.1 44 j ≤ 42000 := fun j => hT.2 44 j
      have A45 : ∀ j, 0 ≤ τ_94.2.1 45 j ∧ τ_94.2.1 45 j ≤ 1000 := fun j => hT.2 45 j
      have v6 : 0 ≤ τ_94.1 6 ∧ τ_94.1 6 ≤ 30000 := hT.1 6
      have v7 : 0 ≤ τ_94.1 7 ∧ τ_94.1 7 ≤ 1500 := hT.1 7
      have v13 : 0 ≤ τ_94.1 13 ∧ τ_94.1 13 ≤ 90000 := hT.1 13
      have v14 : 0 ≤ τ_94.1 14 ∧ τ_94.1 14 ≤ 20000 := hT.1 14
      have v15 : 0 ≤ τ_94.1 15 ∧ τ_94.1 15 ≤ 20000 := hT.1 15
      have v17 : 0 ≤ τ_94.1 17 ∧ τ_94.1 17 ≤ 42000 := hT.1 17
      have v18 : 0 ≤ τ_94.1 18 ∧ τ_94.1 18 ≤ 42000 := hT.1 18
      have v19 : 0 ≤ τ_94.1 19 ∧ τ_94.1 19 ≤ 1000 := hT.1 19
      have CJ : J_all (τ_94.1 7) (τ_94.1 6) (τ_94.1 13) (τ_94.1 14) (τ_94.1 15) (τ_94.2.1 13) (τ_94.2.1 14) (τ_94.2.1 15) (τ_94.2.1 16) (τ_94.2.1 10) (τ_94.2.1 27) (τ_94.2.1 28) (τ_94.2.1 29) (τ_94.2.1 30) (τ_94.2.1 31) (τ_94.2.1 32) (τ_94.2.1 33) (τ_94.2.1 34) (τ_94.2.1 35) (τ_94.2.1 36) (τ_94.2.1 37) := by rw [show (J_all (τ_94.1 7) (τ_94.1 6) (τ_94.1 13) (τ_94.1 14) (τ_94.1 15) (τ_94.2.1 13) (τ_94.2.1 14) (τ_94.2.1 15) (τ_94.2.1 16) (τ_94.2.1 10) (τ_94.2.1 27) (τ_94.2.1 28) (τ_94.2.1 29) (τ_94.2.1 30) (τ_94.2.1 31) (τ_94.2.1 32) (τ_94.2.1 33) (τ_94.2.1 34) (τ_94.2.1 35) (τ_94.2.1 36) (τ_94.2.1 37)) = (J_all (σ.1 7) (σ.1 6) (σ.1 13) (σ.1 14) (σ.1 15) (σ.2.1 13) (σ.2.1 14) (σ.2.1 15) (σ.2.1 16) (σ.2.1 10) (σ.2.1 27) (σ.2.1 28) (σ.2.1 29) (σ.2.1 30) (σ.2.1 31) (σ.2.1 32) (σ.2.1 33) (σ.2.1 34) (σ.2.1 35) (σ.2.1 36) (σ.2.1 37)) from by rw [W6, W7, W13, W14, W15, G10, G13, G14, G15, G16, G27, G28, G29, G30, G31, G32, G33, G34, G35, G36, G37]]; exact CJ_0
      have BP : J_bp (τ_94.2.1 44) (τ_94.2.1 45) := i94_3
      have l_173 : ∀ (u3_173 : Int) (u5_173 : Int) (u7_173 : Int) (τ_173 : S0), (c_T τ_173) → (τ_173.1 6 = σ.1 6) → (τ_173.1 7 = σ.1 7) → (τ_173.1 13 = σ.1 13) → (τ_173.1 14 = σ.1 14) → (τ_173.1 15 = σ.1 15) → (τ_173.2.1 10 = σ.2.1 10) → (τ_173.2.1 13 = σ.2.1 13) → (τ_173.2.1 14 = σ.2.1 14) → (τ_173.2.1 15 = σ.2.1 15) → (τ_173.2.1 16 = σ.2.1 16) → (τ_173.2.1 27 = σ.2.1 27) → (τ_173.2.1 28 = σ.2.1 28) → (τ_173.2.1 29 = σ.2.1 29) → (τ_173.2.1 30 = σ.2.1 30) → (τ_173.2.1 31 = σ.2.1 31) → (τ_173.2.1 32 = σ.2.1 32) → (τ_173.2.1 33 = σ.2.1 33) → (τ_173.2.1 34 = σ.2.1 34) → (τ_173.2.1 35 = σ.2.1 35) → (τ_173.2.1 36 = σ.2.1 36) → (τ_173.2.1 37 = σ.2.1 37) → (0 ≤ u5_173 ∧ u5_173 ≤ n2) → (J_bp (τ_173.2.1 44) (τ_173.2.1 45)) → (J_dt (τ_173.1 17) (τ_173.1 18) (u5_173) (τ_173.2.1 39) (τ_173.2.1 40) (τ_173.2.1 41)) → (J_lw (τ_173.1 17) (u5_173) (σ.2.1 36 (σ.2.1 33 n1)) (σ.2.1 36 (σ.2.1 33 n1 + u5_173)) (σ.2.1 37) (τ_173.2.1 42) (τ_173.2.1 41)) → (J_on (σ.2.1 36 (σ.2.1 33 n1)) (σ.2.1 36 (σ.2.1 33 n1 + σ.2.1 34 n1)) (σ.2.1 37) (τ_173.2.1 42)) → (u7_173 = σ.2.1 36 (σ.2.1 33 n1 + u5_173)) → (J_bt (τ_173.1 19) (τ_173.2.1 43)) → (u5_173 + (m_94 : Int) ≥ 20001) → (u3_173 = σ.2.1 33 n1) → P173 n2 u3_173 u5_173 u7_173 τ_173 := by
        intro u3_173 u5_173 u7_173 τ_173 hT W6 W7 W13 W14 W15 G10 G13 G14 G15 G16 G27 G28 G29 G30 G31 G32 G33 G34 G35 G36 G37 i173_1 i173_2 i173_3 i173_4 i173_5 i173_6 i173_7 i173_8 i173_9
        have A10 : ∀ j, (-1) ≤ τ_173.2.1 10 j ∧ τ_173.2.1 10 j ≤ 99 := fun j => hT.2 10 j
        have A13 : ∀ j, 0 ≤ τ_173.2.1 13 j ∧ τ_173.2.1 13 j ≤ 4 := fun j => hT.2 13 j
        have A14 : ∀ j, 0 ≤ τ_173.2.1 14 j ∧ τ_173.2.1 14 j ≤ 30000 := fun j => hT.2 14 j
        have A15 : ∀ j, 0 ≤ τ_173.2.1 15 j ∧ τ_173.2.1 15 j ≤ 999 := fun j => hT.2 15 j
        have A16 : ∀ j, (-1) ≤ τ_173.2.1 16 j ∧ τ_173.2.1 16 j ≤ 1499 := fun j => hT.2 16 j
        have A27 : ∀ j, 0 ≤ τ_173.2.1 27 j ∧ τ_173.2.1 27 j ≤ 90000 := fun j => hT.2 27 j
        have A28 : ∀ j, 0 ≤ τ_173.2.1 28 j ∧ τ_173.2.1 28 j ≤ 60 := fun j => hT.2 28 j
        have A29 : ∀ j, 0 ≤ τ_173.2.1 29 j ∧ τ_173.2.1 29 j ≤ 1499 := fun j => hT.2 29 j
        have A30 : ∀ j, 0 ≤ τ_173.2.1 30 j ∧ τ_173.2.1 30 j ≤ 20000 := fun j => hT.2 30 j
        have A31 : ∀ j, 0 ≤ τ_173.2.1 31 j ∧ τ_173.2.1 31 j ≤ 20000 := fun j => hT.2 31 j
        have A32 : ∀ j, 0 ≤ τ_173.2.1 32 j ∧ τ_173.2.1 32 j ≤ 999999 := fun j => hT.2 32 j
        have A33 : ∀ j, 0 ≤ τ_173.2.1 33 j ∧ τ_173.2.1 33 j ≤ 20000 := fun j => hT.2 33 j
        have A34 : ∀ j, 0 ≤ τ_173.2.1 34 j ∧ τ_173.2.1 34 j ≤ 20000 := fun j => hT.2 34 j
        have A35 : ∀ j, 0 ≤ τ_173.2.1 35 j ∧ τ_173.2.1 35 j ≤ 1499 := fun j => hT.2 35 j
        have A36 : ∀ j, 0 ≤ τ_173.2.1 36 j ∧ τ_173.2.1 36 j ≤ 20000 := fun j => hT.2 36 j
        have A37 : ∀ j, 0 ≤ τ_173.2.1 37 j ∧ τ_173.2.1 37 j ≤ 19999 := fun j => hT.2 37 j
        have A39 : ∀ j, 0 ≤ τ_173.2.1 39 j ∧ τ_173.2.1 39 j ≤ 1060 := fun j => hT.2 39 j
        have A40 : ∀ j, 0 ≤ τ_173.2.1 40 j ∧ τ_173.2.1 40 j ≤ 42000 := fun j => hT.2 40 j
        have A41 : ∀ j, (-2) ≤ τ_173.2.1 41 j ∧ τ_173.2.1 41 j ≤ 1000 := fun j => hT.2 41 j
        have A42 : ∀ j, (-2147483648) ≤ τ_173.2.1 42 j ∧ τ_173.2.1 42 j ≤ 2147483647 := fun j => hT.2 42 j
        have A43 : ∀ j, 0 ≤ τ_173.2.1 43 j ∧ τ_173.2.1 43 j ≤ 1060 := fun j => hT.2 43 j
        have A44 : ∀ j, 0 ≤ τ_173.2.1 44 j ∧ τ_173.2.1 44 j ≤ 42000 := fun j => hT.2 44 j
        have A45 : ∀ j, 0 ≤ τ_173.2.1 45 j ∧ τ_173.2.1 45 j ≤ 1000 := fun j => hT.2 45 j
        have v6 : 0 ≤ τ_173.1 6 ∧ τ_173.1 6 ≤ 30000 := hT.1 6
        have v7 : 0 ≤ τ_173.1 7 ∧ τ_173.1 7 ≤ 1500 := hT.1 7
        have v13 : 0 ≤ τ_173.1 13 ∧ τ_173.1 13 ≤ 90000 := hT.1 13
        have v14 : 0 ≤ τ_173.1 14 ∧ τ_173.1 14 ≤ 20000 := hT.1 14
        have v15 : 0 ≤ τ_173.1 15 ∧ τ_173.1 15 ≤ 20000 := hT.1 15
        have v17 : 0 ≤ τ_173.1 17 ∧ τ_173.1 17 ≤ 42000 := hT.1 17
        have v18 : 0 ≤ τ_173.1 18 ∧ τ_173.1 18 ≤ 42000 := hT.1 18
        have v19 : 0 ≤ τ_173.1 19 ∧ τ_173.1 19 ≤ 1000 := hT.1 19
        have CJ : J_all (τ_173.1 7) (τ_173.1 6) (τ_173.1 13) (τ_173.1 14) (τ_173.1 15) (τ_173.2.1 13) (τ_173.2.1 14) (τ_173.2.1 15) (τ_173.2.1 16) (τ_173.2.1 10) (τ_173.2.1 27) (τ_173.2.1 28) (τ_173.2.1 29) (τ_173.2.1 30) (τ_173.2.1 31) (τ_173.2.1 32) (τ_173.2.1 33) (τ_173.2.1 34) (τ_173.2.1 35) (τ_173.2.1 36) (τ_173.2.1 37) := by rw [show (J_all (τ_173.1 7) (τ_173.1 6) (τ_173.1 13) (τ_173.1 14) (τ_173.1 15) (τ_173.2.1 13) (τ_173.2.1 14) (τ_173.2.1 15) (τ_173.2.1 16) (τ_173.2.1 10) (τ_173.2.1 27) (τ_173.2.1 28) (τ_173.2.1 29) (τ_173.2.1 30) (τ_173.2.1 31) (τ_173.2.1 32) (τ_173.2.1 33) (τ_173.2.1 34) (τ_173.2.1 35) (τ_173.2.1 36) (τ_173.2.1 37)) = (J_all (σ.1 7) (σ.1 6) (σ.1 13) (σ.1 14) (σ.1 15) (σ.2.1 13) (σ.2.1 14) (σ.2.1 15) (σ.2.1 16) (σ.2.1 10) (σ.2.1 27) (σ.2.1 28) (σ.2.1 29) (σ.2.1 30) (σ.2.1 31) (σ.2.1 32) (σ.2.1 33) (σ.2.1 34) (σ.2.1 35) (σ.2.1 36) (σ.2.1 37)) from by rw [W6, W7, W13, W14, W15, G10, G13, G14, G15, G16, G27, G28, G29, G30, G31, G32, G33, G34, G35, G36, G37]]; exact CJ_0
        have BP : J_bp (τ_173.2.1 44) (τ_173.2.1 45) := i173_2
        have mc := mono (σ.2.1 33 n1) (σ.2.1 33 n1 + u5_173) (by omega) (by omega) (by omega)
        have mcd := mono (σ.2.1 33 n1 + u5_173) (σ.2.1 33 n1 + u5_173 + 1) (by omega) (by omega) (by omega)
        have md := mono (σ.2.1 33 n1 + u5_173 + 1) (σ.2.1 33 n1 + σ.2.1 34 n1) (by omega) (by omega) (by omega)
        have szr := fun r a b => (J_dt_b (r := r) i173_3 a b).1
        have chr := fun (c : Int) (a : σ.2.1 36 (σ.2.1 33 n1) ≤ c) (b : c < σ.2.1 36 (σ.2.1 33 n1 + u5_173 + 1)) => chh u5_173 c (by omega) (by omega) a b
        have ld := J_lw_d (D := σ.2.1 36 (σ.2.1 33 n1 + u5_173 + 1)) i173_4 i173_5 (by omega) szr mc mcd md (fun c a b => ⟨(c0 c).1, chr c a b⟩)
        refine h173 n2 u3_173 u5_173 u7_173 τ_173 ?_
        refine ⟨(⟨by (first | omega | (simp only [st_s] <;> omega) | assumption | omega | fail), by (first | omega | (simp only [st_s] <;> omega) | assumption | omega | fail)⟩ : rg (u3_173 + u5_173)), ?_⟩
        refine ⟨_, K2_X0_childCount hT (show 0 ≤ (u3_173 + u5_173) from by (first | omega | (simp only [st_s] <;> omega) | assumption | omega | fail)) (show (u3_173 + u5_173) < 20000 from by (first | omega | (simp only [st_s] <;> omega) | assumption | omega | fail)), ?_⟩
        intro x44 r_x44 hq
        have q43_1 := hq
        replace q43_1 : x44 = τ_173.2.1 36 ((u3_173 + u5_173) + 1) - τ_173.2.1 36 (u3_173 + u5_173) := q43_1
        have p37 := G37
        have e44 : x44 = σ.2.1 36 (σ.2.1 33 n1 + u5_173 + 1) - σ.2.1 36 (σ.2.1 33 n1 + u5_173) := by rw [q43_1, G36, i173_9]
        have ld1 := ld.1
        have ld2 := ld.2
        rw [← e44, ← i173_6] at ld1 ld2
        have hc1 := hca (u5_173 + 1)
        rw [show σ.2.1 33 n1 + (u5_173 + 1) = σ.2.1 33 n1 + u5_173 + 1 from by omega] at hc1
        have wn := sm_n (g := fun k => j_w (τ_173.2.1 42) (τ_173.2.1 41) (σ.2.1 37 (u7_173 + k))) (n := x44) (fun e a b => by have := j_w_u (τ_173.2.1 42) (τ_173.2.1 41) (σ.2.1 37 (u7_173 + e)); have := szr (σ.2.1 37 (u7_173 + e)) (c0 _).1 (chr _ (by omega) (by omega)); omega)
        refine ⟨_, K_X6_drop hT (show 0 ≤ u7_173 from by (first | omega | (simp only [st_s] <;> omega) | assumption | omega | fail)) (show 0 ≤ x44 from by (first | omega | (simp only [st_s] <;> omega) | assumption | omega | fail)) (show u7_173 + x44 ≤ 20000 from by (first | omega | (simp only [st_s] <;> omega) | assumption | omega | fail)) (show ∀ k : Int, 0 ≤ k → k < x44 → 0 ≤ τ_173.2.1 41 (τ_173.2.1 37 (u7_173 + k)) from by (intro k a b; rw [i173_6, G37]; exact szr _ (c0 _).1 (chr _ (by omega) (by omega)))) (show sm (fun k => j_w (τ_173.2.1 42) (τ_173.2.1 41) (τ_173.2.1 37 (u7_173 + k))) x44 ≤ (τ_173.1 17) from by (rw [G37]; exact ld1)), ?_⟩
        intro τ48 hn_τ48 hf_τ48 hq
        obtain ⟨hT, q46_1⟩ := hq
        replace q46_1 : (τ48.1 17) = (τ_173.1 17) - sm (fun k => j_w (τ_173.2.1 42) (τ_173.2.1 41) (τ_173.2.1 37 (u7_173 + k))) x44 := q46_1
        have w6_τ48 : τ48.1 6 = τ_173.1 6 := hf_τ48.1 6 (by decide)
        have w7_τ48 : τ48.1 7 = τ_173.1 7 := hf_τ48.1 7 (by decide)
        have w13_τ48 : τ48.1 13 = τ_173.1 13 := hf_τ48.1 13 (by decide)
        have w14_τ48 : τ48.1 14 = τ_173.1 14 := hf_τ48.1 14 (by decide)
        have w15_τ48 : τ48.1 15 = τ_173.1 15 := hf_τ48.1 15 (by decide)
        have w18_τ48 : τ48.1 18 = τ_173.1 18 := hf_τ48.1 18 (by decide)
        have w19_τ48 : τ48.1 19 = τ_173.1 19 := hf_τ48.1 19 (by decide)
        have g10_τ48 : τ48.2.1 10 = τ_173.2.1 10 := hf_τ48.2.1 10 (by decide)
        have g13_τ48 : τ48.2.1 13 = τ_173.2.1 13 := hf_τ48.2.1 13 (by decide)
        have g14_τ48 : τ48.2.1 14 = τ_173.2.1 14 := hf_τ48.2.1 14 (by decide)
        have g15_τ48 : τ48.2.1 15 = τ_173.2.1 15 := hf_τ48.2.1 15 (by decide)
        have g16_τ48 : τ48.2.1 16 = τ_173.2.1 16 := hf_τ48.2.1 16 (by decide)
        have g27_τ48 : τ48.2.1 27 = τ_173.2.1 27 := hf_τ48.2.1 27 (by decide)
        have g28_τ48 : τ48.2.1 28 = τ_173.2.1 28 := hf_τ48.2.1 28 (by decide)
        have g29_τ48 : τ48.2.1 29 = τ_173.2.1 29 := hf_τ48.2.1 29 (by decide)
        have g30_τ48 : τ48.2.1 30 = τ_173.2.1 30 := hf_τ48.2.1 30 (by decide)
        have g31_τ48 : τ48.2.1 31 = τ_173.2.1 31 := hf_τ48.2.1 31 (by decide)
        have g32_τ48 : τ48.2.1 32 = τ_173.2.1 32 := hf_τ48.2.1 32 (by decide)
        have g33_τ48 : τ48.2.1 33 = τ_173.2.1 33 := hf_τ48.2.1 33 (by decide)
        have g34_τ48 : τ48.2.1 34 = τ_173.2.1 34 := hf_τ48.2.1 34 (by decide)
        have g35_τ48 : τ48.2.1 35 = τ_173.2.1 35 := hf_τ48.2.1 35 (by decide)
        have g36_τ48 : τ48.2.1 36 = τ_173.2.1 36 := hf_τ48.2.1 36 (by decide)
        have g37_τ48 : τ48.2.1 37 = τ_173.2.1 37 := hf_τ48.2.1 37 (by decide)
        have g39_τ48 : τ48.2.1 39 = τ_173.2.1 39 := hf_τ48.2.1 39 (by decide)
        have g40_τ48 : τ48.2.1 40 = τ_173.2.1 40 := hf_τ48.2.1 40 (by decide)
        have g41_τ48 : τ48.2.1 41 = τ_173.2.1 41 := hf_τ48.2.1 41 (by decide)
        have g42_τ48 : τ48.2.1 42 = τ_173.2.1 42 := hf_τ48.2.1 42 (by decide)
        have g43_τ48 : τ48.2.1 43 = τ_173.2.1 43 := hf_τ48.2.1 43 (by decide)
        have g44_τ48 : τ48.2.1 44 = τ_173.2.1 44 := hf_τ48.2.1 44 (by decide)
        have g45_τ48 : τ48.2.1 45 = τ_173.2.1 45 := hf_τ48.2.1 45 (by decide)
        have W6 : τ48.1 6 = σ.1 6 := by first | exact w6_τ48.trans W6 | omega
        have W7 : τ48.1 7 = σ.1 7 := by first | exact w7_τ48.trans W7 | omega
        have W13 : τ48.1 13 = σ.1 13 := by first | exact w13_τ48.trans W13 | omega
        have W14 : τ48.1 14 = σ.1 14 := by first | exact w14_τ48.trans W14 | omega
        have W15 : τ48.1 15 = σ.1 15 := by first | exact w15_τ48.trans W15 | omega
        have G10 : τ48.2.1 10 = σ.2.1 10 := (g10_τ48).trans G10
        have G13 : τ48.2.1 13 = σ.2.1 13 := (g13_τ48).trans G13
        have G14 : τ48.2.1 14 = σ.2.1 14 := (g14_τ48).trans G14
        have G15 : τ48.2.1 15 = σ.2.1 15 := (g15_τ48).trans G15
        have G16 : τ48.2.1 16 = σ.2.1 16 := (g16_τ48).trans G16
        have G27 : τ48.2.1 27 = σ.2.1 27 := (g27_τ48).trans G27
        have G28 : τ48.2.1 28 = σ.2.1 28 := (g28_τ48).trans G28
        have G29 : τ48.2.1 29 = σ.2.1 29 := (g29_τ48).trans G29
        have G30 : τ48.2.1 30 = σ.2.1 30 := (g30_τ48).trans G30
        have G31 : τ48.2.1 31 = σ.2.1 31 := (g31_τ48).trans G31
        have G32 : τ48.2.1 32 = σ.2.1 32 := (g32_τ48).trans G32
        have G33 : τ48.2.1 33 = σ.2.1 33 := (g33_τ48).trans G33
        have G34 : τ48.2.1 34 = σ.2.1 34 := (g34_τ48).trans G34
        have G35 : τ48.2.1 35 = σ.2.1 35 := (g35_τ48).trans G35
        have G36 : τ48.2.1 36 = σ.2.1 36 := (g36_τ48).trans G36
        have G37 : τ48.2.1 37 = σ.2.1 37 := (g37_τ48).trans G37
        have CJ : J_all (τ48.1 7) (τ48.1 6) (τ48.1 13) (τ48.1 14) (τ48.1 15) (τ48.2.1 13) (τ48.2.1 14) (τ48.2.1 15) (τ48.2.1 16) (τ48.2.1 10) (τ48.2.1 27) (τ48.2.1 28) (τ48.2.1 29) (τ48.2.1 30) (τ48.2.1 31) (τ48.2.1 32) (τ48.2.1 33) (τ48.2.1 34) (τ48.2.1 35) (τ48.2.1 36) (τ48.2.1 37) := by rw [show (J_all (τ48.1 7) (τ48.1 6) (τ48.1 13) (τ48.1 14) (τ48.1 15) (τ48.2.1 13) (τ48.2.1 14) (τ48.2.1 15) (τ48.2.1 16) (τ48.2.1 10) (τ48.2.1 27) (τ48.2.1 28) (τ48.2.1 29) (τ48.2.1 30) (τ48.2.1 31) (τ48.2.1 32) (τ48.2.1 33) (τ48.2.1 34) (τ48.2.1 35) (τ48.2.1 36) (τ48.2.1 37)) = (J_all (τ_173.1 7) (τ_173.1 6) (τ_173.1 13) (τ_173.1 14) (τ_173.1 15) (τ_173.2.1 13) (τ_173.2.1 14) (τ_173.2.1 15) (τ_173.2.1 16) (τ_173.2.1 10) (τ_173.2.1 27) (τ_173.2.1 28) (τ_173.2.1 29) (τ_173.2.1 30) (τ_173.2.1 31) (τ_173.2.1 32) (τ_173.2.1 33) (τ_173.2.1 34) (τ_173.2.1 35) (τ_173.2.1 36) (τ_173.2.1 37)) from by rw [w6_τ48, w7_τ48, w13_τ48, w14_τ48, w15_τ48, g10_τ48, g13_τ48, g14_τ48, g15_τ48, g16_τ48, g27_τ48, g28_τ48, g29_τ48, g30_τ48, g31_τ48, g32_τ48, g33_τ48, g34_τ48, g35_τ48, g36_τ48, g37_τ48]]; exact CJ
        have BP : J_bp (τ48.2.1 44) (τ48.2.1 45) := by rw [show (J_bp (τ48.2.1 44) (τ48.2.1 45)) = (J_bp (τ_173.2.1 44) (τ_173.2.1 45)) from by rw [g44_τ48, g45_τ48]]; exact BP
        have A10 : ∀ j, (-1) ≤ τ48.2.1 10 j ∧ τ48.2.1 10 j ≤ 99 := fun j => hT.2 10 j
        have A13 : ∀ j, 0 ≤ τ48.2.1 13 j ∧ τ48.2.1 13 j ≤ 4 := fun j => hT.2 13 j
        have A14 : ∀ j, 0 ≤ τ48.2.1 14 j ∧ τ48.2.1 14 j ≤ 30000 := fun j => hT.2 14 j
        have A15 : ∀ j, 0 ≤ τ48.2.1 15 j ∧ τ48.2.1 15 j ≤ 999 := fun j => hT.2 15 j
        have A16 : ∀ j, (-1) ≤ τ48.2.1 16 j ∧ τ48.2.1 16 j ≤ 1499 := fun j => hT.2 16 j
        have A27 : ∀ j, 0 ≤ τ48.2.1 27 j ∧ τ48.2.1 27 j ≤ 90000 := fun j => hT.2 27 j
        have A28 : ∀ j, 0 ≤ τ48.2.1 28 j ∧ τ48.2.1 28 j ≤ 60 := fun j => hT.2 28 j
        have A29 : ∀ j, 0 ≤ τ48.2.1 29 j ∧ τ48.2.1 29 j ≤ 1499 := fun j => hT.2 29 j
        have A30 : ∀ j, 0 ≤ τ48.2.1 30 j ∧ τ48.2.1 30 j ≤ 20000 := fun j => hT.2 30 j
        have A31 : ∀ j, 0 ≤ τ48.2.1 31 j ∧ τ48.2.1 31 j ≤ 20000 := fun j => hT.2 31 j
        have A32 : ∀ j, 0 ≤ τ48.2.1 32 j ∧ τ48.2.1 32 j ≤ 999999 := fun j => hT.2 32 j
        have A33 : ∀ j, 0 ≤ τ48.2.1 33 j ∧ τ48.2.1 33 j ≤ 20000 := fun j => hT.2 33 j
        have A34 : ∀ j, 0 ≤ τ48.2.1 34 j ∧ τ48.2.1 34 j ≤ 20000 := fun j => hT.2 34 j
        have A35 : ∀ j, 0 ≤ τ48.2.1 35 j ∧ τ48.2.1 35 j ≤ 1499 := fun j => hT.2 35 j
        have A36 : ∀ j, 0 ≤ τ48.2.1 36 j ∧ τ48.2.1 36 j ≤ 20000 := fun j => hT.2 36 j
        have A37 : ∀ j, 0 ≤ τ48.2.1 37 j ∧ τ48.2.1 37 j ≤ 19999 := fun j => hT.2 37 j
        have A39 : ∀ j, 0 ≤ τ48.2.1 39 j ∧ τ48.2.1 39 j ≤ 1060 := fun j => hT.2 39 j
        have A40 : ∀ j, 0 ≤ τ48.2.1 40 j ∧ τ48.2.1 40 j ≤ 42000 := fun j => hT.2 40 j
        have A41 : ∀ j, (-2) ≤ τ48.2.1 41 j ∧ τ48.2.1 41 j ≤ 1000 := fun j => hT.2 41 j
        have A42 : ∀ j, (-2147483648) ≤ τ48.2.1 42 j ∧ τ48.2.1 42 j ≤ 2147483647 := fun j => hT.2 42 j
        have A43 : ∀ j, 0 ≤ τ48.2.1 43 j ∧ τ48.2.1 43 j ≤ 1060 := fun j => hT.2 43 j
        have A44 : ∀ j, 0 ≤ τ48.2.1 44 j ∧ τ48.2.1 44 j ≤ 42000 := fun j => hT.2 44 j
        have A45 : ∀ j, 0 ≤ τ48.2.1 45 j ∧ τ48.2.1 45 j ≤ 1000 := fun j => hT.2 45 j
        have v6 : 0 ≤ τ48.1 6 ∧ τ48.1 6 ≤ 30000 := hT.1 6
        have v7 : 0 ≤ τ48.1 7 ∧ τ48.1 7 ≤ 1500 := hT.1 7
        have v13 : 0 ≤ τ48.1 13 ∧ τ48.1 13 ≤ 90000 := hT.1 13
        have v14 : 0 ≤ τ48.1 14 ∧ τ48.1 14 ≤ 20000 := hT.1 14
        have v15 : 0 ≤ τ48.1 15 ∧ τ48.1 15 ≤ 20000 := hT.1 15
        have v17 : 0 ≤ τ48.1 17 ∧ τ48.1 17 ≤ 42000 := hT.1 17
        have v18 : 0 ≤ τ48.1 18 ∧ τ48.1 18 ≤ 42000 := hT.1 18
        have v19 : 0 ≤ τ48.1 19 ∧ τ48.1 19 ≤ 1000 := hT.1 19
        rw [p37] at q46_1
        have lw2 : J_lw (τ48.1 17) u5_173 (σ.2.1 36 (σ.2.1 33 n1)) (σ.2.1 36 (σ.2.1 33 n1 + u5_173 + 1)) (σ.2.1 37) (τ48.2.1 42) (τ48.2.1 41) := by rw [q46_1, g42_τ48, g41_τ48]; exact ld2
        have dt2 : J_dt (τ48.1 17) (τ48.1 18) u5_173 (τ48.2.1 39) (τ48.2.1 40) (τ48.2.1 41) := by rw [w18_τ48, g39_τ48, g40_τ48, g41_τ48]; exact J_dt_low i173_3 (by omega)
        have on2 : J_on (σ.2.1 36 (σ.2.1 33 n1)) (σ.2.1 36 (σ.2.1 33 n1 + σ.2.1 34 n1)) (σ.2.1 37) (τ48.2.1 42) := by rw [g42_τ48]; exact i173_5
        have bt2 : ∀ j : Int, 0 ≤ j → j < τ48.1 19 → τ48.2.1 43 j < 1000 := by rw [w19_τ48, g43_τ48]; exact i173_7
        refine ⟨(show 0 ≤ u5_173 ∧ u5_173 < 20000 from by (first | omega | (simp only [st_s] <;> omega) | assumption | omega | fail)), ?_⟩
        intro x50 r_x50 e_x50
        have b_x50 : (-2147483648) ≤ x50 ∧ x50 ≤ 2147483647 := by rw [e_x50]; exact hT.2 42 _
        refine ⟨fun c51 => ?_, fun c51 => ?_⟩
        ·
          refine h209 _ _ _ _ _ _ ?_
          refine ⟨_, K_X6_put hT (show 0 ≤ u5_173 from by (first | omega | (simp only [st_s] <;> omega) | assumption | omega | fail)) (show u5_173 < 20000 from by (first | omega | (simp only [st_s] <;> omega) | assumption | omega | fail)) (show 0 ≤ (0 : Int) ∧ (0 : Int) ≤ 1 from by (first | omega | (simp only [st_s] <;> omega) | assumption | omega | fail)), ?_⟩
          intro x53 τ54 r_x53 hn_τ54 hf_τ54 hq
          obtain ⟨hT, q52_1, q52_2, q52_3, q52_4, q52_5, q52_6⟩ := hq
          replace q52_1 : 0 ≤ x53 ∧ x53 ≤ 1 := q52_1
          replace q52_2 : x53 = 0 → (τ54.1 17) = (τ48.1 17) ∧ (τ54.1 18) = (τ48.1 18) := q52_2
          replace q52_3 : ¬ x53 = 0 → (τ48.1 17) + (τ48.1 19) ≤ (τ48.1 18) := q52_3
          replace q52_4 : ¬ x53 = 0 → (0 : Int) = 0 → (τ54.1 17) = (τ48.1 17) + (τ48.1 19) ∧ (τ54.1 18) = (τ48.1 18) ∧ τ54.2.1 40 = st (τ48.2.1 40) u5_173 (τ48.1 17) ∧ τ54.2.1 39 = c_py (τ48.2.1 43) (τ48.2.1 39) 0 (τ48.1 17) (τ48.1 19) := q52_4
          replace q52_5 : ¬ x53 = 0 → ¬ (0 : Int) = 0 → (τ54.1 17) = (τ48.1 17) ∧ (τ54.1 18) = (τ48.1 18) - (τ48.1 19) ∧ τ54.2.1 40 = st (st (τ48.2.1 40) u5_173 (τ48.1 17)) u5_173 ((τ48.1 18) - (τ48.1 19)) ∧ τ54.2.1 39 = c_py (τ48.2.1 43) (τ48.2.1 39) 0 ((τ48.1 18) - (τ48.1 19)) (τ48.1 19) := q52_5
          replace q52_6 : ¬ x53 = 0 → τ54.2.1 41 = st (τ48.2.1 41) u5_173 (τ48.1 19) ∧ τ54.2.1 42 = st (τ48.2.1 42) u5_173 (1 + (0 : Int)) := q52_6
          have w6_τ54 : τ54.1 6 = τ48.1 6 := hf_τ54.1 6 (by decide)
          have w7_τ54 : τ54.1 7 = τ48.1 7 := hf_τ54.1 7 (by decide)
          have w13_τ54 : τ54.1 13 = τ48.1 13 := hf_τ54.1 13 (by decide)
          have w14_τ54 : τ54.1 14 = τ48.1 14 := hf_τ54.1 14 (by decide)
          have w15_τ54 : τ54.1 15 = τ48.1 15 := hf_τ54.1 15 (by decide)
          have w19_τ54 : τ54.1 19 = τ48.1 19 := hf_τ54.1 19 (by decide)
          have g10_τ54 : τ54.2.1 10 = τ48.2.1 10 := hf_τ54.2.1 10 (by decide)
          have g13_τ54 : τ54.2.1 13 = τ48.2.1 13 := hf_τ54.2.1 13 (by decide)
          have g14_τ54 : τ54.2.1 14 = τ48.2.1 14 := hf_τ54.2.1 14 (by decide)
          have g15_τ54 : τ54.2.1 15 = τ48.2.1 15 := hf_τ54.2.1 15 (by decide)
          have g16_τ54 : τ54.2.1 16 = τ48.2.1 16 := hf_τ54.2.1 16 (by decide)
          have g27_τ54 : τ54.2.1 27 = τ48.2.1 27 := hf_τ54.2.1 27 (by decide)
          have g28_τ54 : τ54.2.1 28 = τ48.2.1 28 := hf_τ54.2.1 28 (by decide)
          have g29_τ54 : τ54.2.1 29 = τ48.2.1 29 := hf_τ54.2.1 29 (by decide)
          have g30_τ54 : τ54.2.1 30 = τ48.2.1 30 := hf_τ54.2.1 30 (by decide)
          have g31_τ54 : τ54.2.1 31 = τ48.2.1 31 := hf_τ54.2.1 31 (by decide)
          have g32_τ54 : τ54.2.1 32 = τ48.2.1 32 := hf_τ54.2.1 32 (by decide)
          have g33_τ54 : τ54.2.1 33 = τ48.2.1 33 := hf_τ54.2.1 33 (by decide)
          have g34_τ54 : τ54.2.1 34 = τ48.2.1 34 := hf_τ54.2.1 34 (by decide)
          have g35_τ54 : τ54.2.1 35 = τ48.2.1 35 := hf_τ54.2.1 35 (by decide)
          have g36_τ54 : τ54.2.1 36 = τ48.2.1 36 := hf_τ54.2.1 36 (by decide)
          have g37_τ54 : τ54.2.1 37 = τ48.2.1 37 := hf_τ54.2.1 37 (by decide)
          have g43_τ54 : τ54.2.1 43 = τ48.2.1 43 := hf_τ54.2.1 43 (by decide)
          have g44_τ54 : τ54.2.1 44 = τ48.2.1 44 := hf_τ54.2.1 44 (by decide)
          have g45_τ54 : τ54.2.1 45 = τ48.2.1 45 := hf_τ54.2.1 45 (by decide)
          have W6 : τ54.1 6 = σ.1 6 := by first | exact w6_τ54.trans W6 | omega
          have W7 : τ54.1 7 = σ.1 7 := by first | exact w7_τ54.trans W7 | omega
          have W13 : τ54.1 13 = σ.1 13 := by first | exact w13_τ54.trans W13 | omega
          have W14 : τ54.1 14 = σ.1 14 := by first | exact w14_τ54.trans W14 | omega
          have W15 : τ54.1 15 = σ.1 15 := by first | exact w15_τ54.trans W15 | omega
          have G10 : τ54.2.1 10 = σ.2.1 10 := (g10_τ54).trans G10
          have G13 : τ54.2.1 13 = σ.2.1 13 := (g13_τ54).trans G13
          have G14 : τ54.2.1 14 = σ.2.1 14 := (g14_τ54).trans G14
          have G15 : τ54.2.1 15 = σ.2.1 15 := (g15_τ54).trans G15
          have G16 : τ54.2.1 16 = σ.2.1 16 := (g16_τ54).trans G16
          have G27 : τ54.2.1 27 = σ.2.1 27 := (g27_τ54).trans G27
          have G28 : τ54.2.1 28 = σ.2.1 28 := (g28_τ54).trans G28
          have G29 : τ54.2.1 29 = σ.2.1 29 := (g29_τ54).trans G29
          have G30 : τ54.2.1 30 = σ.2.1 30 := (g30_τ54).trans G30
          have G31 : τ54.2.1 31 = σ.2.1 31 := (g31_τ54).trans G31
          have G32 : τ54.2.1 32 = σ.2.1 32 := (g32_τ54).trans G32
          have G33 : τ54.2.1 33 = σ.2.1 33 := (g33_τ54).trans G33
          have G34 : τ54.2.1 34 = σ.2.1 34 := (g34_τ54).trans G34
          have G35 : τ54.2.1 35 = σ.2.1 35 := (g35_τ54).trans G35
          have G36 : τ54.2.1 36 = σ.2.1 36 := (g36_τ54).trans G36
          have G37 : τ54.2.1 37 = σ.2.1 37 := (g37_τ54).trans G37
          have CJ : J_all (τ54.1 7) (τ54.1 6) (τ54.1 13) (τ54.1 14) (τ54.1 15) (τ54.2.1 13) (τ54.2.1 14) (τ54.2.1 15) (τ54.2.1 16) (τ54.2.1 10) (τ54.2.1 27) (τ54.2.1 28) (τ54.2.1 29) (τ54.2.1 30) (τ54.2.1 31) (τ54.2.1 32) (τ54.2.1 33) (τ54.2.1 34) (τ54.2.1 35) (τ54.2.1 36) (τ54.2.1 37) := by rw [show (J_all (τ54.1 7) (τ54.1 6) (τ54.1 13) (τ54.1 14) (τ54.1 15) (τ54.2.1 13) (τ54.2.1 14) (τ54.2.1 15) (τ54.2.1 16) (τ54.2.1 10) (τ54.2.1 27) (τ54.2.1 28) (τ54.2.1 29) (τ54.2.1 30) (τ54.2.1 31) (τ54.2.1 32) (τ54.2.1 33) (τ54.2.1 34) (τ54.2.1 35) (τ54.2.1 36) (τ54.2.1 37)) = (J_all (τ48.1 7) (τ48.1 6) (τ48.1 13) (τ48.1 14) (τ48.1 15) (τ48.2.1 13) (τ48.2.1 14) (τ48.2.1 15) (τ48.2.1 16) (τ48.2.1 10) (τ48.2.1 27) (τ48.2.1 28) (τ48.2.1 29) (τ48.2.1 30) (τ48.2.1 31) (τ48.2.1 32) (τ48.2.1 33) (τ48.2.1 34) (τ48.2.1 35) (τ48.2.1 36) (τ48.2.1 37)) from by rw [w6_τ54, w7_τ54, w13_τ54, w14_τ54, w15_τ54, g10_τ54, g13_τ54, g14_τ54, g15_τ54, g16_τ54, g27_τ54, g28_τ54, g29_τ54, g30_τ54, g31_τ54, g32_τ54, g33_τ54, g34_τ54, g35_τ54, g36_τ54, g37_τ54]]; exact CJ
          have BP : J_bp (τ54.2.1 44) (τ54.2.1 45) := by rw [show (J_bp (τ54.2.1 44) (τ54.2.1 45)) = (J_bp (τ48.2.1 44) (τ48.2.1 45)) from by rw [g44_τ54, g45_τ54]]; exact BP
          have A10 : ∀ j, (-1) ≤ τ54.2.1 10 j ∧ τ54.2.1 10 j ≤ 99 := fun j => hT.2 10 j
          have A13 : ∀ j, 0 ≤ τ54.2.1 13 j ∧ τ54.2.1 13 j ≤ 4 := fun j => hT.2 13 j
          have A14 : ∀ j, 0 ≤ τ54.2.1 14 j ∧ τ54.2.1 14 j ≤ 30000 := fun j => hT.2 14 j
          have A15 : ∀ j, 0 ≤ τ54.2.1 15 j ∧ τ54.2.1 15 j ≤ 999 := fun j => hT.2 15 j
          have A16 : ∀ j, (-1) ≤ τ54.2.1 16 j ∧ τ54.2.1 16 j ≤ 1499 := fun j => hT.2 16 j
          have A27 : ∀ j, 0 ≤ τ54.2.1 27 j ∧ τ54.2.1 27 j ≤ 90000 := fun j => hT.2 27 j
          have A28 : ∀ j, 0 ≤ τ54.2.1 28 j ∧ τ54.2.1 28 j ≤ 60 := fun j => hT.2 28 j
          have A29 : ∀ j, 0 ≤ τ54.2.1 29 j ∧ τ54.2.1 29 j ≤ 1499 := fun j => hT.2 29 j
          have A30 : ∀ j, 0 ≤ τ54.2.1 30 j ∧ τ54.2.1 30 j ≤ 20000 := fun j => hT.2 30 j
          have A31 : ∀ j, 0 ≤ τ54.2.1 31 j ∧ τ54.2.1 31 j ≤ 20000 := fun j => hT.2 31 j
          have A32 : ∀ j, 0 ≤ τ54.2.1 32 j ∧ τ54.2.1 32 j ≤ 999999 := fun j => hT.2 32 j
          have A33 : ∀ j, 0 ≤ τ54.2.1 33 j ∧ τ54.2.1 33 j ≤ 20000 := fun j => hT.2 33 j
          have A34 : ∀ j, 0 ≤ τ54.2.1 34 j ∧ τ54.2.1 34 j ≤ 20000 := fun j => hT.2 34 j
          have A35 : ∀ j, 0 ≤ τ54.2.1 35 j ∧ τ54.2.1 35 j ≤ 1499 := fun j => hT.2 35 j
          have A36 : ∀ j, 0 ≤ τ54.2.1 36 j ∧ τ54.2.1 36 j ≤ 20000 := fun j => hT.2 36 j
          have A37 : ∀ j, 0 ≤ τ54.2.1 37 j ∧ τ54.2.1 37 j ≤ 19999 := fun j => hT.2 37 j
          have A39 : ∀ j, 0 ≤ τ54.2.1 39 j ∧ τ54.2.1 39 j ≤ 1060 := fun j => hT.2 39 j
          have A40 : ∀ j, 0 ≤ τ54.2.1 40 j ∧ τ54.2.1 40 j ≤ 42000 := fun j => hT.2 40 j
          have A41 : ∀ j, (-2) ≤ τ54.2.1 41 j ∧ τ54.2.1 41 j ≤ 1000 := fun j => hT.2 41 j
          have A42 : ∀ j, (-2147483648) ≤ τ54.2.1 42 j ∧ τ54.2.1 42 j ≤ 2147483647 := fun j => hT.2 42 j
          have A43 : ∀ j, 0 ≤ τ54.2.1 43 j ∧ τ54.2.1 43 j ≤ 1060 := fun j => hT.2 43 j
          have A44 : ∀ j, 0 ≤ τ54.2.1 44 j ∧ τ54.2.1 44 j ≤ 42000 := fun j => hT.2 44 j
          have A45 : ∀ j, 0 ≤ τ54.2.1 45 j ∧ τ54.2.1 45 j ≤ 1000 := fun j => hT.2 45 j
          have v6 : 0 ≤ τ54.1 6 ∧ τ54.1 6 ≤ 30000 := hT.1 6
          have v7 : 0 ≤ τ54.1 7 ∧ τ54.1 7 ≤ 1500 := hT.1 7
          have v13 : 0 ≤ τ54.1 13 ∧ τ54.1 13 ≤ 90000 := hT.1 13
          have v14 : 0 ≤ τ54.1 14 ∧ τ54.1 14 ≤ 20000 := hT.1 14
          have v15 : 0 ≤ τ54.1 15 ∧ τ54.1 15 ≤ 20000 := hT.1 15
          have v17 : 0 ≤ τ54.1 17 ∧ τ54.1 17 ≤ 42000 := hT.1 17
          have v18 : 0 ≤ τ54.1 18 ∧ τ54.1 18 ≤ 42000 := hT.1 18
          have v19 : 0 ≤ τ54.1 19 ∧ τ54.1 19 ≤ 1000 := hT.1 19
          refine ⟨fun c55 => ?_, fun c55 => ?_⟩
          ·
            refine ⟨(⟨by (first | omega | (simp only [st_s] <;> omega) | assumption | omega | fail), by (first | omega | (simp only [st_s] <;> omega) | assumption | omega | fail)⟩ : rg (u5_173 + 1)), ?_⟩
            exact ih_94 _ _ _ (show (20001 - (u5_173 + 1) : Int) < ((m_94 : Nat) : Int) from by ((first | omega | (simp only [st_s] <;> omega) | assumption | omega | fail))) hT (show τ54.1 6 = σ.1 6 from by first | exact W6 | omega) (show τ54.1 7 = σ.1 7 from by first | exact W7 | omega) (show τ54.1 13 = σ.1 13 from by first | exact W13 | omega) (show τ54.1 14 = σ.1 14 from by first | exact W14 | omega) (show τ54.1 15 = σ.1 15 from by first | exact W15 | omega) G10 G13 G14 G15 G16 G27 G28 G29 G30 G31 G32 G33 G34 G35 G36 G37 (show 0 ≤ (u5_173 + 1) ∧ (u5_173 + 1) ≤ n2 + 1 from by (first | omega | (simp only [st_s] <;> omega) | assumption | omega | fail)) (show J_dt (τ54.1 17) (τ54.1 18) ((u5_173 + 1)) (τ54.2.1 39) (τ54.2.1 40) (τ54.2.1 41) from by (first | (rw [i51_3.1, i51_3.2]; exact J_dt0 _ _ _) | (have w := q52_4 c55 rfl; have v := q52_6 c55; rw [w.1, w.2.1, w.2.2.1, w.2.2.2, v.1]; exact J_dt_l dt2 (by omega) (by omega) (q52_3 c55) (by omega) bt2) | (have w := q52_5 c55 (by omega); have v := q52_6 c55; rw [w.1, w.2.1, w.2.2.1, w.2.2.2, v.1]; exact J_dt_h dt2 (by omega) (by omega) (q52_3 c55) (by omega) bt2) | fail)) (show J_bp (τ54.2.1 44) (τ54.2.1 45) from BP) (show J_lw (τ54.1 17) ((u5_173 + 1)) (σ.2.1 36 (σ.2.1 33 n1)) (σ.2.1 36 (σ.2.1 33 n1 + (u5_173 + 1))) (σ.2.1 37) (τ54.2.1 42) (τ54.2.1 41) from by (first | (rw [i51_3.1, show σ.2.1 33 n1 + 0 = σ.2.1 33 n1 from by omega]; exact J_lw0 _ _ _ _) | (have w := q52_4 c55 rfl; have v := q52_6 c55; rw [v.1, v.2, show σ.2.1 33 n1 + (u5_173 + 1) = σ.2.1 33 n1 + u5_173 + 1 from by omega]; exact J_lw_p lw2 (by omega) (by omega) (fun c a b => ⟨(c0 c).1, chr c a b⟩) (by rw [w.1, if_pos (by omega)])) | (have w := q52_5 c55 (by omega); have v := q52_6 c55; rw [v.1, v.2, show σ.2.1 33 n1 + (u5_173 + 1) = σ.2.1 33 n1 + u5_173 + 1 from by omega]; exact J_lw_p lw2 (by omega) (by omega) (fun c a b => ⟨(c0 c).1, chr c a b⟩) (by rw [w.1, if_neg (by omega)]; omega)) | fail)) (show J_on (σ.2.1 36 (σ.2.1 33 n1)) (σ.2.1 36 (σ.2.1 33 n1 + σ.2.1 34 n1)) (σ.2.1 37) (τ54.2.1 42) from by (first | (have w := i51_4.2.2; rw [show u5_51 = σ.2.1 36 (σ.2.1 33 n1 + σ.2.1 34 n1) from by omega] at w; exact w) | (have v := q52_6 c55; rw [v.2]; exact J_on_p on2 (fun z => by omega)) | fail)) (show u3_173 = σ.2.1 33 n1 from by (first | exact i51_6 | exact i173_9 | fail))
          ·
            exact ⟨hT, (show 0 ≤ 0 ∧ 0 ≤ 1 from by (first | omega | (simp only [st_s] <;> omega) | assumption | omega | fail)), (show J_bp (τ54.2.1 44) (τ54.2.1 45) from BP), (show ¬ 0 = 0 → J_dt (τ54.1 17) (τ54.1 18) (n2 + 1) (τ54.2.1 39) (τ54.2.1 40) (τ54.2.1 41) from by (first | (intro z; exfalso; omega) | (intro _; rw [show n2 + 1 = u5_94 from by omega]; exact i94_2) | fail))⟩
        ·
          refine h209 _ _ _ _ _ _ ?_
          refine ⟨_, K_X6_put hT (show 0 ≤ u5_173 from by (first | omega | (simp only [st_s] <;> omega) | assumption | omega | fail)) (show u5_173 < 20000 from by (first | omega | (simp only [st_s] <;> omega) | assumption | omega | fail)) (show 0 ≤ (1 : Int) ∧ (1 : Int) ≤ 1 from by (first | omega | (simp only [st_s] <;> omega) | assumption | omega | fail)), ?_⟩
          intro x53 τ54 r_x53 hn_τ54 hf_τ54 hq
          obtain ⟨hT, q52_1, q52_2, q52_3, q52_4, q52_5, q52_6⟩ := hq
          replace q52_1 : 0 ≤ x53 ∧ x53 ≤ 1 := q52_1
          replace q52_2 : x53 = 0 → (τ54.1 17) = (τ48.1 17) ∧ (τ54.1 18) = (τ48.1 18) := q52_2
          replace q52_3 : ¬ x53 = 0 → (τ48.1 17) + (τ48.1 19) ≤ (τ48.1 18) := q52_3
          replace q52_4 : ¬ x53 = 0 → (1 : Int) = 0 → (τ54.1 17) = (τ48.1 17) + (τ48.1 19) ∧ (τ54.1 18) = (τ48.1 18) ∧ τ54.2.1 40 = st (τ48.2.1 40) u5_173 (τ48.1 17) ∧ τ54.2.1 39 = c_py (τ48.2.1 43) (τ48.2.1 39) 0 (τ48.1 17) (τ48.1 19) := q52_4
          replace q52_5 : ¬ x53 = 0 → ¬ (1 : Int) = 0 → (τ54.1 17) = (τ48.1 17) ∧ (τ54.1 18) = (τ48.1 18) - (τ48.1 19) ∧ τ54.2.1 40 = st (st (τ48.2.1 40) u5_173 (τ48.1 17)) u5_173 ((τ48.1 18) - (τ48.1 19)) ∧ τ54.2.1 39 = c_py (τ48.2.1 43) (τ48.2.1 39) 0 ((τ48.1 18) - (τ48.1 19)) (τ48.1 19) := q52_5
          replace q52_6 : ¬ x53 = 0 → τ54.2.1 41 = st (τ48.2.1 41) u5_173 (τ48.1 19) ∧ τ54.2.1 42 = st (τ48.2.1 42) u5_173 (1 + (1 : Int)) := q52_6
          have w6_τ54 : τ54.1 6 = τ48.1 6 := hf_τ54.1 6 (by decide)
          have w7_τ54 : τ54.1 7 = τ48.1 7 := hf_τ54.1 7 (by decide)
          have w13_τ54 : τ54.1 13 = τ48.1 13 := hf_τ54.1 13 (by decide)
          have w14_τ54 : τ54.1 14 = τ48.1 14 := hf_τ54.1 14 (by decide)
          have w15_τ54 : τ54.1 15 = τ48.1 15 := hf_τ54.1 15 (by decide)
          have w19_τ54 : τ54.1 19 = τ48.1 19 := hf_τ54.1 19 (by decide)
          have g10_τ54 : τ54.2.1 10 = τ48.2.1 10 := hf_τ54.2.1 10 (by decide)
          have g13_τ54 : τ54.2.1 13 = τ48.2.1 13 := hf_τ54.2.1 13 (by decide)
          have g14_τ54 : τ54.2.1 14 = τ48.2.1 14 := hf_τ54.2.1 14 (by decide)
          have g15_τ54 : τ54.2.1 15 = τ48.2.1 15 := hf_τ54.2.1 15 (by decide)
          have g16_τ54 : τ54.2.1 16 = τ48.2.1 16 := hf_τ54.2.1 16 (by decide)
          have g27_τ54 : τ54.2.1 27 = τ48.2.1 27 := hf_τ54.2.1 27 (by decide)
          have g28_τ54 : τ54.2.1 28 = τ48.2.1 28 := hf_τ54.2.1 28 (by decide)
          have g29_τ54 : τ54.2.1 29 = τ48.2.1 29 := hf_τ54.2.1 29 (by decide)
          have g30_τ54 : τ54.2.1 30 = τ48.2.1 30 := hf_τ54.2.1 30 (by decide)
          have g31_τ54 : τ54.2.1 31 = τ48.2.1 31 := hf_τ54.2.1 31 (by decide)
          have g32_τ54 : τ54.2.1 32 = τ48.2.1 32 := hf_τ54.2.1 32 (by decide)
          have g33_τ54 : τ54.2.1 33 = τ48.2.1 33 := hf_τ54.2.1 33 (by decide)
          have g34_τ54 : τ54.2.1 34 = τ48.2.1 34 := hf_τ54.2.1 34 (by decide)
          have g35_τ54 : τ54.2.1 35 = τ48.2.1 35 := hf_τ54.2.1 35 (by decide)
          have g36_τ54 : τ54.2.1 36 = τ48.2.1 36 := hf_τ54.2.1 36 (by decide)
          have g37_τ54 : τ54.2.1 37 = τ48.2.1 37 := hf_τ54.2.1 37 (by decide)
          have g43_τ54 : τ54.2.1 43 = τ48.2.1 43 := hf_τ54.2.1 43 (by decide)
          have g44_τ54 : τ54.2.1 44 = τ48.2.1 44 := hf_τ54.2.1 44 (by decide)
          have g45_τ54 : τ54.2.1 45 = τ48.2.1 45 := hf_τ54.2.1 45 (by decide)
          have W6 : τ54.1 6 = σ.1 6 := by first | exact w6_τ54.trans W6 | omega
          have W7 : τ54.1 7 = σ.1 7 := by first | exact w7_τ54.trans W7 | omega
          have W13 : τ54.1 13 = σ.1 13 := by first | exact w13_τ54.trans W13 | omega
          have W14 : τ54.1 14 = σ.1 14 := by first | exact w14_τ54.trans W14 | omega
          have W15 : τ54.1 15 = σ.1 15 := by first | exact w15_τ54.trans W15 | omega
          have G10 : τ54.2.1 10 = σ.2.1 10 := (g10_τ54).trans G10
          have G13 : τ54.2.1 13 = σ.2.1 13 := (g13_τ54).trans G13
          have G14 : τ54.2.1 14 = σ.2.1 14 := (g14_τ54).trans G14
          have G15 : τ54.2.1 15 = σ.2.1 15 := (g15_τ54).trans G15
          have G16 : τ54.2.1 16 = σ.2.1 16 := (g16_τ54).trans G16
          have G27 : τ54.2.1 27 = σ.2.1 27 := (g27_τ54).trans G27
          have G28 : τ54.2.1 28 = σ.2.1 28 := (g28_τ54).trans G28
          have G29 : τ54.2.1 29 = σ.2.1 29 := (g29_τ54).trans G29
          have G30 : τ54.2.1 30 = σ.2.1 30 := (g30_τ54).trans G30
          have G31 : τ54.2.1 31 = σ.2.1 31 := (g31_τ54).trans G31
          have G32 : τ54.2.1 32 = σ.2.1 32 := (g32_τ54).trans G32
          have G33 : τ54.2.1 33 = σ.2.1 33 := (g33_τ54).trans G33
          have G34 : τ54.2.1 34 = σ.2.1 34 := (g34_τ54).trans G34
          have G35 : τ54.2.1 35 = σ.2.1 35 := (g35_τ54).trans G35
          have G36 : τ54.2.1 36 = σ.2.1 36 := (g36_τ54).trans G36
          have G37 : τ54.2.1 37 = σ.2.1 37 := (g37_τ54).trans G37
          have CJ : J_all (τ54.1 7) (τ54.1 6) (τ54.1 13) (τ54.1 14) (τ54.1 15) (τ54.2.1 13) (τ54.2.1 14) (τ54.2.1 15) (τ54.2.1 16) (τ54.2.1 10) (τ54.2.1 27) (τ54.2.1 28) (τ54.2.1 29) (τ54.2.1 30) (τ54.2.1 31) (τ54.2.1 32) (τ54.2.1 33) (τ54.2.1 34) (τ54.2.1 35) (τ54.2.1 36) (τ54.2.1 37) := by rw [show (J_all (τ54.1 7) (τ54.1 6) (τ54.1 13) (τ54.1 14) (τ54.1 15) (τ54.2.1 13) (τ54.2.1 14) (τ54.2.1 15) (τ54.2.1 16) (τ54.2.1 10) (τ54.2.1 27) (τ54.2.1 28) (τ54.2.1 29) (τ54.2.1 30) (τ54.2.1 31) (τ54.2.1 32) (τ54.2.1 33) (τ54.2.1 34) (τ54.2.1 35) (τ54.2.1 36) (τ54.2.1 37)) = (J_all (τ48.1 7) (τ48.1 6) (τ48.1 13) (τ48.1 14) (τ48.1 15) (τ48.2.1 13) (τ48.2.1 14) (τ48.2.1 15) (τ48.2.1 16) (τ48.2.1 10) (τ48.2.1 27) (τ48.2.1 28) (τ48.2.1 29) (τ48.2.1 30) (τ48.2.1 31) (τ48.2.1 32) (τ48.2.1 33) (τ48.2.1 34) (τ48.2.1 35) (τ48.2.1 36) (τ48.2.1 37)) from by rw [w6_τ54, w7_τ54, w13_τ54, w14_τ54, w15_τ54, g10_τ54, g13_τ54, g14_τ54, g15_τ54, g16_τ54, g27_τ54, g28_τ54, g29_τ54, g30_τ54, g31_τ54, g32_τ54, g33_τ54, g34_τ54, g35_τ54, g36_τ54, g37_τ54]]; exact CJ
          have BP : J_bp (τ54.2.1 44) (τ54.2.1 45) := by rw [show (J_bp (τ54.2.1 44) (τ54.2.1 45)) = (J_bp (τ48.2.1 44) (τ48.2.1 45)) from by rw [g44_τ54, g45_τ54]]; exact BP
          have A10 : ∀ j, (-1) ≤ τ54.2.1 10 j ∧ τ54.2.1 10 j ≤ 99 := fun j => hT.2 10 j
          have A13 : ∀ j, 0 ≤ τ54.2.1 13 j ∧ τ54.2.1 13 j ≤ 4 := fun j => hT.2 13 j
          have A14 : ∀ j, 0 ≤ τ54.2.1 14 j ∧ τ54.2.1 14 j ≤ 30000 := fun j => hT.2 14 j
          have A15 : ∀ j, 0 ≤ τ54.2.1 15 j ∧ τ54.2.1 15 j ≤ 999 := fun j => hT.2 15 j
          have A16 : ∀ j, (-1) ≤ τ54.2.1 16 j ∧ τ54.2.1 16 j ≤ 1499 := fun j => hT.2 16 j
          have A27 : ∀ j, 0 ≤ τ54.2.1 27 j ∧ τ54.2.1 27 j ≤ 90000 := fun j => hT.2 27 j
          have A28 : ∀ j, 0 ≤ τ54.2.1 28 j ∧ τ54.2.1 28 j ≤ 60 := fun j => hT.2 28 j
          have A29 : ∀ j, 0 ≤ τ54.2.1 29 j ∧ τ54.2.1 29 j ≤ 1499 := fun j => hT.2 29 j
          have A30 : ∀ j, 0 ≤ τ54.2.1 30 j ∧ τ54.2.1 30 j ≤ 20000 := fun j => hT.2 30 j
          have A31 : ∀ j, 0 ≤ τ54.2.1 31 j ∧ τ54.2.1 31 j ≤ 20000 := fun j => hT.2 31 j
          have A32 : ∀ j, 0 ≤ τ54.2.1 32 j ∧ τ54.2.1 32 j ≤ 999999 := fun j => hT.2 32 j
          have A33 : ∀ j, 0 ≤ τ54.2.1 33 j ∧ τ54.2.1 33 j ≤ 20000 := fun j => hT.2 33 j
          have A34 : ∀ j, 0 ≤ τ54.2.1 34 j ∧ τ54.2.1 34 j ≤ 20000 := fun j => hT.2 34 j
          have A35 : ∀ j, 0 ≤ τ54.2.1 35 j ∧ τ54.2.1 35 j ≤ 1499 := fun j => hT.2 35 j
          have A36 : ∀ j, 0 ≤ τ54.2.1 36 j ∧ τ54.2.1 36 j ≤ 20000 := fun j => hT.2 36 j
          have A37 : ∀ j, 0 ≤ τ54.2.1 37 j ∧ τ54.2.1 37 j ≤ 19999 := fun j => hT.2 37 j
          have A39 : ∀ j, 0 ≤ τ54.2.1 39 j ∧ τ54.2.1 39 j ≤ 1060 := fun j => hT.2 39 j
          have A40 : ∀ j, 0 ≤ τ54.2.1 40 j ∧ τ54.2.1 40 j ≤ 42000 := fun j => hT.2 40 j
          have A41 : ∀ j, (-2) ≤ τ54.2.1 41 j ∧ τ54.2.1 41 j ≤ 1000 := fun j => hT.2 41 j
          have A42 : ∀ j, (-2147483648) ≤ τ54.2.1 42 j ∧ τ54.2.1 42 j ≤ 2147483647 := fun j => hT.2 42 j
          have A43 : ∀ j, 0 ≤ τ54.2.1 43 j ∧ τ54.2.1 43 j ≤ 1060 := fun j => hT.2 43 j
          have A44 : ∀ j, 0 ≤ τ54.2.1 44 j ∧ τ54.2.1 44 j ≤ 42000 := fun j => hT.2 44 j
          have A45 : ∀ j, 0 ≤ τ54.2.1 45 j ∧ τ54.2.1 45 j ≤ 1000 := fun j => hT.2 45 j
          have v6 : 0 ≤ τ54.1 6 ∧ τ54.1 6 ≤ 30000 := hT.1 6
          have v7 : 0 ≤ τ54.1 7 ∧ τ54.1 7 ≤ 1500 := hT.1 7
          have v13 : 0 ≤ τ54.1 13 ∧ τ54.1 13 ≤ 90000 := hT.1 13
          have v14 : 0 ≤ τ54.1 14 ∧ τ54.1 14 ≤ 20000 := hT.1 14
          have v15 : 0 ≤ τ54.1 15 ∧ τ54.1 15 ≤ 20000 := hT.1 15
          have v17 : 0 ≤ τ54.1 17 ∧ τ54.1 17 ≤ 42000 := hT.1 17
          have v18 : 0 ≤ τ54.1 18 ∧ τ54.1 18 ≤ 42000 := hT.1 18
          have v19 : 0 ≤ τ54.1 19 ∧ τ54.1 19 ≤ 1000 := hT.1 19
          refine ⟨fun c55 => ?_, fun c55 => ?_⟩
          ·
            refine ⟨(⟨by (first | omega | (simp only [st_s] <;> omega) | assumption | omega | fail), by (first | omega | (simp only [st_s] <;> omega) | assumption | omega | fail)⟩ : rg (u5_173 + 1)), ?_⟩
            exact ih_94 _ _ _ (show (20001 - (u5_173 + 1) : Int) < ((m_94 : Nat) : Int) from by ((first | omega | (simp only [st_s] <;> omega) | assumption | omega | fail))) hT (show τ54.1 6 = σ.1 6 from by first | exact W6 | omega) (show τ54.1 7 = σ.1 7 from by first | exact W7 | omega) (show τ54.1 13 = σ.1 13 from by first | exact W13 | omega) (show τ54.1 14 = σ.1 14 from by first | exact W14 | omega) (show τ54.1 15 = σ.1 15 from by first | exact W15 | omega) G10 G13 G14 G15 G16 G27 G28 G29 G30 G31 G32 G33 G34 G35 G36 G37 (show 0 ≤ (u5_173 + 1) ∧ (u5_173 + 1) ≤ n2 + 1 from by (first | omega | (simp only [st_s] <;> omega) | assumption | omega | fail)) (show J_dt (τ54.1 17) (τ54.1 18) ((u5_173 + 1)) (τ54.2.1 39) (τ54.2.1 40) (τ54.2.1 41) from by (first | (rw [i51_3.1, i51_3.2]; exact J_dt0 _ _ _) | (have w := q52_4 c55 rfl; have v := q52_6 c55; rw [w.1, w.2.1, w.2.2.1, w.2.2.2, v.1]; exact J_dt_l dt2 (by omega) (by omega) (q52_3 c55) (by omega) bt2) | (have w := q52_5 c55 (by omega); have v := q52_6 c55; rw [w.1, w.2.1, w.2.2.1, w.2.2.2, v.1]; exact J_dt_h dt2 (by omega) (by omega) (q52_3 c55) (by omega) bt2) | fail)) (show J_bp (τ54.2.1 44) (τ54.2.1 45) from BP) (show J_lw (τ54.1 17) ((u5_173 + 1)) (σ.2.1 36 (σ.2.1 33 n1)) (σ.2.1 36 (σ.2.1 33 n1 + (u5_173 + 1))) (σ.2.1 37) (τ54.2.1 42) (τ54.2.1 41) from by (first | (rw [i51_3.1, show σ.2.1 33 n1 + 0 = σ.2.1 33 n1 from by omega]; exact J_lw0 _ _ _ _) | (have w := q52_4 c55 rfl; have v := q52_6 c55; rw [v.1, v.2, show σ.2.1 33 n1 + (u5_173 + 1) = σ.2.1 33 n1 + u5_173 + 1 from by omega]; exact J_lw_p lw2 (by omega) (by omega) (fun c a b => ⟨(c0 c).1, chr c a b⟩) (by rw [w.1, if_pos (by omega)])) | (have w := q52_5 c55 (by omega); have v := q52_6 c55; rw [v.1, v.2, show σ.2.1 33 n1 + (u5_173 + 1) = σ.2.1 33 n1 + u5_173 + 1 from by omega]; exact J_lw_p lw2 (by omega) (by omega) (fun c a b => ⟨(c0 c).1, chr c a b⟩) (by rw [w.1, if_neg (by omega)]; omega)) | fail)) (show J_on (σ.2.1 36 (σ.2.1 33 n1)) (σ.2.1 36 (σ.2.1 33 n1 + σ.2.1 34 n1)) (σ.2.1 37) (τ54.2.1 42) from by (first | (have w := i51_4.2.2; rw [show u5_51 = σ.2.1 36 (σ.2.1 33 n1 + σ.2.1 34 n1) from by omega] at w; exact w) | (have v := q52_6 c55; rw [v.2]; exact J_on_p on2 (fun z => by omega)) | fail)) (show u3_173 = σ.2.1 33 n1 from by (first | exact i51_6 | exact i173_9 | fail))
          ·
            exact ⟨hT, (show 0 ≤ 0 ∧ 0 ≤ 1 from by (first | omega | (simp only [st_s] <;> omega) | assumption | omega | fail)), (show J_bp (τ54.2.1 44) (τ54.2.1 45) from BP), (show ¬ 0 = 0 → J_dt (τ54.1 17) (τ54.1 18) (n2 + 1) (τ54.2.1 39) (τ54.2.1 40) (τ54.2.1 41) from by (first | (intro z; exfalso; omega) | (intro _; rw [show n2 + 1 = u5_94 from by omega]; exact i94_2) | fail))⟩
      refine h94 n2 u3_94 u5_94 τ_94 ?_
      refine ⟨fun c23 => ?_, fun c23 => ?_⟩
      ·
        exact ⟨hT, (show 0 ≤ 1 ∧ 1 ≤ 1 from by (first | omega | (simp only [st_s] <;> omega) | assumption | omega | fail)), (show J_bp (τ_94.2.1 44) (τ_94.2.1 45) from BP), (show ¬ 1 = 0 → J_dt (τ_94.1 17) (τ_94.1 18) (n2 + 1) (τ_94.2.1 39) (τ_94.2.1 40) (τ_94.2.1 41) from by (first | (intro z; exfalso; omega) | (intro _; rw [show n2 + 1 = u5_94 from by omega]; exact i94_2) | fail))⟩
      ·
        obtain ⟨r1, r2, r3⟩ := jr.2 (σ.2.1 33 n1 + u5_94) (by omega) (by omega)
        have mc := mono (σ.2.1 33 n1) (σ.2.1 33 n1 + u5_94) (by omega) (by omega) (by omega)
        have md := mono (σ.2.1 33 n1 + u5_94 + 1) (σ.2.1 33 n1 + σ.2.1 34 n1) (by omega) (by omega) (by omega)
        refine ⟨(show 0 ≤ (u3_94 + u5_94) ∧ (u3_94 + u5_94) < 20000 from by (first | omega | (simp only [st_s] <;> omega) | assumption | omega | fail)), ?_⟩
        intro x25 r_x25 e_x25
        have b_x25 : 0 ≤ x25 ∧ x25 ≤ 1499 := by rw [e_x25]; exact hT.2 35 _
        refine ⟨(show 0 ≤ (u3_94 + u5_94) ∧ (u3_94 + u5_94) < 20001 from by (first | omega | (simp only [st_s] <;> omega) | assumption | omega | fail)), ?_⟩
        intro x27 r_x27 e_x27
        have b_x27 : 0 ≤ x27 ∧ x27 ≤ 20000 := by rw [e_x27]; exact hT.2 36 _
        have ex25 : x25 = σ.2.1 35 (σ.2.1 33 n1 + u5_94) := by rw [e_x25, G35, i94_6]
        have ex27 : x27 = σ.2.1 36 (σ.2.1 33 n1 + u5_94) := by rw [e_x27, G36, i94_6]
        rw [← ex25, ← ex27] at r2
        rw [← ex25] at r1
        have jt := (p5.1 x25 (by omega) (by omega)).1
        have jf := (p5.1 x25 (by omega) (by omega)).2.1
        have jt1 := jt.1
        have hc1 := hca (u5_94 + 1)
        rw [show σ.2.1 33 n1 + (u5_94 + 1) = σ.2.1 33 n1 + u5_94 + 1 from by omega] at hc1
        have t14 := s14 (x25 + 1)
        refine ⟨(show 0 ≤ x25 ∧ x25 < 1500 from by (first | omega | (simp only [st_s] <;> omega) | assumption | omega | fail)), ?_⟩
        intro x29 r_x29 e_x29
        have b_x29 : 0 ≤ x29 ∧ x29 ≤ 4 := by rw [e_x29]; exact hT.2 13 _
        refine ⟨fun c30 => ?_, fun c30 => ?_⟩
        ·
          have e29 : x29 = σ.2.1 13 x25 := by rw [e_x29, G13]
          rw [if_pos (by omega)] at r2
          have fsx := f0 x25
          have cfn : J_cf x27 (σ.2.1 28 x25) (σ.2.1 37) (τ_94.2.1 40) (τ_94.2.1 41) (τ_94.2.1 39) := fun k k0 k1 => by have hc := chh u5_94 (x27 + k) (by omega) (by omega) (by omega) (by omega); have w := J_dt_b i94_2 (c0 (x27 + k)).1 hc; exact ⟨w.1, w.2, J_dt_d i94_2 (c0 (x27 + k)).1 hc (fun j => (A40 j).1)⟩
          refine ⟨_, K_X6_bind hT (show 0 ≤ x25 from by (first | omega | (simp only [st_s] <;> omega) | assumption | omega | fail)) (show x25 < (τ_94.1 7) from by (first | omega | (simp only [st_s] <;> omega) | assumption | omega | fail)) (show 2 ≤ τ_94.2.1 13 x25 from by (rw [G13]; omega)) (show J_all (τ_94.1 7) (τ_94.1 6) (τ_94.1 13) (τ_94.1 14) (τ_94.1 15) (τ_94.2.1 13) (τ_94.2.1 14) (τ_94.2.1 15) (τ_94.2.1 16) (τ_94.2.1 10) (τ_94.2.1 27) (τ_94.2.1 28) (τ_94.2.1 29) (τ_94.2.1 30) (τ_94.2.1 31) (τ_94.2.1 32) (τ_94.2.1 33) (τ_94.2.1 34) (τ_94.2.1 35) (τ_94.2.1 36) (τ_94.2.1 37) from CJ) (show 0 ≤ x27 from by (first | omega | (simp only [st_s] <;> omega) | assumption | omega | fail)) (show x27 + τ_94.2.1 28 x25 ≤ 20000 from by (rw [G28]; omega)) (show J_cf x27 (τ_94.2.1 28 x25) (τ_94.2.1 37) (τ_94.2.1 40) (τ_94.2.1 41) (τ_94.2.1 39) from by (rw [G28, G37]; exact cfn)) (show J_bp (τ_94.2.1 44) (τ_94.2.1 45) from BP), ?_⟩
          intro x32 τ33 r_x32 hn_τ33 hf_τ33 hq
          obtain ⟨hT, q31_1, q31_2, q31_3⟩ := hq
          replace q31_1 : 0 ≤ x32 ∧ x32 ≤ 1 := q31_1
          replace q31_2 : J_bp (τ33.2.1 44) (τ33.2.1 45) := q31_2
          replace q31_3 : ¬ x32 = 0 → J_bn x25 (τ33.2.1 28 x25) (τ33.2.1 13) (τ33.2.1 14) (τ33.2.1 15) (τ33.2.1 27) (τ33.2.1 29) (τ33.2.1 39) (τ33.2.1 44) (τ33.2.1 45) := q31_3
          have w6_τ33 : τ33.1 6 = τ_94.1 6 := hf_τ33.1 6 (by decide)
          have w7_τ33 : τ33.1 7 = τ_94.1 7 := hf_τ33.1 7 (by decide)
          have w13_τ33 : τ33.1 13 = τ_94.1 13 := hf_τ33.1 13 (by decide)
          have w14_τ33 : τ33.1 14 = τ_94.1 14 := hf_τ33.1 14 (by decide)
          have w15_τ33 : τ33.1 15 = τ_94.1 15 := hf_τ33.1 15 (by decide)
          have w17_τ33 : τ33.1 17 = τ_94.1 17 := hf_τ33.1 17 (by decide)
          have w18_τ33 : τ33.1 18 = τ_94.1 18 := hf_τ33.1 18 (by decide)
          have w19_τ33 : τ33.1 19 = τ_94.1 19 := hf_τ33.1 19 (by decide)
          have g10_τ33 : τ33.2.1 10 = τ_94.2.1 10 := hf_τ33.2.1 10 (by decide)
          have g13_τ33 : τ33.2.1 13 = τ_94.2.1 13 := hf_τ33.2.1 13 (by decide)
          have g14_τ33 : τ33.2.1 14 = τ_94.2.1 14 := hf_τ33.2.1 14 (by decide)
          have g15_τ33 : τ33.2.1 15 = τ_94.2.1 15 := hf_τ33.2.1 15 (by decide)
          have g16_τ33 : τ33.2.1 16 = τ_94.2.1 16 := hf_τ33.2.1 16 (by decide)
          have g27_τ33 : τ33.2.1 27 = τ_94.2.1 27 := hf_τ33.2.1 27 (by decide)
          have g28_τ33 : τ33.2.1 28 = τ_94.2.1 28 := hf_τ33.2.1 28 (by decide)
          have g29_τ33 : τ33.2.1 29 = τ_94.2.1 29 := hf_τ33.2.1 29 (by decide)
          have g30_τ33 : τ33.2.1 30 = τ_94.2.1 30 := hf_τ33.2.1 30 (by decide)
          have g31_τ33 : τ33.2.1 31 = τ_94.2.1 31 := hf_τ33.2.1 31 (by decide)
          have g32_τ33 : τ33.2.1 32 = τ_94.2.1 32 := hf_τ33.2.1 32 (by decide)
          have g33_τ33 : τ33.2.1 33 = τ_94.2.1 33 := hf_τ33.2.1 33 (by decide)
          have g34_τ33 : τ33.2.1 34 = τ_94.2.1 34 := hf_τ33.2.1 34 (by decide)
          have g35_τ33 : τ33.2.1 35 = τ_94.2.1 35 := hf_τ33.2.1 35 (by decide)
          have g36_τ33 : τ33.2.1 36 = τ_94.2.1 36 := hf_τ33.2.1 36 (by decide)
          have g37_τ33 : τ33.2.1 37 = τ_94.2.1 37 := hf_τ33.2.1 37 (by decide)
          have g39_τ33 : τ33.2.1 39 = τ_94.2.1 39 := hf_τ33.2.1 39 (by decide)
          have g40_τ33 : τ33.2.1 40 = τ_94.2.1 40 := hf_τ33.2.1 40 (by decide)
          have g41_τ33 : τ33.2.1 41 = τ_94.2.1 41 := hf_τ33.2.1 41 (by decide)
          have g42_τ33 : τ33.2.1 42 = τ_94.2.1 42 := hf_τ33.2.1 42 (by decide)
          have g43_τ33 : τ33.2.1 43 = τ_94.2.1 43 := hf_τ33.2.1 43 (by decide)
          have W6 : τ33.1 6 = σ.1 6 := by first | exact w6_τ33.trans W6 | omega
          have W7 : τ33.1 7 = σ.1 7 := by first | exact w7_τ33.trans W7 | omega
          have W13 : τ33.1 13 = σ.1 13 := by first | exact w13_τ33.trans W13 | omega
          have W14 : τ33.1 14 = σ.1 14 := by first | exact w14_τ33.trans W14 | omega
          have W15 : τ33.1 15 = σ.1 15 := by first | exact w15_τ33.trans W15 | omega
          have G10 : τ33.2.1 10 = σ.2.1 10 := (g10_τ33).trans G10
          have G13 : τ33.2.1 13 = σ.2.1 13 := (g13_τ33).trans G13
          have G14 : τ33.2.1 14 = σ.2.1 14 := (g14_τ33).trans G14
          have G15 : τ33.2.1 15 = σ.2.1 15 := (g15_τ33).trans G15
          have G16 : τ33.2.1 16 = σ.2.1 16 := (g16_τ33).trans G16
          have G27 : τ33.2.1 27 = σ.2.1 27 := (g27_τ33).trans G27
          have G28 : τ33.2.1 28 = σ.2.1 28 := (g28_τ33).trans G28
          have G29 : τ33.2.1 29 = σ.2.1 29 := (g29_τ33).trans G29
          have G30 : τ33.2.1 30 = σ.2.1 30 := (g30_τ33).trans G30
          have G31 : τ33.2.1 31 = σ.2.1 31 := (g31_τ33).trans G31
          have G32 : τ33.2.1 32 = σ.2.1 32 := (g32_τ33).trans G32
          have G33 : τ33.2.1 33 = σ.2.1 33 := (g33_τ33).trans G33
          have G34 : τ33.2.1 34 = σ.2.1 34 := (g34_τ33).trans G34
          have G35 : τ33.2.1 35 = σ.2.1 35 := (g35_τ33).trans G35
          have G36 : τ33.2.1 36 = σ.2.1 36 := (g36_τ33).trans G36
          have G37 : τ33.2.1 37 = σ.2.1 37 := (g37_τ33).trans G37
          have CJ : J_all (τ33.1 7) (τ33.1 6) (τ33.1 13) (τ33.1 14) (τ33.1 15) (τ33.2.1 13) (τ33.2.1 14) (τ33.2.1 15) (τ33.2.1 16) (τ33.2.1 10) (τ33.2.1 27) (τ33.2.1 28) (τ33.2.1 29) (τ33.2.1 30) (τ33.2.1 31) (τ33.2.1 32) (τ33.2.1 33) (τ33.2.1 34) (τ33.2.1 35) (τ33.2.1 36) (τ33.2.1 37) := by rw [show (J_all (τ33.1 7) (τ33.1 6) (τ33.1 13) (τ33.1 14) (τ33.1 15) (τ33.2.1 13) (τ33.2.1 14) (τ33.2.1 15) (τ33.2.1 16) (τ33.2.1 10) (τ33.2.1 27) (τ33.2.1 28) (τ33.2.1 29) (τ33.2.1 30) (τ33.2.1 31) (τ33.2.1 32) (τ33.2.1 33) (τ33.2.1 34) (τ33.2.1 35) (τ33.2.1 36) (τ33.2.1 37)) = (J_all (τ_94.1 7) (τ_94.1 6) (τ_94.1 13) (τ_94.1 14) (τ_94.1 15) (τ_94.2.1 13) (τ_94.2.1 14) (τ_94.2.1 15) (τ_94.2.1 16) (τ_94.2.1 10) (τ_94.2.1 27) (τ_94.2.1 28) (τ_94.2.1 29) (τ_94.2.1 30) (τ_94.2.1 31) (τ_94.2.1 32) (τ_94.2.1 33) (τ_94.2.1 34) (τ_94.2.1 35) (τ_94.2.1 36) (τ_94.2.1 37)) from by rw [w6_τ33, w7_τ33, w13_τ33, w14_τ33, w15_τ33, g10_τ33, g13_τ33, g14_τ33, g15_τ33, g16_τ33, g27_τ33, g28_τ33, g29_τ33, g30_τ33, g31_τ33, g32_τ33, g33_τ33, g34_τ33, g35_τ33, g36_τ33, g37_τ33]]; exact CJ
          have BP : J_bp (τ33.2.1 44) (τ33.2.1 45) := q31_2
          have A10 : ∀ j, (-1) ≤ τ33.2.1 10 j ∧ τ33.2.1 10 j ≤ 99 := fun j => hT.2 10 j
          have A13 : ∀ j, 0 ≤ τ33.2.1 13 j ∧ τ33.2.1 13 j ≤ 4 := fun j => hT.2 13 j
          have A14 : ∀ j, 0 ≤ τ33.2.1 14 j ∧ τ33.2.1 14 j ≤ 30000 := fun j => hT.2 14 j
          have A15 : ∀ j, 0 ≤ τ33.2.1 15 j ∧ τ33.2.1 15 j ≤ 999 := fun j => hT.2 15 j
          have A16 : ∀ j, (-1) ≤ τ33.2.1 16 j ∧ τ33.2.1 16 j ≤ 1499 := fun j => hT.2 16 j
          have A27 : ∀ j, 0 ≤ τ33.2.1 27 j ∧ τ33.2.1 27 j ≤ 90000 := fun j => hT.2 27 j
          have A28 : ∀ j, 0 ≤ τ33.2.1 28 j ∧ τ33.2.1 28 j ≤ 60 := fun j => hT.2 28 j
          have A29 : ∀ j, 0 ≤ τ33.2.1 29 j ∧ τ33.2.1 29 j ≤ 1499 := fun j => hT.2 29 j
          have A30 : ∀ j, 0 ≤ τ33.2.1 30 j ∧ τ33.2.1 30 j ≤ 20000 := fun j => hT.2 30 j
          have A31 : ∀ j, 0 ≤ τ33.2.1 31 j ∧ τ33.2.1 31 j ≤ 20000 := fun j => hT.2 31 j
          have A32 : ∀ j, 0 ≤ τ33.2.1 32 j ∧ τ33.2.1 32 j ≤ 999999 := fun j => hT.2 32 j
          have A33 : ∀ j, 0 ≤ τ33.2.1 33 j ∧ τ33.2.1 33 j ≤ 20000 := fun j => hT.2 33 j
          have A34 : ∀ j, 0 ≤ τ33.2.1 34 j ∧ τ33.2.1 34 j ≤ 20000 := fun j => hT.2 34 j
          have A35 : ∀ j, 0 ≤ τ33.2.1 35 j ∧ τ33.2.1 35 j ≤ 1499 := fun j => hT.2 35 j
          have A36 : ∀ j, 0 ≤ τ33.2.1 36 j ∧ τ33.2.1 36 j ≤ 20000 := fun j => hT.2 36 j
          have A37 : ∀ j, 0 ≤ τ33.2.1 37 j ∧ τ33.2.1 37 j ≤ 19999 := fun j => hT.2 37 j
          have A39 : ∀ j, 0 ≤ τ33.2.1 39 j ∧ τ33.2.1 39 j ≤ 1060 := fun j => hT.2 39 j
          have A40 : ∀ j, 0 ≤ τ33.2.1 40 j ∧ τ33.2.1 40 j ≤ 42000 := fun j => hT.2 40 j
          have A41 : ∀ j, (-2) ≤ τ33.2.1 41 j ∧ τ33.2.1 41 j ≤ 1000 := fun j => hT.2 41 j
          have A42 : ∀ j, (-2147483648) ≤ τ33.2.1 42 j ∧ τ33.2.1 42 j ≤ 2147483647 := fun j => hT.2 42 j
          have A43 : ∀ j, 0 ≤ τ33.2.1 43 j ∧ τ33.2.1 43 j ≤ 1060 := fun j => hT.2 43 j
          have A44 : ∀ j, 0 ≤ τ33.2.1 44 j ∧ τ33.2.1 44 j ≤ 42000 := fun j => hT.2 44 j
          have A45 : ∀ j, 0 ≤ τ33.2.1 45 j ∧ τ33.2.1 45 j ≤ 1000 := fun j => hT.2 45 j
          have v6 : 0 ≤ τ33.1 6 ∧ τ33.1 6 ≤ 30000 := hT.1 6
          have v7 : 0 ≤ τ33.1 7 ∧ τ33.1 7 ≤ 1500 := hT.1 7
          have v13 : 0 ≤ τ33.1 13 ∧ τ33.1 13 ≤ 90000 := hT.1 13
          have v14 : 0 ≤ τ33.1 14 ∧ τ33.1 14 ≤ 20000 := hT.1 14
          have v15 : 0 ≤ τ33.1 15 ∧ τ33.1 15 ≤ 20000 := hT.1 15
          have v17 : 0 ≤ τ33.1 17 ∧ τ33.1 17 ≤ 42000 := hT.1 17
          have v18 : 0 ≤ τ33.1 18 ∧ τ33.1 18 ≤ 42000 := hT.1 18
          have v19 : 0 ≤ τ33.1 19 ∧ τ33.1 19 ≤ 1000 := hT.1 19
          refine ⟨fun c34 => ?_, fun c34 => ?_⟩
          ·
            exact ⟨hT, (show 0 ≤ 0 ∧ 0 ≤ 1 from by (first | omega | (simp only [st_s] <;> omega) | assumption | omega | fail)), (show J_bp (τ33.2.1 44) (τ33.2.1 45) from BP), (show ¬ 0 = 0 → J_dt (τ33.1 17) (τ33.1 18) (n2 + 1) (τ33.2.1 39) (τ33.2.1 40) (τ33.2.1 41) from by (first | (intro z; exfalso; omega) | (intro _; rw [show n2 + 1 = u5_94 from by omega]; exact i94_2) | fail))⟩
          ·
            refine ⟨_, K_X6_build hT (show 0 ≤ x25 from by (first | omega | (simp only [st_s] <;> omega) | assumption | omega | fail)) (show x25 < 1500 from by (first | omega | (simp only [st_s] <;> omega) | assumption | omega | fail)) (show τ33.2.1 14 x25 ≤ τ33.2.1 14 (x25 + 1) from by (rw [G14]; omega)) (show τ33.2.1 14 (x25 + 1) ≤ τ33.2.1 14 x25 + 300 from by (rw [G14]; omega)) (show J_bp (τ33.2.1 44) (τ33.2.1 45) from BP) (show J_tb x25 (τ33.2.1 14) (τ33.2.1 15) (τ33.2.1 16) (τ33.2.1 39) (τ33.2.1 44) (τ33.2.1 45) from by (intro p a b c; rw [G14] at a b; rw [G16] at c; rw [G15]; have v := J_vf_t jt (jf (by omega)) a b c; have w := q31_3 c34; rw [G13, G14, G15, G27, G28, G29] at w; exact J_bn_v w v)), ?_⟩
            intro x36 τ37 r_x36 hn_τ37 hf_τ37 hq
            obtain ⟨hT, q35_1, q35_2⟩ := hq
            replace q35_1 : 0 ≤ x36 ∧ x36 ≤ 1 := q35_1
            replace q35_2 : ¬ x36 = 0 → J_bt (τ37.1 19) (τ37.2.1 43) := q35_2
            have w6_τ37 : τ37.1 6 = τ33.1 6 := hf_τ37.1 6 (by decide)
            have w7_τ37 : τ37.1 7 = τ33.1 7 := hf_τ37.1 7 (by decide)
            have w13_τ37 : τ37.1 13 = τ33.1 13 := hf_τ37.1 13 (by decide)
            have w14_τ37 : τ37.1 14 = τ33.1 14 := hf_τ37.1 14 (by decide)
            have w15_τ37 : τ37.1 15 = τ33.1 15 := hf_τ37.1 15 (by decide)
            have w17_τ37 : τ37.1 17 = τ33.1 17 := hf_τ37.1 17 (by decide)
            have w18_τ37 : τ37.1 18 = τ33.1 18 := hf_τ37.1 18 (by decide)
            have g10_τ37 : τ37.2.1 10 = τ33.2.1 10 := hf_τ37.2.1 10 (by decide)
            have g13_τ37 : τ37.2.1 13 = τ33.2.1 13 := hf_τ37.2.1 13 (by decide)
            have g14_τ37 : τ37.2.1 14 = τ33.2.1 14 := hf_τ37.2.1 14 (by decide)
            have g15_τ37 : τ37.2.1 15 = τ33.2.1 15 := hf_τ37.2.1 15 (by decide)
            have g16_τ37 : τ37.2.1 16 = τ33.2.1 16 := hf_τ37.2.1 16 (by decide)
            have g27_τ37 : τ37.2.1 27 = τ33.2.1 27 := hf_τ37.2.1 27 (by decide)
            have g28_τ37 : τ37.2.1 28 = τ33.2.1 28 := hf_τ37.2.1 28 (by decide)
            have g29_τ37 : τ37.2.1 29 = τ33.2.1 29 := hf_τ37.2.1 29 (by decide)
            have g30_τ37 : τ37.2.1 30 = τ33.2.1 30 := hf_τ37.2.1 30 (by decide)
            have g31_τ37 : τ37.2.1 31 = τ33.2.1 31 := hf_τ37.2.1 31 (by decide)
            have g32_τ37 : τ37.2.1 32 = τ33.2.1 32 := hf_τ37.2.1 32 (by decide)
            have g33_τ37 : τ37.2.1 33 = τ33.2.1 33 := hf_τ37.2.1 33 (by decide)
            have g34_τ37 : τ37.2.1 34 = τ33.2.1 34 := hf_τ37.2.1 34 (by decide)
            have g35_τ37 : τ37.2.1 35 = τ33.2.1 35 := hf_τ37.2.1 35 (by decide)
            have g36_τ37 : τ37.2.1 36 = τ33.2.1 36 := hf_τ37.2.1 36 (by decide)
            have g37_τ37 : τ37.2.1 37 = τ33.2.1 37 := hf_τ37.2.1 37 (by decide)
            have g39_τ37 : τ37.2.1 39 = τ33.2.1 39 := hf_τ37.2.1 39 (by decide)
            have g40_τ37 : τ37.2.1 40 = τ33.2.1 40 := hf_τ37.2.1 40 (by decide)
            have g41_τ37 : τ37.2.1 41 = τ33.2.1 41 := hf_τ37.2.1 41 (by decide)
            have g42_τ37 : τ37.2.1 42 = τ33.2.1 42 := hf_τ37.2.1 42 (by decide)
            have g44_τ37 : τ37.2.1 44 = τ33.2.1 44 := hf_τ37.2.1 44 (by decide)
            have g45_τ37 : τ37.2.1 45 = τ33.2.1 45 := hf_τ37.2.1 45 (by decide)
            have W6 : τ37.1 6 = σ.1 6 := by first | exact w6_τ37.trans W6 | omega
            have W7 : τ37.1 7 = σ.1 7 := by first | exact w7_τ37.trans W7 | omega
            have W13 : τ37.1 13 = σ.1 13 := by first | exact w13_τ37.trans W13 | omega
            have W14 : τ37.1 14 = σ.1 14 := by first | exact w14_τ37.trans W14 | omega
            have W15 : τ37.1 15 = σ.1 15 := by first | exact w15_τ37.trans W15 | omega
            have G10 : τ37.2.1 10 = σ.2.1 10 := (g10_τ37).trans G10
            have G13 : τ37.2.1 13 = σ.2.1 13 := (g13_τ37).trans G13
            have G14 : τ37.2.1 14 = σ.2.1 14 := (g14_τ37).trans G14
            have G15 : τ37.2.1 15 = σ.2.1 15 := (g15_τ37).trans G15
            have G16 : τ37.2.1 16 = σ.2.1 16 := (g16_τ37).trans G16
            have G27 : τ37.2.1 27 = σ.2.1 27 := (g27_τ37).trans G27
            have G28 : τ37.2.1 28 = σ.2.1 28 := (g28_τ37).trans G28
            have G29 : τ37.2.1 29 = σ.2.1 29 := (g29_τ37).trans G29
            have G30 : τ37.2.1 30 = σ.2.1 30 := (g30_τ37).trans G30
            have G31 : τ37.2.1 31 = σ.2.1 31 := (g31_τ37).trans G31
            have G32 : τ37.2.1 32 = σ.2.1 32 := (g32_τ37).trans G32
            have G33 : τ37.2.1 33 = σ.2.1 33 := (g33_τ37).trans G33
            have G34 : τ37.2.1 34 = σ.2.1 34 := (g34_τ37).trans G34
            have G35 : τ37.2.1 35 = σ.2.1 35 := (g35_τ37).trans G35
            have G36 : τ37.2.1 36 = σ.2.1 36 := (g36_τ37).trans G36
            have G37 : τ37.2.1 37 = σ.2.1 37 := (g37_τ37).trans G37
            have CJ : J_all (τ37.1 7) (τ37.1 6) (τ37.1 13) (τ37.1 14) (τ37.1 15) (τ37.2.1 13) (τ37.2.1 14) (τ37.2.1 15) (τ37.2.1 16) (τ37.2.1 10) (τ37.2.1 27) (τ37.2.1 28) (τ37.2.1 29) (τ37.2.1 30) (τ37.2.1 31) (τ37.2.1 32) (τ37.2.1 33) (τ37.2.1 34) (τ37.2.1 35) (τ37.2.1 36) (τ37.2.1 37) := by rw [show (J_all (τ37.1 7) (τ37.1 6) (τ37.1 13) (τ37.1 14) (τ37.1 15) (τ37.2.1 13) (τ37.2.1 14) (τ37.2.1 15) (τ37.2.1 16) (τ37.2.1 10) (τ37.2.1 27) (τ37.2.1 28) (τ37.2.1 29) (τ37.2.1 30) (τ37.2.1 31) (τ37.2.1 32) (τ37.2.1 33) (τ37.2.1 34) (τ37.2.1 35) (τ37.2.1 36) (τ37.2.1 37)) = (J_all (τ33.1 7) (τ33.1 6) (τ33.1 13) (τ33.1 14) (τ33.1 15) (τ33.2.1 13) (τ33.2.1 14) (τ33.2.1 15) (τ33.2.1 16) (τ33.2.1 10) (τ33.2.1 27) (τ33.2.1 28) (τ33.2.1 29) (τ33.2.1 30) (τ33.2.1 31) (τ33.2.1 32) (τ33.2.1 33) (τ33.2.1 34) (τ33.2.1 35) (τ33.2.1 36) (τ33.2.1 37)) from by rw [w6_τ37, w7_τ37, w13_τ37, w14_τ37, w15_τ37, g10_τ37, g13_τ37, g14_τ37, g15_τ37, g16_τ37, g27_τ37, g28_τ37, g29_τ37, g30_τ37, g31_τ37, g32_τ37, g33_τ37, g34_τ37, g35_τ37, g36_τ37, g37_τ37]]; exact CJ
            have BP : J_bp (τ37.2.1 44) (τ37.2.1 45) := by rw [show (J_bp (τ37.2.1 44) (τ37.2.1 45)) = (J_bp (τ33.2.1 44) (τ33.2.1 45)) from by rw [g44_τ37, g45_τ37]]; exact BP
            have A10 : ∀ j, (-1) ≤ τ37.2.1 10 j ∧ τ37.2.1 10 j ≤ 99 := fun j => hT.2 10 j
            have A13 : ∀ j, 0 ≤ τ37.2.1 13 j ∧ τ37.2.1 13 j ≤ 4 := fun j => hT.2 13 j
            have A14 : ∀ j, 0 ≤ τ37.2.1 14 j ∧ τ37.2.1 14 j ≤ 30000 := fun j => hT.2 14 j
            have A15 : ∀ j, 0 ≤ τ37.2.1 15 j ∧ τ37.2.1 15 j ≤ 999 := fun j => hT.2 15 j
            have A16 : ∀ j, (-1) ≤ τ37.2.1 16 j ∧ τ37.2.1 16 j ≤ 1499 := fun j => hT.2 16 j
            have A27 : ∀ j, 0 ≤ τ37.2.1 27 j ∧ τ37.2.1 27 j ≤ 90000 := fun j => hT.2 27 j
            have A28 : ∀ j, 0 ≤ τ37.2.1 28 j ∧ τ37.2.1 28 j ≤ 60 := fun j => hT.2 28 j
            have A29 : ∀ j, 0 ≤ τ37.2.1 29 j ∧ τ37.2.1 29 j ≤ 1499 := fun j => hT.2 29 j
            have A30 : ∀ j, 0 ≤ τ37.2.1 30 j ∧ τ37.2.1 30 j ≤ 20000 := fun j => hT.2 30 j
            have A31 : ∀ j, 0 ≤ τ37.2.1 31 j ∧ τ37.2.1 31 j ≤ 20000 := fun j => hT.2 31 j
            have A32 : ∀ j, 0 ≤ τ37.2.1 32 j ∧ τ37.2.1 32 j ≤ 999999 := fun j => hT.2 32 j
            have A33 : ∀ j, 0 ≤ τ37.2.1 33 j ∧ τ37.2.1 33 j ≤ 20000 := fun j => hT.2 33 j
            have A34 : ∀ j, 0 ≤ τ37.2.1 34 j ∧ τ37.2.1 34 j ≤ 20000 := fun j => hT.2 34 j
            have A35 : ∀ j, 0 ≤ τ37.2.1 35 j ∧ τ37.2.1 35 j ≤ 1499 := fun j => hT.2 35 j
            have A36 : ∀ j, 0 ≤ τ37.2.1 36 j ∧ τ37.2.1 36 j ≤ 20000 := fun j => hT.2 36 j
            have A37 : ∀ j, 0 ≤ τ37.2.1 37 j ∧ τ37.2.1 37 j ≤ 19999 := fun j => hT.2 37 j
            have A39 : ∀ j, 0 ≤ τ37.2.1 39 j ∧ τ37.2.1 39 j ≤ 1060 := fun j => hT.2 39 j
            have A40 : ∀ j, 0 ≤ τ37.2.1 40 j ∧ τ37.2.1 40 j ≤ 42000 := fun j => hT.2 40 j
            have A41 : ∀ j, (-2) ≤ τ37.2.1 41 j ∧ τ37.2.1 41 j ≤ 1000 := fun j => hT.2 41 j
            have A42 : ∀ j, (-2147483648) ≤ τ37.2.1 42 j ∧ τ37.2.1 42 j ≤ 2147483647 := fun j => hT.2 42 j
            have A43 : ∀ j, 0 ≤ τ37.2.1 43 j ∧ τ37.2.1 43 j ≤ 1060 := fun j => hT.2 43 j
            have A44 : ∀ j, 0 ≤ τ37.2.1 44 j ∧ τ37.2.1 44 j ≤ 42000 := fun j => hT.2 44 j
            have A45 : ∀ j, 0 ≤ τ37.2.1 45 j ∧ τ37.2.1 45 j ≤ 1000 := fun j => hT.2 45 j
            have v6 : 0 ≤ τ37.1 6 ∧ τ37.1 6 ≤ 30000 := hT.1 6
            have v7 : 0 ≤ τ37.1 7 ∧ τ37.1 7 ≤ 1500 := hT.1 7
            have v13 : 0 ≤ τ37.1 13 ∧ τ37.1 13 ≤ 90000 := hT.1 13
            have v14 : 0 ≤ τ37.1 14 ∧ τ37.1 14 ≤ 20000 := hT.1 14
            have v15 : 0 ≤ τ37.1 15 ∧ τ37.1 15 ≤ 20000 := hT.1 15
            have v17 : 0 ≤ τ37.1 17 ∧ τ37.1 17 ≤ 42000 := hT.1 17
            have v18 : 0 ≤ τ37.1 18 ∧ τ37.1 18 ≤ 42000 := hT.1 18
            have v19 : 0 ≤ τ37.1 19 ∧ τ37.1 19 ≤ 1000 := hT.1 19
            refine ⟨fun c38 => ?_, fun c38 => ?_⟩
            ·
              exact l_173 _ _ _ _ hT (show τ37.1 6 = σ.1 6 from by first | exact W6 | omega) (show τ37.1 7 = σ.1 7 from by first | exact W7 | omega) (show τ37.1 13 = σ.1 13 from by first | exact W13 | omega) (show τ37.1 14 = σ.1 14 from by first | exact W14 | omega) (show τ37.1 15 = σ.1 15 from by first | exact W15 | omega) G10 G13 G14 G15 G16 G27 G28 G29 G30 G31 G32 G33 G34 G35 G36 G37 (show 0 ≤ u5_94 ∧ u5_94 ≤ n2 from by (first | omega | (simp only [st_s] <;> omega) | assumption | omega | fail)) (show J_bp (τ37.2.1 44) (τ37.2.1 45) from BP) (show J_dt (τ37.1 17) (τ37.1 18) (u5_94) (τ37.2.1 39) (τ37.2.1 40) (τ37.2.1 41) from by (first | (rw [w17_τ41, w18_τ41, g39_τ41, g40_τ41, g41_τ41]; exact i94_2) | (rw [w17_τ37, w17_τ33, w18_τ37, w18_τ33, g39_τ37, g39_τ33, g40_τ37, g40_τ33, g41_τ37, g41_τ33]; exact i94_2) | fail)) (show J_lw (τ37.1 17) (u5_94) (σ.2.1 36 (σ.2.1 33 n1)) (σ.2.1 36 (σ.2.1 33 n1 + u5_94)) (σ.2.1 37) (τ37.2.1 42) (τ37.2.1 41) from by (first | (rw [w17_τ41, g42_τ41, g41_τ41]; exact i94_4) | (rw [w17_τ37, w17_τ33, g42_τ37, g42_τ33, g41_τ37, g41_τ33]; exact i94_4) | fail)) (show J_on (σ.2.1 36 (σ.2.1 33 n1)) (σ.2.1 36 (σ.2.1 33 n1 + σ.2.1 34 n1)) (σ.2.1 37) (τ37.2.1 42) from by (first | (rw [g42_τ41]; exact i94_5) | (rw [g42_τ37, g42_τ33]; exact i94_5) | fail)) (show x27 = σ.2.1 36 (σ.2.1 33 n1 + u5_94) from by exact ex27) (show J_bt (τ37.1 19) (τ37.2.1 43) from by (first | exact q39_2 | exact q35_2 c38 | fail)) (show u5_94 + (m_94 : Int) ≥ 20001 from by (first | omega | (simp only [st_s] <;> omega) | assumption | omega | fail)) (show u3_94 = σ.2.1 33 n1 from by exact i94_6)
            ·
              exact ⟨hT, (show 0 ≤ 0 ∧ 0 ≤ 1 from by (first | omega | (simp only [st_s] <;> omega) | assumption | omega | fail)), (show J_bp (τ37.2.1 44) (τ37.2.1 45) from BP), (show ¬ 0 = 0 → J_dt (τ37.1 17) (τ37.1 18) (n2 + 1) (τ37.2.1 39) (τ37.2.1 40) (τ37.2.1 41) from by (first | (intro z; exfalso; omega) | (intro _; rw [show n2 + 1 = u5_94 from by omega]; exact i94_2) | fail))⟩
        ·
          have e29 : x29 = σ.2.1 13 x25 := by rw [e_x29, G13]
          rw [if_neg (by omega)] at r2
          refine ⟨_, K_X6_buildHypothesis hT (show 0 ≤ x25 from by (first | omega | (simp only [st_s] <;> omega) | assumption | omega | fail)) (show x25 < 1500 from by (first | omega | (simp only [st_s] <;> omega) | assumption | omega | fail)) (show τ_94.2.1 14 x25 ≤ τ_94.2.1 14 (x25 + 1) from by (rw [G14]; omega)) (show τ_94.2.1 14 (x25 + 1) ≤ τ_94.2.1 14 x25 + 300 from by (rw [G14]; omega)), ?_⟩
          intro τ41 hn_τ41 hf_τ41 hq
          obtain ⟨hT, q39_1, q39_2⟩ := hq
          replace q39_1 : (τ41.1 19) = τ_94.2.1 14 (x25 + 1) - τ_94.2.1 14 x25 := q39_1
          replace q39_2 : J_bt (τ41.1 19) (τ41.2.1 43) := q39_2
          have w6_τ41 : τ41.1 6 = τ_94.1 6 := hf_τ41.1 6 (by decide)
          have w7_τ41 : τ41.1 7 = τ_94.1 7 := hf_τ41.1 7 (by decide)
          have w13_τ41 : τ41.1 13 = τ_94.1 13 := hf_τ41.1 13 (by decide)
          have w14_τ41 : τ41.1 14 = τ_94.1 14 := hf_τ41.1 14 (by decide)
          have w15_τ41 : τ41.1 15 = τ_94.1 15 := hf_τ41.1 15 (by decide)
          have w17_τ41 : τ41.1 17 = τ_94.1 17 := hf_τ41.1 17 (by decide)
          have w18_τ41 : τ41.1 18 = τ_94.1 18 := hf_τ41.1 18 (by decide)
          have g10_τ41 : τ41.2.1 10 = τ_94.2.1 10 := hf_τ41.2.1 10 (by decide)
          have g13_τ41 : τ41.2.1 13 = τ_94.2.1 13 := hf_τ41.2.1 13 (by decide)
          have g14_τ41 : τ41.2.1 14 = τ_94.2.1 14 := hf_τ41.2.1 14 (by decide)
          have g15_τ41 : τ41.2.1 15 = τ_94.2.1 15 := hf_τ41.2.1 15 (by decide)
          have g16_τ41 : τ41.2.1 16 = τ_94.2.1 16 := hf_τ41.2.1 16 (by decide)
          have g27_τ41 : τ41.2.1 27 = τ_94.2.1 27 := hf_τ41.2.1 27 (by decide)
          have g28_τ41 : τ41.2.1 28 = τ_94.2.1 28 := hf_τ41.2.1 28 (by decide)
          have g29_τ41 : τ41.2.1 29 = τ_94.2.1 29 := hf_τ41.2.1 29 (by decide)
          have g30_τ41 : τ41.2.1 30 = τ_94.2.1 30 := hf_τ41.2.1 30 (by decide)
          have g31_τ41 : τ41.2.1 31 = τ_94.2.1 31 := hf_τ41.2.1 31 (by decide)
          have g32_τ41 : τ41.2.1 32 = τ_94.2.1 32 := hf_τ41.2.1 32 (by decide)
          have g33_τ41 : τ41.2.1 33 = τ_94.2.1 33 := hf_τ41.2.1 33 (by decide)
          have g34_τ41 : τ41.2.1 34 = τ_94.2.1 34 := hf_τ41.2.1 34 (by decide)
          have g35_τ41 : τ41.2.1 35 = τ_94.2.1 35 := hf_τ41.2.1 35 (by decide)
          have g36_τ41 : τ41.2.1 36 = τ_94.2.1 36 := hf_τ41.2.1 36 (by decide)
          have g37_τ41 : τ41.2.1 37 = τ_94.2.1 37 := hf_τ41.2.1 37 (by decide)
          have g39_τ41 : τ41.2.1 39 = τ_94.2.1 39 := hf_τ41.2.1 39 (by decide)
          have g40_τ41 : τ41.2.1 40 = τ_94.2.1 40 := hf_τ41.2.1 40 (by decide)
          have g41_τ41 : τ41.2.1 41 = τ_94.2.1 41 := hf_τ41.2.1 41 (by decide)
          have g42_τ41 : τ41.2.1 42 = τ_94.2.1 42 := hf_τ41.2.1 42 (by decide)
          have g44_τ41 : τ41.2.1 44 = τ_94.2.1 44 := hf_τ41.2.1 44 (by decide)
          have g45_τ41 : τ41.2.1 45 = τ_94.2.1 45 := hf_τ41.2.1 45 (by decide)
          have W6 : τ41.1 6 = σ.1 6 := by first | exact w6_τ41.trans W6 | omega
          have W7 : τ41.1 7 = σ.1 7 := by first | exact w7_τ41.trans W7 | omega
          have W13 : τ41.1 13 = σ.1 13 := by first | exact w13_τ41.trans W13 | omega
          have W14 : τ41.1 14 = σ.1 14 := by first | exact w14_τ41.trans W14 | omega
          have W15 : τ41.1 15 = σ.1 15 := by first | exact w15_τ41.trans W15 | omega
          have G10 : τ41.2.1 10 = σ.2.1 10 := (g10_τ41).trans G10
          have G13 : τ41.2.1 13 = σ.2.1 13 := (g13_τ41).trans G13
          have G14 : τ41.2.1 14 = σ.2.1 14 := (g14_τ41).trans G14
          have G15 : τ41.2.1 15 = σ.2.1 15 := (g15_τ41).trans G15
          have G16 : τ41.2.1 16 = σ.2.1 16 := (g16_τ41).trans G16
          have G27 : τ41.2.1 27 = σ.2.1 27 := (g27_τ41).trans G27
          have G28 : τ41.2.1 28 = σ.2.1 28 := (g28_τ41).trans G28
          have G29 : τ41.2.1 29 = σ.2.1 29 := (g29_τ41).trans G29
          have G30 : τ41.2.1 30 = σ.2.1 30 := (g30_τ41).trans G30
          have G31 : τ41.2.1 31 = σ.2.1 31 := (g31_τ41).trans G31
          have G32 : τ41.2.1 32 = σ.2.1 32 := (g32_τ41).trans G32
          have G33 : τ41.2.1 33 = σ.2.1 33 := (g33_τ41).trans G33
          have G34 : τ41.2.1 34 = σ.2.1 34 := (g34_τ41).trans G34
          have G35 : τ41.2.1 35 = σ.2.1 35 := (g35_τ41).trans G35
          have G36 : τ41.2.1 36 = σ.2.1 36 := (g36_τ41).trans G36
          have G37 : τ41.2.1 37 = σ.2.1 37 := (g37_τ41).trans G37
          have CJ : J_all (τ41.1 7) (τ41.1 6) (τ41.1 13) (τ41.1 14) (τ41.1 15) (τ41.2.1 13) (τ41.2.1 14) (τ41.2.1 15) (τ41.2.1 16) (τ41.2.1 10) (τ41.2.1 27) (τ41.2.1 28) (τ41.2.1 29) (τ41.2.1 30) (τ41.2.1 31) (τ41.2.1 32) (τ41.2.1 33) (τ41.2.1 34) (τ41.2.1 35) (τ41.2.1 36) (τ41.2.1 37) := by rw [show (J_all (τ41.1 7) (τ41.1 6) (τ41.1 13) (τ41.1 14) (τ41.1 15) (τ41.2.1 13) (τ41.2.1 14) (τ41.2.1 15) (τ41.2.1 16) (τ41.2.1 10) (τ41.2.1 27) (τ41.2.1 28) (τ41.2.1 29) (τ41.2.1 30) (τ41.2.1 31) (τ41.2.1 32) (τ41.2.1 33) (τ41.2.1 34) (τ41.2.1 35) (τ41.2.1 36) (τ41.2.1 37)) = (J_all (τ_94.1 7) (τ_94.1 6) (τ_94.1 13) (τ_94.1 14) (τ_94.1 15) (τ_94.2.1 13) (τ_94.2.1 14) (τ_94.2.1 15) (τ_94.2.1 16) (τ_94.2.1 10) (τ_94.2.1 27) (τ_94.2.1 28) (τ_94.2.1 29) (τ_94.2.1 30) (τ_94.2.1 31) (τ_94.2.1 32) (τ_94.2.1 33) (τ_94.2.1 34) (τ_94.2.1 35) (τ_94.2.1 36) (τ_94.2.1 37)) from by rw [w6_τ41, w7_τ41, w13_τ41, w14_τ41, w15_τ41, g10_τ41, g13_τ41, g14_τ41, g15_τ41, g16_τ41, g27_τ41, g28_τ41, g29_τ41, g30_τ41, g31_τ41, g32_τ41, g33_τ41, g34_τ41, g35_τ41, g36_τ41, g37_τ41]]; exact CJ
          have BP : J_bp (τ41.2.1 44) (τ41.2.1 45) := by rw [show (J_bp (τ41.2.1 44) (τ41.2.1 45)) = (J_bp (τ_94.2.1 44) (τ_94.2.1 45)) from by rw [g44_τ41, g45_τ41]]; exact BP
          have A10 : ∀ j, (-1) ≤ τ41.2.1 10 j ∧ τ41.2.1 10 j ≤ 99 := fun j => hT.2 10 j
          have A13 : ∀ j, 0 ≤ τ41.2.1 13 j ∧ τ41.2.1 13 j ≤ 4 := fun j => hT.2 13 j
          have A14 : ∀ j, 0 ≤ τ41.2.1 14 j ∧ τ41.2.1 14 j ≤ 30000 := fun j => hT.2 14 j
          have A15 : ∀ j, 0 ≤ τ41.2.1 15 j ∧ τ41.2.1 15 j ≤ 999 := fun j => hT.2 15 j
          have A16 : ∀ j, (-1) ≤ τ41.2.1 16 j ∧ τ41.2.1 16 j ≤ 1499 := fun j => hT.2 16 j
          have A27 : ∀ j, 0 ≤ τ41.2.1 27 j ∧ τ41.2.1 27 j ≤ 90000 := fun j => hT.2 27 j
          have A28 : ∀ j, 0 ≤ τ41.2.1 28 j ∧ τ41.2.1 28 j ≤ 60 := fun j => hT.2 28 j
          have A29 : ∀ j, 0 ≤ τ41.2.1 29 j ∧ τ41.2.1 29 j ≤ 1499 := fun j => hT.2 29 j
          have A30 : ∀ j, 0 ≤ τ41.2.1 30 j ∧ τ41.2.1 30 j ≤ 20000 := fun j => hT.2 30 j
          have A31 : ∀ j, 0 ≤ τ41.2.1 31 j ∧ τ41.2.1 31 j ≤ 20000 := fun j => hT.2 31 j
          have A32 : ∀ j, 0 ≤ τ41.2.1 32 j ∧ τ41.2.1 32 j ≤ 999999 := fun j => hT.2 32 j
          have A33 : ∀ j, 0 ≤ τ41.2.1 33 j ∧ τ41.2.1 33 j ≤ 20000 := fun j => hT.2 33 j
          have A34 : ∀ j, 0 ≤ τ41.2.1 34 j ∧ τ41.2.1 34 j ≤ 20000 := fun j => hT.2 34 j
          have A35 : ∀ j, 0 ≤ τ41.2.1 35 j ∧ τ41.2.1 35 j ≤ 1499 := fun j => hT.2 35 j
          have A36 : ∀ j, 0 ≤ τ41.2.1 36 j ∧ τ41.2.1 36 j ≤ 20000 := fun j => hT.2 36 j
          have A37 : ∀ j, 0 ≤ τ41.2.1 37 j ∧ τ41.2.1 37 j ≤ 19999 := fun j => hT.2 37 j
          have A39 : ∀ j, 0 ≤ τ41.2.1 39 j ∧ τ41.2.1 39 j ≤ 1060 := fun j => hT.2 39 j
          have A40 : ∀ j, 0 ≤ τ41.2.1 40 j ∧ τ41.2.1 40 j ≤ 42000 := fun j => hT.2 40 j
          have A41 : ∀ j, (-2) ≤ τ41.2.1 41 j ∧ τ41.2.1 41 j ≤ 1000 := fun j => hT.2 41 j
          have A42 : ∀ j, (-2147483648) ≤ τ41.2.1 42 j ∧ τ41.2.1 42 j ≤ 2147483647 := fun j => hT.2 42 j
          have A43 : ∀ j, 0 ≤ τ41.2.1 43 j ∧ τ41.2.1 43 j ≤ 1060 := fun j => hT.2 43 j
          have A44 : ∀ j, 0 ≤ τ41.2.1 44 j ∧ τ41.2.1 44 j ≤ 42000 := fun j => hT.2 44 j
          have A45 : ∀ j, 0 ≤ τ41.2.1 45 j ∧ τ41.2.1 45 j ≤ 1000 := fun j => hT.2 45 j
          have v6 : 0 ≤ τ41.1 6 ∧ τ41.1 6 ≤ 30000 := hT.1 6
          have v7 : 0 ≤ τ41.1 7 ∧ τ41.1 7 ≤ 1500 := hT.1 7
          have v13 : 0 ≤ τ41.1 13 ∧ τ41.1 13 ≤ 90000 := hT.1 13
          have v14 : 0 ≤ τ41.1 14 ∧ τ41.1 14 ≤ 20000 := hT.1 14
          have v15 : 0 ≤ τ41.1 15 ∧ τ41.1 15 ≤ 20000 := hT.1 15
          have v17 : 0 ≤ τ41.1 17 ∧ τ41.1 17 ≤ 42000 := hT.1 17
          have v18 : 0 ≤ τ41.1 18 ∧ τ41.1 18 ≤ 42000 := hT.1 18
          have v19 : 0 ≤ τ41.1 19 ∧ τ41.1 19 ≤ 1000 := hT.1 19
          exact l_173 _ _ _ _ hT (show τ41.1 6 = σ.1 6 from by first | exact W6 | omega) (show τ41.1 7 = σ.1 7 from by first | exact W7 | omega) (show τ41.1 13 = σ.1 13 from by first | exact W13 | omega) (show τ41.1 14 = σ.1 14 from by first | exact W14 | omega) (show τ41.1 15 = σ.1 15 from by first | exact W15 | omega) G10 G13 G14 G15 G16 G27 G28 G29 G30 G31 G32 G33 G34 G35 G36 G37 (show 0 ≤ u5_94 ∧ u5_94 ≤ n2 from by (first | omega | (simp only [st_s] <;> omega) | assumption | omega | fail)) (show J_bp (τ41.2.1 44) (τ41.2.1 45) from BP) (show J_dt (τ41.1 17) (τ41.1 18) (u5_94) (τ41.2.1 39) (τ41.2.1 40) (τ41.2.1 41) from by (first | (rw [w17_τ41, w18_τ41, g39_τ41, g40_τ41, g41_τ41]; exact i94_2) | (rw [w17_τ37, w17_τ33, w18_τ37, w18_τ33, g39_τ37, g39_τ33, g40_τ37, g40_τ33, g41_τ37, g41_τ33]; exact i94_2) | fail)) (show J_lw (τ41.1 17) (u5_94) (σ.2.1 36 (σ.2.1 33 n1)) (σ.2.1 36 (σ.2.1 33 n1 + u5_94)) (σ.2.1 37) (τ41.2.1 42) (τ41.2.1 41) from by (first | (rw [w17_τ41, g42_τ41, g41_τ41]; exact i94_4) | (rw [w17_τ37, w17_τ33, g42_τ37, g42_τ33, g41_τ37, g41_τ33]; exact i94_4) | fail)) (show J_on (σ.2.1 36 (σ.2.1 33 n1)) (σ.2.1 36 (σ.2.1 33 n1 + σ.2.1 34 n1)) (σ.2.1 37) (τ41.2.1 42) from by (first | (rw [g42_τ41]; exact i94_5) | (rw [g42_τ37, g42_τ33]; exact i94_5) | fail)) (show x27 = σ.2.1 36 (σ.2.1 33 n1 + u5_94) from by exact ex27) (show J_bt (τ41.1 19) (τ41.2.1 43) from by (first | exact q39_2 | exact q35_2 c38 | fail)) (show u5_94 + (m_94 : Int) ≥ 20001 from by (first | omega | (simp only [st_s] <;> omega) | assumption | omega | fail)) (show u3_94 = σ.2.1 33 n1 from by exact i94_6)
  have l_51 : ∀ (m_51 : Nat) (u3_51 : Int) (u4_51 : Int) (u5_51 : Int) (τ_51 : S0), 20001 - u5_51 < (m_51 : Int) → (c_T τ_51) → (τ_51.1 6 = σ.1 6) → (τ_51.1 7 = σ.1 7) → (τ_51.1 13 = σ.1 13) → (τ_51.1 14 = σ.1 14) → (τ_51.1 15 = σ.1 15) → (τ_51.2.1 10 = σ.2.1 10) → (τ_51.2.1 13 = σ.2.1 13) → (τ_51.2.1 14 = σ.2.1 14) → (τ_51.2.1 15 = σ.2.1 15) → (τ_51.2.1 16 = σ.2.1 16) → (τ_51.2.1 27 = σ.2.1 27) → (τ_51.2.1 28 = σ.2.1 28) → (τ_51.2.1 29 = σ.2.1 29) → (τ_51.2.1 30 = σ.2.1 30) → (τ_51.2.1 31 = σ.2.1 31) → (τ_51.2.1 32 = σ.2.1 32) → (τ_51.2.1 33 = σ.2.1 33) → (τ_51.2.1 34 = σ.2.1 34) → (τ_51.2.1 35 = σ.2.1 35) → (τ_51.2.1 36 = σ.2.1 36) → (τ_51.2.1 37 = σ.2.1 37) → ((σ.2.1 36 (σ.2.1 33 n1)) ≤ u5_51) → (u5_51 ≤ (σ.2.1 36 (σ.2.1 33 n1 + σ.2.1 34 n1))) → ((τ_51.1 17) = 0 ∧ (τ_51.1 18) = 42000) → (J_us (σ.2.1 36 (σ.2.1 33 n1)) u5_51 (σ.2.1 34 n1) (σ.2.1 37) (τ_51.2.1 42)) → (J_bp (τ_51.2.1 44) (τ_51.2.1 45)) → (u3_51 = σ.2.1 33 n1) → (u4_51 = σ.2.1 33 n1 + σ.2.1 34 n1) → P51 n2 u3_51 u4_51 u5_51 τ_51 := by
    intro m_51
    induction m_51 with
    | zero =>
      intro u3_51 u4_51 u5_51 τ_51 hm hT W6 W7 W13 W14 W15 G10 G13 G14 G15 G16 G27 G28 G29 G30 G31 G32 G33 G34 G35 G36 G37 i51_1 i51_2 i51_3 i51_4 i51_5 i51_6 i51_7
      have A10 : ∀ j, (-1) ≤ τ_51.2.1 10 j ∧ τ_51.2.1 10 j ≤ 99 := fun j => hT.2 10 j
      have A13 : ∀ j, 0 ≤ τ_51.2.1 13 j ∧ τ_51.2.1 13 j ≤ 4 := fun j => hT.2 13 j
      have A14 : ∀ j, 0 ≤ τ_51.2.1 14 j ∧ τ_51.2.1 14 j ≤ 30000 := fun j => hT.2 14 j
      have A15 : ∀ j, 0 ≤ τ_51.2.1 15 j ∧ τ_51.2.1 15 j ≤ 999 := fun j => hT.2 15 j
      have A16 : ∀ j, (-1) ≤ τ_51.2.1 16 j ∧ τ_51.2.1 16 j ≤ 1499 := fun j => hT.2 16 j
      have A27 : ∀ j, 0 ≤ τ_51.2.1 27 j ∧ τ_51.2.1 27 j ≤ 90000 := fun j => hT.2 27 j
      have A28 : ∀ j, 0 ≤ τ_51.2.1 28 j ∧ τ_51.2.1 28 j ≤ 60 := fun j => hT.2 28 j
      have A29 : ∀ j, 0 ≤ τ_51.2.1 29 j ∧ τ_51.2.1 29 j ≤ 1499 := fun j => hT.2 29 j
      have A30 : ∀ j, 0 ≤ τ_51.2.1 30 j ∧ τ_51.2.1 30 j ≤ 20000 := fun j => hT.2 30 j
      have A31 : ∀ j, 0 ≤ τ_51.2.1 31 j ∧ τ_51.2.1 31 j ≤ 20000 := fun j => hT.2 31 j
      have A32 : ∀ j, 0 ≤ τ_51.2.1 32 j ∧ τ_51.2.1 32 j ≤ 999999 := fun j => hT.2 32 j
      have A33 : ∀ j, 0 ≤ τ_51.2.1 33 j ∧ τ_51.2.1 33 j ≤ 20000 := fun j => hT.2 33 j
      have A34 : ∀ j, 0 ≤ τ_51.2.1 34 j ∧ τ_51.2.1 34 j ≤ 20000 := fun j => hT.2 34 j
      have A35 : ∀ j, 0 ≤ τ_51.2.1 35 j ∧ τ_51.2.1 35 j ≤ 1499 := fun j => hT.2 35 j
      have A36 : ∀ j, 0 ≤ τ_51.2.1 36 j ∧ τ_51.2.1 36 j ≤ 20000 := fun j => hT.2 36 j
      have A37 : ∀ j, 0 ≤ τ_51.2.1 37 j ∧ τ_51.2.1 37 j ≤ 19999 := fun j => hT.2 37 j
      have A39 : ∀ j, 0 ≤ τ_51.2.1 39 j ∧ τ_51.2.1 39 j ≤ 1060 := fun j => hT.2 39 j
      have A40 : ∀ j, 0 ≤ τ_51.2.1 40 j ∧ τ_51.2.1 40 j ≤ 42000 := fun j => hT.2 40 j
      have A41 : ∀ j, (-2) ≤ τ_51.2.1 41 j ∧ τ_51.2.1 41 j ≤ 1000 := fun j => hT.2 41 j
      have A42 : ∀ j, (-2147483648) ≤ τ_51.2.1 42 j ∧ τ_51.2.1 42 j ≤ 2147483647 := fun j => hT.2 42 j
      have A43 : ∀ j, 0 ≤ τ_51.2.1 43 j ∧ τ_51.2.1 43 j ≤ 1060 := fun j => hT.2 43 j
      have A44 : ∀ j, 0 ≤ τ_51.2.1 44 j ∧ τ_51.2.1 44 j ≤ 42000 := fun j => hT.2 44 j
      have A45 : ∀ j, 0 ≤ τ_51.2.1 45 j ∧ τ_51.2.1 45 j ≤ 1000 := fun j => hT.2 45 j
      have v6 : 0 ≤ τ_51.1 6 ∧ τ_51.1 6 ≤ 30000 := hT.1 6
      have v7 : 0 ≤ τ_51.1 7 ∧ τ_51.1 7 ≤ 1500 := hT.1 7
      have v13 : 0 ≤ τ_51.1 13 ∧ τ_51.1 13 ≤ 90000 := hT.1 13
      have v14 : 0 ≤ τ_51.1 14 ∧ τ_51.1 14 ≤ 20000 := hT.1 14
      have v15 : 0 ≤ τ_51.1 15 ∧ τ_51.1 15 ≤ 20000 := hT.1 15
      have v17 : 0 ≤ τ_51.1 17 ∧ τ_51.1 17 ≤ 42000 := hT.1 17
      have v18 : 0 ≤ τ_51.1 18 ∧ τ_51.1 18 ≤ 42000 := hT.1 18
      have v19 : 0 ≤ τ_51.1 19 ∧ τ_51.1 19 ≤ 1000 := hT.1 19
      exfalso; (first | omega | (simp only [st_s] <;> omega) | assumption | omega | fail)
    | succ m_51 ih_51 =>
      intro u3_51 u4_51 u5_51 τ_51 hm_51 hT W6 W7 W13 W14 W15 G10 G13 G14 G15 G16 G27 G28 G29 G30 G31 G32 G33 G34 G35 G36 G37 i51_1 i51_2 i51_3 i51_4 i51_5 i51_6 i51_7
      have A10 : ∀ j, (-1) ≤ τ_51.2.1 10 j ∧ τ_51.2.1 10 j ≤ 99 := fun j => hT.2 10 j
      have A13 : ∀ j, 0 ≤ τ_51.2.1 13 j ∧ τ_51.2.1 13 j ≤ 4 := fun j => hT.2 13 j
      have A14 : ∀ j, 0 ≤ τ_51.2.1 14 j ∧ τ_51.2.1 14 j ≤ 30000 := fun j => hT.2 14 j
      have A15 : ∀ j, 0 ≤ τ_51.2.1 15 j ∧ τ_51.2.1 15 j ≤ 999 := fun j => hT.2 15 j
      have A16 : ∀ j, (-1) ≤ τ_51.2.1 16 j ∧ τ_51.2.1 16 j ≤ 1499 := fun j => hT.2 16 j
      have A27 : ∀ j, 0 ≤ τ_51.2.1 27 j ∧ τ_51.2.1 27 j ≤ 90000 := fun j => hT.2 27 j
      have A28 : ∀ j, 0 ≤ τ_51.2.1 28 j ∧ τ_51.2.1 28 j ≤ 60 := fun j => hT.2 28 j
      have A29 : ∀ j, 0 ≤ τ_51.2.1 29 j ∧ τ_51.2.1 29 j ≤ 1499 := fun j => hT.2 29 j
      have A30 : ∀ j, 0 ≤ τ_51.2.1 30 j ∧ τ_51.2.1 30 j ≤ 20000 := fun j => hT.2 30 j
      have A31 : ∀ j, 0 ≤ τ_51.2.1 31 j ∧ τ_51.2.1 31 j ≤ 20000 := fun j => hT.2 31 j
      have A32 : ∀ j, 0 ≤ τ_51.2.1 32 j ∧ τ_51.2.1 32 j ≤ 999999 := fun j => hT.2 32 j
      have A33 : ∀ j, 0 ≤ τ_51.2.1 33 j ∧ τ_51.2.1 33 j ≤ 20000 := fun j => hT.2 33 j
      have A34 : ∀ j, 0 ≤ τ_51.2.1 34 j ∧ τ_51.2.1 34 j ≤ 20000 := fun j => hT.2 34 j
      have A35 : ∀ j, 0 ≤ τ_51.2.1 35 j ∧ τ_51.2.1 35 j ≤ 1499 := fun j => hT.2 35 j
      have A36 : ∀ j, 0 ≤ τ_51.2.1 36 j ∧ τ_51.2.1 36 j ≤ 20000 := fun j => hT.2 36 j
      have A37 : ∀ j, 0 ≤ τ_51.2.1 37 j ∧ τ_51.2.1 37 j ≤ 19999 := fun j => hT.2 37 j
      have A39 : ∀ j, 0 ≤ τ_51.2.1 39 j ∧ τ_51.2.1 39 j ≤ 1060 := fun j => hT.2 39 j
      have A40 : ∀ j, 0 ≤ τ_51.2.1 40 j ∧ τ_51.2.1 40 j ≤ 42000 := fun j => hT.2 40 j
      have A41 : ∀ j, (-2) ≤ τ_51.2.1 41 j ∧ τ_51.2.1 41 j ≤ 1000 := fun j => hT.2 41 j
      have A42 : ∀ j, (-2147483648) ≤ τ_51.2.1 42 j ∧ τ_51.2.1 42 j ≤ 2147483647 := fun j => hT.2 42 j
      have A43 : ∀ j, 0 ≤ τ_51.2.1 43 j ∧ τ_51.2.1 43 j ≤ 1060 := fun j => hT.2 43 j
      have A44 : ∀ j, 0 ≤ τ_51.2.1 44 j ∧ τ_51.2.1 44 j ≤ 42000 := fun j => hT.2 44 j
      have A45 : ∀ j, 0 ≤ τ_51.2.1 45 j ∧ τ_51.2.1 45 j ≤ 1000 := fun j => hT.2 45 j
      have v6 : 0 ≤ τ_51.1 6 ∧ τ_51.1 6 ≤ 30000 := hT.1 6
      have v7 : 0 ≤ τ_51.1 7 ∧ τ_51.1 7 ≤ 1500 := hT.1 7
      have v13 : 0 ≤ τ_51.1 13 ∧ τ_51.1 13 ≤ 90000 := hT.1 13
      have v14 : 0 ≤ τ_51.1 14 ∧ τ_51.1 14 ≤ 20000 := hT.1 14
      have v15 : 0 ≤ τ_51.1 15 ∧ τ_51.1 15 ≤ 20000 := hT.1 15
      have v17 : 0 ≤ τ_51.1 17 ∧ τ_51.1 17 ≤ 42000 := hT.1 17
      have v18 : 0 ≤ τ_51.1 18 ∧ τ_51.1 18 ≤ 42000 := hT.1 18
      have v19 : 0 ≤ τ_51.1 19 ∧ τ_51.1 19 ≤ 1000 := hT.1 19
      have CJ : J_all (τ_51.1 7) (τ_51.1 6) (τ_51.1 13) (τ_51.1 14) (τ_51.1 15) (τ_51.2.1 13) (τ_51.2.1 14) (τ_51.2.1 15) (τ_51.2.1 16) (τ_51.2.1 10) (τ_51.2.1 27) (τ_51.2.1 28) (τ_51.2.1 29) (τ_51.2.1 30) (τ_51.2.1 31) (τ_51.2.1 32) (τ_51.2.1 33) (τ_51.2.1 34) (τ_51.2.1 35) (τ_51.2.1 36) (τ_51.2.1 37) := by rw [show (J_all (τ_51.1 7) (τ_51.1 6) (τ_51.1 13) (τ_51.1 14) (τ_51.1 15) (τ_51.2.1 13) (τ_51.2.1 14) (τ_51.2.1 15) (τ_51.2.1 16) (τ_51.2.1 10) (τ_51.2.1 27) (τ_51.2.1 28) (τ_51.2.1 29) (τ_51.2.1 30) (τ_51.2.1 31) (τ_51.2.1 32) (τ_51.2.1 33) (τ_51.2.1 34) (τ_51.2.1 35) (τ_51.2.1 36) (τ_51.2.1 37)) = (J_all (σ.1 7) (σ.1 6) (σ.1 13) (σ.1 14) (σ.1 15) (σ.2.1 13) (σ.2.1 14) (σ.2.1 15) (σ.2.1 16) (σ.2.1 10) (σ.2.1 27) (σ.2.1 28) (σ.2.1 29) (σ.2.1 30) (σ.2.1 31) (σ.2.1 32) (σ.2.1 33) (σ.2.1 34) (σ.2.1 35) (σ.2.1 36) (σ.2.1 37)) from by rw [W6, W7, W13, W14, W15, G10, G13, G14, G15, G16, G27, G28, G29, G30, G31, G32, G33, G34, G35, G36, G37]]; exact CJ_0
      have BP : J_bp (τ_51.2.1 44) (τ_51.2.1 45) := i51_5
      refine h51 n2 u3_51 u4_51 u5_51 τ_51 ?_
      refine ⟨(show 0 ≤ u4_51 ∧ u4_51 < 20001 from by (first | omega | (simp only [st_s] <;> omega) | assumption | omega | fail)), ?_⟩
      intro x15 r_x15 e_x15
      have b_x15 : 0 ≤ x15 ∧ x15 ≤ 20000 := by rw [e_x15]; exact hT.2 36 _
      rw [G36, i51_7] at e_x15
      refine ⟨fun c16 => ?_, fun c16 => ?_⟩
      ·
        exact l_94 ((20001 - 0 : Int).toNat + 1) _ _ _ (show (20001 - 0 : Int) < (((20001 - 0 : Int).toNat + 1 : Nat) : Int) from by ((first | omega | (simp only [st_s] <;> omega) | assumption | omega | fail))) hT (show τ_51.1 6 = σ.1 6 from by first | exact W6 | omega) (show τ_51.1 7 = σ.1 7 from by first | exact W7 | omega) (show τ_51.1 13 = σ.1 13 from by first | exact W13 | omega) (show τ_51.1 14 = σ.1 14 from by first | exact W14 | omega) (show τ_51.1 15 = σ.1 15 from by first | exact W15 | omega) G10 G13 G14 G15 G16 G27 G28 G29 G30 G31 G32 G33 G34 G35 G36 G37 (show 0 ≤ 0 ∧ 0 ≤ n2 + 1 from by (first | omega | (simp only [st_s] <;> omega) | assumption | omega | fail)) (show J_dt (τ_51.1 17) (τ_51.1 18) (0) (τ_51.2.1 39) (τ_51.2.1 40) (τ_51.2.1 41) from by (first | (rw [i51_3.1, i51_3.2]; exact J_dt0 _ _ _) | (have w := q52_4 c55 rfl; have v := q52_6 c55; rw [w.1, w.2.1, w.2.2.1, w.2.2.2, v.1]; exact J_dt_l dt2 (by omega) (by omega) (q52_3 c55) (by omega) bt2) | (have w := q52_5 c55 (by omega); have v := q52_6 c55; rw [w.1, w.2.1, w.2.2.1, w.2.2.2, v.1]; exact J_dt_h dt2 (by omega) (by omega) (q52_3 c55) (by omega) bt2) | fail)) (show J_bp (τ_51.2.1 44) (τ_51.2.1 45) from BP) (show J_lw (τ_51.1 17) (0) (σ.2.1 36 (σ.2.1 33 n1)) (σ.2.1 36 (σ.2.1 33 n1 + 0)) (σ.2.1 37) (τ_51.2.1 42) (τ_51.2.1 41) from by (first | (rw [i51_3.1, show σ.2.1 33 n1 + 0 = σ.2.1 33 n1 from by omega]; exact J_lw0 _ _ _ _) | (have w := q52_4 c55 rfl; have v := q52_6 c55; rw [v.1, v.2, show σ.2.1 33 n1 + (u5_173 + 1) = σ.2.1 33 n1 + u5_173 + 1 from by omega]; exact J_lw_p lw2 (by omega) (by omega) (fun c a b => ⟨(c0 c).1, chr c a b⟩) (by rw [w.1, if_pos (by omega)])) | (have w := q52_5 c55 (by omega); have v := q52_6 c55; rw [v.1, v.2, show σ.2.1 33 n1 + (u5_173 + 1) = σ.2.1 33 n1 + u5_173 + 1 from by omega]; exact J_lw_p lw2 (by omega) (by omega) (fun c a b => ⟨(c0 c).1, chr c a b⟩) (by rw [w.1, if_neg (by omega)]; omega)) | fail)) (show J_on (σ.2.1 36 (σ.2.1 33 n1)) (σ.2.1 36 (σ.2.1 33 n1 + σ.2.1 34 n1)) (σ.2.1 37) (τ_51.2.1 42) from by (first | (have w := i51_4.2.2; rw [show u5_51 = σ.2.1 36 (σ.2.1 33 n1 + σ.2.1 34 n1) from by omega] at w; exact w) | (have v := q52_6 c55; rw [v.2]; exact J_on_p on2 (fun z => by omega)) | fail)) (show u3_51 = σ.2.1 33 n1 from by (first | exact i51_6 | exact i173_9 | fail))
      ·
        refine ⟨(show 0 ≤ u5_51 ∧ u5_51 < 20000 from by (first | omega | (simp only [st_s] <;> omega) | assumption | omega | fail)), ?_⟩
        intro x18 r_x18 e_x18
        have b_x18 : 0 ≤ x18 ∧ x18 ≤ 19999 := by rw [e_x18]; exact hT.2 37 _
        rw [G37] at e_x18
        have cx : σ.2.1 37 u5_51 < σ.2.1 34 n1 := by have := cha u5_51 (by omega) (by omega); omega
        refine ⟨(show 0 ≤ x18 ∧ x18 < 20000 from by (first | omega | (simp only [st_s] <;> omega) | assumption | omega | fail)), ?_⟩
        intro x20 r_x20 e_x20
        have b_x20 : (-2147483648) ≤ x20 ∧ x20 ≤ 2147483647 := by rw [e_x20]; exact hT.2 42 _
        have ux := i51_4.1 (σ.2.1 37 u5_51) (c0 _).1 cx
        rw [← e_x18, ← e_x20] at ux
        refine ⟨(⟨by (first | omega | (simp only [st_s] <;> omega) | assumption | omega | fail), by (first | omega | (simp only [st_s] <;> omega) | assumption | omega | fail)⟩ : rg (x20 + 1)), ?_⟩
        replace hT := cT_a (k := 42) (j := x18) hT (show (-2147483648 : Int) ≤ (x20 + 1) ∧ (x20 + 1) ≤ 2147483647 from by (first | omega | (simp only [st_s] <;> omega) | assumption | omega | fail))
        refine ⟨(⟨by (first | omega | (simp only [st_s] <;> omega) | assumption | omega | fail), by (first | omega | (simp only [st_s] <;> omega) | assumption | omega | fail)⟩ : rg (u5_51 + 1)), ?_⟩
        exact ih_51 _ _ _ _ (show (20001 - (u5_51 + 1) : Int) < ((m_51 : Nat) : Int) from by ((first | omega | (simp only [st_s] <;> omega) | assumption | omega | fail))) hT (show τ_51.1 6 = σ.1 6 from by first | exact W6 | omega) (show τ_51.1 7 = σ.1 7 from by first | exact W7 | omega) (show τ_51.1 13 = σ.1 13 from by first | exact W13 | omega) (show τ_51.1 14 = σ.1 14 from by first | exact W14 | omega) (show τ_51.1 15 = σ.1 15 from by first | exact W15 | omega) G10 G13 G14 G15 G16 G27 G28 G29 G30 G31 G32 G33 G34 G35 G36 G37 (show (σ.2.1 36 (σ.2.1 33 n1)) ≤ (u5_51 + 1) from by (first | omega | (rw [e_x12, e_x5]; exact Int.le_refl _) | fail)) (show (u5_51 + 1) ≤ (σ.2.1 36 (σ.2.1 33 n1 + σ.2.1 34 n1)) from by (first | omega | (rw [e_x12, e_x5]; exact m0) | fail)) (show (τ_51.1 17) = 0 ∧ (τ_51.1 18) = 42000 from by (first | exact i51_3 | (refine ⟨?_, ?_⟩ <;> omega) | fail)) (show J_us (σ.2.1 36 (σ.2.1 33 n1)) (u5_51 + 1) (σ.2.1 34 n1) (σ.2.1 37) ((st (τ_51.2.1 42) x18 (x20 + 1))) from by (first | (rw [e_x12, e_x5, g37_τ10, g37_τ3]; exact J_us0 (fun e a b => q8_1 e a (by omega))) | (rw [e_x12, e_x5]; exact J_us0 (fun e a b => q8_1 e a (by omega))) | (rw [e_x18]; exact J_us_s i51_4 (by omega) (fun c a b => ⟨(c0 c).1, by have := cha c a (by omega); omega⟩) (by rw [e_x20, e_x18])) | fail)) (show J_bp (τ_51.2.1 44) (τ_51.2.1 45) from BP) (show u3_51 = σ.2.1 33 n1 from by (first | exact e_x5 | exact i51_6 | fail)) (show u4_51 = σ.2.1 33 n1 + σ.2.1 34 n1 from by (first | exact i51_7 | (rw [e_x5, e_x6]) | fail))
  refine ⟨_, K2_X6_clear hT, ?_⟩
  intro τ3 hn_τ3 hf_τ3 hq
  obtain ⟨hT, q1_1, q1_2⟩ := hq
  replace q1_1 : (τ3.1 17) = 0 := q1_1
  replace q1_2 : (τ3.1 18) = 42000 := q1_2
  have w6_τ3 : τ3.1 6 = σ.1 6 := hf_τ3.1 6 (by decide)
  have w7_τ3 : τ3.1 7 = σ.1 7 := hf_τ3.1 7 (by decide)
  have w13_τ3 : τ3.1 13 = σ.1 13 := hf_τ3.1 13 (by decide)
  have w14_τ3 : τ3.1 14 = σ.1 14 := hf_τ3.1 14 (by decide)
  have w15_τ3 : τ3.1 15 = σ.1 15 := hf_τ3.1 15 (by decide)
  have w19_τ3 : τ3.1 19 = σ.1 19 := hf_τ3.1 19 (by decide)
  have g10_τ3 : τ3.2.1 10 = σ.2.1 10 := hf_τ3.2.1 10 (by decide)
  have g13_τ3 : τ3.2.1 13 = σ.2.1 13 := hf_τ3.2.1 13 (by decide)
  have g14_τ3 : τ3.2.1 14 = σ.2.1 14 := hf_τ3.2.1 14 (by decide)
  have g15_τ3 : τ3.2.1 15 = σ.2.1 15 := hf_τ3.2.1 15 (by decide)
  have g16_τ3 : τ3.2.1 16 = σ.2.1 16 := hf_τ3.2.1 16 (by decide)
  have g27_τ3 : τ3.2.1 27 = σ.2.1 27 := hf_τ3.2.1 27 (by decide)
  have g28_τ3 : τ3.2.1 28 = σ.2.1 28 := hf_τ3.2.1 28 (by decide)
  have g29_τ3 : τ3.2.1 29 = σ.2.1 29 := hf_τ3.2.1 29 (by decide)
  have g30_τ3 : τ3.2.1 30 = σ.2.1 30 := hf_τ3.2.1 30 (by decide)
  have g31_τ3 : τ3.2.1 31 = σ.2.1 31 := hf_τ3.2.1 31 (by decide)
  have g32_τ3 : τ3.2.1 32 = σ.2.1 32 := hf_τ3.2.1 32 (by decide)
  have g33_τ3 : τ3.2.1 33 = σ.2.1 33 := hf_τ3.2.1 33 (by decide)
  have g34_τ3 : τ3.2.1 34 = σ.2.1 34 := hf_τ3.2.1 34 (by decide)
  have g35_τ3 : τ3.2.1 35 = σ.2.1 35 := hf_τ3.2.1 35 (by decide)
  have g36_τ3 : τ3.2.1 36 = σ.2.1 36 := hf_τ3.2.1 36 (by decide)
  have g37_τ3 : τ3.2.1 37 = σ.2.1 37 := hf_τ3.2.1 37 (by decide)
  have g39_τ3 : τ3.2.1 39 = σ.2.1 39 := hf_τ3.2.1 39 (by decide)
  have g40_τ3 : τ3.2.1 40 = σ.2.1 40 := hf_τ3.2.1 40 (by decide)
  have g41_τ3 : τ3.2.1 41 = σ.2.1 41 := hf_τ3.2.1 41 (by decide)
  have g42_τ3 : τ3.2.1 42 = σ.2.1 42 := hf_τ3.2.1 42 (by decide)
  have g43_τ3 : τ3.2.1 43 = σ.2.1 43 := hf_τ3.2.1 43 (by decide)
  have g44_τ3 : τ3.2.1 44 = σ.2.1 44 := hf_τ3.2.1 44 (by decide)
  have g45_τ3 : τ3.2.1 45 = σ.2.1 45 := hf_τ3.2.1 45 (by decide)
  have W6 : τ3.1 6 = σ.1 6 := by first | exact w6_τ3.trans W6 | omega
  have W7 : τ3.1 7 = σ.1 7 := by first | exact w7_τ3.trans W7 | omega
  have W13 : τ3.1 13 = σ.1 13 := by first | exact w13_τ3.trans W13 | omega
  have W14 : τ3.1 14 = σ.1 14 := by first | exact w14_τ3.trans W14 | omega
  have W15 : τ3.1 15 = σ.1 15 := by first | exact w15_τ3.trans W15 | omega
  have G10 : τ3.2.1 10 = σ.2.1 10 := (g10_τ3).trans G10
  have G13 : τ3.2.1 13 = σ.2.1 13 := (g13_τ3).trans G13
  have G14 : τ3.2.1 14 = σ.2.1 14 := (g14_τ3).trans G14
  have G15 : τ3.2.1 15 = σ.2.1 15 := (g15_τ3).trans G15
  have G16 : τ3.2.1 16 = σ.2.1 16 := (g16_τ3).trans G16
  have G27 : τ3.2.1 27 = σ.2.1 27 := (g27_τ3).trans G27
  have G28 : τ3.2.1 28 = σ.2.1 28 := (g28_τ3).trans G28
  have G29 : τ3.2.1 29 = σ.2.1 29 := (g29_τ3).trans G29
  have G30 : τ3.2.1 30 = σ.2.1 30 := (g30_τ3).trans G30
  have G31 : τ3.2.1 31 = σ.2.1 31 := (g31_τ3).trans G31
  have G32 : τ3.2.1 32 = σ.2.1 32 := (g32_τ3).trans G32
  have G33 : τ3.2.1 33 = σ.2.1 33 := (g33_τ3).trans G33
  have G34 : τ3.2.1 34 = σ.2.1 34 := (g34_τ3).trans G34
  have G35 : τ3.2.1 35 = σ.2.1 35 := (g35_τ3).trans G35
  have G36 : τ3.2.1 36 = σ.2.1 36 := (g36_τ3).trans G36
  have G37 : τ3.2.1 37 = σ.2.1 37 := (g37_τ3).trans G37
  have CJ : J_all (τ3.1 7) (τ3.1 6) (τ3.1 13) (τ3.1 14) (τ3.1 15) (τ3.2.1 13) (τ3.2.1 14) (τ3.2.1 15) (τ3.2.1 16) (τ3.2.1 10) (τ3.2.1 27) (τ3.2.1 28) (τ3.2.1 29) (τ3.2.1 30) (τ3.2.1 31) (τ3.2.1 32) (τ3.2.1 33) (τ3.2.1 34) (τ3.2.1 35) (τ3.2.1 36) (τ3.2.1 37) := by rw [show (J_all (τ3.1 7) (τ3.1 6) (τ3.1 13) (τ3.1 14) (τ3.1 15) (τ3.2.1 13) (τ3.2.1 14) (τ3.2.1 15) (τ3.2.1 16) (τ3.2.1 10) (τ3.2.1 27) (τ3.2.1 28) (τ3.2.1 29) (τ3.2.1 30) (τ3.2.1 31) (τ3.2.1 32) (τ3.2.1 33) (τ3.2.1 34) (τ3.2.1 35) (τ3.2.1 36) (τ3.2.1 37)) = (J_all (σ.1 7) (σ.1 6) (σ.1 13) (σ.1 14) (σ.1 15) (σ.2.1 13) (σ.2.1 14) (σ.2.1 15) (σ.2.1 16) (σ.2.1 10) (σ.2.1 27) (σ.2.1 28) (σ.2.1 29) (σ.2.1 30) (σ.2.1 31) (σ.2.1 32) (σ.2.1 33) (σ.2.1 34) (σ.2.1 35) (σ.2.1 36) (σ.2.1 37)) from by rw [w6_τ3, w7_τ3, w13_τ3, w14_τ3, w15_τ3, g10_τ3, g13_τ3, g14_τ3, g15_τ3, g16_τ3, g27_τ3, g28_τ3, g29_τ3, g30_τ3, g31_τ3, g32_τ3, g33_τ3, g34_τ3, g35_τ3, g36_τ3, g37_τ3]]; exact CJ
  have BP : J_bp (τ3.2.1 44) (τ3.2.1 45) := by rw [show (J_bp (τ3.2.1 44) (τ3.2.1 45)) = (J_bp (σ.2.1 44) (σ.2.1 45)) from by rw [g44_τ3, g45_τ3]]; exact BP
  have A10 : ∀ j, (-1) ≤ τ3.2.1 10 j ∧ τ3.2.1 10 j ≤ 99 := fun j => hT.2 10 j
  have A13 : ∀ j, 0 ≤ τ3.2.1 13 j ∧ τ3.2.1 13 j ≤ 4 := fun j => hT.2 13 j
  have A14 : ∀ j, 0 ≤ τ3.2.1 14 j ∧ τ3.2.1 14 j ≤ 30000 := fun j => hT.2 14 j
  have A15 : ∀ j, 0 ≤ τ3.2.1 15 j ∧ τ3.2.1 15 j ≤ 999 := fun j => hT.2 15 j
  have A16 : ∀ j, (-1) ≤ τ3.2.1 16 j ∧ τ3.2.1 16 j ≤ 1499 := fun j => hT.2 16 j
  have A27 : ∀ j, 0 ≤ τ3.2.1 27 j ∧ τ3.2.1 27 j ≤ 90000 := fun j => hT.2 27 j
  have A28 : ∀ j, 0 ≤ τ3.2.1 28 j ∧ τ3.2.1 28 j ≤ 60 := fun j => hT.2 28 j
  have A29 : ∀ j, 0 ≤ τ3.2.1 29 j ∧ τ3.2.1 29 j ≤ 1499 := fun j => hT.2 29 j
  have A30 : ∀ j, 0 ≤ τ3.2.1 30 j ∧ τ3.2.1 30 j ≤ 20000 := fun j => hT.2 30 j
  have A31 : ∀ j, 0 ≤ τ3.2.1 31 j ∧ τ3.2.1 31 j ≤ 20000 := fun j => hT.2 31 j
  have A32 : ∀ j, 0 ≤ τ3.2.1 32 j ∧ τ3.2.1 32 j ≤ 999999 := fun j => hT.2 32 j
  have A33 : ∀ j, 0 ≤ τ3.2.1 33 j ∧ τ3.2.1 33 j ≤ 20000 := fun j => hT.2 33 j
  have A34 : ∀ j, 0 ≤ τ3.2.1 34 j ∧ τ3.2.1 34 j ≤ 20000 := fun j => hT.2 34 j
  have A35 : ∀ j, 0 ≤ τ3.2.1 35 j ∧ τ3.2.1 35 j ≤ 1499 := fun j => hT.2 35 j
  have A36 : ∀ j, 0 ≤ τ3.2.1 36 j ∧ τ3.2.1 36 j ≤ 20000 := fun j => hT.2 36 j
  have A37 : ∀ j, 0 ≤ τ3.2.1 37 j ∧ τ3.2.1 37 j ≤ 19999 := fun j => hT.2 37 j
  have A39 : ∀ j, 0 ≤ τ3.2.1 39 j ∧ τ3.2.1 39 j ≤ 1060 := fun j => hT.2 39 j
  have A40 : ∀ j, 0 ≤ τ3.2.1 40 j ∧ τ3.2.1 40 j ≤ 42000 := fun j => hT.2 40 j
  have A41 : ∀ j, (-2) ≤ τ3.2.1 41 j ∧ τ3.2.1 41 j ≤ 1000 := fun j => hT.2 41 j
  have A42 : ∀ j, (-2147483648) ≤ τ3.2.1 42 j ∧ τ3.2.1 42 j ≤ 2147483647 := fun j => hT.2 42 j
  have A43 : ∀ j, 0 ≤ τ3.2.1 43 j ∧ τ3.2.1 43 j ≤ 1060 := fun j => hT.2 43 j
  have A44 : ∀ j, 0 ≤ τ3.2.1 44 j ∧ τ3.2.1 44 j ≤ 42000 := fun j => hT.2 44 j
  have A45 : ∀ j, 0 ≤ τ3.2.1 45 j ∧ τ3.2.1 45 j ≤ 1000 := fun j => hT.2 45 j
  have v6 : 0 ≤ τ3.1 6 ∧ τ3.1 6 ≤ 30000 := hT.1 6
  have v7 : 0 ≤ τ3.1 7 ∧ τ3.1 7 ≤ 1500 := hT.1 7
  have v13 : 0 ≤ τ3.1 13 ∧ τ3.1 13 ≤ 90000 := hT.1 13
  have v14 : 0 ≤ τ3.1 14 ∧ τ3.1 14 ≤ 20000 := hT.1 14
  have v15 : 0 ≤ τ3.1 15 ∧ τ3.1 15 ≤ 20000 := hT.1 15
  have v17 : 0 ≤ τ3.1 17 ∧ τ3.1 17 ≤ 42000 := hT.1 17
  have v18 : 0 ≤ τ3.1 18 ∧ τ3.1 18 ≤ 42000 := hT.1 18
  have v19 : 0 ≤ τ3.1 19 ∧ τ3.1 19 ≤ 1000 := hT.1 19
  refine ⟨(show 0 ≤ n1 ∧ n1 < 1500 from by (first | omega | (simp only [st_s] <;> omega) | assumption | omega | fail)), ?_⟩
  intro x5 r_x5 e_x5
  have b_x5 : 0 ≤ x5 ∧ x5 ≤ 20000 := by rw [e_x5]; exact hT.2 33 _
  rw [g33_τ3] at e_x5
  intro x6 r_x6 e_x6
  have b_x6 : 0 ≤ x6 ∧ x6 ≤ 20000 := by rw [e_x6]; exact hT.2 34 _
  rw [g34_τ3] at e_x6
  refine ⟨(⟨by (first | omega | (simp only [st_s] <;> omega) | assumption | omega | fail), by (first | omega | (simp only [st_s] <;> omega) | assumption | omega | fail)⟩ : rg ((x5 + x6) - x5)), ?_⟩
  refine ⟨_, K_J7_fill_fda19_q58 hT (show 0 ≤ (0 : Int) from by (first | omega | (simp only [st_s] <;> omega) | assumption | omega | fail)) (show (0 : Int) ≤ ((x5 + x6) - x5) from by (first | omega | (simp only [st_s] <;> omega) | assumption | omega | fail)) (show ((x5 + x6) - x5) ≤ 20000 from by (first | omega | (simp only [st_s] <;> omega) | assumption | omega | fail)) (show (0 : Int) = 0 from by (first | omega | (simp only [st_s] <;> omega) | assumption | omega | fail)), ?_⟩
  intro τ10 hn_τ10 hf_τ10 hq
  obtain ⟨hT, q8_1⟩ := hq
  replace q8_1 : ∀ e : Int, (0 : Int) ≤ e → e < ((x5 + x6) - x5) → τ10.2.1 42 e = (0 : Int) := q8_1
  have w6_τ10 : τ10.1 6 = τ3.1 6 := hf_τ10.1 6 (by decide)
  have w7_τ10 : τ10.1 7 = τ3.1 7 := hf_τ10.1 7 (by decide)
  have w13_τ10 : τ10.1 13 = τ3.1 13 := hf_τ10.1 13 (by decide)
  have w14_τ10 : τ10.1 14 = τ3.1 14 := hf_τ10.1 14 (by decide)
  have w15_τ10 : τ10.1 15 = τ3.1 15 := hf_τ10.1 15 (by decide)
  have w17_τ10 : τ10.1 17 = τ3.1 17 := hf_τ10.1 17 (by decide)
  have w18_τ10 : τ10.1 18 = τ3.1 18 := hf_τ10.1 18 (by decide)
  have w19_τ10 : τ10.1 19 = τ3.1 19 := hf_τ10.1 19 (by decide)
  have g10_τ10 : τ10.2.1 10 = τ3.2.1 10 := hf_τ10.2.1 10 (by decide)
  have g13_τ10 : τ10.2.1 13 = τ3.2.1 13 := hf_τ10.2.1 13 (by decide)
  have g14_τ10 : τ10.2.1 14 = τ3.2.1 14 := hf_τ10.2.1 14 (by decide)
  have g15_τ10 : τ10.2.1 15 = τ3.2.1 15 := hf_τ10.2.1 15 (by decide)
  have g16_τ10 : τ10.2.1 16 = τ3.2.1 16 := hf_τ10.2.1 16 (by decide)
  have g27_τ10 : τ10.2.1 27 = τ3.2.1 27 := hf_τ10.2.1 27 (by decide)
  have g28_τ10 : τ10.2.1 28 = τ3.2.1 28 := hf_τ10.2.1 28 (by decide)
  have g29_τ10 : τ10.2.1 29 = τ3.2.1 29 := hf_τ10.2.1 29 (by decide)
  have g30_τ10 : τ10.2.1 30 = τ3.2.1 30 := hf_τ10.2.1 30 (by decide)
  have g31_τ10 : τ10.2.1 31 = τ3.2.1 31 := hf_τ10.2.1 31 (by decide)
  have g32_τ10 : τ10.2.1 32 = τ3.2.1 32 := hf_τ10.2.1 32 (by decide)
  have g33_τ10 : τ10.2.1 33 = τ3.2.1 33 := hf_τ10.2.1 33 (by decide)
  have g34_τ10 : τ10.2.1 34 = τ3.2.1 34 := hf_τ10.2.1 34 (by decide)
  have g35_τ10 : τ10.2.1 35 = τ3.2.1 35 := hf_τ10.2.1 35 (by decide)
  have g36_τ10 : τ10.2.1 36 = τ3.2.1 36 := hf_τ10.2.1 36 (by decide)
  have g37_τ10 : τ10.2.1 37 = τ3.2.1 37 := hf_τ10.2.1 37 (by decide)
  have g39_τ10 : τ10.2.1 39 = τ3.2.1 39 := hf_τ10.2.1 39 (by decide)
  have g40_τ10 : τ10.2.1 40 = τ3.2.1 40 := hf_τ10.2.1 40 (by decide)
  have g41_τ10 : τ10.2.1 41 = τ3.2.1 41 := hf_τ10.2.1 41 (by decide)
  have g43_τ10 : τ10.2.1 43 = τ3.2.1 43 := hf_τ10.2.1 43 (by decide)
  have g44_τ10 : τ10.2.1 44 = τ3.2.1 44 := hf_τ10.2.1 44 (by decide)
  have g45_τ10 : τ10.2.1 45 = τ3.2.1 45 := hf_τ10.2.1 45 (by decide)
  have W6 : τ10.1 6 = σ.1 6 := by first | exact w6_τ10.trans W6 | omega
  have W7 : τ10.1 7 = σ.1 7 := by first | exact w7_τ10.trans W7 | omega
  have W13 : τ10.1 13 = σ.1 13 := by first | exact w13_τ10.trans W13 | omega
  have W14 : τ10.1 14 = σ.1 14 := by first | exact w14_τ10.trans W14 | omega
  have W15 : τ10.1 15 = σ.1 15 := by first | exact w15_τ10.trans W15 | omega
  have G10 : τ10.2.1 10 = σ.2.1 10 := (g10_τ10).trans G10
  have G13 : τ10.2.1 13 = σ.2.1 13 := (g13_τ10).trans G13
  have G14 : τ10.2.1 14 = σ.2.1 14 := (g14_τ10).trans G14
  have G15 : τ10.2.1 15 = σ.2.1 15 := (g15_τ10).trans G15
  have G16 : τ10.2.1 16 = σ.2.1 16 := (g16_τ10).trans G16
  have G27 : τ10.2.1 27 = σ.2.1 27 := (g27_τ10).trans G27
  have G28 : τ10.2.1 28 = σ.2.1 28 := (g28_τ10).trans G28
  have G29 : τ10.2.1 29 = σ.2.1 29 := (g29_τ10).trans G29
  have G30 : τ10.2.1 30 = σ.2.1 30 := (g30_τ10).trans G30
  have G31 : τ10.2.1 31 = σ.2.1 31 := (g31_τ10).trans G31
  have G32 : τ10.2.1 32 = σ.2.1 32 := (g32_τ10).trans G32
  have G33 : τ10.2.1 33 = σ.2.1 33 := (g33_τ10).trans G33
  have G34 : τ10.2.1 34 = σ.2.1 34 := (g34_τ10).trans G34
  have G35 : τ10.2.1 35 = σ.2.1 35 := (g35_τ10).trans G35
  have G36 : τ10.2.1 36 = σ.2.1 36 := (g36_τ10).trans G36
  have G37 : τ10.2.1 37 = σ.2.1 37 := (g37_τ10).trans G37
  have CJ : J_all (τ10.1 7) (τ10.1 6) (τ10.1 13) (τ10.1 14) (τ10.1 15) (τ10.2.1 13) (τ10.2.1 14) (τ10.2.1 15) (τ10.2.1 16) (τ10.2.1 10) (τ10.2.1 27) (τ10.2.1 28) (τ10.2.1 29) (τ10.2.1 30) (τ10.2.1 31) (τ10.2.1 32) (τ10.2.1 33) (τ10.2.1 34) (τ10.2.1 35) (τ10.2.1 36) (τ10.2.1 37) := by rw [show (J_all (τ10.1 7) (τ10.1 6) (τ10.1 13) (τ10.1 14) (τ10.1 15) (τ10.2.1 13) (τ10.2.1 14) (τ10.2.1 15) (τ10.2.1 16) (τ10.2.1 10) (τ10.2.1 27) (τ10.2.1 28) (τ10.2.1 29) (τ10.2.1 30) (τ10.2.1 31) (τ10.2.1 32) (τ10.2.1 33) (τ10.2.1 34) (τ10.2.1 35) (τ10.2.1 36) (τ10.2.1 37)) = (J_all (τ3.1 7) (τ3.1 6) (τ3.1 13) (τ3.1 14) (τ3.1 15) (τ3.2.1 13) (τ3.2.1 14) (τ3.2.1 15) (τ3.2.1 16) (τ3.2.1 10) (τ3.2.1 27) (τ3.2.1 28) (τ3.2.1 29) (τ3.2.1 30) (τ3.2.1 31) (τ3.2.1 32) (τ3.2.1 33) (τ3.2.1 34) (τ3.2.1 35) (τ3.2.1 36) (τ3.2.1 37)) from by rw [w6_τ10, w7_τ10, w13_τ10, w14_τ10, w15_τ10, g10_τ10, g13_τ10, g14_τ10, g15_τ10, g16_τ10, g27_τ10, g28_τ10, g29_τ10, g30_τ10, g31_τ10, g32_τ10, g33_τ10, g34_τ10, g35_τ10, g36_τ10, g37_τ10]]; exact CJ
  have BP : J_bp (τ10.2.1 44) (τ10.2.1 45) := by rw [show (J_bp (τ10.2.1 44) (τ10.2.1 45)) = (J_bp (τ3.2.1 44) (τ3.2.1 45)) from by rw [g44_τ10, g45_τ10]]; exact BP
  have A10 : ∀ j, (-1) ≤ τ10.2.1 10 j ∧ τ10.2.1 10 j ≤ 99 := fun j => hT.2 10 j
  have A13 : ∀ j, 0 ≤ τ10.2.1 13 j ∧ τ10.2.1 13 j ≤ 4 := fun j => hT.2 13 j
  have A14 : ∀ j, 0 ≤ τ10.2.1 14 j ∧ τ10.2.1 14 j ≤ 30000 := fun j => hT.2 14 j
  have A15 : ∀ j, 0 ≤ τ10.2.1 15 j ∧ τ10.2.1 15 j ≤ 999 := fun j => hT.2 15 j
  have A16 : ∀ j, (-1) ≤ τ10.2.1 16 j ∧ τ10.2.1 16 j ≤ 1499 := fun j => hT.2 16 j
  have A27 : ∀ j, 0 ≤ τ10.2.1 27 j ∧ τ10.2.1 27 j ≤ 90000 := fun j => hT.2 27 j
  have A28 : ∀ j, 0 ≤ τ10.2.1 28 j ∧ τ10.2.1 28 j ≤ 60 := fun j => hT.2 28 j
  have A29 : ∀ j, 0 ≤ τ10.2.1 29 j ∧ τ10.2.1 29 j ≤ 1499 := fun j => hT.2 29 j
  have A30 : ∀ j, 0 ≤ τ10.2.1 30 j ∧ τ10.2.1 30 j ≤ 20000 := fun j => hT.2 30 j
  have A31 : ∀ j, 0 ≤ τ10.2.1 31 j ∧ τ10.2.1 31 j ≤ 20000 := fun j => hT.2 31 j
  have A32 : ∀ j, 0 ≤ τ10.2.1 32 j ∧ τ10.2.1 32 j ≤ 999999 := fun j => hT.2 32 j
  have A33 : ∀ j, 0 ≤ τ10.2.1 33 j ∧ τ10.2.1 33 j ≤ 20000 := fun j => hT.2 33 j
  have A34 : ∀ j, 0 ≤ τ10.2.1 34 j ∧ τ10.2.1 34 j ≤ 20000 := fun j => hT.2 34 j
  have A35 : ∀ j, 0 ≤ τ10.2.1 35 j ∧ τ10.2.1 35 j ≤ 1499 := fun j => hT.2 35 j
  have A36 : ∀ j, 0 ≤ τ10.2.1 36 j ∧ τ10.2.1 36 j ≤ 20000 := fun j => hT.2 36 j
  have A37 : ∀ j, 0 ≤ τ10.2.1 37 j ∧ τ10.2.1 37 j ≤ 19999 := fun j => hT.2 37 j
  have A39 : ∀ j, 0 ≤ τ10.2.1 39 j ∧ τ10.2.1 39 j ≤ 1060 := fun j => hT.2 39 j
  have A40 : ∀ j, 0 ≤ τ10.2.1 40 j ∧ τ10.2.1 40 j ≤ 42000 := fun j => hT.2 40 j
  have A41 : ∀ j, (-2) ≤ τ10.2.1 41 j ∧ τ10.2.1 41 j ≤ 1000 := fun j => hT.2 41 j
  have A42 : ∀ j, (-2147483648) ≤ τ10.2.1 42 j ∧ τ10.2.1 42 j ≤ 2147483647 := fun j => hT.2 42 j
  have A43 : ∀ j, 0 ≤ τ10.2.1 43 j ∧ τ10.2.1 43 j ≤ 1060 := fun j => hT.2 43 j
  have A44 : ∀ j, 0 ≤ τ10.2.1 44 j ∧ τ10.2.1 44 j ≤ 42000 := fun j => hT.2 44 j
  have A45 : ∀ j, 0 ≤ τ10.2.1 45 j ∧ τ10.2.1 45 j ≤ 1000 := fun j => hT.2 45 j
  have v6 : 0 ≤ τ10.1 6 ∧ τ10.1 6 ≤ 30000 := hT.1 6
  have v7 : 0 ≤ τ10.1 7 ∧ τ10.1 7 ≤ 1500 := hT.1 7
  have v13 : 0 ≤ τ10.1 13 ∧ τ10.1 13 ≤ 90000 := hT.1 13
  have v14 : 0 ≤ τ10.1 14 ∧ τ10.1 14 ≤ 20000 := hT.1 14
  have v15 : 0 ≤ τ10.1 15 ∧ τ10.1 15 ≤ 20000 := hT.1 15
  have v17 : 0 ≤ τ10.1 17 ∧ τ10.1 17 ≤ 42000 := hT.1 17
  have v18 : 0 ≤ τ10.1 18 ∧ τ10.1 18 ≤ 42000 := hT.1 18
  have v19 : 0 ≤ τ10.1 19 ∧ τ10.1 19 ≤ 1000 := hT.1 19
  refine ⟨(show 0 ≤ x5 ∧ x5 < 20001 from by (first | omega | (simp only [st_s] <;> omega) | assumption | omega | fail)), ?_⟩
  intro x12 r_x12 e_x12
  have b_x12 : 0 ≤ x12 ∧ x12 ≤ 20000 := by rw [e_x12]; exact hT.2 36 _
  rw [g36_τ10, g36_τ3] at e_x12
  refine ⟨(⟨by (first | omega | (simp only [st_s] <;> omega) | assumption | omega | fail), by (first | omega | (simp only [st_s] <;> omega) | assumption | omega | fail)⟩ : rg (x5 + x6)), ?_⟩
  exact l_51 ((20001 - x12 : Int).toNat + 1) _ _ _ _ (show (20001 - x12 : Int) < (((20001 - x12 : Int).toNat + 1 : Nat) : Int) from by ((first | omega | (simp only [st_s] <;> omega) | assumption | omega | fail))) hT (show τ10.1 6 = σ.1 6 from by first | exact W6 | omega) (show τ10.1 7 = σ.1 7 from by first | exact W7 | omega) (show τ10.1 13 = σ.1 13 from by first | exact W13 | omega) (show τ10.1 14 = σ.1 14 from by first | exact W14 | omega) (show τ10.1 15 = σ.1 15 from by first | exact W15 | omega) G10 G13 G14 G15 G16 G27 G28 G29 G30 G31 G32 G33 G34 G35 G36 G37 (show (σ.2.1 36 (σ.2.1 33 n1)) ≤ x12 from by (first | omega | (rw [e_x12, e_x5]; exact Int.le_refl _) | fail)) (show x12 ≤ (σ.2.1 36 (σ.2.1 33 n1 + σ.2.1 34 n1)) from by (first | omega | (rw [e_x12, e_x5]; exact m0) | fail)) (show (τ10.1 17) = 0 ∧ (τ10.1 18) = 42000 from by (first | exact i51_3 | (refine ⟨?_, ?_⟩ <;> omega) | fail)) (show J_us (σ.2.1 36 (σ.2.1 33 n1)) x12 (σ.2.1 34 n1) (σ.2.1 37) (τ10.2.1 42) from by (first | (rw [e_x12, e_x5, g37_τ10, g37_τ3]; exact J_us0 (fun e a b => q8_1 e a (by omega))) | (rw [e_x12, e_x5]; exact J_us0 (fun e a b => q8_1 e a (by omega))) | (rw [e_x18]; exact J_us_s i51_4 (by omega) (fun c a b => ⟨(c0 c).1, by have := cha c a (by omega); omega⟩) (by rw [e_x20, e_x18])) | fail)) (show J_bp (τ10.2.1 44) (τ10.2.1 45) from BP) (show x5 = σ.2.1 33 n1 from by (first | exact e_x5 | exact i51_6 | fail)) (show (x5 + x6) = σ.2.1 33 n1 + σ.2.1 34 n1 from by (first | exact i51_7 | (rw [e_x5, e_x6]) | fail))
