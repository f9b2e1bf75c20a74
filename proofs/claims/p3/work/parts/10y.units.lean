-- pure: rules of one variable alone, gone round
theorem smN_e {g : Int → Int} : ∀ n : Nat, 1 ≤ smN g n → ∃ v : Int, 0 ≤ v ∧ v < (n : Int) ∧ 1 ≤ g v
  | 0, h => by
    have : (0 : Int) ≥ 1 := h
    omega
  | n + 1, h => by
    have h2 : 1 ≤ smN g n + g (n : Int) := h
    by_cases z : 1 ≤ g (n : Int)
    · exact ⟨(n : Int), by omega, by omega, z⟩
    · obtain ⟨v, a, b, c⟩ := smN_e (g := g) n (by omega)
      exact ⟨v, a, by omega, c⟩
theorem sm_e {g : Int → Int} {n : Int} (h : 1 ≤ sm g n) : ∃ v : Int, 0 ≤ v ∧ v < n ∧ 1 ≤ g v := by
  obtain ⟨v, a, b, c⟩ := smN_e n.toNat h
  exact ⟨v, a, by omega, c⟩
theorem sm_1 {g : Int → Int} {n v : Int} (h : ∀ e : Int, 0 ≤ e → e < n → 0 ≤ g e) (v0 : 0 ≤ v) (v1 : v < n) : g v ≤ sm g n := by
  have a := sm_m h v0 (show v ≤ n from by omega)
  have b := sm_m (n := v + 1) h (by omega) (by omega)
  have c := sm_s g v0
  have d := sm_n (g := g) (n := v) (fun e a b => h e a (by omega))
  omega
theorem sm_2 {g : Int → Int} {n v w : Int} (h : ∀ e : Int, 0 ≤ e → e < n → 0 ≤ g e) (v0 : 0 ≤ v) (vw : v < w) (w1 : w < n) : g v + g w ≤ sm g n := by
  have a := sm_1 (n := w) (v := v) (fun e a b => h e a (by omega)) v0 vw
  have b := sm_m (n := w + 1) h (by omega) (by omega)
  have c := sm_s g (n := w) (by omega)
  omega
theorem smN_le {f g : Int → Int} : ∀ n : Nat, (∀ e : Int, 0 ≤ e → e < (n : Int) → f e ≤ g e) → smN f n ≤ smN g n
  | 0, _ => Int.le_refl _
  | n + 1, h => by
    have a := smN_le n (fun e a b => h e a (by omega))
    have b := h (n : Int) (by omega) (by omega)
    show smN f n + f (n : Int) ≤ smN g n + g (n : Int)
    omega
theorem sm_le {f g : Int → Int} {n : Int} (h : ∀ e : Int, 0 ≤ e → e < n → f e ≤ g e) : sm f n ≤ sm g n := smN_le n.toNat (fun e a b => h e a (by omega))
/-- what rules of one variable bring to a sort -/
def g_ub (lim s : Int) (uR uF so T : Int → Int) (v : Int) : Int := if uR v < lim ∧ so (uR v) = s then T (uF v) else 0
def g_us (lim u s : Int) (uR uF so T : Int → Int) : Int := sm (g_ub lim s uR uF so T) u
theorem g_ub_u (lim s : Int) (uR uF so T : Int → Int) (v : Int) : (uR v < lim ∧ so (uR v) = s ∧ g_ub lim s uR uF so T v = T (uF v)) ∨ (¬ (uR v < lim ∧ so (uR v) = s) ∧ g_ub lim s uR uF so T v = 0) := by
  unfold g_ub
  by_cases z : uR v < lim ∧ so (uR v) = s
  · rw [if_pos z]; exact Or.inl ⟨z.1, z.2, rfl⟩
  · rw [if_neg z]; exact Or.inr ⟨z, rfl⟩
theorem g_ub_0 {lim s : Int} {uR uF so T : Int → Int} (T0 : ∀ j, 0 ≤ T j) (v : Int) : 0 ≤ g_ub lim s uR uF so T v := by
  have := T0 (uF v)
  rcases g_ub_u lim s uR uF so T v with ⟨_, _, e⟩ | ⟨_, e⟩ <;> rw [e]
  · exact this
  · exact Int.le_refl _
/-- the least of two and a number -/
def g_m2 (y x : Int) : Prop := (y = x ∧ x ≤ 2) ∨ (y = 2 ∧ 2 ≤ x)
/-- one round -/
def g_rd (rs lim un : Int) (uR uF so base T T2 : Int → Int) : Prop := ∀ s : Int, 0 ≤ s → s < rs → g_m2 (T2 s) (base s + g_us lim un s uR uF so T)
/-- rules behind the limit bring nothing -/
theorem g_us_l {lim u un s : Int} {uR uF so T : Int → Int} (u0 : 0 ≤ u) (un' : u ≤ un) (h : ∀ v : Int, u ≤ v → v < un → lim ≤ uR v) : g_us lim un s uR uF so T = g_us lim u s uR uF so T := by
  unfold g_us
  have a := sm_at (g_ub lim s uR uF so T) u0 (show 0 ≤ un - u from by omega)
  rw [show u + (un - u) = un from by omega] at a
  rw [a]
  have b : sm (fun h => g_ub lim s uR uF so T (u + h)) (un - u) = sm (fun _ => (0 : Int)) (un - u) := sm_x (fun e a b => by
    rcases g_ub_u lim s uR uF so T (u + e) with ⟨x, _⟩ | ⟨_, x⟩
    · have := h (u + e) (by omega) (by omega); omega
    · exact x)
  have c : ∀ n : Nat, smN (fun _ => (0 : Int)) n = 0 := fun n => by
    induction n with
    | zero => rfl
    | succ n ih => show smN (fun _ => (0 : Int)) n + 0 = 0; omega
  rw [b]
  unfold sm
  rw [c]; omega
/-- where the counting stands: no less than what it began with, no more than another round gives -/
def g_pf (rs lim un k : Int) (uR uF so base T : Int → Int) : Prop := (∀ s : Int, 0 ≤ s → s < rs → base s ≤ T s ∧ T s ≤ 2) ∧ (∀ s : Int, 0 ≤ s → s < rs → T s ≤ base s + g_us lim un s uR uF so T) ∧
  ∃ t : Int → Int, ∀ s : Int, 0 ≤ s → s < rs → 1 ≤ T s → 0 ≤ t s ∧ t s ≤ k ∧ (1 ≤ base s ∨ ∃ v : Int, 0 ≤ v ∧ v < un ∧ uR v < lim ∧ so (uR v) = s ∧ 1 ≤ T (uF v) ∧ t (uF v) < t s)
theorem g_pf0 {rs lim un : Int} {uR uF so base T : Int → Int} (e : ∀ s : Int, 0 ≤ s → s < rs → T s = base s) (b2 : ∀ s : Int, 0 ≤ s → s < rs → 0 ≤ base s ∧ base s ≤ 2) (T0 : ∀ j, 0 ≤ T j) : g_pf rs lim un 0 uR uF so base T :=
  ⟨fun s a b => by have := e s a b; have := b2 s a b; omega, fun s a b => by
    have := e s a b
    have w := sm_n (g := g_ub lim s uR uF so T) (n := un) (fun v _ _ => g_ub_0 T0 v)
    have x : g_us lim un s uR uF so T = sm (g_ub lim s uR uF so T) un := rfl
    omega, fun _ => 0, fun s a b c => ⟨Int.le_refl _, Int.le_refl _, Or.inl (by have := e s a b; omega)⟩⟩
theorem g_pf_s {rs lim un k : Int} {uR uF so base T T2 : Int → Int} (h : g_pf rs lim un k uR uF so base T) (r : g_rd rs lim un uR uF so base T T2) (T0 : ∀ j, 0 ≤ T j) (T20 : ∀ j, 0 ≤ T2 j) (b0 : ∀ j, 0 ≤ base j) (uf : ∀ v : Int, 0 ≤ v → v < un → 0 ≤ uF v ∧ uF v < rs) (k0 : 0 ≤ k) : (∀ s : Int, 0 ≤ s → s < rs → T s ≤ T2 s) ∧ g_pf rs lim un (k + 1) uR uF so base T2 := by
  obtain ⟨h1, h2, t, h3⟩ := h
  have up : ∀ s : Int, 0 ≤ s → s < rs → T s ≤ T2 s := fun s a b => by
    have x := h1 s a b; have y := h2 s a b
    rcases r s a b with ⟨z, w⟩ | ⟨z, w⟩ <;> omega
  have us : ∀ s : Int, g_us lim un s uR uF so T ≤ g_us lim un s uR uF so T2 := fun s => sm_le (fun v a b => by
    have w := up (uF v) (uf v a b).1 (uf v a b).2
    rcases g_ub_u lim s uR uF so T v with ⟨x, y, e⟩ | ⟨x, e⟩ <;> rcases g_ub_u lim s uR uF so T2 v with ⟨x2, y2, e2⟩ | ⟨x2, e2⟩ <;> rw [e, e2]
    · exact w
    · exact absurd ⟨x, y⟩ x2
    · exact absurd ⟨x2, y2⟩ x
    · exact Int.le_refl _)
  refine ⟨up, fun s a b => ?_, fun s a b => ?_, fun s => if 1 ≤ T s then t s else k + 1, fun s a b c => ?_⟩
  · have x := h1 s a b; have y := up s a b
    rcases r s a b with ⟨z, w⟩ | ⟨z, w⟩ <;> omega
  · have x := us s
    rcases r s a b with ⟨z, w⟩ | ⟨z, w⟩ <;> omega
  · by_cases z : 1 ≤ T s
    · obtain ⟨x1, x2, x3⟩ := h3 s a b z
      dsimp only
      rw [if_pos z]
      refine ⟨x1, by omega, ?_⟩
      rcases x3 with x3 | ⟨v, v0, v1, v2, v3, v4, v5⟩
      · exact Or.inl x3
      · have w := up (uF v) (uf v v0 v1).1 (uf v v0 v1).2
        exact Or.inr ⟨v, v0, v1, v2, v3, by omega, by rw [if_pos v4]; exact v5⟩
    · dsimp only
      rw [if_neg z]
      refine ⟨by omega, by omega, ?_⟩
      have x := h1 s a b
      have bs := b0 s
      have y : 1 ≤ g_us lim un s uR uF so T := by
        rcases r s a b with ⟨w, q⟩ | ⟨w, q⟩ <;> omega
      obtain ⟨v, v0, v1, v2⟩ := sm_e y
      rcases g_ub_u lim s uR uF so T v with ⟨w1, w2, w3⟩ | ⟨w1, w3⟩
      · rw [w3] at v2
        have w := up (uF v) (uf v v0 v1).1 (uf v v0 v1).2
        have tf := h3 (uF v) (uf v v0 v1).1 (uf v v0 v1).2 v2
        exact Or.inr ⟨v, v0, v1, w1, w2, by omega, by rw [if_pos v2]; omega⟩
      · omega
/-- nothing changes any more -/
theorem g_pf_e {rs lim un k : Int} {uR uF so base T T2 : Int → Int} (r : g_rd rs lim un uR uF so base T T2) (e : ∀ s : Int, 0 ≤ s → s < rs → T2 s = T s) (uf : ∀ v : Int, 0 ≤ v → v < un → 0 ≤ uF v ∧ uF v < rs) : g_rd rs lim un uR uF so base T2 T2 := fun s a b => by
  have w : g_us lim un s uR uF so T2 = g_us lim un s uR uF so T := sm_x (fun v v0 v1 => by
    unfold g_ub
    rw [e _ (uf v v0 v1).1 (uf v v0 v1).2])
  rw [w]; exact r s a b
/-- a sort that is reached once, by such a rule: by it alone -/
theorem g_pf_u {rs lim un k s v : Int} {uR uF so base T : Int → Int} (r : g_rd rs lim un uR uF so base T T) (h : g_pf rs lim un k uR uF so base T) (T0 : ∀ j, 0 ≤ T j) (b0 : ∀ j, 0 ≤ base j) (s0 : 0 ≤ s) (s1 : s < rs) (bz : base s = 0) (Ts : T s ≤ 1) (v0 : 0 ≤ v) (v1 : v < un) (vl : uR v < lim) (vs : so (uR v) = s) (vT : 1 ≤ T (uF v)) : T (uF v) = 1 ∧ T s = 1 ∧ ∃ t : Int → Int, (∀ s : Int, 0 ≤ s → s < rs → 1 ≤ T s → 0 ≤ t s) ∧ t (uF v) < t s := by
  have g0 : ∀ e : Int, 0 ≤ e → e < un → 0 ≤ g_ub lim s uR uF so T e := fun e _ _ => g_ub_0 T0 e
  have gv : g_ub lim s uR uF so T v = T (uF v) := by unfold g_ub; rw [if_pos ⟨vl, vs⟩]
  have a := sm_1 g0 v0 v1
  have d : g_us lim un s uR uF so T = sm (g_ub lim s uR uF so T) un := rfl
  have rr := r s s0 s1
  have Ts1 : T s = 1 ∧ T (uF v) = 1 ∧ sm (g_ub lim s uR uF so T) un = 1 := by
    rcases rr with ⟨x, y⟩ | ⟨x, y⟩ <;> omega
  refine ⟨Ts1.2.1, Ts1.1, ?_⟩
  obtain ⟨h1, h2, t, h3⟩ := h
  refine ⟨t, fun s a b c => (h3 s a b c).1, ?_⟩
  obtain ⟨_, _, x | ⟨w, w0, w1, w2, w3, w4, w5⟩⟩ := h3 s s0 s1 (by omega)
  · omega
  · have gw : g_ub lim s uR uF so T w = T (uF w) := by unfold g_ub; rw [if_pos ⟨w2, w3⟩]
    rcases Int.lt_trichotomy v w with z | z | z
    · have := sm_2 g0 v0 z w1; omega
    · rw [z]; exact w5
    · have := sm_2 g0 w0 z v1; omega
theorem g_us_s {lim u s : Int} {uR uF so T : Int → Int} (u0 : 0 ≤ u) : g_us lim (u + 1) s uR uF so T = g_us lim u s uR uF so T + g_ub lim s uR uF so T u := sm_s _ u0
theorem g_m2_a {y x t z : Int} (h : g_m2 y x) (t0 : 0 ≤ t) (z2 : z ≤ 2) (zl : z ≤ y + t) (ze : z = 2 ∨ z = y + t) : g_m2 z (x + t) := by
  unfold g_m2 at h ⊢; omega
set_option maxHeartbeats 4000000 in
theorem K_X1_countUnits {par nof : Int → Int} {In : Int → Prop} {σ : S0} (hT : c_T σ) (p1 : J_all (σ.1 7) (σ.1 6) (σ.1 13) (σ.1 14) (σ.1 15) (σ.2.1 13) (σ.2.1 14) (σ.2.1 15) (σ.2.1 16) (σ.2.1 10) (σ.2.1 27) (σ.2.1 28) (σ.2.1 29) (σ.2.1 30) (σ.2.1 31) (σ.2.1 32) (σ.2.1 33) (σ.2.1 34) (σ.2.1 35) (σ.2.1 36) (σ.2.1 37)) (p2 : c_Rs σ par nof In) : W_X1_countUnits σ (fun (x : Int) (τ : S0) => (c_T τ) ∧ (0 ≤ x ∧ x ≤ 1) ∧ (g_rd (σ.1 4) (σ.1 51) (σ.1 46) (σ.2.1 75) (σ.2.1 76) (g_so (σ.1 48) (σ.2.1 14) (σ.2.1 15) (σ.2.1 10)) (σ.2.1 81) (σ.2.1 82) (τ.2.1 82)) ∧ (x = 0 → ∀ s : Int, 0 ≤ s → s < (σ.1 4) → τ.2.1 82 s = σ.2.1 82 s)) := by
  have A10 : ∀ j, (-1) ≤ σ.2.1 10 j ∧ σ.2.1 10 j ≤ 99 := fun j => hT.2 10 j
  have A13 : ∀ j, 0 ≤ σ.2.1 13 j ∧ σ.2.1 13 j ≤ 4 := fun j => hT.2 13 j
  have A14 : ∀ j, 0 ≤ σ.2.1 14 j ∧ σ.2.1 14 j ≤ 30000 := fun j => hT.2 14 j
  have A15 : ∀ j, 0 ≤ σ.2.1 15 j ∧ σ.2.1 15 j ≤ 999 := fun j => hT.2 15 j
  have A16 : ∀ j, (-1) ≤ σ.2.1 16 j ∧ σ.2.1 16 j ≤ 1499 := fun j => hT.2 16 j
  have A27 : ∀ j, 0 ≤ σ.2.1 27 j ∧ σ.2.1 27 j ≤ 90000 := fun j => hT.2 27 j
  have A28 : ∀ j, 0 ≤ σ.2.1 28 j ∧ σ.2.1 28 j ≤ 60 := fun j => hT.2 28 j
  have A29 : ∀ j, 0 ≤ σ.2.1 29 j ∧ σ.2.1 29 j ≤ 1499 := fun j => hT.2 29 j
  have A30 : ∀ j, 0 ≤ σ.2.1 30 j ∧ σ.2.1 30 j ≤ 20000 := fun j => hT.2 30 j
  have A31 : ∀ j, 0 ≤ σ.2.1 31 j ∧ σ.2.1 31 j ≤ 20000 := fun j => hT.2 31 j
  have A32 : ∀ j, 0 ≤ σ.2.1 32 j ∧ σ.2.1 32 j ≤ 999999 := fun j => hT.2 32 j
  have A33 : ∀ j, 0 ≤ σ.2.1 33 j ∧ σ.2.1 33 j ≤ 20000 := fun j => hT.2 33 j
  have A34 : ∀ j, 0 ≤ σ.2.1 34 j ∧ σ.2.1 34 j ≤ 20000 := fun j => hT.2 34 j
  have A35 : ∀ j, 0 ≤ σ.2.1 35 j ∧ σ.2.1 35 j ≤ 1499 := fun j => hT.2 35 j
  have A36 : ∀ j, 0 ≤ σ.2.1 36 j ∧ σ.2.1 36 j ≤ 20000 := fun j => hT.2 36 j
  have A37 : ∀ j, 0 ≤ σ.2.1 37 j ∧ σ.2.1 37 j ≤ 19999 := fun j => hT.2 37 j
  have A75 : ∀ j, 0 ≤ σ.2.1 75 j ∧ σ.2.1 75 j ≤ 1499 := fun j => hT.2 75 j
  have A76 : ∀ j, 0 ≤ σ.2.1 76 j ∧ σ.2.1 76 j ≤ 99 := fun j => hT.2 76 j
  have A81 : ∀ j, 0 ≤ σ.2.1 81 j ∧ σ.2.1 81 j ≤ 2 := fun j => hT.2 81 j
  have A82 : ∀ j, 0 ≤ σ.2.1 82 j ∧ σ.2.1 82 j ≤ 2 := fun j => hT.2 82 j
  have A83 : ∀ j, 0 ≤ σ.2.1 83 j ∧ σ.2.1 83 j ≤ 2 := fun j => hT.2 83 j
  have v4 : 0 ≤ σ.1 4 ∧ σ.1 4 ≤ 100 := hT.1 4
  have v6 : 0 ≤ σ.1 6 ∧ σ.1 6 ≤ 30000 := hT.1 6
  have v7 : 0 ≤ σ.1 7 ∧ σ.1 7 ≤ 1500 := hT.1 7
  have v13 : 0 ≤ σ.1 13 ∧ σ.1 13 ≤ 90000 := hT.1 13
  have v14 : 0 ≤ σ.1 14 ∧ σ.1 14 ≤ 20000 := hT.1 14
  have v15 : 0 ≤ σ.1 15 ∧ σ.1 15 ≤ 20000 := hT.1 15
  have v46 : 0 ≤ σ.1 46 ∧ σ.1 46 ≤ 1500 := hT.1 46
  have v48 : (-1) ≤ σ.1 48 ∧ σ.1 48 ≤ 999 := hT.1 48
  have v51 : 0 ≤ σ.1 51 ∧ σ.1 51 ≤ 1500 := hT.1 51
  have W4 : σ.1 4 = σ.1 4 := rfl
  have W6 : σ.1 6 = σ.1 6 := rfl
  have W7 : σ.1 7 = σ.1 7 := rfl
  have W13 : σ.1 13 = σ.1 13 := rfl
  have W14 : σ.1 14 = σ.1 14 := rfl
  have W15 : σ.1 15 = σ.1 15 := rfl
  have W46 : σ.1 46 = σ.1 46 := rfl
  have W48 : σ.1 48 = σ.1 48 := rfl
  have W51 : σ.1 51 = σ.1 51 := rfl
  have G10 : σ.2.1 10 = σ.2.1 10 := rfl
  have G13 : σ.2.1 13 = σ.2.1 13 := rfl
  have G14 : σ.2.1 14 = σ.2.1 14 := rfl
  have G15 : σ.2.1 15 = σ.2.1 15 := rfl
  have G16 : σ.2.1 16 = σ.2.1 16 := rfl
  have G27 : σ.2.1 27 = σ.2.1 27 := rfl
  have G28 : σ.2.1 28 = σ.2.1 28 := rfl
  have G29 : σ.2.1 29 = σ.2.1 29 := rfl
  have G30 : σ.2.1 30 = σ.2.1 30 := rfl
  have G31 : σ.2.1 31 = σ.2.1 31 := rfl
  have G32 : σ.2.1 32 = σ.2.1 32 := rfl
  have G33 : σ.2.1 33 = σ.2.1 33 := rfl
  have G34 : σ.2.1 34 = σ.2.1 34 := rfl
  have G35 : σ.2.1 35 = σ.2.1 35 := rfl
  have G36 : σ.2.1 36 = σ.2.1 36 := rfl
  have G37 : σ.2.1 37 = σ.2.1 37 := rfl
  have G75 : σ.2.1 75 = σ.2.1 75 := rfl
  have G76 : σ.2.1 76 = σ.2.1 76 := rfl
  have G81 : σ.2.1 81 = σ.2.1 81 := rfl
  intro P2 P33 P125 P157 h2 h33 h125 h157
  have ug := p2.1
  have lns := p2.2.2
  have ru := ug.2.1
  have un := ug.2.2.1
  have jts := fun f a b => (p1.1 f a b).1.1
  have rkt := fun f a b => (p1.1 f a b).1.2.1
  have s14 := A14
  have s15 := A15
  have s81 := A81
  have s82 := A82
  have CJ : J_all (σ.1 7) (σ.1 6) (σ.1 13) (σ.1 14) (σ.1 15) (σ.2.1 13) (σ.2.1 14) (σ.2.1 15) (σ.2.1 16) (σ.2.1 10) (σ.2.1 27) (σ.2.1 28) (σ.2.1 29) (σ.2.1 30) (σ.2.1 31) (σ.2.1 32) (σ.2.1 33) (σ.2.1 34) (σ.2.1 35) (σ.2.1 36) (σ.2.1 37) := p1
  have CJ_0 := CJ
  have l_125 : ∀ (m_125 : Nat) (u1_125 : Int) (u2_125 : Int) (τ_125 : S0), 101 - u2_125 < (m_125 : Int) → (c_T τ_125) → (τ_125.1 4 = σ.1 4) → (τ_125.1 6 = σ.1 6) → (τ_125.1 7 = σ.1 7) → (τ_125.1 13 = σ.1 13) → (τ_125.1 14 = σ.1 14) → (τ_125.1 15 = σ.1 15) → (τ_125.1 46 = σ.1 46) → (τ_125.1 48 = σ.1 48) → (τ_125.1 51 = σ.1 51) → (τ_125.2.1 10 = σ.2.1 10) → (τ_125.2.1 13 = σ.2.1 13) → (τ_125.2.1 14 = σ.2.1 14) → (τ_125.2.1 15 = σ.2.1 15) → (τ_125.2.1 16 = σ.2.1 16) → (τ_125.2.1 27 = σ.2.1 27) → (τ_125.2.1 28 = σ.2.1 28) → (τ_125.2.1 29 = σ.2.1 29) → (τ_125.2.1 30 = σ.2.1 30) → (τ_125.2.1 31 = σ.2.1 31) → (τ_125.2.1 32 = σ.2.1 32) → (τ_125.2.1 33 = σ.2.1 33) → (τ_125.2.1 34 = σ.2.1 34) → (τ_125.2.1 35 = σ.2.1 35) → (τ_125.2.1 36 = σ.2.1 36) → (τ_125.2.1 37 = σ.2.1 37) → (τ_125.2.1 75 = σ.2.1 75) → (τ_125.2.1 76 = σ.2.1 76) → (τ_125.2.1 81 = σ.2.1 81) → (0 ≤ u1_125 ∧ u1_125 ≤ 1) → (0 ≤ u2_125 ∧ u2_125 ≤ 100) → (g_rd (σ.1 4) (σ.1 51) (σ.1 46) (σ.2.1 75) (σ.2.1 76) (g_so (σ.1 48) (σ.2.1 14) (σ.2.1 15) (σ.2.1 10)) (σ.2.1 81) (σ.2.1 82) (τ_125.2.1 83)) → (∀ s : Int, 0 ≤ s → s < u2_125 → τ_125.2.1 82 s = τ_125.2.1 83 s) → (∀ s : Int, u2_125 ≤ s → τ_125.2.1 82 s = σ.2.1 82 s) → (u1_125 = 0 → ∀ s : Int, 0 ≤ s → s < u2_125 → τ_125.2.1 82 s = σ.2.1 82 s) → P125 u1_125 u2_125 τ_125 := by
    intro m_125
    induction m_125 with
    | zero =>
      intro u1_125 u2_125 τ_125 hm hT W4 W6 W7 W13 W14 W15 W46 W48 W51 G10 G13 G14 G15 G16 G27 G28 G29 G30 G31 G32 G33 G34 G35 G36 G37 G75 G76 G81 i125_1 i125_2 i125_3 i125_4 i125_5 i125_6
      have A10 : ∀ j, (-1) ≤ τ_125.2.1 10 j ∧ τ_125.2.1 10 j ≤ 99 := fun j => hT.2 10 j
      have A13 : ∀ j, 0 ≤ τ_125.2.1 13 j ∧ τ_125.2.1 13 j ≤ 4 := fun j => hT.2 13 j
      have A14 : ∀ j, 0 ≤ τ_125.2.1 14 j ∧ τ_125.2.1 14 j ≤ 30000 := fun j => hT.2 14 j
      have A15 : ∀ j, 0 ≤ τ_125.2.1 15 j ∧ τ_125.2.1 15 j ≤ 999 := fun j => hT.2 15 j
      have A16 : ∀ j, (-1) ≤ τ_125.2.1 16 j ∧ τ_125.2.1 16 j ≤ 1499 := fun j => hT.2 16 j
      have A27 : ∀ j, 0 ≤ τ_125.2.1 27 j ∧ τ_125.2.1 27 j ≤ 90000 := fun j => hT.2 27 j
      have A28 : ∀ j, 0 ≤ τ_125.2.1 28 j ∧ τ_125.2.1 28 j ≤ 60 := fun j => hT.2 28 j
      have A29 : ∀ j, 0 ≤ τ_125.2.1 29 j ∧ τ_125.2.1 29 j ≤ 1499 := fun j => hT.2 29 j
      have A30 : ∀ j, 0 ≤ τ_125.2.1 30 j ∧ τ_125.2.1 30 j ≤ 20000 := fun j => hT.2 30 j
      have A31 : ∀ j, 0 ≤ τ_125.2.1 31 j ∧ τ_125.2.1 31 j ≤ 20000 := fun j => hT.2 31 j
      have A32 : ∀ j, 0 ≤ τ_125.2.1 32 j ∧ τ_125.2.1 32 j ≤ 999999 := fun j => hT.2 32 j
      have A33 : ∀ j, 0 ≤ τ_125.2.1 33 j ∧ τ_125.2.1 33 j ≤ 20000 := fun j => hT.2 33 j
      have A34 : ∀ j, 0 ≤ τ_125.2.1 34 j ∧ τ_125.2.1 34 j ≤ 20000 := fun j => hT.2 34 j
      have A35 : ∀ j, 0 ≤ τ_125.2.1 35 j ∧ τ_125.2.1 35 j ≤ 1499 := fun j => hT.2 35 j
      have A36 : ∀ j, 0 ≤ τ_125.2.1 36 j ∧ τ_125.2.1 36 j ≤ 20000 := fun j => hT.2 36 j
      have A37 : ∀ j, 0 ≤ τ_125.2.1 37 j ∧ τ_125.2.1 37 j ≤ 19999 := fun j => hT.2 37 j
      have A75 : ∀ j, 0 ≤ τ_125.2.1 75 j ∧ τ_125.2.1 75 j ≤ 1499 := fun j => hT.2 75 j
      have A76 : ∀ j, 0 ≤ τ_125.2.1 76 j ∧ τ_125.2.1 76 j ≤ 99 := fun j => hT.2 76 j
      have A81 : ∀ j, 0 ≤ τ_125.2.1 81 j ∧ τ_125.2.1 81 j ≤ 2 := fun j => hT.2 81 j
      have A82 : ∀ j, 0 ≤ τ_125.2.1 82 j ∧ τ_125.2.1 82 j ≤ 2 := fun j => hT.2 82 j
      have A83 : ∀ j, 0 ≤ τ_125.2.1 83 j ∧ τ_125.2.1 83 j ≤ 2 := fun j => hT.2 83 j
      have v4 : 0 ≤ τ_125.1 4 ∧ τ_125.1 4 ≤ 100 := hT.1 4
      have v6 : 0 ≤ τ_125.1 6 ∧ τ_125.1 6 ≤ 30000 := hT.1 6
      have v7 : 0 ≤ τ_125.1 7 ∧ τ_125.1 7 ≤ 1500 := hT.1 7
      have v13 : 0 ≤ τ_125.1 13 ∧ τ_125.1 13 ≤ 90000 := hT.1 13
      have v14 : 0 ≤ τ_125.1 14 ∧ τ_125.1 14 ≤ 20000 := hT.1 14
      have v15 : 0 ≤ τ_125.1 15 ∧ τ_125.1 15 ≤ 20000 := hT.1 15
      have v46 : 0 ≤ τ_125.1 46 ∧ τ_125.1 46 ≤ 1500 := hT.1 46
      have v48 : (-1) ≤ τ_125.1 48 ∧ τ_125.1 48 ≤ 999 := hT.1 48
      have v51 : 0 ≤ τ_125.1 51 ∧ τ_125.1 51 ≤ 1500 := hT.1 51
      exfalso; (first | omega | (simp only [st_s] <;> omega) | assumption | omega | fail)
    | succ m_125 ih_125 =>
      intro u1_125 u2_125 τ_125 hm_125 hT W4 W6 W7 W13 W14 W15 W46 W48 W51 G10 G13 G14 G15 G16 G27 G28 G29 G30 G31 G32 G33 G34 G35 G36 G37 G75 G76 G81 i125_1 i125_2 i125_3 i125_4 i125_5 i125_6
      have A10 : ∀ j, (-1) ≤ τ_125.2.1 10 j ∧ τ_125.2.1 10 j ≤ 99 := fun j => hT.2 10 j
      have A13 : ∀ j, 0 ≤ τ_125.2.1 13 j ∧ τ_125.2.1 13 j ≤ 4 := fun j => hT.2 13 j
      have A14 : ∀ j, 0 ≤ τ_125.2.1 14 j ∧ τ_125.2.1 14 j ≤ 30000 := fun j => hT.2 14 j
      have A15 : ∀ j, 0 ≤ τ_125.2.1 15 j ∧ τ_125.2.1 15 j ≤ 999 := fun j => hT.2 15 j
      have A16 : ∀ j, (-1) ≤ τ_125.2.1 16 j ∧ τ_125.2.1 16 j ≤ 1499 := fun j => hT.2 16 j
      have A27 : ∀ j, 0 ≤ τ_125.2.1 27 j ∧ τ_125.2.1 27 j ≤ 90000 := fun j => hT.2 27 j
      have A28 : ∀ j, 0 ≤ τ_125.2.1 28 j ∧ τ_125.2.1 28 j ≤ 60 := fun j => hT.2 28 j
      have A29 : ∀ j, 0 ≤ τ_125.2.1 29 j ∧ τ_125.2.1 29 j ≤ 1499 := fun j => hT.2 29 j
      have A30 : ∀ j, 0 ≤ τ_125.2.1 30 j ∧ τ_125.2.1 30 j ≤ 20000 := fun j => hT.2 30 j
      have A31 : ∀ j, 0 ≤ τ_125.2.1 31 j ∧ τ_125.2.1 31 j ≤ 20000 := fun j => hT.2 31 j
      have A32 : ∀ j, 0 ≤ τ_125.2.1 32 j ∧ τ_125.2.1 32 j ≤ 999999 := fun j => hT.2 32 j
      have A33 : ∀ j, 0 ≤ τ_125.2.1 33 j ∧ τ_125.2.1 33 j ≤ 20000 := fun j => hT.2 33 j
      have A34 : ∀ j, 0 ≤ τ_125.2.1 34 j ∧ τ_125.2.1 34 j ≤ 20000 := fun j => hT.2 34 j
      have A35 : ∀ j, 0 ≤ τ_125.2.1 35 j ∧ τ_125.2.1 35 j ≤ 1499 := fun j => hT.2 35 j
      have A36 : ∀ j, 0 ≤ τ_125.2.1 36 j ∧ τ_125.2.1 36 j ≤ 20000 := fun j => hT.2 36 j
      have A37 : ∀ j, 0 ≤ τ_125.2.1 37 j ∧ τ_125.2.1 37 j ≤ 19999 := fun j => hT.2 37 j
      have A75 : ∀ j, 0 ≤ τ_125.2.1 75 j ∧ τ_125.2.1 75 j ≤ 1499 := fun j => hT.2 75 j
      have A76 : ∀ j, 0 ≤ τ_125.2.1 76 j ∧ τ_125.2.1 76 j ≤ 99 := fun j => hT.2 76 j
      have A81 : ∀ j, 0 ≤ τ_125.2.1 81 j ∧ τ_125.2.1 81 j ≤ 2 := fun j => hT.2 81 j
      have A82 : ∀ j, 0 ≤ τ_125.2.1 82 j ∧ τ_125.2.1 82 j ≤ 2 := fun j => hT.2 82 j
      have A83 : ∀ j, 0 ≤ τ_125.2.1 83 j ∧ τ_125.2.1 83 j ≤ 2 := fun j => hT.2 83 j
      have v4 : 0 ≤ τ_125.1 4 ∧ τ_125.1 4 ≤ 100 := hT.1 4
      have v6 : 0 ≤ τ_125.1 6 ∧ τ_125.1 6 ≤ 30000 := hT.1 6
      have v7 : 0 ≤ τ_125.1 7 ∧ τ_125.1 7 ≤ 1500 := hT.1 7
      have v13 : 0 ≤ τ_125.1 13 ∧ τ_125.1 13 ≤ 90000 := hT.1 13
      have v14 : 0 ≤ τ_125.1 14 ∧ τ_125.1 14 ≤ 20000 := hT.1 14
      have v15 : 0 ≤ τ_125.1 15 ∧ τ_125.1 15 ≤ 20000 := hT.1 15
      have v46 : 0 ≤ τ_125.1 46 ∧ τ_125.1 46 ≤ 1500 := hT.1 46
      have v48 : (-1) ≤ τ_125.1 48 ∧ τ_125.1 48 ≤ 999 := hT.1 48
      have v51 : 0 ≤ τ_125.1 51 ∧ τ_125.1 51 ≤ 1500 := hT.1 51
      have CJ : J_all (τ_125.1 7) (τ_125.1 6) (τ_125.1 13) (τ_125.1 14) (τ_125.1 15) (τ_125.2.1 13) (τ_125.2.1 14) (τ_125.2.1 15) (τ_125.2.1 16) (τ_125.2.1 10) (τ_125.2.1 27) (τ_125.2.1 28) (τ_125.2.1 29) (τ_125.2.1 30) (τ_125.2.1 31) (τ_125.2.1 32) (τ_125.2.1 33) (τ_125.2.1 34) (τ_125.2.1 35) (τ_125.2.1 36) (τ_125.2.1 37) := by rw [show (J_all (τ_125.1 7) (τ_125.1 6) (τ_125.1 13) (τ_125.1 14) (τ_125.1 15) (τ_125.2.1 13) (τ_125.2.1 14) (τ_125.2.1 15) (τ_125.2.1 16) (τ_125.2.1 10) (τ_125.2.1 27) (τ_125.2.1 28) (τ_125.2.1 29) (τ_125.2.1 30) (τ_125.2.1 31) (τ_125.2.1 32) (τ_125.2.1 33) (τ_125.2.1 34) (τ_125.2.1 35) (τ_125.2.1 36) (τ_125.2.1 37)) = (J_all (σ.1 7) (σ.1 6) (σ.1 13) (σ.1 14) (σ.1 15) (σ.2.1 13) (σ.2.1 14) (σ.2.1 15) (σ.2.1 16) (σ.2.1 10) (σ.2.1 27) (σ.2.1 28) (σ.2.1 29) (σ.2.1 30) (σ.2.1 31) (σ.2.1 32) (σ.2.1 33) (σ.2.1 34) (σ.2.1 35) (σ.2.1 36) (σ.2.1 37)) from by rw [W6, W7, W13, W14, W15, G10, G13, G14, G15, G16, G27, G28, G29, G30, G31, G32, G33, G34, G35, G36, G37]]; exact CJ_0
      refine h125 u1_125 u2_125 τ_125 ?_
      refine ⟨fun c24 => ?_, fun c24 => ?_⟩
      ·
        refine ⟨(show 0 ≤ u1_125 ∧ u1_125 ≤ 1 from by (first | omega | (simp only [st_s] <;> omega) | assumption | omega | fail)), ?_⟩
        exact ⟨hT, (show 0 ≤ u1_125 ∧ u1_125 ≤ 1 from by (first | omega | (simp only [st_s] <;> omega) | assumption | omega | fail)), (show g_rd (σ.1 4) (σ.1 51) (σ.1 46) (σ.2.1 75) (σ.2.1 76) (g_so (σ.1 48) (σ.2.1 14) (σ.2.1 15) (σ.2.1 10)) (σ.2.1 81) (σ.2.1 82) (τ_125.2.1 82) from by (intro s a b; rw [i125_4 s a (by omega)]; exact i125_3 s a b)), (show u1_125 = 0 → ∀ s : Int, 0 ≤ s → s < (σ.1 4) → τ_125.2.1 82 s = σ.2.1 82 s from by (intro z s a b; exact i125_6 z s a (by omega)))⟩
      ·
        refine ⟨(show 0 ≤ u2_125 ∧ u2_125 < 100 from by (first | omega | (simp only [st_s] <;> omega) | assumption | omega | fail)), ?_⟩
        intro x27 r_x27 e_x27
        have b_x27 : 0 ≤ x27 ∧ x27 ≤ 2 := by rw [e_x27]; exact hT.2 83 _
        intro x28 r_x28 e_x28
        have b_x28 : 0 ≤ x28 ∧ x28 ≤ 2 := by rw [e_x28]; exact hT.2 82 _
        refine ⟨fun c29 => ?_, fun c29 => ?_⟩
        ·
          refine h157 _ _ _ _ ?_
          intro x30 r_x30 h1_x30 h2_x30 h3_x30
          refine ⟨(show 0 ≤ u2_125 ∧ u2_125 < 100 from by (first | omega | (simp only [st_s] <;> omega) | assumption | omega | fail)), ?_⟩
          intro x32 r_x32 e_x32
          have b_x32 : 0 ≤ x32 ∧ x32 ≤ 2 := by rw [e_x32]; exact hT.2 83 _
          replace hT := cT_a (k := 82) (j := u2_125) hT (show (0 : Int) ≤ x32 ∧ x32 ≤ 2 from by (first | omega | (simp only [st_s] <;> omega) | assumption | omega | fail))
          refine ⟨(⟨by (first | omega | (simp only [st_s] <;> omega) | assumption | omega | fail), by (first | omega | (simp only [st_s] <;> omega) | assumption | omega | fail)⟩ : rg (u2_125 + 1)), ?_⟩
          exact ih_125 _ _ _ (show (101 - (u2_125 + 1) : Int) < ((m_125 : Nat) : Int) from by ((first | omega | (simp only [st_s] <;> omega) | assumption | omega | fail))) hT (show τ_125.1 4 = σ.1 4 from by first | exact W4 | omega) (show τ_125.1 6 = σ.1 6 from by first | exact W6 | omega) (show τ_125.1 7 = σ.1 7 from by first | exact W7 | omega) (show τ_125.1 13 = σ.1 13 from by first | exact W13 | omega) (show τ_125.1 14 = σ.1 14 from by first | exact W14 | omega) (show τ_125.1 15 = σ.1 15 from by first | exact W15 | omega) (show τ_125.1 46 = σ.1 46 from by first | exact W46 | omega) (show τ_125.1 48 = σ.1 48 from by first | exact W48 | omega) (show τ_125.1 51 = σ.1 51 from by first | exact W51 | omega) G10 G13 G14 G15 G16 G27 G28 G29 G30 G31 G32 G33 G34 G35 G36 G37 G75 G76 G81 (show 0 ≤ x30 ∧ x30 ≤ 1 from by (first | omega | (refine ⟨?_, ?_⟩ <;> omega) | fail)) (show 0 ≤ (u2_125 + 1) ∧ (u2_125 + 1) ≤ 100 from by (first | omega | (simp only [st_s] <;> omega) | assumption | omega | fail)) (show g_rd (σ.1 4) (σ.1 51) (σ.1 46) (σ.2.1 75) (σ.2.1 76) (g_so (σ.1 48) (σ.2.1 14) (σ.2.1 15) (σ.2.1 10)) (σ.2.1 81) (σ.2.1 82) (τ_125.2.1 83) from by (first | exact i125_3 | (intro s a b; rw [g_us_l (u := u1_33) (by omega) (by omega) (fun v a b => by first | (exfalso; omega) | (rcases (by omega : u1_33 = v ∨ u1_33 < v) with q | q; (rw [← q]; omega); (have y := un.2.1 u1_33 v (by omega) q b; omega)))]; exact i33_3 s a b) | fail)) (show ∀ s : Int, 0 ≤ s → s < (u2_125 + 1) → (st (τ_125.2.1 82) u2_125 x32) s = τ_125.2.1 83 s from by (first | (intro s a b; exfalso; omega) | (intro s a b; by_cases z : s = u2_125; (rw [z, st_s, e_x32]); (rw [st_n _ _ z]; exact i125_4 s a (by omega))) | fail)) (show ∀ s : Int, (u2_125 + 1) ≤ s → (st (τ_125.2.1 82) u2_125 x32) s = σ.2.1 82 s from by (first | (intro s a; rw [i33_2]) | (intro s a; rw [st_n _ _ (by omega)]; exact i125_5 s (by omega)) | fail)) (show x30 = 0 → ∀ s : Int, 0 ≤ s → s < (u2_125 + 1) → (st (τ_125.2.1 82) u2_125 x32) s = σ.2.1 82 s from by (first | (intro z s a b; exfalso; omega) | (intro z s a b; by_cases y : s = u2_125; (rw [y, st_s, e_x32]; first | (exfalso; omega) | (rw [← e_x27, ← i125_5 u2_125 (Int.le_refl _), ← e_x28]; omega)); (rw [st_n _ _ y]; exact i125_6 (by omega) s a (by omega))) | fail))
        ·
          refine h157 _ _ _ _ ?_
          intro x30 r_x30 h1_x30 h2_x30 h3_x30
          refine ⟨(show 0 ≤ u2_125 ∧ u2_125 < 100 from by (first | omega | (simp only [st_s] <;> omega) | assumption | omega | fail)), ?_⟩
          intro x32 r_x32 e_x32
          have b_x32 : 0 ≤ x32 ∧ x32 ≤ 2 := by rw [e_x32]; exact hT.2 83 _
          replace hT := cT_a (k := 82) (j := u2_125) hT (show (0 : Int) ≤ x32 ∧ x32 ≤ 2 from by (first | omega | (simp only [st_s] <;> omega) | assumption | omega | fail))
          refine ⟨(⟨by (first | omega | (simp only [st_s] <;> omega) | assumption | omega | fail), by (first | omega | (simp only [st_s] <;> omega) | assumption | omega | fail)⟩ : rg (u2_125 + 1)), ?_⟩
          exact ih_125 _ _ _ (show (101 - (u2_125 + 1) : Int) < ((m_125 : Nat) : Int) from by ((first | omega | (simp only [st_s] <;> omega) | assumption | omega | fail))) hT (show τ_125.1 4 = σ.1 4 from by first | exact W4 | omega) (show τ_125.1 6 = σ.1 6 from by first | exact W6 | omega) (show τ_125.1 7 = σ.1 7 from by first | exact W7 | omega) (show τ_125.1 13 = σ.1 13 from by first | exact W13 | omega) (show τ_125.1 14 = σ.1 14 from by first | exact W14 | omega) (show τ_125.1 15 = σ.1 15 from by first | exact W15 | omega) (show τ_125.1 46 = σ.1 46 from by first | exact W46 | omega) (show τ_125.1 48 = σ.1 48 from by first | exact W48 | omega) (show τ_125.1 51 = σ.1 51 from by first | exact W51 | omega) G10 G13 G14 G15 G16 G27 G28 G29 G30 G31 G32 G33 G34 G35 G36 G37 G75 G76 G81 (show 0 ≤ x30 ∧ x30 ≤ 1 from by (first | omega | (refine ⟨?_, ?_⟩ <;> omega) | fail)) (show 0 ≤ (u2_125 + 1) ∧ (u2_125 + 1) ≤ 100 from by (first | omega | (simp only [st_s] <;> omega) | assumption | omega | fail)) (show g_rd (σ.1 4) (σ.1 51) (σ.1 46) (σ.2.1 75) (σ.2.1 76) (g_so (σ.1 48) (σ.2.1 14) (σ.2.1 15) (σ.2.1 10)) (σ.2.1 81) (σ.2.1 82) (τ_125.2.1 83) from by (first | exact i125_3 | (intro s a b; rw [g_us_l (u := u1_33) (by omega) (by omega) (fun v a b => by first | (exfalso; omega) | (rcases (by omega : u1_33 = v ∨ u1_33 < v) with q | q; (rw [← q]; omega); (have y := un.2.1 u1_33 v (by omega) q b; omega)))]; exact i33_3 s a b) | fail)) (show ∀ s : Int, 0 ≤ s → s < (u2_125 + 1) → (st (τ_125.2.1 82) u2_125 x32) s = τ_125.2.1 83 s from by (first | (intro s a b; exfalso; omega) | (intro s a b; by_cases z : s = u2_125; (rw [z, st_s, e_x32]); (rw [st_n _ _ z]; exact i125_4 s a (by omega))) | fail)) (show ∀ s : Int, (u2_125 + 1) ≤ s → (st (τ_125.2.1 82) u2_125 x32) s = σ.2.1 82 s from by (first | (intro s a; rw [i33_2]) | (intro s a; rw [st_n _ _ (by omega)]; exact i125_5 s (by omega)) | fail)) (show x30 = 0 → ∀ s : Int, 0 ≤ s → s < (u2_125 + 1) → (st (τ_125.2.1 82) u2_125 x32) s = σ.2.1 82 s from by (first | (intro z s a b; exfalso; omega) | (intro z s a b; by_cases y : s = u2_125; (rw [y, st_s, e_x32]; first | (exfalso; omega) | (rw [← e_x27, ← i125_5 u2_125 (Int.le_refl _), ← e_x28]; omega)); (rw [st_n _ _ y]; exact i125_6 (by omega) s a (by omega))) | fail))
  have l_33 : ∀ (m_33 : Nat) (u1_33 : Int) (τ_33 : S0), 1501 - u1_33 < (m_33 : Int) → (c_T τ_33) → (τ_33.1 4 = σ.1 4) → (τ_33.1 6 = σ.1 6) → (τ_33.1 7 = σ.1 7) → (τ_33.1 13 = σ.1 13) → (τ_33.1 14 = σ.1 14) → (τ_33.1 15 = σ.1 15) → (τ_33.1 46 = σ.1 46) → (τ_33.1 48 = σ.1 48) → (τ_33.1 51 = σ.1 51) → (τ_33.2.1 10 = σ.2.1 10) → (τ_33.2.1 13 = σ.2.1 13) → (τ_33.2.1 14 = σ.2.1 14) → (τ_33.2.1 15 = σ.2.1 15) → (τ_33.2.1 16 = σ.2.1 16) → (τ_33.2.1 27 = σ.2.1 27) → (τ_33.2.1 28 = σ.2.1 28) → (τ_33.2.1 29 = σ.2.1 29) → (τ_33.2.1 30 = σ.2.1 30) → (τ_33.2.1 31 = σ.2.1 31) → (τ_33.2.1 32 = σ.2.1 32) → (τ_33.2.1 33 = σ.2.1 33) → (τ_33.2.1 34 = σ.2.1 34) → (τ_33.2.1 35 = σ.2.1 35) → (τ_33.2.1 36 = σ.2.1 36) → (τ_33.2.1 37 = σ.2.1 37) → (τ_33.2.1 75 = σ.2.1 75) → (τ_33.2.1 76 = σ.2.1 76) → (τ_33.2.1 81 = σ.2.1 81) → (0 ≤ u1_33 ∧ u1_33 ≤ (σ.1 46)) → (τ_33.2.1 82 = σ.2.1 82) → (∀ s : Int, 0 ≤ s → s < (σ.1 4) → g_m2 (τ_33.2.1 83 s) (σ.2.1 81 s + g_us (σ.1 51) u1_33 s (σ.2.1 75) (σ.2.1 76) (g_so (σ.1 48) (σ.2.1 14) (σ.2.1 15) (σ.2.1 10)) (σ.2.1 82))) → P33 u1_33 τ_33 := by
    intro m_33
    induction m_33 with
    | zero =>
      intro u1_33 τ_33 hm hT W4 W6 W7 W13 W14 W15 W46 W48 W51 G10 G13 G14 G15 G16 G27 G28 G29 G30 G31 G32 G33 G34 G35 G36 G37 G75 G76 G81 i33_1 i33_2 i33_3
      have A10 : ∀ j, (-1) ≤ τ_33.2.1 10 j ∧ τ_33.2.1 10 j ≤ 99 := fun j => hT.2 10 j
      have A13 : ∀ j, 0 ≤ τ_33.2.1 13 j ∧ τ_33.2.1 13 j ≤ 4 := fun j => hT.2 13 j
      have A14 : ∀ j, 0 ≤ τ_33.2.1 14 j ∧ τ_33.2.1 14 j ≤ 30000 := fun j => hT.2 14 j
      have A15 : ∀ j, 0 ≤ τ_33.2.1 15 j ∧ τ_33.2.1 15 j ≤ 999 := fun j => hT.2 15 j
      have A16 : ∀ j, (-1) ≤ τ_33.2.1 16 j ∧ τ_33.2.1 16 j ≤ 1499 := fun j => hT.2 16 j
      have A27 : ∀ j, 0 ≤ τ_33.2.1 27 j ∧ τ_33.2.1 27 j ≤ 90000 := fun j => hT.2 27 j
      have A28 : ∀ j, 0 ≤ τ_33.2.1 28 j ∧ τ_33.2.1 28 j ≤ 60 := fun j => hT.2 28 j
      have A29 : ∀ j, 0 ≤ τ_33.2.1 29 j ∧ τ_33.2.1 29 j ≤ 1499 := fun j => hT.2 29 j
      have A30 : ∀ j, 0 ≤ τ_33.2.1 30 j ∧ τ_33.2.1 30 j ≤ 20000 := fun j => hT.2 30 j
      have A31 : ∀ j, 0 ≤ τ_33.2.1 31 j ∧ τ_33.2.1 31 j ≤ 20000 := fun j => hT.2 31 j
      have A32 : ∀ j, 0 ≤ τ_33.2.1 32 j ∧ τ_33.2.1 32 j ≤ 999999 := fun j => hT.2 32 j
      have A33 : ∀ j, 0 ≤ τ_33.2.1 33 j ∧ τ_33.2.1 33 j ≤ 20000 := fun j => hT.2 33 j
      have A34 : ∀ j, 0 ≤ τ_33.2.1 34 j ∧ τ_33.2.1 34 j ≤ 20000 := fun j => hT.2 34 j
      have A35 : ∀ j, 0 ≤ τ_33.2.1 35 j ∧ τ_33.2.1 35 j ≤ 1499 := fun j => hT.2 35 j
      have A36 : ∀ j, 0 ≤ τ_33.2.1 36 j ∧ τ_33.2.1 36 j ≤ 20000 := fun j => hT.2 36 j
      have A37 : ∀ j, 0 ≤ τ_33.2.1 37 j ∧ τ_33.2.1 37 j ≤ 19999 := fun j => hT.2 37 j
      have A75 : ∀ j, 0 ≤ τ_33.2.1 75 j ∧ τ_33.2.1 75 j ≤ 1499 := fun j => hT.2 75 j
      have A76 : ∀ j, 0 ≤ τ_33.2.1 76 j ∧ τ_33.2.1 76 j ≤ 99 := fun j => hT.2 76 j
      have A81 : ∀ j, 0 ≤ τ_33.2.1 81 j ∧ τ_33.2.1 81 j ≤ 2 := fun j => hT.2 81 j
      have A82 : ∀ j, 0 ≤ τ_33.2.1 82 j ∧ τ_33.2.1 82 j ≤ 2 := fun j => hT.2 82 j
      have A83 : ∀ j, 0 ≤ τ_33.2.1 83 j ∧ τ_33.2.1 83 j ≤ 2 := fun j => hT.2 83 j
      have v4 : 0 ≤ τ_33.1 4 ∧ τ_33.1 4 ≤ 100 := hT.1 4
      have v6 : 0 ≤ τ_33.1 6 ∧ τ_33.1 6 ≤ 30000 := hT.1 6
      have v7 : 0 ≤ τ_33.1 7 ∧ τ_33.1 7 ≤ 1500 := hT.1 7
      have v13 : 0 ≤ τ_33.1 13 ∧ τ_33.1 13 ≤ 90000 := hT.1 13
      have v14 : 0 ≤ τ_33.1 14 ∧ τ_33.1 14 ≤ 20000 := hT.1 14
      have v15 : 0 ≤ τ_33.1 15 ∧ τ_33.1 15 ≤ 20000 := hT.1 15
      have v46 : 0 ≤ τ_33.1 46 ∧ τ_33.1 46 ≤ 1500 := hT.1 46
      have v48 : (-1) ≤ τ_33.1 48 ∧ τ_33.1 48 ≤ 999 := hT.1 48
      have v51 : 0 ≤ τ_33.1 51 ∧ τ_33.1 51 ≤ 1500 := hT.1 51
      exfalso; (first | omega | (simp only [st_s] <;> omega) | assumption | omega | fail)
    | succ m_33 ih_33 =>
      intro u1_33 τ_33 hm_33 hT W4 W6 W7 W13 W14 W15 W46 W48 W51 G10 G13 G14 G15 G16 G27 G28 G29 G30 G31 G32 G33 G34 G35 G36 G37 G75 G76 G81 i33_1 i33_2 i33_3
      have A10 : ∀ j, (-1) ≤ τ_33.2.1 10 j ∧ τ_33.2.1 10 j ≤ 99 := fun j => hT.2 10 j
      have A13 : ∀ j, 0 ≤ τ_33.2.1 13 j ∧ τ_33.2.1 13 j ≤ 4 := fun j => hT.2 13 j
      have A14 : ∀ j, 0 ≤ τ_33.2.1 14 j ∧ τ_33.2.1 14 j ≤ 30000 := fun j => hT.2 14 j
      have A15 : ∀ j, 0 ≤ τ_33.2.1 15 j ∧ τ_33.2.1 15 j ≤ 999 := fun j => hT.2 15 j
      have A16 : ∀ j, (-1) ≤ τ_33.2.1 16 j ∧ τ_33.2.1 16 j ≤ 1499 := fun j => hT.2 16 j
      have A27 : ∀ j, 0 ≤ τ_33.2.1 27 j ∧ τ_33.2.1 27 j ≤ 90000 := fun j => hT.2 27 j
      have A28 : ∀ j, 0 ≤ τ_33.2.1 28 j ∧ τ_33.2.1 28 j ≤ 60 := fun j => hT.2 28 j
      have A29 : ∀ j, 0 ≤ τ_33.2.1 29 j ∧ τ_33.2.1 29 j ≤ 1499 := fun j => hT.2 29 j
      have A30 : ∀ j, 0 ≤ τ_33.2.1 30 j ∧ τ_33.2.1 30 j ≤ 20000 := fun j => hT.2 30 j
      have A31 : ∀ j, 0 ≤ τ_33.2.1 31 j ∧ τ_33.2.1 31 j ≤ 20000 := fun j => hT.2 31 j
      have A32 : ∀ j, 0 ≤ τ_33.2.1 32 j ∧ τ_33.2.1 32 j ≤ 999999 := fun j => hT.2 32 j
      have A33 : ∀ j, 0 ≤ τ_33.2.1 33 j ∧ τ_33.2.1 33 j ≤ 20000 := fun j => hT.2 33 j
      have A34 : ∀ j, 0 ≤ τ_33.2.1 34 j ∧ τ_33.2.1 34 j ≤ 20000 := fun j => hT.2 34 j
      have A35 : ∀ j, 0 ≤ τ_33.2.1 35 j ∧ τ_33.2.1 35 j ≤ 1499 := fun j => hT.2 35 j
      have A36 : ∀ j, 0 ≤ τ_33.2.1 36 j ∧ τ_33.2.1 36 j ≤ 20000 := fun j => hT.2 36 j
      have A37 : ∀ j, 0 ≤ τ_33.2.1 37 j ∧ τ_33.2.1 37 j ≤ 19999 := fun j => hT.2 37 j
      have A75 : ∀ j, 0 ≤ τ_33.2.1 75 j ∧ τ_33.2.1 75 j ≤ 1499 := fun j => hT.2 75 j
      have A76 : ∀ j, 0 ≤ τ_33.2.1 76 j ∧ τ_33.2.1 76 j ≤ 99 := fun j => hT.2 76 j
      have A81 : ∀ j, 0 ≤ τ_33.2.1 81 j ∧ τ_33.2.1 81 j ≤ 2 := fun j => hT.2 81 j
      have A82 : ∀ j, 0 ≤ τ_33.2.1 82 j ∧ τ_33.2.1 82 j ≤ 2 := fun j => hT.2 82 j
      have A83 : ∀ j, 0 ≤ τ_33.2.1 83 j ∧ τ_33.2.1 83 j ≤ 2 := fun j => hT.2 83 j
      have v4 : 0 ≤ τ_33.1 4 ∧ τ_33.1 4 ≤ 100 := hT.1 4
      have v6 : 0 ≤ τ_33.1 6 ∧ τ_33.1 6 ≤ 30000 := hT.1 6
      have v7 : 0 ≤ τ_33.1 7 ∧ τ_33.1 7 ≤ 1500 := hT.1 7
      have v13 : 0 ≤ τ_33.1 13 ∧ τ_33.1 13 ≤ 90000 := hT.1 13
      have v14 : 0 ≤ τ_33.1 14 ∧ τ_33.1 14 ≤ 20000 := hT.1 14
      have v15 : 0 ≤ τ_33.1 15 ∧ τ_33.1 15 ≤ 20000 := hT.1 15
      have v46 : 0 ≤ τ_33.1 46 ∧ τ_33.1 46 ≤ 1500 := hT.1 46
      have v48 : (-1) ≤ τ_33.1 48 ∧ τ_33.1 48 ≤ 999 := hT.1 48
      have v51 : 0 ≤ τ_33.1 51 ∧ τ_33.1 51 ≤ 1500 := hT.1 51
      have CJ : J_all (τ_33.1 7) (τ_33.1 6) (τ_33.1 13) (τ_33.1 14) (τ_33.1 15) (τ_33.2.1 13) (τ_33.2.1 14) (τ_33.2.1 15) (τ_33.2.1 16) (τ_33.2.1 10) (τ_33.2.1 27) (τ_33.2.1 28) (τ_33.2.1 29) (τ_33.2.1 30) (τ_33.2.1 31) (τ_33.2.1 32) (τ_33.2.1 33) (τ_33.2.1 34) (τ_33.2.1 35) (τ_33.2.1 36) (τ_33.2.1 37) := by rw [show (J_all (τ_33.1 7) (τ_33.1 6) (τ_33.1 13) (τ_33.1 14) (τ_33.1 15) (τ_33.2.1 13) (τ_33.2.1 14) (τ_33.2.1 15) (τ_33.2.1 16) (τ_33.2.1 10) (τ_33.2.1 27) (τ_33.2.1 28) (τ_33.2.1 29) (τ_33.2.1 30) (τ_33.2.1 31) (τ_33.2.1 32) (τ_33.2.1 33) (τ_33.2.1 34) (τ_33.2.1 35) (τ_33.2.1 36) (τ_33.2.1 37)) = (J_all (σ.1 7) (σ.1 6) (σ.1 13) (σ.1 14) (σ.1 15) (σ.2.1 13) (σ.2.1 14) (σ.2.1 15) (σ.2.1 16) (σ.2.1 10) (σ.2.1 27) (σ.2.1 28) (σ.2.1 29) (σ.2.1 30) (σ.2.1 31) (σ.2.1 32) (σ.2.1 33) (σ.2.1 34) (σ.2.1 35) (σ.2.1 36) (σ.2.1 37)) from by rw [W6, W7, W13, W14, W15, G10, G13, G14, G15, G16, G27, G28, G29, G30, G31, G32, G33, G34, G35, G36, G37]]; exact CJ_0
      refine h33 u1_33 τ_33 ?_
      refine ⟨fun c5 => ?_, fun c5 => ?_⟩
      ·
        exact l_125 ((101 - 0 : Int).toNat + 1) _ _ _ (show (101 - 0 : Int) < (((101 - 0 : Int).toNat + 1 : Nat) : Int) from by ((first | omega | (simp only [st_s] <;> omega) | assumption | omega | fail))) hT (show τ_33.1 4 = σ.1 4 from by first | exact W4 | omega) (show τ_33.1 6 = σ.1 6 from by first | exact W6 | omega) (show τ_33.1 7 = σ.1 7 from by first | exact W7 | omega) (show τ_33.1 13 = σ.1 13 from by first | exact W13 | omega) (show τ_33.1 14 = σ.1 14 from by first | exact W14 | omega) (show τ_33.1 15 = σ.1 15 from by first | exact W15 | omega) (show τ_33.1 46 = σ.1 46 from by first | exact W46 | omega) (show τ_33.1 48 = σ.1 48 from by first | exact W48 | omega) (show τ_33.1 51 = σ.1 51 from by first | exact W51 | omega) G10 G13 G14 G15 G16 G27 G28 G29 G30 G31 G32 G33 G34 G35 G36 G37 G75 G76 G81 (show 0 ≤ 0 ∧ 0 ≤ 1 from by (first | omega | (refine ⟨?_, ?_⟩ <;> omega) | fail)) (show 0 ≤ 0 ∧ 0 ≤ 100 from by (first | omega | (simp only [st_s] <;> omega) | assumption | omega | fail)) (show g_rd (σ.1 4) (σ.1 51) (σ.1 46) (σ.2.1 75) (σ.2.1 76) (g_so (σ.1 48) (σ.2.1 14) (σ.2.1 15) (σ.2.1 10)) (σ.2.1 81) (σ.2.1 82) (τ_33.2.1 83) from by (first | exact i125_3 | (intro s a b; rw [g_us_l (u := u1_33) (by omega) (by omega) (fun v a b => by first | (exfalso; omega) | (rcases (by omega : u1_33 = v ∨ u1_33 < v) with q | q; (rw [← q]; omega); (have y := un.2.1 u1_33 v (by omega) q b; omega)))]; exact i33_3 s a b) | fail)) (show ∀ s : Int, 0 ≤ s → s < 0 → τ_33.2.1 82 s = τ_33.2.1 83 s from by (first | (intro s a b; exfalso; omega) | (intro s a b; by_cases z : s = u2_125; (rw [z, st_s, e_x32]); (rw [st_n _ _ z]; exact i125_4 s a (by omega))) | fail)) (show ∀ s : Int, 0 ≤ s → τ_33.2.1 82 s = σ.2.1 82 s from by (first | (intro s a; rw [i33_2]) | (intro s a; rw [st_n _ _ (by omega)]; exact i125_5 s (by omega)) | fail)) (show 0 = 0 → ∀ s : Int, 0 ≤ s → s < 0 → τ_33.2.1 82 s = σ.2.1 82 s from by (first | (intro z s a b; exfalso; omega) | (intro z s a b; by_cases y : s = u2_125; (rw [y, st_s, e_x32]; first | (exfalso; omega) | (rw [← e_x27, ← i125_5 u2_125 (Int.le_refl _), ← e_x28]; omega)); (rw [st_n _ _ y]; exact i125_6 (by omega) s a (by omega))) | fail))
      ·
        refine ⟨(show 0 ≤ u1_33 ∧ u1_33 < 1500 from by (first | omega | (simp only [st_s] <;> omega) | assumption | omega | fail)), ?_⟩
        intro x7 r_x7 e_x7
        have b_x7 : 0 ≤ x7 ∧ x7 ≤ 1499 := by rw [e_x7]; exact hT.2 75 _
        refine ⟨fun c8 => ?_, fun c8 => ?_⟩
        ·
          have e77 : x7 = σ.2.1 75 u1_33 := by rw [e_x7, G75]
          exact l_125 ((101 - 0 : Int).toNat + 1) _ _ _ (show (101 - 0 : Int) < (((101 - 0 : Int).toNat + 1 : Nat) : Int) from by ((first | omega | (simp only [st_s] <;> omega) | assumption | omega | fail))) hT (show τ_33.1 4 = σ.1 4 from by first | exact W4 | omega) (show τ_33.1 6 = σ.1 6 from by first | exact W6 | omega) (show τ_33.1 7 = σ.1 7 from by first | exact W7 | omega) (show τ_33.1 13 = σ.1 13 from by first | exact W13 | omega) (show τ_33.1 14 = σ.1 14 from by first | exact W14 | omega) (show τ_33.1 15 = σ.1 15 from by first | exact W15 | omega) (show τ_33.1 46 = σ.1 46 from by first | exact W46 | omega) (show τ_33.1 48 = σ.1 48 from by first | exact W48 | omega) (show τ_33.1 51 = σ.1 51 from by first | exact W51 | omega) G10 G13 G14 G15 G16 G27 G28 G29 G30 G31 G32 G33 G34 G35 G36 G37 G75 G76 G81 (show 0 ≤ 0 ∧ 0 ≤ 1 from by (first | omega | (refine ⟨?_, ?_⟩ <;> omega) | fail)) (show 0 ≤ 0 ∧ 0 ≤ 100 from by (first | omega | (simp only [st_s] <;> omega) | assumption | omega | fail)) (show g_rd (σ.1 4) (σ.1 51) (σ.1 46) (σ.2.1 75) (σ.2.1 76) (g_so (σ.1 48) (σ.2.1 14) (σ.2.1 15) (σ.2.1 10)) (σ.2.1 81) (σ.2.1 82) (τ_33.2.1 83) from by (first | exact i125_3 | (intro s a b; rw [g_us_l (u := u1_33) (by omega) (by omega) (fun v a b => by first | (exfalso; omega) | (rcases (by omega : u1_33 = v ∨ u1_33 < v) with q | q; (rw [← q]; omega); (have y := un.2.1 u1_33 v (by omega) q b; omega)))]; exact i33_3 s a b) | fail)) (show ∀ s : Int, 0 ≤ s → s < 0 → τ_33.2.1 82 s = τ_33.2.1 83 s from by (first | (intro s a b; exfalso; omega) | (intro s a b; by_cases z : s = u2_125; (rw [z, st_s, e_x32]); (rw [st_n _ _ z]; exact i125_4 s a (by omega))) | fail)) (show ∀ s : Int, 0 ≤ s → τ_33.2.1 82 s = σ.2.1 82 s from by (first | (intro s a; rw [i33_2]) | (intro s a; rw [st_n _ _ (by omega)]; exact i125_5 s (by omega)) | fail)) (show 0 = 0 → ∀ s : Int, 0 ≤ s → s < 0 → τ_33.2.1 82 s = σ.2.1 82 s from by (first | (intro z s a b; exfalso; omega) | (intro z s a b; by_cases y : s = u2_125; (rw [y, st_s, e_x32]; first | (exfalso; omega) | (rw [← e_x27, ← i125_5 u2_125 (Int.le_refl _), ← e_x28]; omega)); (rw [st_n _ _ y]; exact i125_6 (by omega) s a (by omega))) | fail))
        ·
          have e77 : x7 = σ.2.1 75 u1_33 := by rw [e_x7, G75]
          intro x9 r_x9 e_x9
          have b_x9 : 0 ≤ x9 ∧ x9 ≤ 1499 := by rw [e_x9]; exact hT.2 75 _
          have uu := un.1 u1_33 (by omega) (by omega)
          have e79 : x9 = σ.2.1 75 u1_33 := by rw [e_x9, G75]
          rw [← e79] at uu
          have ru2 := ru.2.1 x9 uu.1
          have l1 := ru2.1
          have jt1 := jts x9 (by omega) (by omega)
          have t14 := s14 (x9 + 1)
          refine ⟨_, K_X3_typeOf hT (show 0 ≤ x9 from by (first | omega | (simp only [st_s] <;> omega) | assumption | omega | fail)) (show x9 ≤ 1500 from by (first | omega | (simp only [st_s] <;> omega) | assumption | omega | fail)) (show τ_33.2.1 14 x9 < 30000 from by (rw [G14]; omega)), ?_⟩
          intro x11 r_x11 hq
          obtain ⟨q10_1, q10_2⟩ := hq
          replace q10_1 : x11 = τ_33.2.1 15 (τ_33.2.1 14 x9) := q10_1
          replace q10_2 : 0 ≤ x11 ∧ x11 ≤ 999 := q10_2
          refine ⟨_, K2_X8_sortRank hT (show 0 ≤ x11 from by (first | omega | (simp only [st_s] <;> omega) | assumption | omega | fail)) (show x11 < 1000 from by (first | omega | (simp only [st_s] <;> omega) | assumption | omega | fail)), ?_⟩
          intro x14 r_x14 hq
          obtain ⟨q13_1, q13_2, q13_3⟩ := hq
          replace q13_1 : -1 ≤ x14 ∧ x14 ≤ 99 := q13_1
          replace q13_2 : ¬ x11 = (τ_33.1 48) → x14 = τ_33.2.1 10 x11 := q13_2
          replace q13_3 : x11 = (τ_33.1 48) → x14 = -1 := q13_3
          have tp : x11 = σ.2.1 15 (σ.2.1 14 x9) := by rw [q10_1, G15, G14]
          have pn := g_p1_x (ug.2.2.2.1 x9 uu.1).1 p2.2.1 (s15 _).1 (by omega)
          have rk2 := rkt x9 (by omega) (by omega)
          rw [← tp] at pn rk2
          have x14e := q13_2 (by omega)
          rw [G10] at x14e
          have x14s : x14 = g_so (σ.1 48) (σ.2.1 14) (σ.2.1 15) (σ.2.1 10) x9 := by (rw [g_so_n (by rw [← tp]; exact pn), x14e, tp])
          refine ⟨(show 0 ≤ x14 ∧ x14 < 100 from by (first | omega | (simp only [st_s] <;> omega) | assumption | omega | fail)), ?_⟩
          intro x17 r_x17 e_x17
          have b_x17 : 0 ≤ x17 ∧ x17 ≤ 2 := by rw [e_x17]; exact hT.2 83 _
          intro x18 r_x18 e_x18
          have b_x18 : 0 ≤ x18 ∧ x18 ≤ 99 := by rw [e_x18]; exact hT.2 76 _
          rw [G76] at e_x18
          refine ⟨(show 0 ≤ x18 ∧ x18 < 100 from by (first | omega | (simp only [st_s] <;> omega) | assumption | omega | fail)), ?_⟩
          intro x20 r_x20 e_x20
          have b_x20 : 0 ≤ x20 ∧ x20 ≤ 2 := by rw [e_x20]; exact hT.2 82 _
          have t20 := s82 x18
          rw [i33_2] at e_x20
          rw [← e_x20] at t20
          refine ⟨(⟨by (first | omega | (simp only [st_s] <;> omega) | assumption | omega | fail), by (first | omega | (simp only [st_s] <;> omega) | assumption | omega | fail)⟩ : rg (x17 + x20)), ?_⟩
          intro x22 r_x22 h1_x22 h2_x22 h3_x22
          replace hT := cT_a (k := 83) (j := x14) hT (show (0 : Int) ≤ x22 ∧ x22 ≤ 2 from by (first | omega | (simp only [st_s] <;> omega) | assumption | omega | fail))
          refine ⟨(⟨by (first | omega | (simp only [st_s] <;> omega) | assumption | omega | fail), by (first | omega | (simp only [st_s] <;> omega) | assumption | omega | fail)⟩ : rg (u1_33 + 1)), ?_⟩
          exact ih_33 _ _ (show (1501 - (u1_33 + 1) : Int) < ((m_33 : Nat) : Int) from by ((first | omega | (simp only [st_s] <;> omega) | assumption | omega | fail))) hT (show τ_33.1 4 = σ.1 4 from by first | exact W4 | omega) (show τ_33.1 6 = σ.1 6 from by first | exact W6 | omega) (show τ_33.1 7 = σ.1 7 from by first | exact W7 | omega) (show τ_33.1 13 = σ.1 13 from by first | exact W13 | omega) (show τ_33.1 14 = σ.1 14 from by first | exact W14 | omega) (show τ_33.1 15 = σ.1 15 from by first | exact W15 | omega) (show τ_33.1 46 = σ.1 46 from by first | exact W46 | omega) (show τ_33.1 48 = σ.1 48 from by first | exact W48 | omega) (show τ_33.1 51 = σ.1 51 from by first | exact W51 | omega) G10 G13 G14 G15 G16 G27 G28 G29 G30 G31 G32 G33 G34 G35 G36 G37 G75 G76 G81 (show 0 ≤ (u1_33 + 1) ∧ (u1_33 + 1) ≤ (σ.1 46) from by (first | omega | (simp only [st_s] <;> omega) | assumption | omega | fail)) (show τ_33.2.1 82 = σ.2.1 82 from by (first | exact i2_2 | exact i33_2 | fail)) (show ∀ s : Int, 0 ≤ s → s < (σ.1 4) → g_m2 ((st (τ_33.2.1 83) x14 x22) s) (σ.2.1 81 s + g_us (σ.1 51) (u1_33 + 1) s (σ.2.1 75) (σ.2.1 76) (g_so (σ.1 48) (σ.2.1 14) (σ.2.1 15) (σ.2.1 10)) (σ.2.1 82)) from by (first | (intro s a b; have w := i2_3 s a (by omega); have v := s81 s; show g_m2 _ (_ + 0); unfold g_m2; omega) | (intro s a b; have w := i33_3 s a b; rw [g_us_s (by omega)]; have q9 := g_ub_u (σ.1 51) s (σ.2.1 75) (σ.2.1 76) (g_so (σ.1 48) (σ.2.1 14) (σ.2.1 15) (σ.2.1 10)) (σ.2.1 82) u1_33; rcases q9 with ⟨x1, x2, x3⟩ | ⟨x1, x3⟩; (rw [x3, ← e_x18, ← e_x20, ← Int.add_assoc]; have es : x14 = s := (by rw [← x2, ← e79]; exact x14s); rw [es, st_s]; rw [es] at e_x17; rw [← e_x17] at w; exact g_m2_a w t20.1 h1_x22 h2_x22 h3_x22); (rw [x3, Int.add_zero, st_n _ _ (fun q => x1 ⟨by rw [← e79]; omega, by (rw [← e79, q]; exact x14s.symm)⟩)]; exact w)) | fail))
  have l_2 : ∀ (m_2 : Nat) (u1_2 : Int) (τ_2 : S0), 101 - u1_2 < (m_2 : Int) → (c_T τ_2) → (τ_2.1 4 = σ.1 4) → (τ_2.1 6 = σ.1 6) → (τ_2.1 7 = σ.1 7) → (τ_2.1 13 = σ.1 13) → (τ_2.1 14 = σ.1 14) → (τ_2.1 15 = σ.1 15) → (τ_2.1 46 = σ.1 46) → (τ_2.1 48 = σ.1 48) → (τ_2.1 51 = σ.1 51) → (τ_2.2.1 10 = σ.2.1 10) → (τ_2.2.1 13 = σ.2.1 13) → (τ_2.2.1 14 = σ.2.1 14) → (τ_2.2.1 15 = σ.2.1 15) → (τ_2.2.1 16 = σ.2.1 16) → (τ_2.2.1 27 = σ.2.1 27) → (τ_2.2.1 28 = σ.2.1 28) → (τ_2.2.1 29 = σ.2.1 29) → (τ_2.2.1 30 = σ.2.1 30) → (τ_2.2.1 31 = σ.2.1 31) → (τ_2.2.1 32 = σ.2.1 32) → (τ_2.2.1 33 = σ.2.1 33) → (τ_2.2.1 34 = σ.2.1 34) → (τ_2.2.1 35 = σ.2.1 35) → (τ_2.2.1 36 = σ.2.1 36) → (τ_2.2.1 37 = σ.2.1 37) → (τ_2.2.1 75 = σ.2.1 75) → (τ_2.2.1 76 = σ.2.1 76) → (τ_2.2.1 81 = σ.2.1 81) → (0 ≤ u1_2 ∧ u1_2 ≤ 100) → (τ_2.2.1 82 = σ.2.1 82) → (∀ s : Int, 0 ≤ s → s < u1_2 → τ_2.2.1 83 s = σ.2.1 81 s) → P2 u1_2 τ_2 := by
    intro m_2
    induction m_2 with
    | zero =>
      intro u1_2 τ_2 hm hT W4 W6 W7 W13 W14 W15 W46 W48 W51 G10 G13 G14 G15 G16 G27 G28 G29 G30 G31 G32 G33 G34 G35 G36 G37 G75 G76 G81 i2_1 i2_2 i2_3
      have A10 : ∀ j, (-1) ≤ τ_2.2.1 10 j ∧ τ_2.2.1 10 j ≤ 99 := fun j => hT.2 10 j
      have A13 : ∀ j, 0 ≤ τ_2.2.1 13 j ∧ τ_2.2.1 13 j ≤ 4 := fun j => hT.2 13 j
      have A14 : ∀ j, 0 ≤ τ_2.2.1 14 j ∧ τ_2.2.1 14 j ≤ 30000 := fun j => hT.2 14 j
      have A15 : ∀ j, 0 ≤ τ_2.2.1 15 j ∧ τ_2.2.1 15 j ≤ 999 := fun j => hT.2 15 j
      have A16 : ∀ j, (-1) ≤ τ_2.2.1 16 j ∧ τ_2.2.1 16 j ≤ 1499 := fun j => hT.2 16 j
      have A27 : ∀ j, 0 ≤ τ_2.2.1 27 j ∧ τ_2.2.1 27 j ≤ 90000 := fun j => hT.2 27 j
      have A28 : ∀ j, 0 ≤ τ_2.2.1 28 j ∧ τ_2.2.1 28 j ≤ 60 := fun j => hT.2 28 j
      have A29 : ∀ j, 0 ≤ τ_2.2.1 29 j ∧ τ_2.2.1 29 j ≤ 1499 := fun j => hT.2 29 j
      have A30 : ∀ j, 0 ≤ τ_2.2.1 30 j ∧ τ_2.2.1 30 j ≤ 20000 := fun j => hT.2 30 j
      have A31 : ∀ j, 0 ≤ τ_2.2.1 31 j ∧ τ_2.2.1 31 j ≤ 20000 := fun j => hT.2 31 j
      have A32 : ∀ j, 0 ≤ τ_2.2.1 32 j ∧ τ_2.2.1 32 j ≤ 999999 := fun j => hT.2 32 j
      have A33 : ∀ j, 0 ≤ τ_2.2.1 33 j ∧ τ_2.2.1 33 j ≤ 20000 := fun j => hT.2 33 j
      have A34 : ∀ j, 0 ≤ τ_2.2.1 34 j ∧ τ_2.2.1 34 j ≤ 20000 := fun j => hT.2 34 j
      have A35 : ∀ j, 0 ≤ τ_2.2.1 35 j ∧ τ_2.2.1 35 j ≤ 1499 := fun j => hT.2 35 j
      have A36 : ∀ j, 0 ≤ τ_2.2.1 36 j ∧ τ_2.2.1 36 j ≤ 20000 := fun j => hT.2 36 j
      have A37 : ∀ j, 0 ≤ τ_2.2.1 37 j ∧ τ_2.2.1 37 j ≤ 19999 := fun j => hT.2 37 j
      have A75 : ∀ j, 0 ≤ τ_2.2.1 75 j ∧ τ_2.2.1 75 j ≤ 1499 := fun j => hT.2 75 j
      have A76 : ∀ j, 0 ≤ τ_2.2.1 76 j ∧ τ_2.2.1 76 j ≤ 99 := fun j => hT.2 76 j
      have A81 : ∀ j, 0 ≤ τ_2.2.1 81 j ∧ τ_2.2.1 81 j ≤ 2 := fun j => hT.2 81 j
      have A82 : ∀ j, 0 ≤ τ_2.2.1 82 j ∧ τ_2.2.1 82 j ≤ 2 := fun j => hT.2 82 j
      have A83 : ∀ j, 0 ≤ τ_2.2.1 83 j ∧ τ_2.2.1 83 j ≤ 2 := fun j => hT.2 83 j
      have v4 : 0 ≤ τ_2.1 4 ∧ τ_2.1 4 ≤ 100 := hT.1 4
      have v6 : 0 ≤ τ_2.1 6 ∧ τ_2.1 6 ≤ 30000 := hT.1 6
      have v7 : 0 ≤ τ_2.1 7 ∧ τ_2.1 7 ≤ 1500 := hT.1 7
      have v13 : 0 ≤ τ_2.1 13 ∧ τ_2.1 13 ≤ 90000 := hT.1 13
      have v14 : 0 ≤ τ_2.1 14 ∧ τ_2.1 14 ≤ 20000 := hT.1 14
      have v15 : 0 ≤ τ_2.1 15 ∧ τ_2.1 15 ≤ 20000 := hT.1 15
      have v46 : 0 ≤ τ_2.1 46 ∧ τ_2.1 46 ≤ 1500 := hT.1 46
      have v48 : (-1) ≤ τ_2.1 48 ∧ τ_2.1 48 ≤ 999 := hT.1 48
      have v51 : 0 ≤ τ_2.1 51 ∧ τ_2.1 51 ≤ 1500 := hT.1 51
      exfalso; (first | omega | (simp only [st_s] <;> omega) | assumption | omega | fail)
    | succ m_2 ih_2 =>
      intro u1_2 τ_2 hm_2 hT W4 W6 W7 W13 W14 W15 W46 W48 W51 G10 G13 G14 G15 G16 G27 G28 G29 G30 G31 G32 G33 G34 G35 G36 G37 G75 G76 G81 i2_1 i2_2 i2_3
      have A10 : ∀ j, (-1) ≤ τ_2.2.1 10 j ∧ τ_2.2.1 10 j ≤ 99 := fun j => hT.2 10 j
      have A13 : ∀ j, 0 ≤ τ_2.2.1 13 j ∧ τ_2.2.1 13 j ≤ 4 := fun j => hT.2 13 j
      have A14 : ∀ j, 0 ≤ τ_2.2.1 14 j ∧ τ_2.2.1 14 j ≤ 30000 := fun j => hT.2 14 j
      have A15 : ∀ j, 0 ≤ τ_2.2.1 15 j ∧ τ_2.2.1 15 j ≤ 999 := fun j => hT.2 15 j
      have A16 : ∀ j, (-1) ≤ τ_2.2.1 16 j ∧ τ_2.2.1 16 j ≤ 1499 := fun j => hT.2 16 j
      have A27 : ∀ j, 0 ≤ τ_2.2.1 27 j ∧ τ_2.2.1 27 j ≤ 90000 := fun j => hT.2 27 j
      have A28 : ∀ j, 0 ≤ τ_2.2.1 28 j ∧ τ_2.2.1 28 j ≤ 60 := fun j => hT.2 28 j
      have A29 : ∀ j, 0 ≤ τ_2.2.1 29 j ∧ τ_2.2.1 29 j ≤ 1499 := fun j => hT.2 29 j
      have A30 : ∀ j, 0 ≤ τ_2.2.1 30 j ∧ τ_2.2.1 30 j ≤ 20000 := fun j => hT.2 30 j
      have A31 : ∀ j, 0 ≤ τ_2.2.1 31 j ∧ τ_2.2.1 31 j ≤ 20000 := fun j => hT.2 31 j
      have A32 : ∀ j, 0 ≤ τ_2.2.1 32 j ∧ τ_2.2.1 32 j ≤ 999999 := fun j => hT.2 32 j
      have A33 : ∀ j, 0 ≤ τ_2.2.1 33 j ∧ τ_2.2.1 33 j ≤ 20000 := fun j => hT.2 33 j
      have A34 : ∀ j, 0 ≤ τ_2.2.1 34 j ∧ τ_2.2.1 34 j ≤ 20000 := fun j => hT.2 34 j
      have A35 : ∀ j, 0 ≤ τ_2.2.1 35 j ∧ τ_2.2.1 35 j ≤ 1499 := fun j => hT.2 35 j
      have A36 : ∀ j, 0 ≤ τ_2.2.1 36 j ∧ τ_2.2.1 36 j ≤ 20000 := fun j => hT.2 36 j
      have A37 : ∀ j, 0 ≤ τ_2.2.1 37 j ∧ τ_2.2.1 37 j ≤ 19999 := fun j => hT.2 37 j
      have A75 : ∀ j, 0 ≤ τ_2.2.1 75 j ∧ τ_2.2.1 75 j ≤ 1499 := fun j => hT.2 75 j
      have A76 : ∀ j, 0 ≤ τ_2.2.1 76 j ∧ τ_2.2.1 76 j ≤ 99 := fun j => hT.2 76 j
      have A81 : ∀ j, 0 ≤ τ_2.2.1 81 j ∧ τ_2.2.1 81 j ≤ 2 := fun j => hT.2 81 j
      have A82 : ∀ j, 0 ≤ τ_2.2.1 82 j ∧ τ_2.2.1 82 j ≤ 2 := fun j => hT.2 82 j
      have A83 : ∀ j, 0 ≤ τ_2.2.1 83 j ∧ τ_2.2.1 83 j ≤ 2 := fun j => hT.2 83 j
      have v4 : 0 ≤ τ_2.1 4 ∧ τ_2.1 4 ≤ 100 := hT.1 4
      have v6 : 0 ≤ τ_2.1 6 ∧ τ_2.1 6 ≤ 30000 := hT.1 6
      have v7 : 0 ≤ τ_2.1 7 ∧ τ_2.1 7 ≤ 1500 := hT.1 7
      have v13 : 0 ≤ τ_2.1 13 ∧ τ_2.1 13 ≤ 90000 := hT.1 13
      have v14 : 0 ≤ τ_2.1 14 ∧ τ_2.1 14 ≤ 20000 := hT.1 14
      have v15 : 0 ≤ τ_2.1 15 ∧ τ_2.1 15 ≤ 20000 := hT.1 15
      have v46 : 0 ≤ τ_2.1 46 ∧ τ_2.1 46 ≤ 1500 := hT.1 46
      have v48 : (-1) ≤ τ_2.1 48 ∧ τ_2.1 48 ≤ 999 := hT.1 48
      have v51 : 0 ≤ τ_2.1 51 ∧ τ_2.1 51 ≤ 1500 := hT.1 51
      have CJ : J_all (τ_2.1 7) (τ_2.1 6) (τ_2.1 13) (τ_2.1 14) (τ_2.1 15) (τ_2.2.1 13) (τ_2.2.1 14) (τ_2.2.1 15) (τ_2.2.1 16) (τ_2.2.1 10) (τ_2.2.1 27) (τ_2.2.1 28) (τ_2.2.1 29) (τ_2.2.1 30) (τ_2.2.1 31) (τ_2.2.1 32) (τ_2.2.1 33) (τ_2.2.1 34) (τ_2.2.1 35) (τ_2.2.1 36) (τ_2.2.1 37) := by rw [show (J_all (τ_2.1 7) (τ_2.1 6) (τ_2.1 13) (τ_2.1 14) (τ_2.1 15) (τ_2.2.1 13) (τ_2.2.1 14) (τ_2.2.1 15) (τ_2.2.1 16) (τ_2.2.1 10) (τ_2.2.1 27) (τ_2.2.1 28) (τ_2.2.1 29) (τ_2.2.1 30) (τ_2.2.1 31) (τ_2.2.1 32) (τ_2.2.1 33) (τ_2.2.1 34) (τ_2.2.1 35) (τ_2.2.1 36) (τ_2.2.1 37)) = (J_all (σ.1 7) (σ.1 6) (σ.1 13) (σ.1 14) (σ.1 15) (σ.2.1 13) (σ.2.1 14) (σ.2.1 15) (σ.2.1 16) (σ.2.1 10) (σ.2.1 27) (σ.2.1 28) (σ.2.1 29) (σ.2.1 30) (σ.2.1 31) (σ.2.1 32) (σ.2.1 33) (σ.2.1 34) (σ.2.1 35) (σ.2.1 36) (σ.2.1 37)) from by rw [W6, W7, W13, W14, W15, G10, G13, G14, G15, G16, G27, G28, G29, G30, G31, G32, G33, G34, G35, G36, G37]]; exact CJ_0
      refine h2 u1_2 τ_2 ?_
      refine ⟨fun c1 => ?_, fun c1 => ?_⟩
      ·
        exact l_33 ((1501 - 0 : Int).toNat + 1) _ _ (show (1501 - 0 : Int) < (((1501 - 0 : Int).toNat + 1 : Nat) : Int) from by ((first | omega | (simp only [st_s] <;> omega) | assumption | omega | fail))) hT (show τ_2.1 4 = σ.1 4 from by first | exact W4 | omega) (show τ_2.1 6 = σ.1 6 from by first | exact W6 | omega) (show τ_2.1 7 = σ.1 7 from by first | exact W7 | omega) (show τ_2.1 13 = σ.1 13 from by first | exact W13 | omega) (show τ_2.1 14 = σ.1 14 from by first | exact W14 | omega) (show τ_2.1 15 = σ.1 15 from by first | exact W15 | omega) (show τ_2.1 46 = σ.1 46 from by first | exact W46 | omega) (show τ_2.1 48 = σ.1 48 from by first | exact W48 | omega) (show τ_2.1 51 = σ.1 51 from by first | exact W51 | omega) G10 G13 G14 G15 G16 G27 G28 G29 G30 G31 G32 G33 G34 G35 G36 G37 G75 G76 G81 (show 0 ≤ 0 ∧ 0 ≤ (σ.1 46) from by (first | omega | (simp only [st_s] <;> omega) | assumption | omega | fail)) (show τ_2.2.1 82 = σ.2.1 82 from by (first | exact i2_2 | exact i33_2 | fail)) (show ∀ s : Int, 0 ≤ s → s < (σ.1 4) → g_m2 (τ_2.2.1 83 s) (σ.2.1 81 s + g_us (σ.1 51) 0 s (σ.2.1 75) (σ.2.1 76) (g_so (σ.1 48) (σ.2.1 14) (σ.2.1 15) (σ.2.1 10)) (σ.2.1 82)) from by (first | (intro s a b; have w := i2_3 s a (by omega); have v := s81 s; show g_m2 _ (_ + 0); unfold g_m2; omega) | (intro s a b; have w := i33_3 s a b; rw [g_us_s (by omega)]; have q9 := g_ub_u (σ.1 51) s (σ.2.1 75) (σ.2.1 76) (g_so (σ.1 48) (σ.2.1 14) (σ.2.1 15) (σ.2.1 10)) (σ.2.1 82) u1_33; rcases q9 with ⟨x1, x2, x3⟩ | ⟨x1, x3⟩; (rw [x3, ← e_x18, ← e_x20, ← Int.add_assoc]; have es : x14 = s := (by rw [← x2, ← e79]; exact x14s); rw [es, st_s]; rw [es] at e_x17; rw [← e_x17] at w; exact g_m2_a w t20.1 h1_x22 h2_x22 h3_x22); (rw [x3, Int.add_zero, st_n _ _ (fun q => x1 ⟨by rw [← e79]; omega, by (rw [← e79, q]; exact x14s.symm)⟩)]; exact w)) | fail))
      ·
        refine ⟨(show 0 ≤ u1_2 ∧ u1_2 < 100 from by (first | omega | (simp only [st_s] <;> omega) | assumption | omega | fail)), ?_⟩
        intro x3 r_x3 e_x3
        have b_x3 : 0 ≤ x3 ∧ x3 ≤ 2 := by rw [e_x3]; exact hT.2 81 _
        rw [G81] at e_x3
        replace hT := cT_a (k := 83) (j := u1_2) hT (show (0 : Int) ≤ x3 ∧ x3 ≤ 2 from by (first | omega | (simp only [st_s] <;> omega) | assumption | omega | fail))
        refine ⟨(⟨by (first | omega | (simp only [st_s] <;> omega) | assumption | omega | fail), by (first | omega | (simp only [st_s] <;> omega) | assumption | omega | fail)⟩ : rg (u1_2 + 1)), ?_⟩
        exact ih_2 _ _ (show (101 - (u1_2 + 1) : Int) < ((m_2 : Nat) : Int) from by ((first | omega | (simp only [st_s] <;> omega) | assumption | omega | fail))) hT (show τ_2.1 4 = σ.1 4 from by first | exact W4 | omega) (show τ_2.1 6 = σ.1 6 from by first | exact W6 | omega) (show τ_2.1 7 = σ.1 7 from by first | exact W7 | omega) (show τ_2.1 13 = σ.1 13 from by first | exact W13 | omega) (show τ_2.1 14 = σ.1 14 from by first | exact W14 | omega) (show τ_2.1 15 = σ.1 15 from by first | exact W15 | omega) (show τ_2.1 46 = σ.1 46 from by first | exact W46 | omega) (show τ_2.1 48 = σ.1 48 from by first | exact W48 | omega) (show τ_2.1 51 = σ.1 51 from by first | exact W51 | omega) G10 G13 G14 G15 G16 G27 G28 G29 G30 G31 G32 G33 G34 G35 G36 G37 G75 G76 G81 (show 0 ≤ (u1_2 + 1) ∧ (u1_2 + 1) ≤ 100 from by (first | omega | (simp only [st_s] <;> omega) | assumption | omega | fail)) (show τ_2.2.1 82 = σ.2.1 82 from by (first | rfl | exact i2_2 | fail)) (show ∀ s : Int, 0 ≤ s → s < (u1_2 + 1) → (st (τ_2.2.1 83) u1_2 x3) s = σ.2.1 81 s from by (first | (intro s a b; exfalso; omega) | (intro s a b; by_cases z : s = u1_2; (rw [z, st_s, e_x3]); (rw [st_n _ _ z]; exact i2_3 s a (by omega))) | fail))
  exact l_2 ((101 - 0 : Int).toNat + 1) _ _ (show (101 - 0 : Int) < (((101 - 0 : Int).toNat + 1 : Nat) : Int) from by ((first | omega | (simp only [st_s] <;> omega) | assumption | omega | fail))) hT (show σ.1 4 = σ.1 4 from by first | exact W4 | omega) (show σ.1 6 = σ.1 6 from by first | exact W6 | omega) (show σ.1 7 = σ.1 7 from by first | exact W7 | omega) (show σ.1 13 = σ.1 13 from by first | exact W13 | omega) (show σ.1 14 = σ.1 14 from by first | exact W14 | omega) (show σ.1 15 = σ.1 15 from by first | exact W15 | omega) (show σ.1 46 = σ.1 46 from by first | exact W46 | omega) (show σ.1 48 = σ.1 48 from by first | exact W48 | omega) (show σ.1 51 = σ.1 51 from by first | exact W51 | omega) G10 G13 G14 G15 G16 G27 G28 G29 G30 G31 G32 G33 G34 G35 G36 G37 G75 G76 G81 (show 0 ≤ 0 ∧ 0 ≤ 100 from by (first | omega | (simp only [st_s] <;> omega) | assumption | omega | fail)) (show σ.2.1 82 = σ.2.1 82 from by (first | rfl | exact i2_2 | fail)) (show ∀ s : Int, 0 ≤ s → s < 0 → σ.2.1 83 s = σ.2.1 81 s from by (first | (intro s a b; exfalso; omega) | (intro s a b; by_cases z : s = u1_2; (rw [z, st_s, e_x3]); (rw [st_n _ _ z]; exact i2_3 s a (by omega))) | fail))
