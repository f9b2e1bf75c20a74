-- pure: the model's sorts; rules of one variable alone
/-- the sorts, numbered -/
def y_so (sy tu n : Int) (bg iv so : Int → Int) : Prop := (∀ s : Int, 0 ≤ s → s < sy → (so s = -1 ∧ ¬ (¬ bg s = 0 ∧ iv s = 0 ∧ ¬ s = tu)) ∨ ((0 ≤ so s ∧ so s < n) ∧ ¬ bg s = 0 ∧ iv s = 0 ∧ ¬ s = tu)) ∧ ∀ s r : Int, 0 ≤ s → s < r → r < sy → 0 ≤ so s → so s ≠ so r
theorem y_so_n {sy tu n : Int} {bg iv so : Int → Int} (h : y_so sy tu n bg iv so) (c : ¬ (¬ bg sy = 0 ∧ iv sy = 0 ∧ ¬ sy = tu)) : y_so (sy + 1) tu n bg iv (st so sy (-1)) := by
  refine ⟨fun s a b => ?_, fun s r a b d e => ?_⟩
  · rcases (by omega : s < sy ∨ s = sy) with q | q
    · rw [st_n _ _ (by omega)]; exact h.1 s a q
    · rw [q, st_s]; exact Or.inl ⟨rfl, c⟩
  · rw [st_n _ _ (by omega)] at e ⊢
    rcases (by omega : r < sy ∨ r = sy) with q | q
    · rw [st_n _ _ (by omega)]; exact h.2 s r a b q e
    · rw [q, st_s]; omega
theorem y_so_y {sy tu n : Int} {bg iv so : Int → Int} (h : y_so sy tu n bg iv so) (n0 : 0 ≤ n) (c : ¬ bg sy = 0 ∧ iv sy = 0 ∧ ¬ sy = tu) : y_so (sy + 1) tu (n + 1) bg iv (st (st so sy (-1)) sy n) := by
  rw [st_st]
  have hb : ∀ s : Int, 0 ≤ s → s < sy → so s < n ∨ so s = -1 := fun s a b => by
    rcases h.1 s a b with w | w
    · exact Or.inr w.1
    · exact Or.inl w.1.2
  refine ⟨fun s a b => ?_, fun s r a b d e => ?_⟩
  · rcases (by omega : s < sy ∨ s = sy) with q | q
    · rw [st_n _ _ (by omega)]
      rcases h.1 s a q with w | w
      · exact Or.inl w
      · exact Or.inr ⟨⟨w.1.1, by omega⟩, w.2⟩
    · rw [q, st_s]; exact Or.inr ⟨⟨n0, by omega⟩, c⟩
  · rw [st_n _ _ (by omega)] at e ⊢
    rcases (by omega : r < sy ∨ r = sy) with q | q
    · rw [st_n _ _ (by omega)]; exact h.2 s r a b q e
    · rw [q, st_s]; have := hb s a (by omega); omega
def y_c1 (K : Int) (A : Int → Prop) (tg sr b w : Int → Int) (s : Int) : Prop := 1 ≤ b s ∨ ∃ k : Int, (0 ≤ k ∧ k < K) ∧ A k ∧ tg k = s ∧ 0 ≤ sr k ∧ 1 ≤ w (sr k)
def y_c2 (K : Int) (A : Int → Prop) (tg sr b w : Int → Int) (s : Int) : Prop := 2 ≤ b s ∨ (1 ≤ b s ∧ ∃ k : Int, (0 ≤ k ∧ k < K) ∧ A k ∧ tg k = s ∧ 0 ≤ sr k ∧ 1 ≤ w (sr k)) ∨ (∃ k : Int, (0 ≤ k ∧ k < K) ∧ A k ∧ tg k = s ∧ 0 ≤ sr k ∧ 2 ≤ w (sr k)) ∨ ∃ j k : Int, (0 ≤ j ∧ j < k ∧ k < K) ∧ (A j ∧ tg j = s ∧ 0 ≤ sr j ∧ 1 ≤ w (sr j)) ∧ A k ∧ tg k = s ∧ 0 ≤ sr k ∧ 1 ≤ w (sr k)
/-- what has grown -/
def y_G (S K : Int) (A : Int → Prop) (tg sr b w g : Int → Int) : Prop := ∀ s : Int, 0 ≤ s → s < S → (0 ≤ g s ∧ g s ≤ 2) ∧ (1 ≤ g s ↔ y_c1 K A tg sr b w s) ∧ (2 ≤ g s ↔ y_c2 K A tg sr b w s)
theorem y_G_0 {S : Int} {A : Int → Prop} {tg sr b w g : Int → Int} (e : ∀ s : Int, 0 ≤ s → s < S → g s = b s ∧ 0 ≤ b s ∧ b s ≤ 2) : y_G S 0 A tg sr b w g := fun s s0 s1 => by
  obtain ⟨e1, e2, e3⟩ := e s s0 s1
  rw [e1]
  refine ⟨⟨e2, e3⟩, ⟨fun q => Or.inl q, fun q => ?_⟩, ⟨fun q => Or.inl q, fun q => ?_⟩⟩
  · rcases q with q | ⟨k, hk, _⟩
    · exact q
    · omega
  · rcases q with q | ⟨_, k, hk, _⟩ | ⟨k, hk, _⟩ | ⟨j, k, hk, _⟩
    · exact q
    · omega
    · omega
    · omega
theorem y_c1_s {K s : Int} {A : Int → Prop} {tg sr b w : Int → Int} (K0 : 0 ≤ K) : y_c1 (K + 1) A tg sr b w s ↔ y_c1 K A tg sr b w s ∨ (A K ∧ tg K = s ∧ 0 ≤ sr K ∧ 1 ≤ w (sr K)) := by
  constructor
  · rintro (q | ⟨k, hk, h⟩)
    · exact Or.inl (Or.inl q)
    · rcases (by omega : k < K ∨ k = K) with z | z
      · exact Or.inl (Or.inr ⟨k, ⟨hk.1, z⟩, h⟩)
      · rw [z] at h; exact Or.inr h
  · rintro ((q | ⟨k, hk, h⟩) | h)
    · exact Or.inl q
    · exact Or.inr ⟨k, ⟨hk.1, by omega⟩, h⟩
    · exact Or.inr ⟨K, ⟨K0, by omega⟩, h⟩
theorem y_c2_s {K s : Int} {A : Int → Prop} {tg sr b w : Int → Int} (K0 : 0 ≤ K) : y_c2 (K + 1) A tg sr b w s ↔ y_c2 K A tg sr b w s ∨ (y_c1 K A tg sr b w s ∧ A K ∧ tg K = s ∧ 0 ≤ sr K ∧ 1 ≤ w (sr K)) ∨ (A K ∧ tg K = s ∧ 0 ≤ sr K ∧ 2 ≤ w (sr K)) := by
  constructor
  · rintro (q | ⟨q, k, hk, h⟩ | ⟨k, hk, h⟩ | ⟨j, k, hk, g, h⟩)
    · exact Or.inl (Or.inl q)
    · rcases (by omega : k < K ∨ k = K) with z | z
      · exact Or.inl (Or.inr (Or.inl ⟨q, k, ⟨hk.1, z⟩, h⟩))
      · rw [z] at h; exact Or.inr (Or.inl ⟨Or.inl q, h⟩)
    · rcases (by omega : k < K ∨ k = K) with z | z
      · exact Or.inl (Or.inr (Or.inr (Or.inl ⟨k, ⟨hk.1, z⟩, h⟩)))
      · rw [z] at h; exact Or.inr (Or.inr h)
    · rcases (by omega : k < K ∨ k = K) with z | z
      · exact Or.inl (Or.inr (Or.inr (Or.inr ⟨j, k, ⟨hk.1, hk.2.1, z⟩, g, h⟩)))
      · rw [z] at h; exact Or.inr (Or.inl ⟨Or.inr ⟨j, ⟨hk.1, by omega⟩, g⟩, h⟩)
  · rintro ((q | ⟨q, k, hk, h⟩ | ⟨k, hk, h⟩ | ⟨j, k, hk, g, h⟩) | ⟨q | ⟨j, hj, g⟩, h⟩ | h)
    · exact Or.inl q
    · exact Or.inr (Or.inl ⟨q, k, ⟨hk.1, by omega⟩, h⟩)
    · exact Or.inr (Or.inr (Or.inl ⟨k, ⟨hk.1, by omega⟩, h⟩))
    · exact Or.inr (Or.inr (Or.inr ⟨j, k, ⟨hk.1, hk.2.1, by omega⟩, g, h⟩))
    · exact Or.inr (Or.inl ⟨q, K, ⟨K0, by omega⟩, h⟩)
    · exact Or.inr (Or.inr (Or.inr ⟨j, K, ⟨hj.1, hj.2, by omega⟩, g, h⟩))
    · exact Or.inr (Or.inr (Or.inl ⟨K, ⟨K0, by omega⟩, h⟩))
theorem y_G_s {S K x y : Int} {A : Int → Prop} {tg sr b w g : Int → Int} (h : y_G S K A tg sr b w g) (K0 : 0 ≤ K) (a : A K) (t0 : 0 ≤ tg K) (t1 : tg K < S) (hx : (sr K = -1 ∧ x = 0) ∨ (0 ≤ sr K ∧ x = w (sr K))) (x0 : 0 ≤ x) (hy : (g (tg K) + x ≤ 2 ∧ y = g (tg K) + x) ∨ (2 < g (tg K) + x ∧ y = 2)) : y_G S (K + 1) A tg sr b w (st g (tg K) y) := fun s s0 s1 => by
  have v := h s s0 s1
  rw [y_c1_s K0, y_c2_s K0]
  by_cases z : s = tg K
  · subst z
    rw [st_s]
    refine ⟨by omega, ⟨fun q => ?_, fun q => ?_⟩, ⟨fun q => ?_, fun q => ?_⟩⟩
    · rcases (by omega : 1 ≤ g (tg K) ∨ 1 ≤ x) with z | z
      · exact Or.inl (v.2.1.mp z)
      · exact Or.inr ⟨a, rfl, by omega, by omega⟩
    · rcases q with q | ⟨_, _, q2, q3⟩
      · have := v.2.1.mpr q; omega
      · omega
    · rcases (by omega : 2 ≤ g (tg K) ∨ (1 ≤ g (tg K) ∧ 1 ≤ x) ∨ 2 ≤ x) with z | z | z
      · exact Or.inl (v.2.2.mp z)
      · exact Or.inr (Or.inl ⟨v.2.1.mp z.1, a, rfl, by omega, by omega⟩)
      · exact Or.inr (Or.inr ⟨a, rfl, by omega, by omega⟩)
    · rcases q with q | ⟨q, _, _, q2, q3⟩ | ⟨_, _, q2, q3⟩
      · have := v.2.2.mpr q; omega
      · have := v.2.1.mpr q; omega
      · omega
  · rw [st_n _ _ z]
    refine ⟨v.1, v.2.1.trans ⟨fun q => Or.inl q, fun q => ?_⟩, v.2.2.trans ⟨fun q => Or.inl q, fun q => ?_⟩⟩
    · rcases q with q | ⟨_, q, _⟩
      · exact q
      · exact absurd q.symm z
    · rcases q with q | ⟨_, _, q, _⟩ | ⟨_, q, _⟩
      · exact q
      · exact absurd q.symm z
      · exact absurd q.symm z
theorem y_G_x {S K : Int} {A : Int → Prop} {tg sr b w g : Int → Int} (h : y_G S K A tg sr b w g) (K0 : 0 ≤ K) : ∀ d : Nat, (∀ k : Int, K ≤ k → k < K + (d : Int) → ¬ A k) → y_G S (K + (d : Int)) A tg sr b w g
  | 0, _ => by rw [show K + ((0 : Nat) : Int) = K by omega]; exact h
  | d + 1, n => by
    have ih := y_G_x h K0 d (fun k a b => n k a (by omega))
    intro s s0 s1
    have v := ih s s0 s1
    have nk := n (K + (d : Int)) (by omega) (by omega)
    rw [show K + ((d + 1 : Nat) : Int) = K + (d : Int) + 1 by omega, y_c1_s (by omega), y_c2_s (by omega)]
    refine ⟨v.1, v.2.1.trans ⟨fun q => Or.inl q, fun q => ?_⟩, v.2.2.trans ⟨fun q => Or.inl q, fun q => ?_⟩⟩
    · rcases q with q | q
      · exact q
      · exact absurd q.1 nk
    · rcases q with q | q | q
      · exact q
      · exact absurd q.2.1 nk
      · exact absurd q.1 nk
theorem y_c1_m {K s : Int} {A : Int → Prop} {tg sr b w g : Int → Int} (l : ∀ k : Int, 0 ≤ k → k < K → 0 ≤ sr k → w (sr k) ≤ g (sr k)) (h : y_c1 K A tg sr b w s) : y_c1 K A tg sr b g s := by
  rcases h with q | ⟨k, hk, a, t, s0, q⟩
  · exact Or.inl q
  · exact Or.inr ⟨k, hk, a, t, s0, by have := l k hk.1 hk.2 s0; omega⟩
theorem y_c2_m {K s : Int} {A : Int → Prop} {tg sr b w g : Int → Int} (l : ∀ k : Int, 0 ≤ k → k < K → 0 ≤ sr k → w (sr k) ≤ g (sr k)) (h : y_c2 K A tg sr b w s) : y_c2 K A tg sr b g s := by
  rcases h with q | ⟨p, k, hk, a, t, s0, q⟩ | ⟨k, hk, a, t, s0, q⟩ | ⟨j, k, hk, ⟨a, t, s0, q⟩, a2, t2, s2, q2⟩
  · exact Or.inl q
  · exact Or.inr (Or.inl ⟨p, k, hk, a, t, s0, by have := l k hk.1 hk.2 s0; omega⟩)
  · exact Or.inr (Or.inr (Or.inl ⟨k, hk, a, t, s0, by have := l k hk.1 hk.2 s0; omega⟩))
  · exact Or.inr (Or.inr (Or.inr ⟨j, k, hk, ⟨a, t, s0, by have := l j hk.1 (by omega) s0; omega⟩, a2, t2, s2, by have := l k (by omega) hk.2.2 s2; omega⟩))
/-- what stands there has its ground -/
def y_F (S K : Int) (A : Int → Prop) (tg sr b w : Int → Int) : Prop := ∀ s : Int, 0 ≤ s → s < S → (0 ≤ w s ∧ w s ≤ 2) ∧ (1 ≤ w s → y_c1 K A tg sr b w s) ∧ (2 ≤ w s → y_c2 K A tg sr b w s)
def y_FF (S K : Int) (A : Int → Prop) (tg sr b w : Int → Int) : Prop := ∀ s : Int, 0 ≤ s → s < S → (0 ≤ w s ∧ w s ≤ 2) ∧ (1 ≤ w s ↔ y_c1 K A tg sr b w s) ∧ (2 ≤ w s ↔ y_c2 K A tg sr b w s)
def y_in (w : Int → Int) : Int → Int := fun s => if 1 ≤ w s then 1 else 0
def y_rk (S K : Int) (A : Int → Prop) (tg sr b w ρ : Int → Int) : Prop := ∀ s : Int, 0 ≤ s → s < S → 1 ≤ w s → (0 ≤ ρ s ∧ ρ s < sm (y_in w) S) ∧ (1 ≤ b s ∨ ∃ k : Int, (0 ≤ k ∧ k < K) ∧ A k ∧ tg k = s ∧ 0 ≤ sr k ∧ 1 ≤ w (sr k) ∧ ρ (sr k) < ρ s)
theorem y_F_l {S K : Int} {A : Int → Prop} {tg sr b w g : Int → Int} (f : y_F S K A tg sr b w) (h : y_G S K A tg sr b w g) : ∀ s : Int, 0 ≤ s → s < S → w s ≤ g s := fun s a b => by
  have x := f s a b
  have y := h s a b
  rcases (by omega : w s = 0 ∨ w s = 1 ∨ w s = 2) with z | z | z
  · omega
  · have := y.2.1.mpr (x.2.1 (by omega)); omega
  · have := y.2.2.mpr (x.2.2 (by omega)); omega
theorem y_F_g {S K : Int} {A : Int → Prop} {tg sr b w g : Int → Int} (sS : ∀ k : Int, 0 ≤ k → k < K → sr k < S) (f : y_F S K A tg sr b w) (h : y_G S K A tg sr b w g) : y_F S K A tg sr b g := fun s a c => by
  have y := h s a c
  have l : ∀ k : Int, 0 ≤ k → k < K → 0 ≤ sr k → w (sr k) ≤ g (sr k) := fun k k0 k1 s0 => y_F_l f h _ s0 (sS k k0 k1)
  exact ⟨y.1, fun q => y_c1_m l (y.2.1.mp q), fun q => y_c2_m l (y.2.2.mp q)⟩
theorem y_F_e {S K : Int} {A : Int → Prop} {tg sr b w g : Int → Int} (sS : ∀ k : Int, 0 ≤ k → k < K → sr k < S) (f : y_F S K A tg sr b w) (h : y_G S K A tg sr b w g) (e : ∀ s : Int, 0 ≤ s → s < S → g s ≤ w s) : y_FF S K A tg sr b g := fun s a c => by
  have y := h s a c
  have l : ∀ k : Int, 0 ≤ k → k < K → 0 ≤ sr k → w (sr k) ≤ g (sr k) := fun k k0 k1 s0 => y_F_l f h _ s0 (sS k k0 k1)
  have l2 : ∀ k : Int, 0 ≤ k → k < K → 0 ≤ sr k → g (sr k) ≤ w (sr k) := fun k k0 k1 s0 => e _ s0 (sS k k0 k1)
  exact ⟨y.1, ⟨fun q => y_c1_m l (y.2.1.mp q), fun q => y.2.1.mpr (y_c1_m l2 q)⟩, ⟨fun q => y_c2_m l (y.2.2.mp q), fun q => y.2.2.mpr (y_c2_m l2 q)⟩⟩
theorem y_in_b (w : Int → Int) (s : Int) : 0 ≤ y_in w s ∧ y_in w s ≤ 1 ∧ (1 ≤ w s → y_in w s = 1) := by
  unfold y_in
  by_cases z : 1 ≤ w s
  · rw [if_pos z]; omega
  · rw [if_neg z]; omega
theorem y_rk_0 {S K : Int} {A : Int → Prop} {tg sr b w : Int → Int} (e : ∀ s : Int, 0 ≤ s → s < S → w s = b s) : y_rk S K A tg sr b w (fun _ => 0) := fun s a c d => by
  have w1 := sm_1 (g := y_in w) (fun e _ _ => (y_in_b w e).1) a c
  have w2 := (y_in_b w s).2.2 d
  exact ⟨⟨Int.le_refl _, by show (0 : Int) < sm (y_in w) S; omega⟩, Or.inl (by rw [← e s a c]; exact d)⟩
theorem y_rk_g {S K : Int} {A : Int → Prop} {tg sr b w g ρ : Int → Int} (sS : ∀ k : Int, 0 ≤ k → k < K → sr k < S) (f : y_F S K A tg sr b w) (h : y_G S K A tg sr b w g) (r : y_rk S K A tg sr b w ρ) : y_rk S K A tg sr b g (fun s => if 1 ≤ w s then ρ s else sm (y_in w) S) := fun s a c d => by
  have l := y_F_l f h
  have il : ∀ e : Int, 0 ≤ e → e < S → y_in w e ≤ y_in g e := fun e e0 e1 => by
    have := l e e0 e1
    have x := y_in_b w e
    have y := y_in_b g e
    by_cases z : 1 ≤ w e
    · have := x.2.2 z; have := y.2.2 (by omega); omega
    · have : y_in w e = 0 := if_neg z
      omega
  have sl := sm_le il
  have lk : ∀ k : Int, 0 ≤ k → k < K → 0 ≤ sr k → w (sr k) ≤ g (sr k) := fun k k0 k1 s0 => l _ s0 (sS k k0 k1)
  by_cases z : 1 ≤ w s
  · obtain ⟨r1, r2⟩ := r s a c z
    show (0 ≤ (if 1 ≤ w s then ρ s else sm (y_in w) S) ∧ (if 1 ≤ w s then ρ s else sm (y_in w) S) < sm (y_in g) S) ∧ (1 ≤ b s ∨ ∃ k : Int, (0 ≤ k ∧ k < K) ∧ A k ∧ tg k = s ∧ 0 ≤ sr k ∧ 1 ≤ g (sr k) ∧ (if 1 ≤ w (sr k) then ρ (sr k) else sm (y_in w) S) < (if 1 ≤ w s then ρ s else sm (y_in w) S))
    rw [if_pos z]
    refine ⟨⟨r1.1, by omega⟩, ?_⟩
    rcases r2 with r2 | ⟨k, hk, x1, x2, x3, x4, x5⟩
    · exact Or.inl r2
    · refine Or.inr ⟨k, hk, x1, x2, x3, by have := lk k hk.1 hk.2 x3; omega, ?_⟩
      rw [if_pos x4]; exact x5
  · have lt := sm_lt (v := s) il a c (by
      have : y_in w s = 0 := if_neg z
      have := (y_in_b g s).2.2 d; omega)
    have nn : 0 ≤ sm (y_in w) S := sm_n (fun e _ _ => (y_in_b w e).1)
    show (0 ≤ (if 1 ≤ w s then ρ s else sm (y_in w) S) ∧ (if 1 ≤ w s then ρ s else sm (y_in w) S) < sm (y_in g) S) ∧ (1 ≤ b s ∨ ∃ k : Int, (0 ≤ k ∧ k < K) ∧ A k ∧ tg k = s ∧ 0 ≤ sr k ∧ 1 ≤ g (sr k) ∧ (if 1 ≤ w (sr k) then ρ (sr k) else sm (y_in w) S) < (if 1 ≤ w s then ρ s else sm (y_in w) S))
    rw [if_neg z]
    refine ⟨⟨nn, by omega⟩, ?_⟩
    rcases (h s a c).2.1.mp d with q | ⟨k, hk, x1, x2, x3, x4⟩
    · exact Or.inl q
    · refine Or.inr ⟨k, hk, x1, x2, x3, by have := lk k hk.1 hk.2 x3; omega, ?_⟩
      rw [if_pos x4]
      exact (r (sr k) x3 (sS k hk.1 hk.2) x4).1.2
theorem y_in_c {w : Int → Int} {S : Int} (S0 : 0 ≤ S) : sm (y_in w) S ≤ S := by
  have := sm_c (f := y_in w) (n := S) (c := 1) (fun e _ _ => (y_in_b w e).2.1) (by omega) S0
  omega
theorem y_F_x {S K : Int} {A : Int → Prop} {tg sr b w v : Int → Int} (sS : ∀ k : Int, 0 ≤ k → k < K → sr k < S) (e : ∀ s : Int, 0 ≤ s → s < S → v s = w s) : (y_F S K A tg sr b w → y_F S K A tg sr b v) ∧ (y_FF S K A tg sr b w → y_FF S K A tg sr b v) ∧ ∀ ρ : Int → Int, y_rk S K A tg sr b w ρ → y_rk S K A tg sr b v ρ := by
  have l1 : ∀ k : Int, 0 ≤ k → k < K → 0 ≤ sr k → w (sr k) ≤ v (sr k) := fun k a c d => by have := e _ d (sS k a c); omega
  have l2 : ∀ k : Int, 0 ≤ k → k < K → 0 ≤ sr k → v (sr k) ≤ w (sr k) := fun k a c d => by have := e _ d (sS k a c); omega
  have hs : sm (y_in v) S = sm (y_in w) S := sm_x (fun s a c => by unfold y_in; rw [e s a c])
  refine ⟨fun h s a c => ?_, fun h s a c => ?_, fun ρ h s a c => ?_⟩
  · rw [e s a c]
    have x := h s a c
    exact ⟨x.1, fun q => y_c1_m l1 (x.2.1 q), fun q => y_c2_m l1 (x.2.2 q)⟩
  · rw [e s a c]
    have x := h s a c
    exact ⟨x.1, ⟨fun q => y_c1_m l1 (x.2.1.mp q), fun q => x.2.1.mpr (y_c1_m l2 q)⟩, ⟨fun q => y_c2_m l1 (x.2.2.mp q), fun q => x.2.2.mpr (y_c2_m l2 q)⟩⟩
  · rw [e s a c, hs]
    intro q
    obtain ⟨x, y⟩ := h s a c q
    refine ⟨x, ?_⟩
    rcases y with y | ⟨k, hk, y1, y2, y3, y4, y5⟩
    · exact Or.inl y
    · exact Or.inr ⟨k, hk, y1, y2, y3, by have := l1 k hk.1 hk.2 y3; omega, y5⟩
theorem y_F_0 {S K : Int} {A : Int → Prop} {tg sr b w : Int → Int} (e : ∀ s : Int, 0 ≤ s → s < S → w s = b s ∧ 0 ≤ b s ∧ b s ≤ 2) : y_F S K A tg sr b w ∧ (K ≤ 0 → y_FF S K A tg sr b w) := by
  refine ⟨fun s a c => ?_, fun k0 s a c => ?_⟩
  · obtain ⟨e1, e2, e3⟩ := e s a c
    rw [e1]; exact ⟨⟨e2, e3⟩, fun q => Or.inl q, fun q => Or.inl q⟩
  · obtain ⟨e1, e2, e3⟩ := e s a c
    rw [e1]
    refine ⟨⟨e2, e3⟩, ⟨fun q => Or.inl q, fun q => ?_⟩, ⟨fun q => Or.inl q, fun q => ?_⟩⟩
    · rcases q with q | ⟨k, hk, _⟩
      · exact q
      · omega
    · rcases q with q | ⟨_, k, hk, _⟩ | ⟨k, hk, _⟩ | ⟨j, k, hk, _⟩
      · exact q
      · omega
      · omega
      · omega
theorem y_F_b {S K : Int} {A : Int → Prop} {tg sr b w : Int → Int} (f : y_F S K A tg sr b w) (S0 : 0 ≤ S) : sm w S ≤ 2 * S := sm_c (fun e a c => (f e a c).1.2) (by omega) S0
/-- one round more -/
theorem y_rd {S K : Int} {A : Int → Prop} {tg sr b w g v : Int → Int} (sS : ∀ k : Int, 0 ≤ k → k < K → sr k < S) (f : y_F S K A tg sr b w) (h : y_G S K A tg sr b w g) (e : ∀ s : Int, 0 ≤ s → s < S → v s = g s) (r : ∃ ρ : Int → Int, y_rk S K A tg sr b w ρ) : y_F S K A tg sr b v ∧ (∃ ρ : Int → Int, y_rk S K A tg sr b v ρ) ∧ ((∀ s : Int, 0 ≤ s → s < S → g s ≤ w s) → y_FF S K A tg sr b v) ∧ sm w S ≤ sm v S ∧ ((∃ s : Int, (0 ≤ s ∧ s < S) ∧ w s < g s) → sm w S + 1 ≤ sm v S) := by
  obtain ⟨ρ, hr⟩ := r
  obtain ⟨x1, x2, x3⟩ := y_F_x (A := A) (tg := tg) (b := b) sS e
  have l := y_F_l f h
  exact ⟨x1 (y_F_g sS f h), ⟨_, x3 _ (y_rk_g sS f h hr)⟩, fun q => x2 (y_F_e sS f h q), sm_le (fun s a c => by rw [e s a c]; exact l s a c), fun ⟨s, hs, ls⟩ => sm_lt (v := s) (fun s a c => by rw [e s a c]; exact l s a c) hs.1 hs.2 (by rw [e s hs.1 hs.2]; exact ls)⟩
set_option maxHeartbeats 4000000 in
theorem K_X13_findSorts {σ : S0} (hT : m_T σ) (p1 : ca (σ.2.1 12) ((σ.1 3)) ≤ (σ.1 4)) : W_X13_findSorts σ (fun (τ : S0) => (m_T τ) ∧ (y_so ((σ.1 3)) (σ.1 11) (τ.1 46) (σ.2.1 12) (σ.2.1 8) (τ.2.1 71))) := by
  have A8 : ∀ j, 0 ≤ σ.2.1 8 j ∧ σ.2.1 8 j ≤ 1 := fun j => hT.2 8 j
  have A12 : ∀ j, 0 ≤ σ.2.1 12 j ∧ σ.2.1 12 j ≤ 1 := fun j => hT.2 12 j
  have A71 : ∀ j, (-1) ≤ σ.2.1 71 j ∧ σ.2.1 71 j ≤ 99 := fun j => hT.2 71 j
  have v3 : 0 ≤ σ.1 3 ∧ σ.1 3 ≤ 1000 := hT.1 3
  have v4 : 0 ≤ σ.1 4 ∧ σ.1 4 ≤ 100 := hT.1 4
  have v11 : (-1) ≤ σ.1 11 ∧ σ.1 11 ≤ 999 := hT.1 11
  have v46 : 0 ≤ σ.1 46 ∧ σ.1 46 ≤ 100 := hT.1 46
  have W3 : σ.1 3 = σ.1 3 := rfl
  have W4 : σ.1 4 = σ.1 4 := rfl
  have W11 : σ.1 11 = σ.1 11 := rfl
  have G8 : σ.2.1 8 = σ.2.1 8 := rfl
  have G12 : σ.2.1 12 = σ.2.1 12 := rfl
  intro P7 h7
  have Y20 : ca (σ.2.1 12) ((σ.1 3)) ≤ (σ.1 4) := p1
  have Y20_0 := Y20
  have l_7 : ∀ (m_7 : Nat) (u1_7 : Int) (τ_7 : S0), 1001 - u1_7 < (m_7 : Int) → (m_T τ_7) → (τ_7.1 3 = σ.1 3) → (τ_7.1 4 = σ.1 4) → (τ_7.1 11 = σ.1 11) → (τ_7.2.1 8 = σ.2.1 8) → (τ_7.2.1 12 = σ.2.1 12) → (0 ≤ u1_7) → (u1_7 ≤ (σ.1 3)) → (y_so (u1_7) (σ.1 11) (τ_7.1 46) (σ.2.1 12) (σ.2.1 8) (τ_7.2.1 71)) → ((τ_7.1 46) ≤ ca (σ.2.1 12) u1_7) → P7 u1_7 τ_7 := by
    intro m_7
    induction m_7 with
    | zero =>
      intro u1_7 τ_7 hm hT W3 W4 W11 G8 G12 i7_1 i7_2 i7_3 i7_4
      have A8 : ∀ j, 0 ≤ τ_7.2.1 8 j ∧ τ_7.2.1 8 j ≤ 1 := fun j => hT.2 8 j
      have A12 : ∀ j, 0 ≤ τ_7.2.1 12 j ∧ τ_7.2.1 12 j ≤ 1 := fun j => hT.2 12 j
      have A71 : ∀ j, (-1) ≤ τ_7.2.1 71 j ∧ τ_7.2.1 71 j ≤ 99 := fun j => hT.2 71 j
      have v3 : 0 ≤ τ_7.1 3 ∧ τ_7.1 3 ≤ 1000 := hT.1 3
      have v4 : 0 ≤ τ_7.1 4 ∧ τ_7.1 4 ≤ 100 := hT.1 4
      have v11 : (-1) ≤ τ_7.1 11 ∧ τ_7.1 11 ≤ 999 := hT.1 11
      have v46 : 0 ≤ τ_7.1 46 ∧ τ_7.1 46 ≤ 100 := hT.1 46
      exfalso; (first | omega | (simp only [st_s] <;> omega) | assumption | omega | fail)
    | succ m_7 ih_7 =>
      intro u1_7 τ_7 hm_7 hT W3 W4 W11 G8 G12 i7_1 i7_2 i7_3 i7_4
      have A8 : ∀ j, 0 ≤ τ_7.2.1 8 j ∧ τ_7.2.1 8 j ≤ 1 := fun j => hT.2 8 j
      have A12 : ∀ j, 0 ≤ τ_7.2.1 12 j ∧ τ_7.2.1 12 j ≤ 1 := fun j => hT.2 12 j
      have A71 : ∀ j, (-1) ≤ τ_7.2.1 71 j ∧ τ_7.2.1 71 j ≤ 99 := fun j => hT.2 71 j
      have v3 : 0 ≤ τ_7.1 3 ∧ τ_7.1 3 ≤ 1000 := hT.1 3
      have v4 : 0 ≤ τ_7.1 4 ∧ τ_7.1 4 ≤ 100 := hT.1 4
      have v11 : (-1) ≤ τ_7.1 11 ∧ τ_7.1 11 ≤ 999 := hT.1 11
      have v46 : 0 ≤ τ_7.1 46 ∧ τ_7.1 46 ≤ 100 := hT.1 46
      have Y20 : ca (τ_7.2.1 12) ((τ_7.1 3)) ≤ (τ_7.1 4) := by rw [show (ca (τ_7.2.1 12) ((τ_7.1 3)) ≤ (τ_7.1 4)) = (ca (σ.2.1 12) ((σ.1 3)) ≤ (σ.1 4)) from by rw [W3, W4, G12]]; exact Y20_0
      refine h7 u1_7 τ_7 ?_
      refine ⟨fun c1 => ?_, fun c1 => ?_⟩
      ·
        exact ⟨hT, (show y_so ((σ.1 3)) (σ.1 11) (τ_7.1 46) (σ.2.1 12) (σ.2.1 8) (τ_7.2.1 71) from by (rw [show σ.1 3 = u1_7 from by omega]; exact i7_3))⟩
      ·
        have cu := ca_u (σ.2.1 12) (n := u1_7) (by omega)
        have cm := ca_m (σ.2.1 12) (n := u1_7 + 1) (m := σ.1 3) (by omega) (by omega)
        refine ⟨(show 0 ≤ u1_7 ∧ u1_7 < 1001 from by (first | omega | (simp only [st_s] <;> omega) | assumption | omega | fail)), ?_⟩
        replace hT := mT_a (k := 71) (j := u1_7) hT (show (-1 : Int) ≤ (-1) ∧ (-1) ≤ 99 from by (first | omega | (simp only [st_s] <;> omega) | assumption | omega | fail))
        intro x3 r_x3 e_x3
        have b_x3 : 0 ≤ x3 ∧ x3 ≤ 1 := by rw [e_x3]; exact hT.2 12 _
        rw [G12] at e_x3
        rw [← e_x3] at cu
        refine ⟨fun c4 => ?_, fun c4 => ?_⟩
        ·
          refine ⟨(⟨by (first | omega | (simp only [st_s] <;> omega) | assumption | omega | fail), by (first | omega | (simp only [st_s] <;> omega) | assumption | omega | fail)⟩ : rg (u1_7 + 1)), ?_⟩
          exact ih_7 _ _ (show (1001 - (u1_7 + 1) : Int) < ((m_7 : Nat) : Int) from by ((first | omega | (simp only [st_s] <;> omega) | assumption | omega | fail))) hT (show τ_7.1 3 = σ.1 3 from by first | exact W3 | omega) (show τ_7.1 4 = σ.1 4 from by first | exact W4 | omega) (show τ_7.1 11 = σ.1 11 from by first | exact W11 | omega) G8 G12 (show 0 ≤ (u1_7 + 1) from by (first | omega | (simp only [st_s] <;> omega) | assumption | omega | fail)) (show (u1_7 + 1) ≤ (σ.1 3) from by (first | omega | (simp only [st_s] <;> omega) | assumption | omega | fail)) (show y_so ((u1_7 + 1)) (σ.1 11) (τ_7.1 46) (σ.2.1 12) (σ.2.1 8) ((st (τ_7.2.1 71) u1_7 (-1))) from by (first | exact ⟨fun s a b => by exfalso; omega, fun s r a b d => by exfalso; omega⟩ | exact y_so_n i7_3 (fun q => absurd (by rw [← e_x3]; assumption) q.1) | exact y_so_n i7_3 (fun q => by (have w := q6_3 (by omega) (by rw [G8]; exact q.2.1) (by rw [W11]; exact q.2.2); omega)) | exact y_so_y i7_3 (by omega) ⟨by (rw [← e_x3]; assumption), by (have w := (q6_2 (by assumption)).1; rw [G8] at w; exact w), by (have w := (q6_2 (by assumption)).2; rw [W11] at w; exact w)⟩ | fail)) (show (τ_7.1 46) ≤ ca (σ.2.1 12) (u1_7 + 1) from by (first | (exact (ca_b (σ.2.1 12) (n := (0 : Int)) (by omega)).1) | (have c0 := ca_b (σ.2.1 12) (n := (0 : Int)) (by omega); omega) | omega | fail))
        ·
          refine ⟨_, K_X13_isSort hT (show -1 ≤ u1_7 from by (first | omega | (simp only [st_s] <;> omega) | assumption | omega | fail)) (show u1_7 < 1001 from by (first | omega | (simp only [st_s] <;> omega) | assumption | omega | fail)), ?_⟩
          intro x7 r_x7 hq
          obtain ⟨q6_1, q6_2, q6_3⟩ := hq
          replace q6_1 : 0 ≤ x7 ∧ x7 ≤ 1 := q6_1
          replace q6_2 : ¬ x7 = 0 → τ_7.2.1 8 u1_7 = 0 ∧ ¬ u1_7 = (τ_7.1 11) := q6_2
          replace q6_3 : 0 ≤ u1_7 → τ_7.2.1 8 u1_7 = 0 → ¬ u1_7 = (τ_7.1 11) → ¬ x7 = 0 := q6_3
          refine ⟨fun c9 => ?_, fun c9 => ?_⟩
          ·
            refine ⟨(⟨by (first | omega | (simp only [st_s] <;> omega) | assumption | omega | fail), by (first | omega | (simp only [st_s] <;> omega) | assumption | omega | fail)⟩ : rg (u1_7 + 1)), ?_⟩
            exact ih_7 _ _ (show (1001 - (u1_7 + 1) : Int) < ((m_7 : Nat) : Int) from by ((first | omega | (simp only [st_s] <;> omega) | assumption | omega | fail))) hT (show τ_7.1 3 = σ.1 3 from by first | exact W3 | omega) (show τ_7.1 4 = σ.1 4 from by first | exact W4 | omega) (show τ_7.1 11 = σ.1 11 from by first | exact W11 | omega) G8 G12 (show 0 ≤ (u1_7 + 1) from by (first | omega | (simp only [st_s] <;> omega) | assumption | omega | fail)) (show (u1_7 + 1) ≤ (σ.1 3) from by (first | omega | (simp only [st_s] <;> omega) | assumption | omega | fail)) (show y_so ((u1_7 + 1)) (σ.1 11) (τ_7.1 46) (σ.2.1 12) (σ.2.1 8) ((st (τ_7.2.1 71) u1_7 (-1))) from by (first | exact ⟨fun s a b => by exfalso; omega, fun s r a b d => by exfalso; omega⟩ | exact y_so_n i7_3 (fun q => absurd (by rw [← e_x3]; assumption) q.1) | exact y_so_n i7_3 (fun q => by (have w := q6_3 (by omega) (by rw [G8]; exact q.2.1) (by rw [W11]; exact q.2.2); omega)) | exact y_so_y i7_3 (by omega) ⟨by (rw [← e_x3]; assumption), by (have w := (q6_2 (by assumption)).1; rw [G8] at w; exact w), by (have w := (q6_2 (by assumption)).2; rw [W11] at w; exact w)⟩ | fail)) (show (τ_7.1 46) ≤ ca (σ.2.1 12) (u1_7 + 1) from by (first | (exact (ca_b (σ.2.1 12) (n := (0 : Int)) (by omega)).1) | (have c0 := ca_b (σ.2.1 12) (n := (0 : Int)) (by omega); omega) | omega | fail))
          ·
            replace hT := mT_a (k := 71) (j := u1_7) hT (show (-1 : Int) ≤ (τ_7.1 46) ∧ (τ_7.1 46) ≤ 99 from by (first | omega | (simp only [st_s] <;> omega) | assumption | omega | fail))
            refine ⟨(⟨by (first | omega | (simp only [st_s] <;> omega) | assumption | omega | fail), by (first | omega | (simp only [st_s] <;> omega) | assumption | omega | fail)⟩ : rg (τ_7.1 46 + 1)), ?_⟩
            replace hT := mT_v (i := 46) hT (show 0 ≤ (τ_7.1 46 + 1) ∧ (τ_7.1 46 + 1) ≤ 100 from by (first | omega | (simp only [st_s] <;> omega) | assumption | omega | fail))
            refine ⟨(⟨by (first | omega | (simp only [st_s] <;> omega) | assumption | omega | fail), by (first | omega | (simp only [st_s] <;> omega) | assumption | omega | fail)⟩ : rg (u1_7 + 1)), ?_⟩
            exact ih_7 _ _ (show (1001 - (u1_7 + 1) : Int) < ((m_7 : Nat) : Int) from by ((first | omega | (simp only [st_s] <;> omega) | assumption | omega | fail))) hT (show τ_7.1 3 = σ.1 3 from by first | exact W3 | omega) (show τ_7.1 4 = σ.1 4 from by first | exact W4 | omega) (show τ_7.1 11 = σ.1 11 from by first | exact W11 | omega) G8 G12 (show 0 ≤ (u1_7 + 1) from by (first | omega | (simp only [st_s] <;> omega) | assumption | omega | fail)) (show (u1_7 + 1) ≤ (σ.1 3) from by (first | omega | (simp only [st_s] <;> omega) | assumption | omega | fail)) (show y_so ((u1_7 + 1)) (σ.1 11) ((τ_7.1 46 + 1)) (σ.2.1 12) (σ.2.1 8) ((st (st (τ_7.2.1 71) u1_7 (-1)) u1_7 (τ_7.1 46))) from by (first | exact ⟨fun s a b => by exfalso; omega, fun s r a b d => by exfalso; omega⟩ | exact y_so_n i7_3 (fun q => absurd (by rw [← e_x3]; assumption) q.1) | exact y_so_n i7_3 (fun q => by (have w := q6_3 (by omega) (by rw [G8]; exact q.2.1) (by rw [W11]; exact q.2.2); omega)) | exact y_so_y i7_3 (by omega) ⟨by (rw [← e_x3]; assumption), by (have w := (q6_2 (by assumption)).1; rw [G8] at w; exact w), by (have w := (q6_2 (by assumption)).2; rw [W11] at w; exact w)⟩ | fail)) (show ((τ_7.1 46 + 1)) ≤ ca (σ.2.1 12) (u1_7 + 1) from by (first | (exact (ca_b (σ.2.1 12) (n := (0 : Int)) (by omega)).1) | (have c0 := ca_b (σ.2.1 12) (n := (0 : Int)) (by omega); omega) | omega | fail))
  replace hT := mT_v (i := 46) hT (show (0 : Int) ≤ 0 ∧ 0 ≤ 100 from by (first | omega | (simp only [st_s] <;> omega) | assumption | omega | fail))
  exact l_7 ((1001 - 0 : Int).toNat + 1) _ _ (show (1001 - 0 : Int) < (((1001 - 0 : Int).toNat + 1 : Nat) : Int) from by ((first | omega | (simp only [st_s] <;> omega) | assumption | omega | fail))) hT (show σ.1 3 = σ.1 3 from by first | exact W3 | omega) (show σ.1 4 = σ.1 4 from by first | exact W4 | omega) (show σ.1 11 = σ.1 11 from by first | exact W11 | omega) G8 G12 (show 0 ≤ 0 from by (first | omega | (simp only [st_s] <;> omega) | assumption | omega | fail)) (show 0 ≤ (σ.1 3) from by (first | omega | (simp only [st_s] <;> omega) | assumption | omega | fail)) (show y_so (0) (σ.1 11) ((0 : Int)) (σ.2.1 12) (σ.2.1 8) (σ.2.1 71) from by (first | exact ⟨fun s a b => by exfalso; omega, fun s r a b d => by exfalso; omega⟩ | exact y_so_n i7_3 (fun q => absurd (by rw [← e_x3]; assumption) q.1) | exact y_so_n i7_3 (fun q => by (have w := q6_3 (by omega) (by rw [G8]; exact q.2.1) (by rw [W11]; exact q.2.2); omega)) | exact y_so_y i7_3 (by omega) ⟨by (rw [← e_x3]; assumption), by (have w := (q6_2 (by assumption)).1; rw [G8] at w; exact w), by (have w := (q6_2 (by assumption)).2; rw [W11] at w; exact w)⟩ | fail)) (show ((0 : Int)) ≤ ca (σ.2.1 12) 0 from by (first | (exact (ca_b (σ.2.1 12) (n := (0 : Int)) (by omega)).1) | (have c0 := ca_b (σ.2.1 12) (n := (0 : Int)) (by omega); omega) | omega | fail))
set_option maxHeartbeats 1000000 in
theorem K_X13_wayAt {n1 : Int} {n2 : Int} {n3 : Int} {σ : S0} (hT : m_T σ) (p1 : 0 ≤ n1 ∧ n1 ≤ 99) (p2 : 0 ≤ n2 ∧ n2 ≤ 60) (p3 : 0 ≤ n3 ∧ n3 ≤ 60) : W_X13_wayAt n1 n2 n3 σ (fun (x : Int) => (x = (n1 * 61 + n2) * 61 + n3) ∧ (0 ≤ x ∧ x < 372100)) := by
  unfold W_X13_wayAt
  refine ⟨(⟨by (first | omega | (simp only [st_s] <;> omega) | assumption | omega | fail), by (first | omega | (simp only [st_s] <;> omega) | assumption | omega | fail)⟩ : rg ((((n1 * 61) + n2) * 61) + n3)), ?_⟩
  exact ⟨(show ((((n1 * 61) + n2) * 61) + n3) = (n1 * 61 + n2) * 61 + n3 from by (first | omega | (simp only [st_s] <;> omega) | assumption | omega | fail)), (show 0 ≤ ((((n1 * 61) + n2) * 61) + n3) ∧ ((((n1 * 61) + n2) * 61) + n3) < 372100 from by (first | omega | (simp only [st_s] <;> omega) | assumption | omega | fail))⟩
set_option maxHeartbeats 1000000 in
theorem K_X13_capped {n0 : Int} {σ : S0} (hT : m_T σ) : W_X13_capped n0 σ (fun (x : Int) => ((n0 ≤ 2 ∧ x = n0) ∨ (2 < n0 ∧ x = 2))) := by
  unfold W_X13_capped
  refine ⟨fun c1 => ?_, fun c1 => ?_⟩
  ·
    exact (show (n0 ≤ 2 ∧ n0 = n0) ∨ (2 < n0 ∧ n0 = 2) from by (first | omega | (simp only [st_s] <;> omega) | assumption | omega | fail))
  ·
    exact (show (n0 ≤ 2 ∧ 2 = n0) ∨ (2 < n0 ∧ 2 = 2) from by (first | omega | (simp only [st_s] <;> omega) | assumption | omega | fail))
set_option maxHeartbeats 8000000 in
theorem K_X13_closeUnits {n1 : Int} {n2 : Int} {n3 : Int} {σ : S0} (hT : m_T σ) (p1 : 0 ≤ n1 ∧ n1 ≤ 59) (p2 : 0 ≤ n2 ∧ n2 ≤ 59) (p3 : ∀ s : Int, 0 ≤ s → s < (σ.1 46) → 0 ≤ σ.2.1 75 ((s * 61 + n1) * 61 + n2) ∧ σ.2.1 75 ((s * 61 + n1) * 61 + n2) ≤ 2) (p4 : ∀ k : Int, 0 ≤ k → k < (σ.1 48) → (0 ≤ (fun k => σ.2.1 71 (σ.2.1 16 (σ.2.1 14 (σ.2.1 84 k)))) k ∧ (fun k => σ.2.1 71 (σ.2.1 16 (σ.2.1 14 (σ.2.1 84 k)))) k < (σ.1 46)) ∧ (0 ≤ σ.2.1 10 (σ.2.1 16 (σ.2.1 14 (σ.2.1 84 k) + 1))) ∧ (fun k => σ.2.1 71 (σ.2.1 10 (σ.2.1 16 (σ.2.1 14 (σ.2.1 84 k) + 1)))) k < (σ.1 46)) (p5 : ∀ j k : Int, 0 ≤ j → j < k → k < (σ.1 48) → σ.2.1 84 j < σ.2.1 84 k) : W_X13_closeUnits n1 n2 n3 σ (fun (τ : S0) => (m_T τ) ∧ (y_FF (σ.1 46) (σ.1 48) (fun k => σ.2.1 84 k < n3) (fun k => σ.2.1 71 (σ.2.1 16 (σ.2.1 14 (σ.2.1 84 k)))) (fun k => σ.2.1 71 (σ.2.1 10 (σ.2.1 16 (σ.2.1 14 (σ.2.1 84 k) + 1)))) (fun s => σ.2.1 75 ((s * 61 + n1) * 61 + n2)) (fun s => τ.2.1 75 ((s * 61 + n1) * 61 + n2)) ) ∧ (∃ ρ : Int → Int, y_rk (σ.1 46) (σ.1 48) (fun k => σ.2.1 84 k < n3) (fun k => σ.2.1 71 (σ.2.1 16 (σ.2.1 14 (σ.2.1 84 k)))) (fun k => σ.2.1 71 (σ.2.1 10 (σ.2.1 16 (σ.2.1 14 (σ.2.1 84 k) + 1)))) (fun s => σ.2.1 75 ((s * 61 + n1) * 61 + n2)) (fun s => τ.2.1 75 ((s * 61 + n1) * 61 + n2)) ρ) ∧ (∀ e : Int, (∀ s : Int, 0 ≤ s → s < (σ.1 46) → e ≠ (s * 61 + n1) * 61 + n2) → τ.2.1 75 e = σ.2.1 75 e)) := by
  have A10 : ∀ j, (-1) ≤ σ.2.1 10 j ∧ σ.2.1 10 j ≤ 999 := fun j => hT.2 10 j
  have A14 : ∀ j, 0 ≤ σ.2.1 14 j ∧ σ.2.1 14 j ≤ 30000 := fun j => hT.2 14 j
  have A16 : ∀ j, 0 ≤ σ.2.1 16 j ∧ σ.2.1 16 j ≤ 999 := fun j => hT.2 16 j
  have A71 : ∀ j, (-1) ≤ σ.2.1 71 j ∧ σ.2.1 71 j ≤ 99 := fun j => hT.2 71 j
  have A75 : ∀ j, 0 ≤ σ.2.1 75 j ∧ σ.2.1 75 j ≤ 3 := fun j => hT.2 75 j
  have A84 : ∀ j, 0 ≤ σ.2.1 84 j ∧ σ.2.1 84 j ≤ 1499 := fun j => hT.2 84 j
  have A92 : ∀ j, 0 ≤ σ.2.1 92 j ∧ σ.2.1 92 j ≤ 3 := fun j => hT.2 92 j
  have A93 : ∀ j, 0 ≤ σ.2.1 93 j ∧ σ.2.1 93 j ≤ 300 := fun j => hT.2 93 j
  have v46 : 0 ≤ σ.1 46 ∧ σ.1 46 ≤ 100 := hT.1 46
  have v48 : 0 ≤ σ.1 48 ∧ σ.1 48 ≤ 1500 := hT.1 48
  have W46 : σ.1 46 = σ.1 46 := rfl
  have W48 : σ.1 48 = σ.1 48 := rfl
  have G10 : σ.2.1 10 = σ.2.1 10 := rfl
  have G14 : σ.2.1 14 = σ.2.1 14 := rfl
  have G16 : σ.2.1 16 = σ.2.1 16 := rfl
  have G71 : σ.2.1 71 = σ.2.1 71 := rfl
  have G84 : σ.2.1 84 = σ.2.1 84 := rfl
  intro P3 P52 P60 P92 P203 P220 P265 h3 h52 h60 h92 h203 h220 h265
  have sS : ∀ k : Int, 0 ≤ k → k < σ.1 48 → (fun k => σ.2.1 71 (σ.2.1 10 (σ.2.1 16 (σ.2.1 14 (σ.2.1 84 k) + 1)))) k < σ.1 46 := fun k a b => (p4 k a b).2.2
  have l_52 : ∀ (m_52 : Nat) (u4_52 : Int) (τ_52 : S0), 2 * (201 - sm (fun s => τ_52.2.1 75 ((s * 61 + n1) * 61 + n2)) (σ.1 46)) + u4_52 < (m_52 : Int) → (m_T τ_52) → (τ_52.1 46 = σ.1 46) → (τ_52.1 48 = σ.1 48) → (τ_52.2.1 10 = σ.2.1 10) → (τ_52.2.1 14 = σ.2.1 14) → (τ_52.2.1 16 = σ.2.1 16) → (τ_52.2.1 71 = σ.2.1 71) → (τ_52.2.1 84 = σ.2.1 84) → (0 ≤ u4_52 ∧ u4_52 ≤ 1) → (∀ s : Int, 0 ≤ s → s < (σ.1 46) → τ_52.2.1 92 s = σ.2.1 75 ((s * 61 + n1) * 61 + n2)) → (y_F (σ.1 46) (σ.1 48) (fun k => σ.2.1 84 k < n3) (fun k => σ.2.1 71 (σ.2.1 16 (σ.2.1 14 (σ.2.1 84 k)))) (fun k => σ.2.1 71 (σ.2.1 10 (σ.2.1 16 (σ.2.1 14 (σ.2.1 84 k) + 1)))) (fun s => σ.2.1 75 ((s * 61 + n1) * 61 + n2)) (fun s => τ_52.2.1 75 ((s * 61 + n1) * 61 + n2)) ) → (∃ ρ : Int → Int, y_rk (σ.1 46) (σ.1 48) (fun k => σ.2.1 84 k < n3) (fun k => σ.2.1 71 (σ.2.1 16 (σ.2.1 14 (σ.2.1 84 k)))) (fun k => σ.2.1 71 (σ.2.1 10 (σ.2.1 16 (σ.2.1 14 (σ.2.1 84 k) + 1)))) (fun s => σ.2.1 75 ((s * 61 + n1) * 61 + n2)) (fun s => τ_52.2.1 75 ((s * 61 + n1) * 61 + n2)) ρ) → (∀ e : Int, (∀ s : Int, 0 ≤ s → s < (σ.1 46) → e ≠ (s * 61 + n1) * 61 + n2) → τ_52.2.1 75 e = σ.2.1 75 e) → (u4_52 = 0 → y_FF (σ.1 46) (σ.1 48) (fun k => σ.2.1 84 k < n3) (fun k => σ.2.1 71 (σ.2.1 16 (σ.2.1 14 (σ.2.1 84 k)))) (fun k => σ.2.1 71 (σ.2.1 10 (σ.2.1 16 (σ.2.1 14 (σ.2.1 84 k) + 1)))) (fun s => σ.2.1 75 ((s * 61 + n1) * 61 + n2)) (fun s => τ_52.2.1 75 ((s * 61 + n1) * 61 + n2)) ) → P52 n1 n2 n3 u4_52 τ_52 := by
    intro m_52
    induction m_52 with
    | zero =>
      intro u4_52 τ_52 hm hT W46 W48 G10 G14 G16 G71 G84 i52_1 i52_2 i52_3 i52_4 i52_5 i52_6
      have A10 : ∀ j, (-1) ≤ τ_52.2.1 10 j ∧ τ_52.2.1 10 j ≤ 999 := fun j => hT.2 10 j
      have A14 : ∀ j, 0 ≤ τ_52.2.1 14 j ∧ τ_52.2.1 14 j ≤ 30000 := fun j => hT.2 14 j
      have A16 : ∀ j, 0 ≤ τ_52.2.1 16 j ∧ τ_52.2.1 16 j ≤ 999 := fun j => hT.2 16 j
      have A71 : ∀ j, (-1) ≤ τ_52.2.1 71 j ∧ τ_52.2.1 71 j ≤ 99 := fun j => hT.2 71 j
      have A75 : ∀ j, 0 ≤ τ_52.2.1 75 j ∧ τ_52.2.1 75 j ≤ 3 := fun j => hT.2 75 j
      have A84 : ∀ j, 0 ≤ τ_52.2.1 84 j ∧ τ_52.2.1 84 j ≤ 1499 := fun j => hT.2 84 j
      have A92 : ∀ j, 0 ≤ τ_52.2.1 92 j ∧ τ_52.2.1 92 j ≤ 3 := fun j => hT.2 92 j
      have A93 : ∀ j, 0 ≤ τ_52.2.1 93 j ∧ τ_52.2.1 93 j ≤ 300 := fun j => hT.2 93 j
      have v46 : 0 ≤ τ_52.1 46 ∧ τ_52.1 46 ≤ 100 := hT.1 46
      have v48 : 0 ≤ τ_52.1 48 ∧ τ_52.1 48 ≤ 1500 := hT.1 48
      exfalso; (have fb := y_F_b i52_3 (by omega); omega)
    | succ m_52 ih_52 =>
      intro u4_52 τ_52 hm_52 hT W46 W48 G10 G14 G16 G71 G84 i52_1 i52_2 i52_3 i52_4 i52_5 i52_6
      have A10 : ∀ j, (-1) ≤ τ_52.2.1 10 j ∧ τ_52.2.1 10 j ≤ 999 := fun j => hT.2 10 j
      have A14 : ∀ j, 0 ≤ τ_52.2.1 14 j ∧ τ_52.2.1 14 j ≤ 30000 := fun j => hT.2 14 j
      have A16 : ∀ j, 0 ≤ τ_52.2.1 16 j ∧ τ_52.2.1 16 j ≤ 999 := fun j => hT.2 16 j
      have A71 : ∀ j, (-1) ≤ τ_52.2.1 71 j ∧ τ_52.2.1 71 j ≤ 99 := fun j => hT.2 71 j
      have A75 : ∀ j, 0 ≤ τ_52.2.1 75 j ∧ τ_52.2.1 75 j ≤ 3 := fun j => hT.2 75 j
      have A84 : ∀ j, 0 ≤ τ_52.2.1 84 j ∧ τ_52.2.1 84 j ≤ 1499 := fun j => hT.2 84 j
      have A92 : ∀ j, 0 ≤ τ_52.2.1 92 j ∧ τ_52.2.1 92 j ≤ 3 := fun j => hT.2 92 j
      have A93 : ∀ j, 0 ≤ τ_52.2.1 93 j ∧ τ_52.2.1 93 j ≤ 300 := fun j => hT.2 93 j
      have v46 : 0 ≤ τ_52.1 46 ∧ τ_52.1 46 ≤ 100 := hT.1 46
      have v48 : 0 ≤ τ_52.1 48 ∧ τ_52.1 48 ≤ 1500 := hT.1 48
      have fb := y_F_b i52_3 (by omega)
      have l_220 : ∀ (m_220 : Nat) (u4_220 : Int) (u5_220 : Int) (τ_220 : S0), 101 - u5_220 < (m_220 : Int) → (m_T τ_220) → (τ_220.1 46 = σ.1 46) → (τ_220.1 48 = σ.1 48) → (τ_220.2.1 10 = σ.2.1 10) → (τ_220.2.1 14 = σ.2.1 14) → (τ_220.2.1 16 = σ.2.1 16) → (τ_220.2.1 71 = σ.2.1 71) → (τ_220.2.1 84 = σ.2.1 84) → (0 ≤ u5_220) → (u5_220 ≤ (σ.1 46)) → (0 ≤ u4_220 ∧ u4_220 ≤ 1) → (τ_220.2.1 92 = τ_52.2.1 92) → (y_G (σ.1 46) (σ.1 48) (fun k => σ.2.1 84 k < n3) (fun k => σ.2.1 71 (σ.2.1 16 (σ.2.1 14 (σ.2.1 84 k)))) (fun k => σ.2.1 71 (σ.2.1 10 (σ.2.1 16 (σ.2.1 14 (σ.2.1 84 k) + 1)))) (fun s => σ.2.1 75 ((s * 61 + n1) * 61 + n2)) (fun s => τ_52.2.1 75 ((s * 61 + n1) * 61 + n2)) (τ_220.2.1 93)) → (∀ s : Int, 0 ≤ s → s < u5_220 → τ_220.2.1 75 ((s * 61 + n1) * 61 + n2) = τ_220.2.1 93 s) → (∀ e : Int, (∀ s : Int, 0 ≤ s → s < u5_220 → e ≠ (s * 61 + n1) * 61 + n2) → τ_220.2.1 75 e = τ_52.2.1 75 e) → ((u4_220 = 0 ∧ ∀ s : Int, 0 ≤ s → s < u5_220 → τ_220.2.1 93 s ≤ (fun s => τ_52.2.1 75 ((s * 61 + n1) * 61 + n2)) s) ∨ (u4_220 = 1 ∧ ∃ s : Int, (0 ≤ s ∧ s < u5_220) ∧ (fun s => τ_52.2.1 75 ((s * 61 + n1) * 61 + n2)) s < τ_220.2.1 93 s)) → (u4_52 = 1) → P220 n1 n2 n3 u4_220 u5_220 τ_220 := by
        intro m_220
        induction m_220 with
        | zero =>
          intro u4_220 u5_220 τ_220 hm hT W46 W48 G10 G14 G16 G71 G84 i220_1 i220_2 i220_3 i220_4 i220_5 i220_6 i220_7 i220_8 i220_9
          have A10 : ∀ j, (-1) ≤ τ_220.2.1 10 j ∧ τ_220.2.1 10 j ≤ 999 := fun j => hT.2 10 j
          have A14 : ∀ j, 0 ≤ τ_220.2.1 14 j ∧ τ_220.2.1 14 j ≤ 30000 := fun j => hT.2 14 j
          have A16 : ∀ j, 0 ≤ τ_220.2.1 16 j ∧ τ_220.2.1 16 j ≤ 999 := fun j => hT.2 16 j
          have A71 : ∀ j, (-1) ≤ τ_220.2.1 71 j ∧ τ_220.2.1 71 j ≤ 99 := fun j => hT.2 71 j
          have A75 : ∀ j, 0 ≤ τ_220.2.1 75 j ∧ τ_220.2.1 75 j ≤ 3 := fun j => hT.2 75 j
          have A84 : ∀ j, 0 ≤ τ_220.2.1 84 j ∧ τ_220.2.1 84 j ≤ 1499 := fun j => hT.2 84 j
          have A92 : ∀ j, 0 ≤ τ_220.2.1 92 j ∧ τ_220.2.1 92 j ≤ 3 := fun j => hT.2 92 j
          have A93 : ∀ j, 0 ≤ τ_220.2.1 93 j ∧ τ_220.2.1 93 j ≤ 300 := fun j => hT.2 93 j
          have v46 : 0 ≤ τ_220.1 46 ∧ τ_220.1 46 ≤ 100 := hT.1 46
          have v48 : 0 ≤ τ_220.1 48 ∧ τ_220.1 48 ≤ 1500 := hT.1 48
          exfalso; (first | omega | (simp only [st_s] <;> omega) | assumption | omega | fail)
        | succ m_220 ih_220 =>
          intro u4_220 u5_220 τ_220 hm_220 hT W46 W48 G10 G14 G16 G71 G84 i220_1 i220_2 i220_3 i220_4 i220_5 i220_6 i220_7 i220_8 i220_9
          have A10 : ∀ j, (-1) ≤ τ_220.2.1 10 j ∧ τ_220.2.1 10 j ≤ 999 := fun j => hT.2 10 j
          have A14 : ∀ j, 0 ≤ τ_220.2.1 14 j ∧ τ_220.2.1 14 j ≤ 30000 := fun j => hT.2 14 j
          have A16 : ∀ j, 0 ≤ τ_220.2.1 16 j ∧ τ_220.2.1 16 j ≤ 999 := fun j => hT.2 16 j
          have A71 : ∀ j, (-1) ≤ τ_220.2.1 71 j ∧ τ_220.2.1 71 j ≤ 99 := fun j => hT.2 71 j
          have A75 : ∀ j, 0 ≤ τ_220.2.1 75 j ∧ τ_220.2.1 75 j ≤ 3 := fun j => hT.2 75 j
          have A84 : ∀ j, 0 ≤ τ_220.2.1 84 j ∧ τ_220.2.1 84 j ≤ 1499 := fun j => hT.2 84 j
          have A92 : ∀ j, 0 ≤ τ_220.2.1 92 j ∧ τ_220.2.1 92 j ≤ 3 := fun j => hT.2 92 j
          have A93 : ∀ j, 0 ≤ τ_220.2.1 93 j ∧ τ_220.2.1 93 j ≤ 300 := fun j => hT.2 93 j
          have v46 : 0 ≤ τ_220.1 46 ∧ τ_220.1 46 ≤ 100 := hT.1 46
          have v48 : 0 ≤ τ_220.1 48 ∧ τ_220.1 48 ≤ 1500 := hT.1 48
          refine h220 n1 n2 n3 u4_220 u5_220 τ_220 ?_
          refine ⟨fun c43 => ?_, fun c43 => ?_⟩
          ·
            have gb : u5_220 < σ.1 46 → (0 ≤ τ_220.2.1 93 u5_220 ∧ τ_220.2.1 93 u5_220 ≤ 2) := fun z => (i220_5 u5_220 i220_1 z).1
            have rd : σ.1 46 ≤ u5_220 → _ := fun z => y_rd (S := σ.1 46) (w := (fun s => τ_52.2.1 75 ((s * 61 + n1) * 61 + n2))) (v := (fun s => τ_220.2.1 75 ((s * 61 + n1) * 61 + n2))) sS i52_3 i220_5 (fun s a b => i220_6 s a (by omega)) i52_4
            exact ih_52 _ _ (show (2 * (201 - sm (fun s => τ_220.2.1 75 ((s * 61 + n1) * 61 + n2)) (σ.1 46)) + u4_220 : Int) < ((m_52 : Nat) : Int) from by ((first | omega | (have rd := rd (by omega); have q9 := i220_8; rcases q9 with ⟨q1, q2⟩ | ⟨q1, q2⟩; (have r1 := rd.2.2.2.1; omega); (have r2 := rd.2.2.2.2 (by (have q9 := q2; obtain ⟨s, hs, ls⟩ := q9; exact ⟨s, ⟨hs.1, by omega⟩, ls⟩)); omega)) | fail))) hT (show τ_220.1 46 = σ.1 46 from by first | exact W46 | omega) (show τ_220.1 48 = σ.1 48 from by first | exact W48 | omega) G10 G14 G16 G71 G84 (show 0 ≤ u4_220 ∧ u4_220 ≤ 1 from by (first | omega | (simp only [st_s] <;> omega) | assumption | omega | fail)) (show ∀ s : Int, 0 ≤ s → s < (σ.1 46) → τ_220.2.1 92 s = σ.2.1 75 ((s * 61 + n1) * 61 + n2) from by (first | (rw [i220_4]; exact i52_2) | (intro s a b; exact i3_4 s a (by omega)) | fail)) (show y_F (σ.1 46) (σ.1 48) (fun k => σ.2.1 84 k < n3) (fun k => σ.2.1 71 (σ.2.1 16 (σ.2.1 14 (σ.2.1 84 k)))) (fun k => σ.2.1 71 (σ.2.1 10 (σ.2.1 16 (σ.2.1 14 (σ.2.1 84 k) + 1)))) (fun s => σ.2.1 75 ((s * 61 + n1) * 61 + n2)) (fun s => τ_220.2.1 75 ((s * 61 + n1) * 61 + n2))  from by (first | exact (rd (by omega)).1 | (rw [i3_3]; exact (y_F_0 (fun s a b => ⟨rfl, p3 s a b⟩)).1) | fail)) (show ∃ ρ : Int → Int, y_rk (σ.1 46) (σ.1 48) (fun k => σ.2.1 84 k < n3) (fun k => σ.2.1 71 (σ.2.1 16 (σ.2.1 14 (σ.2.1 84 k)))) (fun k => σ.2.1 71 (σ.2.1 10 (σ.2.1 16 (σ.2.1 14 (σ.2.1 84 k) + 1)))) (fun s => σ.2.1 75 ((s * 61 + n1) * 61 + n2)) (fun s => τ_220.2.1 75 ((s * 61 + n1) * 61 + n2)) ρ from by (first | exact (rd (by omega)).2.1 | (rw [i3_3]; exact ⟨_, y_rk_0 (fun s a b => rfl)⟩) | fail)) (show ∀ e : Int, (∀ s : Int, 0 ≤ s → s < (σ.1 46) → e ≠ (s * 61 + n1) * 61 + n2) → τ_220.2.1 75 e = σ.2.1 75 e from by (first | exact fun e h => (i220_7 e (fun s a b => h s a (by omega))).trans (i52_5 e h) | (rw [i3_3]; exact fun e h => rfl) | fail)) (show u4_220 = 0 → y_FF (σ.1 46) (σ.1 48) (fun k => σ.2.1 84 k < n3) (fun k => σ.2.1 71 (σ.2.1 16 (σ.2.1 14 (σ.2.1 84 k)))) (fun k => σ.2.1 71 (σ.2.1 10 (σ.2.1 16 (σ.2.1 14 (σ.2.1 84 k) + 1)))) (fun s => σ.2.1 75 ((s * 61 + n1) * 61 + n2)) (fun s => τ_220.2.1 75 ((s * 61 + n1) * 61 + n2))  from by (first | (intro z; exfalso; omega) | (intro z; have q9 := i220_8; rcases q9 with ⟨_, q⟩ | ⟨q, _⟩; (exact (rd (by omega)).2.2.1 (fun s a b => q s a (by omega))); (exfalso; omega)) | (rw [i3_3]; exact fun z => (y_F_0 (fun s a b => ⟨rfl, p3 s a b⟩)).2 (by omega)) | fail))
          ·
            have gb : u5_220 < σ.1 46 → (0 ≤ τ_220.2.1 93 u5_220 ∧ τ_220.2.1 93 u5_220 ≤ 2) := fun z => (i220_5 u5_220 i220_1 z).1
            have rd : σ.1 46 ≤ u5_220 → _ := fun z => y_rd (S := σ.1 46) (w := (fun s => τ_52.2.1 75 ((s * 61 + n1) * 61 + n2))) (v := (fun s => τ_220.2.1 75 ((s * 61 + n1) * 61 + n2))) sS i52_3 i220_5 (fun s a b => i220_6 s a (by omega)) i52_4
            refine ⟨fun c44 => ?_, fun c44 => ?_⟩
            ·
              refine h265 _ _ _ _ _ _ ?_
              refine ⟨_, K_X13_wayAt hT (show 0 ≤ u5_220 ∧ u5_220 ≤ 99 from by (first | omega | (simp only [st_s] <;> omega) | assumption | omega | fail)) (show 0 ≤ n1 ∧ n1 ≤ 60 from by (first | omega | (simp only [st_s] <;> omega) | assumption | omega | fail)) (show 0 ≤ n2 ∧ n2 ≤ 60 from by (first | omega | (simp only [st_s] <;> omega) | assumption | omega | fail)), ?_⟩
              intro x63 r_x63 hq
              obtain ⟨q62_1, q62_2⟩ := hq
              replace q62_1 : x63 = (u5_220 * 61 + n1) * 61 + n2 := q62_1
              replace q62_2 : 0 ≤ x63 ∧ x63 < 372100 := q62_2
              refine ⟨(show 0 ≤ u5_220 ∧ u5_220 < 101 from by (first | omega | (simp only [st_s] <;> omega) | assumption | omega | fail)), ?_⟩
              intro x66 r_x66 e_x66
              have b_x66 : 0 ≤ x66 ∧ x66 ≤ 300 := by rw [e_x66]; exact hT.2 93 _
              refine ⟨_, K_X13_capped hT, ?_⟩
              intro x68 r_x68 hq
              have q67_1 := hq
              replace q67_1 : (x66 ≤ 2 ∧ x68 = x66) ∨ (2 < x66 ∧ x68 = 2) := q67_1
              refine ⟨(show 0 ≤ x63 ∧ x63 < 372100 from by (first | omega | (simp only [st_s] <;> omega) | assumption | omega | fail)), ?_⟩
              replace hT := mT_a (k := 75) (j := x63) hT (show (0 : Int) ≤ x68 ∧ x68 ≤ 3 from by (first | omega | (simp only [st_s] <;> omega) | assumption | omega | fail))
              refine ⟨(⟨by (first | omega | (simp only [st_s] <;> omega) | assumption | omega | fail), by (first | omega | (simp only [st_s] <;> omega) | assumption | omega | fail)⟩ : rg (u5_220 + 1)), ?_⟩
              exact ih_220 _ _ _ (show (101 - (u5_220 + 1) : Int) < ((m_220 : Nat) : Int) from by ((first | omega | (simp only [st_s] <;> omega) | assumption | omega | fail))) hT (show τ_220.1 46 = σ.1 46 from by first | exact W46 | omega) (show τ_220.1 48 = σ.1 48 from by first | exact W48 | omega) G10 G14 G16 G71 G84 (show 0 ≤ (u5_220 + 1) from by (first | omega | (simp only [st_s] <;> omega) | assumption | omega | fail)) (show (u5_220 + 1) ≤ (σ.1 46) from by (first | omega | (simp only [st_s] <;> omega) | assumption | omega | fail)) (show 0 ≤ 1 ∧ 1 ≤ 1 from by (first | omega | (simp only [st_s] <;> omega) | assumption | omega | fail)) (show τ_220.2.1 92 = τ_52.2.1 92 from by (first | omega | (simp only [st_s] <;> omega) | assumption | omega | fail)) (show y_G (σ.1 46) (σ.1 48) (fun k => σ.2.1 84 k < n3) (fun k => σ.2.1 71 (σ.2.1 16 (σ.2.1 14 (σ.2.1 84 k)))) (fun k => σ.2.1 71 (σ.2.1 10 (σ.2.1 16 (σ.2.1 14 (σ.2.1 84 k) + 1)))) (fun s => σ.2.1 75 ((s * 61 + n1) * 61 + n2)) (fun s => τ_52.2.1 75 ((s * 61 + n1) * 61 + n2)) (τ_220.2.1 93) from by (first | exact i220_5 | (rw [show σ.1 48 = u5_92 from by omega]; exact i92_5) | (have w := y_G_x i92_5 i92_1 (σ.1 48 - u5_92).toNat (fun k a b => by (show ¬ σ.2.1 84 k < n3; rcases (by omega : k = u5_92 ∨ u5_92 < k) with q | q; (rw [q]; omega); (have m := p5 u5_92 k i92_1 q (by omega); omega))); rw [show u5_92 + ((σ.1 48 - u5_92).toNat : Int) = σ.1 48 from by omega] at w; exact w) | fail)) (show ∀ s : Int, 0 ≤ s → s < (u5_220 + 1) → (st (τ_220.2.1 75) x63 x68) ((s * 61 + n1) * 61 + n2) = τ_220.2.1 93 s from by (first | (intro s a b; exfalso; omega) | (intro s a b; rcases (by omega : s < u5_220 ∨ s = u5_220) with q | q; (rw [st_n _ _ (by omega)]; exact i220_6 s a q); (have gb2 := gb (by omega); rw [q, q62_1, st_s]; omega)) | fail)) (show ∀ e : Int, (∀ s : Int, 0 ≤ s → s < (u5_220 + 1) → e ≠ (s * 61 + n1) * 61 + n2) → (st (τ_220.2.1 75) x63 x68) e = τ_52.2.1 75 e from by (first | (intro e h; rw [st_n _ _ (by rw [q62_1]; exact h u5_220 (by omega) (by omega))]; exact i220_7 e (fun s a b => h s a (by omega))) | (intro e h; rw [i92_3]) | fail)) (show (1 = 0 ∧ ∀ s : Int, 0 ≤ s → s < (u5_220 + 1) → τ_220.2.1 93 s ≤ (fun s => τ_52.2.1 75 ((s * 61 + n1) * 61 + n2)) s) ∨ (1 = 1 ∧ ∃ s : Int, (0 ≤ s ∧ s < (u5_220 + 1)) ∧ (fun s => τ_52.2.1 75 ((s * 61 + n1) * 61 + n2)) s < τ_220.2.1 93 s) from by (first | exact Or.inl ⟨rfl, fun s a b => by exfalso; omega⟩ | (have q9 := i220_8; rcases q9 with ⟨q1, q2⟩ | ⟨q1, s, hs, ls⟩; (exfalso; omega); (exact Or.inr ⟨rfl, s, ⟨hs.1, by omega⟩, ls⟩)) | (have gb2 := gb (by omega); have q9 := i220_8; rcases q9 with ⟨q1, q2⟩ | ⟨q1, s, hs, ls⟩; (first | exact Or.inl ⟨rfl, fun s a b => by (rcases (by omega : s < u5_220 ∨ s = u5_220) with q | q; (exact q2 s a q); (rw [q]; show τ_220.2.1 93 u5_220 ≤ τ_52.2.1 75 ((u5_220 * 61 + n1) * 61 + n2); omega))⟩ | exact Or.inr ⟨rfl, u5_220, ⟨by omega, by omega⟩, by (show τ_52.2.1 75 ((u5_220 * 61 + n1) * 61 + n2) < τ_220.2.1 93 u5_220; omega)⟩); (exfalso; omega)) | fail)) (show u4_52 = 1 from by (first | omega | (simp only [st_s] <;> omega) | assumption | omega | fail))
            ·
              refine ⟨(show 0 ≤ u5_220 ∧ u5_220 < 101 from by (first | omega | (simp only [st_s] <;> omega) | assumption | omega | fail)), ?_⟩
              intro x46 r_x46 e_x46
              have b_x46 : 0 ≤ x46 ∧ x46 ≤ 300 := by rw [e_x46]; exact hT.2 93 _
              refine ⟨_, K_X13_capped hT, ?_⟩
              intro x48 r_x48 hq
              have q47_1 := hq
              replace q47_1 : (x46 ≤ 2 ∧ x48 = x46) ∨ (2 < x46 ∧ x48 = 2) := q47_1
              refine ⟨_, K_X13_wayAt hT (show 0 ≤ u5_220 ∧ u5_220 ≤ 99 from by (first | omega | (simp only [st_s] <;> omega) | assumption | omega | fail)) (show 0 ≤ n1 ∧ n1 ≤ 60 from by (first | omega | (simp only [st_s] <;> omega) | assumption | omega | fail)) (show 0 ≤ n2 ∧ n2 ≤ 60 from by (first | omega | (simp only [st_s] <;> omega) | assumption | omega | fail)), ?_⟩
              intro x51 r_x51 hq
              obtain ⟨q50_1, q50_2⟩ := hq
              replace q50_1 : x51 = (u5_220 * 61 + n1) * 61 + n2 := q50_1
              replace q50_2 : 0 ≤ x51 ∧ x51 < 372100 := q50_2
              refine ⟨(show 0 ≤ x51 ∧ x51 < 372100 from by (first | omega | (simp only [st_s] <;> omega) | assumption | omega | fail)), ?_⟩
              intro x54 r_x54 e_x54
              have b_x54 : 0 ≤ x54 ∧ x54 ≤ 3 := by rw [e_x54]; exact hT.2 75 _
              have w54 : x54 = τ_52.2.1 75 ((u5_220 * 61 + n1) * 61 + n2) := by (rw [e_x54, q50_1]; exact i220_7 _ (fun s a b => by omega))
              refine ⟨fun c55 => ?_, fun c55 => ?_⟩
              ·
                refine h265 _ _ _ _ _ _ ?_
                refine ⟨_, K_X13_wayAt hT (show 0 ≤ u5_220 ∧ u5_220 ≤ 99 from by (first | omega | (simp only [st_s] <;> omega) | assumption | omega | fail)) (show 0 ≤ n1 ∧ n1 ≤ 60 from by (first | omega | (simp only [st_s] <;> omega) | assumption | omega | fail)) (show 0 ≤ n2 ∧ n2 ≤ 60 from by (first | omega | (simp only [st_s] <;> omega) | assumption | omega | fail)), ?_⟩
                intro x63 r_x63 hq
                obtain ⟨q62_1, q62_2⟩ := hq
                replace q62_1 : x63 = (u5_220 * 61 + n1) * 61 + n2 := q62_1
                replace q62_2 : 0 ≤ x63 ∧ x63 < 372100 := q62_2
                refine ⟨(show 0 ≤ u5_220 ∧ u5_220 < 101 from by (first | omega | (simp only [st_s] <;> omega) | assumption | omega | fail)), ?_⟩
                intro x66 r_x66 e_x66
                have b_x66 : 0 ≤ x66 ∧ x66 ≤ 300 := by rw [e_x66]; exact hT.2 93 _
                refine ⟨_, K_X13_capped hT, ?_⟩
                intro x68 r_x68 hq
                have q67_1 := hq
                replace q67_1 : (x66 ≤ 2 ∧ x68 = x66) ∨ (2 < x66 ∧ x68 = 2) := q67_1
                refine ⟨(show 0 ≤ x63 ∧ x63 < 372100 from by (first | omega | (simp only [st_s] <;> omega) | assumption | omega | fail)), ?_⟩
                replace hT := mT_a (k := 75) (j := x63) hT (show (0 : Int) ≤ x68 ∧ x68 ≤ 3 from by (first | omega | (simp only [st_s] <;> omega) | assumption | omega | fail))
                refine ⟨(⟨by (first | omega | (simp only [st_s] <;> omega) | assumption | omega | fail), by (first | omega | (simp only [st_s] <;> omega) | assumption | omega | fail)⟩ : rg (u5_220 + 1)), ?_⟩
                exact ih_220 _ _ _ (show (101 - (u5_220 + 1) : Int) < ((m_220 : Nat) : Int) from by ((first | omega | (simp only [st_s] <;> omega) | assumption | omega | fail))) hT (show τ_220.1 46 = σ.1 46 from by first | exact W46 | omega) (show τ_220.1 48 = σ.1 48 from by first | exact W48 | omega) G10 G14 G16 G71 G84 (show 0 ≤ (u5_220 + 1) from by (first | omega | (simp only [st_s] <;> omega) | assumption | omega | fail)) (show (u5_220 + 1) ≤ (σ.1 46) from by (first | omega | (simp only [st_s] <;> omega) | assumption | omega | fail)) (show 0 ≤ 0 ∧ 0 ≤ 1 from by (first | omega | (simp only [st_s] <;> omega) | assumption | omega | fail)) (show τ_220.2.1 92 = τ_52.2.1 92 from by (first | omega | (simp only [st_s] <;> omega) | assumption | omega | fail)) (show y_G (σ.1 46) (σ.1 48) (fun k => σ.2.1 84 k < n3) (fun k => σ.2.1 71 (σ.2.1 16 (σ.2.1 14 (σ.2.1 84 k)))) (fun k => σ.2.1 71 (σ.2.1 10 (σ.2.1 16 (σ.2.1 14 (σ.2.1 84 k) + 1)))) (fun s => σ.2.1 75 ((s * 61 + n1) * 61 + n2)) (fun s => τ_52.2.1 75 ((s * 61 + n1) * 61 + n2)) (τ_220.2.1 93) from by (first | exact i220_5 | (rw [show σ.1 48 = u5_92 from by omega]; exact i92_5) | (have w := y_G_x i92_5 i92_1 (σ.1 48 - u5_92).toNat (fun k a b => by (show ¬ σ.2.1 84 k < n3; rcases (by omega : k = u5_92 ∨ u5_92 < k) with q | q; (rw [q]; omega); (have m := p5 u5_92 k i92_1 q (by omega); omega))); rw [show u5_92 + ((σ.1 48 - u5_92).toNat : Int) = σ.1 48 from by omega] at w; exact w) | fail)) (show ∀ s : Int, 0 ≤ s → s < (u5_220 + 1) → (st (τ_220.2.1 75) x63 x68) ((s * 61 + n1) * 61 + n2) = τ_220.2.1 93 s from by (first | (intro s a b; exfalso; omega) | (intro s a b; rcases (by omega : s < u5_220 ∨ s = u5_220) with q | q; (rw [st_n _ _ (by omega)]; exact i220_6 s a q); (have gb2 := gb (by omega); rw [q, q62_1, st_s]; omega)) | fail)) (show ∀ e : Int, (∀ s : Int, 0 ≤ s → s < (u5_220 + 1) → e ≠ (s * 61 + n1) * 61 + n2) → (st (τ_220.2.1 75) x63 x68) e = τ_52.2.1 75 e from by (first | (intro e h; rw [st_n _ _ (by rw [q62_1]; exact h u5_220 (by omega) (by omega))]; exact i220_7 e (fun s a b => h s a (by omega))) | (intro e h; rw [i92_3]) | fail)) (show (0 = 0 ∧ ∀ s : Int, 0 ≤ s → s < (u5_220 + 1) → τ_220.2.1 93 s ≤ (fun s => τ_52.2.1 75 ((s * 61 + n1) * 61 + n2)) s) ∨ (0 = 1 ∧ ∃ s : Int, (0 ≤ s ∧ s < (u5_220 + 1)) ∧ (fun s => τ_52.2.1 75 ((s * 61 + n1) * 61 + n2)) s < τ_220.2.1 93 s) from by (first | exact Or.inl ⟨rfl, fun s a b => by exfalso; omega⟩ | (have q9 := i220_8; rcases q9 with ⟨q1, q2⟩ | ⟨q1, s, hs, ls⟩; (exfalso; omega); (exact Or.inr ⟨rfl, s, ⟨hs.1, by omega⟩, ls⟩)) | (have gb2 := gb (by omega); have q9 := i220_8; rcases q9 with ⟨q1, q2⟩ | ⟨q1, s, hs, ls⟩; (first | exact Or.inl ⟨rfl, fun s a b => by (rcases (by omega : s < u5_220 ∨ s = u5_220) with q | q; (exact q2 s a q); (rw [q]; show τ_220.2.1 93 u5_220 ≤ τ_52.2.1 75 ((u5_220 * 61 + n1) * 61 + n2); omega))⟩ | exact Or.inr ⟨rfl, u5_220, ⟨by omega, by omega⟩, by (show τ_52.2.1 75 ((u5_220 * 61 + n1) * 61 + n2) < τ_220.2.1 93 u5_220; omega)⟩); (exfalso; omega)) | fail)) (show u4_52 = 1 from by (first | omega | (simp only [st_s] <;> omega) | assumption | omega | fail))
              ·
                refine h265 _ _ _ _ _ _ ?_
                refine ⟨_, K_X13_wayAt hT (show 0 ≤ u5_220 ∧ u5_220 ≤ 99 from by (first | omega | (simp only [st_s] <;> omega) | assumption | omega | fail)) (show 0 ≤ n1 ∧ n1 ≤ 60 from by (first | omega | (simp only [st_s] <;> omega) | assumption | omega | fail)) (show 0 ≤ n2 ∧ n2 ≤ 60 from by (first | omega | (simp only [st_s] <;> omega) | assumption | omega | fail)), ?_⟩
                intro x63 r_x63 hq
                obtain ⟨q62_1, q62_2⟩ := hq
                replace q62_1 : x63 = (u5_220 * 61 + n1) * 61 + n2 := q62_1
                replace q62_2 : 0 ≤ x63 ∧ x63 < 372100 := q62_2
                refine ⟨(show 0 ≤ u5_220 ∧ u5_220 < 101 from by (first | omega | (simp only [st_s] <;> omega) | assumption | omega | fail)), ?_⟩
                intro x66 r_x66 e_x66
                have b_x66 : 0 ≤ x66 ∧ x66 ≤ 300 := by rw [e_x66]; exact hT.2 93 _
                refine ⟨_, K_X13_capped hT, ?_⟩
                intro x68 r_x68 hq
                have q67_1 := hq
                replace q67_1 : (x66 ≤ 2 ∧ x68 = x66) ∨ (2 < x66 ∧ x68 = 2) := q67_1
                refine ⟨(show 0 ≤ x63 ∧ x63 < 372100 from by (first | omega | (simp only [st_s] <;> omega) | assumption | omega | fail)), ?_⟩
                replace hT := mT_a (k := 75) (j := x63) hT (show (0 : Int) ≤ x68 ∧ x68 ≤ 3 from by (first | omega | (simp only [st_s] <;> omega) | assumption | omega | fail))
                refine ⟨(⟨by (first | omega | (simp only [st_s] <;> omega) | assumption | omega | fail), by (first | omega | (simp only [st_s] <;> omega) | assumption | omega | fail)⟩ : rg (u5_220 + 1)), ?_⟩
                exact ih_220 _ _ _ (show (101 - (u5_220 + 1) : Int) < ((m_220 : Nat) : Int) from by ((first | omega | (simp only [st_s] <;> omega) | assumption | omega | fail))) hT (show τ_220.1 46 = σ.1 46 from by first | exact W46 | omega) (show τ_220.1 48 = σ.1 48 from by first | exact W48 | omega) G10 G14 G16 G71 G84 (show 0 ≤ (u5_220 + 1) from by (first | omega | (simp only [st_s] <;> omega) | assumption | omega | fail)) (show (u5_220 + 1) ≤ (σ.1 46) from by (first | omega | (simp only [st_s] <;> omega) | assumption | omega | fail)) (show 0 ≤ 1 ∧ 1 ≤ 1 from by (first | omega | (simp only [st_s] <;> omega) | assumption | omega | fail)) (show τ_220.2.1 92 = τ_52.2.1 92 from by (first | omega | (simp only [st_s] <;> omega) | assumption | omega | fail)) (show y_G (σ.1 46) (σ.1 48) (fun k => σ.2.1 84 k < n3) (fun k => σ.2.1 71 (σ.2.1 16 (σ.2.1 14 (σ.2.1 84 k)))) (fun k => σ.2.1 71 (σ.2.1 10 (σ.2.1 16 (σ.2.1 14 (σ.2.1 84 k) + 1)))) (fun s => σ.2.1 75 ((s * 61 + n1) * 61 + n2)) (fun s => τ_52.2.1 75 ((s * 61 + n1) * 61 + n2)) (τ_220.2.1 93) from by (first | exact i220_5 | (rw [show σ.1 48 = u5_92 from by omega]; exact i92_5) | (have w := y_G_x i92_5 i92_1 (σ.1 48 - u5_92).toNat (fun k a b => by (show ¬ σ.2.1 84 k < n3; rcases (by omega : k = u5_92 ∨ u5_92 < k) with q | q; (rw [q]; omega); (have m := p5 u5_92 k i92_1 q (by omega); omega))); rw [show u5_92 + ((σ.1 48 - u5_92).toNat : Int) = σ.1 48 from by omega] at w; exact w) | fail)) (show ∀ s : Int, 0 ≤ s → s < (u5_220 + 1) → (st (τ_220.2.1 75) x63 x68) ((s * 61 + n1) * 61 + n2) = τ_220.2.1 93 s from by (first | (intro s a b; exfalso; omega) | (intro s a b; rcases (by omega : s < u5_220 ∨ s = u5_220) with q | q; (rw [st_n _ _ (by omega)]; exact i220_6 s a q); (have gb2 := gb (by omega); rw [q, q62_1, st_s]; omega)) | fail)) (show ∀ e : Int, (∀ s : Int, 0 ≤ s → s < (u5_220 + 1) → e ≠ (s * 61 + n1) * 61 + n2) → (st (τ_220.2.1 75) x63 x68) e = τ_52.2.1 75 e from by (first | (intro e h; rw [st_n _ _ (by rw [q62_1]; exact h u5_220 (by omega) (by omega))]; exact i220_7 e (fun s a b => h s a (by omega))) | (intro e h; rw [i92_3]) | fail)) (show (1 = 0 ∧ ∀ s : Int, 0 ≤ s → s < (u5_220 + 1) → τ_220.2.1 93 s ≤ (fun s => τ_52.2.1 75 ((s * 61 + n1) * 61 + n2)) s) ∨ (1 = 1 ∧ ∃ s : Int, (0 ≤ s ∧ s < (u5_220 + 1)) ∧ (fun s => τ_52.2.1 75 ((s * 61 + n1) * 61 + n2)) s < τ_220.2.1 93 s) from by (first | exact Or.inl ⟨rfl, fun s a b => by exfalso; omega⟩ | (have q9 := i220_8; rcases q9 with ⟨q1, q2⟩ | ⟨q1, s, hs, ls⟩; (exfalso; omega); (exact Or.inr ⟨rfl, s, ⟨hs.1, by omega⟩, ls⟩)) | (have gb2 := gb (by omega); have q9 := i220_8; rcases q9 with ⟨q1, q2⟩ | ⟨q1, s, hs, ls⟩; (first | exact Or.inl ⟨rfl, fun s a b => by (rcases (by omega : s < u5_220 ∨ s = u5_220) with q | q; (exact q2 s a q); (rw [q]; show τ_220.2.1 93 u5_220 ≤ τ_52.2.1 75 ((u5_220 * 61 + n1) * 61 + n2); omega))⟩ | exact Or.inr ⟨rfl, u5_220, ⟨by omega, by omega⟩, by (show τ_52.2.1 75 ((u5_220 * 61 + n1) * 61 + n2) < τ_220.2.1 93 u5_220; omega)⟩); (exfalso; omega)) | fail)) (show u4_52 = 1 from by (first | omega | (simp only [st_s] <;> omega) | assumption | omega | fail))
      have l_92 : ∀ (m_92 : Nat) (u5_92 : Int) (τ_92 : S0), 1501 - u5_92 < (m_92 : Int) → (m_T τ_92) → (τ_92.1 46 = σ.1 46) → (τ_92.1 48 = σ.1 48) → (τ_92.2.1 10 = σ.2.1 10) → (τ_92.2.1 14 = σ.2.1 14) → (τ_92.2.1 16 = σ.2.1 16) → (τ_92.2.1 71 = σ.2.1 71) → (τ_92.2.1 84 = σ.2.1 84) → (0 ≤ u5_92) → (u5_92 ≤ (σ.1 48)) → (τ_92.2.1 75 = τ_52.2.1 75) → (τ_92.2.1 92 = τ_52.2.1 92) → (y_G (σ.1 46) u5_92 (fun k => σ.2.1 84 k < n3) (fun k => σ.2.1 71 (σ.2.1 16 (σ.2.1 14 (σ.2.1 84 k)))) (fun k => σ.2.1 71 (σ.2.1 10 (σ.2.1 16 (σ.2.1 14 (σ.2.1 84 k) + 1)))) (fun s => σ.2.1 75 ((s * 61 + n1) * 61 + n2)) (fun s => τ_52.2.1 75 ((s * 61 + n1) * 61 + n2)) (τ_92.2.1 93)) → (u4_52 = 1) → P92 n1 n2 n3 u5_92 τ_92 := by
        intro m_92
        induction m_92 with
        | zero =>
          intro u5_92 τ_92 hm hT W46 W48 G10 G14 G16 G71 G84 i92_1 i92_2 i92_3 i92_4 i92_5 i92_6
          have A10 : ∀ j, (-1) ≤ τ_92.2.1 10 j ∧ τ_92.2.1 10 j ≤ 999 := fun j => hT.2 10 j
          have A14 : ∀ j, 0 ≤ τ_92.2.1 14 j ∧ τ_92.2.1 14 j ≤ 30000 := fun j => hT.2 14 j
          have A16 : ∀ j, 0 ≤ τ_92.2.1 16 j ∧ τ_92.2.1 16 j ≤ 999 := fun j => hT.2 16 j
          have A71 : ∀ j, (-1) ≤ τ_92.2.1 71 j ∧ τ_92.2.1 71 j ≤ 99 := fun j => hT.2 71 j
          have A75 : ∀ j, 0 ≤ τ_92.2.1 75 j ∧ τ_92.2.1 75 j ≤ 3 := fun j => hT.2 75 j
          have A84 : ∀ j, 0 ≤ τ_92.2.1 84 j ∧ τ_92.2.1 84 j ≤ 1499 := fun j => hT.2 84 j
          have A92 : ∀ j, 0 ≤ τ_92.2.1 92 j ∧ τ_92.2.1 92 j ≤ 3 := fun j => hT.2 92 j
          have A93 : ∀ j, 0 ≤ τ_92.2.1 93 j ∧ τ_92.2.1 93 j ≤ 300 := fun j => hT.2 93 j
          have v46 : 0 ≤ τ_92.1 46 ∧ τ_92.1 46 ≤ 100 := hT.1 46
          have v48 : 0 ≤ τ_92.1 48 ∧ τ_92.1 48 ≤ 1500 := hT.1 48
          exfalso; (first | omega | (simp only [st_s] <;> omega) | assumption | omega | fail)
        | succ m_92 ih_92 =>
          intro u5_92 τ_92 hm_92 hT W46 W48 G10 G14 G16 G71 G84 i92_1 i92_2 i92_3 i92_4 i92_5 i92_6
          have A10 : ∀ j, (-1) ≤ τ_92.2.1 10 j ∧ τ_92.2.1 10 j ≤ 999 := fun j => hT.2 10 j
          have A14 : ∀ j, 0 ≤ τ_92.2.1 14 j ∧ τ_92.2.1 14 j ≤ 30000 := fun j => hT.2 14 j
          have A16 : ∀ j, 0 ≤ τ_92.2.1 16 j ∧ τ_92.2.1 16 j ≤ 999 := fun j => hT.2 16 j
          have A71 : ∀ j, (-1) ≤ τ_92.2.1 71 j ∧ τ_92.2.1 71 j ≤ 99 := fun j => hT.2 71 j
          have A75 : ∀ j, 0 ≤ τ_92.2.1 75 j ∧ τ_92.2.1 75 j ≤ 3 := fun j => hT.2 75 j
          have A84 : ∀ j, 0 ≤ τ_92.2.1 84 j ∧ τ_92.2.1 84 j ≤ 1499 := fun j => hT.2 84 j
          have A92 : ∀ j, 0 ≤ τ_92.2.1 92 j ∧ τ_92.2.1 92 j ≤ 3 := fun j => hT.2 92 j
          have A93 : ∀ j, 0 ≤ τ_92.2.1 93 j ∧ τ_92.2.1 93 j ≤ 300 := fun j => hT.2 93 j
          have v46 : 0 ≤ τ_92.1 46 ∧ τ_92.1 46 ≤ 100 := hT.1 46
          have v48 : 0 ≤ τ_92.1 48 ∧ τ_92.1 48 ≤ 1500 := hT.1 48
          refine h92 n1 n2 n3 u5_92 τ_92 ?_
          refine ⟨fun c15 => ?_, fun c15 => ?_⟩
          ·
            exact l_220 ((101 - 0 : Int).toNat + 1) _ _ _ (show (101 - 0 : Int) < (((101 - 0 : Int).toNat + 1 : Nat) : Int) from by ((first | omega | (simp only [st_s] <;> omega) | assumption | omega | fail))) hT (show τ_92.1 46 = σ.1 46 from by first | exact W46 | omega) (show τ_92.1 48 = σ.1 48 from by first | exact W48 | omega) G10 G14 G16 G71 G84 (show 0 ≤ 0 from by (first | omega | (simp only [st_s] <;> omega) | assumption | omega | fail)) (show 0 ≤ (σ.1 46) from by (first | omega | (simp only [st_s] <;> omega) | assumption | omega | fail)) (show 0 ≤ 0 ∧ 0 ≤ 1 from by (first | omega | (simp only [st_s] <;> omega) | assumption | omega | fail)) (show τ_92.2.1 92 = τ_52.2.1 92 from by (first | omega | (simp only [st_s] <;> omega) | assumption | omega | fail)) (show y_G (σ.1 46) (σ.1 48) (fun k => σ.2.1 84 k < n3) (fun k => σ.2.1 71 (σ.2.1 16 (σ.2.1 14 (σ.2.1 84 k)))) (fun k => σ.2.1 71 (σ.2.1 10 (σ.2.1 16 (σ.2.1 14 (σ.2.1 84 k) + 1)))) (fun s => σ.2.1 75 ((s * 61 + n1) * 61 + n2)) (fun s => τ_52.2.1 75 ((s * 61 + n1) * 61 + n2)) (τ_92.2.1 93) from by (first | exact i220_5 | (rw [show σ.1 48 = u5_92 from by omega]; exact i92_5) | (have w := y_G_x i92_5 i92_1 (σ.1 48 - u5_92).toNat (fun k a b => by (show ¬ σ.2.1 84 k < n3; rcases (by omega : k = u5_92 ∨ u5_92 < k) with q | q; (rw [q]; omega); (have m := p5 u5_92 k i92_1 q (by omega); omega))); rw [show u5_92 + ((σ.1 48 - u5_92).toNat : Int) = σ.1 48 from by omega] at w; exact w) | fail)) (show ∀ s : Int, 0 ≤ s → s < 0 → τ_92.2.1 75 ((s * 61 + n1) * 61 + n2) = τ_92.2.1 93 s from by (first | (intro s a b; exfalso; omega) | (intro s a b; rcases (by omega : s < u5_220 ∨ s = u5_220) with q | q; (rw [st_n _ _ (by omega)]; exact i220_6 s a q); (have gb2 := gb (by omega); rw [q, q62_1, st_s]; omega)) | fail)) (show ∀ e : Int, (∀ s : Int, 0 ≤ s → s < 0 → e ≠ (s * 61 + n1) * 61 + n2) → τ_92.2.1 75 e = τ_52.2.1 75 e from by (first | (intro e h; rw [st_n _ _ (by rw [q62_1]; exact h u5_220 (by omega) (by omega))]; exact i220_7 e (fun s a b => h s a (by omega))) | (intro e h; rw [i92_3]) | fail)) (show (0 = 0 ∧ ∀ s : Int, 0 ≤ s → s < 0 → τ_92.2.1 93 s ≤ (fun s => τ_52.2.1 75 ((s * 61 + n1) * 61 + n2)) s) ∨ (0 = 1 ∧ ∃ s : Int, (0 ≤ s ∧ s < 0) ∧ (fun s => τ_52.2.1 75 ((s * 61 + n1) * 61 + n2)) s < τ_92.2.1 93 s) from by (first | exact Or.inl ⟨rfl, fun s a b => by exfalso; omega⟩ | (have q9 := i220_8; rcases q9 with ⟨q1, q2⟩ | ⟨q1, s, hs, ls⟩; (exfalso; omega); (exact Or.inr ⟨rfl, s, ⟨hs.1, by omega⟩, ls⟩)) | (have gb2 := gb (by omega); have q9 := i220_8; rcases q9 with ⟨q1, q2⟩ | ⟨q1, s, hs, ls⟩; (first | exact Or.inl ⟨rfl, fun s a b => by (rcases (by omega : s < u5_220 ∨ s = u5_220) with q | q; (exact q2 s a q); (rw [q]; show τ_220.2.1 93 u5_220 ≤ τ_52.2.1 75 ((u5_220 * 61 + n1) * 61 + n2); omega))⟩ | exact Or.inr ⟨rfl, u5_220, ⟨by omega, by omega⟩, by (show τ_52.2.1 75 ((u5_220 * 61 + n1) * 61 + n2) < τ_220.2.1 93 u5_220; omega)⟩); (exfalso; omega)) | fail)) (show u4_52 = 1 from by (first | omega | (simp only [st_s] <;> omega) | assumption | omega | fail))
          ·
            refine ⟨(show 0 ≤ u5_92 ∧ u5_92 < 1501 from by (first | omega | (simp only [st_s] <;> omega) | assumption | omega | fail)), ?_⟩
            intro x17 r_x17 e_x17
            have b_x17 : 0 ≤ x17 ∧ x17 ≤ 1499 := by rw [e_x17]; exact hT.2 84 _
            rw [G84] at e_x17
            refine ⟨fun c18 => ?_, fun c18 => ?_⟩
            ·
              have c17 : ¬ σ.1 48 ≤ u5_92 := by omega
              exact l_220 ((101 - 0 : Int).toNat + 1) _ _ _ (show (101 - 0 : Int) < (((101 - 0 : Int).toNat + 1 : Nat) : Int) from by ((first | omega | (simp only [st_s] <;> omega) | assumption | omega | fail))) hT (show τ_92.1 46 = σ.1 46 from by first | exact W46 | omega) (show τ_92.1 48 = σ.1 48 from by first | exact W48 | omega) G10 G14 G16 G71 G84 (show 0 ≤ 0 from by (first | omega | (simp only [st_s] <;> omega) | assumption | omega | fail)) (show 0 ≤ (σ.1 46) from by (first | omega | (simp only [st_s] <;> omega) | assumption | omega | fail)) (show 0 ≤ 0 ∧ 0 ≤ 1 from by (first | omega | (simp only [st_s] <;> omega) | assumption | omega | fail)) (show τ_92.2.1 92 = τ_52.2.1 92 from by (first | omega | (simp only [st_s] <;> omega) | assumption | omega | fail)) (show y_G (σ.1 46) (σ.1 48) (fun k => σ.2.1 84 k < n3) (fun k => σ.2.1 71 (σ.2.1 16 (σ.2.1 14 (σ.2.1 84 k)))) (fun k => σ.2.1 71 (σ.2.1 10 (σ.2.1 16 (σ.2.1 14 (σ.2.1 84 k) + 1)))) (fun s => σ.2.1 75 ((s * 61 + n1) * 61 + n2)) (fun s => τ_52.2.1 75 ((s * 61 + n1) * 61 + n2)) (τ_92.2.1 93) from by (first | exact i220_5 | (rw [show σ.1 48 = u5_92 from by omega]; exact i92_5) | (have w := y_G_x i92_5 i92_1 (σ.1 48 - u5_92).toNat (fun k a b => by (show ¬ σ.2.1 84 k < n3; rcases (by omega : k = u5_92 ∨ u5_92 < k) with q | q; (rw [q]; omega); (have m := p5 u5_92 k i92_1 q (by omega); omega))); rw [show u5_92 + ((σ.1 48 - u5_92).toNat : Int) = σ.1 48 from by omega] at w; exact w) | fail)) (show ∀ s : Int, 0 ≤ s → s < 0 → τ_92.2.1 75 ((s * 61 + n1) * 61 + n2) = τ_92.2.1 93 s from by (first | (intro s a b; exfalso; omega) | (intro s a b; rcases (by omega : s < u5_220 ∨ s = u5_220) with q | q; (rw [st_n _ _ (by omega)]; exact i220_6 s a q); (have gb2 := gb (by omega); rw [q, q62_1, st_s]; omega)) | fail)) (show ∀ e : Int, (∀ s : Int, 0 ≤ s → s < 0 → e ≠ (s * 61 + n1) * 61 + n2) → τ_92.2.1 75 e = τ_52.2.1 75 e from by (first | (intro e h; rw [st_n _ _ (by rw [q62_1]; exact h u5_220 (by omega) (by omega))]; exact i220_7 e (fun s a b => h s a (by omega))) | (intro e h; rw [i92_3]) | fail)) (show (0 = 0 ∧ ∀ s : Int, 0 ≤ s → s < 0 → τ_92.2.1 93 s ≤ (fun s => τ_52.2.1 75 ((s * 61 + n1) * 61 + n2)) s) ∨ (0 = 1 ∧ ∃ s : Int, (0 ≤ s ∧ s < 0) ∧ (fun s => τ_52.2.1 75 ((s * 61 + n1) * 61 + n2)) s < τ_92.2.1 93 s) from by (first | exact Or.inl ⟨rfl, fun s a b => by exfalso; omega⟩ | (have q9 := i220_8; rcases q9 with ⟨q1, q2⟩ | ⟨q1, s, hs, ls⟩; (exfalso; omega); (exact Or.inr ⟨rfl, s, ⟨hs.1, by omega⟩, ls⟩)) | (have gb2 := gb (by omega); have q9 := i220_8; rcases q9 with ⟨q1, q2⟩ | ⟨q1, s, hs, ls⟩; (first | exact Or.inl ⟨rfl, fun s a b => by (rcases (by omega : s < u5_220 ∨ s = u5_220) with q | q; (exact q2 s a q); (rw [q]; show τ_220.2.1 93 u5_220 ≤ τ_52.2.1 75 ((u5_220 * 61 + n1) * 61 + n2); omega))⟩ | exact Or.inr ⟨rfl, u5_220, ⟨by omega, by omega⟩, by (show τ_52.2.1 75 ((u5_220 * 61 + n1) * 61 + n2) < τ_220.2.1 93 u5_220; omega)⟩); (exfalso; omega)) | fail)) (show u4_52 = 1 from by (first | omega | (simp only [st_s] <;> omega) | assumption | omega | fail))
            ·
              have c17 : ¬ σ.1 48 ≤ u5_92 := by omega
              intro x19 r_x19 e_x19
              have b_x19 : 0 ≤ x19 ∧ x19 ≤ 1499 := by rw [e_x19]; exact hT.2 84 _
              refine ⟨(show 0 ≤ x19 ∧ x19 < 1501 from by (first | omega | (simp only [st_s] <;> omega) | assumption | omega | fail)), ?_⟩
              intro x21 r_x21 e_x21
              have b_x21 : 0 ≤ x21 ∧ x21 ≤ 30000 := by rw [e_x21]; exact hT.2 14 _
              refine ⟨(show 0 ≤ x21 ∧ x21 < 30400 from by (first | omega | (simp only [st_s] <;> omega) | assumption | omega | fail)), ?_⟩
              intro x23 r_x23 e_x23
              have b_x23 : 0 ≤ x23 ∧ x23 ≤ 999 := by rw [e_x23]; exact hT.2 16 _
              refine ⟨(show 0 ≤ x23 ∧ x23 < 1001 from by (first | omega | (simp only [st_s] <;> omega) | assumption | omega | fail)), ?_⟩
              intro x25 r_x25 e_x25
              have b_x25 : (-1) ≤ x25 ∧ x25 ≤ 99 := by rw [e_x25]; exact hT.2 71 _
              have t25 : σ.2.1 71 (σ.2.1 16 (σ.2.1 14 (σ.2.1 84 u5_92))) = x25 := by rw [e_x25, e_x23, e_x21, e_x19, G71, G16, G14, G84]
              have pk := p4 u5_92 i92_1 (by omega)
              have pk1 : 0 ≤ x25 ∧ x25 < σ.1 46 := by (have w := pk.1; rw [← t25]; exact w)
              intro x26 r_x26 e_x26
              have b_x26 : 0 ≤ x26 ∧ x26 ≤ 1499 := by rw [e_x26]; exact hT.2 84 _
              refine ⟨(show 0 ≤ x26 ∧ x26 < 1501 from by (first | omega | (simp only [st_s] <;> omega) | assumption | omega | fail)), ?_⟩
              intro x28 r_x28 e_x28
              have b_x28 : 0 ≤ x28 ∧ x28 ≤ 30000 := by rw [e_x28]; exact hT.2 14 _
              refine ⟨(show 0 ≤ (x28 + 1) ∧ (x28 + 1) < 30400 from by (first | omega | (simp only [st_s] <;> omega) | assumption | omega | fail)), ?_⟩
              intro x30 r_x30 e_x30
              have b_x30 : 0 ≤ x30 ∧ x30 ≤ 999 := by rw [e_x30]; exact hT.2 16 _
              refine ⟨(show 0 ≤ x30 ∧ x30 < 1001 from by (first | omega | (simp only [st_s] <;> omega) | assumption | omega | fail)), ?_⟩
              intro x32 r_x32 e_x32
              have b_x32 : (-1) ≤ x32 ∧ x32 ≤ 999 := by rw [e_x32]; exact hT.2 10 _
              have pk2 : 0 ≤ x32 := by (have w := pk.2.1; rw [e_x32, e_x30, e_x28, e_x26, G10, G16, G14, G84]; exact w)
              refine ⟨(show 0 ≤ x32 ∧ x32 < 1001 from by (first | omega | (simp only [st_s] <;> omega) | assumption | omega | fail)), ?_⟩
              intro x34 r_x34 e_x34
              have b_x34 : (-1) ≤ x34 ∧ x34 ≤ 99 := by rw [e_x34]; exact hT.2 71 _
              have t34 : σ.2.1 71 (σ.2.1 10 (σ.2.1 16 (σ.2.1 14 (σ.2.1 84 u5_92) + 1))) = x34 := by rw [e_x34, e_x32, e_x30, e_x28, e_x26, G71, G10, G16, G14, G84]
              have pk3 : x34 < σ.1 46 := by (have w := pk.2.2; rw [← t34]; exact w)
              refine ⟨(show 0 ≤ x25 ∧ x25 < 101 from by (first | omega | (simp only [st_s] <;> omega) | assumption | omega | fail)), ?_⟩
              intro x36 r_x36 e_x36
              have b_x36 : 0 ≤ x36 ∧ x36 ≤ 300 := by rw [e_x36]; exact hT.2 93 _
              have gb36 := (i92_5 x25 pk1.1 pk1.2).1
              rw [← e_x36] at gb36
              refine ⟨fun c37 => ?_, fun c37 => ?_⟩
              ·
                refine ⟨_, K_X13_wayAt hT (show 0 ≤ x34 ∧ x34 ≤ 99 from by (first | omega | (simp only [st_s] <;> omega) | assumption | omega | fail)) (show 0 ≤ n1 ∧ n1 ≤ 60 from by (first | omega | (simp only [st_s] <;> omega) | assumption | omega | fail)) (show 0 ≤ n2 ∧ n2 ≤ 60 from by (first | omega | (simp only [st_s] <;> omega) | assumption | omega | fail)), ?_⟩
                intro x39 r_x39 hq
                obtain ⟨q38_1, q38_2⟩ := hq
                replace q38_1 : x39 = (x34 * 61 + n1) * 61 + n2 := q38_1
                replace q38_2 : 0 ≤ x39 ∧ x39 < 372100 := q38_2
                refine ⟨(show 0 ≤ x39 ∧ x39 < 372100 from by (first | omega | (simp only [st_s] <;> omega) | assumption | omega | fail)), ?_⟩
                intro x42 r_x42 e_x42
                have b_x42 : 0 ≤ x42 ∧ x42 ≤ 3 := by rw [e_x42]; exact hT.2 75 _
                have w42 : x42 = τ_52.2.1 75 ((x34 * 61 + n1) * 61 + n2) := by rw [e_x42, q38_1, i92_3]
                have f42 := (i52_3 x34 (by omega) pk3).1
                have f42 : 0 ≤ x42 ∧ x42 ≤ 2 := by (rw [w42]; exact f42)
                refine h203 _ _ _ _ _ _ _ _ ?_
                refine ⟨(⟨by (first | omega | (simp only [st_s] <;> omega) | assumption | omega | fail), by (first | omega | (simp only [st_s] <;> omega) | assumption | omega | fail)⟩ : rg (x36 + x42)), ?_⟩
                refine ⟨_, K_X13_capped hT, ?_⟩
                intro x58 r_x58 hq
                have q57_1 := hq
                replace q57_1 : ((x36 + x42) ≤ 2 ∧ x58 = (x36 + x42)) ∨ (2 < (x36 + x42) ∧ x58 = 2) := q57_1
                have gs := y_G_s (x := x42) (y := x58) i92_5 i92_1 (show σ.2.1 84 u5_92 < n3 by omega) (show 0 ≤ σ.2.1 71 (σ.2.1 16 (σ.2.1 14 (σ.2.1 84 u5_92))) by omega) (show σ.2.1 71 (σ.2.1 16 (σ.2.1 14 (σ.2.1 84 u5_92))) < σ.1 46 by omega) (by first | exact Or.inl ⟨show σ.2.1 71 (σ.2.1 10 (σ.2.1 16 (σ.2.1 14 (σ.2.1 84 u5_92) + 1))) = -1 by omega, rfl⟩ | exact Or.inr ⟨show 0 ≤ σ.2.1 71 (σ.2.1 10 (σ.2.1 16 (σ.2.1 14 (σ.2.1 84 u5_92) + 1))) by omega, show x42 = τ_52.2.1 75 ((σ.2.1 71 (σ.2.1 10 (σ.2.1 16 (σ.2.1 14 (σ.2.1 84 u5_92) + 1))) * 61 + n1) * 61 + n2) by (rw [t34]; exact w42)⟩) (by omega) (show (τ_92.2.1 93 (σ.2.1 71 (σ.2.1 16 (σ.2.1 14 (σ.2.1 84 u5_92)))) + x42 ≤ 2 ∧ x58 = τ_92.2.1 93 (σ.2.1 71 (σ.2.1 16 (σ.2.1 14 (σ.2.1 84 u5_92)))) + x42) ∨ (2 < τ_92.2.1 93 (σ.2.1 71 (σ.2.1 16 (σ.2.1 14 (σ.2.1 84 u5_92)))) + x42 ∧ x58 = 2) by (rw [t25, ← e_x36]; exact q57_1))
                have gs : y_G (σ.1 46) (u5_92 + 1) (fun k => σ.2.1 84 k < n3) (fun k => σ.2.1 71 (σ.2.1 16 (σ.2.1 14 (σ.2.1 84 k)))) (fun k => σ.2.1 71 (σ.2.1 10 (σ.2.1 16 (σ.2.1 14 (σ.2.1 84 k) + 1)))) (fun s => σ.2.1 75 ((s * 61 + n1) * 61 + n2)) (fun s => τ_52.2.1 75 ((s * 61 + n1) * 61 + n2)) (st (τ_92.2.1 93) x25 x58) := by (rw [← t25]; exact gs)
                refine ⟨(show 0 ≤ x25 ∧ x25 < 101 from by (first | omega | (simp only [st_s] <;> omega) | assumption | omega | fail)), ?_⟩
                replace hT := mT_a (k := 93) (j := x25) hT (show (0 : Int) ≤ x58 ∧ x58 ≤ 300 from by (first | omega | (simp only [st_s] <;> omega) | assumption | omega | fail))
                refine ⟨(⟨by (first | omega | (simp only [st_s] <;> omega) | assumption | omega | fail), by (first | omega | (simp only [st_s] <;> omega) | assumption | omega | fail)⟩ : rg (u5_92 + 1)), ?_⟩
                exact ih_92 _ _ (show (1501 - (u5_92 + 1) : Int) < ((m_92 : Nat) : Int) from by ((first | omega | (simp only [st_s] <;> omega) | assumption | omega | fail))) hT (show τ_92.1 46 = σ.1 46 from by first | exact W46 | omega) (show τ_92.1 48 = σ.1 48 from by first | exact W48 | omega) G10 G14 G16 G71 G84 (show 0 ≤ (u5_92 + 1) from by (first | omega | (simp only [st_s] <;> omega) | assumption | omega | fail)) (show (u5_92 + 1) ≤ (σ.1 48) from by (first | omega | (simp only [st_s] <;> omega) | assumption | omega | fail)) (show τ_92.2.1 75 = τ_52.2.1 75 from by (first | omega | (simp only [st_s] <;> omega) | assumption | omega | fail)) (show τ_92.2.1 92 = τ_52.2.1 92 from by (first | omega | (simp only [st_s] <;> omega) | assumption | omega | fail)) (show y_G (σ.1 46) (u5_92 + 1) (fun k => σ.2.1 84 k < n3) (fun k => σ.2.1 71 (σ.2.1 16 (σ.2.1 14 (σ.2.1 84 k)))) (fun k => σ.2.1 71 (σ.2.1 10 (σ.2.1 16 (σ.2.1 14 (σ.2.1 84 k) + 1)))) (fun s => σ.2.1 75 ((s * 61 + n1) * 61 + n2)) (fun s => τ_52.2.1 75 ((s * 61 + n1) * 61 + n2)) ((st (τ_92.2.1 93) x25 x58)) from by (first | exact gs | exact y_G_0 (fun s a b => ⟨i60_5 s a (by omega), p3 s a b⟩) | fail)) (show u4_52 = 1 from by (first | omega | (simp only [st_s] <;> omega) | assumption | omega | fail))
              ·
                refine h203 _ _ _ _ _ _ _ _ ?_
                refine ⟨(⟨by (first | omega | (simp only [st_s] <;> omega) | assumption | omega | fail), by (first | omega | (simp only [st_s] <;> omega) | assumption | omega | fail)⟩ : rg (x36 + 0)), ?_⟩
                refine ⟨_, K_X13_capped hT, ?_⟩
                intro x58 r_x58 hq
                have q57_1 := hq
                replace q57_1 : ((x36 + 0) ≤ 2 ∧ x58 = (x36 + 0)) ∨ (2 < (x36 + 0) ∧ x58 = 2) := q57_1
                have gs := y_G_s (x := 0) (y := x58) i92_5 i92_1 (show σ.2.1 84 u5_92 < n3 by omega) (show 0 ≤ σ.2.1 71 (σ.2.1 16 (σ.2.1 14 (σ.2.1 84 u5_92))) by omega) (show σ.2.1 71 (σ.2.1 16 (σ.2.1 14 (σ.2.1 84 u5_92))) < σ.1 46 by omega) (by first | exact Or.inl ⟨show σ.2.1 71 (σ.2.1 10 (σ.2.1 16 (σ.2.1 14 (σ.2.1 84 u5_92) + 1))) = -1 by omega, rfl⟩ | exact Or.inr ⟨show 0 ≤ σ.2.1 71 (σ.2.1 10 (σ.2.1 16 (σ.2.1 14 (σ.2.1 84 u5_92) + 1))) by omega, show x42 = τ_52.2.1 75 ((σ.2.1 71 (σ.2.1 10 (σ.2.1 16 (σ.2.1 14 (σ.2.1 84 u5_92) + 1))) * 61 + n1) * 61 + n2) by (rw [t34]; exact w42)⟩) (by omega) (show (τ_92.2.1 93 (σ.2.1 71 (σ.2.1 16 (σ.2.1 14 (σ.2.1 84 u5_92)))) + 0 ≤ 2 ∧ x58 = τ_92.2.1 93 (σ.2.1 71 (σ.2.1 16 (σ.2.1 14 (σ.2.1 84 u5_92)))) + 0) ∨ (2 < τ_92.2.1 93 (σ.2.1 71 (σ.2.1 16 (σ.2.1 14 (σ.2.1 84 u5_92)))) + 0 ∧ x58 = 2) by (rw [t25, ← e_x36]; exact q57_1))
                have gs : y_G (σ.1 46) (u5_92 + 1) (fun k => σ.2.1 84 k < n3) (fun k => σ.2.1 71 (σ.2.1 16 (σ.2.1 14 (σ.2.1 84 k)))) (fun k => σ.2.1 71 (σ.2.1 10 (σ.2.1 16 (σ.2.1 14 (σ.2.1 84 k) + 1)))) (fun s => σ.2.1 75 ((s * 61 + n1) * 61 + n2)) (fun s => τ_52.2.1 75 ((s * 61 + n1) * 61 + n2)) (st (τ_92.2.1 93) x25 x58) := by (rw [← t25]; exact gs)
                refine ⟨(show 0 ≤ x25 ∧ x25 < 101 from by (first | omega | (simp only [st_s] <;> omega) | assumption | omega | fail)), ?_⟩
                replace hT := mT_a (k := 93) (j := x25) hT (show (0 : Int) ≤ x58 ∧ x58 ≤ 300 from by (first | omega | (simp only [st_s] <;> omega) | assumption | omega | fail))
                refine ⟨(⟨by (first | omega | (simp only [st_s] <;> omega) | assumption | omega | fail), by (first | omega | (simp only [st_s] <;> omega) | assumption | omega | fail)⟩ : rg (u5_92 + 1)), ?_⟩
                exact ih_92 _ _ (show (1501 - (u5_92 + 1) : Int) < ((m_92 : Nat) : Int) from by ((first | omega | (simp only [st_s] <;> omega) | assumption | omega | fail))) hT (show τ_92.1 46 = σ.1 46 from by first | exact W46 | omega) (show τ_92.1 48 = σ.1 48 from by first | exact W48 | omega) G10 G14 G16 G71 G84 (show 0 ≤ (u5_92 + 1) from by (first | omega | (simp only [st_s] <;> omega) | assumption | omega | fail)) (show (u5_92 + 1) ≤ (σ.1 48) from by (first | omega | (simp only [st_s] <;> omega) | assumption | omega | fail)) (show τ_92.2.1 75 = τ_52.2.1 75 from by (first | omega | (simp only [st_s] <;> omega) | assumption | omega | fail)) (show τ_92.2.1 92 = τ_52.2.1 92 from by (first | omega | (simp only [st_s] <;> omega) | assumption | omega | fail)) (show y_G (σ.1 46) (u5_92 + 1) (fun k => σ.2.1 84 k < n3) (fun k => σ.2.1 71 (σ.2.1 16 (σ.2.1 14 (σ.2.1 84 k)))) (fun k => σ.2.1 71 (σ.2.1 10 (σ.2.1 16 (σ.2.1 14 (σ.2.1 84 k) + 1)))) (fun s => σ.2.1 75 ((s * 61 + n1) * 61 + n2)) (fun s => τ_52.2.1 75 ((s * 61 + n1) * 61 + n2)) ((st (τ_92.2.1 93) x25 x58)) from by (first | exact gs | exact y_G_0 (fun s a b => ⟨i60_5 s a (by omega), p3 s a b⟩) | fail)) (show u4_52 = 1 from by (first | omega | (simp only [st_s] <;> omega) | assumption | omega | fail))
      have l_60 : ∀ (m_60 : Nat) (u5_60 : Int) (τ_60 : S0), 101 - u5_60 < (m_60 : Int) → (m_T τ_60) → (τ_60.1 46 = σ.1 46) → (τ_60.1 48 = σ.1 48) → (τ_60.2.1 10 = σ.2.1 10) → (τ_60.2.1 14 = σ.2.1 14) → (τ_60.2.1 16 = σ.2.1 16) → (τ_60.2.1 71 = σ.2.1 71) → (τ_60.2.1 84 = σ.2.1 84) → (0 ≤ u5_60) → (u5_60 ≤ 100) → (τ_60.2.1 75 = τ_52.2.1 75) → (τ_60.2.1 92 = τ_52.2.1 92) → (∀ s : Int, 0 ≤ s → s < u5_60 → τ_60.2.1 93 s = σ.2.1 75 ((s * 61 + n1) * 61 + n2)) → (u4_52 = 1) → P60 n1 n2 n3 u5_60 τ_60 := by
        intro m_60
        induction m_60 with
        | zero =>
          intro u5_60 τ_60 hm hT W46 W48 G10 G14 G16 G71 G84 i60_1 i60_2 i60_3 i60_4 i60_5 i60_6
          have A10 : ∀ j, (-1) ≤ τ_60.2.1 10 j ∧ τ_60.2.1 10 j ≤ 999 := fun j => hT.2 10 j
          have A14 : ∀ j, 0 ≤ τ_60.2.1 14 j ∧ τ_60.2.1 14 j ≤ 30000 := fun j => hT.2 14 j
          have A16 : ∀ j, 0 ≤ τ_60.2.1 16 j ∧ τ_60.2.1 16 j ≤ 999 := fun j => hT.2 16 j
          have A71 : ∀ j, (-1) ≤ τ_60.2.1 71 j ∧ τ_60.2.1 71 j ≤ 99 := fun j => hT.2 71 j
          have A75 : ∀ j, 0 ≤ τ_60.2.1 75 j ∧ τ_60.2.1 75 j ≤ 3 := fun j => hT.2 75 j
          have A84 : ∀ j, 0 ≤ τ_60.2.1 84 j ∧ τ_60.2.1 84 j ≤ 1499 := fun j => hT.2 84 j
          have A92 : ∀ j, 0 ≤ τ_60.2.1 92 j ∧ τ_60.2.1 92 j ≤ 3 := fun j => hT.2 92 j
          have A93 : ∀ j, 0 ≤ τ_60.2.1 93 j ∧ τ_60.2.1 93 j ≤ 300 := fun j => hT.2 93 j
          have v46 : 0 ≤ τ_60.1 46 ∧ τ_60.1 46 ≤ 100 := hT.1 46
          have v48 : 0 ≤ τ_60.1 48 ∧ τ_60.1 48 ≤ 1500 := hT.1 48
          exfalso; (first | omega | (simp only [st_s] <;> omega) | assumption | omega | fail)
        | succ m_60 ih_60 =>
          intro u5_60 τ_60 hm_60 hT W46 W48 G10 G14 G16 G71 G84 i60_1 i60_2 i60_3 i60_4 i60_5 i60_6
          have A10 : ∀ j, (-1) ≤ τ_60.2.1 10 j ∧ τ_60.2.1 10 j ≤ 999 := fun j => hT.2 10 j
          have A14 : ∀ j, 0 ≤ τ_60.2.1 14 j ∧ τ_60.2.1 14 j ≤ 30000 := fun j => hT.2 14 j
          have A16 : ∀ j, 0 ≤ τ_60.2.1 16 j ∧ τ_60.2.1 16 j ≤ 999 := fun j => hT.2 16 j
          have A71 : ∀ j, (-1) ≤ τ_60.2.1 71 j ∧ τ_60.2.1 71 j ≤ 99 := fun j => hT.2 71 j
          have A75 : ∀ j, 0 ≤ τ_60.2.1 75 j ∧ τ_60.2.1 75 j ≤ 3 := fun j => hT.2 75 j
          have A84 : ∀ j, 0 ≤ τ_60.2.1 84 j ∧ τ_60.2.1 84 j ≤ 1499 := fun j => hT.2 84 j
          have A92 : ∀ j, 0 ≤ τ_60.2.1 92 j ∧ τ_60.2.1 92 j ≤ 3 := fun j => hT.2 92 j
          have A93 : ∀ j, 0 ≤ τ_60.2.1 93 j ∧ τ_60.2.1 93 j ≤ 300 := fun j => hT.2 93 j
          have v46 : 0 ≤ τ_60.1 46 ∧ τ_60.1 46 ≤ 100 := hT.1 46
          have v48 : 0 ≤ τ_60.1 48 ∧ τ_60.1 48 ≤ 1500 := hT.1 48
          refine h60 n1 n2 n3 u5_60 τ_60 ?_
          refine ⟨fun c11 => ?_, fun c11 => ?_⟩
          ·
            exact l_92 ((1501 - 0 : Int).toNat + 1) _ _ (show (1501 - 0 : Int) < (((1501 - 0 : Int).toNat + 1 : Nat) : Int) from by ((first | omega | (simp only [st_s] <;> omega) | assumption | omega | fail))) hT (show τ_60.1 46 = σ.1 46 from by first | exact W46 | omega) (show τ_60.1 48 = σ.1 48 from by first | exact W48 | omega) G10 G14 G16 G71 G84 (show 0 ≤ 0 from by (first | omega | (simp only [st_s] <;> omega) | assumption | omega | fail)) (show 0 ≤ (σ.1 48) from by (first | omega | (simp only [st_s] <;> omega) | assumption | omega | fail)) (show τ_60.2.1 75 = τ_52.2.1 75 from by (first | omega | (simp only [st_s] <;> omega) | assumption | omega | fail)) (show τ_60.2.1 92 = τ_52.2.1 92 from by (first | omega | (simp only [st_s] <;> omega) | assumption | omega | fail)) (show y_G (σ.1 46) 0 (fun k => σ.2.1 84 k < n3) (fun k => σ.2.1 71 (σ.2.1 16 (σ.2.1 14 (σ.2.1 84 k)))) (fun k => σ.2.1 71 (σ.2.1 10 (σ.2.1 16 (σ.2.1 14 (σ.2.1 84 k) + 1)))) (fun s => σ.2.1 75 ((s * 61 + n1) * 61 + n2)) (fun s => τ_52.2.1 75 ((s * 61 + n1) * 61 + n2)) (τ_60.2.1 93) from by (first | exact gs | exact y_G_0 (fun s a b => ⟨i60_5 s a (by omega), p3 s a b⟩) | fail)) (show u4_52 = 1 from by (first | omega | (simp only [st_s] <;> omega) | assumption | omega | fail))
          ·
            refine ⟨(show 0 ≤ u5_60 ∧ u5_60 < 101 from by (first | omega | (simp only [st_s] <;> omega) | assumption | omega | fail)), ?_⟩
            intro x13 r_x13 e_x13
            have b_x13 : 0 ≤ x13 ∧ x13 ≤ 3 := by rw [e_x13]; exact hT.2 92 _
            have b13 : x13 = σ.2.1 75 ((u5_60 * 61 + n1) * 61 + n2) := by (rw [e_x13, i60_4]; exact i52_2 _ (by omega) (by omega))
            replace hT := mT_a (k := 93) (j := u5_60) hT (show (0 : Int) ≤ x13 ∧ x13 ≤ 300 from by (first | omega | (simp only [st_s] <;> omega) | assumption | omega | fail))
            refine ⟨(⟨by (first | omega | (simp only [st_s] <;> omega) | assumption | omega | fail), by (first | omega | (simp only [st_s] <;> omega) | assumption | omega | fail)⟩ : rg (u5_60 + 1)), ?_⟩
            exact ih_60 _ _ (show (101 - (u5_60 + 1) : Int) < ((m_60 : Nat) : Int) from by ((first | omega | (simp only [st_s] <;> omega) | assumption | omega | fail))) hT (show τ_60.1 46 = σ.1 46 from by first | exact W46 | omega) (show τ_60.1 48 = σ.1 48 from by first | exact W48 | omega) G10 G14 G16 G71 G84 (show 0 ≤ (u5_60 + 1) from by (first | omega | (simp only [st_s] <;> omega) | assumption | omega | fail)) (show (u5_60 + 1) ≤ 100 from by (first | omega | (simp only [st_s] <;> omega) | assumption | omega | fail)) (show τ_60.2.1 75 = τ_52.2.1 75 from by (first | omega | (simp only [st_s] <;> omega) | assumption | omega | fail)) (show τ_60.2.1 92 = τ_52.2.1 92 from by (first | omega | (simp only [st_s] <;> omega) | assumption | omega | fail)) (show ∀ s : Int, 0 ≤ s → s < (u5_60 + 1) → (st (τ_60.2.1 93) u5_60 x13) s = σ.2.1 75 ((s * 61 + n1) * 61 + n2) from by (first | (intro s a b; exfalso; omega) | (intro s a b; rcases (by omega : s < u5_60 ∨ s = u5_60) with q | q; (rw [st_n _ _ (by omega)]; exact i60_5 s a q); (rw [q, st_s]; exact b13)) | fail)) (show u4_52 = 1 from by (first | omega | (simp only [st_s] <;> omega) | assumption | omega | fail))
      refine h52 n1 n2 n3 u4_52 τ_52 ?_
      refine ⟨fun c10 => ?_, fun c10 => ?_⟩
      ·
        exact ⟨hT, (show y_FF (σ.1 46) (σ.1 48) (fun k => σ.2.1 84 k < n3) (fun k => σ.2.1 71 (σ.2.1 16 (σ.2.1 14 (σ.2.1 84 k)))) (fun k => σ.2.1 71 (σ.2.1 10 (σ.2.1 16 (σ.2.1 14 (σ.2.1 84 k) + 1)))) (fun s => σ.2.1 75 ((s * 61 + n1) * 61 + n2)) (fun s => τ_52.2.1 75 ((s * 61 + n1) * 61 + n2))  from by exact i52_6 (by omega)), (show ∃ ρ : Int → Int, y_rk (σ.1 46) (σ.1 48) (fun k => σ.2.1 84 k < n3) (fun k => σ.2.1 71 (σ.2.1 16 (σ.2.1 14 (σ.2.1 84 k)))) (fun k => σ.2.1 71 (σ.2.1 10 (σ.2.1 16 (σ.2.1 14 (σ.2.1 84 k) + 1)))) (fun s => σ.2.1 75 ((s * 61 + n1) * 61 + n2)) (fun s => τ_52.2.1 75 ((s * 61 + n1) * 61 + n2)) ρ from by exact i52_4), (show ∀ e : Int, (∀ s : Int, 0 ≤ s → s < (σ.1 46) → e ≠ (s * 61 + n1) * 61 + n2) → τ_52.2.1 75 e = σ.2.1 75 e from by exact i52_5)⟩
      ·
        exact l_60 ((101 - 0 : Int).toNat + 1) _ _ (show (101 - 0 : Int) < (((101 - 0 : Int).toNat + 1 : Nat) : Int) from by ((first | omega | (simp only [st_s] <;> omega) | assumption | omega | fail))) hT (show τ_52.1 46 = σ.1 46 from by first | exact W46 | omega) (show τ_52.1 48 = σ.1 48 from by first | exact W48 | omega) G10 G14 G16 G71 G84 (show 0 ≤ 0 from by (first | omega | (simp only [st_s] <;> omega) | assumption | omega | fail)) (show 0 ≤ 100 from by (first | omega | (simp only [st_s] <;> omega) | assumption | omega | fail)) (show τ_52.2.1 75 = τ_52.2.1 75 from by (first | omega | (simp only [st_s] <;> omega) | assumption | omega | fail)) (show τ_52.2.1 92 = τ_52.2.1 92 from by (first | omega | (simp only [st_s] <;> omega) | assumption | omega | fail)) (show ∀ s : Int, 0 ≤ s → s < 0 → τ_52.2.1 93 s = σ.2.1 75 ((s * 61 + n1) * 61 + n2) from by (first | (intro s a b; exfalso; omega) | (intro s a b; rcases (by omega : s < u5_60 ∨ s = u5_60) with q | q; (rw [st_n _ _ (by omega)]; exact i60_5 s a q); (rw [q, st_s]; exact b13)) | fail)) (show u4_52 = 1 from by (first | omega | (simp only [st_s] <;> omega) | assumption | omega | fail))
  have l_3 : ∀ (m_3 : Nat) (u4_3 : Int) (τ_3 : S0), 101 - u4_3 < (m_3 : Int) → (m_T τ_3) → (τ_3.1 46 = σ.1 46) → (τ_3.1 48 = σ.1 48) → (τ_3.2.1 10 = σ.2.1 10) → (τ_3.2.1 14 = σ.2.1 14) → (τ_3.2.1 16 = σ.2.1 16) → (τ_3.2.1 71 = σ.2.1 71) → (τ_3.2.1 84 = σ.2.1 84) → (0 ≤ u4_3) → (u4_3 ≤ 100) → (τ_3.2.1 75 = σ.2.1 75) → (∀ s : Int, 0 ≤ s → s < u4_3 → τ_3.2.1 92 s = σ.2.1 75 ((s * 61 + n1) * 61 + n2)) → P3 n1 n2 n3 u4_3 τ_3 := by
    intro m_3
    induction m_3 with
    | zero =>
      intro u4_3 τ_3 hm hT W46 W48 G10 G14 G16 G71 G84 i3_1 i3_2 i3_3 i3_4
      have A10 : ∀ j, (-1) ≤ τ_3.2.1 10 j ∧ τ_3.2.1 10 j ≤ 999 := fun j => hT.2 10 j
      have A14 : ∀ j, 0 ≤ τ_3.2.1 14 j ∧ τ_3.2.1 14 j ≤ 30000 := fun j => hT.2 14 j
      have A16 : ∀ j, 0 ≤ τ_3.2.1 16 j ∧ τ_3.2.1 16 j ≤ 999 := fun j => hT.2 16 j
      have A71 : ∀ j, (-1) ≤ τ_3.2.1 71 j ∧ τ_3.2.1 71 j ≤ 99 := fun j => hT.2 71 j
      have A75 : ∀ j, 0 ≤ τ_3.2.1 75 j ∧ τ_3.2.1 75 j ≤ 3 := fun j => hT.2 75 j
      have A84 : ∀ j, 0 ≤ τ_3.2.1 84 j ∧ τ_3.2.1 84 j ≤ 1499 := fun j => hT.2 84 j
      have A92 : ∀ j, 0 ≤ τ_3.2.1 92 j ∧ τ_3.2.1 92 j ≤ 3 := fun j => hT.2 92 j
      have A93 : ∀ j, 0 ≤ τ_3.2.1 93 j ∧ τ_3.2.1 93 j ≤ 300 := fun j => hT.2 93 j
      have v46 : 0 ≤ τ_3.1 46 ∧ τ_3.1 46 ≤ 100 := hT.1 46
      have v48 : 0 ≤ τ_3.1 48 ∧ τ_3.1 48 ≤ 1500 := hT.1 48
      exfalso; (first | omega | (simp only [st_s] <;> omega) | assumption | omega | fail)
    | succ m_3 ih_3 =>
      intro u4_3 τ_3 hm_3 hT W46 W48 G10 G14 G16 G71 G84 i3_1 i3_2 i3_3 i3_4
      have A10 : ∀ j, (-1) ≤ τ_3.2.1 10 j ∧ τ_3.2.1 10 j ≤ 999 := fun j => hT.2 10 j
      have A14 : ∀ j, 0 ≤ τ_3.2.1 14 j ∧ τ_3.2.1 14 j ≤ 30000 := fun j => hT.2 14 j
      have A16 : ∀ j, 0 ≤ τ_3.2.1 16 j ∧ τ_3.2.1 16 j ≤ 999 := fun j => hT.2 16 j
      have A71 : ∀ j, (-1) ≤ τ_3.2.1 71 j ∧ τ_3.2.1 71 j ≤ 99 := fun j => hT.2 71 j
      have A75 : ∀ j, 0 ≤ τ_3.2.1 75 j ∧ τ_3.2.1 75 j ≤ 3 := fun j => hT.2 75 j
      have A84 : ∀ j, 0 ≤ τ_3.2.1 84 j ∧ τ_3.2.1 84 j ≤ 1499 := fun j => hT.2 84 j
      have A92 : ∀ j, 0 ≤ τ_3.2.1 92 j ∧ τ_3.2.1 92 j ≤ 3 := fun j => hT.2 92 j
      have A93 : ∀ j, 0 ≤ τ_3.2.1 93 j ∧ τ_3.2.1 93 j ≤ 300 := fun j => hT.2 93 j
      have v46 : 0 ≤ τ_3.1 46 ∧ τ_3.1 46 ≤ 100 := hT.1 46
      have v48 : 0 ≤ τ_3.1 48 ∧ τ_3.1 48 ≤ 1500 := hT.1 48
      refine h3 n1 n2 n3 u4_3 τ_3 ?_
      refine ⟨fun c1 => ?_, fun c1 => ?_⟩
      ·
        refine ⟨fun c2 => ?_, fun c2 => ?_⟩
        ·
          exact l_52 ((2 * (201 - sm (fun s => τ_3.2.1 75 ((s * 61 + n1) * 61 + n2)) (σ.1 46)) + 0 : Int).toNat + 1) _ _ (show (2 * (201 - sm (fun s => τ_3.2.1 75 ((s * 61 + n1) * 61 + n2)) (σ.1 46)) + 0 : Int) < (((2 * (201 - sm (fun s => τ_3.2.1 75 ((s * 61 + n1) * 61 + n2)) (σ.1 46)) + 0 : Int).toNat + 1 : Nat) : Int) from by ((first | omega | (have rd := rd (by omega); have q9 := i220_8; rcases q9 with ⟨q1, q2⟩ | ⟨q1, q2⟩; (have r1 := rd.2.2.2.1; omega); (have r2 := rd.2.2.2.2 (by (have q9 := q2; obtain ⟨s, hs, ls⟩ := q9; exact ⟨s, ⟨hs.1, by omega⟩, ls⟩)); omega)) | fail))) hT (show τ_3.1 46 = σ.1 46 from by first | exact W46 | omega) (show τ_3.1 48 = σ.1 48 from by first | exact W48 | omega) G10 G14 G16 G71 G84 (show 0 ≤ 0 ∧ 0 ≤ 1 from by (first | omega | (simp only [st_s] <;> omega) | assumption | omega | fail)) (show ∀ s : Int, 0 ≤ s → s < (σ.1 46) → τ_3.2.1 92 s = σ.2.1 75 ((s * 61 + n1) * 61 + n2) from by (first | (rw [i220_4]; exact i52_2) | (intro s a b; exact i3_4 s a (by omega)) | fail)) (show y_F (σ.1 46) (σ.1 48) (fun k => σ.2.1 84 k < n3) (fun k => σ.2.1 71 (σ.2.1 16 (σ.2.1 14 (σ.2.1 84 k)))) (fun k => σ.2.1 71 (σ.2.1 10 (σ.2.1 16 (σ.2.1 14 (σ.2.1 84 k) + 1)))) (fun s => σ.2.1 75 ((s * 61 + n1) * 61 + n2)) (fun s => τ_3.2.1 75 ((s * 61 + n1) * 61 + n2))  from by (first | exact (rd (by omega)).1 | (rw [i3_3]; exact (y_F_0 (fun s a b => ⟨rfl, p3 s a b⟩)).1) | fail)) (show ∃ ρ : Int → Int, y_rk (σ.1 46) (σ.1 48) (fun k => σ.2.1 84 k < n3) (fun k => σ.2.1 71 (σ.2.1 16 (σ.2.1 14 (σ.2.1 84 k)))) (fun k => σ.2.1 71 (σ.2.1 10 (σ.2.1 16 (σ.2.1 14 (σ.2.1 84 k) + 1)))) (fun s => σ.2.1 75 ((s * 61 + n1) * 61 + n2)) (fun s => τ_3.2.1 75 ((s * 61 + n1) * 61 + n2)) ρ from by (first | exact (rd (by omega)).2.1 | (rw [i3_3]; exact ⟨_, y_rk_0 (fun s a b => rfl)⟩) | fail)) (show ∀ e : Int, (∀ s : Int, 0 ≤ s → s < (σ.1 46) → e ≠ (s * 61 + n1) * 61 + n2) → τ_3.2.1 75 e = σ.2.1 75 e from by (first | exact fun e h => (i220_7 e (fun s a b => h s a (by omega))).trans (i52_5 e h) | (rw [i3_3]; exact fun e h => rfl) | fail)) (show 0 = 0 → y_FF (σ.1 46) (σ.1 48) (fun k => σ.2.1 84 k < n3) (fun k => σ.2.1 71 (σ.2.1 16 (σ.2.1 14 (σ.2.1 84 k)))) (fun k => σ.2.1 71 (σ.2.1 10 (σ.2.1 16 (σ.2.1 14 (σ.2.1 84 k) + 1)))) (fun s => σ.2.1 75 ((s * 61 + n1) * 61 + n2)) (fun s => τ_3.2.1 75 ((s * 61 + n1) * 61 + n2))  from by (first | (intro z; exfalso; omega) | (intro z; have q9 := i220_8; rcases q9 with ⟨_, q⟩ | ⟨q, _⟩; (exact (rd (by omega)).2.2.1 (fun s a b => q s a (by omega))); (exfalso; omega)) | (rw [i3_3]; exact fun z => (y_F_0 (fun s a b => ⟨rfl, p3 s a b⟩)).2 (by omega)) | fail))
        ·
          exact l_52 ((2 * (201 - sm (fun s => τ_3.2.1 75 ((s * 61 + n1) * 61 + n2)) (σ.1 46)) + 1 : Int).toNat + 1) _ _ (show (2 * (201 - sm (fun s => τ_3.2.1 75 ((s * 61 + n1) * 61 + n2)) (σ.1 46)) + 1 : Int) < (((2 * (201 - sm (fun s => τ_3.2.1 75 ((s * 61 + n1) * 61 + n2)) (σ.1 46)) + 1 : Int).toNat + 1 : Nat) : Int) from by ((first | omega | (have rd := rd (by omega); have q9 := i220_8; rcases q9 with ⟨q1, q2⟩ | ⟨q1, q2⟩; (have r1 := rd.2.2.2.1; omega); (have r2 := rd.2.2.2.2 (by (have q9 := q2; obtain ⟨s, hs, ls⟩ := q9; exact ⟨s, ⟨hs.1, by omega⟩, ls⟩)); omega)) | fail))) hT (show τ_3.1 46 = σ.1 46 from by first | exact W46 | omega) (show τ_3.1 48 = σ.1 48 from by first | exact W48 | omega) G10 G14 G16 G71 G84 (show 0 ≤ 1 ∧ 1 ≤ 1 from by (first | omega | (simp only [st_s] <;> omega) | assumption | omega | fail)) (show ∀ s : Int, 0 ≤ s → s < (σ.1 46) → τ_3.2.1 92 s = σ.2.1 75 ((s * 61 + n1) * 61 + n2) from by (first | (rw [i220_4]; exact i52_2) | (intro s a b; exact i3_4 s a (by omega)) | fail)) (show y_F (σ.1 46) (σ.1 48) (fun k => σ.2.1 84 k < n3) (fun k => σ.2.1 71 (σ.2.1 16 (σ.2.1 14 (σ.2.1 84 k)))) (fun k => σ.2.1 71 (σ.2.1 10 (σ.2.1 16 (σ.2.1 14 (σ.2.1 84 k) + 1)))) (fun s => σ.2.1 75 ((s * 61 + n1) * 61 + n2)) (fun s => τ_3.2.1 75 ((s * 61 + n1) * 61 + n2))  from by (first | exact (rd (by omega)).1 | (rw [i3_3]; exact (y_F_0 (fun s a b => ⟨rfl, p3 s a b⟩)).1) | fail)) (show ∃ ρ : Int → Int, y_rk (σ.1 46) (σ.1 48) (fun k => σ.2.1 84 k < n3) (fun k => σ.2.1 71 (σ.2.1 16 (σ.2.1 14 (σ.2.1 84 k)))) (fun k => σ.2.1 71 (σ.2.1 10 (σ.2.1 16 (σ.2.1 14 (σ.2.1 84 k) + 1)))) (fun s => σ.2.1 75 ((s * 61 + n1) * 61 + n2)) (fun s => τ_3.2.1 75 ((s * 61 + n1) * 61 + n2)) ρ from by (first | exact (rd (by omega)).2.1 | (rw [i3_3]; exact ⟨_, y_rk_0 (fun s a b => rfl)⟩) | fail)) (show ∀ e : Int, (∀ s : Int, 0 ≤ s → s < (σ.1 46) → e ≠ (s * 61 + n1) * 61 + n2) → τ_3.2.1 75 e = σ.2.1 75 e from by (first | exact fun e h => (i220_7 e (fun s a b => h s a (by omega))).trans (i52_5 e h) | (rw [i3_3]; exact fun e h => rfl) | fail)) (show 1 = 0 → y_FF (σ.1 46) (σ.1 48) (fun k => σ.2.1 84 k < n3) (fun k => σ.2.1 71 (σ.2.1 16 (σ.2.1 14 (σ.2.1 84 k)))) (fun k => σ.2.1 71 (σ.2.1 10 (σ.2.1 16 (σ.2.1 14 (σ.2.1 84 k) + 1)))) (fun s => σ.2.1 75 ((s * 61 + n1) * 61 + n2)) (fun s => τ_3.2.1 75 ((s * 61 + n1) * 61 + n2))  from by (first | (intro z; exfalso; omega) | (intro z; have q9 := i220_8; rcases q9 with ⟨_, q⟩ | ⟨q, _⟩; (exact (rd (by omega)).2.2.1 (fun s a b => q s a (by omega))); (exfalso; omega)) | (rw [i3_3]; exact fun z => (y_F_0 (fun s a b => ⟨rfl, p3 s a b⟩)).2 (by omega)) | fail))
      ·
        refine ⟨_, K_X13_wayAt hT (show 0 ≤ u4_3 ∧ u4_3 ≤ 99 from by (first | omega | (simp only [st_s] <;> omega) | assumption | omega | fail)) (show 0 ≤ n1 ∧ n1 ≤ 60 from by (first | omega | (simp only [st_s] <;> omega) | assumption | omega | fail)) (show 0 ≤ n2 ∧ n2 ≤ 60 from by (first | omega | (simp only [st_s] <;> omega) | assumption | omega | fail)), ?_⟩
        intro x4 r_x4 hq
        obtain ⟨q3_1, q3_2⟩ := hq
        replace q3_1 : x4 = (u4_3 * 61 + n1) * 61 + n2 := q3_1
        replace q3_2 : 0 ≤ x4 ∧ x4 < 372100 := q3_2
        refine ⟨(show 0 ≤ x4 ∧ x4 < 372100 from by (first | omega | (simp only [st_s] <;> omega) | assumption | omega | fail)), ?_⟩
        intro x7 r_x7 e_x7
        have b_x7 : 0 ≤ x7 ∧ x7 ≤ 3 := by rw [e_x7]; exact hT.2 75 _
        refine ⟨(show 0 ≤ u4_3 ∧ u4_3 < 101 from by (first | omega | (simp only [st_s] <;> omega) | assumption | omega | fail)), ?_⟩
        replace hT := mT_a (k := 92) (j := u4_3) hT (show (0 : Int) ≤ x7 ∧ x7 ≤ 3 from by (first | omega | (simp only [st_s] <;> omega) | assumption | omega | fail))
        refine ⟨(⟨by (first | omega | (simp only [st_s] <;> omega) | assumption | omega | fail), by (first | omega | (simp only [st_s] <;> omega) | assumption | omega | fail)⟩ : rg (u4_3 + 1)), ?_⟩
        exact ih_3 _ _ (show (101 - (u4_3 + 1) : Int) < ((m_3 : Nat) : Int) from by ((first | omega | (simp only [st_s] <;> omega) | assumption | omega | fail))) hT (show τ_3.1 46 = σ.1 46 from by first | exact W46 | omega) (show τ_3.1 48 = σ.1 48 from by first | exact W48 | omega) G10 G14 G16 G71 G84 (show 0 ≤ (u4_3 + 1) from by (first | omega | (simp only [st_s] <;> omega) | assumption | omega | fail)) (show (u4_3 + 1) ≤ 100 from by (first | omega | (simp only [st_s] <;> omega) | assumption | omega | fail)) (show τ_3.2.1 75 = σ.2.1 75 from by (first | omega | (simp only [st_s] <;> omega) | assumption | omega | fail)) (show ∀ s : Int, 0 ≤ s → s < (u4_3 + 1) → (st (τ_3.2.1 92) u4_3 x7) s = σ.2.1 75 ((s * 61 + n1) * 61 + n2) from by (first | (intro s a b; exfalso; omega) | (intro s a b; rcases (by omega : s < u4_3 ∨ s = u4_3) with q | q; (rw [st_n _ _ (by omega)]; exact i3_4 s a q); (rw [q, st_s, e_x7, q3_1, i3_3])) | fail))
  exact l_3 ((101 - 0 : Int).toNat + 1) _ _ (show (101 - 0 : Int) < (((101 - 0 : Int).toNat + 1 : Nat) : Int) from by ((first | omega | (simp only [st_s] <;> omega) | assumption | omega | fail))) hT (show σ.1 46 = σ.1 46 from by first | exact W46 | omega) (show σ.1 48 = σ.1 48 from by first | exact W48 | omega) G10 G14 G16 G71 G84 (show 0 ≤ 0 from by (first | omega | (simp only [st_s] <;> omega) | assumption | omega | fail)) (show 0 ≤ 100 from by (first | omega | (simp only [st_s] <;> omega) | assumption | omega | fail)) (show σ.2.1 75 = σ.2.1 75 from by (first | omega | (simp only [st_s] <;> omega) | assumption | omega | fail)) (show ∀ s : Int, 0 ≤ s → s < 0 → σ.2.1 92 s = σ.2.1 75 ((s * 61 + n1) * 61 + n2) from by (first | (intro s a b; exfalso; omega) | (intro s a b; rcases (by omega : s < u4_3 ∨ s = u4_3) with q | q; (rw [st_n _ _ (by omega)]; exact i3_4 s a q); (rw [q, st_s, e_x7, q3_1, i3_3])) | fail))
