-- pure: the cells that wait
def g_wt (len rs u : Int) (c : Int → Int) (b4 b5 : Int → Int64) : Prop := ∀ j : Int, 0 ≤ j → j < u → 0 ≤ c j ∧ g_cl len rs (c j / 3600) (c j / 60 % 60) (c j % 60) b4 b5
def g_wB (rs : Int) (T : Int → Int → Int → Int) (c : Int → Int) (j : Int) : Int := g_B (T (c j / 60 % 60) (c j % 60)) rs (c j / 3600) (c j / 60 % 60) (c j % 60)
def g_wl (c : Int → Int) (j : Int) : Int := c j % 60 - c j / 60 % 60
def g_nar (kd fs ru : Int → Int) (n : Int) : Int := (if kd (ru n) = 0 then 0 else fs (ru n)) - 1
theorem g_dc {s i e x : Int} (s0 : 0 ≤ s) (i0 : 0 ≤ i) (i1 : i < 60) (e0 : 0 ≤ e) (e1 : e < 60) (hx : x = (s * 60 + i) * 60 + e) : x / 3600 = s ∧ x / 60 % 60 = i ∧ x % 60 = e := by omega
theorem g_wt_a {len rs u s i e x : Int} {c : Int → Int} {b4 b5 : Int → Int64} (h : g_wt len rs u c b4 b5) (l59 : len ≤ 59) (hx : x = (s * 60 + i) * 60 + e) (cl : g_cl len rs s i e b4 b5) : g_wt len rs (u + 1) (st c u x) b4 b5 := fun j a b => by
  obtain ⟨⟨s0, s1⟩, ⟨i0, ie, el⟩, h1, h2⟩ := cl
  by_cases z : j = u
  · obtain ⟨d1, d2, d3⟩ := g_dc s0 i0 (by omega) (by omega) (by omega) hx
    rw [z, st_s, d1, d2, d3]
    exact ⟨by omega, ⟨s0, s1⟩, ⟨i0, ie, el⟩, h1, h2⟩
  · rw [st_n _ _ z]; exact h j a (by omega)
theorem g_wB_a {rs u s i e x : Int} {T : Int → Int → Int → Int} {c : Int → Int} (u0 : 0 ≤ u) (s0 : 0 ≤ s) (i0 : 0 ≤ i) (i1 : i < 60) (e0 : 0 ≤ e) (e1 : e < 60) (hx : x = (s * 60 + i) * 60 + e) : sm (g_wB rs T (st c u x)) (u + 1) = sm (g_wB rs T c) u + g_B (T i e) rs s i e ∧ sm (g_wl (st c u x)) (u + 1) = sm (g_wl c) u + (e - i) := by
  obtain ⟨d1, d2, d3⟩ := g_dc s0 i0 i1 e0 e1 hx
  rw [sm_s _ u0, sm_s _ u0]
  have a : sm (g_wB rs T (st c u x)) u = sm (g_wB rs T c) u := sm_x (fun j _ b => by unfold g_wB; rw [st_n _ _ (show j ≠ u from by omega)])
  have b : sm (g_wl (st c u x)) u = sm (g_wl c) u := sm_x (fun j _ b => by unfold g_wl; rw [st_n _ _ (show j ≠ u from by omega)])
  rw [a, b]
  refine ⟨?_, ?_⟩
  · unfold g_wB; rw [st_s, d1, d2, d3]
  · unfold g_wl; rw [st_s, d2, d3]
theorem sm_dn {A : Int → Int} (h : ∀ j : Int, -1 ≤ A j) : ∀ (k : Nat) (m : Int), 0 ≤ m → sm A m - (k : Int) ≤ sm A (m + (k : Int))
  | 0, m, m0 => by
    rw [show m + ((0 : Nat) : Int) = m from by omega]; omega
  | k + 1, m, m0 => by
    have a := sm_dn h k m m0
    rw [show m + ((k + 1 : Nat) : Int) = m + (k : Int) + 1 from by omega, sm_s _ (by omega)]
    have b := h (m + (k : Int))
    omega
/-- behind a node stand at least as many as it has hypotheses -/
theorem g_nar_e {A : Int → Int} {size n : Int} (h : ∀ j : Int, -1 ≤ A j) (z : 1 + sm A size = 0) (p : ∀ m : Int, 0 ≤ m → m < size → 1 ≤ 1 + sm A m) (n0 : 0 ≤ n) (n1 : n < size) : n + (A n + 1) < size := by
  have a := sm_dn h (size - (n + 1)).toNat (n + 1) (by omega)
  rw [show n + 1 + ((size - (n + 1)).toNat : Int) = size from by omega, sm_s _ n0] at a
  have b := p n n0 n1
  omega
