-- pure: trees over the statements alone
def g_cat (Ls : Int → List Int) : Nat → List Int
  | 0 => []
  | k + 1 => Ls (k : Int) ++ g_cat Ls k
theorem g_cat_x {L M : Int → List Int} : ∀ n : Nat, (∀ k : Int, 0 ≤ k → k < (n : Int) → L k = M k) → g_cat L n = g_cat M n
  | 0, _ => rfl
  | n + 1, h => by
    show L (n : Int) ++ g_cat L n = M (n : Int) ++ g_cat M n
    rw [h n (by omega) (by omega), g_cat_x n (fun k a b => h k a (by omega))]
theorem g_cat_a (L : Int → List Int) (u : Nat) : ∀ f : Nat, g_cat L (u + f) = g_cat (fun k => L ((u : Int) + k)) f ++ g_cat L u
  | 0 => rfl
  | f + 1 => by
    show L ((u + f : Nat) : Int) ++ g_cat L (u + f) = (L ((u : Int) + (f : Int)) ++ g_cat (fun k => L ((u : Int) + k)) f) ++ g_cat L u
    rw [g_cat_a L u f, List.append_assoc, show ((u + f : Nat) : Int) = (u : Int) + (f : Int) from by omega]
def g_pre (ru : Int → Int) : Nat → List Int
  | 0 => []
  | n + 1 => g_pre ru n ++ [ru (n : Int)]
theorem g_pre_x {ru rv : Int → Int} : ∀ n : Nat, (∀ j : Int, 0 ≤ j → j < (n : Int) → ru j = rv j) → g_pre ru n = g_pre rv n
  | 0, _ => rfl
  | n + 1, h => by
    show g_pre ru n ++ [ru (n : Int)] = g_pre rv n ++ [rv (n : Int)]
    rw [g_pre_x n (fun j a b => h j a (by omega)), h (n : Int) (by omega) (by omega)]
theorem g_pre_s {ru : Int → Int} {n i x : Int} (z : i = n) (n0 : 0 ≤ n) : g_pre (st ru i x) (n + 1).toNat = g_pre ru n.toNat ++ [x] := by
  rw [show (n + 1).toNat = n.toNat + 1 from by omega]
  show g_pre (st ru i x) n.toNat ++ [st ru i x (n.toNat : Int)] = _
  rw [show (n.toNat : Int) = i from by omega, st_s, g_pre_x n.toNat (fun j a b => st_n _ _ (by omega))]
/-- a floating hypothesis that stands in the row -/
def g_Tl (len pv : Int) (lf kd a tx : Int → Int) (i : Int) : Prop := (0 ≤ i ∧ i < len) ∧ 0 ≤ lf i ∧ kd (lf i) = 0 ∧ ¬ tx (a (lf i)) = pv
/-- a rule, where its symbols stand, and which of them its hypotheses are -/
def g_Tr (len lim : Int) (row lf a tx fl fa fs hy : Int → Int) (In : Int → Prop) (r i e : Int) (D o : Int → Int) : Prop := (In r ∧ r < lim) ∧ 0 ≤ i ∧ D 0 = i ∧ D (a (r + 1) - a r - 1) = e ∧ (∀ j : Int, 0 ≤ j → j < a (r + 1) - a r - 1 → D j < D (j + 1) ∧ D (j + 1) ≤ len ∧ (fl (a r + 1 + j) = -1 → D (j + 1) = D j + 1 ∧ row (D j) = tx (a r + 1 + j))) ∧ (fl (a r + 1) = -1 → lf i = -1) ∧
  (∀ k : Int, 0 ≤ k → k < fs r → (0 ≤ o k ∧ o k < a (r + 1) - a r - 1) ∧ ¬ fl (a r + 1 + o k) = -1 ∧ fl (a r + 1 + o k) = hy (fa r + k) ∧ tx (a r + 1 + o k) = tx (a (hy (fa r + k)) + 1)) ∧ ∀ j : Int, 0 ≤ j → j < a (r + 1) - a r - 1 → ¬ fl (a r + 1 + j) = -1 → ∃ k : Int, 0 ≤ k ∧ k < fs r ∧ o k = j
def g_Tc (len lim pv : Int) (row lf kd a tx fl rk fa fs hy : Int → Int) (In : Int → Prop) (P : Int → Int → Int → List Int → Prop) : Prop :=
  (∀ i : Int, g_Tl len pv lf kd a tx i → P (rk (tx (a (lf i)))) i (i + 1) [lf i]) ∧
  ∀ (r i e : Int) (D o : Int → Int) (Ls : Int → List Int), g_Tr len lim row lf a tx fl fa fs hy In r i e D o → (∀ k : Int, 0 ≤ k → k < fs r → P (rk (tx (a (hy (fa r + k))))) (D (o k)) (D (o k + 1)) (Ls k)) → P (rk (tx (a r))) i e (r :: g_cat Ls (fs r).toNat)
/-- a tree of a sort from a place to another -/
def g_T (len lim pv : Int) (row lf kd a tx fl rk fa fs hy : Int → Int) (In : Int → Prop) (s i e : Int) (L : List Int) : Prop := ∀ P : Int → Int → Int → List Int → Prop, g_Tc len lim pv row lf kd a tx fl rk fa fs hy In P → P s i e L
theorem g_T_l {len lim pv : Int} {row lf kd a tx fl rk fa fs hy : Int → Int} {In : Int → Prop} {i : Int} (h : g_Tl len pv lf kd a tx i) : g_T len lim pv row lf kd a tx fl rk fa fs hy In (rk (tx (a (lf i)))) i (i + 1) [lf i] := fun P hP => hP.1 i h
theorem g_T_r {len lim pv : Int} {row lf kd a tx fl rk fa fs hy : Int → Int} {In : Int → Prop} {r i e : Int} {D o : Int → Int} {Ls : Int → List Int} (h : g_Tr len lim row lf a tx fl fa fs hy In r i e D o) (c : ∀ k : Int, 0 ≤ k → k < fs r → g_T len lim pv row lf kd a tx fl rk fa fs hy In (rk (tx (a (hy (fa r + k))))) (D (o k)) (D (o k + 1)) (Ls k)) : g_T len lim pv row lf kd a tx fl rk fa fs hy In (rk (tx (a r))) i e (r :: g_cat Ls (fs r).toNat) := fun P hP => hP.2 r i e D o Ls h (fun k a b => c k a b P hP)
theorem g_T_i {len lim pv : Int} {row lf kd a tx fl rk fa fs hy : Int → Int} {In : Int → Prop} {s i e : Int} {L : List Int} (h : g_T len lim pv row lf kd a tx fl rk fa fs hy In s i e L) : (g_Tl len pv lf kd a tx i ∧ s = rk (tx (a (lf i))) ∧ e = i + 1 ∧ L = [lf i]) ∨ ∃ (r : Int) (D o : Int → Int) (Ls : Int → List Int), g_Tr len lim row lf a tx fl fa fs hy In r i e D o ∧ (∀ k : Int, 0 ≤ k → k < fs r → g_T len lim pv row lf kd a tx fl rk fa fs hy In (rk (tx (a (hy (fa r + k))))) (D (o k)) (D (o k + 1)) (Ls k)) ∧ s = rk (tx (a r)) ∧ L = r :: g_cat Ls (fs r).toNat := by
  have w := h (fun s i e L => g_T len lim pv row lf kd a tx fl rk fa fs hy In s i e L ∧ ((g_Tl len pv lf kd a tx i ∧ s = rk (tx (a (lf i))) ∧ e = i + 1 ∧ L = [lf i]) ∨ ∃ (r : Int) (D o : Int → Int) (Ls : Int → List Int), g_Tr len lim row lf a tx fl fa fs hy In r i e D o ∧ (∀ k : Int, 0 ≤ k → k < fs r → g_T len lim pv row lf kd a tx fl rk fa fs hy In (rk (tx (a (hy (fa r + k))))) (D (o k)) (D (o k + 1)) (Ls k)) ∧ s = rk (tx (a r)) ∧ L = r :: g_cat Ls (fs r).toNat)) ⟨fun i hl => ⟨g_T_l hl, Or.inl ⟨hl, rfl, rfl, rfl⟩⟩, fun r i e D o Ls hr hc => ⟨g_T_r hr (fun k a b => (hc k a b).1), Or.inr ⟨r, D, o, Ls, hr, fun k a b => (hc k a b).1, rfl, rfl⟩⟩⟩
  exact w.2
theorem g_Tr_u {len lim r i e : Int} {row lf a tx fl fa fs hy D o : Int → Int} {In : Int → Prop} (h : g_Tr len lim row lf a tx fl fa fs hy In r i e D o) (l2 : a r + 2 ≤ a (r + 1)) : i < e ∧ e ≤ len := by
  obtain ⟨_, _, d0, d1, d2, _⟩ := h
  have w : ∀ k : Nat, (k : Int) < a (r + 1) - a r - 1 → i < D ((k : Int) + 1) := fun k => by
    induction k with
    | zero => intro _; have v := (d2 0 (by omega) (by omega)).1; rw [d0] at v; exact v
    | succ k ih =>
      intro q
      have v := (d2 ((k : Int) + 1) (by omega) (by omega)).1
      have := ih (by omega)
      rw [show ((k + 1 : Nat) : Int) + 1 = (k : Int) + 1 + 1 from by omega]; omega
  have a1 := w (a (r + 1) - a r - 2).toNat (by omega)
  rw [show ((a (r + 1) - a r - 2).toNat : Int) + 1 = a (r + 1) - a r - 1 from by omega, d1] at a1
  have a2 := (d2 (a (r + 1) - a r - 2) (by omega) (by omega)).2.1
  rw [show a (r + 1) - a r - 2 + 1 = a (r + 1) - a r - 1 from by omega, d1] at a2
  exact ⟨a1, a2⟩
theorem g_Tr_m {len lim r i e : Int} {row lf a tx fl fa fs hy D o : Int → Int} {In : Int → Prop} (h : g_Tr len lim row lf a tx fl fa fs hy In r i e D o) : ∀ k : Nat, (k : Int) ≤ a (r + 1) - a r - 1 → i ≤ D (k : Int) := fun k => by
  obtain ⟨_, _, d0, d1, d2, _⟩ := h
  induction k with
  | zero => intro _; rw [show ((0 : Nat) : Int) = 0 from rfl, d0]; exact Int.le_refl _
  | succ k ih =>
    intro q
    have v := (d2 (k : Int) (by omega) (by omega)).1
    have := ih (by omega)
    rw [show ((k + 1 : Nat) : Int) = (k : Int) + 1 from by omega]; omega
/-- a rule's tree is a way of the chart -/
theorem g_Tr_w {len lim pv : Int} {row lf kd a tx fl rk fa fs hy : Int → Int} {In : Int → Prop} {nd : Int} {ky par bn nof : Int → Int} {b4 b5 : Int → Int64} {mb : Int → Int} (l59 : len ≤ 59)
    (rl : ∀ r : Int, In r → a r + 2 ≤ a (r + 1) ∧ kd r = 2 ∧ ¬ tx (a r) = pv ∧ g_nv r a tx fl ∧ g_pa r (a (r + 1) - a r - 1) nd (nof r) a tx fl rk ky bn par) (t0 : ∀ p : Int, 0 ≤ tx p) (f0 : ∀ r : Int, 0 ≤ fs r) (r0 : ∀ r k : Int, In r → 0 ≤ k → k < fs r → 0 ≤ rk (tx (a (hy (fa r + k)))))
    (uq : ∀ i : Int, 0 ≤ i → i < len → g_uq nd len lim i (0 ≤ lf i ∧ ¬ tx (a (lf i)) = pv) row ky par bn nof (g_so pv a tx rk) lf In b4 b5 mb) {r i e : Int} {D o : Int → Int} (h : g_Tr len lim row lf a tx fl fa fs hy In r i e D o) (hc : ∀ k : Int, 0 ≤ k → k < fs r → g_H b4 (rk (tx (a (hy (fa r + k))))) (D (o k)) (D (o k + 1))) : ∃ π : Int → Int, g_wy nd len i e r (a (r + 1) - a r - 1) row ky par bn nof π D (g_H b4) ∧ (0 ≤ ky (π 1) → lf i = -1) ∧ ∀ j : Int, 0 ≤ j → j < a (r + 1) - a r - 1 → ky (π (j + 1)) = j_sk a tx fl rk r j := by
  obtain ⟨⟨h1, h2⟩, h3, d0, d1, d2, h4, h5, h6⟩ := h
  obtain ⟨l2, k2, np, nv, π, p0, p1, p2⟩ := rl r h1
  refine ⟨π, ⟨by omega, p0, p1, fun j a0 b0 => ⟨(p2 j a0 b0).1, (p2 j a0 b0).2.1, (p2 j a0 b0).2.2.1, (p2 j a0 b0).2.2.2.2⟩, d0, d1, fun j a0 b0 => ?_⟩, fun z => ?_, fun j a0 b0 => (p2 j a0 b0).2.2.2.1⟩
  · rw [(p2 j a0 b0).2.2.2.1]
    obtain ⟨v1, v2, v3⟩ := d2 j a0 b0
    refine ⟨by omega, ?_⟩
    by_cases z : fl (a r + 1 + j) = -1
    · rw [g_skc z]
      have w := v3 z
      exact Or.inl ⟨t0 _, w.2, w.1⟩
    · obtain ⟨k, k0, k1, kj⟩ := h6 j a0 b0 z
      have w := h5 k k0 k1
      have c := hc k k0 k1
      rw [kj] at w c
      rw [g_skv z, w.2.2.1]
      have := r0 r k h1 k0 k1
      exact Or.inr ⟨by omega, v1, v2, by rw [show -1 - (-1 - rk (tx (a (hy (fa r + k))))) = rk (tx (a (hy (fa r + k)))) from by omega]; exact c⟩
  · have w := (p2 0 (by omega) (by omega)).2.2.2.1
    rw [show (0 : Int) + 1 = 1 from rfl] at w
    by_cases y : fl (a r + 1) = -1
    · exact h4 y
    · have y2 : ¬ fl (a r + 1 + 0) = -1 := by rw [Int.add_zero]; exact y
      obtain ⟨k, k0, k1, kj⟩ := h6 0 (by omega) (by omega) y2
      have w5 := h5 k k0 k1
      rw [kj] at w5
      rw [g_skv y2, w5.2.2.1] at w
      have := r0 r k h1 k0 k1
      omega
theorem g_T_H {len lim pv : Int} {row lf kd a tx fl rk fa fs hy : Int → Int} {In : Int → Prop} {nd : Int} {ky par bn nof : Int → Int} {b4 b5 : Int → Int64} {mb : Int → Int} (l59 : len ≤ 59)
    (rl : ∀ r : Int, In r → a r + 2 ≤ a (r + 1) ∧ kd r = 2 ∧ ¬ tx (a r) = pv ∧ g_nv r a tx fl ∧ g_pa r (a (r + 1) - a r - 1) nd (nof r) a tx fl rk ky bn par) (t0 : ∀ p : Int, 0 ≤ tx p) (f0 : ∀ r : Int, 0 ≤ fs r) (r0 : ∀ r k : Int, In r → 0 ≤ k → k < fs r → 0 ≤ rk (tx (a (hy (fa r + k)))))
    (uq : ∀ i : Int, 0 ≤ i → i < len → g_uq nd len lim i (0 ≤ lf i ∧ ¬ tx (a (lf i)) = pv) row ky par bn nof (g_so pv a tx rk) lf In b4 b5 mb) {s i e : Int} {L : List Int} (h : g_T len lim pv row lf kd a tx fl rk fa fs hy In s i e L) : g_H b4 s i e := by
  refine h (fun s i e L => g_H b4 s i e) ⟨fun i hl => ?_, fun r i e D o Ls hr hc => ?_⟩
  · obtain ⟨⟨i0, i1⟩, l0, lk, lp⟩ := hl
    have w := ((uq i i0 i1).1 ⟨l0, lp⟩).1
    rw [g_so_n lp] at w
    exact w
  · obtain ⟨π, wy, c1, _⟩ := g_Tr_w l59 rl t0 f0 r0 uq hr hc
    have l2 := rl r hr.1.1
    have ub := g_Tr_u hr l2.1
    have i0 := hr.2.1
    have w := ((uq i i0 (by omega)).2 r _ e π D hr.1.1 hr.1.2 (by omega) (by omega) (by omega) wy c1).1
    rw [g_so_n l2.2.2.1] at w
    exact w
theorem g_T_u {len lim pv : Int} {row lf kd a tx fl rk fa fs hy : Int → Int} {In : Int → Prop} {nd : Int} {ky par bn nof : Int → Int} {b4 b5 : Int → Int64} {mb : Int → Int} (l59 : len ≤ 59)
    (rl : ∀ r : Int, In r → a r + 2 ≤ a (r + 1) ∧ kd r = 2 ∧ ¬ tx (a r) = pv ∧ g_nv r a tx fl ∧ g_pa r (a (r + 1) - a r - 1) nd (nof r) a tx fl rk ky bn par) (t0 : ∀ p : Int, 0 ≤ tx p) (f0 : ∀ r : Int, 0 ≤ fs r) (r0 : ∀ r k : Int, In r → 0 ≤ k → k < fs r → 0 ≤ rk (tx (a (hy (fa r + k)))))
    (uq : ∀ i : Int, 0 ≤ i → i < len → g_uq nd len lim i (0 ≤ lf i ∧ ¬ tx (a (lf i)) = pv) row ky par bn nof (g_so pv a tx rk) lf In b4 b5 mb) {s i e : Int} {L : List Int} (h : g_T len lim pv row lf kd a tx fl rk fa fs hy In s i e L) : ¬ g_H b5 s i e → ∀ M : List Int, g_T len lim pv row lf kd a tx fl rk fa fs hy In s i e M → M = L := by
  refine (h (fun s i e L => g_T len lim pv row lf kd a tx fl rk fa fs hy In s i e L ∧ (¬ g_H b5 s i e → ∀ M : List Int, g_T len lim pv row lf kd a tx fl rk fa fs hy In s i e M → M = L)) ⟨fun i hl => ⟨g_T_l hl, fun ns M hM => ?_⟩, fun r i e D o Ls hr hc => ⟨g_T_r hr (fun k a b => (hc k a b).1), fun ns M hM => ?_⟩⟩).2
  · rcases g_T_i hM with ⟨_, _, _, q⟩ | ⟨r, D, o, Ls, hr, hc, es, _⟩
    · exact q
    · exfalso
      obtain ⟨⟨i0, i1⟩, l0, lk, lp⟩ := hl
      have l2 := rl r hr.1.1
      obtain ⟨π, wy, c1, _⟩ := g_Tr_w l59 rl t0 f0 r0 uq hr (fun k k0 k1 => g_T_H l59 rl t0 f0 r0 uq (hc k k0 k1))
      have w := ((uq i i0 i1).2 r _ (i + 1) π D hr.1.1 hr.1.2 (by omega) (by omega) (by omega) wy c1).2.1
      have v := ((uq i i0 i1).1 ⟨l0, lp⟩).2
      rw [g_so_n l2.2.2.1, ← es] at w
      rw [g_so_n lp] at v
      have e1 := w ns
      rw [v ns] at e1
      have kr := l2.2.1
      rw [← e1, lk] at kr
      omega
  · have i0 := hr.2.1
    have l2 := rl r hr.1.1
    have ub := g_Tr_u hr l2.1
    obtain ⟨π, wy, c1, ck⟩ := g_Tr_w l59 rl t0 f0 r0 uq hr (fun k k0 k1 => g_T_H l59 rl t0 f0 r0 uq (hc k k0 k1).1)
    have u1 := (uq i i0 (by omega)).2 r _ e π D hr.1.1 hr.1.2 (by omega) (by omega) (by omega) wy c1
    rw [g_so_n l2.2.2.1] at u1
    rcases g_T_i hM with ⟨hl, es, ee, _⟩ | ⟨r', D', o', Ls', hr', hc', es, eM⟩
    · exfalso
      obtain ⟨_, l0, lk, lp⟩ := hl
      have v := ((uq i i0 (by omega)).1 ⟨l0, lp⟩).2
      rw [g_so_n lp, ← es, ← ee] at v
      have e1 := u1.2.1 ns
      rw [v ns] at e1
      have kr := l2.2.1
      rw [← e1, lk] at kr
      omega
    · have l2' := rl r' hr'.1.1
      obtain ⟨π', wy', c1', _⟩ := g_Tr_w l59 rl t0 f0 r0 uq hr' (fun k k0 k1 => g_T_H l59 rl t0 f0 r0 uq (hc' k k0 k1))
      have u1' := ((uq i i0 (by omega)).2 r' _ e π' D' hr'.1.1 hr'.1.2 (by omega) (by omega) (by omega) wy' c1').2.1
      rw [g_so_n l2'.2.2.1, ← es] at u1'
      have er : r' = r := by rw [← u1' ns, u1.2.1 ns]
      subst er
      have dd : ∀ j : Int, 0 ≤ j → j ≤ a (r' + 1) - a r' - 1 → D j = D' j := fun j a0 b0 => by
        by_cases z : D j = D' j
        · exact z
        · refine absurd (u1.2.2.2 D' ?_ ⟨j, a0, b0, z⟩) ns
          obtain ⟨y1, y2, y3, y4, y5, y6, y7⟩ := wy'
          obtain ⟨x1, x2, x3, x4, x5, x6, x7⟩ := wy
          have cu := g_chu (par := par) (a (r' + 1) - a r' - 1).toNat (a (r' + 1) - a r' - 1) (a (r' + 1) - a r' - 1) π π' (by omega) x1 x2 y2 (by rw [x3, y3]) (fun j a0 b0 => ⟨(x4 j a0 b0).1, (x4 j a0 b0).2.2.1⟩) (fun j a0 b0 => ⟨(y4 j a0 b0).1, (y4 j a0 b0).2.2.1⟩)
          exact ⟨x1, x2, x3, x4, y5, y6, fun j a0 b0 => by have w := y7 j a0 b0; rw [← cu.2 (j + 1) (by omega) (by omega)] at w; exact w⟩
      have hIn := hr.1.1
      obtain ⟨_, _, _, _, _, _, h5, h6⟩ := hr
      obtain ⟨_, _, _, _, _, _, h5', h6'⟩ := hr'
      have oo : ∀ k : Int, 0 ≤ k → k < fs r' → o k = o' k := fun k k0 k1 => by
        have x := h5 k k0 k1
        have y := h5' k k0 k1
        have nv := l2.2.2.2.1
        rcases Int.lt_trichotomy (o k) (o' k) with q | q | q
        · exact absurd (x.2.2.2.trans y.2.2.2.symm) (nv (o k) (o' k) x.1.1 q (by omega) x.2.1 y.2.1)
        · exact q
        · exact absurd (y.2.2.2.trans x.2.2.2.symm) (nv (o' k) (o k) y.1.1 q (by omega) y.2.1 x.2.1)
      rw [eM, g_cat_x (L := Ls') (M := Ls) (fs r').toNat (fun k k0 k1 => ?_)]
      have k2 : k < fs r' := by have := f0 r'; omega
      have x := h5 k k0 k2
      have c := hc' k k0 k2
      rw [← oo k k0 k2, ← dd (o k) (by omega) (by omega), ← dd (o k + 1) (by omega) (by omega)] at c
      refine (hc k k0 k2).2 (fun z => ns (u1.2.2.1 ⟨o k, x.1.1, x.1.2, ?_, ?_⟩)) _ c
      · rw [ck (o k) x.1.1 x.1.2, g_skv x.2.1]
        rw [x.2.2.1]
        have := r0 r' k hIn k0 k2; omega
      · rw [ck (o k) x.1.1 x.1.2, g_skv x.2.1, x.2.2.1, show -1 - (-1 - rk (tx (a (hy (fa r' + k))))) = rk (tx (a (hy (fa r' + k)))) from by omega]
        exact z
/-- more rules leave a tree what it is -/
theorem g_T_w {len lim pv : Int} {row lf kd a tx fl rk fa fs hy : Int → Int} {In : Int → Prop} {In2 : Int → Prop} (hI : ∀ r, In r → In2 r) {s i e : Int} {L : List Int} (h : g_T len lim pv row lf kd a tx fl rk fa fs hy In s i e L) : g_T len lim pv row lf kd a tx fl rk fa fs hy In2 s i e L := fun P hP => h P ⟨hP.1, fun r i e D o Ls hr hc => hP.2 r i e D o Ls ⟨⟨hI r hr.1.1, hr.1.2⟩, hr.2⟩ hc⟩
/-- a tree is one of other arrays that tell the same -/
theorem g_T_t {len lim pv : Int} {row lf kd a tx fl rk fa fs hy : Int → Int} {In : Int → Prop} {row2 lf2 kd2 a2 tx2 fl2 rk2 fa2 fs2 hy2 : Int → Int} {In2 : Int → Prop}
    (hl : ∀ i : Int, g_Tl len pv lf kd a tx i → g_Tl len pv lf2 kd2 a2 tx2 i ∧ lf2 i = lf i ∧ rk2 (tx2 (a2 (lf i))) = rk (tx (a (lf i))))
    (hr : ∀ (r i e : Int) (D o : Int → Int), g_Tr len lim row lf a tx fl fa fs hy In r i e D o → g_Tr len lim row2 lf2 a2 tx2 fl2 fa2 fs2 hy2 In2 r i e D o ∧ fs2 r = fs r ∧ rk2 (tx2 (a2 r)) = rk (tx (a r)) ∧ ∀ k : Int, 0 ≤ k → k < fs r → rk2 (tx2 (a2 (hy2 (fa2 r + k)))) = rk (tx (a (hy (fa r + k)))))
    {s i e : Int} {L : List Int} (h : g_T len lim pv row lf kd a tx fl rk fa fs hy In s i e L) : g_T len lim pv row2 lf2 kd2 a2 tx2 fl2 rk2 fa2 fs2 hy2 In2 s i e L := by
  refine h (fun s i e L => g_T len lim pv row2 lf2 kd2 a2 tx2 fl2 rk2 fa2 fs2 hy2 In2 s i e L) ⟨fun i q => ?_, fun r i e D o Ls q c => ?_⟩
  · obtain ⟨w1, w2, w3⟩ := hl i q
    have w := g_T_l (len := len) (lim := lim) (row := row2) (fl := fl2) (rk := rk2) (fa := fa2) (fs := fs2) (hy := hy2) (In := In2) w1
    rw [w2, w3] at w
    exact w
  · obtain ⟨w1, w2, w3, w4⟩ := hr r i e D o q
    have w := g_T_r (pv := pv) (kd := kd2) (rk := rk2) (Ls := Ls) w1 (fun k a0 b0 => by rw [w2] at b0; rw [w4 k a0 b0]; exact c k a0 b0)
    rw [w2, w3] at w
    exact w
theorem g_T_rw {len lim pv : Int} {row lf kd a tx fl rk fa fs hy row2 lf2 : Int → Int} {In : Int → Prop} (l2 : ∀ r : Int, In r → a r + 2 ≤ a (r + 1)) (e : ∀ i : Int, 0 ≤ i → i < len → row2 i = row i ∧ lf2 i = lf i) {s i e' : Int} {L : List Int} (h : g_T len lim pv row lf kd a tx fl rk fa fs hy In s i e' L) : g_T len lim pv row2 lf2 kd a tx fl rk fa fs hy In s i e' L := by
  refine g_T_t (fun i q => ?_) (fun r i e' D o q => ?_) h
  · obtain ⟨q1, q2, q3, q4⟩ := q
    have w := (e i q1.1 q1.2).2
    exact ⟨⟨q1, by rw [w]; exact ⟨q2, q3, q4⟩⟩, w, rfl⟩
  · have ub := g_Tr_u q (l2 r q.1.1)
    have md := g_Tr_m q
    obtain ⟨q1, q2, q3, q4, q5, q6, q7⟩ := q
    refine ⟨⟨q1, q2, q3, q4, fun j a0 b0 => ?_, fun z => ?_, q7⟩, rfl, rfl, fun k _ _ => rfl⟩
    · have w := q5 j a0 b0
      have m := md j.toNat (by omega)
      rw [show (j.toNat : Int) = j from by omega] at m
      exact ⟨w.1, w.2.1, fun z => ⟨(w.2.2 z).1, by rw [(e (D j) (by omega) (by omega)).1]; exact (w.2.2 z).2⟩⟩
    · rw [(e i q2 (by omega)).2]; exact q6 z
theorem g_pre_l {ru : Int → Int} : ∀ n : Nat, (g_pre ru n).length = n
  | 0 => rfl
  | n + 1 => by
    show (g_pre ru n ++ [ru (n : Int)]).length = n + 1
    rw [List.length_append, g_pre_l n]; rfl
/-- equal lists: equal nodes -/
theorem g_pre_i {ru rv : Int → Int} : ∀ n : Nat, g_pre ru n = g_pre rv n → ∀ j : Int, 0 ≤ j → j < (n : Int) → ru j = rv j
  | 0, _, j, j0, j1 => by omega
  | n + 1, h, j, j0, j1 => by
    have w : g_pre ru n ++ [ru (n : Int)] = g_pre rv n ++ [rv (n : Int)] := h
    obtain ⟨w1, w2⟩ := List.append_inj w (by rw [g_pre_l, g_pre_l])
    by_cases z : j = (n : Int)
    · rw [z]
      exact List.head_eq_of_cons_eq w2
    · exact g_pre_i n w1 j j0 (by omega)
theorem g_pre_q {ru rv : Int → Int} {n m : Int} (n0 : 0 ≤ n) (m0 : 0 ≤ m) (h : g_pre ru n.toNat = g_pre rv m.toNat) : n = m ∧ ∀ j : Int, 0 ≤ j → j < n → ru j = rv j := by
  have l : n.toNat = m.toNat := by
    have w := congrArg List.length h
    rw [g_pre_l, g_pre_l] at w; exact w
  rw [← l] at h
  exact ⟨by omega, fun j a b => g_pre_i n.toNat h j a (by omega)⟩
