-- pure: how large a tree gets whose parts are all reached once
def g_rk (t : Int → Int) (rs s : Int) : Int := sm (fun e => if t e < t s then 1 else 0) rs
theorem g_rk_0 (t : Int → Int) (rs s : Int) : 0 ≤ g_rk t rs s := sm_n (fun e _ _ => by
  show 0 ≤ (if t e < t s then (1 : Int) else 0)
  by_cases z : t e < t s
  · rw [if_pos z]; decide
  · rw [if_neg z]; decide)
theorem g_rk_u {t : Int → Int} {rs s : Int} (s0 : 0 ≤ s) (s1 : s < rs) : g_rk t rs s + 1 ≤ rs := by
  have a := sm_lt (f := fun e => if t e < t s then 1 else 0) (g := fun _ => 1) (n := rs) (v := s) (fun e _ _ => by
    show (if t e < t s then (1 : Int) else 0) ≤ 1
    by_cases z : t e < t s
    · rw [if_pos z]; decide
    · rw [if_neg z]; decide) s0 s1 (by
    show (if t s < t s then (1 : Int) else 0) < 1
    rw [if_neg (by omega)]; decide)
  have b := sm_c (f := fun _ => 1) (n := rs) (c := 1) (fun e _ _ => Int.le_refl _) (by omega) (by omega)
  have c : g_rk t rs s = sm (fun e => if t e < t s then 1 else 0) rs := rfl
  omega
theorem g_rk_l {t : Int → Int} {rs a s : Int} (a0 : 0 ≤ a) (a1 : a < rs) (h : t a < t s) : g_rk t rs a + 1 ≤ g_rk t rs s := sm_lt (fun e _ _ => by
  show (if t e < t a then (1 : Int) else 0) ≤ (if t e < t s then 1 else 0)
  by_cases z : t e < t a
  · rw [if_pos z, if_pos (by omega)]; exact Int.le_refl _
  · rw [if_neg z]
    by_cases y : t e < t s
    · rw [if_pos y]; decide
    · rw [if_neg y]; decide) a0 a1 (by
  show (if t a < t a then (1 : Int) else 0) < (if t a < t s then 1 else 0)
  rw [if_neg (by omega), if_pos h]; decide)
/-- no tree of a cell that is reached once has more nodes -/
def g_B (t : Int → Int) (rs s i e : Int) : Int := 1 + g_rk t rs s + 100 * (2 * (e - i) - 2)
theorem g_B_u {t : Int → Int} {rs s i e : Int} (s0 : 0 ≤ s) (s1 : s < rs) (r : rs ≤ 100) : g_B t rs s i e ≤ 100 * (2 * (e - i) - 1) := by
  have := g_rk_u (t := t) s0 s1
  unfold g_B; omega
theorem g_B_l {t : Int → Int} {rs s i e : Int} (ie : i < e) : 1 + 100 * (2 * (e - i) - 2) ≤ g_B t rs s i e := by
  have := g_rk_0 t rs s
  unfold g_B; omega
theorem sm_tel (D : Int → Int) : ∀ n : Nat, smN (fun j => D (j + 1) - D j) n = D (n : Int) - D 0
  | 0 => by
    show (0 : Int) = D 0 - D 0
    omega
  | n + 1 => by
    show smN (fun j => D (j + 1) - D j) n + (D ((n : Int) + 1) - D (n : Int)) = D ((n + 1 : Nat) : Int) - D 0
    rw [sm_tel D n, show ((n + 1 : Nat) : Int) = (n : Int) + 1 from by omega]
    omega
theorem sm_tl (D : Int → Int) {n : Int} (n0 : 0 ≤ n) : sm (fun j => D (j + 1) - D j) n = D n - D 0 := by
  have w := sm_tel D n.toNat
  rw [show (n.toNat : Int) = n from by omega] at w
  exact w
/-- lengths of the parts that stand at different places of the rule -/
theorem g_ln {D o : Int → Int} {L fs : Int} (L0 : 0 ≤ L) (up : ∀ j : Int, 0 ≤ j → j < L → D j < D (j + 1)) (oh : ∀ h : Int, 0 ≤ h → h < fs → 0 ≤ o h ∧ o h < L) (inj : ∀ a b : Int, 0 ≤ a → a < b → b < fs → o a ≠ o b) : sm (fun h => D (o h + 1) - D (o h)) fs ≤ D L - D 0 := by
  have w := sm_i (f := o) (w := fun j => D (j + 1) - D j) (n := L) (m := fs) L0 (fun r a b => by have := up r a b; show 0 ≤ D (r + 1) - D r; omega) oh (fun a b a0 ab bf e => absurd e (inj a b a0 ab bf))
  rw [sm_tl D L0] at w
  exact w
/-- one part alone, and other symbols beside it: it is shorter than all -/
theorem g_l1 {D : Int → Int} {L o : Int} (up : ∀ j : Int, 0 ≤ j → j < L → D j < D (j + 1)) (o0 : 0 ≤ o) (o1 : o < L) (L2 : 2 ≤ L) : D (o + 1) - D o + 1 ≤ D L - D 0 := by
  have u : ∀ j : Int, 0 ≤ j → j < L → 0 ≤ (fun j => D (j + 1) - D j) j := fun j a b => by have := up j a b; show 0 ≤ D (j + 1) - D j; omega
  have t := sm_tl D (n := L) (by omega)
  by_cases z : o = 0
  · have w := sm_2 u (Int.le_refl 0) (show (0 : Int) < 1 from by omega) (show (1 : Int) < L from by omega)
    have v := up 1 (by omega) (by omega)
    rw [t] at w
    rw [z]; omega
  · have w := sm_2 u (Int.le_refl 0) (show (0 : Int) < o from by omega) o1
    have v := up 0 (by omega) (by omega)
    rw [t] at w
    omega
theorem sm_li {f g : Int → Int} {n : Int} (h : ∀ e : Int, 0 ≤ e → e < n → f e ≤ 100 * (2 * g e - 1)) : sm f n ≤ 100 * (2 * sm g n - (if 0 ≤ n then n else 0)) := by
  have d : ∀ k : Nat, (k : Int) ≤ n → smN f k ≤ 100 * (2 * smN g k - (k : Int)) := fun k => by
    induction k with
    | zero => intro _; show (0 : Int) ≤ 100 * (2 * 0 - 0); omega
    | succ k ih =>
      intro hk
      have a := ih (by omega)
      have b := h (k : Int) (by omega) (by omega)
      show smN f k + f (k : Int) ≤ 100 * (2 * (smN g k + g (k : Int)) - ((k + 1 : Nat) : Int))
      omega
  by_cases z : 0 ≤ n
  · rw [if_pos z]
    have w := d n.toNat (by omega)
    rw [show (n.toNat : Int) = n from by omega] at w
    exact w
  · rw [if_neg z]
    have e : n.toNat = 0 := by omega
    show smN f n.toNat ≤ 100 * (2 * smN g n.toNat - 0)
    rw [e]; show (0 : Int) ≤ 100 * (2 * 0 - 0); omega
/-- the children's bounds together stay below the rule's -/
theorem g_ch_B {D o cs : Int → Int} {tt : Int → Int → Int → Int} {L fs rs s sp e : Int} (r100 : rs ≤ 100) (L1 : 1 ≤ L) (f0 : 0 ≤ fs) (up : ∀ j : Int, 0 ≤ j → j < L → D j < D (j + 1)) (D0 : D 0 = sp) (DL : D L = e) (oh : ∀ h : Int, 0 ≤ h → h < fs → 0 ≤ o h ∧ o h < L) (inj : ∀ a b : Int, 0 ≤ a → a < b → b < fs → o a ≠ o b) (ch : ∀ h : Int, 0 ≤ h → h < fs → 0 ≤ cs h ∧ cs h < rs) (un : L = 1 → ∀ h : Int, 0 ≤ h → h < fs → tt sp e (cs h) < tt sp e s) :
    sm (fun h => g_B (tt (D (o h)) (D (o h + 1))) rs (cs h) (D (o h)) (D (o h + 1))) fs + 1 ≤ g_B (tt sp e) rs s sp e := by
  have se : sp < e := by
    have w := sm_tl D (n := L) (by omega)
    have v := sm_1 (g := fun j => D (j + 1) - D j) (n := L) (v := 0) (fun j a b => by have := up j a b; show 0 ≤ D (j + 1) - D j; omega) (Int.le_refl 0) (by omega)
    have x := up 0 (by omega) (by omega)
    rw [w] at v
    omega
  have bl := g_B_l (t := tt sp e) (rs := rs) (s := s) se
  have li := sm_li (f := fun h => g_B (tt (D (o h)) (D (o h + 1))) rs (cs h) (D (o h)) (D (o h + 1))) (g := fun h => D (o h + 1) - D (o h)) (n := fs) (fun h a b => g_B_u (ch h a b).1 (ch h a b).2 r100)
  rw [if_pos f0] at li
  have ln := g_ln (by omega) up oh inj
  rcases (by omega : fs = 0 ∨ fs = 1 ∨ 2 ≤ fs) with z | z | z
  · rw [z]
    show (0 : Int) + 1 ≤ _
    omega
  · rw [z] at oh ch un ⊢
    have oz := oh 0 (Int.le_refl _) (by omega)
    have cz := ch 0 (Int.le_refl _) (by omega)
    have one : sm (fun h => g_B (tt (D (o h)) (D (o h + 1))) rs (cs h) (D (o h)) (D (o h + 1))) 1 = g_B (tt (D (o 0)) (D (o 0 + 1))) rs (cs 0) (D (o 0)) (D (o 0 + 1)) := by
      show 0 + g_B (tt (D (o ((0 : Nat) : Int))) (D (o ((0 : Nat) : Int) + 1))) rs (cs ((0 : Nat) : Int)) (D (o ((0 : Nat) : Int))) (D (o ((0 : Nat) : Int) + 1)) = _
      rw [Int.zero_add]; rfl
    rw [one]
    by_cases y : L = 1
    · have oo : o 0 = 0 := by omega
      have rl := g_rk_l (t := tt sp e) (rs := rs) (a := cs 0) (s := s) cz.1 cz.2 (un y 0 (Int.le_refl _) (by omega))
      rw [oo, show (0 : Int) + 1 = L from by omega, D0, DL]
      unfold g_B
      omega
    · have l1 := g_l1 up oz.1 oz.2 (by omega)
      have bu := g_B_u (t := tt (D (o 0)) (D (o 0 + 1))) (i := D (o 0)) (e := D (o 0 + 1)) cz.1 cz.2 r100
      omega
  · omega
/-- the frame's hypotheses of a rule, each with the symbol it stands for -/
theorem g_kid {n us hu pr ru M len L sp e : Int} {kd a tx fl rk fa fs hy pa ps pq ra rc rs ca ch row sf sto : Int → Int} {Hs : Int → Int → Int → Prop} (h : J_all n us hu pr ru kd a tx fl rk fa fs hy pa ps pq ra rc rs ca ch) (M0 : 0 ≤ M) (M1 : M < n) (rf : g_rf M kd a fa fs hy) (hL : L = a (M + 1) - a M - 1) (pt : g_pt len L sp e (a M + 1) row (j_sk a tx fl rk M) tx fl sf sto Hs) :
    ∃ D : Int → Int, (D 0 = sp ∧ D L = e ∧ ∀ j : Int, 0 ≤ j → j < L → g_mk len row Hs (j_sk a tx fl rk M j) (D j) (D (j + 1))) ∧ ∃ o : Int → Int, (∀ k : Int, 0 ≤ k → k < fs M → (0 ≤ o k ∧ o k < L) ∧ j_sk a tx fl rk M (o k) = -1 - rk (tx (a (hy (fa M + k)))) ∧ sf (tx (a (hy (fa M + k)) + 1)) = D (o k) ∧ sto (tx (a (hy (fa M + k)) + 1)) = D (o k + 1)) ∧ (∀ x y : Int, 0 ≤ x → x < y → y < fs M → o x ≠ o y) ∧ (∀ k : Int, 0 ≤ k → k < fs M → ¬ fl (a M + 1 + o k) = -1 ∧ fl (a M + 1 + o k) = hy (fa M + k) ∧ tx (a M + 1 + o k) = tx (a (hy (fa M + k)) + 1)) ∧ ∀ j : Int, 0 ≤ j → j < L → ¬ fl (a M + 1 + j) = -1 → ∃ k : Int, (0 ≤ k ∧ k < fs M) ∧ tx (a M + 1 + j) = tx (a (hy (fa M + k)) + 1) := by
  obtain ⟨D, d0, d1, d2, d3⟩ := pt
  obtain ⟨r1, r2, r3, r4⟩ := rf
  have J := h.1 M M0 M1
  have jt := J.1
  obtain ⟨f1, f2, f3, f4, f5, f6⟩ := J.2.1 (by omega)
  have no : ∀ k : Int, 0 ≤ k → k < fs M → ∃ p : Int, a M ≤ p ∧ p < a (M + 1) ∧ 0 ≤ fl p ∧ tx p = tx (a (hy (fa M + k)) + 1) := fun k a0 b0 => by
    rcases f5 with ⟨x, x0, x1, x2⟩ | q
    · have := r4 x x0 x1; omega
    · exact (q k a0 b0).2
  have ex : ∀ k : Int, ∃ o : Int, 0 ≤ k → k < fs M → ((0 ≤ o ∧ o < L) ∧ j_sk a tx fl rk M o = -1 - rk (tx (a (hy (fa M + k)))) ∧ sf (tx (a (hy (fa M + k)) + 1)) = D o ∧ sto (tx (a (hy (fa M + k)) + 1)) = D (o + 1)) ∧ tx (a M + 1 + o) = tx (a (hy (fa M + k)) + 1) ∧ ¬ fl (a M + 1 + o) = -1 ∧ fl (a M + 1 + o) = hy (fa M + k) := fun k => by
    by_cases z : 0 ≤ k ∧ k < fs M
    · obtain ⟨p, p0, p1, p2, p3⟩ := no k z.1 z.2
      have pn : p ≠ a M := fun q => by rw [q] at p2; have := jt.1.2.2.2.2; omega
      obtain ⟨o, o0, o1, o2, o3, o4, o5⟩ := d3 (p - a M - 1) (by omega) (by omega) (by rw [show a M + 1 + (p - a M - 1) = p from by omega]; omega)
      rw [show a M + 1 + (p - a M - 1) = p from by omega] at o3 o4 o5
      rw [p3] at o3 o4 o5
      rcases jt.2.2 (a M + 1 + o) (by omega) (by omega) with q | ⟨q1, q2, q3, q4⟩
      · exact absurd q o2
      · obtain ⟨k2, k0, k1, ke⟩ := f3 (a M + 1 + o) (by omega) (by omega) q1
        have kk : k2 = k := by
          rcases Int.lt_trichotomy k2 k with y | y | y
          · exact absurd (by rw [ke, q4, o3]) (f6 k k2 k0 y z.2 (r4 k2 k0 k1) (r4 k z.1 z.2))
          · exact y
          · exact absurd (by rw [ke, q4, o3]) (f6 k2 k z.1 y k1 (r4 k z.1 z.2) (r4 k2 k0 k1))
        rw [kk] at ke
        exact ⟨o, fun _ _ => ⟨⟨⟨o0, o1⟩, by rw [g_skv o2, ke], o4, o5⟩, o3, o2, ke.symm⟩⟩
    · exact ⟨0, fun x y => absurd ⟨x, y⟩ z⟩
  obtain ⟨o, ho⟩ := Classical.axiomOfChoice ex
  refine ⟨D, ⟨d0, d1, d2⟩, o, fun k k0 k1 => (ho k k0 k1).1, fun x y x0 xy y1 q => ?_, fun k k0 k1 => ⟨(ho k k0 k1).2.2.1, (ho k k0 k1).2.2.2, (ho k k0 k1).2.1⟩, fun j j0 j1 jf => ?_⟩
  · have hx := (ho x x0 (by omega)).2.1
    have hy' := (ho y (by omega) y1).2.1
    exact f6 y x x0 xy y1 (r4 x x0 (by omega)) (r4 y (by omega) y1) (by rw [← hx, ← hy', q])
  · rcases jt.2.2 (a M + 1 + j) (by omega) (by omega) with q | ⟨q1, q2, q3, q4⟩
    · exact absurd q jf
    · obtain ⟨k2, k0, k1, ke⟩ := f3 (a M + 1 + j) (by omega) (by omega) q1
      exact ⟨k2, ⟨k0, k1⟩, by rw [ke, q4]⟩
/-- what holds of a cell of a place that is done -/
def g_okb (nd len rs lim i e s : Int) (row ky par bn nof so lf : Int → Int) (In : Int → Prop) (b4 b5 : Int → Int64) (mb t : Int → Int) : Prop := (g_H b5 s i e → g_H b4 s i e) ∧ (g_H b4 s i e → (i < e ∧ e ≤ len) ∧ ((0 ≤ lf i ∧ e = i + 1 ∧ g_mb mb s i e = lf i ∧ s = so (lf i)) ∨ (In (g_mb mb s i e) ∧ g_mb mb s i e < lim ∧ s = so (g_mb mb s i e) ∧ g_kx len row ky par lf (g_H b4) i (nof (g_mb mb s i e)) e ∧ (¬ g_H b5 s i e → ∀ (m : Int) (π d : Int → Int), g_wy nd len i e (g_mb mb s i e) m row ky par bn nof π d (g_H b4) → g_un1 m ky π d t (g_H b5) s))))
/-- all places together, with one rank for each place and end -/
theorem g_ok_T {nd len rs lim : Int} {row ky par bn nof so lf : Int → Int} {In : Int → Prop} {b4 b5 : Int → Int64} {mb : Int → Int} (h : ∀ i : Int, 0 ≤ i → i < len → g_ok nd len rs lim i row ky par bn nof so lf In b4 b5 mb) : ∃ T : Int → Int → Int → Int, ∀ i e : Int, 0 ≤ i → i < len → 0 ≤ e → e < 64 → ∀ s : Int, 0 ≤ s → s < rs → g_okb nd len rs lim i e s row ky par bn nof so lf In b4 b5 mb (T i e) := by
  have a : ∀ i : Int, ∃ F : Int → Int → Int, ∀ e : Int, 0 ≤ i → i < len → 0 ≤ e → e < 64 → ∀ s : Int, 0 ≤ s → s < rs → g_okb nd len rs lim i e s row ky par bn nof so lf In b4 b5 mb (F e) := fun i => by
    have b : ∀ e : Int, ∃ t : Int → Int, 0 ≤ i → i < len → 0 ≤ e → e < 64 → ∀ s : Int, 0 ≤ s → s < rs → g_okb nd len rs lim i e s row ky par bn nof so lf In b4 b5 mb t := fun e => by
      by_cases z : (0 ≤ i ∧ i < len) ∧ 0 ≤ e ∧ e < 64
      · obtain ⟨t, ht⟩ := h i z.1.1 z.1.2 e z.2.1 z.2.2
        exact ⟨t, fun _ _ _ _ => ht⟩
      · exact ⟨fun _ => 0, fun a b c d => absurd ⟨⟨a, b⟩, c, d⟩ z⟩
    exact Classical.axiomOfChoice b
  obtain ⟨T, hT⟩ := Classical.axiomOfChoice a
  exact ⟨T, fun i e => hT i e⟩
/-- a cell that is there, once -/
def g_cl (len rs s i e : Int) (b4 b5 : Int → Int64) : Prop := (0 ≤ s ∧ s < rs) ∧ (0 ≤ i ∧ i < e ∧ e ≤ len) ∧ g_H b4 s i e ∧ ¬ g_H b5 s i e
/-- the children of a cell: there, once, and with smaller bounds -/
theorem g_kids {nd len rs lim s i e M L fs : Int} {row ky par bn nof so lf D o cs : Int → Int} {In : Int → Prop} {b4 b5 : Int → Int64} {K : Int → Int} {T : Int → Int → Int → Int} {π : Int → Int} (r100 : rs ≤ 100) (L1 : 1 ≤ L) (f0 : 0 ≤ fs) (s1 : 0 ≤ s ∧ s < rs)
    (D0 : D 0 = i) (DL : D L = e) (i0 : 0 ≤ i) (mk : ∀ j : Int, 0 ≤ j → j < L → g_mk len row (g_H b4) (K j) (D j) (D (j + 1))) (un : ∀ (m : Int) (π d : Int → Int), g_wy nd len i e M m row ky par bn nof π d (g_H b4) → g_un1 m ky π d (T i e) (g_H b5) s)
    (p0 : π 0 = 0) (pL : π L = nof M) (pp : ∀ j : Int, 0 ≤ j → j < L → 1 ≤ π (j + 1) ∧ π (j + 1) < nd ∧ par (π (j + 1)) = π j ∧ ky (π (j + 1)) = K j ∧ bn (π (j + 1)) ≤ M)
    (oh : ∀ h : Int, 0 ≤ h → h < fs → (0 ≤ o h ∧ o h < L) ∧ K (o h) = -1 - cs h ∧ 0 ≤ cs h ∧ cs h < rs) (inj : ∀ x y : Int, 0 ≤ x → x < y → y < fs → o x ≠ o y) :
    (∀ h : Int, 0 ≤ h → h < fs → g_cl len rs (cs h) (D (o h)) (D (o h + 1)) b4 b5) ∧ sm (fun h => g_B (T (D (o h)) (D (o h + 1))) rs (cs h) (D (o h)) (D (o h + 1))) fs + 1 ≤ g_B (T i e) rs s i e ∧ sm (fun h => D (o h + 1) - D (o h)) fs ≤ e - i := by
  have up : ∀ j : Int, 0 ≤ j → j < L → D j < D (j + 1) := fun j a b => (g_mk_b (mk j a b)).1
  have u1 := un L π D ⟨by omega, p0, pL, fun j a b => ⟨(pp j a b).1, (pp j a b).2.1, (pp j a b).2.2.1, (pp j a b).2.2.2.2⟩, D0, DL, fun j a b => by rw [(pp j a b).2.2.2.1]; exact mk j a b⟩
  have kk : ∀ h : Int, 0 ≤ h → h < fs → ky (π (o h + 1)) = -1 - cs h := fun h a b => by
    have w := oh h a b
    rw [(pp (o h) w.1.1 w.1.2).2.2.2.1]; exact w.2.1
  refine ⟨fun h a b => ?_, ?_, ?_⟩
  · have w := oh h a b
    have m := mk (o h) w.1.1 w.1.2
    have mb := g_mk_b m
    have du := g_d_u mk D0 DL (o h) w.1.1 (by omega)
    have v := (u1 (o h) w.1.1 w.1.2 (by rw [kk h a b]; omega)).1
    rw [kk h a b, show -1 - (-1 - cs h) = cs h from by omega] at v
    obtain ⟨m1, ⟨m2, _⟩ | ⟨_, _, _, m4⟩⟩ := m
    · omega
    · rw [w.2.1, show -1 - (-1 - cs h) = cs h from by omega] at m4
      exact ⟨⟨w.2.2.1, w.2.2.2⟩, ⟨by omega, mb.1, mb.2⟩, m4, v⟩
  · refine g_ch_B r100 L1 f0 up D0 DL (fun h a b => (oh h a b).1) inj (fun h a b => ⟨(oh h a b).2.2.1, (oh h a b).2.2.2⟩) (fun l h a b => ?_)
    have w := oh h a b
    have v := (u1 (o h) w.1.1 w.1.2 (by rw [kk h a b]; omega)).2 l
    have oz : o h = 0 := by omega
    have k2 := kk h a b
    rw [oz, show (0 : Int) + 1 = 1 from rfl] at k2
    rw [k2, show -1 - (-1 - cs h) = cs h from by omega] at v
    exact v.2
  · have w := g_ln (by omega) up (fun h a b => (oh h a b).1) inj
    rw [D0, DL] at w
    exact w
