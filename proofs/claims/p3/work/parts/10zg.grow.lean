-- pure: a tree is taken out of the chart
theorem g_wl_u {len rs u : Int} {c : Int → Int} {b4 b5 : Int → Int64} (h : g_wt len rs u c b4 b5) (u0 : 0 ≤ u) : u ≤ sm (g_wl c) u := by
  have w := sm_ge (f := g_wl c) u.toNat (fun e a b => by
    have v := (h e a (by omega)).2.2.1
    unfold g_wl; omega)
  rw [show (u.toNat : Int) = u from by omega] at w
  exact w
theorem g_wB_0 {len rs u : Int} {T : Int → Int → Int → Int} {c : Int → Int} {b4 b5 : Int → Int64} (h : g_wt len rs u c b4 b5) : ∀ j : Int, 0 ≤ j → j < u → 1 ≤ g_wB rs T c j := fun j a b => by
  have v := (h j a b).2.2.1
  have w := g_B_l (t := T (c j / 60 % 60) (c j % 60)) (rs := rs) (s := c j / 3600) v.2.1
  unfold g_wB; omega
theorem g_pop {f : Int → Int} {u : Int} (u0 : 0 < u) : sm f u = sm f (u + (-1)) + f (u + (-1)) := by
  have w := sm_s f (n := u + (-1)) (by omega)
  rw [show u + (-1) + 1 = u from by omega] at w
  exact w
theorem g_wt_p {len rs u u' : Int} {c : Int → Int} {b4 b5 : Int → Int64} (h : g_wt len rs u c b4 b5) (l : u' ≤ u) : g_wt len rs u' c b4 b5 := fun j a b => h j a (by omega)
/-- nodes are statements: leaves, or rules -/
def g_nds (n u : Int) (kd a fa fs hy ru : Int → Int) : Prop := ∀ j : Int, 0 ≤ j → j < u → ru j < n ∧ (kd (ru j) = 0 ∨ g_rf (ru j) kd a fa fs hy)
theorem g_nds_a {n u i x : Int} {kd a fa fs hy ru : Int → Int} (h : g_nds n u kd a fa fs hy ru) (z : i = u) (hx : x < n ∧ (kd x = 0 ∨ g_rf x kd a fa fs hy)) : g_nds n (u + 1) kd a fa fs hy (st ru i x) := fun j a b => by
  by_cases y : j = i
  · rw [y, st_s]; exact hx
  · rw [st_n _ _ y]; exact h j a (by omega)
theorem g_nar_m {kd fs ru : Int → Int} {i x m u : Int} (z : i = u) (h : m ≤ u) : sm (g_nar kd fs (st ru i x)) m = sm (g_nar kd fs ru) m := sm_x (fun e _ b => by unfold g_nar; rw [st_n _ _ (show e ≠ i from by omega)])
theorem g_nar_s {kd fs ru : Int → Int} {i x u : Int} (z : i = u) (u0 : 0 ≤ u) : sm (g_nar kd fs (st ru i x)) (u + 1) = sm (g_nar kd fs ru) u + ((if kd x = 0 then 0 else fs x) - 1) := by
  rw [sm_s _ u0, g_nar_m z (Int.le_refl _)]
  unfold g_nar; rw [← z, st_s]
/-- a whole tree, in the order of its nodes -/
def g_tre (n sz : Int) (kd a fa fs hy ru : Int → Int) : Prop := (1 ≤ sz ∧ sz ≤ 11700) ∧ g_nds n sz kd a fa fs hy ru ∧ 1 + sm (g_nar kd fs ru) sz = 0 ∧ ∀ m : Int, 0 ≤ m → m < sz → 1 ≤ 1 + sm (g_nar kd fs ru) m
theorem g_tre_e {n sz : Int} {kd a fa fs hy ru : Int → Int} (s0 : 0 ≤ sz) (s1 : sz ≤ 11700) (nd : g_nds n sz kd a fa fs hy ru) (z : 0 = 1 + sm (g_nar kd fs ru) sz) (p : ∀ m : Int, 0 ≤ m → m < sz → 1 ≤ 1 + sm (g_nar kd fs ru) m) : g_tre n sz kd a fa fs hy ru := by
  refine ⟨⟨?_, s1⟩, nd, by omega, p⟩
  rcases (by omega : 1 ≤ sz ∨ sz = 0) with q | q
  · exact q
  · rw [q, sm_0] at z; omega
theorem g_w0 {len rs s x : Int} {T : Int → Int → Int → Int} {c : Int → Int} (l0 : 0 < len) (l59 : len ≤ 59) (s0 : 0 ≤ s) (s1 : s < rs) (r : rs ≤ 100) (hx : x = (s * 60 + 0) * 60 + len) : sm (g_wB rs T (st c 0 x)) 1 + 0 ≤ 11700 ∧ sm (g_wl (st c 0 x)) 1 ≤ len := by
  have w := g_wB_a (rs := rs) (T := T) (c := c) (u := 0) (Int.le_refl 0) s0 (Int.le_refl 0) (by omega) (by omega) (by omega) hx
  have v := g_B_u (t := T 0 len) (i := 0) (e := len) s0 s1 r
  rw [sm_0, sm_0, show (0 : Int) + 1 = 1 from rfl] at w
  omega
theorem g_nar_p {kd fs ru : Int → Int} {i x u : Int} (z : i = u) (h : ∀ m : Int, 0 ≤ m → m < u → 1 ≤ 1 + sm (g_nar kd fs ru) m) (hu : 1 ≤ 1 + sm (g_nar kd fs ru) u) : ∀ m : Int, 0 ≤ m → m < u + 1 → 1 ≤ 1 + sm (g_nar kd fs (st ru i x)) m := fun m a b => by
  rw [g_nar_m z (by omega)]
  rcases (by omega : m < u ∨ m = u) with y | y
  · exact h m a y
  · rw [y]; exact hu
def g_cB (rs : Int) (T : Int → Int → Int → Int) (cs ci ce : Int → Int) (k : Int) : Int := g_B (T (ci k) (ce k)) rs (cs k) (ci k) (ce k)
def g_cL (ci ce : Int → Int) (k : Int) : Int := ce k - ci k
/-- the children of a rule, h of them put to those that wait -/
def g_gw (len rs N u h fs fa : Int) (T : Int → Int → Int → Int) (c rk a tx hy sf sto : Int → Int) (b4 b5 : Int → Int64) : Prop := ∃ cs ci ce : Int → Int, (∀ k : Int, 0 ≤ k → k < fs → g_cl len rs (cs k) (ci k) (ce k) b4 b5 ∧ rk (tx (a (hy (fa + k)))) = cs k ∧ sf (tx (a (hy (fa + k)) + 1)) = ci k ∧ sto (tx (a (hy (fa + k)) + 1)) = ce k) ∧ sm (g_wB rs T c) u + (sm (g_cB rs T cs ci ce) fs - sm (g_cB rs T cs ci ce) h) + N ≤ 11700 ∧ sm (g_wl c) u + (sm (g_cL ci ce) fs - sm (g_cL ci ce) h) ≤ len
theorem g_gw_c {len rs N u h fs fa : Int} {T : Int → Int → Int → Int} {c rk a tx hy sf sto : Int → Int} {b4 b5 : Int → Int64} (g : g_gw len rs N u h fs fa T c rk a tx hy sf sto b4 b5) (h0 : 0 ≤ h) (hf : h < fs) : (0 ≤ rk (tx (a (hy (fa + h)))) ∧ rk (tx (a (hy (fa + h)))) < rs) ∧ 0 ≤ sf (tx (a (hy (fa + h)) + 1)) ∧ sf (tx (a (hy (fa + h)) + 1)) < sto (tx (a (hy (fa + h)) + 1)) ∧ sto (tx (a (hy (fa + h)) + 1)) ≤ len := by
  obtain ⟨cs, ci, ce, k1, _, _⟩ := g
  obtain ⟨⟨a1, a2, _⟩, b1, b2, b3⟩ := k1 h h0 hf
  rw [b1, b2, b3]; exact ⟨a1, a2⟩
theorem g_gw_u {len rs N u h fs fa : Int} {T : Int → Int → Int → Int} {c rk a tx hy sf sto : Int → Int} {b4 b5 : Int → Int64} (g : g_gw len rs N u h fs fa T c rk a tx hy sf sto b4 b5) (w : g_wt len rs u c b4 b5) (u0 : 0 ≤ u) (h0 : 0 ≤ h) (hf : h ≤ fs) : u ≤ len := by
  obtain ⟨cs, ci, ce, k1, _, k3⟩ := g
  have a := g_wl_u w u0
  have b := sm_m (g := g_cL ci ce) (n := h) (m := fs) (fun e e0 e1 => by
    have v := (k1 e e0 e1).1.2.1
    unfold g_cL; omega) h0 hf
  omega
theorem g_gw_a {len rs N u h fs fa s i e x : Int} {T : Int → Int → Int → Int} {c rk a tx hy sf sto : Int → Int} {b4 b5 : Int → Int64} (g : g_gw len rs N u h fs fa T c rk a tx hy sf sto b4 b5) (w : g_wt len rs u c b4 b5) (u0 : 0 ≤ u) (h0 : 0 ≤ h) (hf : h < fs) (l59 : len ≤ 59) (hs : s = rk (tx (a (hy (fa + h))))) (hi : i = sf (tx (a (hy (fa + h)) + 1))) (he : e = sto (tx (a (hy (fa + h)) + 1))) (hx : x = (s * 60 + i) * 60 + e) : g_gw len rs N (u + 1) (h + 1) fs fa T (st c u x) rk a tx hy sf sto b4 b5 ∧ g_wt len rs (u + 1) (st c u x) b4 b5 := by
  obtain ⟨cs, ci, ce, k1, k2, k3⟩ := g
  obtain ⟨cl, b1, b2, b3⟩ := k1 h h0 hf
  rw [b1] at hs; rw [b2] at hi; rw [b3] at he
  have cl2 := cl
  obtain ⟨⟨s0, s1⟩, ⟨i0, ie, el⟩, h1, h2⟩ := cl2
  have W := g_wB_a (rs := rs) (T := T) (c := c) u0 (s := s) (i := i) (e := e) (x := x) (by omega) (by omega) (by omega) (by omega) (by omega) hx
  refine ⟨⟨cs, ci, ce, k1, ?_, ?_⟩, g_wt_a w l59 hx (by rw [hs, hi, he]; exact cl)⟩
  · rw [W.1, sm_s _ h0]
    have : g_cB rs T cs ci ce h = g_B (T i e) rs s i e := by unfold g_cB; rw [hs, hi, he]
    omega
  · rw [W.2, sm_s _ h0]
    have : g_cL ci ce h = e - i := by unfold g_cL; omega
    omega
theorem g_gw_e {len rs N u h fs fa : Int} {T : Int → Int → Int → Int} {c rk a tx hy sf sto : Int → Int} {b4 b5 : Int → Int64} (g : g_gw len rs N u h fs fa T c rk a tx hy sf sto b4 b5) (hf : h = fs) : sm (g_wB rs T c) u + N ≤ 11700 ∧ sm (g_wl c) u ≤ len := by
  obtain ⟨cs, ci, ce, k1, k2, k3⟩ := g
  rw [hf] at k2 k3
  omega
theorem g_gw_0 {n us hu pr rw' M len sp e s rs nd N ln sy u : Int} {kd a tx fl rk fa fs hy pa ps pq ra rc rs' ca ch row ky bn fr nr par nof sf sto rkd c : Int → Int} {In : Int → Prop} {b4 b5 : Int → Int64} {T : Int → Int → Int → Int} (h : J_all n us hu pr rw' kd a tx fl rk fa fs hy pa ps pq ra rc rs' ca ch) (hr : J_rks sy rs rk rkd) (tv : J_vs us sy tx) (t0 : ∀ p, 0 ≤ tx p) (a0 : ∀ p, 0 ≤ a p) (hy0 : ∀ p, 0 ≤ hy p) (r100 : rs ≤ 100)
    (ru : g_ru ln nd kd a tx fl rk fa fs hy ky bn fr nr par nof In) (hM : In M) (lnn : ln ≤ n) (un : ∀ (m : Int) (π d : Int → Int), g_wy nd len sp e M m row ky par bn nof π d (g_H b4) → g_un1 m ky π d (T sp e) (g_H b5) s) (cl : g_cl len rs s sp e b4 b5) (f0 : 0 ≤ fs M)
    (pt : g_pt len (a (M + 1) - a M - 1) sp e (a M + 1) row (j_sk a tx fl rk M) tx fl sf sto (g_H b4)) (hB : sm (g_wB rs T c) u + g_B (T sp e) rs s sp e + (N - 1) ≤ 11700) (hL : sm (g_wl c) u + (e - sp) ≤ len) : g_gw len rs N u 0 (fs M) (fa M) T c rk a tx hy sf sto b4 b5 := by
  obtain ⟨⟨M0, M1⟩, rf, _, ⟨π, p0, p1, p2⟩, _⟩ := ru.2.1 M hM
  obtain ⟨D, ⟨d0, d1, d2⟩, o, o1, o2, _, _⟩ := g_kid (rk := rk) h M0 (by omega) rf rfl pt
  have rf' := rf
  obtain ⟨r1, r2, r3, r4⟩ := rf'
  have J := h.1 M M0 (by omega)
  obtain ⟨f1, f2, _⟩ := J.2.1 (by omega)
  have rkk : ∀ k : Int, 0 ≤ k → k < fs M → 0 ≤ rk (tx (a (hy (fa M + k)))) ∧ rk (tx (a (hy (fa M + k)))) < rs := fun k k0 k1 => by
    have q := f2 k k0 k1
    have jf := (h.1 _ (hy0 (fa M + k)) (by omega)).1
    have j1 := jf.1
    exact ⟨jf.2.1, (hr.2 _ (t0 _) (tv _ (a0 _) (by omega))).1⟩
  have ks := g_kids (In := In) (cs := fun k => rk (tx (a (hy (fa M + k))))) (K := j_sk a tx fl rk M) (D := D) (o := o) (T := T) (π := π) (lf := ky) (so := ky) (lim := 0) r100 (by omega) f0 cl.1 d0 d1 cl.2.1.1 d2 un p0 p1 p2 (fun k k0 k1 => ⟨(o1 k k0 k1).1, (o1 k k0 k1).2.1, rkk k k0 k1⟩) o2
  refine ⟨fun k => rk (tx (a (hy (fa M + k)))), fun k => D (o k), fun k => D (o k + 1), fun k k0 k1 => ⟨ks.1 k k0 k1, rfl, (o1 k k0 k1).2.2⟩, ?_, ?_⟩
  · have w : sm (g_cB rs T (fun k => rk (tx (a (hy (fa M + k))))) (fun k => D (o k)) (fun k => D (o k + 1))) (fs M) + 1 ≤ g_B (T sp e) rs s sp e := ks.2.1
    rw [sm_0]; omega
  · have w : sm (g_cL (fun k => D (o k)) (fun k => D (o k + 1))) (fs M) ≤ e - sp := ks.2.2
    rw [sm_0]; omega
theorem g_so_p {p r : Int} {a tx rk : Int → Int} (h : 0 ≤ g_so p a tx rk r) : ¬ tx (a r) = p ∧ g_so p a tx rk r = rk (tx (a r)) := by
  by_cases z : tx (a r) = p
  · unfold g_so at h; rw [if_pos z] at h; omega
  · exact ⟨z, g_so_n z⟩
/-- trees of the cells that wait make a tree of the first cell -/
def g_TC (len lim pv : Int) (row lf kd a tx fl rk fa fs hy : Int → Int) (In : Int → Prop) (s i e : Int) (c ru : Int → Int) (n u : Int) : Prop := ∀ L : Int → List Int, (∀ j : Int, 0 ≤ j → j < u → g_T len lim pv row lf kd a tx fl rk fa fs hy In (c j / 3600) (c j / 60 % 60) (c j % 60) (L j)) → g_T len lim pv row lf kd a tx fl rk fa fs hy In s i e (g_pre ru n.toNat ++ g_cat L u.toNat)
/-- the same while the hypotheses of a rule are put to them -/
def g_TG (len lim pv : Int) (row lf kd a tx fl rk fa fs hy : Int → Int) (In : Int → Prop) (s i e : Int) (c ru sf sto : Int → Int) (r h n u : Int) : Prop := ∀ L : Int → List Int, (∀ j : Int, 0 ≤ j → j < u → g_T len lim pv row lf kd a tx fl rk fa fs hy In (c j / 3600) (c j / 60 % 60) (c j % 60) (L j)) → (∀ k : Int, h ≤ k → k < fs r → g_T len lim pv row lf kd a tx fl rk fa fs hy In (rk (tx (a (hy (fa r + k))))) (sf (tx (a (hy (fa r + k)) + 1))) (sto (tx (a (hy (fa r + k)) + 1))) (L (u - h + k))) → g_T len lim pv row lf kd a tx fl rk fa fs hy In s i e (g_pre ru n.toNat ++ g_cat L (u - h + fs r).toNat)
theorem g_TC_0 {len lim pv : Int} {row lf kd a tx fl rk fa fs hy : Int → Int} {In : Int → Prop} {s e x : Int} {c ru : Int → Int} (l0 : 0 ≤ e) (l59 : e ≤ 59) (s0 : 0 ≤ s) (hx : x = (s * 60 + 0) * 60 + e) : g_TC len lim pv row lf kd a tx fl rk fa fs hy In s 0 e (st c 0 x) ru 0 1 := fun L h => by
  have w := h 0 (Int.le_refl _) (by decide)
  obtain ⟨d1, d2, d3⟩ := g_dc s0 (Int.le_refl 0) (by decide) l0 (by omega) hx
  rw [st_s, d1, d2, d3] at w
  show g_T len lim pv row lf kd a tx fl rk fa fs hy In s 0 e ([] ++ (L (((0 : Nat) : Int)) ++ []))
  rw [List.nil_append, List.append_nil]
  exact w
theorem g_TC_l {len lim pv : Int} {row lf kd a tx fl rk fa fs hy : Int → Int} {In : Int → Prop} {s i e n u x i2 s2 e2 r : Int} {c ru : Int → Int} (h : g_TC len lim pv row lf kd a tx fl rk fa fs hy In s i e c ru n u) (u0 : 0 < u) (n0 : 0 ≤ n) (z : x = n) (d : c (u + (-1)) / 3600 = s2 ∧ c (u + (-1)) / 60 % 60 = i2 ∧ c (u + (-1)) % 60 = e2) (t : g_T len lim pv row lf kd a tx fl rk fa fs hy In s2 i2 e2 [r]) : g_TC len lim pv row lf kd a tx fl rk fa fs hy In s i e c (st ru x r) (n + 1) (u + (-1)) := fun L hL => by
  have w := h (fun j => if j = u + (-1) then [r] else L j) (fun j j0 j1 => by
    show g_T len lim pv row lf kd a tx fl rk fa fs hy In _ _ _ (if j = u + (-1) then [r] else L j)
    by_cases y : j = u + (-1)
    · rw [if_pos y, y, d.1, d.2.1, d.2.2]; exact t
    · rw [if_neg y]; exact hL j j0 (by omega))
  rw [g_pre_s z n0, List.append_assoc]
  rw [show u.toNat = (u + (-1)).toNat + 1 from by omega] at w
  have q : g_cat (fun j => if j = u + (-1) then [r] else L j) ((u + (-1)).toNat + 1) = [r] ++ g_cat L (u + (-1)).toNat := by
    show (if ((u + (-1)).toNat : Int) = u + (-1) then [r] else L ((u + (-1)).toNat : Int)) ++ g_cat (fun j => if j = u + (-1) then [r] else L j) (u + (-1)).toNat = _
    rw [if_pos (by omega), g_cat_x (M := L) (u + (-1)).toNat (fun k a b => if_neg (by omega))]
  rw [q] at w
  exact w
theorem g_TG_0 {len lim pv : Int} {row lf kd a tx fl rk fa fs hy : Int → Int} {In : Int → Prop} {s i e n u x i2 s2 e2 r : Int} {c ru sf sto D o : Int → Int} (h : g_TC len lim pv row lf kd a tx fl rk fa fs hy In s i e c ru n u) (u0 : 0 < u) (n0 : 0 ≤ n) (f0 : 0 ≤ fs r) (z : x = n) (d : c (u + (-1)) / 3600 = s2 ∧ c (u + (-1)) / 60 % 60 = i2 ∧ c (u + (-1)) % 60 = e2) (hs : s2 = rk (tx (a r))) (tr : g_Tr len lim row lf a tx fl fa fs hy In r i2 e2 D o) (so : ∀ k : Int, 0 ≤ k → k < fs r → sf (tx (a (hy (fa r + k)) + 1)) = D (o k) ∧ sto (tx (a (hy (fa r + k)) + 1)) = D (o k + 1)) : g_TG len lim pv row lf kd a tx fl rk fa fs hy In s i e c (st ru x r) sf sto r 0 (n + 1) (u + (-1)) := fun L hL hk => by
  have w := h (fun j => if j = u + (-1) then r :: g_cat (fun k => L (u + (-1) + k)) (fs r).toNat else L j) (fun j j0 j1 => by
    show g_T len lim pv row lf kd a tx fl rk fa fs hy In _ _ _ (if j = u + (-1) then r :: g_cat (fun k => L (u + (-1) + k)) (fs r).toNat else L j)
    by_cases y : j = u + (-1)
    · rw [if_pos y, y, d.1, d.2.1, d.2.2, hs]
      refine g_T_r tr (fun k k0 k1 => ?_)
      have v := hk k k0 k1
      rw [(so k k0 k1).1, (so k k0 k1).2, show u + (-1) - 0 + k = u + (-1) + k from by omega] at v
      exact v
    · rw [if_neg y]; exact hL j j0 (by omega))
  rw [g_pre_s z n0, List.append_assoc]
  rw [show u.toNat = (u + (-1)).toNat + 1 from by omega] at w
  have q : g_cat (fun j => if j = u + (-1) then r :: g_cat (fun k => L (u + (-1) + k)) (fs r).toNat else L j) ((u + (-1)).toNat + 1) = [r] ++ g_cat L (u + (-1) - 0 + fs r).toNat := by
    show (if ((u + (-1)).toNat : Int) = u + (-1) then r :: g_cat (fun k => L (u + (-1) + k)) (fs r).toNat else L ((u + (-1)).toNat : Int)) ++ g_cat (fun j => if j = u + (-1) then r :: g_cat (fun k => L (u + (-1) + k)) (fs r).toNat else L j) (u + (-1)).toNat = _
    rw [if_pos (by omega), g_cat_x (M := L) (u + (-1)).toNat (fun k a b => if_neg (by omega)), show (u + (-1) - 0 + fs r).toNat = (u + (-1)).toNat + (fs r).toNat from by omega, g_cat_a, show ((u + (-1)).toNat : Int) = u + (-1) from by omega]
    rfl
  rw [q] at w
  exact w
theorem g_TG_s {len lim pv : Int} {row lf kd a tx fl rk fa fs hy : Int → Int} {In : Int → Prop} {s i e n u s2 i2 e2 x r h : Int} {c ru sf sto : Int → Int} (g : g_TG len lim pv row lf kd a tx fl rk fa fs hy In s i e c ru sf sto r h n u) (u0 : 0 ≤ u) (hs : s2 = rk (tx (a (hy (fa r + h))))) (hi : i2 = sf (tx (a (hy (fa r + h)) + 1))) (he : e2 = sto (tx (a (hy (fa r + h)) + 1))) (s0 : 0 ≤ s2) (i0 : 0 ≤ i2) (i1 : i2 < 60) (e0 : 0 ≤ e2) (e1 : e2 < 60) (hx : x = (s2 * 60 + i2) * 60 + e2) : g_TG len lim pv row lf kd a tx fl rk fa fs hy In s i e (st c u x) ru sf sto r (h + 1) n (u + 1) := fun L hL hk => by
  obtain ⟨d1, d2, d3⟩ := g_dc s0 i0 i1 e0 e1 hx
  have w := g L (fun j j0 j1 => by have v := hL j j0 (by omega); rw [st_n _ _ (show j ≠ u from by omega)] at v; exact v) (fun k k0 k1 => by
    by_cases y : k = h
    · have v := hL u u0 (by omega)
      rw [st_s, d1, d2, d3, hs, hi, he] at v
      rw [y, show u - h + h = u from by omega]; exact v
    · have v := hk k (by omega) k1
      rw [show u + 1 - (h + 1) + k = u - h + k from by omega] at v
      exact v)
  rw [show u + 1 - (h + 1) + fs r = u - h + fs r from by omega]
  exact w
theorem g_TG_e {len lim pv : Int} {row lf kd a tx fl rk fa fs hy : Int → Int} {In : Int → Prop} {s i e n u r h : Int} {c ru sf sto : Int → Int} (g : g_TG len lim pv row lf kd a tx fl rk fa fs hy In s i e c ru sf sto r h n u) (z : h = fs r) : g_TC len lim pv row lf kd a tx fl rk fa fs hy In s i e c ru n u := fun L hL => by
  have w := g L hL (fun k k0 k1 => by omega)
  rw [show u - h + fs r = u from by omega] at w
  exact w
theorem g_TC_e {len lim pv : Int} {row lf kd a tx fl rk fa fs hy : Int → Int} {In : Int → Prop} {s i e n u : Int} {c ru : Int → Int} (g : g_TC len lim pv row lf kd a tx fl rk fa fs hy In s i e c ru n u) (z : u = 0) : g_T len lim pv row lf kd a tx fl rk fa fs hy In s i e (g_pre ru n.toNat) := by
  have w := g (fun _ => []) (fun j j0 j1 => by omega)
  rw [z] at w
  have q : g_cat (fun _ => []) (0 : Int).toNat = [] := rfl
  rw [q, List.append_nil] at w
  exact w
/-- a cell that a rule makes, as its symbols part it -/
theorem g_Tr_0 {n us hu pr rw' M len sp e nd ln lim : Int} {kd a tx fl rk fa fs hy pa ps pq ra rc rs' ca ch row lf ky bn fr nr par nof sf sto : Int → Int} {In : Int → Prop} {Hs : Int → Int → Int → Prop} (h : J_all n us hu pr rw' kd a tx fl rk fa fs hy pa ps pq ra rc rs' ca ch) (ru : g_ru ln nd kd a tx fl rk fa fs hy ky bn fr nr par nof In) (hM : In M) (lnn : ln ≤ n) (ml : M < lim) (nv : g_nv M a tx fl) (s0 : 0 ≤ sp) (t0 : ∀ p, 0 ≤ tx p) (kx : g_kx len row ky par lf Hs sp (nof M) e)
    (pt : g_pt len (a (M + 1) - a M - 1) sp e (a M + 1) row (j_sk a tx fl rk M) tx fl sf sto Hs) : ∃ D o : Int → Int, g_Tr len lim row lf a tx fl fa fs hy In M sp e D o ∧ ∀ k : Int, 0 ≤ k → k < fs M → sf (tx (a (hy (fa M + k)) + 1)) = D (o k) ∧ sto (tx (a (hy (fa M + k)) + 1)) = D (o k + 1) := by
  obtain ⟨⟨M0, M1⟩, rf, _, ⟨π, p0, p1, p2⟩, _⟩ := ru.2.1 M hM
  obtain ⟨D, ⟨d0, d1, d2⟩, o, o1, o2, o3, o4⟩ := g_kid (rk := rk) h M0 (by omega) rf rfl pt
  have l2 := rf.2.1
  refine ⟨D, o, ⟨⟨hM, ml⟩, s0, d0, d1, fun j j0 j1 => ?_, fun z => ?_, fun k k0 k1 => ⟨(o1 k k0 k1).1, o3 k k0 k1⟩, fun j j0 j1 jf => ?_⟩, fun k k0 k1 => ⟨(o1 k k0 k1).2.2.1, (o1 k k0 k1).2.2.2⟩⟩
  · have m := d2 j j0 j1
    have mb := g_mk_b m
    refine ⟨mb.1, mb.2, fun z => ?_⟩
    rw [g_skc z] at m
    obtain ⟨_, ⟨_, m2, m3⟩ | ⟨m1, _⟩⟩ := m
    · exact ⟨m3, m2⟩
    · have := t0 (a M + 1 + j); omega
  · obtain ⟨m, ρ, d, ⟨k1, k2, k3, k4, k5, k6⟩, m1, cst⟩ := kx
    have cu := g_chu (par := par) (a (M + 1) - a M - 1).toNat (a (M + 1) - a M - 1) m π ρ (by omega) k1 p0 k2 (by rw [p1, k3]) (fun j j0 j1 => ⟨(p2 j j0 j1).1, (p2 j j0 j1).2.2.1⟩) (fun j j0 j1 => ⟨(k6 j j0 j1).1, (k6 j j0 j1).2.1⟩)
    refine cst ?_
    rw [← cu.2 1 (by omega) (by omega)]
    have w := (p2 0 (by omega) (by omega)).2.2.2.1
    rw [show (0 : Int) + 1 = 1 from rfl] at w
    rw [w, g_skc (by rw [Int.add_zero]; exact z)]
    exact t0 _
  · obtain ⟨k, ⟨k0, k1⟩, kt⟩ := o4 j j0 j1 jf
    refine ⟨k, k0, k1, ?_⟩
    have w := o3 k k0 k1
    have b := (o1 k k0 k1).1
    rcases Int.lt_trichotomy (o k) j with q | q | q
    · exact absurd (w.2.2.trans kt.symm) (nv (o k) j b.1 q (by omega) w.1 jf)
    · exact q
    · exact absurd (kt.trans w.2.2.symm) (nv j (o k) j0 q (by omega) jf w.1)
set_option maxHeartbeats 8000000 in
theorem K_X11_grow {par nof : Int → Int} {In : Int → Prop} {σ : S0} (hT : c_T σ) (p1 : J_all (σ.1 7) (σ.1 6) (σ.1 13) (σ.1 14) (σ.1 15) (σ.2.1 13) (σ.2.1 14) (σ.2.1 15) (σ.2.1 16) (σ.2.1 10) (σ.2.1 27) (σ.2.1 28) (σ.2.1 29) (σ.2.1 30) (σ.2.1 31) (σ.2.1 32) (σ.2.1 33) (σ.2.1 34) (σ.2.1 35) (σ.2.1 36) (σ.2.1 37)) (p2 : c_Rs σ par nof In) (p3 : J_rks (σ.1 5) (σ.1 4) (σ.2.1 10) (σ.2.1 11)) (p4 : J_vs (σ.1 6) (σ.1 5) (σ.2.1 15)) (p5 : ∀ i : Int, 0 ≤ i → i < (σ.1 50) → 0 ≤ σ.2.1 78 i → σ.2.1 78 i < (σ.1 7) ∧ σ.2.1 13 (σ.2.1 78 i) = 0) (p6 : ∀ i : Int, 0 ≤ i → i < (σ.1 50) → g_ok (σ.1 45) (σ.1 50) (σ.1 4) (σ.1 51) i (σ.2.1 77) (σ.2.1 69) par (σ.2.1 70) nof (g_so (σ.1 48) (σ.2.1 14) (σ.2.1 15) (σ.2.1 10)) (σ.2.1 78) In (σ.2.2 4) (σ.2.2 5) (σ.2.1 79)) (p7 : 0 ≤ (σ.1 52) ∧ (σ.1 52) < (σ.1 4)) (p8 : 0 < (σ.1 50)) (p9 : g_H (σ.2.2 4) (σ.1 52) 0 (σ.1 50) ∧ ¬ g_H (σ.2.2 5) (σ.1 52) 0 (σ.1 50)) (p10 : g_wu (σ.1 50) (σ.2.1 77) (σ.2.2 3)) : W_X11_grow σ (fun (τ : S0) => (c_T τ) ∧ (g_tre (τ.1 7) (τ.1 54) (τ.2.1 13) (τ.2.1 14) (τ.2.1 27) (τ.2.1 28) (τ.2.1 29) (τ.2.1 84)) ∧ (g_T (σ.1 50) (σ.1 51) (σ.1 48) (σ.2.1 77) (σ.2.1 78) (σ.2.1 13) (σ.2.1 14) (σ.2.1 15) (σ.2.1 16) (σ.2.1 10) (σ.2.1 27) (σ.2.1 28) (σ.2.1 29) In (σ.1 52) 0 (σ.1 50) (g_pre (τ.2.1 84) ((τ.1 54)).toNat))) := by
  have A10 : ∀ j, (-1) ≤ σ.2.1 10 j ∧ σ.2.1 10 j ≤ 99 := fun j => hT.2 10 j
  have A11 : ∀ j, 0 ≤ σ.2.1 11 j ∧ σ.2.1 11 j ≤ 999 := fun j => hT.2 11 j
  have A13 : ∀ j, 0 ≤ σ.2.1 13 j ∧ σ.2.1 13 j ≤ 4 := fun j => hT.2 13 j
  have A14 : ∀ j, 0 ≤ σ.2.1 14 j ∧ σ.2.1 14 j ≤ 30000 := fun j => hT.2 14 j
  have A15 : ∀ j, 0 ≤ σ.2.1 15 j ∧ σ.2.1 15 j ≤ 999 := fun j => hT.2 15 j
  have A16 : ∀ j, (-1) ≤ σ.2.1 16 j ∧ σ.2.1 16 j ≤ 1499 := fun j => hT.2 16 j
  have A27 : ∀ j, 0 ≤ σ.2.1 27 j ∧ σ.2.1 27 j ≤ 90000 := fun j => hT.2 27 j
  have A28 : ∀ j, 0 ≤ σ.2.1 28 j ∧ σ.2.1 28 j ≤ 60 := fun j => hT.2 28 j
  have A29 : ∀ j, 0 ≤ σ.2.1 29 j ∧ σ.2.1 29 j ≤ 1499 := fun j => hT.2 29 j
  have A30 : ∀ j, 0 ≤ σ.2.1 30 j ∧ σ.2.1 30 j ≤ 20000 := fun j => hT.2 30 j
  have A31 : ∀ j, 0 ≤ σ.2.1 31 j ∧ σ.2.1 31 j ≤ 20000 := fun j => hT.2 31 j
  have A32 : ∀ j, 0 ≤ σ.2.1 32 j ∧ σ.2.1 32 j ≤ 999999 := fun j => hT.2 32 j
  have A33 : ∀ j, 0 ≤ σ.2.1 33 j ∧ σ.2.1 33 j ≤ 20000 := fun j => hT.2 33 j
  have A34 : ∀ j, 0 ≤ σ.2.1 34 j ∧ σ.2.1 34 j ≤ 20000 := fun j => hT.2 34 j
  have A35 : ∀ j, 0 ≤ σ.2.1 35 j ∧ σ.2.1 35 j ≤ 1499 := fun j => hT.2 35 j
  have A36 : ∀ j, 0 ≤ σ.2.1 36 j ∧ σ.2.1 36 j ≤ 20000 := fun j => hT.2 36 j
  have A37 : ∀ j, 0 ≤ σ.2.1 37 j ∧ σ.2.1 37 j ≤ 19999 := fun j => hT.2 37 j
  have A69 : ∀ j, (-100) ≤ σ.2.1 69 j ∧ σ.2.1 69 j ≤ 999 := fun j => hT.2 69 j
  have A70 : ∀ j, 0 ≤ σ.2.1 70 j ∧ σ.2.1 70 j ≤ 1499 := fun j => hT.2 70 j
  have A72 : ∀ j, 0 ≤ σ.2.1 72 j ∧ σ.2.1 72 j ≤ 1500 := fun j => hT.2 72 j
  have A73 : ∀ j, 0 ≤ σ.2.1 73 j ∧ σ.2.1 73 j ≤ 30000 := fun j => hT.2 73 j
  have A77 : ∀ j, 0 ≤ σ.2.1 77 j ∧ σ.2.1 77 j ≤ 999 := fun j => hT.2 77 j
  have A78 : ∀ j, (-1) ≤ σ.2.1 78 j ∧ σ.2.1 78 j ≤ 1499 := fun j => hT.2 78 j
  have A79 : ∀ j, 0 ≤ σ.2.1 79 j ∧ σ.2.1 79 j ≤ 1499 := fun j => hT.2 79 j
  have A84 : ∀ j, 0 ≤ σ.2.1 84 j ∧ σ.2.1 84 j ≤ 1499 := fun j => hT.2 84 j
  have A88 : ∀ j, 0 ≤ σ.2.1 88 j ∧ σ.2.1 88 j ≤ 359999 := fun j => hT.2 88 j
  have A89 : ∀ j, 0 ≤ σ.2.1 89 j ∧ σ.2.1 89 j ≤ 59 := fun j => hT.2 89 j
  have A90 : ∀ j, 0 ≤ σ.2.1 90 j ∧ σ.2.1 90 j ≤ 59 := fun j => hT.2 90 j
  have v4 : 0 ≤ σ.1 4 ∧ σ.1 4 ≤ 100 := hT.1 4
  have v5 : 0 ≤ σ.1 5 ∧ σ.1 5 ≤ 1000 := hT.1 5
  have v6 : 0 ≤ σ.1 6 ∧ σ.1 6 ≤ 30000 := hT.1 6
  have v7 : 0 ≤ σ.1 7 ∧ σ.1 7 ≤ 1500 := hT.1 7
  have v13 : 0 ≤ σ.1 13 ∧ σ.1 13 ≤ 90000 := hT.1 13
  have v14 : 0 ≤ σ.1 14 ∧ σ.1 14 ≤ 20000 := hT.1 14
  have v15 : 0 ≤ σ.1 15 ∧ σ.1 15 ≤ 20000 := hT.1 15
  have v45 : 1 ≤ σ.1 45 ∧ σ.1 45 ≤ 30001 := hT.1 45
  have v48 : (-1) ≤ σ.1 48 ∧ σ.1 48 ≤ 999 := hT.1 48
  have v50 : 0 ≤ σ.1 50 ∧ σ.1 50 ≤ 59 := hT.1 50
  have v51 : 0 ≤ σ.1 51 ∧ σ.1 51 ≤ 1500 := hT.1 51
  have v52 : (-1) ≤ σ.1 52 ∧ σ.1 52 ≤ 99 := hT.1 52
  have v54 : 0 ≤ σ.1 54 ∧ σ.1 54 ≤ 12000 := hT.1 54
  have W4 : σ.1 4 = σ.1 4 := rfl
  have W5 : σ.1 5 = σ.1 5 := rfl
  have W6 : σ.1 6 = σ.1 6 := rfl
  have W7 : σ.1 7 = σ.1 7 := rfl
  have W13 : σ.1 13 = σ.1 13 := rfl
  have W14 : σ.1 14 = σ.1 14 := rfl
  have W15 : σ.1 15 = σ.1 15 := rfl
  have W45 : σ.1 45 = σ.1 45 := rfl
  have W48 : σ.1 48 = σ.1 48 := rfl
  have W50 : σ.1 50 = σ.1 50 := rfl
  have W51 : σ.1 51 = σ.1 51 := rfl
  have W52 : σ.1 52 = σ.1 52 := rfl
  have G10 : σ.2.1 10 = σ.2.1 10 := rfl
  have G11 : σ.2.1 11 = σ.2.1 11 := rfl
  have G13 : σ.2.1 13 = σ.2.1 13 := rfl
  have G14 : σ.2.1 14 = σ.2.1 14 := rfl
  have G15 : σ.2.1 15 = σ.2.1 15 := rfl
  have G16 : σ.2.1 16 = σ.2.1 16 := rfl
  have G27 : σ.2.1 27 = σ.2.1 27 := rfl
  have G28 : σ.2.1 28 = σ.2.1 28 := rfl
  have G29 : σ.2.1 29 = σ.2.1 29 := rfl
  have G30 : σ.2.1 30 = σ.2.1 30 := rfl
  have G31 : σ.2.1 31 = σ.2.1 31 := rfl
  have G32 : σ.2.1 32 = σ.2.1 32 := rfl
  have G33 : σ.2.1 33 = σ.2.1 33 := rfl
  have G34 : σ.2.1 34 = σ.2.1 34 := rfl
  have G35 : σ.2.1 35 = σ.2.1 35 := rfl
  have G36 : σ.2.1 36 = σ.2.1 36 := rfl
  have G37 : σ.2.1 37 = σ.2.1 37 := rfl
  have G69 : σ.2.1 69 = σ.2.1 69 := rfl
  have G70 : σ.2.1 70 = σ.2.1 70 := rfl
  have G72 : σ.2.1 72 = σ.2.1 72 := rfl
  have G73 : σ.2.1 73 = σ.2.1 73 := rfl
  have G77 : σ.2.1 77 = σ.2.1 77 := rfl
  have G78 : σ.2.1 78 = σ.2.1 78 := rfl
  have G79 : σ.2.1 79 = σ.2.1 79 := rfl
  intro P36 P185 h36 h185
  obtain ⟨T, hT2⟩ := g_ok_T p6
  have l47 := p2.2.2
  have ru := p2.1.2.1
  have w50 : 0 < σ.1 50 ∧ σ.1 50 ≤ 59 := by omega
  have s14 := A14
  have s15 := A15
  have s29 := A29
  have s28 := A28
  have s27 := A27
  have slx : ∀ s q e : Int, 0 ≤ s → s < σ.1 4 → 0 ≤ q → q < σ.1 50 → 0 ≤ e → e < 64 → g_H (σ.2.2 4) s q e → q < e ∧ e ≤ σ.1 50 := fun s q e a b c d f g h => ((hT2 q e c d f g s a b).2 h).1
  have cl0 : g_cl (σ.1 50) (σ.1 4) (σ.1 52) 0 (σ.1 50) (σ.2.2 4) (σ.2.2 5) := ⟨p7, ⟨Int.le_refl _, by omega, Int.le_refl _⟩, p9⟩
  have TX : J_vs (σ.1 6) (σ.1 5) (σ.2.1 15) := p4
  have RKS : J_rks (σ.1 5) (σ.1 4) (σ.2.1 10) (σ.2.1 11) := p3
  have CJ : J_all (σ.1 7) (σ.1 6) (σ.1 13) (σ.1 14) (σ.1 15) (σ.2.1 13) (σ.2.1 14) (σ.2.1 15) (σ.2.1 16) (σ.2.1 10) (σ.2.1 27) (σ.2.1 28) (σ.2.1 29) (σ.2.1 30) (σ.2.1 31) (σ.2.1 32) (σ.2.1 33) (σ.2.1 34) (σ.2.1 35) (σ.2.1 36) (σ.2.1 37) := p1
  have CJ_0 := CJ
  have RKS_0 := RKS
  have TX_0 := TX
  have l_36 : ∀ (m_36 : Nat) (u1_36 : Int) (u2_36 : Int) (τ_36 : S0), 12001 - u2_36 < (m_36 : Int) → (c_T τ_36) → (τ_36.1 4 = σ.1 4) → (τ_36.1 5 = σ.1 5) → (τ_36.1 6 = σ.1 6) → (τ_36.1 7 = σ.1 7) → (τ_36.1 13 = σ.1 13) → (τ_36.1 14 = σ.1 14) → (τ_36.1 15 = σ.1 15) → (τ_36.1 45 = σ.1 45) → (τ_36.1 48 = σ.1 48) → (τ_36.1 50 = σ.1 50) → (τ_36.1 51 = σ.1 51) → (τ_36.1 52 = σ.1 52) → (τ_36.2.1 10 = σ.2.1 10) → (τ_36.2.1 11 = σ.2.1 11) → (τ_36.2.1 13 = σ.2.1 13) → (τ_36.2.1 14 = σ.2.1 14) → (τ_36.2.1 15 = σ.2.1 15) → (τ_36.2.1 16 = σ.2.1 16) → (τ_36.2.1 27 = σ.2.1 27) → (τ_36.2.1 28 = σ.2.1 28) → (τ_36.2.1 29 = σ.2.1 29) → (τ_36.2.1 30 = σ.2.1 30) → (τ_36.2.1 31 = σ.2.1 31) → (τ_36.2.1 32 = σ.2.1 32) → (τ_36.2.1 33 = σ.2.1 33) → (τ_36.2.1 34 = σ.2.1 34) → (τ_36.2.1 35 = σ.2.1 35) → (τ_36.2.1 36 = σ.2.1 36) → (τ_36.2.1 37 = σ.2.1 37) → (τ_36.2.1 69 = σ.2.1 69) → (τ_36.2.1 70 = σ.2.1 70) → (τ_36.2.1 72 = σ.2.1 72) → (τ_36.2.1 73 = σ.2.1 73) → (τ_36.2.1 77 = σ.2.1 77) → (τ_36.2.1 78 = σ.2.1 78) → (τ_36.2.1 79 = σ.2.1 79) → ((τ_36.1 54) = u2_36 ∧ 0 ≤ u2_36) → (u1_36 = 1 + sm (g_nar (σ.2.1 13) (σ.2.1 28) (τ_36.2.1 84)) u2_36 ∧ 0 ≤ u1_36) → (g_wt (σ.1 50) (σ.1 4) u1_36 (τ_36.2.1 88) (σ.2.2 4) (σ.2.2 5)) → (sm (g_wB (σ.1 4) T (τ_36.2.1 88)) u1_36 + u2_36 ≤ 11700 ∧ sm (g_wl (τ_36.2.1 88)) u1_36 ≤ (σ.1 50)) → (g_nds (σ.1 7) u2_36 (σ.2.1 13) (σ.2.1 14) (σ.2.1 27) (σ.2.1 28) (σ.2.1 29) (τ_36.2.1 84)) → (∀ m : Int, 0 ≤ m → m < u2_36 → 1 ≤ 1 + sm (g_nar (σ.2.1 13) (σ.2.1 28) (τ_36.2.1 84)) m) → (c_Rs τ_36 par nof In) → (τ_36.2.2 4 = σ.2.2 4) → (τ_36.2.2 3 = σ.2.2 3) → (g_TC (σ.1 50) (σ.1 51) (σ.1 48) (σ.2.1 77) (σ.2.1 78) (σ.2.1 13) (σ.2.1 14) (σ.2.1 15) (σ.2.1 16) (σ.2.1 10) (σ.2.1 27) (σ.2.1 28) (σ.2.1 29) In (σ.1 52) 0 (σ.1 50) (τ_36.2.1 88) (τ_36.2.1 84) u2_36 u1_36) → P36 u1_36 u2_36 τ_36 := by
    intro m_36
    induction m_36 with
    | zero =>
      intro u1_36 u2_36 τ_36 hm hT W4 W5 W6 W7 W13 W14 W15 W45 W48 W50 W51 W52 G10 G11 G13 G14 G15 G16 G27 G28 G29 G30 G31 G32 G33 G34 G35 G36 G37 G69 G70 G72 G73 G77 G78 G79 i36_1 i36_2 i36_3 i36_4 i36_5 i36_6 i36_7 i36_8 i36_9 i36_10
      have A10 : ∀ j, (-1) ≤ τ_36.2.1 10 j ∧ τ_36.2.1 10 j ≤ 99 := fun j => hT.2 10 j
      have A11 : ∀ j, 0 ≤ τ_36.2.1 11 j ∧ τ_36.2.1 11 j ≤ 999 := fun j => hT.2 11 j
      have A13 : ∀ j, 0 ≤ τ_36.2.1 13 j ∧ τ_36.2.1 13 j ≤ 4 := fun j => hT.2 13 j
      have A14 : ∀ j, 0 ≤ τ_36.2.1 14 j ∧ τ_36.2.1 14 j ≤ 30000 := fun j => hT.2 14 j
      have A15 : ∀ j, 0 ≤ τ_36.2.1 15 j ∧ τ_36.2.1 15 j ≤ 999 := fun j => hT.2 15 j
      have A16 : ∀ j, (-1) ≤ τ_36.2.1 16 j ∧ τ_36.2.1 16 j ≤ 1499 := fun j => hT.2 16 j
      have A27 : ∀ j, 0 ≤ τ_36.2.1 27 j ∧ τ_36.2.1 27 j ≤ 90000 := fun j => hT.2 27 j
      have A28 : ∀ j, 0 ≤ τ_36.2.1 28 j ∧ τ_36.2.1 28 j ≤ 60 := fun j => hT.2 28 j
      have A29 : ∀ j, 0 ≤ τ_36.2.1 29 j ∧ τ_36.2.1 29 j ≤ 1499 := fun j => hT.2 29 j
      have A30 : ∀ j, 0 ≤ τ_36.2.1 30 j ∧ τ_36.2.1 30 j ≤ 20000 := fun j => hT.2 30 j
      have A31 : ∀ j, 0 ≤ τ_36.2.1 31 j ∧ τ_36.2.1 31 j ≤ 20000 := fun j => hT.2 31 j
      have A32 : ∀ j, 0 ≤ τ_36.2.1 32 j ∧ τ_36.2.1 32 j ≤ 999999 := fun j => hT.2 32 j
      have A33 : ∀ j, 0 ≤ τ_36.2.1 33 j ∧ τ_36.2.1 33 j ≤ 20000 := fun j => hT.2 33 j
      have A34 : ∀ j, 0 ≤ τ_36.2.1 34 j ∧ τ_36.2.1 34 j ≤ 20000 := fun j => hT.2 34 j
      have A35 : ∀ j, 0 ≤ τ_36.2.1 35 j ∧ τ_36.2.1 35 j ≤ 1499 := fun j => hT.2 35 j
      have A36 : ∀ j, 0 ≤ τ_36.2.1 36 j ∧ τ_36.2.1 36 j ≤ 20000 := fun j => hT.2 36 j
      have A37 : ∀ j, 0 ≤ τ_36.2.1 37 j ∧ τ_36.2.1 37 j ≤ 19999 := fun j => hT.2 37 j
      have A69 : ∀ j, (-100) ≤ τ_36.2.1 69 j ∧ τ_36.2.1 69 j ≤ 999 := fun j => hT.2 69 j
      have A70 : ∀ j, 0 ≤ τ_36.2.1 70 j ∧ τ_36.2.1 70 j ≤ 1499 := fun j => hT.2 70 j
      have A72 : ∀ j, 0 ≤ τ_36.2.1 72 j ∧ τ_36.2.1 72 j ≤ 1500 := fun j => hT.2 72 j
      have A73 : ∀ j, 0 ≤ τ_36.2.1 73 j ∧ τ_36.2.1 73 j ≤ 30000 := fun j => hT.2 73 j
      have A77 : ∀ j, 0 ≤ τ_36.2.1 77 j ∧ τ_36.2.1 77 j ≤ 999 := fun j => hT.2 77 j
      have A78 : ∀ j, (-1) ≤ τ_36.2.1 78 j ∧ τ_36.2.1 78 j ≤ 1499 := fun j => hT.2 78 j
      have A79 : ∀ j, 0 ≤ τ_36.2.1 79 j ∧ τ_36.2.1 79 j ≤ 1499 := fun j => hT.2 79 j
      have A84 : ∀ j, 0 ≤ τ_36.2.1 84 j ∧ τ_36.2.1 84 j ≤ 1499 := fun j => hT.2 84 j
      have A88 : ∀ j, 0 ≤ τ_36.2.1 88 j ∧ τ_36.2.1 88 j ≤ 359999 := fun j => hT.2 88 j
      have A89 : ∀ j, 0 ≤ τ_36.2.1 89 j ∧ τ_36.2.1 89 j ≤ 59 := fun j => hT.2 89 j
      have A90 : ∀ j, 0 ≤ τ_36.2.1 90 j ∧ τ_36.2.1 90 j ≤ 59 := fun j => hT.2 90 j
      have v4 : 0 ≤ τ_36.1 4 ∧ τ_36.1 4 ≤ 100 := hT.1 4
      have v5 : 0 ≤ τ_36.1 5 ∧ τ_36.1 5 ≤ 1000 := hT.1 5
      have v6 : 0 ≤ τ_36.1 6 ∧ τ_36.1 6 ≤ 30000 := hT.1 6
      have v7 : 0 ≤ τ_36.1 7 ∧ τ_36.1 7 ≤ 1500 := hT.1 7
      have v13 : 0 ≤ τ_36.1 13 ∧ τ_36.1 13 ≤ 90000 := hT.1 13
      have v14 : 0 ≤ τ_36.1 14 ∧ τ_36.1 14 ≤ 20000 := hT.1 14
      have v15 : 0 ≤ τ_36.1 15 ∧ τ_36.1 15 ≤ 20000 := hT.1 15
      have v45 : 1 ≤ τ_36.1 45 ∧ τ_36.1 45 ≤ 30001 := hT.1 45
      have v48 : (-1) ≤ τ_36.1 48 ∧ τ_36.1 48 ≤ 999 := hT.1 48
      have v50 : 0 ≤ τ_36.1 50 ∧ τ_36.1 50 ≤ 59 := hT.1 50
      have v51 : 0 ≤ τ_36.1 51 ∧ τ_36.1 51 ≤ 1500 := hT.1 51
      have v52 : (-1) ≤ τ_36.1 52 ∧ τ_36.1 52 ≤ 99 := hT.1 52
      have v54 : 0 ≤ τ_36.1 54 ∧ τ_36.1 54 ≤ 12000 := hT.1 54
      exfalso; (first | omega | (simp only [st_s] <;> omega) | assumption | omega | fail)
    | succ m_36 ih_36 =>
      intro u1_36 u2_36 τ_36 hm_36 hT W4 W5 W6 W7 W13 W14 W15 W45 W48 W50 W51 W52 G10 G11 G13 G14 G15 G16 G27 G28 G29 G30 G31 G32 G33 G34 G35 G36 G37 G69 G70 G72 G73 G77 G78 G79 i36_1 i36_2 i36_3 i36_4 i36_5 i36_6 i36_7 i36_8 i36_9 i36_10
      have A10 : ∀ j, (-1) ≤ τ_36.2.1 10 j ∧ τ_36.2.1 10 j ≤ 99 := fun j => hT.2 10 j
      have A11 : ∀ j, 0 ≤ τ_36.2.1 11 j ∧ τ_36.2.1 11 j ≤ 999 := fun j => hT.2 11 j
      have A13 : ∀ j, 0 ≤ τ_36.2.1 13 j ∧ τ_36.2.1 13 j ≤ 4 := fun j => hT.2 13 j
      have A14 : ∀ j, 0 ≤ τ_36.2.1 14 j ∧ τ_36.2.1 14 j ≤ 30000 := fun j => hT.2 14 j
      have A15 : ∀ j, 0 ≤ τ_36.2.1 15 j ∧ τ_36.2.1 15 j ≤ 999 := fun j => hT.2 15 j
      have A16 : ∀ j, (-1) ≤ τ_36.2.1 16 j ∧ τ_36.2.1 16 j ≤ 1499 := fun j => hT.2 16 j
      have A27 : ∀ j, 0 ≤ τ_36.2.1 27 j ∧ τ_36.2.1 27 j ≤ 90000 := fun j => hT.2 27 j
      have A28 : ∀ j, 0 ≤ τ_36.2.1 28 j ∧ τ_36.2.1 28 j ≤ 60 := fun j => hT.2 28 j
      have A29 : ∀ j, 0 ≤ τ_36.2.1 29 j ∧ τ_36.2.1 29 j ≤ 1499 := fun j => hT.2 29 j
      have A30 : ∀ j, 0 ≤ τ_36.2.1 30 j ∧ τ_36.2.1 30 j ≤ 20000 := fun j => hT.2 30 j
      have A31 : ∀ j, 0 ≤ τ_36.2.1 31 j ∧ τ_36.2.1 31 j ≤ 20000 := fun j => hT.2 31 j
      have A32 : ∀ j, 0 ≤ τ_36.2.1 32 j ∧ τ_36.2.1 32 j ≤ 999999 := fun j => hT.2 32 j
      have A33 : ∀ j, 0 ≤ τ_36.2.1 33 j ∧ τ_36.2.1 33 j ≤ 20000 := fun j => hT.2 33 j
      have A34 : ∀ j, 0 ≤ τ_36.2.1 34 j ∧ τ_36.2.1 34 j ≤ 20000 := fun j => hT.2 34 j
      have A35 : ∀ j, 0 ≤ τ_36.2.1 35 j ∧ τ_36.2.1 35 j ≤ 1499 := fun j => hT.2 35 j
      have A36 : ∀ j, 0 ≤ τ_36.2.1 36 j ∧ τ_36.2.1 36 j ≤ 20000 := fun j => hT.2 36 j
      have A37 : ∀ j, 0 ≤ τ_36.2.1 37 j ∧ τ_36.2.1 37 j ≤ 19999 := fun j => hT.2 37 j
      have A69 : ∀ j, (-100) ≤ τ_36.2.1 69 j ∧ τ_36.2.1 69 j ≤ 999 := fun j => hT.2 69 j
      have A70 : ∀ j, 0 ≤ τ_36.2.1 70 j ∧ τ_36.2.1 70 j ≤ 1499 := fun j => hT.2 70 j
      have A72 : ∀ j, 0 ≤ τ_36.2.1 72 j ∧ τ_36.2.1 72 j ≤ 1500 := fun j => hT.2 72 j
      have A73 : ∀ j, 0 ≤ τ_36.2.1 73 j ∧ τ_36.2.1 73 j ≤ 30000 := fun j => hT.2 73 j
      have A77 : ∀ j, 0 ≤ τ_36.2.1 77 j ∧ τ_36.2.1 77 j ≤ 999 := fun j => hT.2 77 j
      have A78 : ∀ j, (-1) ≤ τ_36.2.1 78 j ∧ τ_36.2.1 78 j ≤ 1499 := fun j => hT.2 78 j
      have A79 : ∀ j, 0 ≤ τ_36.2.1 79 j ∧ τ_36.2.1 79 j ≤ 1499 := fun j => hT.2 79 j
      have A84 : ∀ j, 0 ≤ τ_36.2.1 84 j ∧ τ_36.2.1 84 j ≤ 1499 := fun j => hT.2 84 j
      have A88 : ∀ j, 0 ≤ τ_36.2.1 88 j ∧ τ_36.2.1 88 j ≤ 359999 := fun j => hT.2 88 j
      have A89 : ∀ j, 0 ≤ τ_36.2.1 89 j ∧ τ_36.2.1 89 j ≤ 59 := fun j => hT.2 89 j
      have A90 : ∀ j, 0 ≤ τ_36.2.1 90 j ∧ τ_36.2.1 90 j ≤ 59 := fun j => hT.2 90 j
      have v4 : 0 ≤ τ_36.1 4 ∧ τ_36.1 4 ≤ 100 := hT.1 4
      have v5 : 0 ≤ τ_36.1 5 ∧ τ_36.1 5 ≤ 1000 := hT.1 5
      have v6 : 0 ≤ τ_36.1 6 ∧ τ_36.1 6 ≤ 30000 := hT.1 6
      have v7 : 0 ≤ τ_36.1 7 ∧ τ_36.1 7 ≤ 1500 := hT.1 7
      have v13 : 0 ≤ τ_36.1 13 ∧ τ_36.1 13 ≤ 90000 := hT.1 13
      have v14 : 0 ≤ τ_36.1 14 ∧ τ_36.1 14 ≤ 20000 := hT.1 14
      have v15 : 0 ≤ τ_36.1 15 ∧ τ_36.1 15 ≤ 20000 := hT.1 15
      have v45 : 1 ≤ τ_36.1 45 ∧ τ_36.1 45 ≤ 30001 := hT.1 45
      have v48 : (-1) ≤ τ_36.1 48 ∧ τ_36.1 48 ≤ 999 := hT.1 48
      have v50 : 0 ≤ τ_36.1 50 ∧ τ_36.1 50 ≤ 59 := hT.1 50
      have v51 : 0 ≤ τ_36.1 51 ∧ τ_36.1 51 ≤ 1500 := hT.1 51
      have v52 : (-1) ≤ τ_36.1 52 ∧ τ_36.1 52 ≤ 99 := hT.1 52
      have v54 : 0 ≤ τ_36.1 54 ∧ τ_36.1 54 ≤ 12000 := hT.1 54
      have TX : J_vs (τ_36.1 6) (τ_36.1 5) (τ_36.2.1 15) := by rw [show (J_vs (τ_36.1 6) (τ_36.1 5) (τ_36.2.1 15)) = (J_vs (σ.1 6) (σ.1 5) (σ.2.1 15)) from by rw [W5, W6, G15]]; exact TX_0
      have RKS : J_rks (τ_36.1 5) (τ_36.1 4) (τ_36.2.1 10) (τ_36.2.1 11) := by rw [show (J_rks (τ_36.1 5) (τ_36.1 4) (τ_36.2.1 10) (τ_36.2.1 11)) = (J_rks (σ.1 5) (σ.1 4) (σ.2.1 10) (σ.2.1 11)) from by rw [W4, W5, G10, G11]]; exact RKS_0
      have CJ : J_all (τ_36.1 7) (τ_36.1 6) (τ_36.1 13) (τ_36.1 14) (τ_36.1 15) (τ_36.2.1 13) (τ_36.2.1 14) (τ_36.2.1 15) (τ_36.2.1 16) (τ_36.2.1 10) (τ_36.2.1 27) (τ_36.2.1 28) (τ_36.2.1 29) (τ_36.2.1 30) (τ_36.2.1 31) (τ_36.2.1 32) (τ_36.2.1 33) (τ_36.2.1 34) (τ_36.2.1 35) (τ_36.2.1 36) (τ_36.2.1 37) := by rw [show (J_all (τ_36.1 7) (τ_36.1 6) (τ_36.1 13) (τ_36.1 14) (τ_36.1 15) (τ_36.2.1 13) (τ_36.2.1 14) (τ_36.2.1 15) (τ_36.2.1 16) (τ_36.2.1 10) (τ_36.2.1 27) (τ_36.2.1 28) (τ_36.2.1 29) (τ_36.2.1 30) (τ_36.2.1 31) (τ_36.2.1 32) (τ_36.2.1 33) (τ_36.2.1 34) (τ_36.2.1 35) (τ_36.2.1 36) (τ_36.2.1 37)) = (J_all (σ.1 7) (σ.1 6) (σ.1 13) (σ.1 14) (σ.1 15) (σ.2.1 13) (σ.2.1 14) (σ.2.1 15) (σ.2.1 16) (σ.2.1 10) (σ.2.1 27) (σ.2.1 28) (σ.2.1 29) (σ.2.1 30) (σ.2.1 31) (σ.2.1 32) (σ.2.1 33) (σ.2.1 34) (σ.2.1 35) (σ.2.1 36) (σ.2.1 37)) from by rw [W6, W7, W13, W14, W15, G10, G13, G14, G15, G16, G27, G28, G29, G30, G31, G32, G33, G34, G35, G36, G37]]; exact CJ_0
      have l_185 : ∀ (m_185 : Nat) (u1_185 : Int) (u6_185 : Int) (u7_185 : Int) (u8_185 : Int) (τ_185 : S0), 90100 - u8_185 < (m_185 : Int) → (c_T τ_185) → (τ_185.1 4 = σ.1 4) → (τ_185.1 5 = σ.1 5) → (τ_185.1 6 = σ.1 6) → (τ_185.1 7 = σ.1 7) → (τ_185.1 13 = σ.1 13) → (τ_185.1 14 = σ.1 14) → (τ_185.1 15 = σ.1 15) → (τ_185.1 45 = σ.1 45) → (τ_185.1 48 = σ.1 48) → (τ_185.1 50 = σ.1 50) → (τ_185.1 51 = σ.1 51) → (τ_185.1 52 = σ.1 52) → (τ_185.2.1 10 = σ.2.1 10) → (τ_185.2.1 11 = σ.2.1 11) → (τ_185.2.1 13 = σ.2.1 13) → (τ_185.2.1 14 = σ.2.1 14) → (τ_185.2.1 15 = σ.2.1 15) → (τ_185.2.1 16 = σ.2.1 16) → (τ_185.2.1 27 = σ.2.1 27) → (τ_185.2.1 28 = σ.2.1 28) → (τ_185.2.1 29 = σ.2.1 29) → (τ_185.2.1 30 = σ.2.1 30) → (τ_185.2.1 31 = σ.2.1 31) → (τ_185.2.1 32 = σ.2.1 32) → (τ_185.2.1 33 = σ.2.1 33) → (τ_185.2.1 34 = σ.2.1 34) → (τ_185.2.1 35 = σ.2.1 35) → (τ_185.2.1 36 = σ.2.1 36) → (τ_185.2.1 37 = σ.2.1 37) → (τ_185.2.1 69 = σ.2.1 69) → (τ_185.2.1 70 = σ.2.1 70) → (τ_185.2.1 72 = σ.2.1 72) → (τ_185.2.1 73 = σ.2.1 73) → (τ_185.2.1 77 = σ.2.1 77) → (τ_185.2.1 78 = σ.2.1 78) → (τ_185.2.1 79 = σ.2.1 79) → ((τ_185.1 54) = u2_36 + 1 ∧ 0 ≤ u2_36) → (u1_185 + (σ.2.1 28 u6_185 - (u8_185 - u7_185)) = 1 + sm (g_nar (σ.2.1 13) (σ.2.1 28) (τ_185.2.1 84)) (u2_36 + 1) ∧ 0 ≤ u1_185) → (g_wt (σ.1 50) (σ.1 4) u1_185 (τ_185.2.1 88) (σ.2.2 4) (σ.2.2 5)) → (g_gw (σ.1 50) (σ.1 4) (u2_36 + 1) u1_185 (u8_185 - u7_185) (σ.2.1 28 u6_185) (σ.2.1 27 u6_185) T (τ_185.2.1 88) (σ.2.1 10) (σ.2.1 14) (σ.2.1 15) (σ.2.1 29) (τ_185.2.1 89) (τ_185.2.1 90) (σ.2.2 4) (σ.2.2 5)) → (g_nds (σ.1 7) (u2_36 + 1) (σ.2.1 13) (σ.2.1 14) (σ.2.1 27) (σ.2.1 28) (σ.2.1 29) (τ_185.2.1 84)) → (∀ m : Int, 0 ≤ m → m < (u2_36 + 1) → 1 ≤ 1 + sm (g_nar (σ.2.1 13) (σ.2.1 28) (τ_185.2.1 84)) m) → (c_Rs τ_185 par nof In) → (τ_185.2.2 4 = σ.2.2 4) → (τ_185.2.2 3 = σ.2.2 3) → (In u6_185) → (u7_185 = σ.2.1 27 u6_185 ∧ u7_185 ≤ u8_185 ∧ u8_185 ≤ u7_185 + σ.2.1 28 u6_185) → (g_TG (σ.1 50) (σ.1 51) (σ.1 48) (σ.2.1 77) (σ.2.1 78) (σ.2.1 13) (σ.2.1 14) (σ.2.1 15) (σ.2.1 16) (σ.2.1 10) (σ.2.1 27) (σ.2.1 28) (σ.2.1 29) In (σ.1 52) 0 (σ.1 50) (τ_185.2.1 88) (τ_185.2.1 84) (τ_185.2.1 89) (τ_185.2.1 90) u6_185 (u8_185 - u7_185) (u2_36 + 1) u1_185) → P185 u1_185 u2_36 u6_185 u7_185 u8_185 τ_185 := by
        intro m_185
        induction m_185 with
        | zero =>
          intro u1_185 u6_185 u7_185 u8_185 τ_185 hm hT W4 W5 W6 W7 W13 W14 W15 W45 W48 W50 W51 W52 G10 G11 G13 G14 G15 G16 G27 G28 G29 G30 G31 G32 G33 G34 G35 G36 G37 G69 G70 G72 G73 G77 G78 G79 i185_1 i185_2 i185_3 i185_4 i185_5 i185_6 i185_7 i185_8 i185_9 i185_10 i185_11 i185_12
          have A10 : ∀ j, (-1) ≤ τ_185.2.1 10 j ∧ τ_185.2.1 10 j ≤ 99 := fun j => hT.2 10 j
          have A11 : ∀ j, 0 ≤ τ_185.2.1 11 j ∧ τ_185.2.1 11 j ≤ 999 := fun j => hT.2 11 j
          have A13 : ∀ j, 0 ≤ τ_185.2.1 13 j ∧ τ_185.2.1 13 j ≤ 4 := fun j => hT.2 13 j
          have A14 : ∀ j, 0 ≤ τ_185.2.1 14 j ∧ τ_185.2.1 14 j ≤ 30000 := fun j => hT.2 14 j
          have A15 : ∀ j, 0 ≤ τ_185.2.1 15 j ∧ τ_185.2.1 15 j ≤ 999 := fun j => hT.2 15 j
          have A16 : ∀ j, (-1) ≤ τ_185.2.1 16 j ∧ τ_185.2.1 16 j ≤ 1499 := fun j => hT.2 16 j
          have A27 : ∀ j, 0 ≤ τ_185.2.1 27 j ∧ τ_185.2.1 27 j ≤ 90000 := fun j => hT.2 27 j
          have A28 : ∀ j, 0 ≤ τ_185.2.1 28 j ∧ τ_185.2.1 28 j ≤ 60 := fun j => hT.2 28 j
          have A29 : ∀ j, 0 ≤ τ_185.2.1 29 j ∧ τ_185.2.1 29 j ≤ 1499 := fun j => hT.2 29 j
          have A30 : ∀ j, 0 ≤ τ_185.2.1 30 j ∧ τ_185.2.1 30 j ≤ 20000 := fun j => hT.2 30 j
          have A31 : ∀ j, 0 ≤ τ_185.2.1 31 j ∧ τ_185.2.1 31 j ≤ 20000 := fun j => hT.2 31 j
          have A32 : ∀ j, 0 ≤ τ_185.2.1 32 j ∧ τ_185.2.1 32 j ≤ 999999 := fun j => hT.2 32 j
          have A33 : ∀ j, 0 ≤ τ_185.2.1 33 j ∧ τ_185.2.1 33 j ≤ 20000 := fun j => hT.2 33 j
          have A34 : ∀ j, 0 ≤ τ_185.2.1 34 j ∧ τ_185.2.1 34 j ≤ 20000 := fun j => hT.2 34 j
          have A35 : ∀ j, 0 ≤ τ_185.2.1 35 j ∧ τ_185.2.1 35 j ≤ 1499 := fun j => hT.2 35 j
          have A36 : ∀ j, 0 ≤ τ_185.2.1 36 j ∧ τ_185.2.1 36 j ≤ 20000 := fun j => hT.2 36 j
          have A37 : ∀ j, 0 ≤ τ_185.2.1 37 j ∧ τ_185.2.1 37 j ≤ 19999 := fun j => hT.2 37 j
          have A69 : ∀ j, (-100) ≤ τ_185.2.1 69 j ∧ τ_185.2.1 69 j ≤ 999 := fun j => hT.2 69 j
          have A70 : ∀ j, 0 ≤ τ_185.2.1 70 j ∧ τ_185.2.1 70 j ≤ 1499 := fun j => hT.2 70 j
          have A72 : ∀ j, 0 ≤ τ_185.2.1 72 j ∧ τ_185.2.1 72 j ≤ 1500 := fun j => hT.2 72 j
          have A73 : ∀ j, 0 ≤ τ_185.2.1 73 j ∧ τ_185.2.1 73 j ≤ 30000 := fun j => hT.2 73 j
          have A77 : ∀ j, 0 ≤ τ_185.2.1 77 j ∧ τ_185.2.1 77 j ≤ 999 := fun j => hT.2 77 j
          have A78 : ∀ j, (-1) ≤ τ_185.2.1 78 j ∧ τ_185.2.1 78 j ≤ 1499 := fun j => hT.2 78 j
          have A79 : ∀ j, 0 ≤ τ_185.2.1 79 j ∧ τ_185.2.1 79 j ≤ 1499 := fun j => hT.2 79 j
          have A84 : ∀ j, 0 ≤ τ_185.2.1 84 j ∧ τ_185.2.1 84 j ≤ 1499 := fun j => hT.2 84 j
          have A88 : ∀ j, 0 ≤ τ_185.2.1 88 j ∧ τ_185.2.1 88 j ≤ 359999 := fun j => hT.2 88 j
          have A89 : ∀ j, 0 ≤ τ_185.2.1 89 j ∧ τ_185.2.1 89 j ≤ 59 := fun j => hT.2 89 j
          have A90 : ∀ j, 0 ≤ τ_185.2.1 90 j ∧ τ_185.2.1 90 j ≤ 59 := fun j => hT.2 90 j
          have v4 : 0 ≤ τ_185.1 4 ∧ τ_185.1 4 ≤ 100 := hT.1 4
          have v5 : 0 ≤ τ_185.1 5 ∧ τ_185.1 5 ≤ 1000 := hT.1 5
          have v6 : 0 ≤ τ_185.1 6 ∧ τ_185.1 6 ≤ 30000 := hT.1 6
          have v7 : 0 ≤ τ_185.1 7 ∧ τ_185.1 7 ≤ 1500 := hT.1 7
          have v13 : 0 ≤ τ_185.1 13 ∧ τ_185.1 13 ≤ 90000 := hT.1 13
          have v14 : 0 ≤ τ_185.1 14 ∧ τ_185.1 14 ≤ 20000 := hT.1 14
          have v15 : 0 ≤ τ_185.1 15 ∧ τ_185.1 15 ≤ 20000 := hT.1 15
          have v45 : 1 ≤ τ_185.1 45 ∧ τ_185.1 45 ≤ 30001 := hT.1 45
          have v48 : (-1) ≤ τ_185.1 48 ∧ τ_185.1 48 ≤ 999 := hT.1 48
          have v50 : 0 ≤ τ_185.1 50 ∧ τ_185.1 50 ≤ 59 := hT.1 50
          have v51 : 0 ≤ τ_185.1 51 ∧ τ_185.1 51 ≤ 1500 := hT.1 51
          have v52 : (-1) ≤ τ_185.1 52 ∧ τ_185.1 52 ≤ 99 := hT.1 52
          have v54 : 0 ≤ τ_185.1 54 ∧ τ_185.1 54 ≤ 12000 := hT.1 54
          exfalso; (have a := s27 u6_185; have b := s28 u6_185; omega)
        | succ m_185 ih_185 =>
          intro u1_185 u6_185 u7_185 u8_185 τ_185 hm_185 hT W4 W5 W6 W7 W13 W14 W15 W45 W48 W50 W51 W52 G10 G11 G13 G14 G15 G16 G27 G28 G29 G30 G31 G32 G33 G34 G35 G36 G37 G69 G70 G72 G73 G77 G78 G79 i185_1 i185_2 i185_3 i185_4 i185_5 i185_6 i185_7 i185_8 i185_9 i185_10 i185_11 i185_12
          have A10 : ∀ j, (-1) ≤ τ_185.2.1 10 j ∧ τ_185.2.1 10 j ≤ 99 := fun j => hT.2 10 j
          have A11 : ∀ j, 0 ≤ τ_185.2.1 11 j ∧ τ_185.2.1 11 j ≤ 999 := fun j => hT.2 11 j
          have A13 : ∀ j, 0 ≤ τ_185.2.1 13 j ∧ τ_185.2.1 13 j ≤ 4 := fun j => hT.2 13 j
          have A14 : ∀ j, 0 ≤ τ_185.2.1 14 j ∧ τ_185.2.1 14 j ≤ 30000 := fun j => hT.2 14 j
          have A15 : ∀ j, 0 ≤ τ_185.2.1 15 j ∧ τ_185.2.1 15 j ≤ 999 := fun j => hT.2 15 j
          have A16 : ∀ j, (-1) ≤ τ_185.2.1 16 j ∧ τ_185.2.1 16 j ≤ 1499 := fun j => hT.2 16 j
          have A27 : ∀ j, 0 ≤ τ_185.2.1 27 j ∧ τ_185.2.1 27 j ≤ 90000 := fun j => hT.2 27 j
          have A28 : ∀ j, 0 ≤ τ_185.2.1 28 j ∧ τ_185.2.1 28 j ≤ 60 := fun j => hT.2 28 j
          have A29 : ∀ j, 0 ≤ τ_185.2.1 29 j ∧ τ_185.2.1 29 j ≤ 1499 := fun j => hT.2 29 j
          have A30 : ∀ j, 0 ≤ τ_185.2.1 30 j ∧ τ_185.2.1 30 j ≤ 20000 := fun j => hT.2 30 j
          have A31 : ∀ j, 0 ≤ τ_185.2.1 31 j ∧ τ_185.2.1 31 j ≤ 20000 := fun j => hT.2 31 j
          have A32 : ∀ j, 0 ≤ τ_185.2.1 32 j ∧ τ_185.2.1 32 j ≤ 999999 := fun j => hT.2 32 j
          have A33 : ∀ j, 0 ≤ τ_185.2.1 33 j ∧ τ_185.2.1 33 j ≤ 20000 := fun j => hT.2 33 j
          have A34 : ∀ j, 0 ≤ τ_185.2.1 34 j ∧ τ_185.2.1 34 j ≤ 20000 := fun j => hT.2 34 j
          have A35 : ∀ j, 0 ≤ τ_185.2.1 35 j ∧ τ_185.2.1 35 j ≤ 1499 := fun j => hT.2 35 j
          have A36 : ∀ j, 0 ≤ τ_185.2.1 36 j ∧ τ_185.2.1 36 j ≤ 20000 := fun j => hT.2 36 j
          have A37 : ∀ j, 0 ≤ τ_185.2.1 37 j ∧ τ_185.2.1 37 j ≤ 19999 := fun j => hT.2 37 j
          have A69 : ∀ j, (-100) ≤ τ_185.2.1 69 j ∧ τ_185.2.1 69 j ≤ 999 := fun j => hT.2 69 j
          have A70 : ∀ j, 0 ≤ τ_185.2.1 70 j ∧ τ_185.2.1 70 j ≤ 1499 := fun j => hT.2 70 j
          have A72 : ∀ j, 0 ≤ τ_185.2.1 72 j ∧ τ_185.2.1 72 j ≤ 1500 := fun j => hT.2 72 j
          have A73 : ∀ j, 0 ≤ τ_185.2.1 73 j ∧ τ_185.2.1 73 j ≤ 30000 := fun j => hT.2 73 j
          have A77 : ∀ j, 0 ≤ τ_185.2.1 77 j ∧ τ_185.2.1 77 j ≤ 999 := fun j => hT.2 77 j
          have A78 : ∀ j, (-1) ≤ τ_185.2.1 78 j ∧ τ_185.2.1 78 j ≤ 1499 := fun j => hT.2 78 j
          have A79 : ∀ j, 0 ≤ τ_185.2.1 79 j ∧ τ_185.2.1 79 j ≤ 1499 := fun j => hT.2 79 j
          have A84 : ∀ j, 0 ≤ τ_185.2.1 84 j ∧ τ_185.2.1 84 j ≤ 1499 := fun j => hT.2 84 j
          have A88 : ∀ j, 0 ≤ τ_185.2.1 88 j ∧ τ_185.2.1 88 j ≤ 359999 := fun j => hT.2 88 j
          have A89 : ∀ j, 0 ≤ τ_185.2.1 89 j ∧ τ_185.2.1 89 j ≤ 59 := fun j => hT.2 89 j
          have A90 : ∀ j, 0 ≤ τ_185.2.1 90 j ∧ τ_185.2.1 90 j ≤ 59 := fun j => hT.2 90 j
          have v4 : 0 ≤ τ_185.1 4 ∧ τ_185.1 4 ≤ 100 := hT.1 4
          have v5 : 0 ≤ τ_185.1 5 ∧ τ_185.1 5 ≤ 1000 := hT.1 5
          have v6 : 0 ≤ τ_185.1 6 ∧ τ_185.1 6 ≤ 30000 := hT.1 6
          have v7 : 0 ≤ τ_185.1 7 ∧ τ_185.1 7 ≤ 1500 := hT.1 7
          have v13 : 0 ≤ τ_185.1 13 ∧ τ_185.1 13 ≤ 90000 := hT.1 13
          have v14 : 0 ≤ τ_185.1 14 ∧ τ_185.1 14 ≤ 20000 := hT.1 14
          have v15 : 0 ≤ τ_185.1 15 ∧ τ_185.1 15 ≤ 20000 := hT.1 15
          have v45 : 1 ≤ τ_185.1 45 ∧ τ_185.1 45 ≤ 30001 := hT.1 45
          have v48 : (-1) ≤ τ_185.1 48 ∧ τ_185.1 48 ≤ 999 := hT.1 48
          have v50 : 0 ≤ τ_185.1 50 ∧ τ_185.1 50 ≤ 59 := hT.1 50
          have v51 : 0 ≤ τ_185.1 51 ∧ τ_185.1 51 ≤ 1500 := hT.1 51
          have v52 : (-1) ≤ τ_185.1 52 ∧ τ_185.1 52 ≤ 99 := hT.1 52
          have v54 : 0 ≤ τ_185.1 54 ∧ τ_185.1 54 ≤ 12000 := hT.1 54
          have TX : J_vs (τ_185.1 6) (τ_185.1 5) (τ_185.2.1 15) := by rw [show (J_vs (τ_185.1 6) (τ_185.1 5) (τ_185.2.1 15)) = (J_vs (σ.1 6) (σ.1 5) (σ.2.1 15)) from by rw [W5, W6, G15]]; exact TX_0
          have RKS : J_rks (τ_185.1 5) (τ_185.1 4) (τ_185.2.1 10) (τ_185.2.1 11) := by rw [show (J_rks (τ_185.1 5) (τ_185.1 4) (τ_185.2.1 10) (τ_185.2.1 11)) = (J_rks (σ.1 5) (σ.1 4) (σ.2.1 10) (σ.2.1 11)) from by rw [W4, W5, G10, G11]]; exact RKS_0
          have CJ : J_all (τ_185.1 7) (τ_185.1 6) (τ_185.1 13) (τ_185.1 14) (τ_185.1 15) (τ_185.2.1 13) (τ_185.2.1 14) (τ_185.2.1 15) (τ_185.2.1 16) (τ_185.2.1 10) (τ_185.2.1 27) (τ_185.2.1 28) (τ_185.2.1 29) (τ_185.2.1 30) (τ_185.2.1 31) (τ_185.2.1 32) (τ_185.2.1 33) (τ_185.2.1 34) (τ_185.2.1 35) (τ_185.2.1 36) (τ_185.2.1 37) := by rw [show (J_all (τ_185.1 7) (τ_185.1 6) (τ_185.1 13) (τ_185.1 14) (τ_185.1 15) (τ_185.2.1 13) (τ_185.2.1 14) (τ_185.2.1 15) (τ_185.2.1 16) (τ_185.2.1 10) (τ_185.2.1 27) (τ_185.2.1 28) (τ_185.2.1 29) (τ_185.2.1 30) (τ_185.2.1 31) (τ_185.2.1 32) (τ_185.2.1 33) (τ_185.2.1 34) (τ_185.2.1 35) (τ_185.2.1 36) (τ_185.2.1 37)) = (J_all (σ.1 7) (σ.1 6) (σ.1 13) (σ.1 14) (σ.1 15) (σ.2.1 13) (σ.2.1 14) (σ.2.1 15) (σ.2.1 16) (σ.2.1 10) (σ.2.1 27) (σ.2.1 28) (σ.2.1 29) (σ.2.1 30) (σ.2.1 31) (σ.2.1 32) (σ.2.1 33) (σ.2.1 34) (σ.2.1 35) (σ.2.1 36) (σ.2.1 37)) from by rw [W6, W7, W13, W14, W15, G10, G13, G14, G15, G16, G27, G28, G29, G30, G31, G32, G33, G34, G35, G36, G37]]; exact CJ_0
          refine h185 u1_185 u2_36 u6_185 u7_185 u8_185 τ_185 ?_
          have r6 := ru.2.1 u6_185 i185_10
          have r61 := r6.1
          have f6 := s27 u6_185
          have f7 := s28 u6_185
          refine ⟨(show 0 ≤ u6_185 ∧ u6_185 < 1500 from by (first | omega | (simp only [st_s] <;> omega) | assumption | omega | fail)), ?_⟩
          intro x28 r_x28 e_x28
          have b_x28 : 0 ≤ x28 ∧ x28 ≤ 60 := by rw [e_x28]; exact hT.2 28 _
          rw [G28] at e_x28
          refine ⟨(⟨by (first | omega | (simp only [st_s] <;> omega) | assumption | omega | fail), by (first | omega | (simp only [st_s] <;> omega) | assumption | omega | fail)⟩ : rg (u7_185 + x28)), ?_⟩
          refine ⟨fun c30 => ?_, fun c30 => ?_⟩
          ·
            refine ⟨(⟨by (first | omega | (simp only [st_s] <;> omega) | assumption | omega | fail), by (first | omega | (simp only [st_s] <;> omega) | assumption | omega | fail)⟩ : rg (u2_36 + 1)), ?_⟩
            exact ih_36 _ _ _ (show (12001 - (u2_36 + 1) : Int) < ((m_36 : Nat) : Int) from by ((first | omega | (simp only [st_s] <;> omega) | assumption | omega | fail))) hT (show τ_185.1 4 = σ.1 4 from by first | exact W4 | omega) (show τ_185.1 5 = σ.1 5 from by first | exact W5 | omega) (show τ_185.1 6 = σ.1 6 from by first | exact W6 | omega) (show τ_185.1 7 = σ.1 7 from by first | exact W7 | omega) (show τ_185.1 13 = σ.1 13 from by first | exact W13 | omega) (show τ_185.1 14 = σ.1 14 from by first | exact W14 | omega) (show τ_185.1 15 = σ.1 15 from by first | exact W15 | omega) (show τ_185.1 45 = σ.1 45 from by first | exact W45 | omega) (show τ_185.1 48 = σ.1 48 from by first | exact W48 | omega) (show τ_185.1 50 = σ.1 50 from by first | exact W50 | omega) (show τ_185.1 51 = σ.1 51 from by first | exact W51 | omega) (show τ_185.1 52 = σ.1 52 from by first | exact W52 | omega) G10 G11 G13 G14 G15 G16 G27 G28 G29 G30 G31 G32 G33 G34 G35 G36 G37 G69 G70 G72 G73 G77 G78 G79 (show (τ_185.1 54) = (u2_36 + 1) ∧ 0 ≤ (u2_36 + 1) from by (first | omega | (simp only [st_s] <;> omega) | assumption | omega | fail)) (show u1_185 = 1 + sm (g_nar (σ.2.1 13) (σ.2.1 28) (τ_185.2.1 84)) (u2_36 + 1) ∧ 0 ≤ u1_185 from by (first | (rw [sm_0]; omega) | (rw [g_nar_s i36_1.1 i36_1.2, if_pos (by rw [← G13, ← e_x20]; assumption)]; omega) | omega | fail)) (show g_wt (σ.1 50) (σ.1 4) u1_185 (τ_185.2.1 88) (σ.2.2 4) (σ.2.2 5) from by (first | exact i185_3 | exact g_wt_p i36_3 (by omega) | exact g_wt_a (u := 0) (fun j a b => by omega) (by omega) q1_1 cl0 | fail)) (show sm (g_wB (σ.1 4) T (τ_185.2.1 88)) u1_185 + (u2_36 + 1) ≤ 11700 ∧ sm (g_wl (τ_185.2.1 88)) u1_185 ≤ (σ.1 50) from by (first | (have ge := g_gw_e i185_4 (by omega); omega) | omega | exact g_w0 (by omega) (by omega) p7.1 p7.2 (by omega) q1_1 | (exfalso; omega) | fail)) (show g_nds (σ.1 7) (u2_36 + 1) (σ.2.1 13) (σ.2.1 14) (σ.2.1 27) (σ.2.1 28) (σ.2.1 29) (τ_185.2.1 84) from by (first | exact i185_5 | exact g_nds_a i36_5 i36_1.1 ndx | exact fun j a b => by omega | fail)) (show ∀ m : Int, 0 ≤ m → m < (u2_36 + 1) → 1 ≤ 1 + sm (g_nar (σ.2.1 13) (σ.2.1 28) (τ_185.2.1 84)) m from by (first | exact i185_6 | exact g_nar_p i36_1.1 i36_6 (by omega) | exact fun j a b => by omega | fail)) (show c_Rs τ_185 par nof In from by (first | exact i185_7 | exact i36_7 | exact p2 | fail)) (show τ_185.2.2 4 = σ.2.2 4 from by (first | exact i185_8 | exact i36_8 | rfl | fail)) (show τ_185.2.2 3 = σ.2.2 3 from by (first | exact i185_9 | exact i36_9 | rfl | fail)) (show g_TC (σ.1 50) (σ.1 51) (σ.1 48) (σ.2.1 77) (σ.2.1 78) (σ.2.1 13) (σ.2.1 14) (σ.2.1 15) (σ.2.1 16) (σ.2.1 10) (σ.2.1 27) (σ.2.1 28) (σ.2.1 29) In (σ.1 52) 0 (σ.1 50) (τ_185.2.1 88) (τ_185.2.1 84) (u2_36 + 1) u1_185 from by (first | exact g_TG_e i185_12 (by omega) | exact g_TC_l i36_10 (by omega) i36_1.2 i36_1.1 ⟨by rw [← e_x7]; omega, by rw [← e_x7]; omega, by rw [← e_x7]; omega⟩ (lt15 (by rw [← G13, ← e_x20]; assumption)) | exact g_TC_0 (by omega) (by omega) p7.1 q1_1 | fail))
          ·
            refine ⟨fun c32 => ?_, fun c32 => ?_⟩
            ·
              have ug := g_gw_u i185_4 i185_3 i185_2.2 (by omega) (by omega)
              refine ⟨(⟨by (first | omega | (simp only [st_s] <;> omega) | assumption | omega | fail), by (first | omega | (simp only [st_s] <;> omega) | assumption | omega | fail)⟩ : rg (u2_36 + 1)), ?_⟩
              exact ih_36 _ _ _ (show (12001 - (u2_36 + 1) : Int) < ((m_36 : Nat) : Int) from by ((first | omega | (simp only [st_s] <;> omega) | assumption | omega | fail))) hT (show τ_185.1 4 = σ.1 4 from by first | exact W4 | omega) (show τ_185.1 5 = σ.1 5 from by first | exact W5 | omega) (show τ_185.1 6 = σ.1 6 from by first | exact W6 | omega) (show τ_185.1 7 = σ.1 7 from by first | exact W7 | omega) (show τ_185.1 13 = σ.1 13 from by first | exact W13 | omega) (show τ_185.1 14 = σ.1 14 from by first | exact W14 | omega) (show τ_185.1 15 = σ.1 15 from by first | exact W15 | omega) (show τ_185.1 45 = σ.1 45 from by first | exact W45 | omega) (show τ_185.1 48 = σ.1 48 from by first | exact W48 | omega) (show τ_185.1 50 = σ.1 50 from by first | exact W50 | omega) (show τ_185.1 51 = σ.1 51 from by first | exact W51 | omega) (show τ_185.1 52 = σ.1 52 from by first | exact W52 | omega) G10 G11 G13 G14 G15 G16 G27 G28 G29 G30 G31 G32 G33 G34 G35 G36 G37 G69 G70 G72 G73 G77 G78 G79 (show (τ_185.1 54) = (u2_36 + 1) ∧ 0 ≤ (u2_36 + 1) from by (first | omega | (simp only [st_s] <;> omega) | assumption | omega | fail)) (show u1_185 = 1 + sm (g_nar (σ.2.1 13) (σ.2.1 28) (τ_185.2.1 84)) (u2_36 + 1) ∧ 0 ≤ u1_185 from by (first | (rw [sm_0]; omega) | (rw [g_nar_s i36_1.1 i36_1.2, if_pos (by rw [← G13, ← e_x20]; assumption)]; omega) | omega | fail)) (show g_wt (σ.1 50) (σ.1 4) u1_185 (τ_185.2.1 88) (σ.2.2 4) (σ.2.2 5) from by (first | exact i185_3 | exact g_wt_p i36_3 (by omega) | exact g_wt_a (u := 0) (fun j a b => by omega) (by omega) q1_1 cl0 | fail)) (show sm (g_wB (σ.1 4) T (τ_185.2.1 88)) u1_185 + (u2_36 + 1) ≤ 11700 ∧ sm (g_wl (τ_185.2.1 88)) u1_185 ≤ (σ.1 50) from by (first | (have ge := g_gw_e i185_4 (by omega); omega) | omega | exact g_w0 (by omega) (by omega) p7.1 p7.2 (by omega) q1_1 | (exfalso; omega) | fail)) (show g_nds (σ.1 7) (u2_36 + 1) (σ.2.1 13) (σ.2.1 14) (σ.2.1 27) (σ.2.1 28) (σ.2.1 29) (τ_185.2.1 84) from by (first | exact i185_5 | exact g_nds_a i36_5 i36_1.1 ndx | exact fun j a b => by omega | fail)) (show ∀ m : Int, 0 ≤ m → m < (u2_36 + 1) → 1 ≤ 1 + sm (g_nar (σ.2.1 13) (σ.2.1 28) (τ_185.2.1 84)) m from by (first | exact i185_6 | exact g_nar_p i36_1.1 i36_6 (by omega) | exact fun j a b => by omega | fail)) (show c_Rs τ_185 par nof In from by (first | exact i185_7 | exact i36_7 | exact p2 | fail)) (show τ_185.2.2 4 = σ.2.2 4 from by (first | exact i185_8 | exact i36_8 | rfl | fail)) (show τ_185.2.2 3 = σ.2.2 3 from by (first | exact i185_9 | exact i36_9 | rfl | fail)) (show g_TC (σ.1 50) (σ.1 51) (σ.1 48) (σ.2.1 77) (σ.2.1 78) (σ.2.1 13) (σ.2.1 14) (σ.2.1 15) (σ.2.1 16) (σ.2.1 10) (σ.2.1 27) (σ.2.1 28) (σ.2.1 29) In (σ.1 52) 0 (σ.1 50) (τ_185.2.1 88) (τ_185.2.1 84) (u2_36 + 1) u1_185 from by (first | exact g_TG_e i185_12 (by omega) | exact g_TC_l i36_10 (by omega) i36_1.2 i36_1.1 ⟨by rw [← e_x7]; omega, by rw [← e_x7]; omega, by rw [← e_x7]; omega⟩ (lt15 (by rw [← G13, ← e_x20]; assumption)) | exact g_TC_0 (by omega) (by omega) p7.1 q1_1 | fail))
            ·
              have ug := g_gw_u i185_4 i185_3 i185_2.2 (by omega) (by omega)
              have kd2 := r6.2.1.1
              have jf := (p1.1 u6_185 (by omega) (by omega)).2.1 (by omega)
              have jf1 := jf.1
              have e8 : σ.2.1 27 u6_185 + (u8_185 - u7_185) = u8_185 := by omega
              have e8x : u7_185 + (u8_185 - u7_185) = u8_185 := by omega
              have jk := jf.2.1 (u8_185 - u7_185) (by omega) (by omega)
              have rk0 := r6.2.1.2.2.2 (u8_185 - u7_185) (by omega) (by omega)
              rw [e8] at jk rk0
              have h29 := s29 u8_185
              have jt := (p1.1 (σ.2.1 29 u8_185) (by omega) (by omega)).1.1
              have jt2 := jt.2.2.2.1 rk0
              have gc := g_gw_c i185_4 (by omega) (by omega)
              rw [e8] at gc
              refine ⟨(show 0 ≤ u8_185 ∧ u8_185 < 90000 from by (first | omega | (simp only [st_s] <;> omega) | assumption | omega | fail)), ?_⟩
              intro x35 r_x35 e_x35
              have b_x35 : 0 ≤ x35 ∧ x35 ≤ 1499 := by rw [e_x35]; exact hT.2 29 _
              rw [G29] at e_x35
              refine ⟨_, K_X3_variableOf hT (show 0 ≤ x35 from by (first | omega | (simp only [st_s] <;> omega) | assumption | omega | fail)) (show x35 ≤ 1500 from by (first | omega | (simp only [st_s] <;> omega) | assumption | omega | fail)) (show τ_185.2.1 14 x35 < 29999 from by (rw [G14, e_x35]; omega)), ?_⟩
              intro x37 r_x37 hq
              obtain ⟨q36_1, q36_2⟩ := hq
              replace q36_1 : x37 = τ_185.2.1 15 (τ_185.2.1 14 x35 + 1) := q36_1
              replace q36_2 : 0 ≤ x37 ∧ x37 ≤ 999 := q36_2
              rw [G14, G15, e_x35] at q36_1
              refine ⟨_, K_X3_typeOf hT (show 0 ≤ x35 from by (first | omega | (simp only [st_s] <;> omega) | assumption | omega | fail)) (show x35 ≤ 1500 from by (first | omega | (simp only [st_s] <;> omega) | assumption | omega | fail)) (show τ_185.2.1 14 x35 < 30000 from by (rw [G14, e_x35]; omega)), ?_⟩
              intro x40 r_x40 hq
              obtain ⟨q39_1, q39_2⟩ := hq
              replace q39_1 : x40 = τ_185.2.1 15 (τ_185.2.1 14 x35) := q39_1
              replace q39_2 : 0 ≤ x40 ∧ x40 ≤ 999 := q39_2
              rw [G14, G15, e_x35] at q39_1
              refine ⟨(show 0 ≤ x40 ∧ x40 < 1000 from by (first | omega | (simp only [st_s] <;> omega) | assumption | omega | fail)), ?_⟩
              intro x43 r_x43 e_x43
              have b_x43 : (-1) ≤ x43 ∧ x43 ≤ 99 := by rw [e_x43]; exact hT.2 10 _
              rw [G10, q39_1] at e_x43
              refine ⟨(show 0 ≤ x37 ∧ x37 < 1000 from by (first | omega | (simp only [st_s] <;> omega) | assumption | omega | fail)), ?_⟩
              intro x45 r_x45 e_x45
              have b_x45 : 0 ≤ x45 ∧ x45 ≤ 59 := by rw [e_x45]; exact hT.2 89 _
              intro x46 r_x46 e_x46
              have b_x46 : 0 ≤ x46 ∧ x46 ≤ 59 := by rw [e_x46]; exact hT.2 90 _
              rw [q36_1] at e_x45 e_x46
              rw [← e_x43, ← e_x45, ← e_x46] at gc
              refine ⟨_, K_X11_cell hT (show 0 ≤ x43 ∧ x43 ≤ 99 from by (first | omega | (simp only [st_s] <;> omega) | assumption | omega | fail)) (show 0 ≤ x45 ∧ x45 ≤ 59 from by (first | omega | (simp only [st_s] <;> omega) | assumption | omega | fail)) (show 0 ≤ x46 ∧ x46 ≤ 59 from by (first | omega | (simp only [st_s] <;> omega) | assumption | omega | fail)), ?_⟩
              intro x48 r_x48 hq
              have q47_1 := hq
              replace q47_1 : x48 = ((x43 * 60) + x45) * 60 + x46 := q47_1
              have ga := g_gw_a i185_4 i185_3 i185_2.2 (by omega) (by omega) (by omega) (by rw [e8]; exact e_x43) (by rw [e8]; exact e_x45) (by rw [e8]; exact e_x46) q47_1
              refine ⟨(show 0 ≤ u1_185 ∧ u1_185 < 120 from by (first | omega | (simp only [st_s] <;> omega) | assumption | omega | fail)), ?_⟩
              replace hT := cT_a (k := 88) (j := u1_185) hT (show (0 : Int) ≤ x48 ∧ x48 ≤ 359999 from by (first | omega | (simp only [st_s] <;> omega) | assumption | omega | fail))
              refine ⟨(⟨by (first | omega | (simp only [st_s] <;> omega) | assumption | omega | fail), by (first | omega | (simp only [st_s] <;> omega) | assumption | omega | fail)⟩ : rg (u1_185 + 1)), ?_⟩
              refine ⟨(⟨by (first | omega | (simp only [st_s] <;> omega) | assumption | omega | fail), by (first | omega | (simp only [st_s] <;> omega) | assumption | omega | fail)⟩ : rg (u8_185 + 1)), ?_⟩
              exact ih_185 _ _ _ _ _ (show (90100 - (u8_185 + 1) : Int) < ((m_185 : Nat) : Int) from by ((first | omega | (simp only [st_s] <;> omega) | assumption | omega | fail))) hT (show τ_185.1 4 = σ.1 4 from by first | exact W4 | omega) (show τ_185.1 5 = σ.1 5 from by first | exact W5 | omega) (show τ_185.1 6 = σ.1 6 from by first | exact W6 | omega) (show τ_185.1 7 = σ.1 7 from by first | exact W7 | omega) (show τ_185.1 13 = σ.1 13 from by first | exact W13 | omega) (show τ_185.1 14 = σ.1 14 from by first | exact W14 | omega) (show τ_185.1 15 = σ.1 15 from by first | exact W15 | omega) (show τ_185.1 45 = σ.1 45 from by first | exact W45 | omega) (show τ_185.1 48 = σ.1 48 from by first | exact W48 | omega) (show τ_185.1 50 = σ.1 50 from by first | exact W50 | omega) (show τ_185.1 51 = σ.1 51 from by first | exact W51 | omega) (show τ_185.1 52 = σ.1 52 from by first | exact W52 | omega) G10 G11 G13 G14 G15 G16 G27 G28 G29 G30 G31 G32 G33 G34 G35 G36 G37 G69 G70 G72 G73 G77 G78 G79 (show (τ_185.1 54) = u2_36 + 1 ∧ 0 ≤ u2_36 from by (first | omega | (simp only [st_s] <;> omega) | assumption | omega | fail)) (show (u1_185 + 1) + (σ.2.1 28 u6_185 - ((u8_185 + 1) - u7_185)) = 1 + sm (g_nar (σ.2.1 13) (σ.2.1 28) (τ_185.2.1 84)) (u2_36 + 1) ∧ 0 ≤ (u1_185 + 1) from by (first | (rw [g84_τ24, g_nar_s i36_1.1 i36_1.2, if_neg k15]; omega) | omega | fail)) (show g_wt (σ.1 50) (σ.1 4) (u1_185 + 1) ((st (τ_185.2.1 88) u1_185 x48)) (σ.2.2 4) (σ.2.2 5) from by (first | exact ga.2 | (rw [g88_τ24]; exact g_wt_p i36_3 (by omega)) | fail)) (show g_gw (σ.1 50) (σ.1 4) (u2_36 + 1) (u1_185 + 1) ((u8_185 + 1) - u7_185) (σ.2.1 28 u6_185) (σ.2.1 27 u6_185) T ((st (τ_185.2.1 88) u1_185 x48)) (σ.2.1 10) (σ.2.1 14) (σ.2.1 15) (σ.2.1 29) (τ_185.2.1 89) (τ_185.2.1 90) (σ.2.2 4) (σ.2.2 5) from by (first | (rw [show u8_185 + 1 - u7_185 = u8_185 - u7_185 + 1 from by omega]; exact ga.1) | (rw [g88_τ24, show x25 - x25 = 0 from by omega]; exact gw) | fail)) (show g_nds (σ.1 7) (u2_36 + 1) (σ.2.1 13) (σ.2.1 14) (σ.2.1 27) (σ.2.1 28) (σ.2.1 29) (τ_185.2.1 84) from by (first | exact i185_5 | (rw [g84_τ24]; exact g_nds_a i36_5 i36_1.1 ndx) | fail)) (show ∀ m : Int, 0 ≤ m → m < (u2_36 + 1) → 1 ≤ 1 + sm (g_nar (σ.2.1 13) (σ.2.1 28) (τ_185.2.1 84)) m from by (first | exact i185_6 | (rw [g84_τ24]; exact g_nar_p i36_1.1 i36_6 (by omega)) | fail)) (show c_Rs (s_a τ_185 88 u1_185 x48) par nof In from by (first | exact i185_7 | exact rs24 | fail)) (show τ_185.2.2 4 = σ.2.2 4 from by (first | exact i185_8 | exact (hf_τ24.2.2 4 (by decide)).trans i36_8 | fail)) (show τ_185.2.2 3 = σ.2.2 3 from by (first | exact i185_9 | exact (hf_τ24.2.2 3 (by decide)).trans i36_9 | fail)) (show In u6_185 from by (first | exact i185_10 | exact r15 | fail)) (show u7_185 = σ.2.1 27 u6_185 ∧ u7_185 ≤ (u8_185 + 1) ∧ (u8_185 + 1) ≤ u7_185 + σ.2.1 28 u6_185 from by (first | exact ⟨i185_11.1, by omega, by omega⟩ | exact ⟨e_x25, by omega, by have := (s28 x15).1; omega⟩ | fail)) (show g_TG (σ.1 50) (σ.1 51) (σ.1 48) (σ.2.1 77) (σ.2.1 78) (σ.2.1 13) (σ.2.1 14) (σ.2.1 15) (σ.2.1 16) (σ.2.1 10) (σ.2.1 27) (σ.2.1 28) (σ.2.1 29) In (σ.1 52) 0 (σ.1 50) ((st (τ_185.2.1 88) u1_185 x48)) (τ_185.2.1 84) (τ_185.2.1 89) (τ_185.2.1 90) u6_185 ((u8_185 + 1) - u7_185) (u2_36 + 1) (u1_185 + 1) from by (first | (rw [show u8_185 + 1 - u7_185 = u8_185 - u7_185 + 1 from by omega]; exact g_TG_s i185_12 i185_2.2 (by rw [← i185_11.1, e8x]; exact e_x43) (by rw [← i185_11.1, e8x]; exact e_x45) (by rw [← i185_11.1, e8x]; exact e_x46) gc.1.1 gc.2.1 (by omega) (by omega) (by omega) q47_1) | (rw [g88_τ24, g84_τ24, show x25 - x25 = 0 from by omega]; exact g_TG_0 i36_10 (by omega) i36_1.2 (s28 x15).1 i36_1.1 ⟨by rw [← e_x7]; omega, by rw [← e_x7]; omega, by rw [← e_x7]; omega⟩ (di15.2.2.1.trans (g_so_n (g_p1_x (p2.1.2.2.2.1 x15 r15).1 p2.2.1 (s15 _).1 (by omega)))) tr15 so15) | fail))
      refine h36 u1_36 u2_36 τ_36 ?_
      refine ⟨fun c4 => ?_, fun c4 => ?_⟩
      ·
        exact ⟨hT, (show g_tre (τ_36.1 7) (τ_36.1 54) (τ_36.2.1 13) (τ_36.2.1 14) (τ_36.2.1 27) (τ_36.2.1 28) (τ_36.2.1 29) (τ_36.2.1 84) from by (first | (exfalso; have := sm_n (g := g_wB (σ.1 4) T (τ_36.2.1 88)) (n := u1_36) (fun e a b => by have := g_wB_0 (T := T) i36_3 e a b; omega); omega) | (have u1z : u1_36 = 0 := (by omega); rw [W7, G13, G14, G27, G28, G29]; rw [i36_1.1]; exact g_tre_e i36_1.2 (by have := sm_n (g := g_wB (σ.1 4) T (τ_36.2.1 88)) (n := u1_36) (fun e a b => by have := g_wB_0 (T := T) i36_3 e a b; omega); omega) i36_5 (by rw [← u1z]; exact i36_2.1) i36_6) | fail)), (show g_T (σ.1 50) (σ.1 51) (σ.1 48) (σ.2.1 77) (σ.2.1 78) (σ.2.1 13) (σ.2.1 14) (σ.2.1 15) (σ.2.1 16) (σ.2.1 10) (σ.2.1 27) (σ.2.1 28) (σ.2.1 29) In (σ.1 52) 0 (σ.1 50) (g_pre (τ_36.2.1 84) ((τ_36.1 54)).toNat) from by (first | (exfalso; have := sm_n (g := g_wB (σ.1 4) T (τ_36.2.1 88)) (n := u1_36) (fun e a b => by have := g_wB_0 (T := T) i36_3 e a b; omega); omega) | (rw [i36_1.1]; exact g_TC_e i36_10 (by omega)) | fail))⟩
      ·
        refine ⟨fun c5 => ?_, fun c5 => ?_⟩
        ·
          exact ⟨hT, (show g_tre (τ_36.1 7) (τ_36.1 54) (τ_36.2.1 13) (τ_36.2.1 14) (τ_36.2.1 27) (τ_36.2.1 28) (τ_36.2.1 29) (τ_36.2.1 84) from by (first | (exfalso; have := sm_n (g := g_wB (σ.1 4) T (τ_36.2.1 88)) (n := u1_36) (fun e a b => by have := g_wB_0 (T := T) i36_3 e a b; omega); omega) | (have u1z : u1_36 = 0 := (by omega); rw [W7, G13, G14, G27, G28, G29]; rw [i36_1.1]; exact g_tre_e i36_1.2 (by have := sm_n (g := g_wB (σ.1 4) T (τ_36.2.1 88)) (n := u1_36) (fun e a b => by have := g_wB_0 (T := T) i36_3 e a b; omega); omega) i36_5 (by rw [← u1z]; exact i36_2.1) i36_6) | fail)), (show g_T (σ.1 50) (σ.1 51) (σ.1 48) (σ.2.1 77) (σ.2.1 78) (σ.2.1 13) (σ.2.1 14) (σ.2.1 15) (σ.2.1 16) (σ.2.1 10) (σ.2.1 27) (σ.2.1 28) (σ.2.1 29) In (σ.1 52) 0 (σ.1 50) (g_pre (τ_36.2.1 84) ((τ_36.1 54)).toNat) from by (first | (exfalso; have := sm_n (g := g_wB (σ.1 4) T (τ_36.2.1 88)) (n := u1_36) (fun e a b => by have := g_wB_0 (T := T) i36_3 e a b; omega); omega) | (rw [i36_1.1]; exact g_TC_e i36_10 (by omega)) | fail))⟩
        ·
          have ul := g_wl_u i36_3 i36_2.2
          refine ⟨(show 0 ≤ (u1_36 + (-1)) ∧ (u1_36 + (-1)) < 120 from by (first | omega | (simp only [st_s] <;> omega) | assumption | omega | fail)), ?_⟩
          intro x7 r_x7 e_x7
          have b_x7 : 0 ≤ x7 ∧ x7 ≤ 359999 := by rw [e_x7]; exact hT.2 88 _
          intro x8 r_x8 h1_x8 h2_x8
          intro x9 r_x9 e_x9
          have b_x9 : 0 ≤ x9 ∧ x9 ≤ 359999 := by rw [e_x9]; exact hT.2 88 _
          intro x10 r_x10 h1_x10 h2_x10
          intro x11 r_x11 h1_x11 h2_x11
          intro x12 r_x12 e_x12
          have b_x12 : 0 ≤ x12 ∧ x12 ≤ 359999 := by rw [e_x12]; exact hT.2 88 _
          intro x13 r_x13 h1_x13 h2_x13
          have wt := i36_3 (u1_36 + (-1)) (by omega) (by omega)
          rw [← e_x7] at wt
          have e97 : x9 = x7 := by rw [e_x9, e_x7]
          have e127 : x12 = x7 := by rw [e_x12, e_x7]
          have d8 : x8 = x7 / 3600 := h1_x8 wt.1
          have d11 : x11 = x7 / 60 % 60 := by (have a := h1_x10 (by omega); have b := h1_x11 (by omega); omega)
          have d13 : x13 = x7 % 60 := by (have a := h1_x13 (by omega); omega)
          rw [← d8, ← d11, ← d13] at wt
          have wt1 := wt.2.1
          have wt2 := wt.2.2.1
          have eB : g_wB (σ.1 4) T (τ_36.2.1 88) (u1_36 + (-1)) = g_B (T x11 x13) (σ.1 4) x8 x11 x13 := by (unfold g_wB; rw [← e_x7, ← d8, ← d11, ← d13])
          have eL : g_wl (τ_36.2.1 88) (u1_36 + (-1)) = x13 - x11 := by (unfold g_wl; rw [← e_x7, ← d11, ← d13])
          have pB := g_pop (f := g_wB (σ.1 4) T (τ_36.2.1 88)) (u := u1_36) (by omega)
          have pL := g_pop (f := g_wl (τ_36.2.1 88)) (u := u1_36) (by omega)
          have b1 := g_wB_0 (T := T) i36_3 (u1_36 + (-1)) (by omega) (by omega)
          refine ⟨_, K_X1_ruleOf hT (show 0 ≤ x8 from by (first | omega | (simp only [st_s] <;> omega) | assumption | omega | fail)) (show x8 < 100 from by (first | omega | (simp only [st_s] <;> omega) | assumption | omega | fail)) (show 0 ≤ x11 from by (first | omega | (simp only [st_s] <;> omega) | assumption | omega | fail)) (show x11 < x13 from by (first | omega | (simp only [st_s] <;> omega) | assumption | omega | fail)) (show x13 ≤ 59 from by (first | omega | (simp only [st_s] <;> omega) | assumption | omega | fail)), ?_⟩
          intro x15 r_x15 hq
          obtain ⟨q14_1, q14_2⟩ := hq
          replace q14_1 : x15 = g_mb (τ_36.2.1 79) x8 x11 x13 := q14_1
          replace q14_2 : 0 ≤ x15 ∧ x15 ≤ 1499 := q14_2
          have ok := hT2 x11 x13 (by omega) (by omega) (by omega) (by omega) x8 (by omega) (by omega)
          have dis := ok.2 wt.2.2.2.1
          rw [show g_mb (σ.2.1 79) x8 x11 x13 = x15 from by rw [q14_1, G79]] at dis
          have nd15 : x15 < σ.1 7 ∧ (σ.2.1 13 x15 = 0 ∨ (In x15 ∧ g_rf x15 (σ.2.1 13) (σ.2.1 14) (σ.2.1 27) (σ.2.1 28) (σ.2.1 29))) := by (obtain ⟨d1, d2⟩ := dis; rcases d2 with ⟨l0, l1, l2, l3⟩ | ⟨r1, r2⟩; (have v := p5 x11 (by omega) (by omega) l0; rw [← l2] at v; exact ⟨v.1, Or.inl v.2⟩); (have v := ru.2.1 x15 r1; exact ⟨by have w := v.1; omega, Or.inr ⟨r1, v.2.1⟩⟩))
          have lt15 : σ.2.1 13 x15 = 0 → g_T (σ.1 50) (σ.1 51) (σ.1 48) (σ.2.1 77) (σ.2.1 78) (σ.2.1 13) (σ.2.1 14) (σ.2.1 15) (σ.2.1 16) (σ.2.1 10) (σ.2.1 27) (σ.2.1 28) (σ.2.1 29) In x8 x11 x13 [x15] := fun z => by (rcases dis.2 with ⟨l0, l1, l2, l3⟩ | ⟨r1, r2⟩; (have sp := g_so_p (by rw [← l3]; exact wt1.1); rw [l2] at z; rw [l1, l2, l3, sp.2]; exact g_T_l ⟨⟨by omega, by omega⟩, l0, z, sp.1⟩); (have v := (ru.2.1 x15 r1).2.1.1; exfalso; omega))
          have ndx : x15 < σ.1 7 ∧ (σ.2.1 13 x15 = 0 ∨ g_rf x15 (σ.2.1 13) (σ.2.1 14) (σ.2.1 27) (σ.2.1 28) (σ.2.1 29)) := ⟨nd15.1, nd15.2.imp id And.right⟩
          refine ⟨(show 0 ≤ τ_36.1 54 ∧ τ_36.1 54 < 12000 from by (first | omega | (simp only [st_s] <;> omega) | assumption | omega | fail)), ?_⟩
          replace hT := cT_a (k := 84) (j := (τ_36.1 54)) hT (show (0 : Int) ≤ x15 ∧ x15 ≤ 1499 from by (first | omega | (simp only [st_s] <;> omega) | assumption | omega | fail))
          replace hT := cT_a (k := 85) (j := (τ_36.1 54)) hT (show (0 : Int) ≤ x11 ∧ x11 ≤ 59 from by (first | omega | (simp only [st_s] <;> omega) | assumption | omega | fail))
          replace hT := cT_a (k := 86) (j := (τ_36.1 54)) hT (show (0 : Int) ≤ x13 ∧ x13 ≤ 59 from by (first | omega | (simp only [st_s] <;> omega) | assumption | omega | fail))
          refine ⟨(⟨by (first | omega | (simp only [st_s] <;> omega) | assumption | omega | fail), by (first | omega | (simp only [st_s] <;> omega) | assumption | omega | fail)⟩ : rg (τ_36.1 54 + 1)), ?_⟩
          replace hT := cT_v (i := 54) hT (show 0 ≤ (τ_36.1 54 + 1) ∧ (τ_36.1 54 + 1) ≤ 12000 from by (first | omega | (simp only [st_s] <;> omega) | assumption | omega | fail))
          refine ⟨(show 0 ≤ x15 ∧ x15 < 1500 from by (first | omega | (simp only [st_s] <;> omega) | assumption | omega | fail)), ?_⟩
          intro x20 r_x20 e_x20
          have b_x20 : 0 ≤ x20 ∧ x20 ≤ 4 := by rw [e_x20]; exact hT.2 13 _
          refine ⟨fun c21 => ?_, fun c21 => ?_⟩
          ·
            have k15 : ¬ σ.2.1 13 x15 = 0 := by (rw [← G13, ← e_x20]; assumption)
            have in15 := nd15.2.resolve_left k15
            have r15 := in15.1
            have ru15 := ru.2.1 x15 r15
            have di15 := dis.2.resolve_left (fun q => k15 (by have v := p5 x11 (by omega) (by omega) q.1; rw [← q.2.2.1] at v; exact v.2))
            have o10 := G10
            have o14 := G14
            have o15 := G15
            have o16 := G16
            have o50 := W50
            have o77 := G77
            have o69 := G69
            have o4 := W4
            refine ⟨_, K_X11_part hT (show J_all (τ_36.1 7) (τ_36.1 6) (τ_36.1 13) (τ_36.1 14) (τ_36.1 15) (τ_36.2.1 13) (τ_36.2.1 14) (τ_36.2.1 15) (τ_36.2.1 16) (τ_36.2.1 10) (τ_36.2.1 27) (τ_36.2.1 28) (τ_36.2.1 29) (τ_36.2.1 30) (τ_36.2.1 31) (τ_36.2.1 32) (τ_36.2.1 33) (τ_36.2.1 34) (τ_36.2.1 35) (τ_36.2.1 36) (τ_36.2.1 37) from CJ) (show c_Rs (s_v (s_a (s_a (s_a τ_36 84 (τ_36.1 54) x15) 85 (τ_36.1 54) x11) 86 (τ_36.1 54) x13) 54 (τ_36.1 54 + 1)) par nof In from by exact i36_7) (show In x15 from by exact r15) (show 0 ≤ x11 from by (first | omega | (simp only [st_s] <;> omega) | assumption | omega | fail)) (show x11 < x13 from by (first | omega | (simp only [st_s] <;> omega) | assumption | omega | fail)) (show x13 ≤ (τ_36.1 50) from by (first | omega | (simp only [st_s] <;> omega) | assumption | omega | fail)) (show g_wu (τ_36.1 50) (τ_36.2.1 77) (τ_36.2.2 3) from by (rw [o50, o77, i36_9]; exact p10)) (show ∀ s q e : Int, 0 ≤ s → s < (τ_36.1 4) → 0 ≤ q → q < (τ_36.1 50) → 0 ≤ e → e < 64 → g_H (τ_36.2.2 4) s q e → q < e ∧ e ≤ (τ_36.1 50) from by (rw [o4, o50, i36_8]; exact slx)) (show g_rc (τ_36.1 50) (τ_36.2.1 77) (τ_36.2.1 69) par (g_H (τ_36.2.2 4)) 0 x11 (nof x15) x13 from by (rw [o50, o77, o69, i36_8]; obtain ⟨m, π, d, w, _, _⟩ := di15.2.2.2.1; exact ⟨m, π, d, w⟩)) (show J_rks (τ_36.1 5) (τ_36.1 4) (τ_36.2.1 10) (τ_36.2.1 11) from RKS) (show J_vs (τ_36.1 6) (τ_36.1 5) (τ_36.2.1 15) from TX), ?_⟩
            intro τ24 hn_τ24 hf_τ24 hq
            obtain ⟨hT, q22_1⟩ := hq
            replace q22_1 : g_pt (τ_36.1 50) (τ_36.2.1 14 (x15 + 1) - τ_36.2.1 14 x15 - 1) x11 x13 (τ_36.2.1 14 x15 + 1) (τ_36.2.1 77) (j_sk (τ_36.2.1 14) (τ_36.2.1 15) (τ_36.2.1 16) (τ_36.2.1 10) x15) (τ_36.2.1 15) (τ_36.2.1 16) (τ24.2.1 89) (τ24.2.1 90) (g_H (τ_36.2.2 4)) := q22_1
            have w4_τ24 : τ24.1 4 = τ_36.1 4 := hf_τ24.1 4 (by decide)
            have w5_τ24 : τ24.1 5 = τ_36.1 5 := hf_τ24.1 5 (by decide)
            have w6_τ24 : τ24.1 6 = τ_36.1 6 := hf_τ24.1 6 (by decide)
            have w7_τ24 : τ24.1 7 = τ_36.1 7 := hf_τ24.1 7 (by decide)
            have w13_τ24 : τ24.1 13 = τ_36.1 13 := hf_τ24.1 13 (by decide)
            have w14_τ24 : τ24.1 14 = τ_36.1 14 := hf_τ24.1 14 (by decide)
            have w15_τ24 : τ24.1 15 = τ_36.1 15 := hf_τ24.1 15 (by decide)
            have w45_τ24 : τ24.1 45 = τ_36.1 45 := hf_τ24.1 45 (by decide)
            have w48_τ24 : τ24.1 48 = τ_36.1 48 := hf_τ24.1 48 (by decide)
            have w50_τ24 : τ24.1 50 = τ_36.1 50 := hf_τ24.1 50 (by decide)
            have w51_τ24 : τ24.1 51 = τ_36.1 51 := hf_τ24.1 51 (by decide)
            have w52_τ24 : τ24.1 52 = τ_36.1 52 := hf_τ24.1 52 (by decide)
            have w54_τ24 : τ24.1 54 = (τ_36.1 54 + 1) := hf_τ24.1 54 (by decide)
            have g10_τ24 : τ24.2.1 10 = τ_36.2.1 10 := hf_τ24.2.1 10 (by decide)
            have g11_τ24 : τ24.2.1 11 = τ_36.2.1 11 := hf_τ24.2.1 11 (by decide)
            have g13_τ24 : τ24.2.1 13 = τ_36.2.1 13 := hf_τ24.2.1 13 (by decide)
            have g14_τ24 : τ24.2.1 14 = τ_36.2.1 14 := hf_τ24.2.1 14 (by decide)
            have g15_τ24 : τ24.2.1 15 = τ_36.2.1 15 := hf_τ24.2.1 15 (by decide)
            have g16_τ24 : τ24.2.1 16 = τ_36.2.1 16 := hf_τ24.2.1 16 (by decide)
            have g27_τ24 : τ24.2.1 27 = τ_36.2.1 27 := hf_τ24.2.1 27 (by decide)
            have g28_τ24 : τ24.2.1 28 = τ_36.2.1 28 := hf_τ24.2.1 28 (by decide)
            have g29_τ24 : τ24.2.1 29 = τ_36.2.1 29 := hf_τ24.2.1 29 (by decide)
            have g30_τ24 : τ24.2.1 30 = τ_36.2.1 30 := hf_τ24.2.1 30 (by decide)
            have g31_τ24 : τ24.2.1 31 = τ_36.2.1 31 := hf_τ24.2.1 31 (by decide)
            have g32_τ24 : τ24.2.1 32 = τ_36.2.1 32 := hf_τ24.2.1 32 (by decide)
            have g33_τ24 : τ24.2.1 33 = τ_36.2.1 33 := hf_τ24.2.1 33 (by decide)
            have g34_τ24 : τ24.2.1 34 = τ_36.2.1 34 := hf_τ24.2.1 34 (by decide)
            have g35_τ24 : τ24.2.1 35 = τ_36.2.1 35 := hf_τ24.2.1 35 (by decide)
            have g36_τ24 : τ24.2.1 36 = τ_36.2.1 36 := hf_τ24.2.1 36 (by decide)
            have g37_τ24 : τ24.2.1 37 = τ_36.2.1 37 := hf_τ24.2.1 37 (by decide)
            have g69_τ24 : τ24.2.1 69 = τ_36.2.1 69 := hf_τ24.2.1 69 (by decide)
            have g70_τ24 : τ24.2.1 70 = τ_36.2.1 70 := hf_τ24.2.1 70 (by decide)
            have g72_τ24 : τ24.2.1 72 = τ_36.2.1 72 := hf_τ24.2.1 72 (by decide)
            have g73_τ24 : τ24.2.1 73 = τ_36.2.1 73 := hf_τ24.2.1 73 (by decide)
            have g77_τ24 : τ24.2.1 77 = τ_36.2.1 77 := hf_τ24.2.1 77 (by decide)
            have g78_τ24 : τ24.2.1 78 = τ_36.2.1 78 := hf_τ24.2.1 78 (by decide)
            have g79_τ24 : τ24.2.1 79 = τ_36.2.1 79 := hf_τ24.2.1 79 (by decide)
            have g84_τ24 : τ24.2.1 84 = (st (τ_36.2.1 84) (τ_36.1 54) x15) := hf_τ24.2.1 84 (by decide)
            have g88_τ24 : τ24.2.1 88 = τ_36.2.1 88 := hf_τ24.2.1 88 (by decide)
            have W4 : τ24.1 4 = σ.1 4 := by first | exact w4_τ24.trans W4 | omega
            have W5 : τ24.1 5 = σ.1 5 := by first | exact w5_τ24.trans W5 | omega
            have W6 : τ24.1 6 = σ.1 6 := by first | exact w6_τ24.trans W6 | omega
            have W7 : τ24.1 7 = σ.1 7 := by first | exact w7_τ24.trans W7 | omega
            have W13 : τ24.1 13 = σ.1 13 := by first | exact w13_τ24.trans W13 | omega
            have W14 : τ24.1 14 = σ.1 14 := by first | exact w14_τ24.trans W14 | omega
            have W15 : τ24.1 15 = σ.1 15 := by first | exact w15_τ24.trans W15 | omega
            have W45 : τ24.1 45 = σ.1 45 := by first | exact w45_τ24.trans W45 | omega
            have W48 : τ24.1 48 = σ.1 48 := by first | exact w48_τ24.trans W48 | omega
            have W50 : τ24.1 50 = σ.1 50 := by first | exact w50_τ24.trans W50 | omega
            have W51 : τ24.1 51 = σ.1 51 := by first | exact w51_τ24.trans W51 | omega
            have W52 : τ24.1 52 = σ.1 52 := by first | exact w52_τ24.trans W52 | omega
            have G10 : τ24.2.1 10 = σ.2.1 10 := (g10_τ24).trans G10
            have G11 : τ24.2.1 11 = σ.2.1 11 := (g11_τ24).trans G11
            have G13 : τ24.2.1 13 = σ.2.1 13 := (g13_τ24).trans G13
            have G14 : τ24.2.1 14 = σ.2.1 14 := (g14_τ24).trans G14
            have G15 : τ24.2.1 15 = σ.2.1 15 := (g15_τ24).trans G15
            have G16 : τ24.2.1 16 = σ.2.1 16 := (g16_τ24).trans G16
            have G27 : τ24.2.1 27 = σ.2.1 27 := (g27_τ24).trans G27
            have G28 : τ24.2.1 28 = σ.2.1 28 := (g28_τ24).trans G28
            have G29 : τ24.2.1 29 = σ.2.1 29 := (g29_τ24).trans G29
            have G30 : τ24.2.1 30 = σ.2.1 30 := (g30_τ24).trans G30
            have G31 : τ24.2.1 31 = σ.2.1 31 := (g31_τ24).trans G31
            have G32 : τ24.2.1 32 = σ.2.1 32 := (g32_τ24).trans G32
            have G33 : τ24.2.1 33 = σ.2.1 33 := (g33_τ24).trans G33
            have G34 : τ24.2.1 34 = σ.2.1 34 := (g34_τ24).trans G34
            have G35 : τ24.2.1 35 = σ.2.1 35 := (g35_τ24).trans G35
            have G36 : τ24.2.1 36 = σ.2.1 36 := (g36_τ24).trans G36
            have G37 : τ24.2.1 37 = σ.2.1 37 := (g37_τ24).trans G37
            have G69 : τ24.2.1 69 = σ.2.1 69 := (g69_τ24).trans G69
            have G70 : τ24.2.1 70 = σ.2.1 70 := (g70_τ24).trans G70
            have G72 : τ24.2.1 72 = σ.2.1 72 := (g72_τ24).trans G72
            have G73 : τ24.2.1 73 = σ.2.1 73 := (g73_τ24).trans G73
            have G77 : τ24.2.1 77 = σ.2.1 77 := (g77_τ24).trans G77
            have G78 : τ24.2.1 78 = σ.2.1 78 := (g78_τ24).trans G78
            have G79 : τ24.2.1 79 = σ.2.1 79 := (g79_τ24).trans G79
            have TX : J_vs (τ24.1 6) (τ24.1 5) (τ24.2.1 15) := by rw [show (J_vs (τ24.1 6) (τ24.1 5) (τ24.2.1 15)) = (J_vs (τ_36.1 6) (τ_36.1 5) (τ_36.2.1 15)) from by rw [w5_τ24, w6_τ24, g15_τ24]]; exact TX
            have RKS : J_rks (τ24.1 5) (τ24.1 4) (τ24.2.1 10) (τ24.2.1 11) := by rw [show (J_rks (τ24.1 5) (τ24.1 4) (τ24.2.1 10) (τ24.2.1 11)) = (J_rks (τ_36.1 5) (τ_36.1 4) (τ_36.2.1 10) (τ_36.2.1 11)) from by rw [w4_τ24, w5_τ24, g10_τ24, g11_τ24]]; exact RKS
            have CJ : J_all (τ24.1 7) (τ24.1 6) (τ24.1 13) (τ24.1 14) (τ24.1 15) (τ24.2.1 13) (τ24.2.1 14) (τ24.2.1 15) (τ24.2.1 16) (τ24.2.1 10) (τ24.2.1 27) (τ24.2.1 28) (τ24.2.1 29) (τ24.2.1 30) (τ24.2.1 31) (τ24.2.1 32) (τ24.2.1 33) (τ24.2.1 34) (τ24.2.1 35) (τ24.2.1 36) (τ24.2.1 37) := by rw [show (J_all (τ24.1 7) (τ24.1 6) (τ24.1 13) (τ24.1 14) (τ24.1 15) (τ24.2.1 13) (τ24.2.1 14) (τ24.2.1 15) (τ24.2.1 16) (τ24.2.1 10) (τ24.2.1 27) (τ24.2.1 28) (τ24.2.1 29) (τ24.2.1 30) (τ24.2.1 31) (τ24.2.1 32) (τ24.2.1 33) (τ24.2.1 34) (τ24.2.1 35) (τ24.2.1 36) (τ24.2.1 37)) = (J_all (τ_36.1 7) (τ_36.1 6) (τ_36.1 13) (τ_36.1 14) (τ_36.1 15) (τ_36.2.1 13) (τ_36.2.1 14) (τ_36.2.1 15) (τ_36.2.1 16) (τ_36.2.1 10) (τ_36.2.1 27) (τ_36.2.1 28) (τ_36.2.1 29) (τ_36.2.1 30) (τ_36.2.1 31) (τ_36.2.1 32) (τ_36.2.1 33) (τ_36.2.1 34) (τ_36.2.1 35) (τ_36.2.1 36) (τ_36.2.1 37)) from by rw [w6_τ24, w7_τ24, w13_τ24, w14_τ24, w15_τ24, g10_τ24, g13_τ24, g14_τ24, g15_τ24, g16_τ24, g27_τ24, g28_τ24, g29_τ24, g30_τ24, g31_τ24, g32_τ24, g33_τ24, g34_τ24, g35_τ24, g36_τ24, g37_τ24]]; exact CJ
            have A10 : ∀ j, (-1) ≤ τ24.2.1 10 j ∧ τ24.2.1 10 j ≤ 99 := fun j => hT.2 10 j
            have A11 : ∀ j, 0 ≤ τ24.2.1 11 j ∧ τ24.2.1 11 j ≤ 999 := fun j => hT.2 11 j
            have A13 : ∀ j, 0 ≤ τ24.2.1 13 j ∧ τ24.2.1 13 j ≤ 4 := fun j => hT.2 13 j
            have A14 : ∀ j, 0 ≤ τ24.2.1 14 j ∧ τ24.2.1 14 j ≤ 30000 := fun j => hT.2 14 j
            have A15 : ∀ j, 0 ≤ τ24.2.1 15 j ∧ τ24.2.1 15 j ≤ 999 := fun j => hT.2 15 j
            have A16 : ∀ j, (-1) ≤ τ24.2.1 16 j ∧ τ24.2.1 16 j ≤ 1499 := fun j => hT.2 16 j
            have A27 : ∀ j, 0 ≤ τ24.2.1 27 j ∧ τ24.2.1 27 j ≤ 90000 := fun j => hT.2 27 j
            have A28 : ∀ j, 0 ≤ τ24.2.1 28 j ∧ τ24.2.1 28 j ≤ 60 := fun j => hT.2 28 j
            have A29 : ∀ j, 0 ≤ τ24.2.1 29 j ∧ τ24.2.1 29 j ≤ 1499 := fun j => hT.2 29 j
            have A30 : ∀ j, 0 ≤ τ24.2.1 30 j ∧ τ24.2.1 30 j ≤ 20000 := fun j => hT.2 30 j
            have A31 : ∀ j, 0 ≤ τ24.2.1 31 j ∧ τ24.2.1 31 j ≤ 20000 := fun j => hT.2 31 j
            have A32 : ∀ j, 0 ≤ τ24.2.1 32 j ∧ τ24.2.1 32 j ≤ 999999 := fun j => hT.2 32 j
            have A33 : ∀ j, 0 ≤ τ24.2.1 33 j ∧ τ24.2.1 33 j ≤ 20000 := fun j => hT.2 33 j
            have A34 : ∀ j, 0 ≤ τ24.2.1 34 j ∧ τ24.2.1 34 j ≤ 20000 := fun j => hT.2 34 j
            have A35 : ∀ j, 0 ≤ τ24.2.1 35 j ∧ τ24.2.1 35 j ≤ 1499 := fun j => hT.2 35 j
            have A36 : ∀ j, 0 ≤ τ24.2.1 36 j ∧ τ24.2.1 36 j ≤ 20000 := fun j => hT.2 36 j
            have A37 : ∀ j, 0 ≤ τ24.2.1 37 j ∧ τ24.2.1 37 j ≤ 19999 := fun j => hT.2 37 j
            have A69 : ∀ j, (-100) ≤ τ24.2.1 69 j ∧ τ24.2.1 69 j ≤ 999 := fun j => hT.2 69 j
            have A70 : ∀ j, 0 ≤ τ24.2.1 70 j ∧ τ24.2.1 70 j ≤ 1499 := fun j => hT.2 70 j
            have A72 : ∀ j, 0 ≤ τ24.2.1 72 j ∧ τ24.2.1 72 j ≤ 1500 := fun j => hT.2 72 j
            have A73 : ∀ j, 0 ≤ τ24.2.1 73 j ∧ τ24.2.1 73 j ≤ 30000 := fun j => hT.2 73 j
            have A77 : ∀ j, 0 ≤ τ24.2.1 77 j ∧ τ24.2.1 77 j ≤ 999 := fun j => hT.2 77 j
            have A78 : ∀ j, (-1) ≤ τ24.2.1 78 j ∧ τ24.2.1 78 j ≤ 1499 := fun j => hT.2 78 j
            have A79 : ∀ j, 0 ≤ τ24.2.1 79 j ∧ τ24.2.1 79 j ≤ 1499 := fun j => hT.2 79 j
            have A84 : ∀ j, 0 ≤ τ24.2.1 84 j ∧ τ24.2.1 84 j ≤ 1499 := fun j => hT.2 84 j
            have A88 : ∀ j, 0 ≤ τ24.2.1 88 j ∧ τ24.2.1 88 j ≤ 359999 := fun j => hT.2 88 j
            have A89 : ∀ j, 0 ≤ τ24.2.1 89 j ∧ τ24.2.1 89 j ≤ 59 := fun j => hT.2 89 j
            have A90 : ∀ j, 0 ≤ τ24.2.1 90 j ∧ τ24.2.1 90 j ≤ 59 := fun j => hT.2 90 j
            have v4 : 0 ≤ τ24.1 4 ∧ τ24.1 4 ≤ 100 := hT.1 4
            have v5 : 0 ≤ τ24.1 5 ∧ τ24.1 5 ≤ 1000 := hT.1 5
            have v6 : 0 ≤ τ24.1 6 ∧ τ24.1 6 ≤ 30000 := hT.1 6
            have v7 : 0 ≤ τ24.1 7 ∧ τ24.1 7 ≤ 1500 := hT.1 7
            have v13 : 0 ≤ τ24.1 13 ∧ τ24.1 13 ≤ 90000 := hT.1 13
            have v14 : 0 ≤ τ24.1 14 ∧ τ24.1 14 ≤ 20000 := hT.1 14
            have v15 : 0 ≤ τ24.1 15 ∧ τ24.1 15 ≤ 20000 := hT.1 15
            have v45 : 1 ≤ τ24.1 45 ∧ τ24.1 45 ≤ 30001 := hT.1 45
            have v48 : (-1) ≤ τ24.1 48 ∧ τ24.1 48 ≤ 999 := hT.1 48
            have v50 : 0 ≤ τ24.1 50 ∧ τ24.1 50 ≤ 59 := hT.1 50
            have v51 : 0 ≤ τ24.1 51 ∧ τ24.1 51 ≤ 1500 := hT.1 51
            have v52 : (-1) ≤ τ24.1 52 ∧ τ24.1 52 ≤ 99 := hT.1 52
            have v54 : 0 ≤ τ24.1 54 ∧ τ24.1 54 ≤ 12000 := hT.1 54
            rw [o50, o77, o14, o15, o16, o10, i36_8] at q22_1
            obtain ⟨D, o, tr15, so15⟩ := g_Tr_0 p1 ru r15 l47 di15.2.1 (p2.1.2.2.2.1 x15 r15).2 (by omega) (fun p => (s15 p).1) di15.2.2.2.1 q22_1
            have rs24 := c_Rs_h (show c_Rs (s_v (s_a (s_a (s_a τ_36 84 (τ_36.1 54) x15) 85 (τ_36.1 54) x11) 86 (τ_36.1 54) x13) 54 (τ_36.1 54 + 1)) par nof In from i36_7) hf_τ24 rfl
            intro x25 r_x25 e_x25
            have b_x25 : 0 ≤ x25 ∧ x25 ≤ 90000 := by rw [e_x25]; exact hT.2 27 _
            rw [G27] at e_x25
            have gw := g_gw_0 (N := u2_36 + 1) (u := u1_36 + (-1)) (c := τ_36.2.1 88) p1 p3 p4 (fun p => (s15 p).1) (fun p => (s14 p).1) (fun p => (s29 p).1) (by omega) ru r15 l47 (di15.2.2.2.2 wt.2.2.2.2) wt.2 (s28 x15).1 q22_1 (by rw [← eB]; omega) (by omega)
            exact l_185 ((90100 - x25 : Int).toNat + 1) _ _ _ _ _ (show (90100 - x25 : Int) < (((90100 - x25 : Int).toNat + 1 : Nat) : Int) from by ((first | omega | (simp only [st_s] <;> omega) | assumption | omega | fail))) hT (show τ24.1 4 = σ.1 4 from by first | exact W4 | omega) (show τ24.1 5 = σ.1 5 from by first | exact W5 | omega) (show τ24.1 6 = σ.1 6 from by first | exact W6 | omega) (show τ24.1 7 = σ.1 7 from by first | exact W7 | omega) (show τ24.1 13 = σ.1 13 from by first | exact W13 | omega) (show τ24.1 14 = σ.1 14 from by first | exact W14 | omega) (show τ24.1 15 = σ.1 15 from by first | exact W15 | omega) (show τ24.1 45 = σ.1 45 from by first | exact W45 | omega) (show τ24.1 48 = σ.1 48 from by first | exact W48 | omega) (show τ24.1 50 = σ.1 50 from by first | exact W50 | omega) (show τ24.1 51 = σ.1 51 from by first | exact W51 | omega) (show τ24.1 52 = σ.1 52 from by first | exact W52 | omega) G10 G11 G13 G14 G15 G16 G27 G28 G29 G30 G31 G32 G33 G34 G35 G36 G37 G69 G70 G72 G73 G77 G78 G79 (show (τ24.1 54) = u2_36 + 1 ∧ 0 ≤ u2_36 from by (first | omega | (simp only [st_s] <;> omega) | assumption | omega | fail)) (show (u1_36 + (-1)) + (σ.2.1 28 x15 - (x25 - x25)) = 1 + sm (g_nar (σ.2.1 13) (σ.2.1 28) (τ24.2.1 84)) (u2_36 + 1) ∧ 0 ≤ (u1_36 + (-1)) from by (first | (rw [g84_τ24, g_nar_s i36_1.1 i36_1.2, if_neg k15]; omega) | omega | fail)) (show g_wt (σ.1 50) (σ.1 4) (u1_36 + (-1)) (τ24.2.1 88) (σ.2.2 4) (σ.2.2 5) from by (first | exact ga.2 | (rw [g88_τ24]; exact g_wt_p i36_3 (by omega)) | fail)) (show g_gw (σ.1 50) (σ.1 4) (u2_36 + 1) (u1_36 + (-1)) (x25 - x25) (σ.2.1 28 x15) (σ.2.1 27 x15) T (τ24.2.1 88) (σ.2.1 10) (σ.2.1 14) (σ.2.1 15) (σ.2.1 29) (τ24.2.1 89) (τ24.2.1 90) (σ.2.2 4) (σ.2.2 5) from by (first | (rw [show u8_185 + 1 - u7_185 = u8_185 - u7_185 + 1 from by omega]; exact ga.1) | (rw [g88_τ24, show x25 - x25 = 0 from by omega]; exact gw) | fail)) (show g_nds (σ.1 7) (u2_36 + 1) (σ.2.1 13) (σ.2.1 14) (σ.2.1 27) (σ.2.1 28) (σ.2.1 29) (τ24.2.1 84) from by (first | exact i185_5 | (rw [g84_τ24]; exact g_nds_a i36_5 i36_1.1 ndx) | fail)) (show ∀ m : Int, 0 ≤ m → m < (u2_36 + 1) → 1 ≤ 1 + sm (g_nar (σ.2.1 13) (σ.2.1 28) (τ24.2.1 84)) m from by (first | exact i185_6 | (rw [g84_τ24]; exact g_nar_p i36_1.1 i36_6 (by omega)) | fail)) (show c_Rs τ24 par nof In from by (first | exact i185_7 | exact rs24 | fail)) (show τ24.2.2 4 = σ.2.2 4 from by (first | exact i185_8 | exact (hf_τ24.2.2 4 (by decide)).trans i36_8 | fail)) (show τ24.2.2 3 = σ.2.2 3 from by (first | exact i185_9 | exact (hf_τ24.2.2 3 (by decide)).trans i36_9 | fail)) (show In x15 from by (first | exact i185_10 | exact r15 | fail)) (show x25 = σ.2.1 27 x15 ∧ x25 ≤ x25 ∧ x25 ≤ x25 + σ.2.1 28 x15 from by (first | exact ⟨i185_11.1, by omega, by omega⟩ | exact ⟨e_x25, by omega, by have := (s28 x15).1; omega⟩ | fail)) (show g_TG (σ.1 50) (σ.1 51) (σ.1 48) (σ.2.1 77) (σ.2.1 78) (σ.2.1 13) (σ.2.1 14) (σ.2.1 15) (σ.2.1 16) (σ.2.1 10) (σ.2.1 27) (σ.2.1 28) (σ.2.1 29) In (σ.1 52) 0 (σ.1 50) (τ24.2.1 88) (τ24.2.1 84) (τ24.2.1 89) (τ24.2.1 90) x15 (x25 - x25) (u2_36 + 1) (u1_36 + (-1)) from by (first | (rw [show u8_185 + 1 - u7_185 = u8_185 - u7_185 + 1 from by omega]; exact g_TG_s i185_12 i185_2.2 (by rw [← i185_11.1, e8x]; exact e_x43) (by rw [← i185_11.1, e8x]; exact e_x45) (by rw [← i185_11.1, e8x]; exact e_x46) gc.1.1 gc.2.1 (by omega) (by omega) (by omega) q47_1) | (rw [g88_τ24, g84_τ24, show x25 - x25 = 0 from by omega]; exact g_TG_0 i36_10 (by omega) i36_1.2 (s28 x15).1 i36_1.1 ⟨by rw [← e_x7]; omega, by rw [← e_x7]; omega, by rw [← e_x7]; omega⟩ (di15.2.2.1.trans (g_so_n (g_p1_x (p2.1.2.2.2.1 x15 r15).1 p2.2.1 (s15 _).1 (by omega)))) tr15 so15) | fail))
          ·
            refine ⟨(⟨by (first | omega | (simp only [st_s] <;> omega) | assumption | omega | fail), by (first | omega | (simp only [st_s] <;> omega) | assumption | omega | fail)⟩ : rg (u2_36 + 1)), ?_⟩
            exact ih_36 _ _ _ (show (12001 - (u2_36 + 1) : Int) < ((m_36 : Nat) : Int) from by ((first | omega | (simp only [st_s] <;> omega) | assumption | omega | fail))) hT (show τ_36.1 4 = σ.1 4 from by first | exact W4 | omega) (show τ_36.1 5 = σ.1 5 from by first | exact W5 | omega) (show τ_36.1 6 = σ.1 6 from by first | exact W6 | omega) (show τ_36.1 7 = σ.1 7 from by first | exact W7 | omega) (show τ_36.1 13 = σ.1 13 from by first | exact W13 | omega) (show τ_36.1 14 = σ.1 14 from by first | exact W14 | omega) (show τ_36.1 15 = σ.1 15 from by first | exact W15 | omega) (show τ_36.1 45 = σ.1 45 from by first | exact W45 | omega) (show τ_36.1 48 = σ.1 48 from by first | exact W48 | omega) (show τ_36.1 50 = σ.1 50 from by first | exact W50 | omega) (show τ_36.1 51 = σ.1 51 from by first | exact W51 | omega) (show τ_36.1 52 = σ.1 52 from by first | exact W52 | omega) G10 G11 G13 G14 G15 G16 G27 G28 G29 G30 G31 G32 G33 G34 G35 G36 G37 G69 G70 G72 G73 G77 G78 G79 (show ((τ_36.1 54 + 1)) = (u2_36 + 1) ∧ 0 ≤ (u2_36 + 1) from by (first | omega | (simp only [st_s] <;> omega) | assumption | omega | fail)) (show (u1_36 + (-1)) = 1 + sm (g_nar (σ.2.1 13) (σ.2.1 28) ((st (τ_36.2.1 84) (τ_36.1 54) x15))) (u2_36 + 1) ∧ 0 ≤ (u1_36 + (-1)) from by (first | (rw [sm_0]; omega) | (rw [g_nar_s i36_1.1 i36_1.2, if_pos (by rw [← G13, ← e_x20]; assumption)]; omega) | omega | fail)) (show g_wt (σ.1 50) (σ.1 4) (u1_36 + (-1)) (τ_36.2.1 88) (σ.2.2 4) (σ.2.2 5) from by (first | exact i185_3 | exact g_wt_p i36_3 (by omega) | exact g_wt_a (u := 0) (fun j a b => by omega) (by omega) q1_1 cl0 | fail)) (show sm (g_wB (σ.1 4) T (τ_36.2.1 88)) (u1_36 + (-1)) + (u2_36 + 1) ≤ 11700 ∧ sm (g_wl (τ_36.2.1 88)) (u1_36 + (-1)) ≤ (σ.1 50) from by (first | (have ge := g_gw_e i185_4 (by omega); omega) | omega | exact g_w0 (by omega) (by omega) p7.1 p7.2 (by omega) q1_1 | (exfalso; omega) | fail)) (show g_nds (σ.1 7) (u2_36 + 1) (σ.2.1 13) (σ.2.1 14) (σ.2.1 27) (σ.2.1 28) (σ.2.1 29) ((st (τ_36.2.1 84) (τ_36.1 54) x15)) from by (first | exact i185_5 | exact g_nds_a i36_5 i36_1.1 ndx | exact fun j a b => by omega | fail)) (show ∀ m : Int, 0 ≤ m → m < (u2_36 + 1) → 1 ≤ 1 + sm (g_nar (σ.2.1 13) (σ.2.1 28) ((st (τ_36.2.1 84) (τ_36.1 54) x15))) m from by (first | exact i185_6 | exact g_nar_p i36_1.1 i36_6 (by omega) | exact fun j a b => by omega | fail)) (show c_Rs (s_v (s_a (s_a (s_a τ_36 84 (τ_36.1 54) x15) 85 (τ_36.1 54) x11) 86 (τ_36.1 54) x13) 54 (τ_36.1 54 + 1)) par nof In from by (first | exact i185_7 | exact i36_7 | exact p2 | fail)) (show τ_36.2.2 4 = σ.2.2 4 from by (first | exact i185_8 | exact i36_8 | rfl | fail)) (show τ_36.2.2 3 = σ.2.2 3 from by (first | exact i185_9 | exact i36_9 | rfl | fail)) (show g_TC (σ.1 50) (σ.1 51) (σ.1 48) (σ.2.1 77) (σ.2.1 78) (σ.2.1 13) (σ.2.1 14) (σ.2.1 15) (σ.2.1 16) (σ.2.1 10) (σ.2.1 27) (σ.2.1 28) (σ.2.1 29) In (σ.1 52) 0 (σ.1 50) (τ_36.2.1 88) ((st (τ_36.2.1 84) (τ_36.1 54) x15)) (u2_36 + 1) (u1_36 + (-1)) from by (first | exact g_TG_e i185_12 (by omega) | exact g_TC_l i36_10 (by omega) i36_1.2 i36_1.1 ⟨by rw [← e_x7]; omega, by rw [← e_x7]; omega, by rw [← e_x7]; omega⟩ (lt15 (by rw [← G13, ← e_x20]; assumption)) | exact g_TC_0 (by omega) (by omega) p7.1 q1_1 | fail))
  replace hT := cT_v (i := 54) hT (show (0 : Int) ≤ 0 ∧ 0 ≤ 12000 from by (first | omega | (simp only [st_s] <;> omega) | assumption | omega | fail))
  refine ⟨_, K_X11_cell hT (show 0 ≤ (σ.1 52) ∧ (σ.1 52) ≤ 99 from by (first | omega | (simp only [st_s] <;> omega) | assumption | omega | fail)) (show 0 ≤ (0 : Int) ∧ (0 : Int) ≤ 59 from by (first | omega | (simp only [st_s] <;> omega) | assumption | omega | fail)) (show 0 ≤ (σ.1 50) ∧ (σ.1 50) ≤ 59 from by (first | omega | (simp only [st_s] <;> omega) | assumption | omega | fail)), ?_⟩
  intro x2 r_x2 hq
  have q1_1 := hq
  replace q1_1 : x2 = (((σ.1 52) * 60) + (0 : Int)) * 60 + (σ.1 50) := q1_1
  replace hT := cT_a (k := 88) (j := 0) hT (show (0 : Int) ≤ x2 ∧ x2 ≤ 359999 from by (first | omega | (simp only [st_s] <;> omega) | assumption | omega | fail))
  exact l_36 ((12001 - 0 : Int).toNat + 1) _ _ _ (show (12001 - 0 : Int) < (((12001 - 0 : Int).toNat + 1 : Nat) : Int) from by ((first | omega | (simp only [st_s] <;> omega) | assumption | omega | fail))) hT (show σ.1 4 = σ.1 4 from by first | exact W4 | omega) (show σ.1 5 = σ.1 5 from by first | exact W5 | omega) (show σ.1 6 = σ.1 6 from by first | exact W6 | omega) (show σ.1 7 = σ.1 7 from by first | exact W7 | omega) (show σ.1 13 = σ.1 13 from by first | exact W13 | omega) (show σ.1 14 = σ.1 14 from by first | exact W14 | omega) (show σ.1 15 = σ.1 15 from by first | exact W15 | omega) (show σ.1 45 = σ.1 45 from by first | exact W45 | omega) (show σ.1 48 = σ.1 48 from by first | exact W48 | omega) (show σ.1 50 = σ.1 50 from by first | exact W50 | omega) (show σ.1 51 = σ.1 51 from by first | exact W51 | omega) (show σ.1 52 = σ.1 52 from by first | exact W52 | omega) G10 G11 G13 G14 G15 G16 G27 G28 G29 G30 G31 G32 G33 G34 G35 G36 G37 G69 G70 G72 G73 G77 G78 G79 (show ((0 : Int)) = 0 ∧ 0 ≤ 0 from by (first | omega | (simp only [st_s] <;> omega) | assumption | omega | fail)) (show 1 = 1 + sm (g_nar (σ.2.1 13) (σ.2.1 28) (σ.2.1 84)) 0 ∧ 0 ≤ 1 from by (first | (rw [sm_0]; omega) | (rw [g_nar_s i36_1.1 i36_1.2, if_pos (by rw [← G13, ← e_x20]; assumption)]; omega) | omega | fail)) (show g_wt (σ.1 50) (σ.1 4) 1 ((st (σ.2.1 88) 0 x2)) (σ.2.2 4) (σ.2.2 5) from by (first | exact i185_3 | exact g_wt_p i36_3 (by omega) | exact g_wt_a (u := 0) (fun j a b => by omega) (by omega) q1_1 cl0 | fail)) (show sm (g_wB (σ.1 4) T ((st (σ.2.1 88) 0 x2))) 1 + 0 ≤ 11700 ∧ sm (g_wl ((st (σ.2.1 88) 0 x2))) 1 ≤ (σ.1 50) from by (first | (have ge := g_gw_e i185_4 (by omega); omega) | omega | exact g_w0 (by omega) (by omega) p7.1 p7.2 (by omega) q1_1 | (exfalso; omega) | fail)) (show g_nds (σ.1 7) 0 (σ.2.1 13) (σ.2.1 14) (σ.2.1 27) (σ.2.1 28) (σ.2.1 29) (σ.2.1 84) from by (first | exact i185_5 | exact g_nds_a i36_5 i36_1.1 ndx | exact fun j a b => by omega | fail)) (show ∀ m : Int, 0 ≤ m → m < 0 → 1 ≤ 1 + sm (g_nar (σ.2.1 13) (σ.2.1 28) (σ.2.1 84)) m from by (first | exact i185_6 | exact g_nar_p i36_1.1 i36_6 (by omega) | exact fun j a b => by omega | fail)) (show c_Rs (s_a (s_v σ 54 0) 88 0 x2) par nof In from by (first | exact i185_7 | exact i36_7 | exact p2 | fail)) (show σ.2.2 4 = σ.2.2 4 from by (first | exact i185_8 | exact i36_8 | rfl | fail)) (show σ.2.2 3 = σ.2.2 3 from by (first | exact i185_9 | exact i36_9 | rfl | fail)) (show g_TC (σ.1 50) (σ.1 51) (σ.1 48) (σ.2.1 77) (σ.2.1 78) (σ.2.1 13) (σ.2.1 14) (σ.2.1 15) (σ.2.1 16) (σ.2.1 10) (σ.2.1 27) (σ.2.1 28) (σ.2.1 29) In (σ.1 52) 0 (σ.1 50) ((st (σ.2.1 88) 0 x2)) (σ.2.1 84) 0 1 from by (first | exact g_TG_e i185_12 (by omega) | exact g_TC_l i36_10 (by omega) i36_1.2 i36_1.1 ⟨by rw [← e_x7]; omega, by rw [← e_x7]; omega, by rw [← e_x7]; omega⟩ (lt15 (by rw [← G13, ← e_x20]; assumption)) | exact g_TC_0 (by omega) (by omega) p7.1 q1_1 | fail))
