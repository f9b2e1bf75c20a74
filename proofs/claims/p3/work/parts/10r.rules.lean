-- pure: rules are taken in
def j_sk (a tx fl rk : Int → Int) (r j : Int) : Int := if fl (a r + 1 + j) = -1 then tx (a r + 1 + j) else -1 - rk (tx (a (fl (a r + 1 + j))))
/-- the path of the first m symbols of a rule behind its first one -/
def g_pa (r m nd node : Int) (a tx fl rk ky bn par : Int → Int) : Prop := ∃ π : Int → Int, π 0 = 0 ∧ π m = node ∧ ∀ j : Int, 0 ≤ j → j < m → 1 ≤ π (j + 1) ∧ π (j + 1) < nd ∧ par (π (j + 1)) = π j ∧ ky (π (j + 1)) = j_sk a tx fl rk r j ∧ bn (π (j + 1)) ≤ r
theorem g_pa0 (r nd : Int) (a tx fl rk ky bn par : Int → Int) : g_pa r 0 nd 0 a tx fl rk ky bn par := ⟨fun _ => 0, rfl, rfl, fun j a b => by omega⟩
theorem g_pa_x {r m nd nd' node : Int} {a tx fl rk ky bn par ky' bn' par' : Int → Int} (h : g_pa r m nd node a tx fl rk ky bn par) (n : nd ≤ nd') (e : ∀ c : Int, c < nd → par' c = par c ∧ ky' c = ky c ∧ bn' c = bn c) : g_pa r m nd' node a tx fl rk ky' bn' par' := by
  obtain ⟨π, h0, h1, h2⟩ := h
  refine ⟨π, h0, h1, fun j j0 j1 => ?_⟩
  obtain ⟨a1, a2, a3, a4, a5⟩ := h2 j j0 j1
  obtain ⟨e1, e2, e3⟩ := e _ a2
  exact ⟨a1, by omega, e1.trans a3, e2.trans a4, by rw [e3]; exact a5⟩
theorem g_pa_s {r m nd nd' node x : Int} {a tx fl rk ky bn par ky' bn' par' : Int → Int} (h : g_pa r m nd node a tx fl rk ky bn par) (m0 : 0 ≤ m) (c : g_ch nd nd' node (j_sk a tx fl rk r m) r x ky bn ky' bn' par par') (b : ∀ c : Int, 1 ≤ c → c < nd → bn c ≤ r) : g_pa r (m + 1) nd' x a tx fl rk ky' bn' par' := by
  obtain ⟨⟨c1, c2⟩, ⟨c3, c4⟩, c5, c6, c7, c8⟩ := c
  obtain ⟨π, h0, h1, h2⟩ := g_pa_x h c1 c8
  refine ⟨st π (m + 1) x, by rw [st_n _ _ (show (0 : Int) ≠ m + 1 from by omega)]; exact h0, st_s _ _ _, fun j j0 j1 => ?_⟩
  rw [st_n _ _ (show j ≠ m + 1 from by omega)]
  by_cases z : j = m
  · rw [z, st_s, h1]
    refine ⟨c3, c4, c5, c6, ?_⟩
    rcases c7 with q | q
    · rw [(c8 x q.1).2.2]; exact b x c3 q.1
    · rw [q.2]; exact Int.le_refl _
  · rw [st_n _ _ (show j + 1 ≠ m + 1 from by omega)]; exact h2 j j0 (by omega)
def g_rf (r : Int) (kd a fa fs hy : Int → Int) : Prop := kd r = 2 ∧ a r + 2 ≤ a (r + 1) ∧ a (r + 1) ≤ a r + 60 ∧ ∀ k : Int, 0 ≤ k → k < fs r → kd (hy (fa r + k)) = 0
/-- rules, each at the end of its path; chains of those that end at the same node -/
def g_ru (ln nd : Int) (kd a tx fl rk fa fs hy ky bn fr nr par nof : Int → Int) (In : Int → Prop) : Prop :=
  (∀ n : Int, 0 ≤ n → n < nd → fr n ≤ ln ∧ (0 < fr n → In (fr n - 1) ∧ nof (fr n - 1) = n) ∧ ∀ r : Int, fr n ≤ r → In r → nof r ≠ n) ∧
  (∀ r : Int, In r → (0 ≤ r ∧ r < ln) ∧ g_rf r kd a fa fs hy ∧ (0 ≤ nof r ∧ nof r < nd) ∧ g_pa r (a (r + 1) - a r - 1) nd (nof r) a tx fl rk ky bn par ∧ nr r ≤ r ∧ (0 < nr r → In (nr r - 1) ∧ nof (nr r - 1) = nof r) ∧ ∀ q : Int, nr r ≤ q → q < r → In q → nof q ≠ nof r) ∧
  (∀ c : Int, 1 ≤ c → c < nd → bn c ≤ ln) ∧ ∀ n : Int, nd ≤ n → n ≤ 30000 → fr n = 0
theorem g_ru_w {ln ln' nd : Int} {kd a tx fl rk fa fs hy ky bn fr nr par nof : Int → Int} {In : Int → Prop} (h : g_ru ln nd kd a tx fl rk fa fs hy ky bn fr nr par nof In) (l : ln ≤ ln') : g_ru ln' nd kd a tx fl rk fa fs hy ky bn fr nr par nof In :=
  ⟨fun n a b => by have w := h.1 n a b; exact ⟨by omega, w.2⟩, fun r hr => by obtain ⟨w1, w2⟩ := h.2.1 r hr; exact ⟨by omega, w2⟩, fun c a b => by have w := h.2.2.1 c a b; omega, h.2.2.2⟩
theorem g_ru_x {ln nd nd' : Int} {kd a tx fl rk fa fs hy ky bn ky' bn' fr nr par par' nof : Int → Int} {In : Int → Prop} (h : g_ru ln nd kd a tx fl rk fa fs hy ky bn fr nr par nof In) (n : nd ≤ nd') (n4 : nd' ≤ 30001) (e : ∀ c : Int, c < nd → par' c = par c ∧ ky' c = ky c ∧ bn' c = bn c) (b : ∀ c : Int, nd ≤ c → c < nd' → bn' c ≤ ln) (l0 : 0 ≤ ln) : g_ru ln nd' kd a tx fl rk fa fs hy ky' bn' fr nr par' nof In := by
  obtain ⟨h1, h2, h3, h4⟩ := h
  refine ⟨fun m a0 b0 => ?_, fun r hr => ?_, fun c a0 b0 => ?_, fun m a0 b0 => h4 m (by omega) b0⟩
  · by_cases z : m < nd
    · exact h1 m a0 z
    · rw [h4 m (by omega) (by omega)]
      exact ⟨l0, fun q => by omega, fun r r0 hr q => by have w := (h2 r hr).2.2.1; omega⟩
  · obtain ⟨w1, w2, w3, w4, w5⟩ := h2 r hr
    exact ⟨w1, w2, by omega, g_pa_x w4 n e, w5⟩
  · by_cases z : c < nd
    · rw [(e c z).2.2]; exact h3 c a0 z
    · exact b c (by omega) b0
/-- one rule more -/
theorem g_ru_a {i nd node : Int} {kd a tx fl rk fa fs hy ky bn fr nr par nof : Int → Int} {In : Int → Prop} (h : g_ru i nd kd a tx fl rk fa fs hy ky bn fr nr par nof In) (i0 : 0 ≤ i) (n0 : 0 ≤ node) (n1 : node < nd) (f : g_rf i kd a fa fs hy) (p : g_pa i (a (i + 1) - a i - 1) nd node a tx fl rk ky bn par) :
    g_ru (i + 1) nd kd a tx fl rk fa fs hy ky bn (st fr node (i + 1)) (st nr i (fr node)) par (st nof i node) (fun r => In r ∨ r = i) := by
  obtain ⟨h1, h2, h3, h4⟩ := h
  have ne : ∀ r, In r → r ≠ i := fun r hr e => by have := (h2 r hr).1; omega
  have no : ∀ r, In r → st nof i node r = nof r := fun r hr => st_n _ _ (ne r hr)
  have ni : st nof i node i = node := st_s _ _ _
  obtain ⟨f1, f2, f3⟩ := h1 node n0 n1
  refine ⟨fun n a0 b0 => ?_, fun r hr => ?_, fun c a0 b0 => by have := h3 c a0 b0; omega, fun n a0 b0 => by rw [st_n _ _ (show n ≠ node from by omega)]; exact h4 n a0 b0⟩
  · by_cases z : n = node
    · rw [z, st_s]
      refine ⟨Int.le_refl _, fun _ => ⟨Or.inr (by omega), by rw [show i + 1 - 1 = i from by omega]; exact ni⟩, fun r r0 hr => ?_⟩
      rcases hr with q | q
      · have := (h2 r q).1; omega
      · omega
    · rw [st_n _ _ z]
      obtain ⟨q1, q2, q3⟩ := h1 n a0 b0
      refine ⟨by omega, fun q => ⟨Or.inl (q2 q).1, by rw [no _ (q2 q).1]; exact (q2 q).2⟩, fun r r0 hr => ?_⟩
      rcases hr with q | q
      · rw [no r q]; exact q3 r r0 q
      · rw [q, ni]; exact fun y => z y.symm
  · rcases hr with q | q
    · obtain ⟨w1, w2, w3, w4, w5, w6, w7⟩ := h2 r q
      rw [no r q, st_n _ _ (ne r q)]
      refine ⟨by omega, w2, w3, w4, w5, fun y => ⟨Or.inl (w6 y).1, by rw [no _ (w6 y).1]; exact (w6 y).2⟩, fun y y0 y1 hy' => ?_⟩
      rcases hy' with x | x
      · rw [no y x]; exact w7 y y0 y1 x
      · omega
    · rw [q, ni, st_s]
      refine ⟨by omega, f, by omega, p, f1, fun y => ⟨Or.inl (f2 y).1, by rw [no _ (f2 y).1]; exact (f2 y).2⟩, fun y y0 y1 hy' => ?_⟩
      rcases hy' with x | x
      · rw [no y x]; exact f3 y y0 x
      · omega
/-- rules of one variable alone -/
def g_un (un ln : Int) (a tx fl rk uR uF : Int → Int) (In : Int → Prop) : Prop := (∀ u : Int, 0 ≤ u → u < un → In (uR u) ∧ a (uR u + 1) = a (uR u) + 2 ∧ 0 ≤ fl (a (uR u) + 1) ∧ uF u = rk (tx (a (fl (a (uR u) + 1))))) ∧
  (∀ u v : Int, 0 ≤ u → u < v → v < un → uR u < uR v) ∧ (∀ r : Int, In r → a (r + 1) = a r + 2 → fl (a r + 1) ≠ -1 → ∃ u : Int, 0 ≤ u ∧ u < un ∧ uR u = r) ∧ un ≤ ln
theorem g_un_o {un i : Int} {a tx fl rk uR uF : Int → Int} {In : Int → Prop} (h : g_un un i a tx fl rk uR uF In) (z : ¬ (a (i + 1) = a i + 2 ∧ fl (a i + 1) ≠ -1)) : g_un un (i + 1) a tx fl rk uR uF (fun r => In r ∨ r = i) := by
  obtain ⟨h1, h2, h3, h4⟩ := h
  refine ⟨fun u a0 b0 => by have w := h1 u a0 b0; exact ⟨Or.inl w.1, w.2⟩, h2, fun r hr e1 e2 => ?_, by omega⟩
  rcases hr with q | q
  · exact h3 r q e1 e2
  · rw [q] at e1 e2; exact absurd ⟨e1, e2⟩ z
theorem g_un_w {un ln ln' : Int} {a tx fl rk uR uF : Int → Int} {In : Int → Prop} (h : g_un un ln a tx fl rk uR uF In) (l : ln ≤ ln') : g_un un ln' a tx fl rk uR uF In := ⟨h.1, h.2.1, h.2.2.1, by have := h.2.2.2; omega⟩
theorem g_un_a {un i x : Int} {a tx fl rk uR uF : Int → Int} {In : Int → Prop} (h : g_un un i a tx fl rk uR uF In) (u0 : 0 ≤ un) (li : ∀ r, In r → r < i) (e1 : a (i + 1) = a i + 2) (e2 : 0 ≤ fl (a i + 1)) (hx : x = rk (tx (a (fl (a i + 1))))) : g_un (un + 1) (i + 1) a tx fl rk (st uR un i) (st uF un x) (fun r => In r ∨ r = i) := by
  obtain ⟨h1, h2, h3, h4⟩ := h
  refine ⟨fun u a0 b0 => ?_, fun u v a0 b0 c0 => ?_, fun r hr r1 r2 => ?_, by omega⟩
  · by_cases z : u = un
    · rw [z, st_s, st_s]; exact ⟨Or.inr rfl, e1, e2, hx⟩
    · rw [st_n _ _ z, st_n _ _ z]; have w := h1 u a0 (by omega); exact ⟨Or.inl w.1, w.2⟩
  · rw [st_n _ _ (show u ≠ un from by omega)]
    by_cases z : v = un
    · rw [z, st_s]; exact li _ (h1 u a0 (by omega)).1
    · rw [st_n _ _ z]; exact h2 u v a0 b0 (by omega)
  · rcases hr with q | q
    · obtain ⟨u, u1, u2, u3⟩ := h3 r q r1 r2
      exact ⟨u, u1, by omega, by rw [st_n _ _ (show u ≠ un from by omega)]; exact u3⟩
    · exact ⟨un, u0, by omega, by rw [st_s]; exact q.symm⟩
/-- the name that is found as the first asked for isn't that of a rule's sort -/
def g_p1 (σ : S0) (r : Int) : Prop := ∀ n : Int, 0 ≤ n → n < σ.1 3 → j_sp σ n → (∀ m : Int, n < m → m < σ.1 3 → ¬ j_sp σ m) → σ.2.1 4 n < 0 → σ.2.1 8 (-1 - σ.2.1 4 n) = 0 → σ.2.1 15 (σ.2.1 14 r) ≠ -1 - σ.2.1 4 n
theorem g_p1_e {σ τ : S0} (w3 : τ.1 3 = σ.1 3) (g2 : τ.2.1 2 = σ.2.1 2) (g3 : τ.2.1 3 = σ.2.1 3) (g4 : τ.2.1 4 = σ.2.1 4) (g8 : τ.2.1 8 = σ.2.1 8) (g14 : τ.2.1 14 = σ.2.1 14) (g15 : τ.2.1 15 = σ.2.1 15) {r : Int} (h : g_p1 σ r) : g_p1 τ r := by
  unfold g_p1 at h ⊢
  intro n n0 n1 s f m v
  rw [g4] at m v ⊢; rw [g8] at v; rw [g14, g15]
  exact h n n0 (by omega) ((j_sp_e g2 g3 n).mp s) (fun k k0 k1 q => f k k0 (by omega) ((j_sp_e g2 g3 k).mpr q)) m v
theorem sm_ge {f : Int → Int} : ∀ n : Nat, (∀ e : Int, 0 ≤ e → e < (n : Int) → 1 ≤ f e) → (n : Int) ≤ smN f n
  | 0, _ => by
    show (0 : Int) ≤ 0
    omega
  | n + 1, h => by
    have a := sm_ge n (fun e x y => h e x (by omega))
    have b := h (n : Int) (by omega) (by omega)
    show ((n + 1 : Nat) : Int) ≤ smN f n + f (n : Int)
    omega
/-- symbols of a rule that are variables -/
def g_cv (a fl : Int → Int) (r j : Int) : Int := if fl (a r + j) = -1 then 0 else 1
/-- no variable stands twice in a rule -/
def g_nv (r : Int) (a tx fl : Int → Int) : Prop := ∀ j k : Int, 0 ≤ j → j < k → k < a (r + 1) - a r - 1 → ¬ fl (a r + 1 + j) = -1 → ¬ fl (a r + 1 + k) = -1 → tx (a r + 1 + j) ≠ tx (a r + 1 + k)
theorem g_nv_of {n us hu pr ru M : Int} {kd a tx fl rk fa fs hy pa ps pq ra rc rs ca ch : Int → Int} (h : J_all n us hu pr ru kd a tx fl rk fa fs hy pa ps pq ra rc rs ca ch) (M0 : 0 ≤ M) (M1 : M < n) (rf : g_rf M kd a fa fs hy) (f0 : 0 ≤ fs M) (cnt : sm (g_cv a fl M) (a (M + 1) - a M) = fs M) : g_nv M a tx fl := by
  obtain ⟨r1, r2, r3, r4⟩ := rf
  have J := h.1 M M0 M1
  have jt := J.1
  obtain ⟨f1, f2, f3, f4, f5, f6⟩ := J.2.1 (by omega)
  have no : ∀ k : Int, 0 ≤ k → k < fs M → ∃ p : Int, a M ≤ p ∧ p < a (M + 1) ∧ 0 ≤ fl p ∧ tx p = tx (a (hy (fa M + k)) + 1) := fun k a0 b0 => by
    rcases f5 with ⟨x, x0, x1, x2⟩ | q
    · have := r4 x x0 x1; omega
    · exact (q k a0 b0).2
  have ex : ∀ k : Int, ∃ o : Int, 0 ≤ k → k < fs M → (0 ≤ o ∧ o < a (M + 1) - a M) ∧ 0 ≤ fl (a M + o) ∧ tx (a M + o) = tx (a (hy (fa M + k)) + 1) := fun k => by
    by_cases z : 0 ≤ k ∧ k < fs M
    · obtain ⟨p, p0, p1, p2, p3⟩ := no k z.1 z.2
      exact ⟨p - a M, fun _ _ => by rw [show a M + (p - a M) = p from by omega]; exact ⟨by omega, p2, p3⟩⟩
    · exact ⟨0, fun x y => absurd ⟨x, y⟩ z⟩
  obtain ⟨o, ho⟩ := Classical.axiomOfChoice ex
  have inj : ∀ x y : Int, 0 ≤ x → x < y → y < fs M → o x ≠ o y := fun x y x0 xy y1 q => by
    have hx := (ho x x0 (by omega)).2.2
    have hy' := (ho y (by omega) y1).2.2
    exact f6 y x x0 xy y1 (r4 x x0 (by omega)) (r4 y (by omega) y1) (by rw [← hx, ← hy', q])
  -- a place that no hypothesis has: too few are left
  have miss : ∀ p : Int, 0 ≤ p → p < a (M + 1) - a M → ¬ fl (a M + p) = -1 → (∀ k : Int, 0 ≤ k → k < fs M → o k ≠ p) → False := fun p p0 p1 pv nk => by
    have b := sm_i (f := o) (w := st (g_cv a fl M) p 0) (n := a (M + 1) - a M) (m := fs M) (by omega) (fun r a0 b0 => by
      by_cases z : r = p
      · rw [z, st_s]; exact Int.le_refl _
      · rw [st_n _ _ z]; unfold g_cv
        by_cases y : fl (a M + r) = -1
        · rw [if_pos y]; exact Int.le_refl _
        · rw [if_neg y]; decide) (fun k a0 b0 => (ho k a0 b0).1) (fun x y x0 xy y1 q => absurd q (inj x y x0 xy y1))
    rw [sm_z _ p0 p1, cnt] at b
    have c : g_cv a fl M p = 1 := by unfold g_cv; rw [if_neg pv]
    have d := sm_ge (f := fun k => st (g_cv a fl M) p 0 (o k)) (fs M).toNat (fun k a0 b0 => by
      have w := ho k a0 (by omega)
      show 1 ≤ st (g_cv a fl M) p 0 (o k)
      rw [st_n _ _ (nk k a0 (by omega))]
      unfold g_cv
      rw [if_neg (by omega)]; exact Int.le_refl _)
    have e : sm (fun k => st (g_cv a fl M) p 0 (o k)) (fs M) = smN (fun k => st (g_cv a fl M) p 0 (o k)) (fs M).toNat := rfl
    omega
  intro j k j0 jk k1 vj vk eq
  have hyp : ∀ p : Int, a M ≤ p → p < a (M + 1) → ¬ fl p = -1 → ∃ x : Int, 0 ≤ x ∧ x < fs M ∧ tx (a (hy (fa M + x)) + 1) = tx p := fun p p0 p1 pv => by
    rcases jt.2.2 p p0 p1 with q | ⟨q1, q2, q3, q4⟩
    · exact absurd q pv
    · obtain ⟨x, x0, x1, x2⟩ := f3 p p0 p1 q1
      exact ⟨x, x0, x1, by rw [x2]; exact q4⟩
  have only : ∀ p : Int, a M ≤ p → p < a (M + 1) → ¬ fl p = -1 → ∃ x : Int, 0 ≤ x ∧ x < fs M ∧ o x = p - a M ∧ tx (a (hy (fa M + x)) + 1) = tx p := fun p p0 p1 pv => by
    by_cases z : ∀ x : Int, 0 ≤ x → x < fs M → o x ≠ p - a M
    · exact (miss (p - a M) (by omega) (by omega) (by rw [show a M + (p - a M) = p from by omega]; exact pv) z).elim
    · by_cases y : ∃ x : Int, 0 ≤ x ∧ x < fs M ∧ o x = p - a M
      · obtain ⟨x, x0, x1, x2⟩ := y
        have w := (ho x x0 x1).2.2
        rw [x2, show a M + (p - a M) = p from by omega] at w
        exact ⟨x, x0, x1, x2, w.symm⟩
      · exact absurd (fun x x0 x1 q => y ⟨x, x0, x1, q⟩) z
  obtain ⟨x, x0, x1, x2, x3⟩ := only (a M + 1 + j) (by omega) (by omega) vj
  obtain ⟨y, y0, y1, y2, y3⟩ := only (a M + 1 + k) (by omega) (by omega) vk
  rcases Int.lt_trichotomy x y with z | z | z
  · exact f6 y x x0 z y1 (r4 x x0 x1) (r4 y y0 y1) (by rw [x3, y3, eq])
  · rw [z] at x2; omega
  · exact f6 x y y0 z x1 (r4 y y0 y1) (r4 x x0 x1) (by rw [x3, y3, eq])
def c_Ug (k : Int) (σ : S0) (par nof : Int → Int) (In : Int → Prop) : Prop := g_tr (σ.1 45) (σ.2.1 67) (σ.2.1 68) (σ.2.1 69) (σ.2.1 73) (σ.2.1 74) par ∧ g_ru k (σ.1 45) (σ.2.1 13) (σ.2.1 14) (σ.2.1 15) (σ.2.1 16) (σ.2.1 10) (σ.2.1 27) (σ.2.1 28) (σ.2.1 29) (σ.2.1 69) (σ.2.1 70) (σ.2.1 71) (σ.2.1 72) par nof In ∧ g_un (σ.1 46) k (σ.2.1 14) (σ.2.1 15) (σ.2.1 16) (σ.2.1 10) (σ.2.1 75) (σ.2.1 76) In ∧ (∀ r : Int, In r → g_p1 σ r ∧ g_nv r (σ.2.1 14) (σ.2.1 15) (σ.2.1 16)) ∧ ∀ c : Int, 1 ≤ c → c < σ.1 45 → σ.2.1 69 c < 0 → -1 - σ.2.1 69 c < σ.1 4
def c_Uk (k : Int) (In0 : Int → Prop) (σ : S0) : Prop := ∃ par nof : Int → Int, ∃ In : Int → Prop, c_Ug k σ par nof In ∧ ∀ r : Int, In0 r → In r
theorem c_Uk_w {k k' : Int} {In0 : Int → Prop} {σ : S0} (h : c_Uk k In0 σ) (l : k ≤ k') : c_Uk k' In0 σ := by
  obtain ⟨par, nof, In, ⟨h1, h2, h3, h4, h5⟩, h6⟩ := h
  exact ⟨par, nof, In, ⟨h1, g_ru_w h2 l, g_un_w h3 l, h4, h5⟩, h6⟩
/-- the path of the rule that is taken in, so far -/
def c_Up (i m node : Int) (σ : S0) (nof : Int → Int) (In : Int → Prop) : Prop := ∃ par : Int → Int, c_Ug i σ par nof In ∧ (0 ≤ node ∧ node < σ.1 45) ∧ g_pa i m (σ.1 45) node (σ.2.1 14) (σ.2.1 15) (σ.2.1 16) (σ.2.1 10) (σ.2.1 69) (σ.2.1 70) par
theorem c_Ug_e {k : Int} {σ τ : S0} {par nof : Int → Int} {In : Int → Prop} (h : c_Ug k σ par nof In) (w : ∀ i, i ∈ [3, 4, 45, 46] → τ.1 i = σ.1 i) (g : ∀ i, i ∈ [2, 3, 4, 8, 10, 13, 14, 15, 16, 27, 28, 29, 67, 68, 69, 70, 71, 72, 73, 74, 75, 76] → τ.2.1 i = σ.2.1 i) : c_Ug k τ par nof In := by
  obtain ⟨h1, h2, h3, h4, h5⟩ := h
  refine ⟨?_, ?_, ?_, fun r hr => ⟨g_p1_e (w 3 (by decide)) (g 2 (by decide)) (g 3 (by decide)) (g 4 (by decide)) (g 8 (by decide)) (g 14 (by decide)) (g 15 (by decide)) (h4 r hr).1, by rw [g 14 (by decide), g 15 (by decide), g 16 (by decide)]; exact (h4 r hr).2⟩, by rw [w 45 (by decide), w 4 (by decide), g 69 (by decide)]; exact h5⟩
  · rw [w 45 (by decide), g 67 (by decide), g 68 (by decide), g 69 (by decide), g 73 (by decide), g 74 (by decide)]; exact h1
  · rw [w 45 (by decide), g 13 (by decide), g 14 (by decide), g 15 (by decide), g 16 (by decide), g 10 (by decide), g 27 (by decide), g 28 (by decide), g 29 (by decide), g 69 (by decide), g 70 (by decide), g 71 (by decide), g 72 (by decide)]; exact h2
  · rw [w 46 (by decide), g 14 (by decide), g 15 (by decide), g 16 (by decide), g 10 (by decide), g 75 (by decide), g 76 (by decide)]; exact h3
theorem c_Uk_e {k : Int} {In0 : Int → Prop} {σ τ : S0} (h : c_Uk k In0 σ) (w : ∀ i, i ∈ [3, 4, 45, 46] → τ.1 i = σ.1 i) (g : ∀ i, i ∈ [2, 3, 4, 8, 10, 13, 14, 15, 16, 27, 28, 29, 67, 68, 69, 70, 71, 72, 73, 74, 75, 76] → τ.2.1 i = σ.2.1 i) : c_Uk k In0 τ := by
  obtain ⟨par, nof, In, h, h6⟩ := h
  exact ⟨par, nof, In, c_Ug_e h w g, h6⟩
theorem c_Uk_h {k : Int} {In0 : Int → Prop} {σ τ : S0} {wv wa wb : List Nat} (h : c_Uk k In0 σ) (hf : f_r wv wa wb σ τ) (d : ([3, 4, 45, 46].all (fun i => !wv.contains i) && [2, 3, 4, 8, 10, 13, 14, 15, 16, 27, 28, 29, 67, 68, 69, 70, 71, 72, 73, 74, 75, 76].all (fun k => !wa.contains k)) = true) : c_Uk k In0 τ := by
  have d1 := (Bool.and_eq_true _ _ ▸ d).1
  have d2 := (Bool.and_eq_true _ _ ▸ d).2
  exact c_Uk_e h (fun i hi => hf.1 i (by have := List.all_eq_true.mp d1 i hi; simpa using this)) (fun k hk => hf.2.1 k (by have := List.all_eq_true.mp d2 k hk; simpa using this))
/-- a node further -/
theorem c_Up_s {i m node x ke : Int} {σ τ : S0} {nof : Int → Int} {In : Int → Prop} (h : c_Up i m node σ nof In) (i0 : 0 ≤ i) (m0 : 0 ≤ m) (n4 : τ.1 45 ≤ 30001)
    (ch : ∀ par : Int → Int, g_tr (σ.1 45) (σ.2.1 67) (σ.2.1 68) (σ.2.1 69) (σ.2.1 73) (σ.2.1 74) par → ∃ par2 : Int → Int, g_tr (τ.1 45) (τ.2.1 67) (τ.2.1 68) (τ.2.1 69) (τ.2.1 73) (τ.2.1 74) par2 ∧ g_ch (σ.1 45) (τ.1 45) node ke i x (σ.2.1 69) (σ.2.1 70) (τ.2.1 69) (τ.2.1 70) par par2)
    (hk : ke = j_sk (σ.2.1 14) (σ.2.1 15) (σ.2.1 16) (σ.2.1 10) i m) (kr : ke < 0 → -1 - ke < σ.1 4) (w : ∀ i, i ∈ [3, 4, 46] → τ.1 i = σ.1 i) (g : ∀ i, i ∈ [2, 3, 4, 8, 10, 13, 14, 15, 16, 27, 28, 29, 71, 72, 75, 76] → τ.2.1 i = σ.2.1 i) : c_Up i (m + 1) x τ nof In := by
  obtain ⟨par, ⟨h1, h2, h3, h4, h5⟩, hn, hp⟩ := h
  obtain ⟨par2, c1, c2⟩ := ch par h1
  have c2' := c2
  obtain ⟨⟨d1, d2⟩, ⟨d3, d4⟩, d5, d6, d7, d8⟩ := c2'
  refine ⟨par2, ⟨c1, ?_, ?_, fun r hr => ⟨g_p1_e (w 3 (by decide)) (g 2 (by decide)) (g 3 (by decide)) (g 4 (by decide)) (g 8 (by decide)) (g 14 (by decide)) (g 15 (by decide)) (h4 r hr).1, by rw [g 14 (by decide), g 15 (by decide), g 16 (by decide)]; exact (h4 r hr).2⟩, fun c a b z => ?_⟩, by omega, ?_⟩
  · rw [g 13 (by decide), g 14 (by decide), g 15 (by decide), g 16 (by decide), g 10 (by decide), g 27 (by decide), g 28 (by decide), g 29 (by decide), g 71 (by decide), g 72 (by decide)]
    refine g_ru_x h2 d1 n4 d8 (fun c a b => ?_) i0
    rcases d7 with q | q
    · omega
    · rw [show c = x from by omega, q.2]; exact Int.le_refl _
  · rw [w 46 (by decide), g 14 (by decide), g 15 (by decide), g 16 (by decide), g 10 (by decide), g 75 (by decide), g 76 (by decide)]; exact h3
  · rw [w 4 (by decide)]
    by_cases y : c < σ.1 45
    · rw [(d8 c y).2.1] at z ⊢; exact h5 c a y z
    · have xe : c = x := by rcases d7 with q | q <;> omega
      rw [xe, d6] at z ⊢; exact kr z
  · rw [g 14 (by decide), g 15 (by decide), g 16 (by decide), g 10 (by decide)]
    rw [hk] at c2
    exact g_pa_s hp m0 c2 h2.2.2.1
theorem c_Up_b {i m node : Int} {σ : S0} {nof : Int → Int} {In : Int → Prop} (h : c_Up i m node σ nof In) : 0 ≤ node ∧ node < σ.1 45 := by
  obtain ⟨_, _, h2, _⟩ := h
  exact h2
/-- a constant that is found by the first name asked for -/
def g_pe (σ : S0) (x : Int) : Prop := ∃ n : Int, (0 ≤ n ∧ n < σ.1 3) ∧ j_sp σ n ∧ (∀ m : Int, n < m → m < σ.1 3 → ¬ j_sp σ m) ∧ σ.2.1 4 n = -1 - x ∧ σ.2.1 8 x = 0
theorem g_pe_e {σ τ : S0} {x : Int} (w3 : τ.1 3 = σ.1 3) (g2 : τ.2.1 2 = σ.2.1 2) (g3 : τ.2.1 3 = σ.2.1 3) (g4 : τ.2.1 4 = σ.2.1 4) (g8 : τ.2.1 8 = σ.2.1 8) (h : g_pe σ x) : g_pe τ x := by
  obtain ⟨n, ⟨a, b⟩, c, d, e, f⟩ := h
  exact ⟨n, ⟨a, by omega⟩, (j_sp_e g2 g3 n).mpr c, fun m m0 m1 q => d m m0 (by omega) ((j_sp_e g2 g3 m).mp q), by rw [g4]; exact e, by rw [g8]; exact f⟩
theorem g_p1_x {σ : S0} {r x : Int} (h : g_p1 σ r) (p : x = -1 ∨ g_pe σ x) (t0 : 0 ≤ σ.2.1 15 (σ.2.1 14 r)) (x0 : -1 ≤ x) : σ.2.1 15 (σ.2.1 14 r) ≠ x := by
  rcases p with p | ⟨n, ⟨a, b⟩, c, d, e, f⟩
  · omega
  · by_cases z : x = -1
    · omega
    · have w := h n a b c d (by omega) (by rw [e, show -1 - (-1 - x) = x from by omega]; exact f)
      rw [e] at w; omega
/-- name n is the second name that the grammar asks for -/
def j_sw (σ : S0) (n : Int) : Prop := c_eq (σ.2.1 2) (σ.2.1 3) n t_2 0 3
def g_we (σ : S0) (x : Int) : Prop := ∃ n : Int, (0 ≤ n ∧ n < σ.1 3) ∧ j_sw σ n ∧ (∀ m : Int, n < m → m < σ.1 3 → ¬ j_sw σ m) ∧ σ.2.1 4 n = -1 - x ∧ σ.2.1 8 x = 0
/-- a constant that is found by the second name asked for is found again -/
def g_wf (σ : S0) (x : Int) : Prop := ∀ w : Int, 0 ≤ w → g_we σ w → x = w
/-- and so is one by the first name -/
def g_pvf (σ : S0) (x : Int) : Prop := ∀ w : Int, 0 ≤ w → g_pe σ w → x = w
theorem g_pvf_e {σ τ : S0} {x : Int} (w3 : τ.1 3 = σ.1 3) (g2 : τ.2.1 2 = σ.2.1 2) (g3 : τ.2.1 3 = σ.2.1 3) (g4 : τ.2.1 4 = σ.2.1 4) (g8 : τ.2.1 8 = σ.2.1 8) (h : g_pvf σ x) : g_pvf τ x := fun w a b => h w a (g_pe_e w3.symm g2.symm g3.symm g4.symm g8.symm b)
theorem g_we_e {σ τ : S0} {x : Int} (w3 : τ.1 3 = σ.1 3) (g2 : τ.2.1 2 = σ.2.1 2) (g3 : τ.2.1 3 = σ.2.1 3) (g4 : τ.2.1 4 = σ.2.1 4) (g8 : τ.2.1 8 = σ.2.1 8) : g_we τ x ↔ g_we σ x := by
  unfold g_we j_sw
  rw [w3, g2, g3, g4, g8]
theorem g_wf_e {σ τ : S0} {x : Int} (w3 : τ.1 3 = σ.1 3) (g2 : τ.2.1 2 = σ.2.1 2) (g3 : τ.2.1 3 = σ.2.1 3) (g4 : τ.2.1 4 = σ.2.1 4) (g8 : τ.2.1 8 = σ.2.1 8) (h : g_wf σ x) : g_wf τ x := fun w a b => h w a ((g_we_e w3 g2 g3 g4 g8).mp b)
/-- the rule is taken in -/
theorem c_Up_e {i node : Int} {σ τ : S0} {nof : Int → Int} {In In0 : Int → Prop} (h : c_Up i (σ.2.1 14 (i + 1) - σ.2.1 14 i - 1) node σ nof In) (i0 : 0 ≤ i) (u0 : 0 ≤ σ.1 46) (rf : g_rf i (σ.2.1 13) (σ.2.1 14) (σ.2.1 27) (σ.2.1 28) (σ.2.1 29)) (p1 : g_p1 σ i) (nv : g_nv i (σ.2.1 14) (σ.2.1 15) (σ.2.1 16)) (h0 : ∀ r : Int, In0 r → In r) (e71 : τ.2.1 71 = st (σ.2.1 71) node (i + 1)) (e72 : τ.2.1 72 = st (σ.2.1 72) i (σ.2.1 71 node))
    (w : ∀ i, i ∈ [3, 4, 45] → τ.1 i = σ.1 i) (g : ∀ i, i ∈ [2, 3, 4, 8, 10, 13, 14, 15, 16, 27, 28, 29, 67, 68, 69, 70, 73, 74] → τ.2.1 i = σ.2.1 i)
    (un : (¬ (σ.2.1 14 (i + 1) = σ.2.1 14 i + 2 ∧ σ.2.1 16 (σ.2.1 14 i + 1) ≠ -1) ∧ τ.1 46 = σ.1 46 ∧ τ.2.1 75 = σ.2.1 75 ∧ τ.2.1 76 = σ.2.1 76) ∨ (σ.2.1 14 (i + 1) = σ.2.1 14 i + 2 ∧ 0 ≤ σ.2.1 16 (σ.2.1 14 i + 1) ∧ τ.1 46 = σ.1 46 + 1 ∧ τ.2.1 75 = st (σ.2.1 75) (σ.1 46) i ∧ τ.2.1 76 = st (σ.2.1 76) (σ.1 46) (σ.2.1 10 (σ.2.1 15 (σ.2.1 14 (σ.2.1 16 (σ.2.1 14 i + 1))))))) : c_Uk (i + 1) In0 τ := by
  obtain ⟨par, ⟨h1, h2, h3, h4, h5⟩, hn, hp⟩ := h
  have pe : ∀ r, g_p1 σ r → g_p1 τ r := fun r hr => g_p1_e (w 3 (by decide)) (g 2 (by decide)) (g 3 (by decide)) (g 4 (by decide)) (g 8 (by decide)) (g 14 (by decide)) (g 15 (by decide)) hr
  refine ⟨par, st nof i node, fun r => In r ∨ r = i, ⟨?_, ?_, ?_, fun r hr => ?_, by rw [w 45 (by decide), w 4 (by decide), g 69 (by decide)]; exact h5⟩, fun r q => Or.inl (h0 r q)⟩
  · rw [w 45 (by decide), g 67 (by decide), g 68 (by decide), g 69 (by decide), g 73 (by decide), g 74 (by decide)]; exact h1
  · rw [w 45 (by decide), g 13 (by decide), g 14 (by decide), g 15 (by decide), g 16 (by decide), g 10 (by decide), g 27 (by decide), g 28 (by decide), g 29 (by decide), g 69 (by decide), g 70 (by decide), e71, e72]
    exact g_ru_a h2 i0 hn.1 hn.2 rf hp
  · rw [g 14 (by decide), g 15 (by decide), g 16 (by decide), g 10 (by decide)]
    rcases un with ⟨u1, u2, u3, u4⟩ | ⟨u1, u2, u3, u4, u5⟩
    · rw [u2, u3, u4]; exact g_un_o h3 u1
    · rw [u3, u4, u5]; exact g_un_a h3 u0 (fun r hr => (h2.2.1 r hr).1.2) u1 u2 rfl
  · rw [g 14 (by decide), g 15 (by decide), g 16 (by decide)]
    rcases hr with q | q
    · exact ⟨pe r (h4 r q).1, (h4 r q).2⟩
    · rw [q]; exact ⟨pe i p1, nv⟩
set_option maxHeartbeats 1000000 in
theorem K2_X0_hasEssential {n1 : Int} {σ : S0} (hT : c_T σ) (p1 : 0 ≤ n1) (p2 : n1 < 1500) (p3 : σ.2.1 27 n1 + σ.2.1 28 n1 ≤ 90000) : W_X0_hasEssential n1 σ (fun (x : Int) => (0 ≤ x ∧ x ≤ 1) ∧ (x = 0 → ∀ k : Int, 0 ≤ k → k < σ.2.1 28 n1 → ¬ σ.2.1 13 (σ.2.1 29 (σ.2.1 27 n1 + k)) = 1)) := by
  have A13 : ∀ j, 0 ≤ σ.2.1 13 j ∧ σ.2.1 13 j ≤ 4 := fun j => hT.2 13 j
  have A27 : ∀ j, 0 ≤ σ.2.1 27 j ∧ σ.2.1 27 j ≤ 90000 := fun j => hT.2 27 j
  have A28 : ∀ j, 0 ≤ σ.2.1 28 j ∧ σ.2.1 28 j ≤ 60 := fun j => hT.2 28 j
  have A29 : ∀ j, 0 ≤ σ.2.1 29 j ∧ σ.2.1 29 j ≤ 1499 := fun j => hT.2 29 j
  intro P2 h2
  have l_2 : ∀ (m_2 : Nat) (u2_2 : Int), 61 - u2_2 < (m_2 : Int) → (0 ≤ u2_2) → (u2_2 ≤ 60) → (∀ k : Int, 0 ≤ k → k < u2_2 → ¬ σ.2.1 13 (σ.2.1 29 (σ.2.1 27 n1 + k)) = 1) → P2 n1 u2_2 := by
    intro m_2
    induction m_2 with
    | zero =>
      intro u2_2 hm i2_1 i2_2 i2_3
      exfalso; (first | omega | (simp only [st_s] <;> omega) | assumption | omega | fail)
    | succ m_2 ih_2 =>
      intro u2_2 hm_2 i2_1 i2_2 i2_3
      refine h2 n1 u2_2 ?_
      refine ⟨(show 0 ≤ n1 ∧ n1 < 1500 from by (first | omega | (simp only [st_s] <;> omega) | assumption | omega | fail)), ?_⟩
      intro x2 r_x2 e_x2
      have b_x2 : 0 ≤ x2 ∧ x2 ≤ 60 := by rw [e_x2]; exact hT.2 28 _
      refine ⟨fun c3 => ?_, fun c3 => ?_⟩
      ·
        exact ⟨(show 0 ≤ 0 ∧ 0 ≤ 1 from by (first | omega | (simp only [st_s] <;> omega) | assumption | omega | fail)), (show 0 = 0 → ∀ k : Int, 0 ≤ k → k < σ.2.1 28 n1 → ¬ σ.2.1 13 (σ.2.1 29 (σ.2.1 27 n1 + k)) = 1 from by (first | (intro z; exfalso; omega) | (intro _ k a b; exact i2_3 k a (by omega)) | fail))⟩
      ·
        intro x4 r_x4 e_x4
        have b_x4 : 0 ≤ x4 ∧ x4 ≤ 90000 := by rw [e_x4]; exact hT.2 27 _
        refine ⟨(show 0 ≤ (x4 + u2_2) ∧ (x4 + u2_2) < 90000 from by (first | omega | (simp only [st_s] <;> omega) | assumption | omega | fail)), ?_⟩
        intro x6 r_x6 e_x6
        have b_x6 : 0 ≤ x6 ∧ x6 ≤ 1499 := by rw [e_x6]; exact hT.2 29 _
        refine ⟨(show 0 ≤ x6 ∧ x6 < 1500 from by (first | omega | (simp only [st_s] <;> omega) | assumption | omega | fail)), ?_⟩
        intro x8 r_x8 e_x8
        have b_x8 : 0 ≤ x8 ∧ x8 ≤ 4 := by rw [e_x8]; exact hT.2 13 _
        refine ⟨fun c9 => ?_, fun c9 => ?_⟩
        ·
          refine ⟨(⟨by (first | omega | (simp only [st_s] <;> omega) | assumption | omega | fail), by (first | omega | (simp only [st_s] <;> omega) | assumption | omega | fail)⟩ : rg (u2_2 + 1)), ?_⟩
          exact ih_2 _ (show (61 - (u2_2 + 1) : Int) < ((m_2 : Nat) : Int) from by ((first | omega | (simp only [st_s] <;> omega) | assumption | omega | fail))) (show 0 ≤ (u2_2 + 1) from by (first | omega | (simp only [st_s] <;> omega) | assumption | omega | fail)) (show (u2_2 + 1) ≤ 60 from by (first | omega | (simp only [st_s] <;> omega) | assumption | omega | fail)) (show ∀ k : Int, 0 ≤ k → k < (u2_2 + 1) → ¬ σ.2.1 13 (σ.2.1 29 (σ.2.1 27 n1 + k)) = 1 from by (first | (intro k a b; exfalso; omega) | (intro k a b; by_cases z : k = u2_2; (rw [z]; first | (rw [← e_x4, ← e_x6, ← e_x8]; assumption) | (rw [← e_x5, ← e_x7, ← e_x9]; assumption)); exact i2_3 k a (by omega)) | fail))
        ·
          exact ⟨(show 0 ≤ 1 ∧ 1 ≤ 1 from by (first | omega | (simp only [st_s] <;> omega) | assumption | omega | fail)), (show 1 = 0 → ∀ k : Int, 0 ≤ k → k < σ.2.1 28 n1 → ¬ σ.2.1 13 (σ.2.1 29 (σ.2.1 27 n1 + k)) = 1 from by (first | (intro z; exfalso; omega) | (intro _ k a b; exact i2_3 k a (by omega)) | fail))⟩
  exact l_2 ((61 - 0 : Int).toNat + 1) _ (show (61 - 0 : Int) < (((61 - 0 : Int).toNat + 1 : Nat) : Int) from by ((first | omega | (simp only [st_s] <;> omega) | assumption | omega | fail))) (show 0 ≤ 0 from by (first | omega | (simp only [st_s] <;> omega) | assumption | omega | fail)) (show 0 ≤ 60 from by (first | omega | (simp only [st_s] <;> omega) | assumption | omega | fail)) (show ∀ k : Int, 0 ≤ k → k < 0 → ¬ σ.2.1 13 (σ.2.1 29 (σ.2.1 27 n1 + k)) = 1 from by (first | (intro k a b; exfalso; omega) | (intro k a b; by_cases z : k = u2_2; (rw [z]; first | (rw [← e_x4, ← e_x6, ← e_x8]; assumption) | (rw [← e_x5, ← e_x7, ← e_x9]; assumption)); exact i2_3 k a (by omega)) | fail))
set_option maxHeartbeats 1000000 in
theorem K3_X3_symbolOf {n1 : Int} {σ : S0} (hT : c_T σ) (p1 : -1 ≤ n1) (p2 : n1 < (σ.1 3)) (p3 : J_mn (σ.1 3) (σ.1 5) ((σ.1 7) + 1) (σ.2.1 4)) : W_X3_symbolOf n1 σ (fun (x : Int) => (-1 ≤ x ∧ x ≤ 999) ∧ (x < (σ.1 5)) ∧ (0 ≤ n1 → x = -1 ∨ x = -1 - σ.2.1 4 n1) ∧ (0 ≤ n1 → σ.2.1 4 n1 < 0 → x = -1 - σ.2.1 4 n1) ∧ (n1 = -1 → x = -1)) := by
  have A4 : ∀ j, (-1000) ≤ σ.2.1 4 j ∧ σ.2.1 4 j ≤ 1499 := fun j => hT.2 4 j
  have v3 : 0 ≤ σ.1 3 ∧ σ.1 3 ≤ 2500 := hT.1 3
  have v5 : 0 ≤ σ.1 5 ∧ σ.1 5 ≤ 1000 := hT.1 5
  have v7 : 0 ≤ σ.1 7 ∧ σ.1 7 ≤ 1500 := hT.1 7
  have MN : J_mn (σ.1 3) (σ.1 5) ((σ.1 7) + 1) (σ.2.1 4) := p3
  have MN_0 := MN
  unfold W_X3_symbolOf
  refine ⟨fun c1 => ?_, fun c1 => ?_⟩
  ·
    have mm := p3 n1 (by omega) (by omega)
    refine ⟨(show 0 ≤ n1 ∧ n1 < 2500 from by (first | omega | (simp only [st_s] <;> omega) | assumption | omega | fail)), ?_⟩
    intro x3 r_x3 e_x3
    have b_x3 : (-1000) ≤ x3 ∧ x3 ≤ 1499 := by rw [e_x3]; exact hT.2 4 _
    intro x4 r_x4 h1_x4 h2_x4 h3_x4
    exact ⟨(show -1 ≤ x4 ∧ x4 ≤ 999 from by (first | omega | (simp only [st_s] <;> omega) | assumption | omega | fail)), (show x4 < (σ.1 5) from by (first | omega | (simp only [st_s] <;> omega) | assumption | omega | fail)), (show 0 ≤ n1 → x4 = -1 ∨ x4 = -1 - σ.2.1 4 n1 from by (first | omega | (simp only [st_s] <;> omega) | assumption | omega | fail)), (show 0 ≤ n1 → σ.2.1 4 n1 < 0 → x4 = -1 - σ.2.1 4 n1 from by (first | omega | (simp only [st_s] <;> omega) | assumption | omega | fail)), (show n1 = -1 → x4 = -1 from by (first | omega | (simp only [st_s] <;> omega) | assumption | omega | fail))⟩
  ·
    exact ⟨(show -1 ≤ (-1) ∧ (-1) ≤ 999 from by (first | omega | (simp only [st_s] <;> omega) | assumption | omega | fail)), (show (-1) < (σ.1 5) from by (first | omega | (simp only [st_s] <;> omega) | assumption | omega | fail)), (show 0 ≤ n1 → (-1) = -1 ∨ (-1) = -1 - σ.2.1 4 n1 from by (first | omega | (simp only [st_s] <;> omega) | assumption | omega | fail)), (show 0 ≤ n1 → σ.2.1 4 n1 < 0 → (-1) = -1 - σ.2.1 4 n1 from by (first | omega | (simp only [st_s] <;> omega) | assumption | omega | fail)), (show n1 = -1 → (-1) = -1 from by (first | omega | (simp only [st_s] <;> omega) | assumption | omega | fail))⟩
set_option maxHeartbeats 1000000 in
theorem K2_X3_symbolNamed_t1 {n2 : Int} {n3 : Int} {σ : S0} (hT : c_T σ) (p1 : n2 = 0) (p2 : n3 = 2) (p3 : J_ht (σ.1 3) (σ.2.1 2) (σ.2.1 3) (σ.2.1 5) (σ.2.1 6)) (p4 : J_mn (σ.1 3) (σ.1 5) ((σ.1 7) + 1) (σ.2.1 4)) : W_X3_symbolNamed_t1 n2 n3 σ (fun (x : Int) => (-1 ≤ x ∧ x ≤ 999) ∧ (x < (σ.1 5)) ∧ (∀ n : Int, 0 ≤ n → n < (σ.1 3) → j_sp σ n → (∀ m : Int, n < m → m < (σ.1 3) → ¬ j_sp σ m) → σ.2.1 4 n < 0 → x = -1 - σ.2.1 4 n) ∧ (x = -1 ∨ ∃ n : Int, (0 ≤ n ∧ n < (σ.1 3)) ∧ j_sp σ n ∧ (∀ m : Int, n < m → m < (σ.1 3) → ¬ j_sp σ m) ∧ σ.2.1 4 n = -1 - x)) := by
  have A2 : ∀ j, 0 ≤ σ.2.1 2 j ∧ σ.2.1 2 j ≤ 65535 := fun j => hT.2 2 j
  have A3 : ∀ j, 0 ≤ σ.2.1 3 j ∧ σ.2.1 3 j ≤ 30000 := fun j => hT.2 3 j
  have A4 : ∀ j, (-1000) ≤ σ.2.1 4 j ∧ σ.2.1 4 j ≤ 1499 := fun j => hT.2 4 j
  have A5 : ∀ j, 0 ≤ σ.2.1 5 j ∧ σ.2.1 5 j ≤ 2500 := fun j => hT.2 5 j
  have A6 : ∀ j, 0 ≤ σ.2.1 6 j ∧ σ.2.1 6 j ≤ 2500 := fun j => hT.2 6 j
  have v3 : 0 ≤ σ.1 3 ∧ σ.1 3 ≤ 2500 := hT.1 3
  have v5 : 0 ≤ σ.1 5 ∧ σ.1 5 ≤ 1000 := hT.1 5
  have v7 : 0 ≤ σ.1 7 ∧ σ.1 7 ≤ 1500 := hT.1 7
  have HT : J_ht (σ.1 3) (σ.2.1 2) (σ.2.1 3) (σ.2.1 5) (σ.2.1 6) := p3
  have MN : J_mn (σ.1 3) (σ.1 5) ((σ.1 7) + 1) (σ.2.1 4) := p4
  have HT_0 := HT
  have MN_0 := MN
  unfold W_X3_symbolNamed_t1
  refine ⟨_, K2_X3_nameOf_t1 hT (show 0 ≤ n2 from by (first | omega | (simp only [st_s] <;> omega) | assumption | omega | fail)) (show n2 + n3 ≤ 2 from by (first | omega | (simp only [st_s] <;> omega) | assumption | omega | fail)) (show J_ht (σ.1 3) (σ.2.1 2) (σ.2.1 3) (σ.2.1 5) (σ.2.1 6) from HT), ?_⟩
  intro x2 r_x2 hq
  obtain ⟨q1_1, q1_2, q1_3, q1_4, q1_5⟩ := hq
  replace q1_1 : -1 ≤ x2 := q1_1
  replace q1_2 : x2 < (σ.1 3) := q1_2
  replace q1_3 : 0 ≤ x2 → c_eq (σ.2.1 2) (σ.2.1 3) x2 (t_1) n2 n3 := q1_3
  replace q1_4 : x2 = -1 → ∀ n : Int, 0 ≤ n → n < (σ.1 3) → ¬ c_eq (σ.2.1 2) (σ.2.1 3) n (t_1) n2 n3 := q1_4
  replace q1_5 : 0 ≤ x2 → ∀ n : Int, x2 < n → n < (σ.1 3) → ¬ c_eq (σ.2.1 2) (σ.2.1 3) n (t_1) n2 n3 := q1_5
  rw [p1, p2] at q1_3 q1_4 q1_5
  refine ⟨_, K3_X3_symbolOf hT (show -1 ≤ x2 from by (first | omega | (simp only [st_s] <;> omega) | assumption | omega | fail)) (show x2 < (σ.1 3) from by (first | omega | (simp only [st_s] <;> omega) | assumption | omega | fail)) (show J_mn (σ.1 3) (σ.1 5) ((σ.1 7) + 1) (σ.2.1 4) from MN), ?_⟩
  intro x5 r_x5 hq
  obtain ⟨q4_1, q4_2, q4_3, q4_4, q4_5⟩ := hq
  replace q4_1 : -1 ≤ x5 ∧ x5 ≤ 999 := q4_1
  replace q4_2 : x5 < (σ.1 5) := q4_2
  replace q4_3 : 0 ≤ x2 → x5 = -1 ∨ x5 = -1 - σ.2.1 4 x2 := q4_3
  replace q4_4 : 0 ≤ x2 → σ.2.1 4 x2 < 0 → x5 = -1 - σ.2.1 4 x2 := q4_4
  replace q4_5 : x2 = -1 → x5 = -1 := q4_5
  exact ⟨(show -1 ≤ x5 ∧ x5 ≤ 999 from by (first | omega | (simp only [st_s] <;> omega) | assumption | omega | fail)), (show x5 < (σ.1 5) from by (first | omega | (simp only [st_s] <;> omega) | assumption | omega | fail)), (show ∀ n : Int, 0 ≤ n → n < (σ.1 3) → j_sp σ n → (∀ m : Int, n < m → m < (σ.1 3) → ¬ j_sp σ m) → σ.2.1 4 n < 0 → x5 = -1 - σ.2.1 4 n from by (intro n n0 n1 s f m; by_cases z : x2 = -1; exact absurd s (q1_4 z n n0 n1); (have e : x2 = n := by (rcases Int.lt_trichotomy x2 n with y | y | y); exact absurd s (q1_5 (by omega) n y n1); exact y; exact absurd (q1_3 (by omega)) (f x2 y (by omega))); rw [← e] at m ⊢; exact q4_4 (by omega) m)), (show x5 = -1 ∨ ∃ n : Int, (0 ≤ n ∧ n < (σ.1 3)) ∧ j_sp σ n ∧ (∀ m : Int, n < m → m < (σ.1 3) → ¬ j_sp σ m) ∧ σ.2.1 4 n = -1 - x5 from by (by_cases z : x2 = -1; exact Or.inl (q4_5 z); (rcases q4_3 (by omega) with w | w; exact Or.inl w; exact Or.inr ⟨x2, ⟨by omega, by omega⟩, q1_3 (by omega), fun m a b => q1_5 (by omega) m a b, by omega⟩)))⟩
set_option maxHeartbeats 1000000 in
theorem K2_X8_constantNamed_t1 {σ : S0} (hT : c_T σ) (p1 : J_ht (σ.1 3) (σ.2.1 2) (σ.2.1 3) (σ.2.1 5) (σ.2.1 6)) (p2 : J_mn (σ.1 3) (σ.1 5) ((σ.1 7) + 1) (σ.2.1 4)) : W_X8_constantNamed_t1 σ (fun (x : Int) => (-1 ≤ x ∧ x ≤ 999) ∧ (x < (σ.1 5)) ∧ (∀ n : Int, 0 ≤ n → n < (σ.1 3) → j_sp σ n → (∀ m : Int, n < m → m < (σ.1 3) → ¬ j_sp σ m) → σ.2.1 4 n < 0 → σ.2.1 8 (-1 - σ.2.1 4 n) = 0 → x = -1 - σ.2.1 4 n) ∧ (x = -1 ∨ g_pe σ x)) := by
  have A2 : ∀ j, 0 ≤ σ.2.1 2 j ∧ σ.2.1 2 j ≤ 65535 := fun j => hT.2 2 j
  have A3 : ∀ j, 0 ≤ σ.2.1 3 j ∧ σ.2.1 3 j ≤ 30000 := fun j => hT.2 3 j
  have A4 : ∀ j, (-1000) ≤ σ.2.1 4 j ∧ σ.2.1 4 j ≤ 1499 := fun j => hT.2 4 j
  have A5 : ∀ j, 0 ≤ σ.2.1 5 j ∧ σ.2.1 5 j ≤ 2500 := fun j => hT.2 5 j
  have A6 : ∀ j, 0 ≤ σ.2.1 6 j ∧ σ.2.1 6 j ≤ 2500 := fun j => hT.2 6 j
  have A8 : ∀ j, 0 ≤ σ.2.1 8 j ∧ σ.2.1 8 j ≤ 1 := fun j => hT.2 8 j
  have v3 : 0 ≤ σ.1 3 ∧ σ.1 3 ≤ 2500 := hT.1 3
  have v5 : 0 ≤ σ.1 5 ∧ σ.1 5 ≤ 1000 := hT.1 5
  have v7 : 0 ≤ σ.1 7 ∧ σ.1 7 ≤ 1500 := hT.1 7
  have HT : J_ht (σ.1 3) (σ.2.1 2) (σ.2.1 3) (σ.2.1 5) (σ.2.1 6) := p1
  have MN : J_mn (σ.1 3) (σ.1 5) ((σ.1 7) + 1) (σ.2.1 4) := p2
  have HT_0 := HT
  have MN_0 := MN
  unfold W_X8_constantNamed_t1
  refine ⟨_, K2_X3_symbolNamed_t1 hT (show (0 : Int) = 0 from by (first | omega | (simp only [st_s] <;> omega) | assumption | omega | fail)) (show (2 : Int) = 2 from by (first | omega | (simp only [st_s] <;> omega) | assumption | omega | fail)) (show J_ht (σ.1 3) (σ.2.1 2) (σ.2.1 3) (σ.2.1 5) (σ.2.1 6) from HT) (show J_mn (σ.1 3) (σ.1 5) ((σ.1 7) + 1) (σ.2.1 4) from MN), ?_⟩
  intro x2 r_x2 hq
  obtain ⟨q1_1, q1_2, q1_3, q1_4⟩ := hq
  replace q1_1 : -1 ≤ x2 ∧ x2 ≤ 999 := q1_1
  replace q1_2 : x2 < (σ.1 5) := q1_2
  replace q1_3 : ∀ n : Int, 0 ≤ n → n < (σ.1 3) → j_sp σ n → (∀ m : Int, n < m → m < (σ.1 3) → ¬ j_sp σ m) → σ.2.1 4 n < 0 → x2 = -1 - σ.2.1 4 n := q1_3
  replace q1_4 : x2 = -1 ∨ ∃ n : Int, (0 ≤ n ∧ n < (σ.1 3)) ∧ j_sp σ n ∧ (∀ m : Int, n < m → m < (σ.1 3) → ¬ j_sp σ m) ∧ σ.2.1 4 n = -1 - x2 := q1_4
  refine ⟨fun c4 => ?_, fun c4 => ?_⟩
  ·
    exact ⟨(show -1 ≤ (-1) ∧ (-1) ≤ 999 from by (first | omega | (simp only [st_s] <;> omega) | assumption | omega | fail)), (show (-1) < (σ.1 5) from by (first | omega | (simp only [st_s] <;> omega) | assumption | omega | fail)), (show ∀ n : Int, 0 ≤ n → n < (σ.1 3) → j_sp σ n → (∀ m : Int, n < m → m < (σ.1 3) → ¬ j_sp σ m) → σ.2.1 4 n < 0 → σ.2.1 8 (-1 - σ.2.1 4 n) = 0 → (-1) = -1 - σ.2.1 4 n from by (intro n n0 n1 s f m v; have w := q1_3 n n0 n1 s f m; first | omega | (exfalso; rw [← w] at v; omega))), (show (-1) = -1 ∨ g_pe σ (-1) from by (first | exact Or.inl rfl | (have q9 := q1_4; rcases q9 with w | ⟨n, a, b, c, d⟩; exact Or.inl w; exact Or.inr ⟨n, a, b, c, d, by rw [← e_x6]; assumption⟩) | fail))⟩
  ·
    refine ⟨(show 0 ≤ x2 ∧ x2 < 1000 from by (first | omega | (simp only [st_s] <;> omega) | assumption | omega | fail)), ?_⟩
    intro x6 r_x6 e_x6
    have b_x6 : 0 ≤ x6 ∧ x6 ≤ 1 := by rw [e_x6]; exact hT.2 8 _
    refine ⟨fun c7 => ?_, fun c7 => ?_⟩
    ·
      exact ⟨(show -1 ≤ x2 ∧ x2 ≤ 999 from by (first | omega | (simp only [st_s] <;> omega) | assumption | omega | fail)), (show x2 < (σ.1 5) from by (first | omega | (simp only [st_s] <;> omega) | assumption | omega | fail)), (show ∀ n : Int, 0 ≤ n → n < (σ.1 3) → j_sp σ n → (∀ m : Int, n < m → m < (σ.1 3) → ¬ j_sp σ m) → σ.2.1 4 n < 0 → σ.2.1 8 (-1 - σ.2.1 4 n) = 0 → x2 = -1 - σ.2.1 4 n from by (intro n n0 n1 s f m v; have w := q1_3 n n0 n1 s f m; first | omega | (exfalso; rw [← w] at v; omega))), (show x2 = -1 ∨ g_pe σ x2 from by (first | exact Or.inl rfl | (have q9 := q1_4; rcases q9 with w | ⟨n, a, b, c, d⟩; exact Or.inl w; exact Or.inr ⟨n, a, b, c, d, by rw [← e_x6]; assumption⟩) | fail))⟩
    ·
      exact ⟨(show -1 ≤ (-1) ∧ (-1) ≤ 999 from by (first | omega | (simp only [st_s] <;> omega) | assumption | omega | fail)), (show (-1) < (σ.1 5) from by (first | omega | (simp only [st_s] <;> omega) | assumption | omega | fail)), (show ∀ n : Int, 0 ≤ n → n < (σ.1 3) → j_sp σ n → (∀ m : Int, n < m → m < (σ.1 3) → ¬ j_sp σ m) → σ.2.1 4 n < 0 → σ.2.1 8 (-1 - σ.2.1 4 n) = 0 → (-1) = -1 - σ.2.1 4 n from by (intro n n0 n1 s f m v; have w := q1_3 n n0 n1 s f m; first | omega | (exfalso; rw [← w] at v; omega))), (show (-1) = -1 ∨ g_pe σ (-1) from by (first | exact Or.inl rfl | (have q9 := q1_4; rcases q9 with w | ⟨n, a, b, c, d⟩; exact Or.inl w; exact Or.inr ⟨n, a, b, c, d, by rw [← e_x6]; assumption⟩) | fail))⟩
set_option maxHeartbeats 1000000 in
theorem K2_X3_symbolNamed_t2 {n2 : Int} {n3 : Int} {σ : S0} (hT : c_T σ) (p1 : n2 = 0) (p2 : n3 = 3) (p3 : J_ht (σ.1 3) (σ.2.1 2) (σ.2.1 3) (σ.2.1 5) (σ.2.1 6)) (p4 : J_mn (σ.1 3) (σ.1 5) ((σ.1 7) + 1) (σ.2.1 4)) : W_X3_symbolNamed_t2 n2 n3 σ (fun (x : Int) => (-1 ≤ x ∧ x ≤ 999) ∧ (x < (σ.1 5)) ∧ (∀ n : Int, 0 ≤ n → n < (σ.1 3) → j_sw σ n → (∀ m : Int, n < m → m < (σ.1 3) → ¬ j_sw σ m) → σ.2.1 4 n < 0 → x = -1 - σ.2.1 4 n) ∧ (x = -1 ∨ ∃ n : Int, (0 ≤ n ∧ n < (σ.1 3)) ∧ j_sw σ n ∧ (∀ m : Int, n < m → m < (σ.1 3) → ¬ j_sw σ m) ∧ σ.2.1 4 n = -1 - x)) := by
  have A2 : ∀ j, 0 ≤ σ.2.1 2 j ∧ σ.2.1 2 j ≤ 65535 := fun j => hT.2 2 j
  have A3 : ∀ j, 0 ≤ σ.2.1 3 j ∧ σ.2.1 3 j ≤ 30000 := fun j => hT.2 3 j
  have A4 : ∀ j, (-1000) ≤ σ.2.1 4 j ∧ σ.2.1 4 j ≤ 1499 := fun j => hT.2 4 j
  have A5 : ∀ j, 0 ≤ σ.2.1 5 j ∧ σ.2.1 5 j ≤ 2500 := fun j => hT.2 5 j
  have A6 : ∀ j, 0 ≤ σ.2.1 6 j ∧ σ.2.1 6 j ≤ 2500 := fun j => hT.2 6 j
  have v3 : 0 ≤ σ.1 3 ∧ σ.1 3 ≤ 2500 := hT.1 3
  have v5 : 0 ≤ σ.1 5 ∧ σ.1 5 ≤ 1000 := hT.1 5
  have v7 : 0 ≤ σ.1 7 ∧ σ.1 7 ≤ 1500 := hT.1 7
  have HT : J_ht (σ.1 3) (σ.2.1 2) (σ.2.1 3) (σ.2.1 5) (σ.2.1 6) := p3
  have MN : J_mn (σ.1 3) (σ.1 5) ((σ.1 7) + 1) (σ.2.1 4) := p4
  have HT_0 := HT
  have MN_0 := MN
  unfold W_X3_symbolNamed_t2
  refine ⟨_, K2_X3_nameOf_t2 hT (show 0 ≤ n2 from by (first | omega | (simp only [st_s] <;> omega) | assumption | omega | fail)) (show n2 + n3 ≤ 3 from by (first | omega | (simp only [st_s] <;> omega) | assumption | omega | fail)) (show J_ht (σ.1 3) (σ.2.1 2) (σ.2.1 3) (σ.2.1 5) (σ.2.1 6) from HT), ?_⟩
  intro x2 r_x2 hq
  obtain ⟨q1_1, q1_2, q1_3, q1_4, q1_5⟩ := hq
  replace q1_1 : -1 ≤ x2 := q1_1
  replace q1_2 : x2 < (σ.1 3) := q1_2
  replace q1_3 : 0 ≤ x2 → c_eq (σ.2.1 2) (σ.2.1 3) x2 (t_2) n2 n3 := q1_3
  replace q1_4 : x2 = -1 → ∀ n : Int, 0 ≤ n → n < (σ.1 3) → ¬ c_eq (σ.2.1 2) (σ.2.1 3) n (t_2) n2 n3 := q1_4
  replace q1_5 : 0 ≤ x2 → ∀ n : Int, x2 < n → n < (σ.1 3) → ¬ c_eq (σ.2.1 2) (σ.2.1 3) n (t_2) n2 n3 := q1_5
  rw [p1, p2] at q1_3 q1_4 q1_5
  refine ⟨_, K3_X3_symbolOf hT (show -1 ≤ x2 from by (first | omega | (simp only [st_s] <;> omega) | assumption | omega | fail)) (show x2 < (σ.1 3) from by (first | omega | (simp only [st_s] <;> omega) | assumption | omega | fail)) (show J_mn (σ.1 3) (σ.1 5) ((σ.1 7) + 1) (σ.2.1 4) from MN), ?_⟩
  intro x5 r_x5 hq
  obtain ⟨q4_1, q4_2, q4_3, q4_4, q4_5⟩ := hq
  replace q4_1 : -1 ≤ x5 ∧ x5 ≤ 999 := q4_1
  replace q4_2 : x5 < (σ.1 5) := q4_2
  replace q4_3 : 0 ≤ x2 → x5 = -1 ∨ x5 = -1 - σ.2.1 4 x2 := q4_3
  replace q4_4 : 0 ≤ x2 → σ.2.1 4 x2 < 0 → x5 = -1 - σ.2.1 4 x2 := q4_4
  replace q4_5 : x2 = -1 → x5 = -1 := q4_5
  exact ⟨(show -1 ≤ x5 ∧ x5 ≤ 999 from by (first | omega | (simp only [st_s] <;> omega) | assumption | omega | fail)), (show x5 < (σ.1 5) from by (first | omega | (simp only [st_s] <;> omega) | assumption | omega | fail)), (show ∀ n : Int, 0 ≤ n → n < (σ.1 3) → j_sw σ n → (∀ m : Int, n < m → m < (σ.1 3) → ¬ j_sw σ m) → σ.2.1 4 n < 0 → x5 = -1 - σ.2.1 4 n from by (intro n n0 n1 s f m; by_cases z : x2 = -1; exact absurd s (q1_4 z n n0 n1); (have e : x2 = n := by (rcases Int.lt_trichotomy x2 n with y | y | y); exact absurd s (q1_5 (by omega) n y n1); exact y; exact absurd (q1_3 (by omega)) (f x2 y (by omega))); rw [← e] at m ⊢; exact q4_4 (by omega) m)), (show x5 = -1 ∨ ∃ n : Int, (0 ≤ n ∧ n < (σ.1 3)) ∧ j_sw σ n ∧ (∀ m : Int, n < m → m < (σ.1 3) → ¬ j_sw σ m) ∧ σ.2.1 4 n = -1 - x5 from by (by_cases z : x2 = -1; exact Or.inl (q4_5 z); (rcases q4_3 (by omega) with w | w; exact Or.inl w; exact Or.inr ⟨x2, ⟨by omega, by omega⟩, q1_3 (by omega), fun m a b => q1_5 (by omega) m a b, by omega⟩)))⟩
set_option maxHeartbeats 1000000 in
theorem K2_X8_constantNamed_t2 {σ : S0} (hT : c_T σ) (p1 : J_ht (σ.1 3) (σ.2.1 2) (σ.2.1 3) (σ.2.1 5) (σ.2.1 6)) (p2 : J_mn (σ.1 3) (σ.1 5) ((σ.1 7) + 1) (σ.2.1 4)) : W_X8_constantNamed_t2 σ (fun (x : Int) => (-1 ≤ x ∧ x ≤ 999) ∧ (x < (σ.1 5)) ∧ (g_wf σ x) ∧ (x = -1 ∨ g_we σ x)) := by
  have A2 : ∀ j, 0 ≤ σ.2.1 2 j ∧ σ.2.1 2 j ≤ 65535 := fun j => hT.2 2 j
  have A3 : ∀ j, 0 ≤ σ.2.1 3 j ∧ σ.2.1 3 j ≤ 30000 := fun j => hT.2 3 j
  have A4 : ∀ j, (-1000) ≤ σ.2.1 4 j ∧ σ.2.1 4 j ≤ 1499 := fun j => hT.2 4 j
  have A5 : ∀ j, 0 ≤ σ.2.1 5 j ∧ σ.2.1 5 j ≤ 2500 := fun j => hT.2 5 j
  have A6 : ∀ j, 0 ≤ σ.2.1 6 j ∧ σ.2.1 6 j ≤ 2500 := fun j => hT.2 6 j
  have A8 : ∀ j, 0 ≤ σ.2.1 8 j ∧ σ.2.1 8 j ≤ 1 := fun j => hT.2 8 j
  have v3 : 0 ≤ σ.1 3 ∧ σ.1 3 ≤ 2500 := hT.1 3
  have v5 : 0 ≤ σ.1 5 ∧ σ.1 5 ≤ 1000 := hT.1 5
  have v7 : 0 ≤ σ.1 7 ∧ σ.1 7 ≤ 1500 := hT.1 7
  have HT : J_ht (σ.1 3) (σ.2.1 2) (σ.2.1 3) (σ.2.1 5) (σ.2.1 6) := p1
  have MN : J_mn (σ.1 3) (σ.1 5) ((σ.1 7) + 1) (σ.2.1 4) := p2
  have HT_0 := HT
  have MN_0 := MN
  unfold W_X8_constantNamed_t2
  refine ⟨_, K2_X3_symbolNamed_t2 hT (show (0 : Int) = 0 from by (first | omega | (simp only [st_s] <;> omega) | assumption | omega | fail)) (show (3 : Int) = 3 from by (first | omega | (simp only [st_s] <;> omega) | assumption | omega | fail)) (show J_ht (σ.1 3) (σ.2.1 2) (σ.2.1 3) (σ.2.1 5) (σ.2.1 6) from HT) (show J_mn (σ.1 3) (σ.1 5) ((σ.1 7) + 1) (σ.2.1 4) from MN), ?_⟩
  intro x2 r_x2 hq
  obtain ⟨q1_1, q1_2, q1_3, q1_4⟩ := hq
  replace q1_1 : -1 ≤ x2 ∧ x2 ≤ 999 := q1_1
  replace q1_2 : x2 < (σ.1 5) := q1_2
  replace q1_3 : ∀ n : Int, 0 ≤ n → n < (σ.1 3) → j_sw σ n → (∀ m : Int, n < m → m < (σ.1 3) → ¬ j_sw σ m) → σ.2.1 4 n < 0 → x2 = -1 - σ.2.1 4 n := q1_3
  replace q1_4 : x2 = -1 ∨ ∃ n : Int, (0 ≤ n ∧ n < (σ.1 3)) ∧ j_sw σ n ∧ (∀ m : Int, n < m → m < (σ.1 3) → ¬ j_sw σ m) ∧ σ.2.1 4 n = -1 - x2 := q1_4
  refine ⟨fun c4 => ?_, fun c4 => ?_⟩
  ·
    exact ⟨(show -1 ≤ (-1) ∧ (-1) ≤ 999 from by (first | omega | (simp only [st_s] <;> omega) | assumption | omega | fail)), (show (-1) < (σ.1 5) from by (first | omega | (simp only [st_s] <;> omega) | assumption | omega | fail)), (show g_wf σ (-1) from by (intro w w0 hw; obtain ⟨n, ⟨a, b⟩, c, d, e, f⟩ := hw; have y := q1_3 n a b c d (by omega); first | omega | (exfalso; have y2 : x2 = w := (by omega); rw [← y2] at f; omega))), (show (-1) = -1 ∨ g_we σ (-1) from by (first | exact Or.inl rfl | (have q9 := q1_4; rcases q9 with w | ⟨n, a, b, c, d⟩; exact Or.inl w; exact Or.inr ⟨n, a, b, c, d, by rw [← e_x6]; assumption⟩) | fail))⟩
  ·
    refine ⟨(show 0 ≤ x2 ∧ x2 < 1000 from by (first | omega | (simp only [st_s] <;> omega) | assumption | omega | fail)), ?_⟩
    intro x6 r_x6 e_x6
    have b_x6 : 0 ≤ x6 ∧ x6 ≤ 1 := by rw [e_x6]; exact hT.2 8 _
    refine ⟨fun c7 => ?_, fun c7 => ?_⟩
    ·
      exact ⟨(show -1 ≤ x2 ∧ x2 ≤ 999 from by (first | omega | (simp only [st_s] <;> omega) | assumption | omega | fail)), (show x2 < (σ.1 5) from by (first | omega | (simp only [st_s] <;> omega) | assumption | omega | fail)), (show g_wf σ x2 from by (intro w w0 hw; obtain ⟨n, ⟨a, b⟩, c, d, e, f⟩ := hw; have y := q1_3 n a b c d (by omega); first | omega | (exfalso; have y2 : x2 = w := (by omega); rw [← y2] at f; omega))), (show x2 = -1 ∨ g_we σ x2 from by (first | exact Or.inl rfl | (have q9 := q1_4; rcases q9 with w | ⟨n, a, b, c, d⟩; exact Or.inl w; exact Or.inr ⟨n, a, b, c, d, by rw [← e_x6]; assumption⟩) | fail))⟩
    ·
      exact ⟨(show -1 ≤ (-1) ∧ (-1) ≤ 999 from by (first | omega | (simp only [st_s] <;> omega) | assumption | omega | fail)), (show (-1) < (σ.1 5) from by (first | omega | (simp only [st_s] <;> omega) | assumption | omega | fail)), (show g_wf σ (-1) from by (intro w w0 hw; obtain ⟨n, ⟨a, b⟩, c, d, e, f⟩ := hw; have y := q1_3 n a b c d (by omega); first | omega | (exfalso; have y2 : x2 = w := (by omega); rw [← y2] at f; omega))), (show (-1) = -1 ∨ g_we σ (-1) from by (first | exact Or.inl rfl | (have q9 := q1_4; rcases q9 with w | ⟨n, a, b, c, d⟩; exact Or.inl w; exact Or.inr ⟨n, a, b, c, d, by rw [← e_x6]; assumption⟩) | fail))⟩
set_option maxHeartbeats 1000000 in
theorem K_X8_isRule {n1 : Int} {σ : S0} (hT : c_T σ) (p1 : 0 ≤ n1) (p2 : n1 < (σ.1 7)) (p3 : J_all (σ.1 7) (σ.1 6) (σ.1 13) (σ.1 14) (σ.1 15) (σ.2.1 13) (σ.2.1 14) (σ.2.1 15) (σ.2.1 16) (σ.2.1 10) (σ.2.1 27) (σ.2.1 28) (σ.2.1 29) (σ.2.1 30) (σ.2.1 31) (σ.2.1 32) (σ.2.1 33) (σ.2.1 34) (σ.2.1 35) (σ.2.1 36) (σ.2.1 37)) : W_X8_isRule n1 σ (fun (x : Int) => (0 ≤ x ∧ x ≤ 1) ∧ (¬ x = 0 → σ.2.1 13 n1 = 2 ∧ ¬ σ.2.1 15 (σ.2.1 14 n1) = (σ.1 48) ∧ σ.2.1 14 n1 + 2 ≤ σ.2.1 14 (n1 + 1) ∧ ∀ k : Int, 0 ≤ k → k < σ.2.1 28 n1 → σ.2.1 13 (σ.2.1 29 (σ.2.1 27 n1 + k)) = 0) ∧ (¬ x = 0 → sm (g_cv (σ.2.1 14) (σ.2.1 16) n1) (σ.2.1 14 (n1 + 1) - σ.2.1 14 n1) = σ.2.1 28 n1)) := by
  have A10 : ∀ j, (-1) ≤ σ.2.1 10 j ∧ σ.2.1 10 j ≤ 99 := fun j => hT.2 10 j
  have A13 : ∀ j, 0 ≤ σ.2.1 13 j ∧ σ.2.1 13 j ≤ 4 := fun j => hT.2 13 j
  have A14 : ∀ j, 0 ≤ σ.2.1 14 j ∧ σ.2.1 14 j ≤ 30000 := fun j => hT.2 14 j
  have A15 : ∀ j, 0 ≤ σ.2.1 15 j ∧ σ.2.1 15 j ≤ 999 := fun j => hT.2 15 j
  have A16 : ∀ j, (-1) ≤ σ.2.1 16 j ∧ σ.2.1 16 j ≤ 1499 := fun j => hT.2 16 j
  have A27 : ∀ j, 0 ≤ σ.2.1 27 j ∧ σ.2.1 27 j ≤ 90000 := fun j => hT.2 27 j
  have A28 : ∀ j, 0 ≤ σ.2.1 28 j ∧ σ.2.1 28 j ≤ 60 := fun j => hT.2 28 j
  have A29 : ∀ j, 0 ≤ σ.2.1 29 j ∧ σ.2.1 29 j ≤ 1499 := fun j => hT.2 29 j
  have A30 : ∀ j, 0 ≤ σ.2.1 30 j ∧ σ.2.1 30 j ≤ 20000 := fun j => hT.2 30 j
  have A31 : ∀ j, 0 ≤ σ.2.1 31 j ∧ σ.2.1 31 j ≤ 20000 := fun j => hT.2 31 j
  have A32 : ∀ j, 0 ≤ σ.2.1 32 j ∧ σ.2.1 32 j ≤ 999999 := fun j => hT.2 32 j
  have A33 : ∀ j, 0 ≤ σ.2.1 33 j ∧ σ.2.1 33 j ≤ 20000 := fun j => hT.2 33 j
  have A34 : ∀ j, 0 ≤ σ.2.1 34 j ∧ σ.2.1 34 j ≤ 20000 := fun j => hT.2 34 j
  have A35 : ∀ j, 0 ≤ σ.2.1 35 j ∧ σ.2.1 35 j ≤ 1499 := fun j => hT.2 35 j
  have A36 : ∀ j, 0 ≤ σ.2.1 36 j ∧ σ.2.1 36 j ≤ 20000 := fun j => hT.2 36 j
  have A37 : ∀ j, 0 ≤ σ.2.1 37 j ∧ σ.2.1 37 j ≤ 19999 := fun j => hT.2 37 j
  have v6 : 0 ≤ σ.1 6 ∧ σ.1 6 ≤ 30000 := hT.1 6
  have v7 : 0 ≤ σ.1 7 ∧ σ.1 7 ≤ 1500 := hT.1 7
  have v13 : 0 ≤ σ.1 13 ∧ σ.1 13 ≤ 90000 := hT.1 13
  have v14 : 0 ≤ σ.1 14 ∧ σ.1 14 ≤ 20000 := hT.1 14
  have v15 : 0 ≤ σ.1 15 ∧ σ.1 15 ≤ 20000 := hT.1 15
  have v48 : (-1) ≤ σ.1 48 ∧ σ.1 48 ≤ 999 := hT.1 48
  intro P67 P117 h67 h117
  have jt := (p3.1 n1 p1 p2).1
  have jt1 := jt.1
  have jf := (p3.1 n1 p1 p2).2.1
  have a14 := A14 n1
  have kd0 := fun j => (A13 j).1
  have b14 := A14 (n1 + 1)
  have jts := fun f a b => (p3.1 f a b).1.1
  have s14 := fun f => A14 (f + 1)
  have CJ : J_all (σ.1 7) (σ.1 6) (σ.1 13) (σ.1 14) (σ.1 15) (σ.2.1 13) (σ.2.1 14) (σ.2.1 15) (σ.2.1 16) (σ.2.1 10) (σ.2.1 27) (σ.2.1 28) (σ.2.1 29) (σ.2.1 30) (σ.2.1 31) (σ.2.1 32) (σ.2.1 33) (σ.2.1 34) (σ.2.1 35) (σ.2.1 36) (σ.2.1 37) := p3
  have CJ_0 := CJ
  have l_67 : ∀ (m_67 : Nat) (u2_67 : Int) (u3_67 : Int), 30001 - u3_67 < (m_67 : Int) → (σ.2.1 14 n1 ≤ u3_67 ∧ u3_67 ≤ 30000) → (0 ≤ u2_67) → (u2_67 ≤ u3_67 - σ.2.1 14 n1) → (σ.2.1 13 n1 = 2 ∧ ¬ σ.2.1 15 (σ.2.1 14 n1) = (σ.1 48) ∧ σ.2.1 14 n1 + 2 ≤ σ.2.1 14 (n1 + 1)) → (∀ k : Int, 0 ≤ k → k < σ.2.1 28 n1 → σ.2.1 13 (σ.2.1 29 (σ.2.1 27 n1 + k)) = 0) → (u3_67 ≤ σ.2.1 14 (n1 + 1) ∧ u2_67 = sm (g_cv (σ.2.1 14) (σ.2.1 16) n1) (u3_67 - σ.2.1 14 n1)) → P67 n1 u2_67 u3_67 := by
    intro m_67
    induction m_67 with
    | zero =>
      intro u2_67 u3_67 hm i67_1 i67_2 i67_3 i67_4 i67_5 i67_6
      exfalso; (first | omega | (simp only [st_s] <;> omega) | assumption | omega | fail)
    | succ m_67 ih_67 =>
      intro u2_67 u3_67 hm_67 i67_1 i67_2 i67_3 i67_4 i67_5 i67_6
      refine h67 n1 u2_67 u3_67 ?_
      refine ⟨(show 0 ≤ (n1 + 1) ∧ (n1 + 1) < 1501 from by (first | omega | (simp only [st_s] <;> omega) | assumption | omega | fail)), ?_⟩
      intro x19 r_x19 e_x19
      have b_x19 : 0 ≤ x19 ∧ x19 ≤ 30000 := by rw [e_x19]; exact hT.2 14 _
      refine ⟨fun c20 => ?_, fun c20 => ?_⟩
      ·
        refine ⟨(show 0 ≤ n1 ∧ n1 < 1500 from by (first | omega | (simp only [st_s] <;> omega) | assumption | omega | fail)), ?_⟩
        intro x22 r_x22 e_x22
        have b_x22 : 0 ≤ x22 ∧ x22 ≤ 60 := by rw [e_x22]; exact hT.2 28 _
        refine ⟨fun c23 => ?_, fun c23 => ?_⟩
        ·
          exact ⟨(show 0 ≤ 0 ∧ 0 ≤ 1 from by (first | omega | (simp only [st_s] <;> omega) | assumption | omega | fail)), (show ¬ 0 = 0 → σ.2.1 13 n1 = 2 ∧ ¬ σ.2.1 15 (σ.2.1 14 n1) = (σ.1 48) ∧ σ.2.1 14 n1 + 2 ≤ σ.2.1 14 (n1 + 1) ∧ ∀ k : Int, 0 ≤ k → k < σ.2.1 28 n1 → σ.2.1 13 (σ.2.1 29 (σ.2.1 27 n1 + k)) = 0 from by (first | (intro z; exfalso; omega) | exact fun _ => ⟨i67_4.1, i67_4.2.1, i67_4.2.2, i67_5⟩ | fail)), (show ¬ 0 = 0 → sm (g_cv (σ.2.1 14) (σ.2.1 16) n1) (σ.2.1 14 (n1 + 1) - σ.2.1 14 n1) = σ.2.1 28 n1 from by (first | (intro z; exfalso; omega) | (intro _; have c := i67_6.2; rw [show σ.2.1 14 (n1 + 1) - σ.2.1 14 n1 = u3_67 - σ.2.1 14 n1 from by omega, ← c]; omega) | fail))⟩
        ·
          exact ⟨(show 0 ≤ 1 ∧ 1 ≤ 1 from by (first | omega | (simp only [st_s] <;> omega) | assumption | omega | fail)), (show ¬ 1 = 0 → σ.2.1 13 n1 = 2 ∧ ¬ σ.2.1 15 (σ.2.1 14 n1) = (σ.1 48) ∧ σ.2.1 14 n1 + 2 ≤ σ.2.1 14 (n1 + 1) ∧ ∀ k : Int, 0 ≤ k → k < σ.2.1 28 n1 → σ.2.1 13 (σ.2.1 29 (σ.2.1 27 n1 + k)) = 0 from by (first | (intro z; exfalso; omega) | exact fun _ => ⟨i67_4.1, i67_4.2.1, i67_4.2.2, i67_5⟩ | fail)), (show ¬ 1 = 0 → sm (g_cv (σ.2.1 14) (σ.2.1 16) n1) (σ.2.1 14 (n1 + 1) - σ.2.1 14 n1) = σ.2.1 28 n1 from by (first | (intro z; exfalso; omega) | (intro _; have c := i67_6.2; rw [show σ.2.1 14 (n1 + 1) - σ.2.1 14 n1 = u3_67 - σ.2.1 14 n1 from by omega, ← c]; omega) | fail))⟩
      ·
        refine ⟨(show 0 ≤ u3_67 ∧ u3_67 < 30000 from by (first | omega | (simp only [st_s] <;> omega) | assumption | omega | fail)), ?_⟩
        intro x25 r_x25 e_x25
        have b_x25 : (-1) ≤ x25 ∧ x25 ≤ 1499 := by rw [e_x25]; exact hT.2 16 _
        have cv25 : g_cv (σ.2.1 14) (σ.2.1 16) n1 (u3_67 - σ.2.1 14 n1) = (if x25 = -1 then 0 else 1) := by (unfold g_cv; rw [show σ.2.1 14 n1 + (u3_67 - σ.2.1 14 n1) = u3_67 from by omega, ← e_x25])
        refine ⟨fun c26 => ?_, fun c26 => ?_⟩
        ·
          refine h117 _ _ _ _ ?_
          refine ⟨fun c31 => ?_, fun c31 => ?_⟩
          ·
            refine ⟨(⟨by (first | omega | (simp only [st_s] <;> omega) | assumption | omega | fail), by (first | omega | (simp only [st_s] <;> omega) | assumption | omega | fail)⟩ : rg (u2_67 + 1)), ?_⟩
            refine ⟨(⟨by (first | omega | (simp only [st_s] <;> omega) | assumption | omega | fail), by (first | omega | (simp only [st_s] <;> omega) | assumption | omega | fail)⟩ : rg (u3_67 + 1)), ?_⟩
            exact ih_67 _ _ (show (30001 - (u3_67 + 1) : Int) < ((m_67 : Nat) : Int) from by ((first | omega | (simp only [st_s] <;> omega) | assumption | omega | fail))) (show σ.2.1 14 n1 ≤ (u3_67 + 1) ∧ (u3_67 + 1) ≤ 30000 from by (first | omega | (simp only [st_s] <;> omega) | assumption | omega | fail)) (show 0 ≤ (u2_67 + 1) from by (first | omega | (simp only [st_s] <;> omega) | assumption | omega | fail)) (show (u2_67 + 1) ≤ (u3_67 + 1) - σ.2.1 14 n1 from by (first | omega | (simp only [st_s] <;> omega) | assumption | omega | fail)) (show σ.2.1 13 n1 = 2 ∧ ¬ σ.2.1 15 (σ.2.1 14 n1) = (σ.1 48) ∧ σ.2.1 14 n1 + 2 ≤ σ.2.1 14 (n1 + 1) from by (first | omega | (simp only [st_s] <;> omega) | assumption | omega | fail)) (show ∀ k : Int, 0 ≤ k → k < σ.2.1 28 n1 → σ.2.1 13 (σ.2.1 29 (σ.2.1 27 n1 + k)) = 0 from by (first | exact i67_5 | (intro k a b; have w := q12_2 (by omega) k a b; have v := (jf (by omega)).2.1 k a b; have u := kd0 (σ.2.1 29 (σ.2.1 27 n1 + k)); omega) | fail)) (show (u3_67 + 1) ≤ σ.2.1 14 (n1 + 1) ∧ (u2_67 + 1) = sm (g_cv (σ.2.1 14) (σ.2.1 16) n1) ((u3_67 + 1) - σ.2.1 14 n1) from by (first | (exfalso; omega) | (rw [e_x17, show σ.2.1 14 n1 - σ.2.1 14 n1 = 0 from by omega, sm_0]; exact ⟨by omega, rfl⟩) | (refine ⟨by omega, ?_⟩; rw [show u3_67 + 1 - σ.2.1 14 n1 = u3_67 - σ.2.1 14 n1 + 1 from by omega, sm_s _ (by omega), ← i67_6.2, cv25]; first | rw [if_pos (by assumption)] | rw [if_neg (by assumption)]) | fail))
          ·
            refine ⟨(⟨by (first | omega | (simp only [st_s] <;> omega) | assumption | omega | fail), by (first | omega | (simp only [st_s] <;> omega) | assumption | omega | fail)⟩ : rg (u2_67 + 0)), ?_⟩
            refine ⟨(⟨by (first | omega | (simp only [st_s] <;> omega) | assumption | omega | fail), by (first | omega | (simp only [st_s] <;> omega) | assumption | omega | fail)⟩ : rg (u3_67 + 1)), ?_⟩
            exact ih_67 _ _ (show (30001 - (u3_67 + 1) : Int) < ((m_67 : Nat) : Int) from by ((first | omega | (simp only [st_s] <;> omega) | assumption | omega | fail))) (show σ.2.1 14 n1 ≤ (u3_67 + 1) ∧ (u3_67 + 1) ≤ 30000 from by (first | omega | (simp only [st_s] <;> omega) | assumption | omega | fail)) (show 0 ≤ (u2_67 + 0) from by (first | omega | (simp only [st_s] <;> omega) | assumption | omega | fail)) (show (u2_67 + 0) ≤ (u3_67 + 1) - σ.2.1 14 n1 from by (first | omega | (simp only [st_s] <;> omega) | assumption | omega | fail)) (show σ.2.1 13 n1 = 2 ∧ ¬ σ.2.1 15 (σ.2.1 14 n1) = (σ.1 48) ∧ σ.2.1 14 n1 + 2 ≤ σ.2.1 14 (n1 + 1) from by (first | omega | (simp only [st_s] <;> omega) | assumption | omega | fail)) (show ∀ k : Int, 0 ≤ k → k < σ.2.1 28 n1 → σ.2.1 13 (σ.2.1 29 (σ.2.1 27 n1 + k)) = 0 from by (first | exact i67_5 | (intro k a b; have w := q12_2 (by omega) k a b; have v := (jf (by omega)).2.1 k a b; have u := kd0 (σ.2.1 29 (σ.2.1 27 n1 + k)); omega) | fail)) (show (u3_67 + 1) ≤ σ.2.1 14 (n1 + 1) ∧ (u2_67 + 0) = sm (g_cv (σ.2.1 14) (σ.2.1 16) n1) ((u3_67 + 1) - σ.2.1 14 n1) from by (first | (exfalso; omega) | (rw [e_x17, show σ.2.1 14 n1 - σ.2.1 14 n1 = 0 from by omega, sm_0]; exact ⟨by omega, rfl⟩) | (refine ⟨by omega, ?_⟩; rw [show u3_67 + 1 - σ.2.1 14 n1 = u3_67 - σ.2.1 14 n1 + 1 from by omega, sm_s _ (by omega), ← i67_6.2, cv25]; first | rw [if_pos (by assumption)] | rw [if_neg (by assumption)]) | fail))
        ·
          have ju := jt.2.2 u3_67 (by omega) (by omega)
          rw [← e_x25] at ju
          have fx := jts x25 (by omega) (by omega)
          have sx := s14 x25
          refine ⟨_, K_X3_typeOf hT (show 0 ≤ x25 from by (first | omega | (simp only [st_s] <;> omega) | assumption | omega | fail)) (show x25 ≤ 1500 from by (first | omega | (simp only [st_s] <;> omega) | assumption | omega | fail)) (show σ.2.1 14 x25 < 30000 from by (first | omega | (simp only [st_s] <;> omega) | assumption | omega | fail)), ?_⟩
          intro x28 r_x28 hq
          obtain ⟨q27_1, q27_2⟩ := hq
          replace q27_1 : x28 = σ.2.1 15 (σ.2.1 14 x25) := q27_1
          replace q27_2 : 0 ≤ x28 ∧ x28 ≤ 999 := q27_2
          refine ⟨fun c30 => ?_, fun c30 => ?_⟩
          ·
            refine h117 _ _ _ _ ?_
            refine ⟨fun c31 => ?_, fun c31 => ?_⟩
            ·
              refine ⟨(⟨by (first | omega | (simp only [st_s] <;> omega) | assumption | omega | fail), by (first | omega | (simp only [st_s] <;> omega) | assumption | omega | fail)⟩ : rg (u2_67 + 1)), ?_⟩
              refine ⟨(⟨by (first | omega | (simp only [st_s] <;> omega) | assumption | omega | fail), by (first | omega | (simp only [st_s] <;> omega) | assumption | omega | fail)⟩ : rg (u3_67 + 1)), ?_⟩
              exact ih_67 _ _ (show (30001 - (u3_67 + 1) : Int) < ((m_67 : Nat) : Int) from by ((first | omega | (simp only [st_s] <;> omega) | assumption | omega | fail))) (show σ.2.1 14 n1 ≤ (u3_67 + 1) ∧ (u3_67 + 1) ≤ 30000 from by (first | omega | (simp only [st_s] <;> omega) | assumption | omega | fail)) (show 0 ≤ (u2_67 + 1) from by (first | omega | (simp only [st_s] <;> omega) | assumption | omega | fail)) (show (u2_67 + 1) ≤ (u3_67 + 1) - σ.2.1 14 n1 from by (first | omega | (simp only [st_s] <;> omega) | assumption | omega | fail)) (show σ.2.1 13 n1 = 2 ∧ ¬ σ.2.1 15 (σ.2.1 14 n1) = (σ.1 48) ∧ σ.2.1 14 n1 + 2 ≤ σ.2.1 14 (n1 + 1) from by (first | omega | (simp only [st_s] <;> omega) | assumption | omega | fail)) (show ∀ k : Int, 0 ≤ k → k < σ.2.1 28 n1 → σ.2.1 13 (σ.2.1 29 (σ.2.1 27 n1 + k)) = 0 from by (first | exact i67_5 | (intro k a b; have w := q12_2 (by omega) k a b; have v := (jf (by omega)).2.1 k a b; have u := kd0 (σ.2.1 29 (σ.2.1 27 n1 + k)); omega) | fail)) (show (u3_67 + 1) ≤ σ.2.1 14 (n1 + 1) ∧ (u2_67 + 1) = sm (g_cv (σ.2.1 14) (σ.2.1 16) n1) ((u3_67 + 1) - σ.2.1 14 n1) from by (first | (exfalso; omega) | (rw [e_x17, show σ.2.1 14 n1 - σ.2.1 14 n1 = 0 from by omega, sm_0]; exact ⟨by omega, rfl⟩) | (refine ⟨by omega, ?_⟩; rw [show u3_67 + 1 - σ.2.1 14 n1 = u3_67 - σ.2.1 14 n1 + 1 from by omega, sm_s _ (by omega), ← i67_6.2, cv25]; first | rw [if_pos (by assumption)] | rw [if_neg (by assumption)]) | fail))
            ·
              refine ⟨(⟨by (first | omega | (simp only [st_s] <;> omega) | assumption | omega | fail), by (first | omega | (simp only [st_s] <;> omega) | assumption | omega | fail)⟩ : rg (u2_67 + 0)), ?_⟩
              refine ⟨(⟨by (first | omega | (simp only [st_s] <;> omega) | assumption | omega | fail), by (first | omega | (simp only [st_s] <;> omega) | assumption | omega | fail)⟩ : rg (u3_67 + 1)), ?_⟩
              exact ih_67 _ _ (show (30001 - (u3_67 + 1) : Int) < ((m_67 : Nat) : Int) from by ((first | omega | (simp only [st_s] <;> omega) | assumption | omega | fail))) (show σ.2.1 14 n1 ≤ (u3_67 + 1) ∧ (u3_67 + 1) ≤ 30000 from by (first | omega | (simp only [st_s] <;> omega) | assumption | omega | fail)) (show 0 ≤ (u2_67 + 0) from by (first | omega | (simp only [st_s] <;> omega) | assumption | omega | fail)) (show (u2_67 + 0) ≤ (u3_67 + 1) - σ.2.1 14 n1 from by (first | omega | (simp only [st_s] <;> omega) | assumption | omega | fail)) (show σ.2.1 13 n1 = 2 ∧ ¬ σ.2.1 15 (σ.2.1 14 n1) = (σ.1 48) ∧ σ.2.1 14 n1 + 2 ≤ σ.2.1 14 (n1 + 1) from by (first | omega | (simp only [st_s] <;> omega) | assumption | omega | fail)) (show ∀ k : Int, 0 ≤ k → k < σ.2.1 28 n1 → σ.2.1 13 (σ.2.1 29 (σ.2.1 27 n1 + k)) = 0 from by (first | exact i67_5 | (intro k a b; have w := q12_2 (by omega) k a b; have v := (jf (by omega)).2.1 k a b; have u := kd0 (σ.2.1 29 (σ.2.1 27 n1 + k)); omega) | fail)) (show (u3_67 + 1) ≤ σ.2.1 14 (n1 + 1) ∧ (u2_67 + 0) = sm (g_cv (σ.2.1 14) (σ.2.1 16) n1) ((u3_67 + 1) - σ.2.1 14 n1) from by (first | (exfalso; omega) | (rw [e_x17, show σ.2.1 14 n1 - σ.2.1 14 n1 = 0 from by omega, sm_0]; exact ⟨by omega, rfl⟩) | (refine ⟨by omega, ?_⟩; rw [show u3_67 + 1 - σ.2.1 14 n1 = u3_67 - σ.2.1 14 n1 + 1 from by omega, sm_s _ (by omega), ← i67_6.2, cv25]; first | rw [if_pos (by assumption)] | rw [if_neg (by assumption)]) | fail))
          ·
            exact ⟨(show 0 ≤ 0 ∧ 0 ≤ 1 from by (first | omega | (simp only [st_s] <;> omega) | assumption | omega | fail)), (show ¬ 0 = 0 → σ.2.1 13 n1 = 2 ∧ ¬ σ.2.1 15 (σ.2.1 14 n1) = (σ.1 48) ∧ σ.2.1 14 n1 + 2 ≤ σ.2.1 14 (n1 + 1) ∧ ∀ k : Int, 0 ≤ k → k < σ.2.1 28 n1 → σ.2.1 13 (σ.2.1 29 (σ.2.1 27 n1 + k)) = 0 from by (first | (intro z; exfalso; omega) | exact fun _ => ⟨i67_4.1, i67_4.2.1, i67_4.2.2, i67_5⟩ | fail)), (show ¬ 0 = 0 → sm (g_cv (σ.2.1 14) (σ.2.1 16) n1) (σ.2.1 14 (n1 + 1) - σ.2.1 14 n1) = σ.2.1 28 n1 from by (first | (intro z; exfalso; omega) | (intro _; have c := i67_6.2; rw [show σ.2.1 14 (n1 + 1) - σ.2.1 14 n1 = u3_67 - σ.2.1 14 n1 from by omega, ← c]; omega) | fail))⟩
  refine ⟨(show 0 ≤ n1 ∧ n1 < 1500 from by (first | omega | (simp only [st_s] <;> omega) | assumption | omega | fail)), ?_⟩
  intro x2 r_x2 e_x2
  have b_x2 : 0 ≤ x2 ∧ x2 ≤ 4 := by rw [e_x2]; exact hT.2 13 _
  refine ⟨fun c3 => ?_, fun c3 => ?_⟩
  ·
    exact ⟨(show 0 ≤ 0 ∧ 0 ≤ 1 from by (first | omega | (simp only [st_s] <;> omega) | assumption | omega | fail)), (show ¬ 0 = 0 → σ.2.1 13 n1 = 2 ∧ ¬ σ.2.1 15 (σ.2.1 14 n1) = (σ.1 48) ∧ σ.2.1 14 n1 + 2 ≤ σ.2.1 14 (n1 + 1) ∧ ∀ k : Int, 0 ≤ k → k < σ.2.1 28 n1 → σ.2.1 13 (σ.2.1 29 (σ.2.1 27 n1 + k)) = 0 from by (first | (intro z; exfalso; omega) | exact fun _ => ⟨i67_4.1, i67_4.2.1, i67_4.2.2, i67_5⟩ | fail)), (show ¬ 0 = 0 → sm (g_cv (σ.2.1 14) (σ.2.1 16) n1) (σ.2.1 14 (n1 + 1) - σ.2.1 14 n1) = σ.2.1 28 n1 from by (first | (intro z; exfalso; omega) | (intro _; have c := i67_6.2; rw [show σ.2.1 14 (n1 + 1) - σ.2.1 14 n1 = u3_67 - σ.2.1 14 n1 from by omega, ← c]; omega) | fail))⟩
  ·
    refine ⟨_, K_X3_typeOf hT (show 0 ≤ n1 from by (first | omega | (simp only [st_s] <;> omega) | assumption | omega | fail)) (show n1 ≤ 1500 from by (first | omega | (simp only [st_s] <;> omega) | assumption | omega | fail)) (show σ.2.1 14 n1 < 30000 from by (first | omega | (simp only [st_s] <;> omega) | assumption | omega | fail)), ?_⟩
    intro x5 r_x5 hq
    obtain ⟨q4_1, q4_2⟩ := hq
    replace q4_1 : x5 = σ.2.1 15 (σ.2.1 14 n1) := q4_1
    replace q4_2 : 0 ≤ x5 ∧ x5 ≤ 999 := q4_2
    refine ⟨fun c7 => ?_, fun c7 => ?_⟩
    ·
      exact ⟨(show 0 ≤ 0 ∧ 0 ≤ 1 from by (first | omega | (simp only [st_s] <;> omega) | assumption | omega | fail)), (show ¬ 0 = 0 → σ.2.1 13 n1 = 2 ∧ ¬ σ.2.1 15 (σ.2.1 14 n1) = (σ.1 48) ∧ σ.2.1 14 n1 + 2 ≤ σ.2.1 14 (n1 + 1) ∧ ∀ k : Int, 0 ≤ k → k < σ.2.1 28 n1 → σ.2.1 13 (σ.2.1 29 (σ.2.1 27 n1 + k)) = 0 from by (first | (intro z; exfalso; omega) | exact fun _ => ⟨i67_4.1, i67_4.2.1, i67_4.2.2, i67_5⟩ | fail)), (show ¬ 0 = 0 → sm (g_cv (σ.2.1 14) (σ.2.1 16) n1) (σ.2.1 14 (n1 + 1) - σ.2.1 14 n1) = σ.2.1 28 n1 from by (first | (intro z; exfalso; omega) | (intro _; have c := i67_6.2; rw [show σ.2.1 14 (n1 + 1) - σ.2.1 14 n1 = u3_67 - σ.2.1 14 n1 from by omega, ← c]; omega) | fail))⟩
    ·
      refine ⟨_, K_X3_lengthOf hT (show 0 ≤ n1 from by (first | omega | (simp only [st_s] <;> omega) | assumption | omega | fail)) (show n1 < 1500 from by (first | omega | (simp only [st_s] <;> omega) | assumption | omega | fail)), ?_⟩
      intro x9 r_x9 hq
      have q8_1 := hq
      replace q8_1 : x9 = σ.2.1 14 (n1 + 1) - σ.2.1 14 n1 := q8_1
      refine ⟨fun c11 => ?_, fun c11 => ?_⟩
      ·
        have jf1 := (jf (by omega)).1
        refine ⟨_, K2_X0_hasEssential hT (show 0 ≤ n1 from by (first | omega | (simp only [st_s] <;> omega) | assumption | omega | fail)) (show n1 < 1500 from by (first | omega | (simp only [st_s] <;> omega) | assumption | omega | fail)) (show σ.2.1 27 n1 + σ.2.1 28 n1 ≤ 90000 from by (first | omega | (simp only [st_s] <;> omega) | assumption | omega | fail)), ?_⟩
        intro x13 r_x13 hq
        obtain ⟨q12_1, q12_2⟩ := hq
        replace q12_1 : 0 ≤ x13 ∧ x13 ≤ 1 := q12_1
        replace q12_2 : x13 = 0 → ∀ k : Int, 0 ≤ k → k < σ.2.1 28 n1 → ¬ σ.2.1 13 (σ.2.1 29 (σ.2.1 27 n1 + k)) = 1 := q12_2
        refine ⟨fun c15 => ?_, fun c15 => ?_⟩
        ·
          refine ⟨(show 0 ≤ n1 ∧ n1 < 1501 from by (first | omega | (simp only [st_s] <;> omega) | assumption | omega | fail)), ?_⟩
          intro x17 r_x17 e_x17
          have b_x17 : 0 ≤ x17 ∧ x17 ≤ 30000 := by rw [e_x17]; exact hT.2 14 _
          exact l_67 ((30001 - x17 : Int).toNat + 1) _ _ (show (30001 - x17 : Int) < (((30001 - x17 : Int).toNat + 1 : Nat) : Int) from by ((first | omega | (simp only [st_s] <;> omega) | assumption | omega | fail))) (show σ.2.1 14 n1 ≤ x17 ∧ x17 ≤ 30000 from by (first | omega | (simp only [st_s] <;> omega) | assumption | omega | fail)) (show 0 ≤ 0 from by (first | omega | (simp only [st_s] <;> omega) | assumption | omega | fail)) (show 0 ≤ x17 - σ.2.1 14 n1 from by (first | omega | (simp only [st_s] <;> omega) | assumption | omega | fail)) (show σ.2.1 13 n1 = 2 ∧ ¬ σ.2.1 15 (σ.2.1 14 n1) = (σ.1 48) ∧ σ.2.1 14 n1 + 2 ≤ σ.2.1 14 (n1 + 1) from by (first | omega | (simp only [st_s] <;> omega) | assumption | omega | fail)) (show ∀ k : Int, 0 ≤ k → k < σ.2.1 28 n1 → σ.2.1 13 (σ.2.1 29 (σ.2.1 27 n1 + k)) = 0 from by (first | exact i67_5 | (intro k a b; have w := q12_2 (by omega) k a b; have v := (jf (by omega)).2.1 k a b; have u := kd0 (σ.2.1 29 (σ.2.1 27 n1 + k)); omega) | fail)) (show x17 ≤ σ.2.1 14 (n1 + 1) ∧ 0 = sm (g_cv (σ.2.1 14) (σ.2.1 16) n1) (x17 - σ.2.1 14 n1) from by (first | (exfalso; omega) | (rw [e_x17, show σ.2.1 14 n1 - σ.2.1 14 n1 = 0 from by omega, sm_0]; exact ⟨by omega, rfl⟩) | (refine ⟨by omega, ?_⟩; rw [show u3_67 + 1 - σ.2.1 14 n1 = u3_67 - σ.2.1 14 n1 + 1 from by omega, sm_s _ (by omega), ← i67_6.2, cv25]; first | rw [if_pos (by assumption)] | rw [if_neg (by assumption)]) | fail))
        ·
          exact ⟨(show 0 ≤ 0 ∧ 0 ≤ 1 from by (first | omega | (simp only [st_s] <;> omega) | assumption | omega | fail)), (show ¬ 0 = 0 → σ.2.1 13 n1 = 2 ∧ ¬ σ.2.1 15 (σ.2.1 14 n1) = (σ.1 48) ∧ σ.2.1 14 n1 + 2 ≤ σ.2.1 14 (n1 + 1) ∧ ∀ k : Int, 0 ≤ k → k < σ.2.1 28 n1 → σ.2.1 13 (σ.2.1 29 (σ.2.1 27 n1 + k)) = 0 from by (first | (intro z; exfalso; omega) | exact fun _ => ⟨i67_4.1, i67_4.2.1, i67_4.2.2, i67_5⟩ | fail)), (show ¬ 0 = 0 → sm (g_cv (σ.2.1 14) (σ.2.1 16) n1) (σ.2.1 14 (n1 + 1) - σ.2.1 14 n1) = σ.2.1 28 n1 from by (first | (intro z; exfalso; omega) | (intro _; have c := i67_6.2; rw [show σ.2.1 14 (n1 + 1) - σ.2.1 14 n1 = u3_67 - σ.2.1 14 n1 from by omega, ← c]; omega) | fail))⟩
      ·
        exact ⟨(show 0 ≤ 0 ∧ 0 ≤ 1 from by (first | omega | (simp only [st_s] <;> omega) | assumption | omega | fail)), (show ¬ 0 = 0 → σ.2.1 13 n1 = 2 ∧ ¬ σ.2.1 15 (σ.2.1 14 n1) = (σ.1 48) ∧ σ.2.1 14 n1 + 2 ≤ σ.2.1 14 (n1 + 1) ∧ ∀ k : Int, 0 ≤ k → k < σ.2.1 28 n1 → σ.2.1 13 (σ.2.1 29 (σ.2.1 27 n1 + k)) = 0 from by (first | (intro z; exfalso; omega) | exact fun _ => ⟨i67_4.1, i67_4.2.1, i67_4.2.2, i67_5⟩ | fail)), (show ¬ 0 = 0 → sm (g_cv (σ.2.1 14) (σ.2.1 16) n1) (σ.2.1 14 (n1 + 1) - σ.2.1 14 n1) = σ.2.1 28 n1 from by (first | (intro z; exfalso; omega) | (intro _; have c := i67_6.2; rw [show σ.2.1 14 (n1 + 1) - σ.2.1 14 n1 = u3_67 - σ.2.1 14 n1 from by omega, ← c]; omega) | fail))⟩
set_option maxHeartbeats 4000000 in
theorem K_X8_insert {n1 : Int} {In0 : Int → Prop} {σ : S0} (hT : c_T σ) (p1 : 0 ≤ n1) (p2 : n1 < (σ.1 7)) (p3 : J_all (σ.1 7) (σ.1 6) (σ.1 13) (σ.1 14) (σ.1 15) (σ.2.1 13) (σ.2.1 14) (σ.2.1 15) (σ.2.1 16) (σ.2.1 10) (σ.2.1 27) (σ.2.1 28) (σ.2.1 29) (σ.2.1 30) (σ.2.1 31) (σ.2.1 32) (σ.2.1 33) (σ.2.1 34) (σ.2.1 35) (σ.2.1 36) (σ.2.1 37)) (p4 : g_rf n1 (σ.2.1 13) (σ.2.1 14) (σ.2.1 27) (σ.2.1 28) (σ.2.1 29)) (p5 : g_p1 σ n1) (p6 : (σ.1 45) ≤ σ.2.1 14 n1 + 1) (p7 : (σ.1 46) ≤ n1) (p8 : c_Uk n1 In0 σ) (p9 : J_rks (σ.1 5) (σ.1 4) (σ.2.1 10) (σ.2.1 11)) (p10 : J_vs (σ.1 6) (σ.1 5) (σ.2.1 15)) (p11 : g_nv n1 (σ.2.1 14) (σ.2.1 15) (σ.2.1 16)) : W_X8_insert n1 σ (fun (τ : S0) => (c_T τ) ∧ (c_Uk (n1 + 1) In0 τ) ∧ ((τ.1 45) ≤ σ.2.1 14 (n1 + 1) + 1) ∧ ((τ.1 46) ≤ n1 + 1)) := by
  have A2 : ∀ j, 0 ≤ σ.2.1 2 j ∧ σ.2.1 2 j ≤ 65535 := fun j => hT.2 2 j
  have A3 : ∀ j, 0 ≤ σ.2.1 3 j ∧ σ.2.1 3 j ≤ 30000 := fun j => hT.2 3 j
  have A4 : ∀ j, (-1000) ≤ σ.2.1 4 j ∧ σ.2.1 4 j ≤ 1499 := fun j => hT.2 4 j
  have A8 : ∀ j, 0 ≤ σ.2.1 8 j ∧ σ.2.1 8 j ≤ 1 := fun j => hT.2 8 j
  have A10 : ∀ j, (-1) ≤ σ.2.1 10 j ∧ σ.2.1 10 j ≤ 99 := fun j => hT.2 10 j
  have A11 : ∀ j, 0 ≤ σ.2.1 11 j ∧ σ.2.1 11 j ≤ 999 := fun j => hT.2 11 j
  have A13 : ∀ j, 0 ≤ σ.2.1 13 j ∧ σ.2.1 13 j ≤ 4 := fun j => hT.2 13 j
  have A14 : ∀ j, 0 ≤ σ.2.1 14 j ∧ σ.2.1 14 j ≤ 30000 := fun j => hT.2 14 j
  have A15 : ∀ j, 0 ≤ σ.2.1 15 j ∧ σ.2.1 15 j ≤ 999 := fun j => hT.2 15 j
  have A16 : ∀ j, (-1) ≤ σ.2.1 16 j ∧ σ.2.1 16 j ≤ 1499 := fun j => hT.2 16 j
  have A27 : ∀ j, 0 ≤ σ.2.1 27 j ∧ σ.2.1 27 j ≤ 90000 := fun j => hT.2 27 j
  have A28 : ∀ j, 0 ≤ σ.2.1 28 j ∧ σ.2.1 28 j ≤ 60 := fun j => hT.2 28 j
  have A29 : ∀ j, 0 ≤ σ.2.1 29 j ∧ σ.2.1 29 j ≤ 1499 := fun j => hT.2 29 j
  have A30 : ∀ j, 0 ≤ σ.2.1 30 j ∧ σ.2.1 30 j ≤ 20000 := fun j => hT.2 30 j
  have A31 : ∀ j, 0 ≤ σ.2.1 31 j ∧ σ.2.1 31 j ≤ 20000 := fun j => hT.2 31 j
  have A32 : ∀ j, 0 ≤ σ.2.1 32 j ∧ σ.2.1 32 j ≤ 999999 := fun j => hT.2 32 j
  have A33 : ∀ j, 0 ≤ σ.2.1 33 j ∧ σ.2.1 33 j ≤ 20000 := fun j => hT.2 33 j
  have A34 : ∀ j, 0 ≤ σ.2.1 34 j ∧ σ.2.1 34 j ≤ 20000 := fun j => hT.2 34 j
  have A35 : ∀ j, 0 ≤ σ.2.1 35 j ∧ σ.2.1 35 j ≤ 1499 := fun j => hT.2 35 j
  have A36 : ∀ j, 0 ≤ σ.2.1 36 j ∧ σ.2.1 36 j ≤ 20000 := fun j => hT.2 36 j
  have A37 : ∀ j, 0 ≤ σ.2.1 37 j ∧ σ.2.1 37 j ≤ 19999 := fun j => hT.2 37 j
  have A67 : ∀ j, 0 ≤ σ.2.1 67 j ∧ σ.2.1 67 j ≤ 30000 := fun j => hT.2 67 j
  have A68 : ∀ j, 0 ≤ σ.2.1 68 j ∧ σ.2.1 68 j ≤ 30000 := fun j => hT.2 68 j
  have A69 : ∀ j, (-100) ≤ σ.2.1 69 j ∧ σ.2.1 69 j ≤ 999 := fun j => hT.2 69 j
  have A70 : ∀ j, 0 ≤ σ.2.1 70 j ∧ σ.2.1 70 j ≤ 1499 := fun j => hT.2 70 j
  have A71 : ∀ j, 0 ≤ σ.2.1 71 j ∧ σ.2.1 71 j ≤ 1500 := fun j => hT.2 71 j
  have A72 : ∀ j, 0 ≤ σ.2.1 72 j ∧ σ.2.1 72 j ≤ 1500 := fun j => hT.2 72 j
  have A73 : ∀ j, 0 ≤ σ.2.1 73 j ∧ σ.2.1 73 j ≤ 30000 := fun j => hT.2 73 j
  have A74 : ∀ j, 0 ≤ σ.2.1 74 j ∧ σ.2.1 74 j ≤ 30000 := fun j => hT.2 74 j
  have A75 : ∀ j, 0 ≤ σ.2.1 75 j ∧ σ.2.1 75 j ≤ 1499 := fun j => hT.2 75 j
  have A76 : ∀ j, 0 ≤ σ.2.1 76 j ∧ σ.2.1 76 j ≤ 99 := fun j => hT.2 76 j
  have v3 : 0 ≤ σ.1 3 ∧ σ.1 3 ≤ 2500 := hT.1 3
  have v4 : 0 ≤ σ.1 4 ∧ σ.1 4 ≤ 100 := hT.1 4
  have v5 : 0 ≤ σ.1 5 ∧ σ.1 5 ≤ 1000 := hT.1 5
  have v6 : 0 ≤ σ.1 6 ∧ σ.1 6 ≤ 30000 := hT.1 6
  have v7 : 0 ≤ σ.1 7 ∧ σ.1 7 ≤ 1500 := hT.1 7
  have v13 : 0 ≤ σ.1 13 ∧ σ.1 13 ≤ 90000 := hT.1 13
  have v14 : 0 ≤ σ.1 14 ∧ σ.1 14 ≤ 20000 := hT.1 14
  have v15 : 0 ≤ σ.1 15 ∧ σ.1 15 ≤ 20000 := hT.1 15
  have v45 : 1 ≤ σ.1 45 ∧ σ.1 45 ≤ 30001 := hT.1 45
  have v46 : 0 ≤ σ.1 46 ∧ σ.1 46 ≤ 1500 := hT.1 46
  have W3 : σ.1 3 = σ.1 3 := rfl
  have W4 : σ.1 4 = σ.1 4 := rfl
  have W5 : σ.1 5 = σ.1 5 := rfl
  have W6 : σ.1 6 = σ.1 6 := rfl
  have W7 : σ.1 7 = σ.1 7 := rfl
  have W13 : σ.1 13 = σ.1 13 := rfl
  have W14 : σ.1 14 = σ.1 14 := rfl
  have W15 : σ.1 15 = σ.1 15 := rfl
  have G2 : σ.2.1 2 = σ.2.1 2 := rfl
  have G3 : σ.2.1 3 = σ.2.1 3 := rfl
  have G4 : σ.2.1 4 = σ.2.1 4 := rfl
  have G8 : σ.2.1 8 = σ.2.1 8 := rfl
  have G10 : σ.2.1 10 = σ.2.1 10 := rfl
  have G11 : σ.2.1 11 = σ.2.1 11 := rfl
  have G13 : σ.2.1 13 = σ.2.1 13 := rfl
  have G14 : σ.2.1 14 = σ.2.1 14 := rfl
  have G15 : σ.2.1 15 = σ.2.1 15 := rfl
  have G16 : σ.2.1 16 = σ.2.1 16 := rfl
  have G27 : σ.2.1 27 = σ.2.1 27 := rfl
  have G28 : σ.2.1 28 = σ.2.1 28 := rfl
  have G29 : σ.2.1 29 = σ.2.1 29 := rfl
  have G30 : σ.2.1 30 = σ.2.1 30 := rfl
  have G31 : σ.2.1 31 = σ.2.1 31 := rfl
  have G32 : σ.2.1 32 = σ.2.1 32 := rfl
  have G33 : σ.2.1 33 = σ.2.1 33 := rfl
  have G34 : σ.2.1 34 = σ.2.1 34 := rfl
  have G35 : σ.2.1 35 = σ.2.1 35 := rfl
  have G36 : σ.2.1 36 = σ.2.1 36 := rfl
  have G37 : σ.2.1 37 = σ.2.1 37 := rfl
  intro P14 P79 h14 h79
  obtain ⟨par, nof, In, hU, hI0⟩ := p8
  have jt := (p3.1 n1 p1 p2).1
  have jt1 := jt.1
  have jts := fun f a b => (p3.1 f a b).1.1
  have b14 := A14 (n1 + 1)
  have s14 := fun f => A14 (f + 1)
  have rf2 := p4.2.1
  have rkt := fun f a b => (p3.1 f a b).1.2.1
  have rkl := p9.2
  have txl := p10
  have s15 := A15
  have s14a := A14
  have TX : J_vs (σ.1 6) (σ.1 5) (σ.2.1 15) := p10
  have RKS : J_rks (σ.1 5) (σ.1 4) (σ.2.1 10) (σ.2.1 11) := p9
  have CJ : J_all (σ.1 7) (σ.1 6) (σ.1 13) (σ.1 14) (σ.1 15) (σ.2.1 13) (σ.2.1 14) (σ.2.1 15) (σ.2.1 16) (σ.2.1 10) (σ.2.1 27) (σ.2.1 28) (σ.2.1 29) (σ.2.1 30) (σ.2.1 31) (σ.2.1 32) (σ.2.1 33) (σ.2.1 34) (σ.2.1 35) (σ.2.1 36) (σ.2.1 37) := p3
  have CJ_0 := CJ
  have RKS_0 := RKS
  have TX_0 := TX
  have l_14 : ∀ (m_14 : Nat) (u2_14 : Int) (u3_14 : Int) (τ_14 : S0), 30001 - u3_14 < (m_14 : Int) → (c_T τ_14) → (τ_14.1 3 = σ.1 3) → (τ_14.1 4 = σ.1 4) → (τ_14.1 5 = σ.1 5) → (τ_14.1 6 = σ.1 6) → (τ_14.1 7 = σ.1 7) → (τ_14.1 13 = σ.1 13) → (τ_14.1 14 = σ.1 14) → (τ_14.1 15 = σ.1 15) → (τ_14.2.1 2 = σ.2.1 2) → (τ_14.2.1 3 = σ.2.1 3) → (τ_14.2.1 4 = σ.2.1 4) → (τ_14.2.1 8 = σ.2.1 8) → (τ_14.2.1 10 = σ.2.1 10) → (τ_14.2.1 11 = σ.2.1 11) → (τ_14.2.1 13 = σ.2.1 13) → (τ_14.2.1 14 = σ.2.1 14) → (τ_14.2.1 15 = σ.2.1 15) → (τ_14.2.1 16 = σ.2.1 16) → (τ_14.2.1 27 = σ.2.1 27) → (τ_14.2.1 28 = σ.2.1 28) → (τ_14.2.1 29 = σ.2.1 29) → (τ_14.2.1 30 = σ.2.1 30) → (τ_14.2.1 31 = σ.2.1 31) → (τ_14.2.1 32 = σ.2.1 32) → (τ_14.2.1 33 = σ.2.1 33) → (τ_14.2.1 34 = σ.2.1 34) → (τ_14.2.1 35 = σ.2.1 35) → (τ_14.2.1 36 = σ.2.1 36) → (τ_14.2.1 37 = σ.2.1 37) → (σ.2.1 14 n1 + 1 ≤ u3_14) → (u3_14 ≤ σ.2.1 14 (n1 + 1)) → (c_Up n1 (u3_14 - σ.2.1 14 n1 - 1) u2_14 τ_14 nof In) → ((τ_14.1 45) ≤ u3_14) → ((τ_14.1 46) = (σ.1 46)) → (0 ≤ u2_14 ∧ u2_14 < (τ_14.1 45)) → ((τ_14.1 3) = (σ.1 3)) → P14 n1 u2_14 u3_14 τ_14 := by
    intro m_14
    induction m_14 with
    | zero =>
      intro u2_14 u3_14 τ_14 hm hT W3 W4 W5 W6 W7 W13 W14 W15 G2 G3 G4 G8 G10 G11 G13 G14 G15 G16 G27 G28 G29 G30 G31 G32 G33 G34 G35 G36 G37 i14_1 i14_2 i14_3 i14_4 i14_5 i14_6 i14_7
      have A2 : ∀ j, 0 ≤ τ_14.2.1 2 j ∧ τ_14.2.1 2 j ≤ 65535 := fun j => hT.2 2 j
      have A3 : ∀ j, 0 ≤ τ_14.2.1 3 j ∧ τ_14.2.1 3 j ≤ 30000 := fun j => hT.2 3 j
      have A4 : ∀ j, (-1000) ≤ τ_14.2.1 4 j ∧ τ_14.2.1 4 j ≤ 1499 := fun j => hT.2 4 j
      have A8 : ∀ j, 0 ≤ τ_14.2.1 8 j ∧ τ_14.2.1 8 j ≤ 1 := fun j => hT.2 8 j
      have A10 : ∀ j, (-1) ≤ τ_14.2.1 10 j ∧ τ_14.2.1 10 j ≤ 99 := fun j => hT.2 10 j
      have A11 : ∀ j, 0 ≤ τ_14.2.1 11 j ∧ τ_14.2.1 11 j ≤ 999 := fun j => hT.2 11 j
      have A13 : ∀ j, 0 ≤ τ_14.2.1 13 j ∧ τ_14.2.1 13 j ≤ 4 := fun j => hT.2 13 j
      have A14 : ∀ j, 0 ≤ τ_14.2.1 14 j ∧ τ_14.2.1 14 j ≤ 30000 := fun j => hT.2 14 j
      have A15 : ∀ j, 0 ≤ τ_14.2.1 15 j ∧ τ_14.2.1 15 j ≤ 999 := fun j => hT.2 15 j
      have A16 : ∀ j, (-1) ≤ τ_14.2.1 16 j ∧ τ_14.2.1 16 j ≤ 1499 := fun j => hT.2 16 j
      have A27 : ∀ j, 0 ≤ τ_14.2.1 27 j ∧ τ_14.2.1 27 j ≤ 90000 := fun j => hT.2 27 j
      have A28 : ∀ j, 0 ≤ τ_14.2.1 28 j ∧ τ_14.2.1 28 j ≤ 60 := fun j => hT.2 28 j
      have A29 : ∀ j, 0 ≤ τ_14.2.1 29 j ∧ τ_14.2.1 29 j ≤ 1499 := fun j => hT.2 29 j
      have A30 : ∀ j, 0 ≤ τ_14.2.1 30 j ∧ τ_14.2.1 30 j ≤ 20000 := fun j => hT.2 30 j
      have A31 : ∀ j, 0 ≤ τ_14.2.1 31 j ∧ τ_14.2.1 31 j ≤ 20000 := fun j => hT.2 31 j
      have A32 : ∀ j, 0 ≤ τ_14.2.1 32 j ∧ τ_14.2.1 32 j ≤ 999999 := fun j => hT.2 32 j
      have A33 : ∀ j, 0 ≤ τ_14.2.1 33 j ∧ τ_14.2.1 33 j ≤ 20000 := fun j => hT.2 33 j
      have A34 : ∀ j, 0 ≤ τ_14.2.1 34 j ∧ τ_14.2.1 34 j ≤ 20000 := fun j => hT.2 34 j
      have A35 : ∀ j, 0 ≤ τ_14.2.1 35 j ∧ τ_14.2.1 35 j ≤ 1499 := fun j => hT.2 35 j
      have A36 : ∀ j, 0 ≤ τ_14.2.1 36 j ∧ τ_14.2.1 36 j ≤ 20000 := fun j => hT.2 36 j
      have A37 : ∀ j, 0 ≤ τ_14.2.1 37 j ∧ τ_14.2.1 37 j ≤ 19999 := fun j => hT.2 37 j
      have A67 : ∀ j, 0 ≤ τ_14.2.1 67 j ∧ τ_14.2.1 67 j ≤ 30000 := fun j => hT.2 67 j
      have A68 : ∀ j, 0 ≤ τ_14.2.1 68 j ∧ τ_14.2.1 68 j ≤ 30000 := fun j => hT.2 68 j
      have A69 : ∀ j, (-100) ≤ τ_14.2.1 69 j ∧ τ_14.2.1 69 j ≤ 999 := fun j => hT.2 69 j
      have A70 : ∀ j, 0 ≤ τ_14.2.1 70 j ∧ τ_14.2.1 70 j ≤ 1499 := fun j => hT.2 70 j
      have A71 : ∀ j, 0 ≤ τ_14.2.1 71 j ∧ τ_14.2.1 71 j ≤ 1500 := fun j => hT.2 71 j
      have A72 : ∀ j, 0 ≤ τ_14.2.1 72 j ∧ τ_14.2.1 72 j ≤ 1500 := fun j => hT.2 72 j
      have A73 : ∀ j, 0 ≤ τ_14.2.1 73 j ∧ τ_14.2.1 73 j ≤ 30000 := fun j => hT.2 73 j
      have A74 : ∀ j, 0 ≤ τ_14.2.1 74 j ∧ τ_14.2.1 74 j ≤ 30000 := fun j => hT.2 74 j
      have A75 : ∀ j, 0 ≤ τ_14.2.1 75 j ∧ τ_14.2.1 75 j ≤ 1499 := fun j => hT.2 75 j
      have A76 : ∀ j, 0 ≤ τ_14.2.1 76 j ∧ τ_14.2.1 76 j ≤ 99 := fun j => hT.2 76 j
      have v3 : 0 ≤ τ_14.1 3 ∧ τ_14.1 3 ≤ 2500 := hT.1 3
      have v4 : 0 ≤ τ_14.1 4 ∧ τ_14.1 4 ≤ 100 := hT.1 4
      have v5 : 0 ≤ τ_14.1 5 ∧ τ_14.1 5 ≤ 1000 := hT.1 5
      have v6 : 0 ≤ τ_14.1 6 ∧ τ_14.1 6 ≤ 30000 := hT.1 6
      have v7 : 0 ≤ τ_14.1 7 ∧ τ_14.1 7 ≤ 1500 := hT.1 7
      have v13 : 0 ≤ τ_14.1 13 ∧ τ_14.1 13 ≤ 90000 := hT.1 13
      have v14 : 0 ≤ τ_14.1 14 ∧ τ_14.1 14 ≤ 20000 := hT.1 14
      have v15 : 0 ≤ τ_14.1 15 ∧ τ_14.1 15 ≤ 20000 := hT.1 15
      have v45 : 1 ≤ τ_14.1 45 ∧ τ_14.1 45 ≤ 30001 := hT.1 45
      have v46 : 0 ≤ τ_14.1 46 ∧ τ_14.1 46 ≤ 1500 := hT.1 46
      exfalso; (first | omega | (simp only [st_s] <;> omega) | assumption | omega | fail)
    | succ m_14 ih_14 =>
      intro u2_14 u3_14 τ_14 hm_14 hT W3 W4 W5 W6 W7 W13 W14 W15 G2 G3 G4 G8 G10 G11 G13 G14 G15 G16 G27 G28 G29 G30 G31 G32 G33 G34 G35 G36 G37 i14_1 i14_2 i14_3 i14_4 i14_5 i14_6 i14_7
      have A2 : ∀ j, 0 ≤ τ_14.2.1 2 j ∧ τ_14.2.1 2 j ≤ 65535 := fun j => hT.2 2 j
      have A3 : ∀ j, 0 ≤ τ_14.2.1 3 j ∧ τ_14.2.1 3 j ≤ 30000 := fun j => hT.2 3 j
      have A4 : ∀ j, (-1000) ≤ τ_14.2.1 4 j ∧ τ_14.2.1 4 j ≤ 1499 := fun j => hT.2 4 j
      have A8 : ∀ j, 0 ≤ τ_14.2.1 8 j ∧ τ_14.2.1 8 j ≤ 1 := fun j => hT.2 8 j
      have A10 : ∀ j, (-1) ≤ τ_14.2.1 10 j ∧ τ_14.2.1 10 j ≤ 99 := fun j => hT.2 10 j
      have A11 : ∀ j, 0 ≤ τ_14.2.1 11 j ∧ τ_14.2.1 11 j ≤ 999 := fun j => hT.2 11 j
      have A13 : ∀ j, 0 ≤ τ_14.2.1 13 j ∧ τ_14.2.1 13 j ≤ 4 := fun j => hT.2 13 j
      have A14 : ∀ j, 0 ≤ τ_14.2.1 14 j ∧ τ_14.2.1 14 j ≤ 30000 := fun j => hT.2 14 j
      have A15 : ∀ j, 0 ≤ τ_14.2.1 15 j ∧ τ_14.2.1 15 j ≤ 999 := fun j => hT.2 15 j
      have A16 : ∀ j, (-1) ≤ τ_14.2.1 16 j ∧ τ_14.2.1 16 j ≤ 1499 := fun j => hT.2 16 j
      have A27 : ∀ j, 0 ≤ τ_14.2.1 27 j ∧ τ_14.2.1 27 j ≤ 90000 := fun j => hT.2 27 j
      have A28 : ∀ j, 0 ≤ τ_14.2.1 28 j ∧ τ_14.2.1 28 j ≤ 60 := fun j => hT.2 28 j
      have A29 : ∀ j, 0 ≤ τ_14.2.1 29 j ∧ τ_14.2.1 29 j ≤ 1499 := fun j => hT.2 29 j
      have A30 : ∀ j, 0 ≤ τ_14.2.1 30 j ∧ τ_14.2.1 30 j ≤ 20000 := fun j => hT.2 30 j
      have A31 : ∀ j, 0 ≤ τ_14.2.1 31 j ∧ τ_14.2.1 31 j ≤ 20000 := fun j => hT.2 31 j
      have A32 : ∀ j, 0 ≤ τ_14.2.1 32 j ∧ τ_14.2.1 32 j ≤ 999999 := fun j => hT.2 32 j
      have A33 : ∀ j, 0 ≤ τ_14.2.1 33 j ∧ τ_14.2.1 33 j ≤ 20000 := fun j => hT.2 33 j
      have A34 : ∀ j, 0 ≤ τ_14.2.1 34 j ∧ τ_14.2.1 34 j ≤ 20000 := fun j => hT.2 34 j
      have A35 : ∀ j, 0 ≤ τ_14.2.1 35 j ∧ τ_14.2.1 35 j ≤ 1499 := fun j => hT.2 35 j
      have A36 : ∀ j, 0 ≤ τ_14.2.1 36 j ∧ τ_14.2.1 36 j ≤ 20000 := fun j => hT.2 36 j
      have A37 : ∀ j, 0 ≤ τ_14.2.1 37 j ∧ τ_14.2.1 37 j ≤ 19999 := fun j => hT.2 37 j
      have A67 : ∀ j, 0 ≤ τ_14.2.1 67 j ∧ τ_14.2.1 67 j ≤ 30000 := fun j => hT.2 67 j
      have A68 : ∀ j, 0 ≤ τ_14.2.1 68 j ∧ τ_14.2.1 68 j ≤ 30000 := fun j => hT.2 68 j
      have A69 : ∀ j, (-100) ≤ τ_14.2.1 69 j ∧ τ_14.2.1 69 j ≤ 999 := fun j => hT.2 69 j
      have A70 : ∀ j, 0 ≤ τ_14.2.1 70 j ∧ τ_14.2.1 70 j ≤ 1499 := fun j => hT.2 70 j
      have A71 : ∀ j, 0 ≤ τ_14.2.1 71 j ∧ τ_14.2.1 71 j ≤ 1500 := fun j => hT.2 71 j
      have A72 : ∀ j, 0 ≤ τ_14.2.1 72 j ∧ τ_14.2.1 72 j ≤ 1500 := fun j => hT.2 72 j
      have A73 : ∀ j, 0 ≤ τ_14.2.1 73 j ∧ τ_14.2.1 73 j ≤ 30000 := fun j => hT.2 73 j
      have A74 : ∀ j, 0 ≤ τ_14.2.1 74 j ∧ τ_14.2.1 74 j ≤ 30000 := fun j => hT.2 74 j
      have A75 : ∀ j, 0 ≤ τ_14.2.1 75 j ∧ τ_14.2.1 75 j ≤ 1499 := fun j => hT.2 75 j
      have A76 : ∀ j, 0 ≤ τ_14.2.1 76 j ∧ τ_14.2.1 76 j ≤ 99 := fun j => hT.2 76 j
      have v3 : 0 ≤ τ_14.1 3 ∧ τ_14.1 3 ≤ 2500 := hT.1 3
      have v4 : 0 ≤ τ_14.1 4 ∧ τ_14.1 4 ≤ 100 := hT.1 4
      have v5 : 0 ≤ τ_14.1 5 ∧ τ_14.1 5 ≤ 1000 := hT.1 5
      have v6 : 0 ≤ τ_14.1 6 ∧ τ_14.1 6 ≤ 30000 := hT.1 6
      have v7 : 0 ≤ τ_14.1 7 ∧ τ_14.1 7 ≤ 1500 := hT.1 7
      have v13 : 0 ≤ τ_14.1 13 ∧ τ_14.1 13 ≤ 90000 := hT.1 13
      have v14 : 0 ≤ τ_14.1 14 ∧ τ_14.1 14 ≤ 20000 := hT.1 14
      have v15 : 0 ≤ τ_14.1 15 ∧ τ_14.1 15 ≤ 20000 := hT.1 15
      have v45 : 1 ≤ τ_14.1 45 ∧ τ_14.1 45 ≤ 30001 := hT.1 45
      have v46 : 0 ≤ τ_14.1 46 ∧ τ_14.1 46 ≤ 1500 := hT.1 46
      have TX : J_vs (τ_14.1 6) (τ_14.1 5) (τ_14.2.1 15) := by rw [show (J_vs (τ_14.1 6) (τ_14.1 5) (τ_14.2.1 15)) = (J_vs (σ.1 6) (σ.1 5) (σ.2.1 15)) from by rw [W5, W6, G15]]; exact TX_0
      have RKS : J_rks (τ_14.1 5) (τ_14.1 4) (τ_14.2.1 10) (τ_14.2.1 11) := by rw [show (J_rks (τ_14.1 5) (τ_14.1 4) (τ_14.2.1 10) (τ_14.2.1 11)) = (J_rks (σ.1 5) (σ.1 4) (σ.2.1 10) (σ.2.1 11)) from by rw [W4, W5, G10, G11]]; exact RKS_0
      have CJ : J_all (τ_14.1 7) (τ_14.1 6) (τ_14.1 13) (τ_14.1 14) (τ_14.1 15) (τ_14.2.1 13) (τ_14.2.1 14) (τ_14.2.1 15) (τ_14.2.1 16) (τ_14.2.1 10) (τ_14.2.1 27) (τ_14.2.1 28) (τ_14.2.1 29) (τ_14.2.1 30) (τ_14.2.1 31) (τ_14.2.1 32) (τ_14.2.1 33) (τ_14.2.1 34) (τ_14.2.1 35) (τ_14.2.1 36) (τ_14.2.1 37) := by rw [show (J_all (τ_14.1 7) (τ_14.1 6) (τ_14.1 13) (τ_14.1 14) (τ_14.1 15) (τ_14.2.1 13) (τ_14.2.1 14) (τ_14.2.1 15) (τ_14.2.1 16) (τ_14.2.1 10) (τ_14.2.1 27) (τ_14.2.1 28) (τ_14.2.1 29) (τ_14.2.1 30) (τ_14.2.1 31) (τ_14.2.1 32) (τ_14.2.1 33) (τ_14.2.1 34) (τ_14.2.1 35) (τ_14.2.1 36) (τ_14.2.1 37)) = (J_all (σ.1 7) (σ.1 6) (σ.1 13) (σ.1 14) (σ.1 15) (σ.2.1 13) (σ.2.1 14) (σ.2.1 15) (σ.2.1 16) (σ.2.1 10) (σ.2.1 27) (σ.2.1 28) (σ.2.1 29) (σ.2.1 30) (σ.2.1 31) (σ.2.1 32) (σ.2.1 33) (σ.2.1 34) (σ.2.1 35) (σ.2.1 36) (σ.2.1 37)) from by rw [W6, W7, W13, W14, W15, G10, G13, G14, G15, G16, G27, G28, G29, G30, G31, G32, G33, G34, G35, G36, G37]]; exact CJ_0
      have G14o := G14
      refine h14 n1 u2_14 u3_14 τ_14 ?_
      refine ⟨(show 0 ≤ (n1 + 1) ∧ (n1 + 1) < 1501 from by (first | omega | (simp only [st_s] <;> omega) | assumption | omega | fail)), ?_⟩
      intro x5 r_x5 e_x5
      have b_x5 : 0 ≤ x5 ∧ x5 ≤ 30000 := by rw [e_x5]; exact hT.2 14 _
      rw [G14] at e_x5
      refine ⟨fun c6 => ?_, fun c6 => ?_⟩
      ·
        refine ⟨(show 0 ≤ u2_14 ∧ u2_14 < 30001 from by (first | omega | (simp only [st_s] <;> omega) | assumption | omega | fail)), ?_⟩
        intro x8 r_x8 e_x8
        have b_x8 : 0 ≤ x8 ∧ x8 ≤ 1500 := by rw [e_x8]; exact hT.2 71 _
        refine ⟨(show 0 ≤ n1 ∧ n1 < 1500 from by (first | omega | (simp only [st_s] <;> omega) | assumption | omega | fail)), ?_⟩
        replace hT := cT_a (k := 72) (j := n1) hT (show (0 : Int) ≤ x8 ∧ x8 ≤ 1500 from by (first | omega | (simp only [st_s] <;> omega) | assumption | omega | fail))
        replace hT := cT_a (k := 71) (j := u2_14) hT (show (0 : Int) ≤ (n1 + 1) ∧ (n1 + 1) ≤ 1500 from by (first | omega | (simp only [st_s] <;> omega) | assumption | omega | fail))
        refine ⟨(show 0 ≤ n1 ∧ n1 < 1501 from by (first | omega | (simp only [st_s] <;> omega) | assumption | omega | fail)), ?_⟩
        intro x11 r_x11 e_x11
        have b_x11 : 0 ≤ x11 ∧ x11 ≤ 30000 := by rw [e_x11]; exact hT.2 14 _
        rw [G14] at e_x11
        refine ⟨(show 0 ≤ (x11 + 1) ∧ (x11 + 1) < 30000 from by (first | omega | (simp only [st_s] <;> omega) | assumption | omega | fail)), ?_⟩
        intro x13 r_x13 e_x13
        have b_x13 : (-1) ≤ x13 ∧ x13 ≤ 1499 := by rw [e_x13]; exact hT.2 16 _
        have e13 : x13 = σ.2.1 16 (σ.2.1 14 n1 + 1) := by rw [e_x13, e_x11, G16]
        refine ⟨_, K_X3_lengthOf hT (show 0 ≤ n1 from by (first | omega | (simp only [st_s] <;> omega) | assumption | omega | fail)) (show n1 < 1500 from by (first | omega | (simp only [st_s] <;> omega) | assumption | omega | fail)), ?_⟩
        intro x15 r_x15 hq
        have q14_1 := hq
        replace q14_1 : x15 = τ_14.2.1 14 (n1 + 1) - τ_14.2.1 14 n1 := q14_1
        rw [G14] at q14_1
        refine ⟨fun c17 => ?_, fun c17 => ?_⟩
        ·
          exact ⟨hT, (show c_Uk (n1 + 1) In0 (s_a (s_a τ_14 72 n1 x8) 71 u2_14 (n1 + 1)) from by exact c_Up_e (σ := τ_14) (by rw [G14, show σ.2.1 14 (n1 + 1) - σ.2.1 14 n1 - 1 = u3_14 - σ.2.1 14 n1 - 1 from by omega]; exact i14_3) p1 (by omega) (by rw [G13, G14, G27, G28, G29]; exact p4) (g_p1_e i14_7 G2 G3 G4 G8 G14 G15 p5) (by rw [G14, G15, G16]; exact p11) hI0 rfl (by rw [← e_x8]; rfl) (fun i hi => by simp only [List.mem_cons, List.mem_nil_iff, or_false] at hi; rcases hi with rfl | rfl | rfl <;> rfl) (fun i hi => by simp only [List.mem_cons, List.mem_nil_iff, or_false] at hi; rcases hi with rfl | rfl | rfl | rfl | rfl | rfl | rfl | rfl | rfl | rfl | rfl | rfl | rfl | rfl | rfl | rfl | rfl | rfl <;> rfl) (by first | exact Or.inl ⟨fun q => by rw [G14, G16] at q; omega, rfl, rfl, rfl⟩ | exact Or.inr ⟨by rw [G14]; omega, by rw [G14, G16, ← e13]; omega, rfl, rfl, by rw [show τ_14.2.1 16 (τ_14.2.1 14 n1 + 1) = x13 from by rw [e13, G14, G16], ← q20_1, ← e_x24]; rfl⟩)), (show (τ_14.1 45) ≤ σ.2.1 14 (n1 + 1) + 1 from by (first | omega | (simp only [st_s] <;> omega) | assumption | omega | fail)), (show (τ_14.1 46) ≤ n1 + 1 from by (first | omega | (simp only [st_s] <;> omega) | assumption | omega | fail))⟩
        ·
          refine ⟨fun c18 => ?_, fun c18 => ?_⟩
          ·
            exact ⟨hT, (show c_Uk (n1 + 1) In0 (s_a (s_a τ_14 72 n1 x8) 71 u2_14 (n1 + 1)) from by exact c_Up_e (σ := τ_14) (by rw [G14, show σ.2.1 14 (n1 + 1) - σ.2.1 14 n1 - 1 = u3_14 - σ.2.1 14 n1 - 1 from by omega]; exact i14_3) p1 (by omega) (by rw [G13, G14, G27, G28, G29]; exact p4) (g_p1_e i14_7 G2 G3 G4 G8 G14 G15 p5) (by rw [G14, G15, G16]; exact p11) hI0 rfl (by rw [← e_x8]; rfl) (fun i hi => by simp only [List.mem_cons, List.mem_nil_iff, or_false] at hi; rcases hi with rfl | rfl | rfl <;> rfl) (fun i hi => by simp only [List.mem_cons, List.mem_nil_iff, or_false] at hi; rcases hi with rfl | rfl | rfl | rfl | rfl | rfl | rfl | rfl | rfl | rfl | rfl | rfl | rfl | rfl | rfl | rfl | rfl | rfl <;> rfl) (by first | exact Or.inl ⟨fun q => by rw [G14, G16] at q; omega, rfl, rfl, rfl⟩ | exact Or.inr ⟨by rw [G14]; omega, by rw [G14, G16, ← e13]; omega, rfl, rfl, by rw [show τ_14.2.1 16 (τ_14.2.1 14 n1 + 1) = x13 from by rw [e13, G14, G16], ← q20_1, ← e_x24]; rfl⟩)), (show (τ_14.1 45) ≤ σ.2.1 14 (n1 + 1) + 1 from by (first | omega | (simp only [st_s] <;> omega) | assumption | omega | fail)), (show (τ_14.1 46) ≤ n1 + 1 from by (first | omega | (simp only [st_s] <;> omega) | assumption | omega | fail))⟩
          ·
            refine ⟨(show 0 ≤ τ_14.1 46 ∧ τ_14.1 46 < 1500 from by (first | omega | (simp only [st_s] <;> omega) | assumption | omega | fail)), ?_⟩
            replace hT := cT_a (k := 75) (j := (τ_14.1 46)) hT (show (0 : Int) ≤ n1 ∧ n1 ≤ 1499 from by (first | omega | (simp only [st_s] <;> omega) | assumption | omega | fail))
            have ju := jt.2.2 (σ.2.1 14 n1 + 1) (by omega) (by omega)
            rw [← e13] at ju
            have fx := jts x13 (by omega) (by omega)
            have sx := s14 x13
            have rx := rkt x13 (by omega) (by omega)
            refine ⟨_, K_X3_typeOf hT (show 0 ≤ x13 from by (first | omega | (simp only [st_s] <;> omega) | assumption | omega | fail)) (show x13 ≤ 1500 from by (first | omega | (simp only [st_s] <;> omega) | assumption | omega | fail)) (show τ_14.2.1 14 x13 < 30000 from by (rw [G14]; omega)), ?_⟩
            intro x21 r_x21 hq
            obtain ⟨q20_1, q20_2⟩ := hq
            replace q20_1 : x21 = τ_14.2.1 15 (τ_14.2.1 14 x13) := q20_1
            replace q20_2 : 0 ≤ x21 ∧ x21 ≤ 999 := q20_2
            refine ⟨(show 0 ≤ x21 ∧ x21 < 1000 from by (first | omega | (simp only [st_s] <;> omega) | assumption | omega | fail)), ?_⟩
            intro x24 r_x24 e_x24
            have b_x24 : (-1) ≤ x24 ∧ x24 ≤ 99 := by rw [e_x24]; exact hT.2 10 _
            have ex24 : x24 = σ.2.1 10 (σ.2.1 15 (σ.2.1 14 x13)) := by rw [e_x24, q20_1, G10, G15, G14]
            have kx24 := (rkl (σ.2.1 15 (σ.2.1 14 x13)) (s15 _).1 (txl (σ.2.1 14 x13) (s14a _).1 (by omega))).1
            replace hT := cT_a (k := 76) (j := (τ_14.1 46)) hT (show (0 : Int) ≤ x24 ∧ x24 ≤ 99 from by (first | omega | (simp only [st_s] <;> omega) | assumption | omega | fail))
            refine ⟨(⟨by (first | omega | (simp only [st_s] <;> omega) | assumption | omega | fail), by (first | omega | (simp only [st_s] <;> omega) | assumption | omega | fail)⟩ : rg (τ_14.1 46 + 1)), ?_⟩
            replace hT := cT_v (i := 46) hT (show 0 ≤ (τ_14.1 46 + 1) ∧ (τ_14.1 46 + 1) ≤ 1500 from by (first | omega | (simp only [st_s] <;> omega) | assumption | omega | fail))
            exact ⟨hT, (show c_Uk (n1 + 1) In0 (s_v (s_a (s_a (s_a (s_a τ_14 72 n1 x8) 71 u2_14 (n1 + 1)) 75 (τ_14.1 46) n1) 76 (τ_14.1 46) x24) 46 (τ_14.1 46 + 1)) from by exact c_Up_e (σ := τ_14) (by rw [G14, show σ.2.1 14 (n1 + 1) - σ.2.1 14 n1 - 1 = u3_14 - σ.2.1 14 n1 - 1 from by omega]; exact i14_3) p1 (by omega) (by rw [G13, G14, G27, G28, G29]; exact p4) (g_p1_e i14_7 G2 G3 G4 G8 G14 G15 p5) (by rw [G14, G15, G16]; exact p11) hI0 rfl (by rw [← e_x8]; rfl) (fun i hi => by simp only [List.mem_cons, List.mem_nil_iff, or_false] at hi; rcases hi with rfl | rfl | rfl <;> rfl) (fun i hi => by simp only [List.mem_cons, List.mem_nil_iff, or_false] at hi; rcases hi with rfl | rfl | rfl | rfl | rfl | rfl | rfl | rfl | rfl | rfl | rfl | rfl | rfl | rfl | rfl | rfl | rfl | rfl <;> rfl) (by first | exact Or.inl ⟨fun q => by rw [G14, G16] at q; omega, rfl, rfl, rfl⟩ | exact Or.inr ⟨by rw [G14]; omega, by rw [G14, G16, ← e13]; omega, rfl, rfl, by rw [show τ_14.2.1 16 (τ_14.2.1 14 n1 + 1) = x13 from by rw [e13, G14, G16], ← q20_1, ← e_x24]; rfl⟩)), (show (τ_14.1 45) ≤ σ.2.1 14 (n1 + 1) + 1 from by (first | omega | (simp only [st_s] <;> omega) | assumption | omega | fail)), (show ((τ_14.1 46 + 1)) ≤ n1 + 1 from by (first | omega | (simp only [st_s] <;> omega) | assumption | omega | fail))⟩
      ·
        refine ⟨(show 0 ≤ u3_14 ∧ u3_14 < 30000 from by (first | omega | (simp only [st_s] <;> omega) | assumption | omega | fail)), ?_⟩
        intro x27 r_x27 e_x27
        have b_x27 : (-1) ≤ x27 ∧ x27 ≤ 1499 := by rw [e_x27]; exact hT.2 16 _
        refine ⟨fun c28 => ?_, fun c28 => ?_⟩
        ·
          have ju := jt.2.2 u3_14 (by omega) (by omega)
          rw [← G16, ← e_x27] at ju
          have fx := jts x27 (by omega) (by omega)
          have sx := s14 x27
          have rx := rkt x27 (by omega) (by omega)
          refine ⟨_, K_X3_typeOf hT (show 0 ≤ x27 from by (first | omega | (simp only [st_s] <;> omega) | assumption | omega | fail)) (show x27 ≤ 1500 from by (first | omega | (simp only [st_s] <;> omega) | assumption | omega | fail)) (show τ_14.2.1 14 x27 < 30000 from by (rw [G14]; omega)), ?_⟩
          intro x30 r_x30 hq
          obtain ⟨q29_1, q29_2⟩ := hq
          replace q29_1 : x30 = τ_14.2.1 15 (τ_14.2.1 14 x27) := q29_1
          replace q29_2 : 0 ≤ x30 ∧ x30 ≤ 999 := q29_2
          refine ⟨(show 0 ≤ x30 ∧ x30 < 1000 from by (first | omega | (simp only [st_s] <;> omega) | assumption | omega | fail)), ?_⟩
          intro x33 r_x33 e_x33
          have b_x33 : (-1) ≤ x33 ∧ x33 ≤ 99 := by rw [e_x33]; exact hT.2 10 _
          have ex33 : x33 = σ.2.1 10 (σ.2.1 15 (σ.2.1 14 x27)) := by rw [e_x33, q29_1, G10, G15, G14]
          have kx := (rkl (σ.2.1 15 (σ.2.1 14 x27)) (s15 _).1 (txl (σ.2.1 14 x27) (s14a _).1 (by omega))).1
          refine h79 _ _ _ _ _ ?_
          refine ⟨_, K_X8_child hT (show 0 ≤ u2_14 from by (first | omega | (simp only [st_s] <;> omega) | assumption | omega | fail)) (show u2_14 < (τ_14.1 45) from by (first | omega | (simp only [st_s] <;> omega) | assumption | omega | fail)) (show -100 ≤ (-1 - x33) from by (first | omega | (simp only [st_s] <;> omega) | assumption | omega | fail)) (show (-1 - x33) < 1000 from by (first | omega | (simp only [st_s] <;> omega) | assumption | omega | fail)) (show 0 ≤ n1 from by (first | omega | (simp only [st_s] <;> omega) | assumption | omega | fail)) (show n1 < 1500 from by (first | omega | (simp only [st_s] <;> omega) | assumption | omega | fail)) (show (τ_14.1 45) ≤ 30000 from by (first | omega | (simp only [st_s] <;> omega) | assumption | omega | fail)), ?_⟩
          intro x36 τ37 r_x36 hn_τ37 hf_τ37 hq
          obtain ⟨hT, q35_1, q35_2, q35_3⟩ := hq
          replace q35_1 : 0 ≤ x36 ∧ x36 ≤ 30000 := q35_1
          replace q35_2 : (τ37.1 45) ≤ (τ_14.1 45) + 1 ∧ (τ_14.1 45) ≤ (τ37.1 45) := q35_2
          replace q35_3 : ∀ par : Int → Int, g_tr (τ_14.1 45) (τ_14.2.1 67) (τ_14.2.1 68) (τ_14.2.1 69) (τ_14.2.1 73) (τ_14.2.1 74) par → ∃ par2 : Int → Int, g_tr (τ37.1 45) (τ37.2.1 67) (τ37.2.1 68) (τ37.2.1 69) (τ37.2.1 73) (τ37.2.1 74) par2 ∧ g_ch (τ_14.1 45) (τ37.1 45) u2_14 (-1 - x33) n1 x36 (τ_14.2.1 69) (τ_14.2.1 70) (τ37.2.1 69) (τ37.2.1 70) par par2 := q35_3
          have w3_τ37 : τ37.1 3 = τ_14.1 3 := hf_τ37.1 3 (by decide)
          have w4_τ37 : τ37.1 4 = τ_14.1 4 := hf_τ37.1 4 (by decide)
          have w5_τ37 : τ37.1 5 = τ_14.1 5 := hf_τ37.1 5 (by decide)
          have w6_τ37 : τ37.1 6 = τ_14.1 6 := hf_τ37.1 6 (by decide)
          have w7_τ37 : τ37.1 7 = τ_14.1 7 := hf_τ37.1 7 (by decide)
          have w13_τ37 : τ37.1 13 = τ_14.1 13 := hf_τ37.1 13 (by decide)
          have w14_τ37 : τ37.1 14 = τ_14.1 14 := hf_τ37.1 14 (by decide)
          have w15_τ37 : τ37.1 15 = τ_14.1 15 := hf_τ37.1 15 (by decide)
          have w46_τ37 : τ37.1 46 = τ_14.1 46 := hf_τ37.1 46 (by decide)
          have g2_τ37 : τ37.2.1 2 = τ_14.2.1 2 := hf_τ37.2.1 2 (by decide)
          have g3_τ37 : τ37.2.1 3 = τ_14.2.1 3 := hf_τ37.2.1 3 (by decide)
          have g4_τ37 : τ37.2.1 4 = τ_14.2.1 4 := hf_τ37.2.1 4 (by decide)
          have g8_τ37 : τ37.2.1 8 = τ_14.2.1 8 := hf_τ37.2.1 8 (by decide)
          have g10_τ37 : τ37.2.1 10 = τ_14.2.1 10 := hf_τ37.2.1 10 (by decide)
          have g11_τ37 : τ37.2.1 11 = τ_14.2.1 11 := hf_τ37.2.1 11 (by decide)
          have g13_τ37 : τ37.2.1 13 = τ_14.2.1 13 := hf_τ37.2.1 13 (by decide)
          have g14_τ37 : τ37.2.1 14 = τ_14.2.1 14 := hf_τ37.2.1 14 (by decide)
          have g15_τ37 : τ37.2.1 15 = τ_14.2.1 15 := hf_τ37.2.1 15 (by decide)
          have g16_τ37 : τ37.2.1 16 = τ_14.2.1 16 := hf_τ37.2.1 16 (by decide)
          have g27_τ37 : τ37.2.1 27 = τ_14.2.1 27 := hf_τ37.2.1 27 (by decide)
          have g28_τ37 : τ37.2.1 28 = τ_14.2.1 28 := hf_τ37.2.1 28 (by decide)
          have g29_τ37 : τ37.2.1 29 = τ_14.2.1 29 := hf_τ37.2.1 29 (by decide)
          have g30_τ37 : τ37.2.1 30 = τ_14.2.1 30 := hf_τ37.2.1 30 (by decide)
          have g31_τ37 : τ37.2.1 31 = τ_14.2.1 31 := hf_τ37.2.1 31 (by decide)
          have g32_τ37 : τ37.2.1 32 = τ_14.2.1 32 := hf_τ37.2.1 32 (by decide)
          have g33_τ37 : τ37.2.1 33 = τ_14.2.1 33 := hf_τ37.2.1 33 (by decide)
          have g34_τ37 : τ37.2.1 34 = τ_14.2.1 34 := hf_τ37.2.1 34 (by decide)
          have g35_τ37 : τ37.2.1 35 = τ_14.2.1 35 := hf_τ37.2.1 35 (by decide)
          have g36_τ37 : τ37.2.1 36 = τ_14.2.1 36 := hf_τ37.2.1 36 (by decide)
          have g37_τ37 : τ37.2.1 37 = τ_14.2.1 37 := hf_τ37.2.1 37 (by decide)
          have g71_τ37 : τ37.2.1 71 = τ_14.2.1 71 := hf_τ37.2.1 71 (by decide)
          have g72_τ37 : τ37.2.1 72 = τ_14.2.1 72 := hf_τ37.2.1 72 (by decide)
          have g75_τ37 : τ37.2.1 75 = τ_14.2.1 75 := hf_τ37.2.1 75 (by decide)
          have g76_τ37 : τ37.2.1 76 = τ_14.2.1 76 := hf_τ37.2.1 76 (by decide)
          have W3 : τ37.1 3 = σ.1 3 := by first | exact w3_τ37.trans W3 | omega
          have W4 : τ37.1 4 = σ.1 4 := by first | exact w4_τ37.trans W4 | omega
          have W5 : τ37.1 5 = σ.1 5 := by first | exact w5_τ37.trans W5 | omega
          have W6 : τ37.1 6 = σ.1 6 := by first | exact w6_τ37.trans W6 | omega
          have W7 : τ37.1 7 = σ.1 7 := by first | exact w7_τ37.trans W7 | omega
          have W13 : τ37.1 13 = σ.1 13 := by first | exact w13_τ37.trans W13 | omega
          have W14 : τ37.1 14 = σ.1 14 := by first | exact w14_τ37.trans W14 | omega
          have W15 : τ37.1 15 = σ.1 15 := by first | exact w15_τ37.trans W15 | omega
          have G2 : τ37.2.1 2 = σ.2.1 2 := (g2_τ37).trans G2
          have G3 : τ37.2.1 3 = σ.2.1 3 := (g3_τ37).trans G3
          have G4 : τ37.2.1 4 = σ.2.1 4 := (g4_τ37).trans G4
          have G8 : τ37.2.1 8 = σ.2.1 8 := (g8_τ37).trans G8
          have G10 : τ37.2.1 10 = σ.2.1 10 := (g10_τ37).trans G10
          have G11 : τ37.2.1 11 = σ.2.1 11 := (g11_τ37).trans G11
          have G13 : τ37.2.1 13 = σ.2.1 13 := (g13_τ37).trans G13
          have G14 : τ37.2.1 14 = σ.2.1 14 := (g14_τ37).trans G14
          have G15 : τ37.2.1 15 = σ.2.1 15 := (g15_τ37).trans G15
          have G16 : τ37.2.1 16 = σ.2.1 16 := (g16_τ37).trans G16
          have G27 : τ37.2.1 27 = σ.2.1 27 := (g27_τ37).trans G27
          have G28 : τ37.2.1 28 = σ.2.1 28 := (g28_τ37).trans G28
          have G29 : τ37.2.1 29 = σ.2.1 29 := (g29_τ37).trans G29
          have G30 : τ37.2.1 30 = σ.2.1 30 := (g30_τ37).trans G30
          have G31 : τ37.2.1 31 = σ.2.1 31 := (g31_τ37).trans G31
          have G32 : τ37.2.1 32 = σ.2.1 32 := (g32_τ37).trans G32
          have G33 : τ37.2.1 33 = σ.2.1 33 := (g33_τ37).trans G33
          have G34 : τ37.2.1 34 = σ.2.1 34 := (g34_τ37).trans G34
          have G35 : τ37.2.1 35 = σ.2.1 35 := (g35_τ37).trans G35
          have G36 : τ37.2.1 36 = σ.2.1 36 := (g36_τ37).trans G36
          have G37 : τ37.2.1 37 = σ.2.1 37 := (g37_τ37).trans G37
          have TX : J_vs (τ37.1 6) (τ37.1 5) (τ37.2.1 15) := by rw [show (J_vs (τ37.1 6) (τ37.1 5) (τ37.2.1 15)) = (J_vs (τ_14.1 6) (τ_14.1 5) (τ_14.2.1 15)) from by rw [w5_τ37, w6_τ37, g15_τ37]]; exact TX
          have RKS : J_rks (τ37.1 5) (τ37.1 4) (τ37.2.1 10) (τ37.2.1 11) := by rw [show (J_rks (τ37.1 5) (τ37.1 4) (τ37.2.1 10) (τ37.2.1 11)) = (J_rks (τ_14.1 5) (τ_14.1 4) (τ_14.2.1 10) (τ_14.2.1 11)) from by rw [w4_τ37, w5_τ37, g10_τ37, g11_τ37]]; exact RKS
          have CJ : J_all (τ37.1 7) (τ37.1 6) (τ37.1 13) (τ37.1 14) (τ37.1 15) (τ37.2.1 13) (τ37.2.1 14) (τ37.2.1 15) (τ37.2.1 16) (τ37.2.1 10) (τ37.2.1 27) (τ37.2.1 28) (τ37.2.1 29) (τ37.2.1 30) (τ37.2.1 31) (τ37.2.1 32) (τ37.2.1 33) (τ37.2.1 34) (τ37.2.1 35) (τ37.2.1 36) (τ37.2.1 37) := by rw [show (J_all (τ37.1 7) (τ37.1 6) (τ37.1 13) (τ37.1 14) (τ37.1 15) (τ37.2.1 13) (τ37.2.1 14) (τ37.2.1 15) (τ37.2.1 16) (τ37.2.1 10) (τ37.2.1 27) (τ37.2.1 28) (τ37.2.1 29) (τ37.2.1 30) (τ37.2.1 31) (τ37.2.1 32) (τ37.2.1 33) (τ37.2.1 34) (τ37.2.1 35) (τ37.2.1 36) (τ37.2.1 37)) = (J_all (τ_14.1 7) (τ_14.1 6) (τ_14.1 13) (τ_14.1 14) (τ_14.1 15) (τ_14.2.1 13) (τ_14.2.1 14) (τ_14.2.1 15) (τ_14.2.1 16) (τ_14.2.1 10) (τ_14.2.1 27) (τ_14.2.1 28) (τ_14.2.1 29) (τ_14.2.1 30) (τ_14.2.1 31) (τ_14.2.1 32) (τ_14.2.1 33) (τ_14.2.1 34) (τ_14.2.1 35) (τ_14.2.1 36) (τ_14.2.1 37)) from by rw [w6_τ37, w7_τ37, w13_τ37, w14_τ37, w15_τ37, g10_τ37, g13_τ37, g14_τ37, g15_τ37, g16_τ37, g27_τ37, g28_τ37, g29_τ37, g30_τ37, g31_τ37, g32_τ37, g33_τ37, g34_τ37, g35_τ37, g36_τ37, g37_τ37]]; exact CJ
          have A2 : ∀ j, 0 ≤ τ37.2.1 2 j ∧ τ37.2.1 2 j ≤ 65535 := fun j => hT.2 2 j
          have A3 : ∀ j, 0 ≤ τ37.2.1 3 j ∧ τ37.2.1 3 j ≤ 30000 := fun j => hT.2 3 j
          have A4 : ∀ j, (-1000) ≤ τ37.2.1 4 j ∧ τ37.2.1 4 j ≤ 1499 := fun j => hT.2 4 j
          have A8 : ∀ j, 0 ≤ τ37.2.1 8 j ∧ τ37.2.1 8 j ≤ 1 := fun j => hT.2 8 j
          have A10 : ∀ j, (-1) ≤ τ37.2.1 10 j ∧ τ37.2.1 10 j ≤ 99 := fun j => hT.2 10 j
          have A11 : ∀ j, 0 ≤ τ37.2.1 11 j ∧ τ37.2.1 11 j ≤ 999 := fun j => hT.2 11 j
          have A13 : ∀ j, 0 ≤ τ37.2.1 13 j ∧ τ37.2.1 13 j ≤ 4 := fun j => hT.2 13 j
          have A14 : ∀ j, 0 ≤ τ37.2.1 14 j ∧ τ37.2.1 14 j ≤ 30000 := fun j => hT.2 14 j
          have A15 : ∀ j, 0 ≤ τ37.2.1 15 j ∧ τ37.2.1 15 j ≤ 999 := fun j => hT.2 15 j
          have A16 : ∀ j, (-1) ≤ τ37.2.1 16 j ∧ τ37.2.1 16 j ≤ 1499 := fun j => hT.2 16 j
          have A27 : ∀ j, 0 ≤ τ37.2.1 27 j ∧ τ37.2.1 27 j ≤ 90000 := fun j => hT.2 27 j
          have A28 : ∀ j, 0 ≤ τ37.2.1 28 j ∧ τ37.2.1 28 j ≤ 60 := fun j => hT.2 28 j
          have A29 : ∀ j, 0 ≤ τ37.2.1 29 j ∧ τ37.2.1 29 j ≤ 1499 := fun j => hT.2 29 j
          have A30 : ∀ j, 0 ≤ τ37.2.1 30 j ∧ τ37.2.1 30 j ≤ 20000 := fun j => hT.2 30 j
          have A31 : ∀ j, 0 ≤ τ37.2.1 31 j ∧ τ37.2.1 31 j ≤ 20000 := fun j => hT.2 31 j
          have A32 : ∀ j, 0 ≤ τ37.2.1 32 j ∧ τ37.2.1 32 j ≤ 999999 := fun j => hT.2 32 j
          have A33 : ∀ j, 0 ≤ τ37.2.1 33 j ∧ τ37.2.1 33 j ≤ 20000 := fun j => hT.2 33 j
          have A34 : ∀ j, 0 ≤ τ37.2.1 34 j ∧ τ37.2.1 34 j ≤ 20000 := fun j => hT.2 34 j
          have A35 : ∀ j, 0 ≤ τ37.2.1 35 j ∧ τ37.2.1 35 j ≤ 1499 := fun j => hT.2 35 j
          have A36 : ∀ j, 0 ≤ τ37.2.1 36 j ∧ τ37.2.1 36 j ≤ 20000 := fun j => hT.2 36 j
          have A37 : ∀ j, 0 ≤ τ37.2.1 37 j ∧ τ37.2.1 37 j ≤ 19999 := fun j => hT.2 37 j
          have A67 : ∀ j, 0 ≤ τ37.2.1 67 j ∧ τ37.2.1 67 j ≤ 30000 := fun j => hT.2 67 j
          have A68 : ∀ j, 0 ≤ τ37.2.1 68 j ∧ τ37.2.1 68 j ≤ 30000 := fun j => hT.2 68 j
          have A69 : ∀ j, (-100) ≤ τ37.2.1 69 j ∧ τ37.2.1 69 j ≤ 999 := fun j => hT.2 69 j
          have A70 : ∀ j, 0 ≤ τ37.2.1 70 j ∧ τ37.2.1 70 j ≤ 1499 := fun j => hT.2 70 j
          have A71 : ∀ j, 0 ≤ τ37.2.1 71 j ∧ τ37.2.1 71 j ≤ 1500 := fun j => hT.2 71 j
          have A72 : ∀ j, 0 ≤ τ37.2.1 72 j ∧ τ37.2.1 72 j ≤ 1500 := fun j => hT.2 72 j
          have A73 : ∀ j, 0 ≤ τ37.2.1 73 j ∧ τ37.2.1 73 j ≤ 30000 := fun j => hT.2 73 j
          have A74 : ∀ j, 0 ≤ τ37.2.1 74 j ∧ τ37.2.1 74 j ≤ 30000 := fun j => hT.2 74 j
          have A75 : ∀ j, 0 ≤ τ37.2.1 75 j ∧ τ37.2.1 75 j ≤ 1499 := fun j => hT.2 75 j
          have A76 : ∀ j, 0 ≤ τ37.2.1 76 j ∧ τ37.2.1 76 j ≤ 99 := fun j => hT.2 76 j
          have v3 : 0 ≤ τ37.1 3 ∧ τ37.1 3 ≤ 2500 := hT.1 3
          have v4 : 0 ≤ τ37.1 4 ∧ τ37.1 4 ≤ 100 := hT.1 4
          have v5 : 0 ≤ τ37.1 5 ∧ τ37.1 5 ≤ 1000 := hT.1 5
          have v6 : 0 ≤ τ37.1 6 ∧ τ37.1 6 ≤ 30000 := hT.1 6
          have v7 : 0 ≤ τ37.1 7 ∧ τ37.1 7 ≤ 1500 := hT.1 7
          have v13 : 0 ≤ τ37.1 13 ∧ τ37.1 13 ≤ 90000 := hT.1 13
          have v14 : 0 ≤ τ37.1 14 ∧ τ37.1 14 ≤ 20000 := hT.1 14
          have v15 : 0 ≤ τ37.1 15 ∧ τ37.1 15 ≤ 20000 := hT.1 15
          have v45 : 1 ≤ τ37.1 45 ∧ τ37.1 45 ≤ 30001 := hT.1 45
          have v46 : 0 ≤ τ37.1 46 ∧ τ37.1 46 ≤ 1500 := hT.1 46
          have cu : c_Up n1 (u3_14 + 1 - σ.2.1 14 n1 - 1) x36 τ37 nof In := by rw [show u3_14 + 1 - σ.2.1 14 n1 - 1 = u3_14 - σ.2.1 14 n1 - 1 + 1 from by omega]; refine c_Up_s i14_3 p1 (by omega) (by omega) q35_3 ?_ (by intro z; omega) (fun i hi => hf_τ37.1 i (by simp only [List.mem_cons, List.mem_nil_iff, or_false] at hi ⊢; omega)) (fun i hi => hf_τ37.2.1 i (by simp only [List.mem_cons, List.mem_nil_iff, or_false] at hi ⊢; omega)); unfold j_sk; rw [show τ_14.2.1 14 n1 + 1 + (u3_14 - σ.2.1 14 n1 - 1) = u3_14 from by rw [G14o]; omega, ← e_x27]; first | (rw [if_neg (by assumption), ← q29_1, ← e_x33]) | (rw [if_pos (by assumption), ← e_x34])
          have cb := c_Up_b cu
          refine ⟨(⟨by (first | omega | (simp only [st_s] <;> omega) | assumption | omega | fail), by (first | omega | (simp only [st_s] <;> omega) | assumption | omega | fail)⟩ : rg (u3_14 + 1)), ?_⟩
          exact ih_14 _ _ _ (show (30001 - (u3_14 + 1) : Int) < ((m_14 : Nat) : Int) from by ((first | omega | (simp only [st_s] <;> omega) | assumption | omega | fail))) hT (show τ37.1 3 = σ.1 3 from by first | exact W3 | omega) (show τ37.1 4 = σ.1 4 from by first | exact W4 | omega) (show τ37.1 5 = σ.1 5 from by first | exact W5 | omega) (show τ37.1 6 = σ.1 6 from by first | exact W6 | omega) (show τ37.1 7 = σ.1 7 from by first | exact W7 | omega) (show τ37.1 13 = σ.1 13 from by first | exact W13 | omega) (show τ37.1 14 = σ.1 14 from by first | exact W14 | omega) (show τ37.1 15 = σ.1 15 from by first | exact W15 | omega) G2 G3 G4 G8 G10 G11 G13 G14 G15 G16 G27 G28 G29 G30 G31 G32 G33 G34 G35 G36 G37 (show σ.2.1 14 n1 + 1 ≤ (u3_14 + 1) from by (first | omega | (rw [e_x2]; exact Int.le_refl _) | fail)) (show (u3_14 + 1) ≤ σ.2.1 14 (n1 + 1) from by (first | omega | (rw [e_x2]; omega) | fail)) (show c_Up n1 ((u3_14 + 1) - σ.2.1 14 n1 - 1) x36 τ37 nof In from by (first | exact cu | (rw [show σ.2.1 14 n1 + 1 - σ.2.1 14 n1 - 1 = 0 from by omega]; exact ⟨par, hU, by omega, g_pa0 _ _ _ _ _ _ _ _ _⟩) | (rw [e_x2, show σ.2.1 14 n1 + 1 - σ.2.1 14 n1 - 1 = 0 from by omega]; exact ⟨par, hU, by omega, g_pa0 _ _ _ _ _ _ _ _ _⟩) | fail)) (show (τ37.1 45) ≤ (u3_14 + 1) from by (first | omega | (rw [e_x2]; omega) | fail)) (show (τ37.1 46) = (σ.1 46) from by (first | omega | (simp only [st_s] <;> omega) | assumption | omega | fail)) (show 0 ≤ x36 ∧ x36 < (τ37.1 45) from by (first | omega | exact cb | fail)) (show (τ37.1 3) = (σ.1 3) from by (first | rfl | exact (hf_τ37.1 3 (by decide)).trans i14_7 | fail))
        ·
          intro x34 r_x34 e_x34
          have b_x34 : 0 ≤ x34 ∧ x34 ≤ 999 := by rw [e_x34]; exact hT.2 15 _
          refine h79 _ _ _ _ _ ?_
          refine ⟨_, K_X8_child hT (show 0 ≤ u2_14 from by (first | omega | (simp only [st_s] <;> omega) | assumption | omega | fail)) (show u2_14 < (τ_14.1 45) from by (first | omega | (simp only [st_s] <;> omega) | assumption | omega | fail)) (show -100 ≤ x34 from by (first | omega | (simp only [st_s] <;> omega) | assumption | omega | fail)) (show x34 < 1000 from by (first | omega | (simp only [st_s] <;> omega) | assumption | omega | fail)) (show 0 ≤ n1 from by (first | omega | (simp only [st_s] <;> omega) | assumption | omega | fail)) (show n1 < 1500 from by (first | omega | (simp only [st_s] <;> omega) | assumption | omega | fail)) (show (τ_14.1 45) ≤ 30000 from by (first | omega | (simp only [st_s] <;> omega) | assumption | omega | fail)), ?_⟩
          intro x36 τ37 r_x36 hn_τ37 hf_τ37 hq
          obtain ⟨hT, q35_1, q35_2, q35_3⟩ := hq
          replace q35_1 : 0 ≤ x36 ∧ x36 ≤ 30000 := q35_1
          replace q35_2 : (τ37.1 45) ≤ (τ_14.1 45) + 1 ∧ (τ_14.1 45) ≤ (τ37.1 45) := q35_2
          replace q35_3 : ∀ par : Int → Int, g_tr (τ_14.1 45) (τ_14.2.1 67) (τ_14.2.1 68) (τ_14.2.1 69) (τ_14.2.1 73) (τ_14.2.1 74) par → ∃ par2 : Int → Int, g_tr (τ37.1 45) (τ37.2.1 67) (τ37.2.1 68) (τ37.2.1 69) (τ37.2.1 73) (τ37.2.1 74) par2 ∧ g_ch (τ_14.1 45) (τ37.1 45) u2_14 x34 n1 x36 (τ_14.2.1 69) (τ_14.2.1 70) (τ37.2.1 69) (τ37.2.1 70) par par2 := q35_3
          have w3_τ37 : τ37.1 3 = τ_14.1 3 := hf_τ37.1 3 (by decide)
          have w4_τ37 : τ37.1 4 = τ_14.1 4 := hf_τ37.1 4 (by decide)
          have w5_τ37 : τ37.1 5 = τ_14.1 5 := hf_τ37.1 5 (by decide)
          have w6_τ37 : τ37.1 6 = τ_14.1 6 := hf_τ37.1 6 (by decide)
          have w7_τ37 : τ37.1 7 = τ_14.1 7 := hf_τ37.1 7 (by decide)
          have w13_τ37 : τ37.1 13 = τ_14.1 13 := hf_τ37.1 13 (by decide)
          have w14_τ37 : τ37.1 14 = τ_14.1 14 := hf_τ37.1 14 (by decide)
          have w15_τ37 : τ37.1 15 = τ_14.1 15 := hf_τ37.1 15 (by decide)
          have w46_τ37 : τ37.1 46 = τ_14.1 46 := hf_τ37.1 46 (by decide)
          have g2_τ37 : τ37.2.1 2 = τ_14.2.1 2 := hf_τ37.2.1 2 (by decide)
          have g3_τ37 : τ37.2.1 3 = τ_14.2.1 3 := hf_τ37.2.1 3 (by decide)
          have g4_τ37 : τ37.2.1 4 = τ_14.2.1 4 := hf_τ37.2.1 4 (by decide)
          have g8_τ37 : τ37.2.1 8 = τ_14.2.1 8 := hf_τ37.2.1 8 (by decide)
          have g10_τ37 : τ37.2.1 10 = τ_14.2.1 10 := hf_τ37.2.1 10 (by decide)
          have g11_τ37 : τ37.2.1 11 = τ_14.2.1 11 := hf_τ37.2.1 11 (by decide)
          have g13_τ37 : τ37.2.1 13 = τ_14.2.1 13 := hf_τ37.2.1 13 (by decide)
          have g14_τ37 : τ37.2.1 14 = τ_14.2.1 14 := hf_τ37.2.1 14 (by decide)
          have g15_τ37 : τ37.2.1 15 = τ_14.2.1 15 := hf_τ37.2.1 15 (by decide)
          have g16_τ37 : τ37.2.1 16 = τ_14.2.1 16 := hf_τ37.2.1 16 (by decide)
          have g27_τ37 : τ37.2.1 27 = τ_14.2.1 27 := hf_τ37.2.1 27 (by decide)
          have g28_τ37 : τ37.2.1 28 = τ_14.2.1 28 := hf_τ37.2.1 28 (by decide)
          have g29_τ37 : τ37.2.1 29 = τ_14.2.1 29 := hf_τ37.2.1 29 (by decide)
          have g30_τ37 : τ37.2.1 30 = τ_14.2.1 30 := hf_τ37.2.1 30 (by decide)
          have g31_τ37 : τ37.2.1 31 = τ_14.2.1 31 := hf_τ37.2.1 31 (by decide)
          have g32_τ37 : τ37.2.1 32 = τ_14.2.1 32 := hf_τ37.2.1 32 (by decide)
          have g33_τ37 : τ37.2.1 33 = τ_14.2.1 33 := hf_τ37.2.1 33 (by decide)
          have g34_τ37 : τ37.2.1 34 = τ_14.2.1 34 := hf_τ37.2.1 34 (by decide)
          have g35_τ37 : τ37.2.1 35 = τ_14.2.1 35 := hf_τ37.2.1 35 (by decide)
          have g36_τ37 : τ37.2.1 36 = τ_14.2.1 36 := hf_τ37.2.1 36 (by decide)
          have g37_τ37 : τ37.2.1 37 = τ_14.2.1 37 := hf_τ37.2.1 37 (by decide)
          have g71_τ37 : τ37.2.1 71 = τ_14.2.1 71 := hf_τ37.2.1 71 (by decide)
          have g72_τ37 : τ37.2.1 72 = τ_14.2.1 72 := hf_τ37.2.1 72 (by decide)
          have g75_τ37 : τ37.2.1 75 = τ_14.2.1 75 := hf_τ37.2.1 75 (by decide)
          have g76_τ37 : τ37.2.1 76 = τ_14.2.1 76 := hf_τ37.2.1 76 (by decide)
          have W3 : τ37.1 3 = σ.1 3 := by first | exact w3_τ37.trans W3 | omega
          have W4 : τ37.1 4 = σ.1 4 := by first | exact w4_τ37.trans W4 | omega
          have W5 : τ37.1 5 = σ.1 5 := by first | exact w5_τ37.trans W5 | omega
          have W6 : τ37.1 6 = σ.1 6 := by first | exact w6_τ37.trans W6 | omega
          have W7 : τ37.1 7 = σ.1 7 := by first | exact w7_τ37.trans W7 | omega
          have W13 : τ37.1 13 = σ.1 13 := by first | exact w13_τ37.trans W13 | omega
          have W14 : τ37.1 14 = σ.1 14 := by first | exact w14_τ37.trans W14 | omega
          have W15 : τ37.1 15 = σ.1 15 := by first | exact w15_τ37.trans W15 | omega
          have G2 : τ37.2.1 2 = σ.2.1 2 := (g2_τ37).trans G2
          have G3 : τ37.2.1 3 = σ.2.1 3 := (g3_τ37).trans G3
          have G4 : τ37.2.1 4 = σ.2.1 4 := (g4_τ37).trans G4
          have G8 : τ37.2.1 8 = σ.2.1 8 := (g8_τ37).trans G8
          have G10 : τ37.2.1 10 = σ.2.1 10 := (g10_τ37).trans G10
          have G11 : τ37.2.1 11 = σ.2.1 11 := (g11_τ37).trans G11
          have G13 : τ37.2.1 13 = σ.2.1 13 := (g13_τ37).trans G13
          have G14 : τ37.2.1 14 = σ.2.1 14 := (g14_τ37).trans G14
          have G15 : τ37.2.1 15 = σ.2.1 15 := (g15_τ37).trans G15
          have G16 : τ37.2.1 16 = σ.2.1 16 := (g16_τ37).trans G16
          have G27 : τ37.2.1 27 = σ.2.1 27 := (g27_τ37).trans G27
          have G28 : τ37.2.1 28 = σ.2.1 28 := (g28_τ37).trans G28
          have G29 : τ37.2.1 29 = σ.2.1 29 := (g29_τ37).trans G29
          have G30 : τ37.2.1 30 = σ.2.1 30 := (g30_τ37).trans G30
          have G31 : τ37.2.1 31 = σ.2.1 31 := (g31_τ37).trans G31
          have G32 : τ37.2.1 32 = σ.2.1 32 := (g32_τ37).trans G32
          have G33 : τ37.2.1 33 = σ.2.1 33 := (g33_τ37).trans G33
          have G34 : τ37.2.1 34 = σ.2.1 34 := (g34_τ37).trans G34
          have G35 : τ37.2.1 35 = σ.2.1 35 := (g35_τ37).trans G35
          have G36 : τ37.2.1 36 = σ.2.1 36 := (g36_τ37).trans G36
          have G37 : τ37.2.1 37 = σ.2.1 37 := (g37_τ37).trans G37
          have TX : J_vs (τ37.1 6) (τ37.1 5) (τ37.2.1 15) := by rw [show (J_vs (τ37.1 6) (τ37.1 5) (τ37.2.1 15)) = (J_vs (τ_14.1 6) (τ_14.1 5) (τ_14.2.1 15)) from by rw [w5_τ37, w6_τ37, g15_τ37]]; exact TX
          have RKS : J_rks (τ37.1 5) (τ37.1 4) (τ37.2.1 10) (τ37.2.1 11) := by rw [show (J_rks (τ37.1 5) (τ37.1 4) (τ37.2.1 10) (τ37.2.1 11)) = (J_rks (τ_14.1 5) (τ_14.1 4) (τ_14.2.1 10) (τ_14.2.1 11)) from by rw [w4_τ37, w5_τ37, g10_τ37, g11_τ37]]; exact RKS
          have CJ : J_all (τ37.1 7) (τ37.1 6) (τ37.1 13) (τ37.1 14) (τ37.1 15) (τ37.2.1 13) (τ37.2.1 14) (τ37.2.1 15) (τ37.2.1 16) (τ37.2.1 10) (τ37.2.1 27) (τ37.2.1 28) (τ37.2.1 29) (τ37.2.1 30) (τ37.2.1 31) (τ37.2.1 32) (τ37.2.1 33) (τ37.2.1 34) (τ37.2.1 35) (τ37.2.1 36) (τ37.2.1 37) := by rw [show (J_all (τ37.1 7) (τ37.1 6) (τ37.1 13) (τ37.1 14) (τ37.1 15) (τ37.2.1 13) (τ37.2.1 14) (τ37.2.1 15) (τ37.2.1 16) (τ37.2.1 10) (τ37.2.1 27) (τ37.2.1 28) (τ37.2.1 29) (τ37.2.1 30) (τ37.2.1 31) (τ37.2.1 32) (τ37.2.1 33) (τ37.2.1 34) (τ37.2.1 35) (τ37.2.1 36) (τ37.2.1 37)) = (J_all (τ_14.1 7) (τ_14.1 6) (τ_14.1 13) (τ_14.1 14) (τ_14.1 15) (τ_14.2.1 13) (τ_14.2.1 14) (τ_14.2.1 15) (τ_14.2.1 16) (τ_14.2.1 10) (τ_14.2.1 27) (τ_14.2.1 28) (τ_14.2.1 29) (τ_14.2.1 30) (τ_14.2.1 31) (τ_14.2.1 32) (τ_14.2.1 33) (τ_14.2.1 34) (τ_14.2.1 35) (τ_14.2.1 36) (τ_14.2.1 37)) from by rw [w6_τ37, w7_τ37, w13_τ37, w14_τ37, w15_τ37, g10_τ37, g13_τ37, g14_τ37, g15_τ37, g16_τ37, g27_τ37, g28_τ37, g29_τ37, g30_τ37, g31_τ37, g32_τ37, g33_τ37, g34_τ37, g35_τ37, g36_τ37, g37_τ37]]; exact CJ
          have A2 : ∀ j, 0 ≤ τ37.2.1 2 j ∧ τ37.2.1 2 j ≤ 65535 := fun j => hT.2 2 j
          have A3 : ∀ j, 0 ≤ τ37.2.1 3 j ∧ τ37.2.1 3 j ≤ 30000 := fun j => hT.2 3 j
          have A4 : ∀ j, (-1000) ≤ τ37.2.1 4 j ∧ τ37.2.1 4 j ≤ 1499 := fun j => hT.2 4 j
          have A8 : ∀ j, 0 ≤ τ37.2.1 8 j ∧ τ37.2.1 8 j ≤ 1 := fun j => hT.2 8 j
          have A10 : ∀ j, (-1) ≤ τ37.2.1 10 j ∧ τ37.2.1 10 j ≤ 99 := fun j => hT.2 10 j
          have A11 : ∀ j, 0 ≤ τ37.2.1 11 j ∧ τ37.2.1 11 j ≤ 999 := fun j => hT.2 11 j
          have A13 : ∀ j, 0 ≤ τ37.2.1 13 j ∧ τ37.2.1 13 j ≤ 4 := fun j => hT.2 13 j
          have A14 : ∀ j, 0 ≤ τ37.2.1 14 j ∧ τ37.2.1 14 j ≤ 30000 := fun j => hT.2 14 j
          have A15 : ∀ j, 0 ≤ τ37.2.1 15 j ∧ τ37.2.1 15 j ≤ 999 := fun j => hT.2 15 j
          have A16 : ∀ j, (-1) ≤ τ37.2.1 16 j ∧ τ37.2.1 16 j ≤ 1499 := fun j => hT.2 16 j
          have A27 : ∀ j, 0 ≤ τ37.2.1 27 j ∧ τ37.2.1 27 j ≤ 90000 := fun j => hT.2 27 j
          have A28 : ∀ j, 0 ≤ τ37.2.1 28 j ∧ τ37.2.1 28 j ≤ 60 := fun j => hT.2 28 j
          have A29 : ∀ j, 0 ≤ τ37.2.1 29 j ∧ τ37.2.1 29 j ≤ 1499 := fun j => hT.2 29 j
          have A30 : ∀ j, 0 ≤ τ37.2.1 30 j ∧ τ37.2.1 30 j ≤ 20000 := fun j => hT.2 30 j
          have A31 : ∀ j, 0 ≤ τ37.2.1 31 j ∧ τ37.2.1 31 j ≤ 20000 := fun j => hT.2 31 j
          have A32 : ∀ j, 0 ≤ τ37.2.1 32 j ∧ τ37.2.1 32 j ≤ 999999 := fun j => hT.2 32 j
          have A33 : ∀ j, 0 ≤ τ37.2.1 33 j ∧ τ37.2.1 33 j ≤ 20000 := fun j => hT.2 33 j
          have A34 : ∀ j, 0 ≤ τ37.2.1 34 j ∧ τ37.2.1 34 j ≤ 20000 := fun j => hT.2 34 j
          have A35 : ∀ j, 0 ≤ τ37.2.1 35 j ∧ τ37.2.1 35 j ≤ 1499 := fun j => hT.2 35 j
          have A36 : ∀ j, 0 ≤ τ37.2.1 36 j ∧ τ37.2.1 36 j ≤ 20000 := fun j => hT.2 36 j
          have A37 : ∀ j, 0 ≤ τ37.2.1 37 j ∧ τ37.2.1 37 j ≤ 19999 := fun j => hT.2 37 j
          have A67 : ∀ j, 0 ≤ τ37.2.1 67 j ∧ τ37.2.1 67 j ≤ 30000 := fun j => hT.2 67 j
          have A68 : ∀ j, 0 ≤ τ37.2.1 68 j ∧ τ37.2.1 68 j ≤ 30000 := fun j => hT.2 68 j
          have A69 : ∀ j, (-100) ≤ τ37.2.1 69 j ∧ τ37.2.1 69 j ≤ 999 := fun j => hT.2 69 j
          have A70 : ∀ j, 0 ≤ τ37.2.1 70 j ∧ τ37.2.1 70 j ≤ 1499 := fun j => hT.2 70 j
          have A71 : ∀ j, 0 ≤ τ37.2.1 71 j ∧ τ37.2.1 71 j ≤ 1500 := fun j => hT.2 71 j
          have A72 : ∀ j, 0 ≤ τ37.2.1 72 j ∧ τ37.2.1 72 j ≤ 1500 := fun j => hT.2 72 j
          have A73 : ∀ j, 0 ≤ τ37.2.1 73 j ∧ τ37.2.1 73 j ≤ 30000 := fun j => hT.2 73 j
          have A74 : ∀ j, 0 ≤ τ37.2.1 74 j ∧ τ37.2.1 74 j ≤ 30000 := fun j => hT.2 74 j
          have A75 : ∀ j, 0 ≤ τ37.2.1 75 j ∧ τ37.2.1 75 j ≤ 1499 := fun j => hT.2 75 j
          have A76 : ∀ j, 0 ≤ τ37.2.1 76 j ∧ τ37.2.1 76 j ≤ 99 := fun j => hT.2 76 j
          have v3 : 0 ≤ τ37.1 3 ∧ τ37.1 3 ≤ 2500 := hT.1 3
          have v4 : 0 ≤ τ37.1 4 ∧ τ37.1 4 ≤ 100 := hT.1 4
          have v5 : 0 ≤ τ37.1 5 ∧ τ37.1 5 ≤ 1000 := hT.1 5
          have v6 : 0 ≤ τ37.1 6 ∧ τ37.1 6 ≤ 30000 := hT.1 6
          have v7 : 0 ≤ τ37.1 7 ∧ τ37.1 7 ≤ 1500 := hT.1 7
          have v13 : 0 ≤ τ37.1 13 ∧ τ37.1 13 ≤ 90000 := hT.1 13
          have v14 : 0 ≤ τ37.1 14 ∧ τ37.1 14 ≤ 20000 := hT.1 14
          have v15 : 0 ≤ τ37.1 15 ∧ τ37.1 15 ≤ 20000 := hT.1 15
          have v45 : 1 ≤ τ37.1 45 ∧ τ37.1 45 ≤ 30001 := hT.1 45
          have v46 : 0 ≤ τ37.1 46 ∧ τ37.1 46 ≤ 1500 := hT.1 46
          have cu : c_Up n1 (u3_14 + 1 - σ.2.1 14 n1 - 1) x36 τ37 nof In := by rw [show u3_14 + 1 - σ.2.1 14 n1 - 1 = u3_14 - σ.2.1 14 n1 - 1 + 1 from by omega]; refine c_Up_s i14_3 p1 (by omega) (by omega) q35_3 ?_ (by intro z; omega) (fun i hi => hf_τ37.1 i (by simp only [List.mem_cons, List.mem_nil_iff, or_false] at hi ⊢; omega)) (fun i hi => hf_τ37.2.1 i (by simp only [List.mem_cons, List.mem_nil_iff, or_false] at hi ⊢; omega)); unfold j_sk; rw [show τ_14.2.1 14 n1 + 1 + (u3_14 - σ.2.1 14 n1 - 1) = u3_14 from by rw [G14o]; omega, ← e_x27]; first | (rw [if_neg (by assumption), ← q29_1, ← e_x33]) | (rw [if_pos (by assumption), ← e_x34])
          have cb := c_Up_b cu
          refine ⟨(⟨by (first | omega | (simp only [st_s] <;> omega) | assumption | omega | fail), by (first | omega | (simp only [st_s] <;> omega) | assumption | omega | fail)⟩ : rg (u3_14 + 1)), ?_⟩
          exact ih_14 _ _ _ (show (30001 - (u3_14 + 1) : Int) < ((m_14 : Nat) : Int) from by ((first | omega | (simp only [st_s] <;> omega) | assumption | omega | fail))) hT (show τ37.1 3 = σ.1 3 from by first | exact W3 | omega) (show τ37.1 4 = σ.1 4 from by first | exact W4 | omega) (show τ37.1 5 = σ.1 5 from by first | exact W5 | omega) (show τ37.1 6 = σ.1 6 from by first | exact W6 | omega) (show τ37.1 7 = σ.1 7 from by first | exact W7 | omega) (show τ37.1 13 = σ.1 13 from by first | exact W13 | omega) (show τ37.1 14 = σ.1 14 from by first | exact W14 | omega) (show τ37.1 15 = σ.1 15 from by first | exact W15 | omega) G2 G3 G4 G8 G10 G11 G13 G14 G15 G16 G27 G28 G29 G30 G31 G32 G33 G34 G35 G36 G37 (show σ.2.1 14 n1 + 1 ≤ (u3_14 + 1) from by (first | omega | (rw [e_x2]; exact Int.le_refl _) | fail)) (show (u3_14 + 1) ≤ σ.2.1 14 (n1 + 1) from by (first | omega | (rw [e_x2]; omega) | fail)) (show c_Up n1 ((u3_14 + 1) - σ.2.1 14 n1 - 1) x36 τ37 nof In from by (first | exact cu | (rw [show σ.2.1 14 n1 + 1 - σ.2.1 14 n1 - 1 = 0 from by omega]; exact ⟨par, hU, by omega, g_pa0 _ _ _ _ _ _ _ _ _⟩) | (rw [e_x2, show σ.2.1 14 n1 + 1 - σ.2.1 14 n1 - 1 = 0 from by omega]; exact ⟨par, hU, by omega, g_pa0 _ _ _ _ _ _ _ _ _⟩) | fail)) (show (τ37.1 45) ≤ (u3_14 + 1) from by (first | omega | (rw [e_x2]; omega) | fail)) (show (τ37.1 46) = (σ.1 46) from by (first | omega | (simp only [st_s] <;> omega) | assumption | omega | fail)) (show 0 ≤ x36 ∧ x36 < (τ37.1 45) from by (first | omega | exact cb | fail)) (show (τ37.1 3) = (σ.1 3) from by (first | rfl | exact (hf_τ37.1 3 (by decide)).trans i14_7 | fail))
  refine ⟨(show 0 ≤ n1 ∧ n1 < 1501 from by (first | omega | (simp only [st_s] <;> omega) | assumption | omega | fail)), ?_⟩
  intro x2 r_x2 e_x2
  have b_x2 : 0 ≤ x2 ∧ x2 ≤ 30000 := by rw [e_x2]; exact hT.2 14 _
  refine ⟨(⟨by (first | omega | (simp only [st_s] <;> omega) | assumption | omega | fail), by (first | omega | (simp only [st_s] <;> omega) | assumption | omega | fail)⟩ : rg (x2 + 1)), ?_⟩
  exact l_14 ((30001 - (x2 + 1) : Int).toNat + 1) _ _ _ (show (30001 - (x2 + 1) : Int) < (((30001 - (x2 + 1) : Int).toNat + 1 : Nat) : Int) from by ((first | omega | (simp only [st_s] <;> omega) | assumption | omega | fail))) hT (show σ.1 3 = σ.1 3 from by first | exact W3 | omega) (show σ.1 4 = σ.1 4 from by first | exact W4 | omega) (show σ.1 5 = σ.1 5 from by first | exact W5 | omega) (show σ.1 6 = σ.1 6 from by first | exact W6 | omega) (show σ.1 7 = σ.1 7 from by first | exact W7 | omega) (show σ.1 13 = σ.1 13 from by first | exact W13 | omega) (show σ.1 14 = σ.1 14 from by first | exact W14 | omega) (show σ.1 15 = σ.1 15 from by first | exact W15 | omega) G2 G3 G4 G8 G10 G11 G13 G14 G15 G16 G27 G28 G29 G30 G31 G32 G33 G34 G35 G36 G37 (show σ.2.1 14 n1 + 1 ≤ (x2 + 1) from by (first | omega | (rw [e_x2]; exact Int.le_refl _) | fail)) (show (x2 + 1) ≤ σ.2.1 14 (n1 + 1) from by (first | omega | (rw [e_x2]; omega) | fail)) (show c_Up n1 ((x2 + 1) - σ.2.1 14 n1 - 1) 0 σ nof In from by (first | exact cu | (rw [show σ.2.1 14 n1 + 1 - σ.2.1 14 n1 - 1 = 0 from by omega]; exact ⟨par, hU, by omega, g_pa0 _ _ _ _ _ _ _ _ _⟩) | (rw [e_x2, show σ.2.1 14 n1 + 1 - σ.2.1 14 n1 - 1 = 0 from by omega]; exact ⟨par, hU, by omega, g_pa0 _ _ _ _ _ _ _ _ _⟩) | fail)) (show (σ.1 45) ≤ (x2 + 1) from by (first | omega | (rw [e_x2]; omega) | fail)) (show (σ.1 46) = (σ.1 46) from by (first | omega | (simp only [st_s] <;> omega) | assumption | omega | fail)) (show 0 ≤ 0 ∧ 0 < (σ.1 45) from by (first | omega | exact cb | fail)) (show (σ.1 3) = (σ.1 3) from by (first | rfl | exact (hf_τ37.1 3 (by decide)).trans i14_7 | fail))
set_option maxHeartbeats 4000000 in
theorem K_X8_learn {In0 : Int → Prop} {σ : S0} (hT : c_T σ) (p1 : J_all (σ.1 7) (σ.1 6) (σ.1 13) (σ.1 14) (σ.1 15) (σ.2.1 13) (σ.2.1 14) (σ.2.1 15) (σ.2.1 16) (σ.2.1 10) (σ.2.1 27) (σ.2.1 28) (σ.2.1 29) (σ.2.1 30) (σ.2.1 31) (σ.2.1 32) (σ.2.1 33) (σ.2.1 34) (σ.2.1 35) (σ.2.1 36) (σ.2.1 37)) (p2 : J_ht (σ.1 3) (σ.2.1 2) (σ.2.1 3) (σ.2.1 5) (σ.2.1 6)) (p3 : J_mn (σ.1 3) (σ.1 5) ((σ.1 7) + 1) (σ.2.1 4)) (p4 : J_rks (σ.1 5) (σ.1 4) (σ.2.1 10) (σ.2.1 11)) (p5 : J_vs (σ.1 6) (σ.1 5) (σ.2.1 15)) (p6 : (σ.1 47) ≤ (σ.1 7)) (p7 : (σ.1 45) ≤ σ.2.1 14 (σ.1 47) + 1) (p8 : (σ.1 46) ≤ (σ.1 47)) (p9 : c_Uk (σ.1 47) In0 σ) : W_X8_learn σ (fun (τ : S0) => (c_T τ) ∧ ((τ.1 47) = (σ.1 7)) ∧ ((τ.1 47) ≤ (τ.1 7)) ∧ ((τ.1 45) ≤ τ.2.1 14 (τ.1 47) + 1) ∧ ((τ.1 46) ≤ (τ.1 47)) ∧ (c_Uk (τ.1 47) In0 τ) ∧ ((τ.1 48) = -1 ∨ g_pe τ (τ.1 48)) ∧ ((τ.1 48) < (σ.1 5)) ∧ ((τ.1 49) < (σ.1 5)) ∧ (g_wf τ (τ.1 49)) ∧ ((τ.1 49) = -1 ∨ g_we τ (τ.1 49)) ∧ (g_pvf τ (τ.1 48))) := by
  have A2 : ∀ j, 0 ≤ σ.2.1 2 j ∧ σ.2.1 2 j ≤ 65535 := fun j => hT.2 2 j
  have A3 : ∀ j, 0 ≤ σ.2.1 3 j ∧ σ.2.1 3 j ≤ 30000 := fun j => hT.2 3 j
  have A4 : ∀ j, (-1000) ≤ σ.2.1 4 j ∧ σ.2.1 4 j ≤ 1499 := fun j => hT.2 4 j
  have A5 : ∀ j, 0 ≤ σ.2.1 5 j ∧ σ.2.1 5 j ≤ 2500 := fun j => hT.2 5 j
  have A6 : ∀ j, 0 ≤ σ.2.1 6 j ∧ σ.2.1 6 j ≤ 2500 := fun j => hT.2 6 j
  have A8 : ∀ j, 0 ≤ σ.2.1 8 j ∧ σ.2.1 8 j ≤ 1 := fun j => hT.2 8 j
  have A10 : ∀ j, (-1) ≤ σ.2.1 10 j ∧ σ.2.1 10 j ≤ 99 := fun j => hT.2 10 j
  have A11 : ∀ j, 0 ≤ σ.2.1 11 j ∧ σ.2.1 11 j ≤ 999 := fun j => hT.2 11 j
  have A13 : ∀ j, 0 ≤ σ.2.1 13 j ∧ σ.2.1 13 j ≤ 4 := fun j => hT.2 13 j
  have A14 : ∀ j, 0 ≤ σ.2.1 14 j ∧ σ.2.1 14 j ≤ 30000 := fun j => hT.2 14 j
  have A15 : ∀ j, 0 ≤ σ.2.1 15 j ∧ σ.2.1 15 j ≤ 999 := fun j => hT.2 15 j
  have A16 : ∀ j, (-1) ≤ σ.2.1 16 j ∧ σ.2.1 16 j ≤ 1499 := fun j => hT.2 16 j
  have A27 : ∀ j, 0 ≤ σ.2.1 27 j ∧ σ.2.1 27 j ≤ 90000 := fun j => hT.2 27 j
  have A28 : ∀ j, 0 ≤ σ.2.1 28 j ∧ σ.2.1 28 j ≤ 60 := fun j => hT.2 28 j
  have A29 : ∀ j, 0 ≤ σ.2.1 29 j ∧ σ.2.1 29 j ≤ 1499 := fun j => hT.2 29 j
  have A30 : ∀ j, 0 ≤ σ.2.1 30 j ∧ σ.2.1 30 j ≤ 20000 := fun j => hT.2 30 j
  have A31 : ∀ j, 0 ≤ σ.2.1 31 j ∧ σ.2.1 31 j ≤ 20000 := fun j => hT.2 31 j
  have A32 : ∀ j, 0 ≤ σ.2.1 32 j ∧ σ.2.1 32 j ≤ 999999 := fun j => hT.2 32 j
  have A33 : ∀ j, 0 ≤ σ.2.1 33 j ∧ σ.2.1 33 j ≤ 20000 := fun j => hT.2 33 j
  have A34 : ∀ j, 0 ≤ σ.2.1 34 j ∧ σ.2.1 34 j ≤ 20000 := fun j => hT.2 34 j
  have A35 : ∀ j, 0 ≤ σ.2.1 35 j ∧ σ.2.1 35 j ≤ 1499 := fun j => hT.2 35 j
  have A36 : ∀ j, 0 ≤ σ.2.1 36 j ∧ σ.2.1 36 j ≤ 20000 := fun j => hT.2 36 j
  have A37 : ∀ j, 0 ≤ σ.2.1 37 j ∧ σ.2.1 37 j ≤ 19999 := fun j => hT.2 37 j
  have A67 : ∀ j, 0 ≤ σ.2.1 67 j ∧ σ.2.1 67 j ≤ 30000 := fun j => hT.2 67 j
  have A68 : ∀ j, 0 ≤ σ.2.1 68 j ∧ σ.2.1 68 j ≤ 30000 := fun j => hT.2 68 j
  have A69 : ∀ j, (-100) ≤ σ.2.1 69 j ∧ σ.2.1 69 j ≤ 999 := fun j => hT.2 69 j
  have A70 : ∀ j, 0 ≤ σ.2.1 70 j ∧ σ.2.1 70 j ≤ 1499 := fun j => hT.2 70 j
  have A71 : ∀ j, 0 ≤ σ.2.1 71 j ∧ σ.2.1 71 j ≤ 1500 := fun j => hT.2 71 j
  have A72 : ∀ j, 0 ≤ σ.2.1 72 j ∧ σ.2.1 72 j ≤ 1500 := fun j => hT.2 72 j
  have A73 : ∀ j, 0 ≤ σ.2.1 73 j ∧ σ.2.1 73 j ≤ 30000 := fun j => hT.2 73 j
  have A74 : ∀ j, 0 ≤ σ.2.1 74 j ∧ σ.2.1 74 j ≤ 30000 := fun j => hT.2 74 j
  have A75 : ∀ j, 0 ≤ σ.2.1 75 j ∧ σ.2.1 75 j ≤ 1499 := fun j => hT.2 75 j
  have A76 : ∀ j, 0 ≤ σ.2.1 76 j ∧ σ.2.1 76 j ≤ 99 := fun j => hT.2 76 j
  have v3 : 0 ≤ σ.1 3 ∧ σ.1 3 ≤ 2500 := hT.1 3
  have v4 : 0 ≤ σ.1 4 ∧ σ.1 4 ≤ 100 := hT.1 4
  have v5 : 0 ≤ σ.1 5 ∧ σ.1 5 ≤ 1000 := hT.1 5
  have v6 : 0 ≤ σ.1 6 ∧ σ.1 6 ≤ 30000 := hT.1 6
  have v7 : 0 ≤ σ.1 7 ∧ σ.1 7 ≤ 1500 := hT.1 7
  have v13 : 0 ≤ σ.1 13 ∧ σ.1 13 ≤ 90000 := hT.1 13
  have v14 : 0 ≤ σ.1 14 ∧ σ.1 14 ≤ 20000 := hT.1 14
  have v15 : 0 ≤ σ.1 15 ∧ σ.1 15 ≤ 20000 := hT.1 15
  have v45 : 1 ≤ σ.1 45 ∧ σ.1 45 ≤ 30001 := hT.1 45
  have v46 : 0 ≤ σ.1 46 ∧ σ.1 46 ≤ 1500 := hT.1 46
  have v47 : 0 ≤ σ.1 47 ∧ σ.1 47 ≤ 1500 := hT.1 47
  have v48 : (-1) ≤ σ.1 48 ∧ σ.1 48 ≤ 999 := hT.1 48
  have v49 : (-1) ≤ σ.1 49 ∧ σ.1 49 ≤ 999 := hT.1 49
  have a14_47 : 0 ≤ σ.2.1 14 (σ.1 47) ∧ σ.2.1 14 (σ.1 47) ≤ 30000 := hT.2 14 _
  have W3 : σ.1 3 = σ.1 3 := rfl
  have W4 : σ.1 4 = σ.1 4 := rfl
  have W5 : σ.1 5 = σ.1 5 := rfl
  have W6 : σ.1 6 = σ.1 6 := rfl
  have W7 : σ.1 7 = σ.1 7 := rfl
  have W13 : σ.1 13 = σ.1 13 := rfl
  have W14 : σ.1 14 = σ.1 14 := rfl
  have W15 : σ.1 15 = σ.1 15 := rfl
  have G2 : σ.2.1 2 = σ.2.1 2 := rfl
  have G3 : σ.2.1 3 = σ.2.1 3 := rfl
  have G4 : σ.2.1 4 = σ.2.1 4 := rfl
  have G5 : σ.2.1 5 = σ.2.1 5 := rfl
  have G6 : σ.2.1 6 = σ.2.1 6 := rfl
  have G8 : σ.2.1 8 = σ.2.1 8 := rfl
  have G10 : σ.2.1 10 = σ.2.1 10 := rfl
  have G11 : σ.2.1 11 = σ.2.1 11 := rfl
  have G13 : σ.2.1 13 = σ.2.1 13 := rfl
  have G14 : σ.2.1 14 = σ.2.1 14 := rfl
  have G15 : σ.2.1 15 = σ.2.1 15 := rfl
  have G16 : σ.2.1 16 = σ.2.1 16 := rfl
  have G27 : σ.2.1 27 = σ.2.1 27 := rfl
  have G28 : σ.2.1 28 = σ.2.1 28 := rfl
  have G29 : σ.2.1 29 = σ.2.1 29 := rfl
  have G30 : σ.2.1 30 = σ.2.1 30 := rfl
  have G31 : σ.2.1 31 = σ.2.1 31 := rfl
  have G32 : σ.2.1 32 = σ.2.1 32 := rfl
  have G33 : σ.2.1 33 = σ.2.1 33 := rfl
  have G34 : σ.2.1 34 = σ.2.1 34 := rfl
  have G35 : σ.2.1 35 = σ.2.1 35 := rfl
  have G36 : σ.2.1 36 = σ.2.1 36 := rfl
  have G37 : σ.2.1 37 = σ.2.1 37 := rfl
  intro P27 h27
  have mono := fun (i : Int) a b => (p1.1 i a b).1.1
  have HT : J_ht (σ.1 3) (σ.2.1 2) (σ.2.1 3) (σ.2.1 5) (σ.2.1 6) := p2
  have MN : J_mn (σ.1 3) (σ.1 5) ((σ.1 7) + 1) (σ.2.1 4) := p3
  have TX : J_vs (σ.1 6) (σ.1 5) (σ.2.1 15) := p5
  have RKS : J_rks (σ.1 5) (σ.1 4) (σ.2.1 10) (σ.2.1 11) := p4
  have CJ : J_all (σ.1 7) (σ.1 6) (σ.1 13) (σ.1 14) (σ.1 15) (σ.2.1 13) (σ.2.1 14) (σ.2.1 15) (σ.2.1 16) (σ.2.1 10) (σ.2.1 27) (σ.2.1 28) (σ.2.1 29) (σ.2.1 30) (σ.2.1 31) (σ.2.1 32) (σ.2.1 33) (σ.2.1 34) (σ.2.1 35) (σ.2.1 36) (σ.2.1 37) := p1
  have CJ_0 := CJ
  have HT_0 := HT
  have MN_0 := MN
  have RKS_0 := RKS
  have TX_0 := TX
  have l_27 : ∀ (m_27 : Nat) (u1_27 : Int) (τ_27 : S0), 1501 - u1_27 < (m_27 : Int) → (c_T τ_27) → (τ_27.1 3 = σ.1 3) → (τ_27.1 4 = σ.1 4) → (τ_27.1 5 = σ.1 5) → (τ_27.1 6 = σ.1 6) → (τ_27.1 7 = σ.1 7) → (τ_27.1 13 = σ.1 13) → (τ_27.1 14 = σ.1 14) → (τ_27.1 15 = σ.1 15) → (τ_27.2.1 2 = σ.2.1 2) → (τ_27.2.1 3 = σ.2.1 3) → (τ_27.2.1 4 = σ.2.1 4) → (τ_27.2.1 5 = σ.2.1 5) → (τ_27.2.1 6 = σ.2.1 6) → (τ_27.2.1 8 = σ.2.1 8) → (τ_27.2.1 10 = σ.2.1 10) → (τ_27.2.1 11 = σ.2.1 11) → (τ_27.2.1 13 = σ.2.1 13) → (τ_27.2.1 14 = σ.2.1 14) → (τ_27.2.1 15 = σ.2.1 15) → (τ_27.2.1 16 = σ.2.1 16) → (τ_27.2.1 27 = σ.2.1 27) → (τ_27.2.1 28 = σ.2.1 28) → (τ_27.2.1 29 = σ.2.1 29) → (τ_27.2.1 30 = σ.2.1 30) → (τ_27.2.1 31 = σ.2.1 31) → (τ_27.2.1 32 = σ.2.1 32) → (τ_27.2.1 33 = σ.2.1 33) → (τ_27.2.1 34 = σ.2.1 34) → (τ_27.2.1 35 = σ.2.1 35) → (τ_27.2.1 36 = σ.2.1 36) → (τ_27.2.1 37 = σ.2.1 37) → ((σ.1 47) ≤ u1_27) → (u1_27 ≤ (σ.1 7)) → (c_Uk u1_27 In0 τ_27) → ((τ_27.1 45) ≤ σ.2.1 14 u1_27 + 1) → ((τ_27.1 46) ≤ u1_27) → ((τ_27.1 48) = -1 ∨ g_pe σ (τ_27.1 48)) → ((τ_27.1 48) < (σ.1 5)) → (∀ n : Int, 0 ≤ n → n < (σ.1 3) → j_sp σ n → (∀ m : Int, n < m → m < (σ.1 3) → ¬ j_sp σ m) → σ.2.1 4 n < 0 → σ.2.1 8 (-1 - σ.2.1 4 n) = 0 → (τ_27.1 48) = -1 - σ.2.1 4 n) → ((τ_27.1 49) < (σ.1 5)) → (g_wf σ (τ_27.1 49)) → ((τ_27.1 49) = -1 ∨ g_we σ (τ_27.1 49)) → P27 u1_27 τ_27 := by
    intro m_27
    induction m_27 with
    | zero =>
      intro u1_27 τ_27 hm hT W3 W4 W5 W6 W7 W13 W14 W15 G2 G3 G4 G5 G6 G8 G10 G11 G13 G14 G15 G16 G27 G28 G29 G30 G31 G32 G33 G34 G35 G36 G37 i27_1 i27_2 i27_3 i27_4 i27_5 i27_6 i27_7 i27_8 i27_9 i27_10 i27_11
      have A2 : ∀ j, 0 ≤ τ_27.2.1 2 j ∧ τ_27.2.1 2 j ≤ 65535 := fun j => hT.2 2 j
      have A3 : ∀ j, 0 ≤ τ_27.2.1 3 j ∧ τ_27.2.1 3 j ≤ 30000 := fun j => hT.2 3 j
      have A4 : ∀ j, (-1000) ≤ τ_27.2.1 4 j ∧ τ_27.2.1 4 j ≤ 1499 := fun j => hT.2 4 j
      have A5 : ∀ j, 0 ≤ τ_27.2.1 5 j ∧ τ_27.2.1 5 j ≤ 2500 := fun j => hT.2 5 j
      have A6 : ∀ j, 0 ≤ τ_27.2.1 6 j ∧ τ_27.2.1 6 j ≤ 2500 := fun j => hT.2 6 j
      have A8 : ∀ j, 0 ≤ τ_27.2.1 8 j ∧ τ_27.2.1 8 j ≤ 1 := fun j => hT.2 8 j
      have A10 : ∀ j, (-1) ≤ τ_27.2.1 10 j ∧ τ_27.2.1 10 j ≤ 99 := fun j => hT.2 10 j
      have A11 : ∀ j, 0 ≤ τ_27.2.1 11 j ∧ τ_27.2.1 11 j ≤ 999 := fun j => hT.2 11 j
      have A13 : ∀ j, 0 ≤ τ_27.2.1 13 j ∧ τ_27.2.1 13 j ≤ 4 := fun j => hT.2 13 j
      have A14 : ∀ j, 0 ≤ τ_27.2.1 14 j ∧ τ_27.2.1 14 j ≤ 30000 := fun j => hT.2 14 j
      have A15 : ∀ j, 0 ≤ τ_27.2.1 15 j ∧ τ_27.2.1 15 j ≤ 999 := fun j => hT.2 15 j
      have A16 : ∀ j, (-1) ≤ τ_27.2.1 16 j ∧ τ_27.2.1 16 j ≤ 1499 := fun j => hT.2 16 j
      have A27 : ∀ j, 0 ≤ τ_27.2.1 27 j ∧ τ_27.2.1 27 j ≤ 90000 := fun j => hT.2 27 j
      have A28 : ∀ j, 0 ≤ τ_27.2.1 28 j ∧ τ_27.2.1 28 j ≤ 60 := fun j => hT.2 28 j
      have A29 : ∀ j, 0 ≤ τ_27.2.1 29 j ∧ τ_27.2.1 29 j ≤ 1499 := fun j => hT.2 29 j
      have A30 : ∀ j, 0 ≤ τ_27.2.1 30 j ∧ τ_27.2.1 30 j ≤ 20000 := fun j => hT.2 30 j
      have A31 : ∀ j, 0 ≤ τ_27.2.1 31 j ∧ τ_27.2.1 31 j ≤ 20000 := fun j => hT.2 31 j
      have A32 : ∀ j, 0 ≤ τ_27.2.1 32 j ∧ τ_27.2.1 32 j ≤ 999999 := fun j => hT.2 32 j
      have A33 : ∀ j, 0 ≤ τ_27.2.1 33 j ∧ τ_27.2.1 33 j ≤ 20000 := fun j => hT.2 33 j
      have A34 : ∀ j, 0 ≤ τ_27.2.1 34 j ∧ τ_27.2.1 34 j ≤ 20000 := fun j => hT.2 34 j
      have A35 : ∀ j, 0 ≤ τ_27.2.1 35 j ∧ τ_27.2.1 35 j ≤ 1499 := fun j => hT.2 35 j
      have A36 : ∀ j, 0 ≤ τ_27.2.1 36 j ∧ τ_27.2.1 36 j ≤ 20000 := fun j => hT.2 36 j
      have A37 : ∀ j, 0 ≤ τ_27.2.1 37 j ∧ τ_27.2.1 37 j ≤ 19999 := fun j => hT.2 37 j
      have A67 : ∀ j, 0 ≤ τ_27.2.1 67 j ∧ τ_27.2.1 67 j ≤ 30000 := fun j => hT.2 67 j
      have A68 : ∀ j, 0 ≤ τ_27.2.1 68 j ∧ τ_27.2.1 68 j ≤ 30000 := fun j => hT.2 68 j
      have A69 : ∀ j, (-100) ≤ τ_27.2.1 69 j ∧ τ_27.2.1 69 j ≤ 999 := fun j => hT.2 69 j
      have A70 : ∀ j, 0 ≤ τ_27.2.1 70 j ∧ τ_27.2.1 70 j ≤ 1499 := fun j => hT.2 70 j
      have A71 : ∀ j, 0 ≤ τ_27.2.1 71 j ∧ τ_27.2.1 71 j ≤ 1500 := fun j => hT.2 71 j
      have A72 : ∀ j, 0 ≤ τ_27.2.1 72 j ∧ τ_27.2.1 72 j ≤ 1500 := fun j => hT.2 72 j
      have A73 : ∀ j, 0 ≤ τ_27.2.1 73 j ∧ τ_27.2.1 73 j ≤ 30000 := fun j => hT.2 73 j
      have A74 : ∀ j, 0 ≤ τ_27.2.1 74 j ∧ τ_27.2.1 74 j ≤ 30000 := fun j => hT.2 74 j
      have A75 : ∀ j, 0 ≤ τ_27.2.1 75 j ∧ τ_27.2.1 75 j ≤ 1499 := fun j => hT.2 75 j
      have A76 : ∀ j, 0 ≤ τ_27.2.1 76 j ∧ τ_27.2.1 76 j ≤ 99 := fun j => hT.2 76 j
      have v3 : 0 ≤ τ_27.1 3 ∧ τ_27.1 3 ≤ 2500 := hT.1 3
      have v4 : 0 ≤ τ_27.1 4 ∧ τ_27.1 4 ≤ 100 := hT.1 4
      have v5 : 0 ≤ τ_27.1 5 ∧ τ_27.1 5 ≤ 1000 := hT.1 5
      have v6 : 0 ≤ τ_27.1 6 ∧ τ_27.1 6 ≤ 30000 := hT.1 6
      have v7 : 0 ≤ τ_27.1 7 ∧ τ_27.1 7 ≤ 1500 := hT.1 7
      have v13 : 0 ≤ τ_27.1 13 ∧ τ_27.1 13 ≤ 90000 := hT.1 13
      have v14 : 0 ≤ τ_27.1 14 ∧ τ_27.1 14 ≤ 20000 := hT.1 14
      have v15 : 0 ≤ τ_27.1 15 ∧ τ_27.1 15 ≤ 20000 := hT.1 15
      have v45 : 1 ≤ τ_27.1 45 ∧ τ_27.1 45 ≤ 30001 := hT.1 45
      have v46 : 0 ≤ τ_27.1 46 ∧ τ_27.1 46 ≤ 1500 := hT.1 46
      have v47 : 0 ≤ τ_27.1 47 ∧ τ_27.1 47 ≤ 1500 := hT.1 47
      have v48 : (-1) ≤ τ_27.1 48 ∧ τ_27.1 48 ≤ 999 := hT.1 48
      have v49 : (-1) ≤ τ_27.1 49 ∧ τ_27.1 49 ≤ 999 := hT.1 49
      have a14_47 : 0 ≤ τ_27.2.1 14 (τ_27.1 47) ∧ τ_27.2.1 14 (τ_27.1 47) ≤ 30000 := hT.2 14 _
      exfalso; (first | omega | (simp only [st_s] <;> omega) | assumption | omega | fail)
    | succ m_27 ih_27 =>
      intro u1_27 τ_27 hm_27 hT W3 W4 W5 W6 W7 W13 W14 W15 G2 G3 G4 G5 G6 G8 G10 G11 G13 G14 G15 G16 G27 G28 G29 G30 G31 G32 G33 G34 G35 G36 G37 i27_1 i27_2 i27_3 i27_4 i27_5 i27_6 i27_7 i27_8 i27_9 i27_10 i27_11
      have A2 : ∀ j, 0 ≤ τ_27.2.1 2 j ∧ τ_27.2.1 2 j ≤ 65535 := fun j => hT.2 2 j
      have A3 : ∀ j, 0 ≤ τ_27.2.1 3 j ∧ τ_27.2.1 3 j ≤ 30000 := fun j => hT.2 3 j
      have A4 : ∀ j, (-1000) ≤ τ_27.2.1 4 j ∧ τ_27.2.1 4 j ≤ 1499 := fun j => hT.2 4 j
      have A5 : ∀ j, 0 ≤ τ_27.2.1 5 j ∧ τ_27.2.1 5 j ≤ 2500 := fun j => hT.2 5 j
      have A6 : ∀ j, 0 ≤ τ_27.2.1 6 j ∧ τ_27.2.1 6 j ≤ 2500 := fun j => hT.2 6 j
      have A8 : ∀ j, 0 ≤ τ_27.2.1 8 j ∧ τ_27.2.1 8 j ≤ 1 := fun j => hT.2 8 j
      have A10 : ∀ j, (-1) ≤ τ_27.2.1 10 j ∧ τ_27.2.1 10 j ≤ 99 := fun j => hT.2 10 j
      have A11 : ∀ j, 0 ≤ τ_27.2.1 11 j ∧ τ_27.2.1 11 j ≤ 999 := fun j => hT.2 11 j
      have A13 : ∀ j, 0 ≤ τ_27.2.1 13 j ∧ τ_27.2.1 13 j ≤ 4 := fun j => hT.2 13 j
      have A14 : ∀ j, 0 ≤ τ_27.2.1 14 j ∧ τ_27.2.1 14 j ≤ 30000 := fun j => hT.2 14 j
      have A15 : ∀ j, 0 ≤ τ_27.2.1 15 j ∧ τ_27.2.1 15 j ≤ 999 := fun j => hT.2 15 j
      have A16 : ∀ j, (-1) ≤ τ_27.2.1 16 j ∧ τ_27.2.1 16 j ≤ 1499 := fun j => hT.2 16 j
      have A27 : ∀ j, 0 ≤ τ_27.2.1 27 j ∧ τ_27.2.1 27 j ≤ 90000 := fun j => hT.2 27 j
      have A28 : ∀ j, 0 ≤ τ_27.2.1 28 j ∧ τ_27.2.1 28 j ≤ 60 := fun j => hT.2 28 j
      have A29 : ∀ j, 0 ≤ τ_27.2.1 29 j ∧ τ_27.2.1 29 j ≤ 1499 := fun j => hT.2 29 j
      have A30 : ∀ j, 0 ≤ τ_27.2.1 30 j ∧ τ_27.2.1 30 j ≤ 20000 := fun j => hT.2 30 j
      have A31 : ∀ j, 0 ≤ τ_27.2.1 31 j ∧ τ_27.2.1 31 j ≤ 20000 := fun j => hT.2 31 j
      have A32 : ∀ j, 0 ≤ τ_27.2.1 32 j ∧ τ_27.2.1 32 j ≤ 999999 := fun j => hT.2 32 j
      have A33 : ∀ j, 0 ≤ τ_27.2.1 33 j ∧ τ_27.2.1 33 j ≤ 20000 := fun j => hT.2 33 j
      have A34 : ∀ j, 0 ≤ τ_27.2.1 34 j ∧ τ_27.2.1 34 j ≤ 20000 := fun j => hT.2 34 j
      have A35 : ∀ j, 0 ≤ τ_27.2.1 35 j ∧ τ_27.2.1 35 j ≤ 1499 := fun j => hT.2 35 j
      have A36 : ∀ j, 0 ≤ τ_27.2.1 36 j ∧ τ_27.2.1 36 j ≤ 20000 := fun j => hT.2 36 j
      have A37 : ∀ j, 0 ≤ τ_27.2.1 37 j ∧ τ_27.2.1 37 j ≤ 19999 := fun j => hT.2 37 j
      have A67 : ∀ j, 0 ≤ τ_27.2.1 67 j ∧ τ_27.2.1 67 j ≤ 30000 := fun j => hT.2 67 j
      have A68 : ∀ j, 0 ≤ τ_27.2.1 68 j ∧ τ_27.2.1 68 j ≤ 30000 := fun j => hT.2 68 j
      have A69 : ∀ j, (-100) ≤ τ_27.2.1 69 j ∧ τ_27.2.1 69 j ≤ 999 := fun j => hT.2 69 j
      have A70 : ∀ j, 0 ≤ τ_27.2.1 70 j ∧ τ_27.2.1 70 j ≤ 1499 := fun j => hT.2 70 j
      have A71 : ∀ j, 0 ≤ τ_27.2.1 71 j ∧ τ_27.2.1 71 j ≤ 1500 := fun j => hT.2 71 j
      have A72 : ∀ j, 0 ≤ τ_27.2.1 72 j ∧ τ_27.2.1 72 j ≤ 1500 := fun j => hT.2 72 j
      have A73 : ∀ j, 0 ≤ τ_27.2.1 73 j ∧ τ_27.2.1 73 j ≤ 30000 := fun j => hT.2 73 j
      have A74 : ∀ j, 0 ≤ τ_27.2.1 74 j ∧ τ_27.2.1 74 j ≤ 30000 := fun j => hT.2 74 j
      have A75 : ∀ j, 0 ≤ τ_27.2.1 75 j ∧ τ_27.2.1 75 j ≤ 1499 := fun j => hT.2 75 j
      have A76 : ∀ j, 0 ≤ τ_27.2.1 76 j ∧ τ_27.2.1 76 j ≤ 99 := fun j => hT.2 76 j
      have v3 : 0 ≤ τ_27.1 3 ∧ τ_27.1 3 ≤ 2500 := hT.1 3
      have v4 : 0 ≤ τ_27.1 4 ∧ τ_27.1 4 ≤ 100 := hT.1 4
      have v5 : 0 ≤ τ_27.1 5 ∧ τ_27.1 5 ≤ 1000 := hT.1 5
      have v6 : 0 ≤ τ_27.1 6 ∧ τ_27.1 6 ≤ 30000 := hT.1 6
      have v7 : 0 ≤ τ_27.1 7 ∧ τ_27.1 7 ≤ 1500 := hT.1 7
      have v13 : 0 ≤ τ_27.1 13 ∧ τ_27.1 13 ≤ 90000 := hT.1 13
      have v14 : 0 ≤ τ_27.1 14 ∧ τ_27.1 14 ≤ 20000 := hT.1 14
      have v15 : 0 ≤ τ_27.1 15 ∧ τ_27.1 15 ≤ 20000 := hT.1 15
      have v45 : 1 ≤ τ_27.1 45 ∧ τ_27.1 45 ≤ 30001 := hT.1 45
      have v46 : 0 ≤ τ_27.1 46 ∧ τ_27.1 46 ≤ 1500 := hT.1 46
      have v47 : 0 ≤ τ_27.1 47 ∧ τ_27.1 47 ≤ 1500 := hT.1 47
      have v48 : (-1) ≤ τ_27.1 48 ∧ τ_27.1 48 ≤ 999 := hT.1 48
      have v49 : (-1) ≤ τ_27.1 49 ∧ τ_27.1 49 ≤ 999 := hT.1 49
      have a14_47 : 0 ≤ τ_27.2.1 14 (τ_27.1 47) ∧ τ_27.2.1 14 (τ_27.1 47) ≤ 30000 := hT.2 14 _
      have HT : J_ht (τ_27.1 3) (τ_27.2.1 2) (τ_27.2.1 3) (τ_27.2.1 5) (τ_27.2.1 6) := by rw [show (J_ht (τ_27.1 3) (τ_27.2.1 2) (τ_27.2.1 3) (τ_27.2.1 5) (τ_27.2.1 6)) = (J_ht (σ.1 3) (σ.2.1 2) (σ.2.1 3) (σ.2.1 5) (σ.2.1 6)) from by rw [W3, G2, G3, G5, G6]]; exact HT_0
      have MN : J_mn (τ_27.1 3) (τ_27.1 5) ((τ_27.1 7) + 1) (τ_27.2.1 4) := by rw [show (J_mn (τ_27.1 3) (τ_27.1 5) ((τ_27.1 7) + 1) (τ_27.2.1 4)) = (J_mn (σ.1 3) (σ.1 5) ((σ.1 7) + 1) (σ.2.1 4)) from by rw [W3, W5, W7, G4]]; exact MN_0
      have TX : J_vs (τ_27.1 6) (τ_27.1 5) (τ_27.2.1 15) := by rw [show (J_vs (τ_27.1 6) (τ_27.1 5) (τ_27.2.1 15)) = (J_vs (σ.1 6) (σ.1 5) (σ.2.1 15)) from by rw [W5, W6, G15]]; exact TX_0
      have RKS : J_rks (τ_27.1 5) (τ_27.1 4) (τ_27.2.1 10) (τ_27.2.1 11) := by rw [show (J_rks (τ_27.1 5) (τ_27.1 4) (τ_27.2.1 10) (τ_27.2.1 11)) = (J_rks (σ.1 5) (σ.1 4) (σ.2.1 10) (σ.2.1 11)) from by rw [W4, W5, G10, G11]]; exact RKS_0
      have CJ : J_all (τ_27.1 7) (τ_27.1 6) (τ_27.1 13) (τ_27.1 14) (τ_27.1 15) (τ_27.2.1 13) (τ_27.2.1 14) (τ_27.2.1 15) (τ_27.2.1 16) (τ_27.2.1 10) (τ_27.2.1 27) (τ_27.2.1 28) (τ_27.2.1 29) (τ_27.2.1 30) (τ_27.2.1 31) (τ_27.2.1 32) (τ_27.2.1 33) (τ_27.2.1 34) (τ_27.2.1 35) (τ_27.2.1 36) (τ_27.2.1 37) := by rw [show (J_all (τ_27.1 7) (τ_27.1 6) (τ_27.1 13) (τ_27.1 14) (τ_27.1 15) (τ_27.2.1 13) (τ_27.2.1 14) (τ_27.2.1 15) (τ_27.2.1 16) (τ_27.2.1 10) (τ_27.2.1 27) (τ_27.2.1 28) (τ_27.2.1 29) (τ_27.2.1 30) (τ_27.2.1 31) (τ_27.2.1 32) (τ_27.2.1 33) (τ_27.2.1 34) (τ_27.2.1 35) (τ_27.2.1 36) (τ_27.2.1 37)) = (J_all (σ.1 7) (σ.1 6) (σ.1 13) (σ.1 14) (σ.1 15) (σ.2.1 13) (σ.2.1 14) (σ.2.1 15) (σ.2.1 16) (σ.2.1 10) (σ.2.1 27) (σ.2.1 28) (σ.2.1 29) (σ.2.1 30) (σ.2.1 31) (σ.2.1 32) (σ.2.1 33) (σ.2.1 34) (σ.2.1 35) (σ.2.1 36) (σ.2.1 37)) from by rw [W6, W7, W13, W14, W15, G10, G13, G14, G15, G16, G27, G28, G29, G30, G31, G32, G33, G34, G35, G36, G37]]; exact CJ_0
      refine h27 u1_27 τ_27 ?_
      refine ⟨fun c7 => ?_, fun c7 => ?_⟩
      ·
        replace hT := cT_v (i := 47) hT (show 0 ≤ (τ_27.1 7) ∧ (τ_27.1 7) ≤ 1500 from by (first | omega | (simp only [st_s] <;> omega) | assumption | omega | fail))
        exact ⟨hT, (show ((τ_27.1 7)) = (σ.1 7) from by (first | omega | (simp only [st_s] <;> omega) | assumption | omega | fail)), (show ((τ_27.1 7)) ≤ (τ_27.1 7) from by (first | omega | (simp only [st_s] <;> omega) | assumption | omega | fail)), (show (τ_27.1 45) ≤ τ_27.2.1 14 ((τ_27.1 7)) + 1 from by (rw [G14, show τ_27.1 7 = u1_27 from by omega]; exact i27_4)), (show (τ_27.1 46) ≤ ((τ_27.1 7)) from by (first | omega | (simp only [st_s] <;> omega) | assumption | omega | fail)), (show c_Uk ((τ_27.1 7)) In0 (s_v τ_27 47 (τ_27.1 7)) from by exact (show c_Uk (τ_27.1 7) In0 τ_27 from by rw [show (τ_27.1 7) = u1_27 from by omega]; exact i27_3)), (show (τ_27.1 48) = -1 ∨ g_pe (s_v τ_27 47 (τ_27.1 7)) (τ_27.1 48) from by (rcases i27_6 with w | w; exact Or.inl w; exact Or.inr (g_pe_e W3 G2 G3 G4 G8 w))), (show (τ_27.1 48) < (σ.1 5) from by (first | omega | (simp only [st_s] <;> omega) | assumption | omega | fail)), (show (τ_27.1 49) < (σ.1 5) from by (first | omega | (simp only [st_s] <;> omega) | assumption | omega | fail)), (show g_wf (s_v τ_27 47 (τ_27.1 7)) (τ_27.1 49) from by exact g_wf_e W3 G2 G3 G4 G8 i27_10), (show (τ_27.1 49) = -1 ∨ g_we (s_v τ_27 47 (τ_27.1 7)) (τ_27.1 49) from by exact i27_11.imp id (g_we_e W3 G2 G3 G4 G8).mpr), (show g_pvf (s_v τ_27 47 (τ_27.1 7)) (τ_27.1 48) from by exact g_pvf_e W3 G2 G3 G4 G8 (fun w w0 hw => by obtain ⟨n, ⟨a, b⟩, c, d, e, f⟩ := hw; have y := i27_8 n a b c d (by omega) (by rw [e, show -1 - (-1 - w) = w from by omega]; exact f); omega))⟩
      ·
        have jt1 := mono u1_27 (by omega) (by omega)
        refine ⟨_, K_X3_lengthOf hT (show 0 ≤ u1_27 from by (first | omega | (simp only [st_s] <;> omega) | assumption | omega | fail)) (show u1_27 < 1500 from by (first | omega | (simp only [st_s] <;> omega) | assumption | omega | fail)), ?_⟩
        intro x9 r_x9 hq
        have q8_1 := hq
        replace q8_1 : x9 = τ_27.2.1 14 (u1_27 + 1) - τ_27.2.1 14 u1_27 := q8_1
        rw [G14] at q8_1
        refine ⟨fun c11 => ?_, fun c11 => ?_⟩
        ·
          refine ⟨(⟨by (first | omega | (simp only [st_s] <;> omega) | assumption | omega | fail), by (first | omega | (simp only [st_s] <;> omega) | assumption | omega | fail)⟩ : rg (u1_27 + 1)), ?_⟩
          exact ih_27 _ _ (show (1501 - (u1_27 + 1) : Int) < ((m_27 : Nat) : Int) from by ((first | omega | (simp only [st_s] <;> omega) | assumption | omega | fail))) hT (show τ_27.1 3 = σ.1 3 from by first | exact W3 | omega) (show τ_27.1 4 = σ.1 4 from by first | exact W4 | omega) (show τ_27.1 5 = σ.1 5 from by first | exact W5 | omega) (show τ_27.1 6 = σ.1 6 from by first | exact W6 | omega) (show τ_27.1 7 = σ.1 7 from by first | exact W7 | omega) (show τ_27.1 13 = σ.1 13 from by first | exact W13 | omega) (show τ_27.1 14 = σ.1 14 from by first | exact W14 | omega) (show τ_27.1 15 = σ.1 15 from by first | exact W15 | omega) G2 G3 G4 G5 G6 G8 G10 G11 G13 G14 G15 G16 G27 G28 G29 G30 G31 G32 G33 G34 G35 G36 G37 (show (σ.1 47) ≤ (u1_27 + 1) from by (first | omega | (simp only [st_s] <;> omega) | assumption | omega | fail)) (show (u1_27 + 1) ≤ (σ.1 7) from by (first | omega | (simp only [st_s] <;> omega) | assumption | omega | fail)) (show c_Uk (u1_27 + 1) In0 τ_27 from by (first | exact c_Uk_e p9 (fun i hi => by simp only [List.mem_cons, List.mem_nil_iff, or_false] at hi; have q9 := hi; rcases q9 with rfl | rfl | rfl | rfl <;> rfl) (fun i hi => rfl) | exact (show c_Uk _ In0 σ from p9) | exact c_Uk_w i27_3 (by omega) | exact q18_1 | fail)) (show (τ_27.1 45) ≤ σ.2.1 14 (u1_27 + 1) + 1 from by (first | exact p7 | omega | (rw [g14_τ20] at *; omega) | (have w := q18_2; rw [← g14_τ20, G14] at w; exact w) | fail)) (show (τ_27.1 46) ≤ (u1_27 + 1) from by (first | omega | (simp only [st_s] <;> omega) | assumption | omega | fail)) (show (τ_27.1 48) = -1 ∨ g_pe σ (τ_27.1 48) from by (first | exact q1_4 | exact i27_6 | (rw [w48_τ20]; exact i27_6) | fail)) (show (τ_27.1 48) < (σ.1 5) from by (first | omega | (simp only [st_s] <;> omega) | assumption | omega | fail)) (show ∀ n : Int, 0 ≤ n → n < (σ.1 3) → j_sp σ n → (∀ m : Int, n < m → m < (σ.1 3) → ¬ j_sp σ m) → σ.2.1 4 n < 0 → σ.2.1 8 (-1 - σ.2.1 4 n) = 0 → (τ_27.1 48) = -1 - σ.2.1 4 n from by (first | exact q1_3 | exact i27_8 | (rw [w48_τ20]; exact i27_8) | fail)) (show (τ_27.1 49) < (σ.1 5) from by (first | omega | (simp only [st_s] <;> omega) | assumption | omega | fail)) (show g_wf σ (τ_27.1 49) from by (first | exact q4_3 | exact i27_10 | (rw [w49_τ20]; exact i27_10) | fail)) (show (τ_27.1 49) = -1 ∨ g_we σ (τ_27.1 49) from by (first | exact q4_4 | exact i27_11 | (rw [w49_τ20]; exact i27_11) | fail))
        ·
          refine ⟨_, K_X8_isRule hT (show 0 ≤ u1_27 from by (first | omega | (simp only [st_s] <;> omega) | assumption | omega | fail)) (show u1_27 < (τ_27.1 7) from by (first | omega | (simp only [st_s] <;> omega) | assumption | omega | fail)) (show J_all (τ_27.1 7) (τ_27.1 6) (τ_27.1 13) (τ_27.1 14) (τ_27.1 15) (τ_27.2.1 13) (τ_27.2.1 14) (τ_27.2.1 15) (τ_27.2.1 16) (τ_27.2.1 10) (τ_27.2.1 27) (τ_27.2.1 28) (τ_27.2.1 29) (τ_27.2.1 30) (τ_27.2.1 31) (τ_27.2.1 32) (τ_27.2.1 33) (τ_27.2.1 34) (τ_27.2.1 35) (τ_27.2.1 36) (τ_27.2.1 37) from CJ), ?_⟩
          intro x14 r_x14 hq
          obtain ⟨q13_1, q13_2, q13_3⟩ := hq
          replace q13_1 : 0 ≤ x14 ∧ x14 ≤ 1 := q13_1
          replace q13_2 : ¬ x14 = 0 → τ_27.2.1 13 u1_27 = 2 ∧ ¬ τ_27.2.1 15 (τ_27.2.1 14 u1_27) = (τ_27.1 48) ∧ τ_27.2.1 14 u1_27 + 2 ≤ τ_27.2.1 14 (u1_27 + 1) ∧ ∀ k : Int, 0 ≤ k → k < τ_27.2.1 28 u1_27 → τ_27.2.1 13 (τ_27.2.1 29 (τ_27.2.1 27 u1_27 + k)) = 0 := q13_2
          replace q13_3 : ¬ x14 = 0 → sm (g_cv (τ_27.2.1 14) (τ_27.2.1 16) u1_27) (τ_27.2.1 14 (u1_27 + 1) - τ_27.2.1 14 u1_27) = τ_27.2.1 28 u1_27 := q13_3
          refine ⟨fun c16 => ?_, fun c16 => ?_⟩
          ·
            refine ⟨(⟨by (first | omega | (simp only [st_s] <;> omega) | assumption | omega | fail), by (first | omega | (simp only [st_s] <;> omega) | assumption | omega | fail)⟩ : rg (u1_27 + 1)), ?_⟩
            exact ih_27 _ _ (show (1501 - (u1_27 + 1) : Int) < ((m_27 : Nat) : Int) from by ((first | omega | (simp only [st_s] <;> omega) | assumption | omega | fail))) hT (show τ_27.1 3 = σ.1 3 from by first | exact W3 | omega) (show τ_27.1 4 = σ.1 4 from by first | exact W4 | omega) (show τ_27.1 5 = σ.1 5 from by first | exact W5 | omega) (show τ_27.1 6 = σ.1 6 from by first | exact W6 | omega) (show τ_27.1 7 = σ.1 7 from by first | exact W7 | omega) (show τ_27.1 13 = σ.1 13 from by first | exact W13 | omega) (show τ_27.1 14 = σ.1 14 from by first | exact W14 | omega) (show τ_27.1 15 = σ.1 15 from by first | exact W15 | omega) G2 G3 G4 G5 G6 G8 G10 G11 G13 G14 G15 G16 G27 G28 G29 G30 G31 G32 G33 G34 G35 G36 G37 (show (σ.1 47) ≤ (u1_27 + 1) from by (first | omega | (simp only [st_s] <;> omega) | assumption | omega | fail)) (show (u1_27 + 1) ≤ (σ.1 7) from by (first | omega | (simp only [st_s] <;> omega) | assumption | omega | fail)) (show c_Uk (u1_27 + 1) In0 τ_27 from by (first | exact c_Uk_e p9 (fun i hi => by simp only [List.mem_cons, List.mem_nil_iff, or_false] at hi; have q9 := hi; rcases q9 with rfl | rfl | rfl | rfl <;> rfl) (fun i hi => rfl) | exact (show c_Uk _ In0 σ from p9) | exact c_Uk_w i27_3 (by omega) | exact q18_1 | fail)) (show (τ_27.1 45) ≤ σ.2.1 14 (u1_27 + 1) + 1 from by (first | exact p7 | omega | (rw [g14_τ20] at *; omega) | (have w := q18_2; rw [← g14_τ20, G14] at w; exact w) | fail)) (show (τ_27.1 46) ≤ (u1_27 + 1) from by (first | omega | (simp only [st_s] <;> omega) | assumption | omega | fail)) (show (τ_27.1 48) = -1 ∨ g_pe σ (τ_27.1 48) from by (first | exact q1_4 | exact i27_6 | (rw [w48_τ20]; exact i27_6) | fail)) (show (τ_27.1 48) < (σ.1 5) from by (first | omega | (simp only [st_s] <;> omega) | assumption | omega | fail)) (show ∀ n : Int, 0 ≤ n → n < (σ.1 3) → j_sp σ n → (∀ m : Int, n < m → m < (σ.1 3) → ¬ j_sp σ m) → σ.2.1 4 n < 0 → σ.2.1 8 (-1 - σ.2.1 4 n) = 0 → (τ_27.1 48) = -1 - σ.2.1 4 n from by (first | exact q1_3 | exact i27_8 | (rw [w48_τ20]; exact i27_8) | fail)) (show (τ_27.1 49) < (σ.1 5) from by (first | omega | (simp only [st_s] <;> omega) | assumption | omega | fail)) (show g_wf σ (τ_27.1 49) from by (first | exact q4_3 | exact i27_10 | (rw [w49_τ20]; exact i27_10) | fail)) (show (τ_27.1 49) = -1 ∨ g_we σ (τ_27.1 49) from by (first | exact q4_4 | exact i27_11 | (rw [w49_τ20]; exact i27_11) | fail))
          ·
            have rf : g_rf u1_27 (τ_27.2.1 13) (τ_27.2.1 14) (τ_27.2.1 27) (τ_27.2.1 28) (τ_27.2.1 29) := by have w := q13_2 (by omega); exact ⟨w.1, w.2.2.1, by omega, w.2.2.2⟩
            have nv := g_nv_of CJ (by omega) (by omega) rf (A28 u1_27).1 (q13_3 (by omega))
            have pr : g_p1 τ_27 u1_27 := by intro n n0 n1 s f m v e; have w := q13_2 (by omega); have y := i27_8 n n0 (by omega) ((j_sp_e G2 G3 n).mp s) (fun k a b q => f k a (by omega) ((j_sp_e G2 G3 k).mpr q)) (by rw [← G4]; exact m) (by rw [← G4, ← G8]; exact v); rw [G4] at e; omega
            refine ⟨_, K_X8_insert hT (show 0 ≤ u1_27 from by (first | omega | (simp only [st_s] <;> omega) | assumption | omega | fail)) (show u1_27 < (τ_27.1 7) from by (first | omega | (simp only [st_s] <;> omega) | assumption | omega | fail)) (show J_all (τ_27.1 7) (τ_27.1 6) (τ_27.1 13) (τ_27.1 14) (τ_27.1 15) (τ_27.2.1 13) (τ_27.2.1 14) (τ_27.2.1 15) (τ_27.2.1 16) (τ_27.2.1 10) (τ_27.2.1 27) (τ_27.2.1 28) (τ_27.2.1 29) (τ_27.2.1 30) (τ_27.2.1 31) (τ_27.2.1 32) (τ_27.2.1 33) (τ_27.2.1 34) (τ_27.2.1 35) (τ_27.2.1 36) (τ_27.2.1 37) from CJ) (show g_rf u1_27 (τ_27.2.1 13) (τ_27.2.1 14) (τ_27.2.1 27) (τ_27.2.1 28) (τ_27.2.1 29) from by (first | omega | (simp only [st_s] <;> omega) | assumption | omega | fail)) (show g_p1 τ_27 u1_27 from by (first | omega | (simp only [st_s] <;> omega) | assumption | omega | fail)) (show (τ_27.1 45) ≤ τ_27.2.1 14 u1_27 + 1 from by (rw [G14]; exact i27_4)) (show (τ_27.1 46) ≤ u1_27 from by (first | omega | (simp only [st_s] <;> omega) | assumption | omega | fail)) (show c_Uk u1_27 In0 τ_27 from by (first | omega | (simp only [st_s] <;> omega) | assumption | omega | fail)) (show J_rks (τ_27.1 5) (τ_27.1 4) (τ_27.2.1 10) (τ_27.2.1 11) from RKS) (show J_vs (τ_27.1 6) (τ_27.1 5) (τ_27.2.1 15) from TX) (show g_nv u1_27 (τ_27.2.1 14) (τ_27.2.1 15) (τ_27.2.1 16) from by (first | omega | (simp only [st_s] <;> omega) | assumption | omega | fail)), ?_⟩
            intro τ20 hn_τ20 hf_τ20 hq
            obtain ⟨hT, q18_1, q18_2, q18_3⟩ := hq
            replace q18_1 : c_Uk (u1_27 + 1) In0 τ20 := q18_1
            replace q18_2 : (τ20.1 45) ≤ τ_27.2.1 14 (u1_27 + 1) + 1 := q18_2
            replace q18_3 : (τ20.1 46) ≤ u1_27 + 1 := q18_3
            have w3_τ20 : τ20.1 3 = τ_27.1 3 := hf_τ20.1 3 (by decide)
            have w4_τ20 : τ20.1 4 = τ_27.1 4 := hf_τ20.1 4 (by decide)
            have w5_τ20 : τ20.1 5 = τ_27.1 5 := hf_τ20.1 5 (by decide)
            have w6_τ20 : τ20.1 6 = τ_27.1 6 := hf_τ20.1 6 (by decide)
            have w7_τ20 : τ20.1 7 = τ_27.1 7 := hf_τ20.1 7 (by decide)
            have w13_τ20 : τ20.1 13 = τ_27.1 13 := hf_τ20.1 13 (by decide)
            have w14_τ20 : τ20.1 14 = τ_27.1 14 := hf_τ20.1 14 (by decide)
            have w15_τ20 : τ20.1 15 = τ_27.1 15 := hf_τ20.1 15 (by decide)
            have w47_τ20 : τ20.1 47 = τ_27.1 47 := hf_τ20.1 47 (by decide)
            have w48_τ20 : τ20.1 48 = τ_27.1 48 := hf_τ20.1 48 (by decide)
            have w49_τ20 : τ20.1 49 = τ_27.1 49 := hf_τ20.1 49 (by decide)
            have g2_τ20 : τ20.2.1 2 = τ_27.2.1 2 := hf_τ20.2.1 2 (by decide)
            have g3_τ20 : τ20.2.1 3 = τ_27.2.1 3 := hf_τ20.2.1 3 (by decide)
            have g4_τ20 : τ20.2.1 4 = τ_27.2.1 4 := hf_τ20.2.1 4 (by decide)
            have g5_τ20 : τ20.2.1 5 = τ_27.2.1 5 := hf_τ20.2.1 5 (by decide)
            have g6_τ20 : τ20.2.1 6 = τ_27.2.1 6 := hf_τ20.2.1 6 (by decide)
            have g8_τ20 : τ20.2.1 8 = τ_27.2.1 8 := hf_τ20.2.1 8 (by decide)
            have g10_τ20 : τ20.2.1 10 = τ_27.2.1 10 := hf_τ20.2.1 10 (by decide)
            have g11_τ20 : τ20.2.1 11 = τ_27.2.1 11 := hf_τ20.2.1 11 (by decide)
            have g13_τ20 : τ20.2.1 13 = τ_27.2.1 13 := hf_τ20.2.1 13 (by decide)
            have g14_τ20 : τ20.2.1 14 = τ_27.2.1 14 := hf_τ20.2.1 14 (by decide)
            have g15_τ20 : τ20.2.1 15 = τ_27.2.1 15 := hf_τ20.2.1 15 (by decide)
            have g16_τ20 : τ20.2.1 16 = τ_27.2.1 16 := hf_τ20.2.1 16 (by decide)
            have g27_τ20 : τ20.2.1 27 = τ_27.2.1 27 := hf_τ20.2.1 27 (by decide)
            have g28_τ20 : τ20.2.1 28 = τ_27.2.1 28 := hf_τ20.2.1 28 (by decide)
            have g29_τ20 : τ20.2.1 29 = τ_27.2.1 29 := hf_τ20.2.1 29 (by decide)
            have g30_τ20 : τ20.2.1 30 = τ_27.2.1 30 := hf_τ20.2.1 30 (by decide)
            have g31_τ20 : τ20.2.1 31 = τ_27.2.1 31 := hf_τ20.2.1 31 (by decide)
            have g32_τ20 : τ20.2.1 32 = τ_27.2.1 32 := hf_τ20.2.1 32 (by decide)
            have g33_τ20 : τ20.2.1 33 = τ_27.2.1 33 := hf_τ20.2.1 33 (by decide)
            have g34_τ20 : τ20.2.1 34 = τ_27.2.1 34 := hf_τ20.2.1 34 (by decide)
            have g35_τ20 : τ20.2.1 35 = τ_27.2.1 35 := hf_τ20.2.1 35 (by decide)
            have g36_τ20 : τ20.2.1 36 = τ_27.2.1 36 := hf_τ20.2.1 36 (by decide)
            have g37_τ20 : τ20.2.1 37 = τ_27.2.1 37 := hf_τ20.2.1 37 (by decide)
            have W3 : τ20.1 3 = σ.1 3 := by first | exact w3_τ20.trans W3 | omega
            have W4 : τ20.1 4 = σ.1 4 := by first | exact w4_τ20.trans W4 | omega
            have W5 : τ20.1 5 = σ.1 5 := by first | exact w5_τ20.trans W5 | omega
            have W6 : τ20.1 6 = σ.1 6 := by first | exact w6_τ20.trans W6 | omega
            have W7 : τ20.1 7 = σ.1 7 := by first | exact w7_τ20.trans W7 | omega
            have W13 : τ20.1 13 = σ.1 13 := by first | exact w13_τ20.trans W13 | omega
            have W14 : τ20.1 14 = σ.1 14 := by first | exact w14_τ20.trans W14 | omega
            have W15 : τ20.1 15 = σ.1 15 := by first | exact w15_τ20.trans W15 | omega
            have G2 : τ20.2.1 2 = σ.2.1 2 := (g2_τ20).trans G2
            have G3 : τ20.2.1 3 = σ.2.1 3 := (g3_τ20).trans G3
            have G4 : τ20.2.1 4 = σ.2.1 4 := (g4_τ20).trans G4
            have G5 : τ20.2.1 5 = σ.2.1 5 := (g5_τ20).trans G5
            have G6 : τ20.2.1 6 = σ.2.1 6 := (g6_τ20).trans G6
            have G8 : τ20.2.1 8 = σ.2.1 8 := (g8_τ20).trans G8
            have G10 : τ20.2.1 10 = σ.2.1 10 := (g10_τ20).trans G10
            have G11 : τ20.2.1 11 = σ.2.1 11 := (g11_τ20).trans G11
            have G13 : τ20.2.1 13 = σ.2.1 13 := (g13_τ20).trans G13
            have G14 : τ20.2.1 14 = σ.2.1 14 := (g14_τ20).trans G14
            have G15 : τ20.2.1 15 = σ.2.1 15 := (g15_τ20).trans G15
            have G16 : τ20.2.1 16 = σ.2.1 16 := (g16_τ20).trans G16
            have G27 : τ20.2.1 27 = σ.2.1 27 := (g27_τ20).trans G27
            have G28 : τ20.2.1 28 = σ.2.1 28 := (g28_τ20).trans G28
            have G29 : τ20.2.1 29 = σ.2.1 29 := (g29_τ20).trans G29
            have G30 : τ20.2.1 30 = σ.2.1 30 := (g30_τ20).trans G30
            have G31 : τ20.2.1 31 = σ.2.1 31 := (g31_τ20).trans G31
            have G32 : τ20.2.1 32 = σ.2.1 32 := (g32_τ20).trans G32
            have G33 : τ20.2.1 33 = σ.2.1 33 := (g33_τ20).trans G33
            have G34 : τ20.2.1 34 = σ.2.1 34 := (g34_τ20).trans G34
            have G35 : τ20.2.1 35 = σ.2.1 35 := (g35_τ20).trans G35
            have G36 : τ20.2.1 36 = σ.2.1 36 := (g36_τ20).trans G36
            have G37 : τ20.2.1 37 = σ.2.1 37 := (g37_τ20).trans G37
            have y14_47_τ20 : τ20.2.1 14 (τ20.1 47) = (τ_27.2.1 14) (τ_27.1 47) := by rw [g14_τ20, w47_τ20]
            have HT : J_ht (τ20.1 3) (τ20.2.1 2) (τ20.2.1 3) (τ20.2.1 5) (τ20.2.1 6) := by rw [show (J_ht (τ20.1 3) (τ20.2.1 2) (τ20.2.1 3) (τ20.2.1 5) (τ20.2.1 6)) = (J_ht (τ_27.1 3) (τ_27.2.1 2) (τ_27.2.1 3) (τ_27.2.1 5) (τ_27.2.1 6)) from by rw [w3_τ20, g2_τ20, g3_τ20, g5_τ20, g6_τ20]]; exact HT
            have MN : J_mn (τ20.1 3) (τ20.1 5) ((τ20.1 7) + 1) (τ20.2.1 4) := by rw [show (J_mn (τ20.1 3) (τ20.1 5) ((τ20.1 7) + 1) (τ20.2.1 4)) = (J_mn (τ_27.1 3) (τ_27.1 5) ((τ_27.1 7) + 1) (τ_27.2.1 4)) from by rw [w3_τ20, w5_τ20, w7_τ20, g4_τ20]]; exact MN
            have TX : J_vs (τ20.1 6) (τ20.1 5) (τ20.2.1 15) := by rw [show (J_vs (τ20.1 6) (τ20.1 5) (τ20.2.1 15)) = (J_vs (τ_27.1 6) (τ_27.1 5) (τ_27.2.1 15)) from by rw [w5_τ20, w6_τ20, g15_τ20]]; exact TX
            have RKS : J_rks (τ20.1 5) (τ20.1 4) (τ20.2.1 10) (τ20.2.1 11) := by rw [show (J_rks (τ20.1 5) (τ20.1 4) (τ20.2.1 10) (τ20.2.1 11)) = (J_rks (τ_27.1 5) (τ_27.1 4) (τ_27.2.1 10) (τ_27.2.1 11)) from by rw [w4_τ20, w5_τ20, g10_τ20, g11_τ20]]; exact RKS
            have CJ : J_all (τ20.1 7) (τ20.1 6) (τ20.1 13) (τ20.1 14) (τ20.1 15) (τ20.2.1 13) (τ20.2.1 14) (τ20.2.1 15) (τ20.2.1 16) (τ20.2.1 10) (τ20.2.1 27) (τ20.2.1 28) (τ20.2.1 29) (τ20.2.1 30) (τ20.2.1 31) (τ20.2.1 32) (τ20.2.1 33) (τ20.2.1 34) (τ20.2.1 35) (τ20.2.1 36) (τ20.2.1 37) := by rw [show (J_all (τ20.1 7) (τ20.1 6) (τ20.1 13) (τ20.1 14) (τ20.1 15) (τ20.2.1 13) (τ20.2.1 14) (τ20.2.1 15) (τ20.2.1 16) (τ20.2.1 10) (τ20.2.1 27) (τ20.2.1 28) (τ20.2.1 29) (τ20.2.1 30) (τ20.2.1 31) (τ20.2.1 32) (τ20.2.1 33) (τ20.2.1 34) (τ20.2.1 35) (τ20.2.1 36) (τ20.2.1 37)) = (J_all (τ_27.1 7) (τ_27.1 6) (τ_27.1 13) (τ_27.1 14) (τ_27.1 15) (τ_27.2.1 13) (τ_27.2.1 14) (τ_27.2.1 15) (τ_27.2.1 16) (τ_27.2.1 10) (τ_27.2.1 27) (τ_27.2.1 28) (τ_27.2.1 29) (τ_27.2.1 30) (τ_27.2.1 31) (τ_27.2.1 32) (τ_27.2.1 33) (τ_27.2.1 34) (τ_27.2.1 35) (τ_27.2.1 36) (τ_27.2.1 37)) from by rw [w6_τ20, w7_τ20, w13_τ20, w14_τ20, w15_τ20, g10_τ20, g13_τ20, g14_τ20, g15_τ20, g16_τ20, g27_τ20, g28_τ20, g29_τ20, g30_τ20, g31_τ20, g32_τ20, g33_τ20, g34_τ20, g35_τ20, g36_τ20, g37_τ20]]; exact CJ
            have A2 : ∀ j, 0 ≤ τ20.2.1 2 j ∧ τ20.2.1 2 j ≤ 65535 := fun j => hT.2 2 j
            have A3 : ∀ j, 0 ≤ τ20.2.1 3 j ∧ τ20.2.1 3 j ≤ 30000 := fun j => hT.2 3 j
            have A4 : ∀ j, (-1000) ≤ τ20.2.1 4 j ∧ τ20.2.1 4 j ≤ 1499 := fun j => hT.2 4 j
            have A5 : ∀ j, 0 ≤ τ20.2.1 5 j ∧ τ20.2.1 5 j ≤ 2500 := fun j => hT.2 5 j
            have A6 : ∀ j, 0 ≤ τ20.2.1 6 j ∧ τ20.2.1 6 j ≤ 2500 := fun j => hT.2 6 j
            have A8 : ∀ j, 0 ≤ τ20.2.1 8 j ∧ τ20.2.1 8 j ≤ 1 := fun j => hT.2 8 j
            have A10 : ∀ j, (-1) ≤ τ20.2.1 10 j ∧ τ20.2.1 10 j ≤ 99 := fun j => hT.2 10 j
            have A11 : ∀ j, 0 ≤ τ20.2.1 11 j ∧ τ20.2.1 11 j ≤ 999 := fun j => hT.2 11 j
            have A13 : ∀ j, 0 ≤ τ20.2.1 13 j ∧ τ20.2.1 13 j ≤ 4 := fun j => hT.2 13 j
            have A14 : ∀ j, 0 ≤ τ20.2.1 14 j ∧ τ20.2.1 14 j ≤ 30000 := fun j => hT.2 14 j
            have A15 : ∀ j, 0 ≤ τ20.2.1 15 j ∧ τ20.2.1 15 j ≤ 999 := fun j => hT.2 15 j
            have A16 : ∀ j, (-1) ≤ τ20.2.1 16 j ∧ τ20.2.1 16 j ≤ 1499 := fun j => hT.2 16 j
            have A27 : ∀ j, 0 ≤ τ20.2.1 27 j ∧ τ20.2.1 27 j ≤ 90000 := fun j => hT.2 27 j
            have A28 : ∀ j, 0 ≤ τ20.2.1 28 j ∧ τ20.2.1 28 j ≤ 60 := fun j => hT.2 28 j
            have A29 : ∀ j, 0 ≤ τ20.2.1 29 j ∧ τ20.2.1 29 j ≤ 1499 := fun j => hT.2 29 j
            have A30 : ∀ j, 0 ≤ τ20.2.1 30 j ∧ τ20.2.1 30 j ≤ 20000 := fun j => hT.2 30 j
            have A31 : ∀ j, 0 ≤ τ20.2.1 31 j ∧ τ20.2.1 31 j ≤ 20000 := fun j => hT.2 31 j
            have A32 : ∀ j, 0 ≤ τ20.2.1 32 j ∧ τ20.2.1 32 j ≤ 999999 := fun j => hT.2 32 j
            have A33 : ∀ j, 0 ≤ τ20.2.1 33 j ∧ τ20.2.1 33 j ≤ 20000 := fun j => hT.2 33 j
            have A34 : ∀ j, 0 ≤ τ20.2.1 34 j ∧ τ20.2.1 34 j ≤ 20000 := fun j => hT.2 34 j
            have A35 : ∀ j, 0 ≤ τ20.2.1 35 j ∧ τ20.2.1 35 j ≤ 1499 := fun j => hT.2 35 j
            have A36 : ∀ j, 0 ≤ τ20.2.1 36 j ∧ τ20.2.1 36 j ≤ 20000 := fun j => hT.2 36 j
            have A37 : ∀ j, 0 ≤ τ20.2.1 37 j ∧ τ20.2.1 37 j ≤ 19999 := fun j => hT.2 37 j
            have A67 : ∀ j, 0 ≤ τ20.2.1 67 j ∧ τ20.2.1 67 j ≤ 30000 := fun j => hT.2 67 j
            have A68 : ∀ j, 0 ≤ τ20.2.1 68 j ∧ τ20.2.1 68 j ≤ 30000 := fun j => hT.2 68 j
            have A69 : ∀ j, (-100) ≤ τ20.2.1 69 j ∧ τ20.2.1 69 j ≤ 999 := fun j => hT.2 69 j
            have A70 : ∀ j, 0 ≤ τ20.2.1 70 j ∧ τ20.2.1 70 j ≤ 1499 := fun j => hT.2 70 j
            have A71 : ∀ j, 0 ≤ τ20.2.1 71 j ∧ τ20.2.1 71 j ≤ 1500 := fun j => hT.2 71 j
            have A72 : ∀ j, 0 ≤ τ20.2.1 72 j ∧ τ20.2.1 72 j ≤ 1500 := fun j => hT.2 72 j
            have A73 : ∀ j, 0 ≤ τ20.2.1 73 j ∧ τ20.2.1 73 j ≤ 30000 := fun j => hT.2 73 j
            have A74 : ∀ j, 0 ≤ τ20.2.1 74 j ∧ τ20.2.1 74 j ≤ 30000 := fun j => hT.2 74 j
            have A75 : ∀ j, 0 ≤ τ20.2.1 75 j ∧ τ20.2.1 75 j ≤ 1499 := fun j => hT.2 75 j
            have A76 : ∀ j, 0 ≤ τ20.2.1 76 j ∧ τ20.2.1 76 j ≤ 99 := fun j => hT.2 76 j
            have v3 : 0 ≤ τ20.1 3 ∧ τ20.1 3 ≤ 2500 := hT.1 3
            have v4 : 0 ≤ τ20.1 4 ∧ τ20.1 4 ≤ 100 := hT.1 4
            have v5 : 0 ≤ τ20.1 5 ∧ τ20.1 5 ≤ 1000 := hT.1 5
            have v6 : 0 ≤ τ20.1 6 ∧ τ20.1 6 ≤ 30000 := hT.1 6
            have v7 : 0 ≤ τ20.1 7 ∧ τ20.1 7 ≤ 1500 := hT.1 7
            have v13 : 0 ≤ τ20.1 13 ∧ τ20.1 13 ≤ 90000 := hT.1 13
            have v14 : 0 ≤ τ20.1 14 ∧ τ20.1 14 ≤ 20000 := hT.1 14
            have v15 : 0 ≤ τ20.1 15 ∧ τ20.1 15 ≤ 20000 := hT.1 15
            have v45 : 1 ≤ τ20.1 45 ∧ τ20.1 45 ≤ 30001 := hT.1 45
            have v46 : 0 ≤ τ20.1 46 ∧ τ20.1 46 ≤ 1500 := hT.1 46
            have v47 : 0 ≤ τ20.1 47 ∧ τ20.1 47 ≤ 1500 := hT.1 47
            have v48 : (-1) ≤ τ20.1 48 ∧ τ20.1 48 ≤ 999 := hT.1 48
            have v49 : (-1) ≤ τ20.1 49 ∧ τ20.1 49 ≤ 999 := hT.1 49
            have a14_47 : 0 ≤ τ20.2.1 14 (τ20.1 47) ∧ τ20.2.1 14 (τ20.1 47) ≤ 30000 := hT.2 14 _
            refine ⟨(⟨by (first | omega | (simp only [st_s] <;> omega) | assumption | omega | fail), by (first | omega | (simp only [st_s] <;> omega) | assumption | omega | fail)⟩ : rg (u1_27 + 1)), ?_⟩
            exact ih_27 _ _ (show (1501 - (u1_27 + 1) : Int) < ((m_27 : Nat) : Int) from by ((first | omega | (simp only [st_s] <;> omega) | assumption | omega | fail))) hT (show τ20.1 3 = σ.1 3 from by first | exact W3 | omega) (show τ20.1 4 = σ.1 4 from by first | exact W4 | omega) (show τ20.1 5 = σ.1 5 from by first | exact W5 | omega) (show τ20.1 6 = σ.1 6 from by first | exact W6 | omega) (show τ20.1 7 = σ.1 7 from by first | exact W7 | omega) (show τ20.1 13 = σ.1 13 from by first | exact W13 | omega) (show τ20.1 14 = σ.1 14 from by first | exact W14 | omega) (show τ20.1 15 = σ.1 15 from by first | exact W15 | omega) G2 G3 G4 G5 G6 G8 G10 G11 G13 G14 G15 G16 G27 G28 G29 G30 G31 G32 G33 G34 G35 G36 G37 (show (σ.1 47) ≤ (u1_27 + 1) from by (first | omega | (simp only [st_s] <;> omega) | assumption | omega | fail)) (show (u1_27 + 1) ≤ (σ.1 7) from by (first | omega | (simp only [st_s] <;> omega) | assumption | omega | fail)) (show c_Uk (u1_27 + 1) In0 τ20 from by (first | exact c_Uk_e p9 (fun i hi => by simp only [List.mem_cons, List.mem_nil_iff, or_false] at hi; have q9 := hi; rcases q9 with rfl | rfl | rfl | rfl <;> rfl) (fun i hi => rfl) | exact (show c_Uk _ In0 σ from p9) | exact c_Uk_w i27_3 (by omega) | exact q18_1 | fail)) (show (τ20.1 45) ≤ σ.2.1 14 (u1_27 + 1) + 1 from by (first | exact p7 | omega | (rw [g14_τ20] at *; omega) | (have w := q18_2; rw [← g14_τ20, G14] at w; exact w) | fail)) (show (τ20.1 46) ≤ (u1_27 + 1) from by (first | omega | (simp only [st_s] <;> omega) | assumption | omega | fail)) (show (τ20.1 48) = -1 ∨ g_pe σ (τ20.1 48) from by (first | exact q1_4 | exact i27_6 | (rw [w48_τ20]; exact i27_6) | fail)) (show (τ20.1 48) < (σ.1 5) from by (first | omega | (simp only [st_s] <;> omega) | assumption | omega | fail)) (show ∀ n : Int, 0 ≤ n → n < (σ.1 3) → j_sp σ n → (∀ m : Int, n < m → m < (σ.1 3) → ¬ j_sp σ m) → σ.2.1 4 n < 0 → σ.2.1 8 (-1 - σ.2.1 4 n) = 0 → (τ20.1 48) = -1 - σ.2.1 4 n from by (first | exact q1_3 | exact i27_8 | (rw [w48_τ20]; exact i27_8) | fail)) (show (τ20.1 49) < (σ.1 5) from by (first | omega | (simp only [st_s] <;> omega) | assumption | omega | fail)) (show g_wf σ (τ20.1 49) from by (first | exact q4_3 | exact i27_10 | (rw [w49_τ20]; exact i27_10) | fail)) (show (τ20.1 49) = -1 ∨ g_we σ (τ20.1 49) from by (first | exact q4_4 | exact i27_11 | (rw [w49_τ20]; exact i27_11) | fail))
  refine ⟨_, K2_X8_constantNamed_t1 hT (show J_ht (σ.1 3) (σ.2.1 2) (σ.2.1 3) (σ.2.1 5) (σ.2.1 6) from HT) (show J_mn (σ.1 3) (σ.1 5) ((σ.1 7) + 1) (σ.2.1 4) from MN), ?_⟩
  intro x2 r_x2 hq
  obtain ⟨q1_1, q1_2, q1_3, q1_4⟩ := hq
  replace q1_1 : -1 ≤ x2 ∧ x2 ≤ 999 := q1_1
  replace q1_2 : x2 < (σ.1 5) := q1_2
  replace q1_3 : ∀ n : Int, 0 ≤ n → n < (σ.1 3) → j_sp σ n → (∀ m : Int, n < m → m < (σ.1 3) → ¬ j_sp σ m) → σ.2.1 4 n < 0 → σ.2.1 8 (-1 - σ.2.1 4 n) = 0 → x2 = -1 - σ.2.1 4 n := q1_3
  replace q1_4 : x2 = -1 ∨ g_pe σ x2 := q1_4
  replace hT := cT_v (i := 48) hT (show (-1) ≤ x2 ∧ x2 ≤ 999 from by (first | omega | (simp only [st_s] <;> omega) | assumption | omega | fail))
  refine ⟨_, K2_X8_constantNamed_t2 hT (show J_ht (σ.1 3) (σ.2.1 2) (σ.2.1 3) (σ.2.1 5) (σ.2.1 6) from HT) (show J_mn (σ.1 3) (σ.1 5) ((σ.1 7) + 1) (σ.2.1 4) from MN), ?_⟩
  intro x5 r_x5 hq
  obtain ⟨q4_1, q4_2, q4_3, q4_4⟩ := hq
  replace q4_1 : -1 ≤ x5 ∧ x5 ≤ 999 := q4_1
  replace q4_2 : x5 < (σ.1 5) := q4_2
  replace q4_3 : g_wf (s_v σ 48 x2) x5 := q4_3
  replace q4_4 : x5 = -1 ∨ g_we (s_v σ 48 x2) x5 := q4_4
  replace hT := cT_v (i := 49) hT (show (-1) ≤ x5 ∧ x5 ≤ 999 from by (first | omega | (simp only [st_s] <;> omega) | assumption | omega | fail))
  exact l_27 ((1501 - (σ.1 47) : Int).toNat + 1) _ _ (show (1501 - (σ.1 47) : Int) < (((1501 - (σ.1 47) : Int).toNat + 1 : Nat) : Int) from by ((first | omega | (simp only [st_s] <;> omega) | assumption | omega | fail))) hT (show σ.1 3 = σ.1 3 from by first | exact W3 | omega) (show σ.1 4 = σ.1 4 from by first | exact W4 | omega) (show σ.1 5 = σ.1 5 from by first | exact W5 | omega) (show σ.1 6 = σ.1 6 from by first | exact W6 | omega) (show σ.1 7 = σ.1 7 from by first | exact W7 | omega) (show σ.1 13 = σ.1 13 from by first | exact W13 | omega) (show σ.1 14 = σ.1 14 from by first | exact W14 | omega) (show σ.1 15 = σ.1 15 from by first | exact W15 | omega) G2 G3 G4 G5 G6 G8 G10 G11 G13 G14 G15 G16 G27 G28 G29 G30 G31 G32 G33 G34 G35 G36 G37 (show (σ.1 47) ≤ (σ.1 47) from by (first | omega | (simp only [st_s] <;> omega) | assumption | omega | fail)) (show (σ.1 47) ≤ (σ.1 7) from by (first | omega | (simp only [st_s] <;> omega) | assumption | omega | fail)) (show c_Uk (σ.1 47) In0 (s_v (s_v σ 48 x2) 49 x5) from by (first | exact c_Uk_e p9 (fun i hi => by simp only [List.mem_cons, List.mem_nil_iff, or_false] at hi; have q9 := hi; rcases q9 with rfl | rfl | rfl | rfl <;> rfl) (fun i hi => rfl) | exact (show c_Uk _ In0 σ from p9) | exact c_Uk_w i27_3 (by omega) | exact q18_1 | fail)) (show (σ.1 45) ≤ σ.2.1 14 (σ.1 47) + 1 from by (first | exact p7 | omega | (rw [g14_τ20] at *; omega) | (have w := q18_2; rw [← g14_τ20, G14] at w; exact w) | fail)) (show (σ.1 46) ≤ (σ.1 47) from by (first | omega | (simp only [st_s] <;> omega) | assumption | omega | fail)) (show (x2) = -1 ∨ g_pe σ (x2) from by (first | exact q1_4 | exact i27_6 | (rw [w48_τ20]; exact i27_6) | fail)) (show (x2) < (σ.1 5) from by (first | omega | (simp only [st_s] <;> omega) | assumption | omega | fail)) (show ∀ n : Int, 0 ≤ n → n < (σ.1 3) → j_sp σ n → (∀ m : Int, n < m → m < (σ.1 3) → ¬ j_sp σ m) → σ.2.1 4 n < 0 → σ.2.1 8 (-1 - σ.2.1 4 n) = 0 → (x2) = -1 - σ.2.1 4 n from by (first | exact q1_3 | exact i27_8 | (rw [w48_τ20]; exact i27_8) | fail)) (show (x5) < (σ.1 5) from by (first | omega | (simp only [st_s] <;> omega) | assumption | omega | fail)) (show g_wf σ (x5) from by (first | exact q4_3 | exact i27_10 | (rw [w49_τ20]; exact i27_10) | fail)) (show (x5) = -1 ∨ g_we σ (x5) from by (first | exact q4_4 | exact i27_11 | (rw [w49_τ20]; exact i27_11) | fail))
