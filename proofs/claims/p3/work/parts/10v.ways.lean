-- pure: all rules behind a node
/-- places that are reached from those of a set -/
def g_re (len : Int) (row ky par : Int → Int) (Hs : Int → Int → Int → Prop) (E : Int → Prop) (b n q : Int) : Prop := ∃ p : Int, 0 ≤ p ∧ E p ∧ g_rc len row ky par Hs b p n q
/-- two different ways to the same place -/
def g_s2 (len : Int) (row ky par : Int → Int) (Hs : Int → Int → Int → Prop) (E : Int → Prop) (b n q : Int) : Prop := ∃ p p2 m : Int, ∃ π d d2 : Int → Int, (0 ≤ p ∧ E p) ∧ (0 ≤ p2 ∧ E p2) ∧ g_wk len row ky par Hs b p n q m π d ∧ g_wk len row ky par Hs b p2 n q m π d2 ∧ ∃ j : Int, 0 ≤ j ∧ j ≤ m ∧ d j ≠ d2 j
def g_se (len : Int) (row ky par : Int → Int) (Hs Ss : Int → Int → Int → Prop) (E V : Int → Prop) (b n q : Int) : Prop := (∃ p : Int, 0 ≤ p ∧ ((V p ∧ g_rc len row ky par Hs b p n q) ∨ (E p ∧ g_rs len row ky par Hs Ss b p n q))) ∨ g_s2 len row ky par Hs E b n q
/-- the rules at a node are added, where they are reached -/
def g_RA (len sp lim : Int) (row ky par nof so : Int → Int) (In : Int → Prop) (Hs Ss : Int → Int → Int → Prop) (E V : Int → Prop) (b : Int) (b4 b5 : Int → Int64) (mb : Int → Int) (n : Int) : Prop := ∀ r : Int, In r → r < lim → nof r = n → ∀ q : Int, 0 ≤ q → q < 64 → (g_re len row ky par Hs E b n q → g_H b4 (so r) sp q ∧ (Hs (so r) sp q → g_H b5 (so r) sp q) ∧ (sp < q → q ≤ 59 → ¬ g_H b5 (so r) sp q → g_mb mb (so r) sp q = r)) ∧ (g_se len row ky par Hs Ss E V b n q → g_H b5 (so r) sp q)
def g_set (len lim : Int) (row ky par bn : Int → Int) (Hs : Int → Int → Int → Prop) (E : Int → Prop) (b : Int) (en : Int → Prop) (c : Int) : Prop := en c ∨ lim ≤ bn c ∨ ∀ q : Int, ¬ g_re len row ky par Hs E b c q
/-- a level of the stack -/
def g_lv (nd len sp lim D l : Int) (row ky par bn xs N vs : Int → Int) (en : Int → Prop) (Hs Ss : Int → Int → Int → Prop) (E V : Int → Prop) (b : Int) (b6 b7 : Int → Int64) : Prop :=
  (b ≤ N l ∧ N l < nd ∧ en (N l)) ∧ (xs l < nd ∧ (0 < xs l → par (xs l) = N l)) ∧ (l < D → par (N (l + 1)) = N l) ∧
  (∀ q : Int, 0 ≤ q → q < 64 → (j_b (b6 l) q ↔ g_re len row ky par Hs E b (N l) q) ∧ (g_se len row ky par Hs Ss E V b (N l) q → j_b (b7 l) q) ∧ (j_b (b7 l) q → j_b (b6 l) q) ∧ (j_b (b6 l) q → sp + 1 + l ≤ q ∧ q ≤ len)) ∧
  (0 < l → ∃ q : Int, 0 ≤ q ∧ q < 64 ∧ j_b (b6 l) q) ∧
  ∀ c : Int, 1 ≤ c → c < nd → par c = N l → (¬ vs c = 0 ↔ xs l < c) ∧ (xs l < c → g_set len lim row ky par bn Hs E b en c)
/-- the way through the rules, so far -/
def g_df (nd len sp lim D t : Int) (row ky par bn nof so xs N vs : Int → Int) (In en : Int → Prop) (Hs Ss : Int → Int → Int → Prop) (E V : Int → Prop) (b : Int) (wi : Prop) (b4 b5 b6 b7 : Int → Int64) (mb : Int → Int) : Prop :=
  (-1 ≤ D ∧ N 0 = b ∧ en b) ∧ (∀ l : Int, 0 ≤ l → l ≤ D → g_lv nd len sp lim D l row ky par bn xs N vs en Hs Ss E V b b6 b7) ∧
  (∀ n : Int, en n → (b ≤ n ∧ n < nd) ∧ (n ≠ b → ¬ vs n = 0) ∧ ((n ≠ b ∨ wi) → g_RA len sp lim row ky par nof so In Hs Ss E V b b4 b5 mb n) ∧ ((∃ l : Int, 0 ≤ l ∧ l ≤ D ∧ N l = n) ∨ ∀ c : Int, 1 ≤ c → c < nd → par c = n → g_set len lim row ky par bn Hs E b en c)) ∧
  (∀ c : Int, 1 ≤ c → ¬ vs c = 0 → en (par c)) ∧ t + D ≤ 2 * ca vs nd
/-- what is added stays -/
theorem g_RA_m {len sp lim b n : Int} {row ky par nof so : Int → Int} {In : Int → Prop} {Hs Ss : Int → Int → Int → Prop} {E V : Int → Prop} {b4 b5 c4 c5 : Int → Int64} {mb mc : Int → Int} (h : g_RA len sp lim row ky par nof so In Hs Ss E V b b4 b5 mb n) (m4 : ∀ s q : Int, g_H b4 s sp q → g_H c4 s sp q) (m5 : ∀ s q : Int, g_H b5 s sp q → g_H c5 s sp q) (mm : ∀ s q : Int, sp < q → q ≤ 59 → g_H b4 s sp q → g_mb mc s sp q = g_mb mb s sp q) : g_RA len sp lim row ky par nof so In Hs Ss E V b c4 c5 mc n := fun r hr rl e q q0 q1 => by
  have w := h r hr rl e q q0 q1
  exact ⟨fun y => ⟨m4 _ _ (w.1 y).1, fun z => m5 _ _ ((w.1 y).2.1 z), fun a b z => (mm _ _ a b (w.1 y).1).trans ((w.1 y).2.2 a b (fun k => z (m5 _ _ k)))⟩, fun y => m5 _ _ (w.2 y)⟩
theorem g_df_m {nd len sp lim D t b : Int} {row ky par bn nof so xs N vs : Int → Int} {In en : Int → Prop} {Hs Ss : Int → Int → Int → Prop} {E V : Int → Prop} {wi : Prop} {b4 b5 b6 b7 c4 c5 : Int → Int64} {mb mc : Int → Int} (h : g_df nd len sp lim D t row ky par bn nof so xs N vs In en Hs Ss E V b wi b4 b5 b6 b7 mb) (m4 : ∀ s q : Int, g_H b4 s sp q → g_H c4 s sp q) (m5 : ∀ s q : Int, g_H b5 s sp q → g_H c5 s sp q) (mm : ∀ s q : Int, sp < q → q ≤ 59 → g_H b4 s sp q → g_mb mc s sp q = g_mb mb s sp q) : g_df nd len sp lim D t row ky par bn nof so xs N vs In en Hs Ss E V b wi c4 c5 b6 b7 mc := by
  obtain ⟨h1, h2, h3, h4⟩ := h
  exact ⟨h1, h2, fun n hn => by obtain ⟨w1, w2, w3, w4⟩ := h3 n hn; exact ⟨w1, w2, fun y => g_RA_m (w3 y) m4 m5 mm, w4⟩, h4⟩
/-- the nodes of the stack grow -/
theorem g_df_N {nd D : Int} {par N : Int → Int} (hp : ∀ c : Int, 1 ≤ c → c < nd → par c < c) (h : ∀ l : Int, 0 ≤ l → l ≤ D → (0 ≤ N l ∧ N l < nd) ∧ (l < D → par (N (l + 1)) = N l ∧ 1 ≤ N (l + 1))) : ∀ (d : Nat) (l : Int), 0 ≤ l → l + (d : Int) + 1 ≤ D → N l < N (l + (d : Int) + 1)
  | 0, l, l0, l1 => by
    rw [show l + ((0 : Nat) : Int) + 1 = l + 1 from by omega] at l1 ⊢
    have a := h l l0 (by omega)
    have c := h (l + 1) (by omega) (by omega)
    have e := a.2 (by omega)
    have := hp (N (l + 1)) e.2 c.1.2
    omega
  | d + 1, l, l0, l1 => by
    have w := g_df_N hp h d l l0 (by omega)
    rw [show l + ((d + 1 : Nat) : Int) + 1 = l + (d : Int) + 1 + 1 from by omega] at l1 ⊢
    have a := h (l + (d : Int) + 1) (by omega) (by omega)
    have c := h (l + (d : Int) + 1 + 1) (by omega) (by omega)
    have e := a.2 (by omega)
    have := hp _ e.2 c.1.2
    omega
theorem g_df_n {nd len sp lim D t b : Int} {row ky par bn nof so xs N vs : Int → Int} {In en : Int → Prop} {Hs Ss : Int → Int → Int → Prop} {E V : Int → Prop} {wi : Prop} {b4 b5 b6 b7 : Int → Int64} {mb : Int → Int} (h : g_df nd len sp lim D t row ky par bn nof so xs N vs In en Hs Ss E V b wi b4 b5 b6 b7 mb) (hp : ∀ c : Int, 1 ≤ c → c < nd → 0 ≤ par c ∧ par c < c) (b1 : 1 ≤ b) {l : Int} (l0 : 0 ≤ l) (l1 : l < D) : N l < N D := by
  obtain ⟨h1, h2, h3, h4, h5⟩ := h
  have w := g_df_N (nd := nd) (D := D) (N := N) (fun c a e => (hp c a e).2) (fun l l0 l1 => by
    have v := h2 l l0 l1
    exact ⟨⟨by have := v.1.1; omega, v.1.2.1⟩, fun y => ⟨v.2.2.1 y, by have := (h2 (l + 1) (by omega) (by omega)).1.1; omega⟩⟩) (D - l - 1).toNat l l0 (by omega)
  rw [show l + ((D - l - 1).toNat : Int) + 1 = D from by omega] at w
  exact w
/-- the way back -/
theorem g_df_p {nd len sp lim D t b : Int} {row ky par bn nof so xs N vs : Int → Int} {In en : Int → Prop} {Hs Ss : Int → Int → Int → Prop} {E V : Int → Prop} {wi : Prop} {b4 b5 b6 b7 : Int → Int64} {mb : Int → Int} (h : g_df nd len sp lim D t row ky par bn nof so xs N vs In en Hs Ss E V b wi b4 b5 b6 b7 mb) (D0 : 0 ≤ D) (z : xs D = 0) : g_df nd len sp lim (D - 1) (t + 1) row ky par bn nof so xs N vs In en Hs Ss E V b wi b4 b5 b6 b7 mb := by
  obtain ⟨h1, h2, h3, h4, h5⟩ := h
  have top := (h2 D D0 (Int.le_refl _)).2.2.2.2.2
  refine ⟨⟨by omega, h1.2⟩, fun l l0 l1 => ?_, fun n hn => ?_, h4, by omega⟩
  · obtain ⟨a1, a2, a3, a4⟩ := h2 l l0 (by omega)
    exact ⟨a1, a2, fun y => a3 (by omega), a4⟩
  · obtain ⟨w1, w2, w3, w4⟩ := h3 n hn
    refine ⟨w1, w2, w3, ?_⟩
    rcases w4 with ⟨l, l0, l1, l2⟩ | w4
    · by_cases y : l = D
      · rw [y] at l2
        exact Or.inr (fun c c0 c1 c2 => (top c c0 c1 (by rw [l2]; exact c2)).2 (by rw [z]; omega))
      · exact Or.inl ⟨l, l0, by omega, l2⟩
    · exact Or.inr w4
theorem g_set_m {len lim b c : Int} {row ky par bn : Int → Int} {Hs : Int → Int → Int → Prop} {E en en2 : Int → Prop} (h : g_set len lim row ky par bn Hs E b en c) (m : ∀ n, en n → en2 n) : g_set len lim row ky par bn Hs E b en2 c := by
  rcases h with h | h
  · exact Or.inl (m c h)
  · exact Or.inr h
/-- a child that is passed over -/
theorem g_df_s {nd len sp lim D t b c y : Int} {row ky par bn nof so xs N vs fc sb aC aS : Int → Int} {In en : Int → Prop} {Hs Ss : Int → Int → Int → Prop} {E V : Int → Prop} {wi : Prop} {b4 b5 b6 b7 : Int → Int64} {mb : Int → Int} (h : g_df nd len sp lim D t row ky par bn nof so xs N vs In en Hs Ss E V b wi b4 b5 b6 b7 mb) (tr : g_tr nd fc sb ky aC aS par) (b1 : 1 ≤ b) (D0 : 0 ≤ D) (hc : c = xs D) (c0 : 0 < c) (hy : y = sb c) (y0 : 0 ≤ y) (se : g_set len lim row ky par bn Hs E b en c) : g_df nd len sp lim D (t + 1) row ky par bn nof so (st xs D y) N (st vs c 1) In en Hs Ss E V b wi b4 b5 b6 b7 mb := by
  have hp : ∀ c : Int, 1 ≤ c → c < nd → 0 ≤ par c ∧ par c < c := fun c a e => ⟨(tr.1 c a e).1, (tr.1 c a e).2.1⟩
  have gn := fun l a e => g_df_n (l := l) h hp b1 a e
  obtain ⟨h1, h2, h3, h4, h5⟩ := h
  obtain ⟨t1, t2, t3, t4, t5, t6⟩ := h2 D D0 (Int.le_refl _)
  rw [← hc] at t2 t6
  have pc := t2.2 c0
  obtain ⟨p1, p2, p3, p4, p5⟩ := tr.1 c (by omega) t2.1
  rw [← hy] at p3 p4 p5
  have v0 : vs c = 0 := by
    by_cases z : vs c = 0
    · exact z
    · have := (t6 c (by omega) t2.1 pc).1.mp z; omega
  have vo : ∀ d : Int, d ≠ c → st vs c 1 d = vs d := fun d z => st_n _ _ z
  have vc : st vs c 1 c = 1 := st_s _ _ _
  refine ⟨h1, fun l l0 l1 => ?_, fun n hn => ?_, fun d d0 d1 => ?_, ?_⟩
  · by_cases z : l = D
    · rw [z]
      unfold g_lv
      rw [show st xs D y D = y from st_s _ _ _]
      refine ⟨t1, ⟨by omega, fun q => (p4 q).trans pc⟩, t3, t4, t5, fun d d0 d1 d2 => ?_⟩
      by_cases w : d = c
      · rw [w, vc]; exact ⟨⟨fun _ => p3, fun _ => by decide⟩, fun _ => se⟩
      · rw [vo d w]
        have x := t6 d d0 d1 d2
        refine ⟨x.1.trans ⟨fun q => by omega, fun q => ?_⟩, fun q => x.2 ?_⟩
        · rcases (by omega : d < c ∨ c < d) with k | k
          · exact absurd (d2.trans pc.symm) (p5 d q k d0)
          · exact k
        · rcases (by omega : d < c ∨ c < d) with k | k
          · exact absurd (d2.trans pc.symm) (p5 d q k d0)
          · exact k
    · obtain ⟨a1, a2, a3, a4, a5, a6⟩ := h2 l l0 l1
      have nl := gn l l0 (by omega)
      unfold g_lv
      rw [show st xs D y l = xs l from st_n _ _ z]
      refine ⟨a1, a2, a3, a4, a5, fun d d0 d1 d2 => ?_⟩
      rw [vo d (fun w => by rw [w, pc] at d2; omega)]
      exact a6 d d0 d1 d2
  · obtain ⟨w1, w2, w3, w4⟩ := h3 n hn
    refine ⟨w1, fun z => ?_, w3, w4⟩
    by_cases w : n = c
    · rw [w, vc]; decide
    · rw [vo n w]; exact w2 z
  · by_cases w : d = c
    · rw [w, pc]; exact t1.2.2
    · rw [vo d w] at d1; exact h4 d d0 d1
  · have := ca_t1 vs c nd 1 (by omega) t2.1 v0 (by decide)
    have e : ca (st vs c 1) nd = ca vs nd + 1 := this
    omega
/-- a child that is gone down to -/
theorem g_df_d {nd len sp lim D t b c y f : Int} {row ky par bn nof so xs N vs fc sb aC aS : Int → Int} {In en : Int → Prop} {Hs Ss : Int → Int → Int → Prop} {E V : Int → Prop} {wi : Prop} {b4 b5 b6 b7 c6 c7 : Int → Int64} {mb : Int → Int} (h : g_df nd len sp lim D t row ky par bn nof so xs N vs In en Hs Ss E V b wi b4 b5 b6 b7 mb) (tr : g_tr nd fc sb ky aC aS par) (b1 : 1 ≤ b) (D0 : 0 ≤ D) (hc : c = xs D) (c0 : 0 < c) (hy : y = sb c) (y0 : 0 ≤ y) (hf : f = fc c) (f0 : 0 ≤ f)
    (ra : g_RA len sp lim row ky par nof so In Hs Ss E V b b4 b5 mb c) (o6 : ∀ l : Int, l ≤ D → c6 l = b6 l ∧ c7 l = b7 l)
    (n6 : ∀ q : Int, 0 ≤ q → q < 64 → (j_b (c6 (D + 1)) q ↔ g_re len row ky par Hs E b c q) ∧ (g_se len row ky par Hs Ss E V b c q → j_b (c7 (D + 1)) q) ∧ (j_b (c7 (D + 1)) q → j_b (c6 (D + 1)) q) ∧ (j_b (c6 (D + 1)) q → sp + 1 + (D + 1) ≤ q ∧ q ≤ len)) (ne : ∃ q : Int, 0 ≤ q ∧ q < 64 ∧ j_b (c6 (D + 1)) q) :
    g_df nd len sp lim (D + 1) (t + 1) row ky par bn nof so (st (st xs D y) (D + 1) f) (st N (D + 1) c) (st vs c 1) In (fun n => en n ∨ n = c) Hs Ss E V b wi b4 b5 c6 c7 mb := by
  have hp : ∀ c : Int, 1 ≤ c → c < nd → 0 ≤ par c ∧ par c < c := fun c a e => ⟨(tr.1 c a e).1, (tr.1 c a e).2.1⟩
  have gn := fun l a e => g_df_n (l := l) h hp b1 a e
  obtain ⟨h1, h2, h3, h4, h5⟩ := h
  obtain ⟨t1, t2, t3, t4, t5, t6⟩ := h2 D D0 (Int.le_refl _)
  rw [← hc] at t2 t6
  have pc := t2.2 c0
  obtain ⟨p1, p2, p3, p4, p5⟩ := tr.1 c (by omega) t2.1
  rw [← hy] at p3 p4 p5
  obtain ⟨r1, r2, r3⟩ := tr.2.1 c (by omega) t2.1
  rw [← hf] at r1 r2 r3
  have v0 : vs c = 0 := by
    by_cases z : vs c = 0
    · exact z
    · have := (t6 c (by omega) t2.1 pc).1.mp z; omega
  have cb : c ≠ b := by omega
  have nec : ¬ en c := fun z => (h3 c z).2.1 cb v0
  have vo : ∀ d : Int, d ≠ c → st vs c 1 d = vs d := fun d z => st_n _ _ z
  have vc : st vs c 1 c = 1 := st_s _ _ _
  have No : ∀ l : Int, l ≤ D → st N (D + 1) c l = N l := fun l z => st_n _ _ (show l ≠ D + 1 from by omega)
  have Nn : st N (D + 1) c (D + 1) = c := st_s _ _ _
  have xo : ∀ l : Int, l < D → st (st xs D y) (D + 1) f l = xs l := fun l z => by
    show st (st xs D y) (D + 1) f l = xs l
    rw [st_n _ _ (show l ≠ D + 1 from by omega), st_n _ _ (show l ≠ D from by omega)]
  have xD : st (st xs D y) (D + 1) f D = y := by
    show st (st xs D y) (D + 1) f D = y
    rw [st_n _ _ (show D ≠ D + 1 from by omega), st_s]
  have xn : st (st xs D y) (D + 1) f (D + 1) = f := st_s _ _ _
  have mo : ∀ n, en n → (fun n => en n ∨ n = c) n := fun n z => Or.inl z
  refine ⟨⟨by omega, by rw [No 0 D0]; exact h1.2.1, Or.inl h1.2.2⟩, fun l l0 l1 => ?_, fun n hn => ?_, fun d d0 d1 => ?_, ?_⟩
  · rcases (by omega : l < D ∨ l = D ∨ l = D + 1) with z | z | z
    · obtain ⟨a1, a2, a3, a4, a5, a6⟩ := h2 l l0 (by omega)
      have nl := gn l l0 z
      unfold g_lv
      rw [xo l z, No l (by omega), (o6 l (by omega)).1, (o6 l (by omega)).2]
      refine ⟨⟨a1.1, a1.2.1, Or.inl a1.2.2⟩, a2, fun _ => by rw [No (l + 1) (by omega)]; exact a3 z, a4, a5, fun d d0 d1 d2 => ?_⟩
      rw [vo d (fun w => by rw [w, pc] at d2; omega)]
      have x := a6 d d0 d1 d2
      exact ⟨x.1, fun q => g_set_m (x.2 q) mo⟩
    · rw [z]
      unfold g_lv
      rw [xD, No D (Int.le_refl _), (o6 D (Int.le_refl _)).1, (o6 D (Int.le_refl _)).2]
      refine ⟨⟨t1.1, t1.2.1, Or.inl t1.2.2⟩, ⟨by omega, fun q => (p4 q).trans pc⟩, fun _ => by rw [Nn]; exact pc, t4, t5, fun d d0 d1 d2 => ?_⟩
      by_cases w : d = c
      · rw [w, vc]; exact ⟨⟨fun _ => p3, fun _ => by decide⟩, fun _ => Or.inl (Or.inr rfl)⟩
      · rw [vo d w]
        have x := t6 d d0 d1 d2
        refine ⟨x.1.trans ⟨fun q => by omega, fun q => ?_⟩, fun q => g_set_m (x.2 ?_) mo⟩
        · rcases (by omega : d < c ∨ c < d) with k | k
          · exact absurd (d2.trans pc.symm) (p5 d q k d0)
          · exact k
        · rcases (by omega : d < c ∨ c < d) with k | k
          · exact absurd (d2.trans pc.symm) (p5 d q k d0)
          · exact k
    · rw [z]
      unfold g_lv
      rw [xn, Nn]
      refine ⟨⟨by have := t1.1; omega, t2.1, Or.inr rfl⟩, ⟨r1, r2⟩, fun q => by omega, n6, fun _ => ne, fun d d0 d1 d2 => ?_⟩
      have dc : d ≠ c := fun w => by rw [w, pc] at d2; omega
      rw [vo d dc]
      refine ⟨⟨fun q => ?_, fun q => absurd d2 (r3 d q d1 d0)⟩, fun q => absurd d2 (r3 d q d1 d0)⟩
      have := h4 d d0 q
      rw [d2] at this; exact absurd this nec
  · rcases hn with hn | hn
    · obtain ⟨w1, w2, w3, w4⟩ := h3 n hn
      have n_c : n ≠ c := fun w => by rw [w] at hn; exact nec hn
      refine ⟨w1, fun z => by rw [vo n n_c]; exact w2 z, w3, ?_⟩
      rcases w4 with ⟨l, l0, l1, l2⟩ | w4
      · exact Or.inl ⟨l, l0, by omega, by rw [No l l1]; exact l2⟩
      · exact Or.inr (fun d d0 d1 d2 => g_set_m (w4 d d0 d1 d2) mo)
    · rw [hn]
      exact ⟨⟨by have := t1.1; omega, t2.1⟩, fun _ => by rw [vc]; decide, fun _ => ra, Or.inl ⟨D + 1, by omega, Int.le_refl _, Nn⟩⟩
  · by_cases w : d = c
    · rw [w, pc]; exact Or.inl t1.2.2
    · rw [vo d w] at d1; exact Or.inl (h4 d d0 d1)
  · have := ca_t1 vs c nd 1 (by omega) t2.1 v0 (by decide)
    have e : ca (st vs c 1) nd = ca vs nd + 1 := this
    omega
/-- at the end all rules behind the node are added -/
theorem g_df_e {nd len sp lim D t b : Int} {row ky par bn nof so xs N vs : Int → Int} {In en : Int → Prop} {Hs Ss : Int → Int → Int → Prop} {E V : Int → Prop} {wi : Prop} {b4 b5 b6 b7 : Int → Int64} {mb : Int → Int} (h : g_df nd len sp lim D t row ky par bn nof so xs N vs In en Hs Ss E V b wi b4 b5 b6 b7 mb) (z : D < 0) (r m : Int) (π : Int → Int) (hr : In r) (rl : r < lim) (m0 : 0 ≤ m) (p0 : π 0 = b) (pm : π m = nof r) (hs : ∀ j : Int, 0 ≤ j → j < m → 1 ≤ π (j + 1) ∧ π (j + 1) < nd ∧ par (π (j + 1)) = π j ∧ bn (π (j + 1)) ≤ r) (w : nof r ≠ b ∨ wi) :
    ∀ d : Int → Int, ∀ p q : Int, 0 ≤ p → E p → 0 ≤ q → q < 64 → d 0 = p → d m = q → (∀ j : Int, 0 ≤ j → j < m → g_mk len row Hs (ky (π (j + 1))) (d j) (d (j + 1))) → (g_H b4 (so r) sp q ∧ (Hs (so r) sp q → g_H b5 (so r) sp q) ∧ (sp < q → q ≤ 59 → ¬ g_H b5 (so r) sp q → g_mb mb (so r) sp q = r)) ∧ ((V p ∨ ∃ j : Int, 0 ≤ j ∧ j < m ∧ ky (π (j + 1)) < 0 ∧ Ss (-1 - ky (π (j + 1))) (d j) (d (j + 1))) → g_H b5 (so r) sp q) ∧ ∀ (d2 : Int → Int) (p2 : Int), 0 ≤ p2 → E p2 → d2 0 = p2 → d2 m = q → (∀ j : Int, 0 ≤ j → j < m → g_mk len row Hs (ky (π (j + 1))) (d2 j) (d2 (j + 1))) → (∃ j : Int, 0 ≤ j ∧ j ≤ m ∧ d j ≠ d2 j) → g_H b5 (so r) sp q := by
  intro d p q p1 pe q0 q1 d0 dm mk
  obtain ⟨h1, h2, h3, h4, h5⟩ := h
  have wk : ∀ (dd : Int → Int) (pp : Int), dd 0 = pp → (∀ j : Int, 0 ≤ j → j < m → g_mk len row Hs (ky (π (j + 1))) (dd j) (dd (j + 1))) → ∀ k : Nat, (k : Int) ≤ m → g_wk len row ky par Hs b pp (π (k : Int)) (dd (k : Int)) (k : Int) π dd := fun dd pp e0 mm k hk => ⟨by omega, p0, rfl, e0, rfl, fun j j0 j1 => by
    have x := hs j j0 (by omega)
    exact ⟨x.1, x.2.2.1, mm j j0 (by omega)⟩⟩
  have all : ∀ k : Nat, (k : Int) ≤ m → en (π (k : Int)) := fun k => by
    induction k with
    | zero => intro _; rw [show ((0 : Nat) : Int) = 0 from rfl, p0]; exact h1.2.2
    | succ k ih =>
      intro hk
      have e := ih (by omega)
      obtain ⟨w1, w2, w3, w4⟩ := h3 _ e
      rcases w4 with ⟨l, l0, l1, _⟩ | w4
      · omega
      · have x := hs (k : Int) (by omega) (by omega)
        rw [show ((k + 1 : Nat) : Int) = (k : Int) + 1 from by omega]
        rcases w4 _ x.1 x.2.1 x.2.2.1 with v | v | v
        · exact v
        · omega
        · have y := wk d p d0 mk (k + 1) hk
          rw [show ((k + 1 : Nat) : Int) = (k : Int) + 1 from by omega] at y
          exact absurd ⟨p, p1, pe, _, _, _, y⟩ (v (d ((k : Int) + 1)))
  have em := all m.toNat (by omega)
  rw [show (m.toNat : Int) = m from by omega, pm] at em
  have ym := wk d p d0 mk m.toNat (by omega)
  rw [show (m.toNat : Int) = m from by omega, pm, dm] at ym
  have ra := (h3 _ em).2.2.1 w r hr rl rfl q q0 q1
  refine ⟨ra.1 ⟨p, p1, pe, _, _, _, ym⟩, fun y => ra.2 (Or.inl ⟨p, p1, ?_⟩), fun d2 p2 p20 pe2 d20 d2m mk2 df => ?_⟩
  · rcases y with y | y
    · exact Or.inl ⟨y, _, _, _, ym⟩
    · exact Or.inr ⟨pe, _, _, _, ym, y⟩
  · have y2 := wk d2 p2 d20 mk2 m.toNat (by omega)
    rw [show (m.toNat : Int) = m from by omega, pm, d2m] at y2
    exact ra.2 (Or.inr ⟨p, p2, m, π, d, d2, ⟨p1, pe⟩, ⟨p20, pe2⟩, ym, y2, df⟩)
