-- pure: what the chart tells of a place when it is done
theorem g_mk_w {len ke q q2 : Int} {row : Int → Int} {Hs Ht : Int → Int → Int → Prop} (h : g_mk len row Hs ke q q2) (m : ke < 0 → q < len → q < q2 → q2 ≤ len → Hs (-1 - ke) q q2 → Ht (-1 - ke) q q2) : g_mk len row Ht ke q q2 := by
  obtain ⟨h1, h2 | ⟨a, b, c, d⟩⟩ := h
  · exact ⟨h1, Or.inl h2⟩
  · exact ⟨h1, Or.inr ⟨a, b, c, m a h1 b c d⟩⟩
theorem g_wk_w {len b p n q m : Int} {row ky par π d : Int → Int} {Hs Ht : Int → Int → Int → Prop} (h : g_wk len row ky par Hs b p n q m π d) (b0 : 0 ≤ b) (mo : ∀ c i e : Int, 1 ≤ c → 0 ≤ par c → ky c < 0 → p ≤ i → i < len → i < e → e ≤ len → Hs (-1 - ky c) i e → Ht (-1 - ky c) i e) : g_wk len row ky par Ht b p n q m π d := by
  have g := fun j a c => g_wk_g (j := j) h a c
  obtain ⟨h0, h1, h2, h3, h4, h5⟩ := h
  exact ⟨h0, h1, h2, h3, h4, fun j j0 j1 => by
    obtain ⟨a, b, c⟩ := h5 j j0 j1
    have gj := g j j0 (by omega)
    have pj : 0 ≤ π j := by
      by_cases z : j = 0
      · rw [z, h1]; exact b0
      · have w := (h5 (j - 1) (by omega) (by omega)).1
        rw [show j - 1 + 1 = j from by omega] at w
        omega
    exact ⟨a, b, g_mk_w c (fun x y z w v => mo _ _ _ a (by omega) x (by omega) y z w v)⟩⟩
theorem g_rc_w {len p n q : Int} {row ky par : Int → Int} {Hs Ht : Int → Int → Int → Prop} (h : g_rc len row ky par Hs 0 p n q) (mo : ∀ c i e : Int, 1 ≤ c → 0 ≤ par c → ky c < 0 → p ≤ i → i < len → i < e → e ≤ len → Hs (-1 - ky c) i e → Ht (-1 - ky c) i e) : g_rc len row ky par Ht 0 p n q := by
  obtain ⟨m, π, d, w⟩ := h
  exact ⟨m, π, d, g_wk_w w (Int.le_refl _) mo⟩
/-- a way from the root, its first step told apart -/
def g_kx (len : Int) (row ky par lf : Int → Int) (Hs : Int → Int → Int → Prop) (sp n q : Int) : Prop := ∃ m : Int, ∃ π d : Int → Int, g_wk len row ky par Hs 0 sp n q m π d ∧ 1 ≤ m ∧ (0 ≤ ky (π 1) → lf sp = -1)
theorem g_kx_w {len sp n q : Int} {row ky par lf : Int → Int} {Hs Ht : Int → Int → Int → Prop} (h : g_kx len row ky par lf Hs sp n q) (mo : ∀ c i e : Int, 1 ≤ c → 0 ≤ par c → ky c < 0 → sp ≤ i → i < len → i < e → e ≤ len → Hs (-1 - ky c) i e → Ht (-1 - ky c) i e) : g_kx len row ky par lf Ht sp n q := by
  obtain ⟨m, π, d, w, a, b⟩ := h
  exact ⟨m, π, d, g_wk_w w (Int.le_refl _) mo, a, b⟩
theorem g_kx_1 {len sp c q : Int} {row ky par lf : Int → Int} {Hs : Int → Int → Int → Prop} (c1 : 1 ≤ c) (pc : par c = 0) (k : g_mk len row Hs (ky c) sp q) (l : 0 ≤ ky c → lf sp = -1) : g_kx len row ky par lf Hs sp c q := by
  have w : g_wk len row ky par Hs 0 sp 0 sp 0 (fun _ => 0) (fun _ => sp) := ⟨by omega, rfl, rfl, rfl, rfl, fun j a b => by omega⟩
  refine ⟨0 + 1, _, _, g_wk_s w c1 pc k, by omega, fun z => l ?_⟩
  rw [show (0 : Int) + 1 = 1 from rfl, st_s] at z
  exact z
theorem g_kx_s {len sp n c q q2 : Int} {row ky par lf : Int → Int} {Hs : Int → Int → Int → Prop} (h : g_kx len row ky par lf Hs sp n q) (c1 : 1 ≤ c) (pc : par c = n) (k : g_mk len row Hs (ky c) q q2) : g_kx len row ky par lf Hs sp c q2 := by
  obtain ⟨m, π, d, w, a, b⟩ := h
  refine ⟨m + 1, _, _, g_wk_s w c1 pc k, by omega, fun z => b ?_⟩
  rw [st_n _ _ (show (1 : Int) ≠ m + 1 from by omega)] at z
  exact z
def g_rn (len u : Int) (row ky par lf : Int → Int) (Hs : Int → Int → Int → Prop) (sp n q : Int) : Prop := g_kx len row ky par lf Hs sp n q ∧ (q < u ∨ par n ≠ 0 ∨ 0 ≤ ky n)
theorem g_cs_m {sp len rs lim : Int} {b4 b5 : Int → Int64} {mb lf so nof : Int → Int} {In : Int → Prop} {rc rd : Int → Int → Prop} (h : g_cs sp len rs lim b4 b5 mb lf so nof In rc) (m : ∀ n e : Int, rc n e → rd n e) : g_cs sp len rs lim b4 b5 mb lf so nof In rd := fun s e a b c d => by
  obtain ⟨h1, h2⟩ := h s e a b c d
  refine ⟨h1, fun q => ?_⟩
  obtain ⟨x, y⟩ := h2 q
  exact ⟨x, y.elim Or.inl (fun ⟨a1, a2, a3, a4⟩ => Or.inr ⟨a1, a2, a3, m _ _ a4⟩)⟩
theorem g_d_g {len p m : Int} {row ky π d : Int → Int} {Hs : Int → Int → Int → Prop} (mk : ∀ j : Int, 0 ≤ j → j < m → g_mk len row Hs (ky (π (j + 1))) (d j) (d (j + 1))) (d0 : d 0 = p) : ∀ k : Nat, (k : Int) ≤ m → p + (k : Int) ≤ d (k : Int)
  | 0, _ => by
    have : d ((0 : Nat) : Int) = p := d0
    omega
  | k + 1, h => by
    have a := g_d_g mk d0 k (by omega)
    have b := (g_mk_b (mk (k : Int) (by omega) (by omega))).1
    rw [show ((k + 1 : Nat) : Int) = (k : Int) + 1 from by omega]
    omega
theorem g_d_i {len p m j : Int} {row ky π d : Int → Int} {Hs : Int → Int → Int → Prop} (mk : ∀ j : Int, 0 ≤ j → j < m → g_mk len row Hs (ky (π (j + 1))) (d j) (d (j + 1))) (d0 : d 0 = p) (j0 : 0 ≤ j) (j1 : j ≤ m) : p + j ≤ d j := by
  have w := g_d_g mk d0 j.toNat (by omega)
  rw [show (j.toNat : Int) = j from by omega] at w
  exact w
/-- all ways from node b on, from p on, are told -/
def g_wq (nd len sp lim p : Int) (row ky par bn nof so : Int → Int) (In : Int → Prop) (y : Prop) (b : Int) (wi : Prop) (c4 c5 : Int → Int64) (mc : Int → Int) : Prop := ∀ (r m : Int) (π : Int → Int), In r → r < lim → 0 ≤ m → π 0 = b → π m = nof r → (∀ j : Int, 0 ≤ j → j < m → 1 ≤ π (j + 1) ∧ π (j + 1) < nd ∧ par (π (j + 1)) = π j ∧ bn (π (j + 1)) ≤ r) → bn b ≤ r → (nof r ≠ b ∨ wi) → ∀ (d : Int → Int) (q : Int), 0 ≤ q → q < 64 → d 0 = p → d m = q → (∀ j : Int, 0 ≤ j → j < m → g_mk len row (g_H c4) (ky (π (j + 1))) (d j) (d (j + 1))) → (g_H c4 (so r) sp q ∧ (sp < q → q ≤ 59 → ¬ g_H c5 (so r) sp q → g_mb mc (so r) sp q = r)) ∧ ((y ∨ ∃ j : Int, 0 ≤ j ∧ j < m ∧ ky (π (j + 1)) < 0 ∧ g_H c5 (-1 - ky (π (j + 1))) (d j) (d (j + 1))) → g_H c5 (so r) sp q) ∧ ∀ d2 : Int → Int, d2 0 = p → d2 m = q → (∀ j : Int, 0 ≤ j → j < m → g_mk len row (g_H c4) (ky (π (j + 1))) (d2 j) (d2 (j + 1))) → (∃ j : Int, 0 ≤ j ∧ j ≤ m ∧ d j ≠ d2 j) → g_H c5 (so r) sp q
theorem g_wq_w {nd len sp lim p b : Int} {row ky par bn nof so mc : Int → Int} {In : Int → Prop} {x y : Int64} {wi Y : Prop} {b4 b5 c4 c5 : Int → Int64} (h : g_wc nd len sp lim row ky par bn nof so In (g_H b4) (g_H b5) x y b wi c4 c5 mc) (fr : ∀ s i e : Int, 0 ≤ i → i < 60 → i ≠ sp → (g_H c4 s i e ↔ g_H b4 s i e) ∧ (g_H c5 s i e ↔ g_H b5 s i e)) (px : j_b x p) (s0 : 0 ≤ sp) (p0 : sp < p) (p1 : p < 64) (l59 : len ≤ 59) (yy : Y → j_b y p) : g_wq nd len sp lim p row ky par bn nof so In Y b wi c4 c5 mc := fun r m π hr rl m0 e0 em hs bb w d q q0 q1 d0 dm mk => by
  have g := fun j a c => g_d_i (j := j) mk d0 a c
  have cv : ∀ d : Int → Int, d 0 = p → (∀ j : Int, 0 ≤ j → j < m → g_mk len row (g_H c4) (ky (π (j + 1))) (d j) (d (j + 1))) → ∀ j : Int, 0 ≤ j → j < m → g_mk len row (g_H b4) (ky (π (j + 1))) (d j) (d (j + 1)) := fun d d0 mk j j0 j1 => by
    have gg := g_d_i mk d0 j0 (by omega)
    exact g_mk_w (mk j j0 j1) (fun a b c e k => (fr _ _ _ (by omega) (by omega) (by omega)).1.mp k)
  have v := h r m π hr rl m0 e0 em hs bb w d p q (by omega) p1 px q0 q1 d0 dm (cv d d0 mk)
  refine ⟨⟨v.1.1, v.1.2.2⟩, fun k => v.2.1 (k.elim (fun k => Or.inl (yy k)) (fun ⟨j, j0, j1, j2, j3⟩ => Or.inr ⟨j, j0, j1, j2, ?_⟩)), fun d2 a b c e => v.2.2 d2 p (by omega) p1 px a b (cv d2 a c) e⟩
  have gj := g j j0 (by omega)
  have mj := mk j j0 j1
  exact (fr _ _ _ (by omega) (by have := mj.1; omega) (by omega)).2.mp j3
theorem g_wq_m {nd len sp lim p b : Int} {row ky par bn nof so mc md : Int → Int} {In : Int → Prop} {wi Y Y2 : Prop} {c4 c5 d4 d5 : Int → Int64} (h : g_wq nd len sp lim p row ky par bn nof so In Y b wi c4 c5 mc) (fr : ∀ s i e : Int, 0 ≤ i → i < 60 → 0 ≤ e → e < 64 → i ≠ sp → (g_H d4 s i e ↔ g_H c4 s i e) ∧ (g_H d5 s i e ↔ g_H c5 s i e)) (up : ∀ r e : Int, In r → 0 ≤ e → e < 64 → (g_H c4 (so r) sp e → g_H d4 (so r) sp e) ∧ (g_H c5 (so r) sp e → g_H d5 (so r) sp e)) (mm : ∀ r e : Int, In r → sp < e → e ≤ 59 → g_H c4 (so r) sp e → g_mb md (so r) sp e = g_mb mc (so r) sp e) (s0 : 0 ≤ sp) (p0 : sp < p) (l59 : len ≤ 59) (yy : Y2 → Y) : g_wq nd len sp lim p row ky par bn nof so In Y2 b wi d4 d5 md := fun r m π hr rl m0 e0 em hs bb w d q q0 q1 d0 dm mk => by
  have g := fun j a c => g_d_i (j := j) mk d0 a c
  have cv : ∀ d : Int → Int, d 0 = p → (∀ j : Int, 0 ≤ j → j < m → g_mk len row (g_H d4) (ky (π (j + 1))) (d j) (d (j + 1))) → ∀ j : Int, 0 ≤ j → j < m → g_mk len row (g_H c4) (ky (π (j + 1))) (d j) (d (j + 1)) := fun d d0 mk j j0 j1 => by
    have gg := g_d_i mk d0 j0 (by omega)
    exact g_mk_w (mk j j0 j1) (fun a b c e k => (fr _ _ _ (by omega) (by omega) (by omega) (by omega) (by omega)).1.mp k)
  have v := h r m π hr rl m0 e0 em hs bb w d q q0 q1 d0 dm (cv d d0 mk)
  have u := up r q hr q0 q1
  refine ⟨⟨u.1 v.1.1, fun a b z => (mm r q hr a b v.1.1).trans (v.1.2 a b (fun k => z (u.2 k)))⟩, fun k => u.2 (v.2.1 (k.elim (fun k => Or.inl (yy k)) (fun ⟨j, j0, j1, j2, j3⟩ => Or.inr ⟨j, j0, j1, j2, ?_⟩))), fun d2 a b c e => u.2 (v.2.2 d2 a b (cv d2 a c) e)⟩
  have gj := g j j0 (by omega)
  have mj := mk j j0 j1
  have mb := g_mk_b mj
  exact (fr _ _ _ (by omega) (by have := mj.1; omega) (by omega) (by omega) (by omega)).2.mp j3
/-- two ways of a rule whose first parts, of the same sort, end at different places -/
def g_x1 (nd len lim sp p p2 b : Int) (row ky par bn nof so : Int → Int) (In : Int → Prop) (c4 c5 : Int → Int64) : Prop := ∀ (r m : Int) (π : Int → Int), In r → r < lim → 0 ≤ m → π 0 = b → π m = nof r → (∀ j : Int, 0 ≤ j → j < m → 1 ≤ π (j + 1) ∧ π (j + 1) < nd ∧ par (π (j + 1)) = π j ∧ bn (π (j + 1)) ≤ r) → bn b ≤ r → nof r ≠ b → ∀ (d d2 : Int → Int) (q : Int), 0 ≤ q → q < 64 → d 0 = p → d2 0 = p2 → d m = q → d2 m = q → (∀ j : Int, 0 ≤ j → j < m → g_mk len row (g_H c4) (ky (π (j + 1))) (d j) (d (j + 1))) → (∀ j : Int, 0 ≤ j → j < m → g_mk len row (g_H c4) (ky (π (j + 1))) (d2 j) (d2 (j + 1))) → g_H c5 (so r) sp q
def g_xp (nd len rs lim sp : Int) (tl : Int → Int → Prop) (row ky par bn nof so aS : Int → Int) (In : Int → Prop) (c4 c5 : Int → Int64) : Prop := ∀ p p2 s : Int, sp < p → p < p2 → tl p2 s → 0 ≤ s → s < rs → g_H c4 s sp p → g_H c4 s sp p2 → 0 < aS s → g_x1 nd len lim sp p p2 (aS s) row ky par bn nof so In c4 c5
theorem g_xp_m {nd len rs lim sp : Int} {tl : Int → Int → Prop} {row ky par bn nof so aS : Int → Int} {In : Int → Prop} {c4 c5 d4 d5 : Int → Int64} (h : g_xp nd len rs lim sp tl row ky par bn nof so aS In c4 c5) (fr : ∀ s i e : Int, 0 ≤ i → i < 60 → 0 ≤ e → e < 64 → i ≠ sp → (g_H d4 s i e ↔ g_H c4 s i e)) (up : ∀ r e : Int, In r → 0 ≤ e → e < 64 → g_H c5 (so r) sp e → g_H d5 (so r) sp e) (dn : ∀ s p p2 : Int, 0 ≤ s → s < rs → sp < p → p ≤ p2 → p2 < 64 → tl p2 s → g_H d4 s sp p → g_H c4 s sp p) (s0 : 0 ≤ sp) (l59 : len ≤ 59) : g_xp nd len rs lim sp tl row ky par bn nof so aS In d4 d5 := fun p p2 s a b c e f hp hp2 g r m π hr rl m0 e0 em hs bb w d d2 q q0 q1 d0 d20 dm d2m mk mk2 => by
  have cv : ∀ (d : Int → Int) (p : Int), sp < p → d 0 = p → (∀ j : Int, 0 ≤ j → j < m → g_mk len row (g_H d4) (ky (π (j + 1))) (d j) (d (j + 1))) → ∀ j : Int, 0 ≤ j → j < m → g_mk len row (g_H c4) (ky (π (j + 1))) (d j) (d (j + 1)) := fun d p pp d0 mk j j0 j1 => by
    have gg := g_d_i mk d0 j0 (by omega)
    exact g_mk_w (mk j j0 j1) (fun a b c e k => (fr _ _ _ (by omega) (by omega) (by omega) (by omega) (by omega)).mp k)
  have g2 := g_d_i mk2 d20 m0 (Int.le_refl _)
  exact up r q hr q0 q1 (h p p2 s a b c e f (dn s p p2 e f a (by omega) (by omega) c hp) (dn s p2 p2 e f (by omega) (Int.le_refl _) (by omega) c hp2) g r m π hr rl m0 e0 em hs bb w d d2 q q0 q1 d0 d20 dm d2m (cv d p a d0 mk) (cv d2 p2 (by omega) d20 mk2))
/-- a place as far as it is done: units for ends before u, walks for ends before w, and at w for sorts before k -/
def g_pl (nd len rs lim sp u w k un : Int) (cw lq : Prop) (row ky par bn nof so aC aS lf uR uF : Int → Int) (In : Int → Prop) (b4 b5 c4 c5 : Int → Int64) (mb mc : Int → Int) : Prop :=
  (∀ s i e : Int, 0 ≤ i → i < 60 → 0 ≤ e → e < 64 → i ≠ sp → (g_H c4 s i e ↔ g_H b4 s i e) ∧ (g_H c5 s i e ↔ g_H b5 s i e)) ∧
  (∀ s i e : Int, 0 ≤ i → i < e → e ≤ 59 → i ≠ sp → g_mb mc s i e = g_mb mb s i e) ∧
  g_cs sp len rs lim c4 c5 mc lf so nof In (g_rn len u row ky par lf (g_H c4) sp) ∧
  (cw → lf sp = -1 → 0 < aC (row sp) → g_wq nd len sp lim (sp + 1) row ky par bn nof so In False (aC (row sp)) True c4 c5 mc) ∧
  (∀ p s : Int, sp < p → (p < w ∨ (p = w ∧ s < k)) → 0 ≤ s → s < rs → g_H c4 s sp p → 0 < aS s → g_wq nd len sp lim p row ky par bn nof so In (g_H c5 s sp p) (aS s) False c4 c5 mc) ∧
  (∀ e : Int, 0 ≤ e → e < u → e < 64 → ∃ t : Int → Int, ∀ s : Int, 0 ≤ s → s < rs → g_H c4 s sp e → ¬ g_H c5 s sp e → ¬ (0 ≤ lf sp ∧ e = sp + 1 ∧ g_mb mc s sp e = lf sp ∧ s = so (lf sp)) → par (nof (g_mb mc s sp e)) = 0 → ky (nof (g_mb mc s sp e)) < 0 → ¬ g_H c5 (-1 - ky (nof (g_mb mc s sp e))) sp e ∧ 0 ≤ t (-1 - ky (nof (g_mb mc s sp e))) ∧ t (-1 - ky (nof (g_mb mc s sp e))) < t s) ∧
  (cw → lq → g_H c4 (so (lf sp)) sp (sp + 1) ∧ (¬ g_H c5 (so (lf sp)) sp (sp + 1) → g_mb mc (so (lf sp)) sp (sp + 1) = lf sp)) ∧
  (∀ e : Int, 0 ≤ e → e < u → e < 64 → ∀ v : Int, 0 ≤ v → v < un → uR v < lim → g_H c4 (uF v) sp e → g_H c4 (so (uR v)) sp e ∧ (g_H c5 (uF v) sp e → g_H c5 (so (uR v)) sp e) ∧ (sp < e → e ≤ 59 → ¬ g_H c5 (so (uR v)) sp e → g_mb mc (so (uR v)) sp e = uR v)) ∧
  g_xp nd len rs lim sp (fun p s => p < w ∨ (p = w ∧ s < k)) row ky par bn nof so aS In c4 c5
/-- a place that has been cleared -/
theorem g_pl0 {nd len rs lim sp un : Int} {lq : Prop} {row ky par bn nof so aC aS lf uR uF : Int → Int} {In : Int → Prop} {b4 b5 c4 c5 : Int → Int64} {mb : Int → Int} (fr : ∀ s i e : Int, 0 ≤ i → i < 60 → 0 ≤ e → e < 64 → i ≠ sp → (g_H c4 s i e ↔ g_H b4 s i e) ∧ (g_H c5 s i e ↔ g_H b5 s i e)) (em : ∀ s e : Int, 0 ≤ s → s < rs → ¬ g_H c4 s sp e ∧ ¬ g_H c5 s sp e) (uf : ∀ v : Int, 0 ≤ v → v < un → 0 ≤ uF v ∧ uF v < rs) : g_pl nd len rs lim sp (sp + 1) (sp + 1) 0 un False lq row ky par bn nof so aC aS lf uR uF In b4 b5 c4 c5 mb mb :=
  ⟨fr, fun _ _ _ _ _ _ _ => rfl, fun s e a b _ _ => ⟨fun h => absurd h (em s e a b).2, fun h => absurd h (em s e a b).1⟩, False.elim, fun p s a c d _ _ _ => by omega, fun e a b c => ⟨fun _ => 0, fun s x y z => absurd z (em s e x y).1⟩, False.elim, fun e _ _ _ v v0 v1 _ q => absurd q (em (uF v) e (uf v v0 v1).1 (uf v v0 v1).2).1, fun p p2 s a b c d => by have c2 : p2 < sp + 1 ∨ (p2 = sp + 1 ∧ s < 0) := c; omega⟩
theorem g_pl_c {nd len rs lim sp u w k un : Int} {cw lq : Prop} {row ky par bn nof so aC aS lf uR uF : Int → Int} {In : Int → Prop} {b4 b5 c4 c5 : Int → Int64} {mb mc : Int → Int} (h : g_pl nd len rs lim sp u w k un cw lq row ky par bn nof so aC aS lf uR uF In b4 b5 c4 c5 mb mc) (x : lf sp = -1 → 0 < aC (row sp) → g_wq nd len sp lim (sp + 1) row ky par bn nof so In False (aC (row sp)) True c4 c5 mc) (xl : lq → g_H c4 (so (lf sp)) sp (sp + 1) ∧ (¬ g_H c5 (so (lf sp)) sp (sp + 1) → g_mb mc (so (lf sp)) sp (sp + 1) = lf sp)) : g_pl nd len rs lim sp u w k un True lq row ky par bn nof so aC aS lf uR uF In b4 b5 c4 c5 mb mc :=
  ⟨h.1, h.2.1, h.2.2.1, fun _ => x, h.2.2.2.2.1, h.2.2.2.2.2.1, fun _ => xl, h.2.2.2.2.2.2.2⟩
theorem g_pl_k {nd len rs lim sp u w k un : Int} {cw lq : Prop} {row ky par bn nof so aC aS lf uR uF : Int → Int} {In : Int → Prop} {b4 b5 c4 c5 : Int → Int64} {mb mc : Int → Int} (h : g_pl nd len rs lim sp u w k un cw lq row ky par bn nof so aC aS lf uR uF In b4 b5 c4 c5 mb mc) (x : g_H c4 k sp w → 0 < aS k → g_wq nd len sp lim w row ky par bn nof so In (g_H c5 k sp w) (aS k) False c4 c5 mc) (x9 : ∀ p : Int, sp < p → p < w → g_H c4 k sp p → g_H c4 k sp w → 0 < aS k → g_x1 nd len lim sp p w (aS k) row ky par bn nof so In c4 c5) : g_pl nd len rs lim sp u w (k + 1) un cw lq row ky par bn nof so aC aS lf uR uF In b4 b5 c4 c5 mb mc := by
  obtain ⟨h1, h2, h3, h4, h5, h6, h7, h8, h9⟩ := h
  refine ⟨h1, h2, h3, h4, fun p s a c d e f g => ?_, h6, h7, h8, fun p p2 s a b c d e f g i => ?_⟩
  · by_cases z : p = w ∧ s = k
    · rw [z.1, z.2] at f ⊢; rw [z.2] at g; exact x f g
    · exact h5 p s a (by omega) d e f g
  · have c2 : p2 < w ∨ (p2 = w ∧ s < k + 1) := c
    by_cases z : p2 = w ∧ s = k
    · rw [z.2] at f g i ⊢; rw [z.1] at g ⊢; exact x9 p a (by omega) f g i
    · exact h9 p p2 s a b (show p2 < w ∨ (p2 = w ∧ s < k) from by omega) d e f g i
theorem g_pl_n {nd len rs lim sp u w k un : Int} {cw lq : Prop} {row ky par bn nof so aC aS lf uR uF : Int → Int} {In : Int → Prop} {b4 b5 c4 c5 : Int → Int64} {mb mc : Int → Int} (h : g_pl nd len rs lim sp u w k un cw lq row ky par bn nof so aC aS lf uR uF In b4 b5 c4 c5 mb mc) (x : rs ≤ k) : g_pl nd len rs lim sp u (w + 1) 0 un cw lq row ky par bn nof so aC aS lf uR uF In b4 b5 c4 c5 mb mc := by
  obtain ⟨h1, h2, h3, h4, h5, h6, h7, h8, h9⟩ := h
  exact ⟨h1, h2, h3, h4, fun p s a c d e f g => h5 p s a (by omega) d e f g, h6, h7, h8, fun p p2 s a b c d e f g i => h9 p p2 s a b (show p2 < w ∨ (p2 = w ∧ s < k) from by have c2 : p2 < w + 1 ∨ (p2 = w + 1 ∧ s < 0) := c; omega) d e f g i⟩
/-- a walk tells two such ways, the elder one of a place before -/
theorem g_xp_w {nd len rs lim sp u w k un b : Int} {cw lq wi : Prop} {row ky par bn nof so aC aS lf uR uF : Int → Int} {In : Int → Prop} {x y : Int64} {b4 b5 c4 c5 d4 d5 : Int → Int64} {mb mc md : Int → Int} (h : g_pl nd len rs lim sp u w k un cw lq row ky par bn nof so aC aS lf uR uF In b4 b5 c4 c5 mb mc) (wc : g_wc nd len sp lim row ky par bn nof so In (g_H c4) (g_H c5) x y b wi d4 d5 md) (hb : b = aS k) (fr : ∀ s i e : Int, 0 ≤ i → i < 60 → i ≠ sp → (g_H d4 s i e ↔ g_H c4 s i e) ∧ (g_H d5 s i e ↔ g_H c5 s i e)) (dn : ∀ p : Int, 0 ≤ p → p < w → g_H d4 k sp p → g_H c4 k sp p) (px : j_b x w) (s0 : 0 ≤ sp) (w64 : w < 64) (l59 : len ≤ 59) (k0 : 0 ≤ k) (k1 : k < rs) : ∀ p : Int, sp < p → p < w → g_H d4 k sp p → g_H d4 k sp w → 0 < aS k → g_x1 nd len lim sp p w (aS k) row ky par bn nof so In d4 d5 := fun p a c hp _ ak r m π hr rl m0 e0 em hs bb wn d d2 q q0 q1 d0 d20 dm d2m mk mk2 => by
  have cv : ∀ (d : Int → Int) (p : Int), sp < p → d 0 = p → (∀ j : Int, 0 ≤ j → j < m → g_mk len row (g_H d4) (ky (π (j + 1))) (d j) (d (j + 1))) → ∀ j : Int, 0 ≤ j → j < m → g_mk len row (g_H c4) (ky (π (j + 1))) (d j) (d (j + 1)) := fun d p pp d0 mk j j0 j1 => by
    have gg := g_d_i mk d0 j0 (by omega)
    exact g_mk_w (mk j j0 j1) (fun a b c e k => (fr _ _ _ (by omega) (by omega) (by omega)).1.mp k)
  have v := h.2.2.2.2.1 p k a (Or.inl c) k0 k1 (dn p (by omega) c hp) ak r m π hr rl m0 e0 em hs bb (Or.inl wn) d q q0 q1 d0 dm (cv d p a d0 mk)
  rw [← hb] at e0 bb wn
  have u := wc r m π hr rl m0 e0 em hs bb (Or.inl wn) d2 w q (by omega) w64 px q0 q1 d20 d2m (cv d2 w (by omega) d20 mk2)
  exact u.1.2.1 v.1.1
/-- what a walk may found new cells on -/
theorem g_rcs {len u sp b n6 : Int} {row ky par lf : Int → Int} {x : Int64} {c4 d4 : Int → Int64} (fr : ∀ s i e : Int, 0 ≤ i → i < 60 → i ≠ sp → (g_H d4 s i e ↔ g_H c4 s i e)) (s0 : 0 ≤ sp) (l59 : len ≤ 59) (b1 : 1 ≤ b) (pb : par b = 0) (base : ∀ e : Int, 0 ≤ e → e < 64 → j_b x e → g_mk len row (g_H d4) (ky b) sp e) (cst : 0 ≤ ky b → lf sp = -1) (n6c : ¬ n6 = 0 → 0 ≤ ky b) :
    ∃ rc : Int → Int → Prop, (∀ e : Int, 0 ≤ e → e < 64 → j_b x e → rc b e) ∧ (∀ n c q q2 : Int, 1 ≤ c → par c = n → sp < q → rc n q → g_mk len row (g_H c4) (ky c) q q2 → rc c q2) ∧ ∀ n e : Int, rc n e → (n ≠ b ∨ ¬ n6 = 0) → g_rn len u row ky par lf (g_H d4) sp n e := by
  refine ⟨fun n e => g_kx len row ky par lf (g_H d4) sp n e ∧ 1 ≤ n ∧ (n = b ∨ par n ≠ 0), fun e e0 e1 xe => ⟨g_kx_1 b1 pb (base e e0 e1 xe) cst, b1, Or.inl rfl⟩, fun n c q q2 c1 pc sq h mk => ?_, fun n e h z => ⟨h.1, ?_⟩⟩
  · exact ⟨g_kx_s h.1 c1 pc (g_mk_w mk (fun _ a _ _ k => (fr _ _ _ (by omega) (by omega) (by omega)).mpr k)), c1, Or.inr (by have := h.2.1; omega)⟩
  · rcases h.2.2 with q | q
    · rcases z with z | z
      · exact absurd q z
      · rw [q]; exact Or.inr (Or.inr (n6c z))
    · exact Or.inr (Or.inl q)
/-- a walk adds cells behind the ends that are done -/
theorem g_pl_t {nd len rs lim sp u w k un : Int} {cw lq : Prop} {Nw : Int → Prop} {rcs : (Int → Int → Prop) → Prop} {row ky par bn nof so aC aS lf uR uF : Int → Int} {In : Int → Prop} {b4 b5 c4 c5 d4 d5 : Int → Int64} {mb mc md : Int → Int} (h : g_pl nd len rs lim sp u w k un cw lq row ky par bn nof so aC aS lf uR uF In b4 b5 c4 c5 mb mc) (wr : g_wr sp len rs lim Nw rcs c4 c5 d4 d5 mc md lf so nof In) (nw : ∀ e : Int, e < u → ¬ Nw e) (rn : rcs (g_rn len u row ky par lf (g_H d4) sp)) (s0 : 0 ≤ sp) (sl : sp < len) (l59 : len ≤ 59) (wu : w < u ∨ k ≤ 0 ∧ w ≤ u) : g_pl nd len rs lim sp u w k un cw lq row ky par bn nof so aC aS lf uR uF In b4 b5 d4 d5 mb md := by
  obtain ⟨h1, h2, h3, h4, h5, h6, h7, h8, h9⟩ := h
  obtain ⟨w1, w2, w3, w4⟩ := wr
  have fr : ∀ s i e : Int, 0 ≤ i → i < 60 → 0 ≤ e → e < 64 → i ≠ sp → (g_H d4 s i e ↔ g_H c4 s i e) ∧ (g_H d5 s i e ↔ g_H c5 s i e) := fun s i e a b _ _ c => w1 s i e a b c
  have up : ∀ s e : Int, 0 ≤ e → e < 64 → (g_H c4 s sp e → g_H d4 s sp e) ∧ (g_H c5 s sp e → g_H d5 s sp e) := fun s e a b => ⟨(w2 s e a b).1, (w2 s e a b).2.1⟩
  have dn : ∀ s e : Int, 0 ≤ e → e < 64 → e < u → (g_H d4 s sp e → g_H c4 s sp e) ∧ (g_H d5 s sp e → g_H c5 s sp e) := fun s e a b c => ⟨fun q => ((w2 s e a b).2.2.1 q).elim id (fun z => absurd z (nw e c)), fun q => ((w2 s e a b).2.2.2 q).elim id (fun z => absurd z (nw e c))⟩
  have mm : ∀ r e : Int, In r → sp < e → e ≤ 59 → g_H c4 (so r) sp e → g_mb md (so r) sp e = g_mb mc (so r) sp e := fun r e _ a b c => w3 _ sp e s0 a b (Or.inr (Or.inr c))
  refine ⟨fun s i e a b c d f => ?_, fun s i e a b c f => (w3 s i e a b c (Or.inl f)).trans (h2 s i e a b c f), w4 _ rn (g_cs_m h3 (fun n e q => ⟨g_kx_w q.1 (fun s0' i e2 _ _ _ a b c d g => ?_), q.2⟩)), fun a b c => g_wq_m (h4 a b c) fr (fun r e _ => up (so r) e) mm s0 (by omega) l59 id, fun p s a c d e f g => ?_, fun e a b c => ?_, fun a b => ?_, fun e a b c v v0 v1 v2 q => ?_, g_xp_m h9 (fun s i e a b c d z => (fr s i e a b c d z).1) (fun r e _ a b => (up _ e a b).2) (fun s p p2 s1 s2 a b c d q => ?_) s0 l59⟩
  · have x := h1 s i e a b c d f; have y := fr s i e a b c d f
    exact ⟨y.1.trans x.1, y.2.trans x.2⟩
  · by_cases z : i = sp
    · rw [z] at g ⊢; exact (up _ e2 (by omega) (by omega)).1 g
    · exact (fr _ i e2 (by omega) (by omega) (by omega) (by omega) z).1.mpr g
  · by_cases p64 : p < 64
    · have pu : p < u := by omega
      have z := dn s p (by omega) p64 pu
      exact g_wq_m (h5 p s a c d e (z.1 f) g) fr (fun r e _ => up (so r) e) mm s0 a l59 z.2
    · intro r m π hr rl m0 e0 em hs bb wn dd q q0 q1 d0 dm mk
      have gg := g_d_i mk d0 m0 (Int.le_refl _)
      omega
  · obtain ⟨t, ht⟩ := h6 e a b c
    refine ⟨t, fun s x y z v l pz kz => ?_⟩
    have zz := dn s e a c b
    have hz := zz.1 z
    have le := ((h3 s e x y a c).2 hz).1
    have me : g_mb md s sp e = g_mb mc s sp e := w3 s sp e s0 le.1 (by omega) (Or.inr (Or.inl (nw e b)))
    rw [me] at l pz kz ⊢
    have r := ht s x y hz (fun q => v ((up s e a c).2 q)) l pz kz
    exact ⟨fun q => r.1 ((dn _ e a c b).2 q), r.2⟩
  · have v := h7 a b
    have u1 := up (so (lf sp)) (sp + 1) (by omega) (by omega)
    exact ⟨u1.1 v.1, fun z => (w3 _ sp (sp + 1) s0 (by omega) (by omega) (Or.inr (Or.inr v.1))).trans (v.2 (fun q => z (u1.2 q)))⟩
  · have x := h8 e a b c v v0 v1 v2 ((dn _ e a c b).1 q)
    have u1 := up (so (uR v)) e a c
    exact ⟨u1.1 x.1, fun z => u1.2 (x.2.1 ((dn _ e a c b).2 z)), fun f g z => (w3 _ sp e s0 f g (Or.inr (Or.inr x.1))).trans (x.2.2 f g (fun q => z (u1.2 q)))⟩
  · have d2 : p2 < w ∨ (p2 = w ∧ s < k) := d
    exact (dn s p (by omega) (by omega) (by omega)).1 q
/-- parents' chains from the root to the same node are the same -/
theorem g_chu {par : Int → Int} : ∀ (k : Nat) (m m2 : Int) (π ρ : Int → Int), m = (k : Int) → 0 ≤ m2 → π 0 = 0 → ρ 0 = 0 → π m = ρ m2 → (∀ j : Int, 0 ≤ j → j < m → 1 ≤ π (j + 1) ∧ par (π (j + 1)) = π j) → (∀ j : Int, 0 ≤ j → j < m2 → 1 ≤ ρ (j + 1) ∧ par (ρ (j + 1)) = ρ j) → m = m2 ∧ ∀ j : Int, 0 ≤ j → j ≤ m → π j = ρ j
  | 0, m, m2, π, ρ, hm, h2, a, b, e, hp, hr => by
    have z : m2 = 0 := by
      by_cases z : m2 = 0
      · exact z
      · have w := (hr (m2 - 1) (by omega) (by omega)).1
        rw [show m2 - 1 + 1 = m2 from by omega, ← e, show m = 0 from by omega, a] at w
        omega
    exact ⟨by omega, fun j j0 j1 => by rw [show j = 0 from by omega, a, b]⟩
  | k + 1, m, m2, π, ρ, hm, h2, a, b, e, hp, hr => by
    have w := hp (m - 1) (by omega) (by omega)
    rw [show m - 1 + 1 = m from by omega] at w
    have z : 0 < m2 := by
      by_cases z : m2 = 0
      · rw [e, z, b] at w; omega
      · omega
    have v := hr (m2 - 1) (by omega) (by omega)
    rw [show m2 - 1 + 1 = m2 from by omega] at v
    obtain ⟨i1, i2⟩ := g_chu (par := par) k (m - 1) (m2 - 1) π ρ (by omega) (by omega) a b (by rw [← w.2, ← v.2, e]) (fun j j0 j1 => hp j j0 (by omega)) (fun j j0 j1 => hr j j0 (by omega))
    refine ⟨by omega, fun j j0 j1 => ?_⟩
    by_cases y : j = m
    · rw [y, e, show m2 = m from by omega]
    · exact i2 j j0 (by omega)
theorem g_chl {nd m : Int} {par π : Int → Int} (pl : ∀ c : Int, 1 ≤ c → c < nd → par c < c) (h : ∀ j : Int, 0 ≤ j → j < m → 1 ≤ π (j + 1) ∧ π (j + 1) < nd ∧ par (π (j + 1)) = π j) : ∀ k : Nat, (k : Int) + 1 ≤ m → π 1 + (k : Int) ≤ π ((k : Int) + 1)
  | 0, _ => by
    rw [show ((0 : Nat) : Int) + 1 = 1 from rfl]
    omega
  | k + 1, hk => by
    have a := g_chl pl h k (by omega)
    obtain ⟨b, c, d⟩ := h ((k : Int) + 1) (by omega) (by omega)
    have e := pl _ b c
    rw [show (((k + 1 : Nat)) : Int) + 1 = (k : Int) + 1 + 1 from by omega]
    omega
/-- the way of a rule through the nodes, and through the row -/
def g_wy (nd len sp e M m : Int) (row ky par bn nof π d : Int → Int) (Hs : Int → Int → Int → Prop) : Prop := 0 ≤ m ∧ π 0 = 0 ∧ π m = nof M ∧ (∀ j : Int, 0 ≤ j → j < m → 1 ≤ π (j + 1) ∧ π (j + 1) < nd ∧ par (π (j + 1)) = π j ∧ bn (π (j + 1)) ≤ M) ∧ d 0 = sp ∧ d m = e ∧ ∀ j : Int, 0 ≤ j → j < m → g_mk len row Hs (ky (π (j + 1))) (d j) (d (j + 1))
/-- all parts of it are reached once, and a rule that is one part alone goes down -/
def g_un1 (m : Int) (ky π d t : Int → Int) (Ss : Int → Int → Int → Prop) (s : Int) : Prop := ∀ j : Int, 0 ≤ j → j < m → ky (π (j + 1)) < 0 → ¬ Ss (-1 - ky (π (j + 1))) (d j) (d (j + 1)) ∧ (m = 1 → 0 ≤ t (-1 - ky (π 1)) ∧ t (-1 - ky (π 1)) < t s)
/-- a place of the chart that is done -/
def g_ok (nd len rs lim sp : Int) (row ky par bn nof so lf : Int → Int) (In : Int → Prop) (b4 b5 : Int → Int64) (mb : Int → Int) : Prop := ∀ e : Int, 0 ≤ e → e < 64 → ∃ t : Int → Int, ∀ s : Int, 0 ≤ s → s < rs → (g_H b5 s sp e → g_H b4 s sp e) ∧ (g_H b4 s sp e → (sp < e ∧ e ≤ len) ∧ ((0 ≤ lf sp ∧ e = sp + 1 ∧ g_mb mb s sp e = lf sp ∧ s = so (lf sp)) ∨ (In (g_mb mb s sp e) ∧ g_mb mb s sp e < lim ∧ s = so (g_mb mb s sp e) ∧ g_kx len row ky par lf (g_H b4) sp (nof (g_mb mb s sp e)) e ∧ (¬ g_H b5 s sp e → ∀ (m : Int) (π d : Int → Int), g_wy nd len sp e (g_mb mb s sp e) m row ky par bn nof π d (g_H b4) → g_un1 m ky π d t (g_H b5) s))))
theorem g_ok_e {nd len rs lim sp u w un : Int} {lq : Prop} {row ky par bn nof so fc sb aC aS lf uR uF : Int → Int} {In : Int → Prop} {b4 b5 c4 c5 : Int → Int64} {mb mc : Int → Int} (h : g_pl nd len rs lim sp u w 0 un True lq row ky par bn nof so aC aS lf uR uF In b4 b5 c4 c5 mb mc) (tr : g_tr nd fc sb ky aC aS par) (kr : ∀ c : Int, 1 ≤ c → c < nd → ky c < 0 → -1 - ky c < rs) (s0 : 0 ≤ sp) (l59 : len ≤ 59) (ul : len < u) (wl : len < w) : g_ok nd len rs lim sp row ky par bn nof so lf In c4 c5 mc := by
  obtain ⟨h1, h2, h3, h4, h5, h6, _, _, _⟩ := h
  intro e e0 e1
  have ht : ∃ t : Int → Int, e < u → ∀ s : Int, 0 ≤ s → s < rs → g_H c4 s sp e → ¬ g_H c5 s sp e → ¬ (0 ≤ lf sp ∧ e = sp + 1 ∧ g_mb mc s sp e = lf sp ∧ s = so (lf sp)) → par (nof (g_mb mc s sp e)) = 0 → ky (nof (g_mb mc s sp e)) < 0 → ¬ g_H c5 (-1 - ky (nof (g_mb mc s sp e))) sp e ∧ 0 ≤ t (-1 - ky (nof (g_mb mc s sp e))) ∧ t (-1 - ky (nof (g_mb mc s sp e))) < t s := by
    by_cases z : e < u
    · obtain ⟨t, y⟩ := h6 e e0 z e1
      exact ⟨t, fun _ => y⟩
    · exact ⟨fun _ => 0, fun y => absurd y z⟩
  obtain ⟨t, ht⟩ := ht
  refine ⟨t, fun s a b => ?_⟩
  obtain ⟨q1, q2⟩ := h3 s e a b e0 e1
  refine ⟨q1, fun hh => ?_⟩
  obtain ⟨le, dis⟩ := q2 hh
  refine ⟨le, ?_⟩
  by_cases lfz : 0 ≤ lf sp ∧ e = sp + 1 ∧ g_mb mc s sp e = lf sp ∧ s = so (lf sp)
  · exact Or.inl lfz
  rcases dis with dis | ⟨d1, d2, d3, ⟨d4, _⟩⟩
  · exact absurd dis lfz
  obtain ⟨m2, ρ, dd, wk, m21, cst⟩ := d4
  refine Or.inr ⟨d1, d2, d3, ⟨m2, ρ, dd, wk, m21, cst⟩, fun ns m π d wy => ?_⟩
  obtain ⟨y1, y2, y3, y4, y5, y6, y7⟩ := wy
  obtain ⟨k1, k2, k3, k4, k5, k6⟩ := wk
  have cu := g_chu (par := par) m.toNat m m2 π ρ (by omega) k1 y2 k2 (by rw [y3, k3]) (fun j j0 j1 => ⟨(y4 j j0 j1).1, (y4 j j0 j1).2.2.1⟩) (fun j j0 j1 => ⟨(k6 j j0 j1).1, (k6 j j0 j1).2.1⟩)
  have m1 : 1 ≤ m := by omega
  have p1 : π 1 = ρ 1 := cu.2 1 (by omega) m1
  obtain ⟨f1, f2, f3, f4⟩ := y4 0 (by omega) (by omega)
  have f0 := y7 0 (by omega) (by omega)
  rw [show (0 : Int) + 1 = 1 from rfl] at f1 f2 f3 f4 f0
  rw [y2] at f3
  rw [y5] at f0
  have at0 := tr.2.2.2.2.1 (π 1) f1 f2 f3
  have st0 := y4
  have ns2 : ¬ g_H c5 (so (g_mb mc s sp e)) sp e := by rw [← d3]; exact ns
  -- what a walk from the first node tells
  have tell : ∀ (Y wi : Prop), (nof (g_mb mc s sp e) ≠ π 1 ∨ wi) → g_wq nd len sp lim (d 1) row ky par bn nof so In Y (π 1) wi c4 c5 mc → ¬ Y ∧ ∀ j : Int, 1 ≤ j → j < m → ky (π (j + 1)) < 0 → ¬ g_H c5 (-1 - ky (π (j + 1))) (d j) (d (j + 1)) := fun Y wi hw wq => by
    have v := wq (g_mb mc s sp e) (m - 1) (fun j => π (j + 1)) d1 d2 (by omega) (by show π (0 + 1) = π 1; rfl) (by show π (m - 1 + 1) = _; rw [show m - 1 + 1 = m from by omega]; exact y3) (fun j j0 j1 => y4 (j + 1) (by omega) (by omega)) f4 hw (fun j => d (j + 1)) e e0 e1 (by show d (0 + 1) = d 1; rfl) (by show d (m - 1 + 1) = e; rw [show m - 1 + 1 = m from by omega]; exact y6) (fun j j0 j1 => y7 (j + 1) (by omega) (by omega))
    refine ⟨fun y => ns2 (v.2.1 (Or.inl y)), fun j j0 j1 j2 j3 => ns2 (v.2.1 (Or.inr ⟨j - 1, by omega, by omega, ?_, ?_⟩))⟩
    · show ky (π (j - 1 + 1 + 1)) < 0
      rw [show j - 1 + 1 + 1 = j + 1 from by omega]; exact j2
    · show g_H c5 (-1 - ky (π (j - 1 + 1 + 1))) (d (j - 1 + 1)) (d (j - 1 + 1 + 1))
      rw [show j - 1 + 1 + 1 = j + 1 from by omega, show j - 1 + 1 = j from by omega]; exact j3
  intro j j0 j1 j2
  rcases Int.lt_or_le (ky (π 1)) 0 with kz | kz
  · obtain ⟨g0, g1 | ⟨_, g2, g3, g4⟩⟩ := f0
    · omega
    have sr := kr _ f1 f2 kz
    have aSe := at0.2 kz
    by_cases mz : m = 1
    · have jz : j = 0 := by omega
      rw [mz] at y3 y6
      rw [y6] at g4
      have r := ht (by omega) s a b hh ns lfz (by rw [← y3]; exact f3) (by rw [← y3]; exact kz)
      rw [← y3] at r
      rw [jz, show (0 : Int) + 1 = 1 from rfl, y5, y6]
      exact ⟨r.1, fun _ => r.2⟩
    · have gt := g_chl (nd := nd) (m := m) (par := par) (π := π) (fun c c1 c2 => (tr.1 c c1 c2).2.1) (fun j a b => ⟨(y4 j a b).1, (y4 j a b).2.1, (y4 j a b).2.2.1⟩) (m - 1).toNat (by omega)
      rw [show ((m - 1).toNat : Int) = m - 1 from by omega, show m - 1 + 1 = m from by omega, y3] at gt
      have r := tell _ False (Or.inl (by omega)) (by rw [← aSe]; exact h5 (d 1) (-1 - ky (π 1)) g2 (Or.inl (by omega)) (by omega) sr g4 (by rw [aSe]; omega))
      refine ⟨?_, fun z => absurd z mz⟩
      by_cases jz : j = 0
      · rw [jz, show (0 : Int) + 1 = 1 from rfl, y5]; exact r.1
      · exact r.2 j (by omega) j1 j2
  · obtain ⟨g0, ⟨_, g1, g2⟩ | g1⟩ := f0
    · have lz := cst (by rw [← p1]; exact kz)
      have aCe := at0.1 kz
      rw [← g1] at aCe
      have r := tell False True (Or.inr trivial) (by rw [g2, ← aCe]; exact h4 trivial lz (by omega))
      have jz : j ≠ 0 := fun z => by rw [z] at j2; exact absurd j2 (by rw [show (0 : Int) + 1 = 1 from rfl]; omega)
      exact ⟨r.2 j (by omega) j1 j2, fun z => by omega⟩
    · omega
/-- what is reached once has one cause alone -/
def g_uq (nd len lim sp : Int) (lq : Prop) (row ky par bn nof so lf : Int → Int) (In : Int → Prop) (b4 b5 : Int → Int64) (mb : Int → Int) : Prop :=
  (lq → g_H b4 (so (lf sp)) sp (sp + 1) ∧ (¬ g_H b5 (so (lf sp)) sp (sp + 1) → g_mb mb (so (lf sp)) sp (sp + 1) = lf sp)) ∧
  ∀ (r m e : Int) (π d : Int → Int), In r → r < lim → 0 ≤ e → e < 64 → 1 ≤ m → g_wy nd len sp e r m row ky par bn nof π d (g_H b4) → (0 ≤ ky (π 1) → lf sp = -1) → g_H b4 (so r) sp e ∧ (¬ g_H b5 (so r) sp e → g_mb mb (so r) sp e = r) ∧ ((∃ j : Int, 0 ≤ j ∧ j < m ∧ ky (π (j + 1)) < 0 ∧ g_H b5 (-1 - ky (π (j + 1))) (d j) (d (j + 1))) → g_H b5 (so r) sp e) ∧ ∀ d2 : Int → Int, g_wy nd len sp e r m row ky par bn nof π d2 (g_H b4) → (∃ j : Int, 0 ≤ j ∧ j ≤ m ∧ d j ≠ d2 j) → g_H b5 (so r) sp e
theorem g_uq_e {nd len rs lim sp u w un : Int} {lq : Prop} {row ky par bn nof so fc sb aC aS lf uR uF : Int → Int} {In : Int → Prop} {b4 b5 c4 c5 : Int → Int64} {mb mc : Int → Int} (h : g_pl nd len rs lim sp u w 0 un True lq row ky par bn nof so aC aS lf uR uF In b4 b5 c4 c5 mb mc) (tr : g_tr nd fc sb ky aC aS par) (kr : ∀ c : Int, 1 ≤ c → c < nd → ky c < 0 → -1 - ky c < rs) (uc : ∀ r : Int, In r → 1 ≤ nof r → par (nof r) = 0 → ky (nof r) < 0 → ∃ v : Int, 0 ≤ v ∧ v < un ∧ uR v = r ∧ uF v = -1 - ky (nof r)) (s0 : 0 ≤ sp) (l59 : len ≤ 59) (ul : len < u) (wl : len < w) : g_uq nd len lim sp lq row ky par bn nof so lf In c4 c5 mc := by
  obtain ⟨h1, h2, h3, h4, h5, h6, h7, h8, h9⟩ := h
  refine ⟨h7 trivial, fun r m e π d hr hl e0 e1 m1 wy lc => ?_⟩
  obtain ⟨y1, y2, y3, y4, y5, y6, y7⟩ := wy
  obtain ⟨f1, f2, f3, f4⟩ := y4 0 (by omega) (by omega)
  have f0 := y7 0 (by omega) (by omega)
  rw [show (0 : Int) + 1 = 1 from rfl] at f1 f2 f3 f4 f0
  rw [y2] at f3
  have at0 := tr.2.2.2.2.1 (π 1) f1 f2 f3
  have em : (fun j => π (j + 1)) (m - 1) = nof r := by
    show π (m - 1 + 1) = nof r
    rw [show m - 1 + 1 = m from by omega]; exact y3
  have hs : ∀ j : Int, 0 ≤ j → j < m - 1 → 1 ≤ (fun j => π (j + 1)) (j + 1) ∧ (fun j => π (j + 1)) (j + 1) < nd ∧ par ((fun j => π (j + 1)) (j + 1)) = (fun j => π (j + 1)) j ∧ bn ((fun j => π (j + 1)) (j + 1)) ≤ r := fun j a b => y4 (j + 1) (by omega) (by omega)
  have dm : ∀ dd : Int → Int, dd m = e → (fun j => dd (j + 1)) (m - 1) = e := fun dd q => by
    show dd (m - 1 + 1) = e
    rw [show m - 1 + 1 = m from by omega]; exact q
  have sh : ∀ dd : Int → Int, (∀ j : Int, 0 ≤ j → j < m → g_mk len row (g_H c4) (ky (π (j + 1))) (dd j) (dd (j + 1))) → ∀ j : Int, 0 ≤ j → j < m - 1 → g_mk len row (g_H c4) (ky ((fun j => π (j + 1)) (j + 1))) ((fun j => dd (j + 1)) j) ((fun j => dd (j + 1)) (j + 1)) := fun dd mk j a b => mk (j + 1) (by omega) (by omega)
  have gge := g_d_i y7 y5 (show 0 ≤ m from by omega) (Int.le_refl _)
  have lst := g_mk_b (y7 (m - 1) (by omega) (by omega))
  rw [show m - 1 + 1 = m from by omega, y6] at lst
  rw [y6] at gge
  rcases Int.lt_or_le (ky (π 1)) 0 with kz | kz
  · obtain ⟨g0, g1 | ⟨_, g2, g3, g4⟩⟩ := f0
    · omega
    rw [y5] at g2 g4
    have sr := kr _ f1 f2 kz
    have aSe := at0.2 kz
    by_cases mz : m = 1
    · rw [mz] at y3 y6
      obtain ⟨v, v0, v1, v2, v3⟩ := uc r hr (by rw [← y3]; exact f1) (by rw [← y3]; exact f3) (by rw [← y3]; exact kz)
      rw [← y3] at v3
      have x := h8 e e0 (by omega) e1 v v0 v1 (by rw [v2]; exact hl) (by rw [v3, ← y6]; exact g4)
      rw [v2] at x
      refine ⟨x.1, fun z => x.2.2 (by omega) (by omega) z, fun ⟨j, j0, j1, j2, j3⟩ => x.2.1 ?_, fun d2 w2 ⟨j, j0, j1, jd⟩ => ?_⟩
      · rw [show j = 0 from by omega, show (0 : Int) + 1 = 1 from rfl, y5, y6] at j3
        rw [v3]; exact j3
      · obtain ⟨_, _, _, _, z5, z6, _⟩ := w2
        rw [mz] at z6
        rcases (by omega : j = 0 ∨ j = 1) with y | y
        · rw [y, y5, z5] at jd; exact absurd rfl jd
        · rw [y, y6, z6] at jd; exact absurd rfl jd
    · have gt := g_chl (nd := nd) (m := m) (par := par) (π := π) (fun c c1 c2 => (tr.1 c c1 c2).2.1) (fun j a b => ⟨(y4 j a b).1, (y4 j a b).2.1, (y4 j a b).2.2.1⟩) (m - 1).toNat (by omega)
      rw [show ((m - 1).toNat : Int) = m - 1 from by omega, show m - 1 + 1 = m from by omega, y3] at gt
      have a0 : 0 < aS (-1 - ky (π 1)) := by omega
      have p0 : (fun j => π (j + 1)) 0 = aS (-1 - ky (π 1)) := by
        show π (0 + 1) = _
        rw [aSe]; rfl
      have b0 : bn (aS (-1 - ky (π 1))) ≤ r := by rw [aSe]; exact f4
      have n0 : nof r ≠ aS (-1 - ky (π 1)) := by rw [aSe]; omega
      have v := h5 (d 1) (-1 - ky (π 1)) g2 (Or.inl (by omega)) (by omega) sr g4 a0 r (m - 1) (fun j => π (j + 1)) hr hl (by omega) p0 em hs b0 (Or.inl n0) (fun j => d (j + 1)) e e0 e1 rfl (dm d y6) (sh d y7)
      refine ⟨v.1.1, fun z => v.1.2 (by omega) (by omega) z, fun ⟨j, j0, j1, j2, j3⟩ => v.2.1 ?_, fun d2 w2 ⟨j, j0, j1, jd⟩ => ?_⟩
      · by_cases jz : j = 0
        · rw [jz, show (0 : Int) + 1 = 1 from rfl, y5] at j3; exact Or.inl j3
        · refine Or.inr ⟨j - 1, by omega, by omega, ?_, ?_⟩
          · show ky (π (j - 1 + 1 + 1)) < 0
            rw [show j - 1 + 1 + 1 = j + 1 from by omega]; exact j2
          · show g_H c5 (-1 - ky (π (j - 1 + 1 + 1))) (d (j - 1 + 1)) (d (j - 1 + 1 + 1))
            rw [show j - 1 + 1 + 1 = j + 1 from by omega, show j - 1 + 1 = j from by omega]; exact j3
      · obtain ⟨_, _, _, _, z5, z6, z7⟩ := w2
        obtain ⟨_, k1 | ⟨_, k2, k3, k4⟩⟩ := z7 0 (by omega) (by omega)
        · rw [show (0 : Int) + 1 = 1 from rfl] at k1; omega
        rw [show (0 : Int) + 1 = 1 from rfl] at k2 k3 k4
        rw [z5] at k2 k4
        have jn : j ≠ 0 := fun y => by rw [y, y5, z5] at jd; exact absurd rfl jd
        rcases Int.lt_trichotomy (d 1) (d2 1) with z | z | z
        · exact h9 (d 1) (d2 1) (-1 - ky (π 1)) g2 z (show d2 1 < w ∨ (d2 1 = w ∧ -1 - ky (π 1) < 0) from Or.inl (by omega)) (by omega) sr g4 k4 a0 r (m - 1) (fun j => π (j + 1)) hr hl (by omega) p0 em hs b0 n0 (fun j => d (j + 1)) (fun j => d2 (j + 1)) e e0 e1 rfl rfl (dm d y6) (dm d2 z6) (sh d y7) (sh d2 z7)
        · exact v.2.2 (fun j => d2 (j + 1)) (by show d2 (0 + 1) = d 1; rw [z]; rfl) (dm d2 z6) (sh d2 z7) ⟨j - 1, by omega, by omega, by show d (j - 1 + 1) ≠ d2 (j - 1 + 1); rw [show j - 1 + 1 = j from by omega]; exact jd⟩
        · exact h9 (d2 1) (d 1) (-1 - ky (π 1)) k2 z (show d 1 < w ∨ (d 1 = w ∧ -1 - ky (π 1) < 0) from Or.inl (by omega)) (by omega) sr k4 g4 a0 r (m - 1) (fun j => π (j + 1)) hr hl (by omega) p0 em hs b0 n0 (fun j => d2 (j + 1)) (fun j => d (j + 1)) e e0 e1 rfl rfl (dm d2 z6) (dm d y6) (sh d2 z7) (sh d y7)
  · obtain ⟨g0, ⟨_, g1, g2⟩ | g1⟩ := f0
    · rw [y5] at g1 g2
      have aCe := at0.1 kz
      rw [← g1] at aCe
      have v := h4 trivial (lc kz) (by omega) r (m - 1) (fun j => π (j + 1)) hr hl (by omega) (by show π (0 + 1) = _; rw [aCe]; rfl) em hs (by rw [aCe]; exact f4) (Or.inr trivial) (fun j => d (j + 1)) e e0 e1 (by show d (0 + 1) = sp + 1; rw [show (0 : Int) + 1 = 1 from rfl]; exact g2) (dm d y6) (sh d y7)
      refine ⟨v.1.1, fun z => v.1.2 (by omega) (by omega) z, fun ⟨j, j0, j1, j2, j3⟩ => v.2.1 (Or.inr ?_), fun d2 w2 ⟨j, j0, j1, jd⟩ => ?_⟩
      · have jz : j ≠ 0 := fun y => by
          rw [y, show (0 : Int) + 1 = 1 from rfl] at j2; omega
        refine ⟨j - 1, by omega, by omega, ?_, ?_⟩
        · show ky (π (j - 1 + 1 + 1)) < 0
          rw [show j - 1 + 1 + 1 = j + 1 from by omega]; exact j2
        · show g_H c5 (-1 - ky (π (j - 1 + 1 + 1))) (d (j - 1 + 1)) (d (j - 1 + 1 + 1))
          rw [show j - 1 + 1 + 1 = j + 1 from by omega, show j - 1 + 1 = j from by omega]; exact j3
      · obtain ⟨_, _, _, _, z5, z6, z7⟩ := w2
        obtain ⟨_, ⟨_, _, k2⟩ | ⟨k1, _⟩⟩ := z7 0 (by omega) (by omega)
        · rw [show (0 : Int) + 1 = 1 from rfl, z5] at k2
          have jn : j ≠ 0 := fun y => by rw [y, y5, z5] at jd; exact absurd rfl jd
          exact v.2.2 (fun j => d2 (j + 1)) (by show d2 (0 + 1) = sp + 1; rw [show (0 : Int) + 1 = 1 from rfl]; exact k2) (dm d2 z6) (sh d2 z7) ⟨j - 1, by omega, by omega, by show d (j - 1 + 1) ≠ d2 (j - 1 + 1); rw [show j - 1 + 1 = j from by omega]; exact jd⟩
        · rw [show (0 : Int) + 1 = 1 from rfl] at k1; omega
    · omega
/-- what is done behind stays as it is -/
theorem g_ok_m {nd len rs lim sp : Int} {row ky par bn nof so lf : Int → Int} {In : Int → Prop} {b4 b5 c4 c5 : Int → Int64} {mb mc : Int → Int} (h : g_ok nd len rs lim sp row ky par bn nof so lf In b4 b5 mb) (fr : ∀ s i e : Int, sp ≤ i → i < 60 → 0 ≤ e → e < 64 → (g_H c4 s i e ↔ g_H b4 s i e) ∧ (g_H c5 s i e ↔ g_H b5 s i e)) (fm : ∀ s e : Int, sp < e → e ≤ 59 → g_mb mc s sp e = g_mb mb s sp e) (s0 : 0 ≤ sp) (s1 : sp < 60) (l59 : len ≤ 59) : g_ok nd len rs lim sp row ky par bn nof so lf In c4 c5 mc := by
  intro e e0 e1
  obtain ⟨t, ht⟩ := h e e0 e1
  refine ⟨t, fun s a b => ?_⟩
  obtain ⟨h1, h2⟩ := ht s a b
  have f := fr s sp e (Int.le_refl _) s1 e0 e1
  refine ⟨fun q => f.1.mpr (h1 (f.2.mp q)), fun q => ?_⟩
  obtain ⟨le, dis⟩ := h2 (f.1.mp q)
  rw [fm s e le.1 (by omega)]
  refine ⟨le, ?_⟩
  rcases dis with d | ⟨d1, d2, d3, d4, d5⟩
  · exact Or.inl d
  · refine Or.inr ⟨d1, d2, d3, g_kx_w d4 (fun c i e _ _ _ y z w v k => (fr _ _ _ y (by omega) (by omega) (by omega)).1.mpr k), fun ns m π d wy j j0 j1 j2 => ?_⟩
    obtain ⟨y1, y2, y3, y4, y5, y6, y7⟩ := wy
    have g := fun j a c => g_d_i (j := j) y7 y5 a c
    have r := d5 (fun z => ns (f.2.mpr z)) m π d ⟨y1, y2, y3, y4, y5, y6, fun j j0 j1 => g_mk_w (y7 j j0 j1) (fun x y z w k => (fr _ _ _ (by have := g j j0 (by omega); omega) (by omega) (by have := g j j0 (by omega); omega) (by omega)).1.mp k)⟩ j j0 j1 j2
    have gj := g j j0 (by omega)
    have mj := g_mk_b (y7 j j0 j1)
    have mj2 := (y7 j j0 j1).1
    exact ⟨fun z => r.1 ((fr _ _ _ (by omega) (by omega) (by omega) (by omega)).2.mp z), r.2⟩
/-- rules of one variable are added for an end -/
theorem g_pl_u {nd len rs lim sp u w k un : Int} {cw lq : Prop} {row ky par bn nof so aC aS lf uR uF : Int → Int} {In : Int → Prop} {b4 b5 c4 c5 d4 d5 : Int → Int64} {mb mc md : Int → Int} (h : g_pl nd len rs lim sp u w k un cw lq row ky par bn nof so aC aS lf uR uF In b4 b5 c4 c5 mb mc) (uo : g_uo rs lim un sp u uR uF so c4 c5 d4 d5 mc md) (ql : lq → 0 ≤ so (lf sp) ∧ so (lf sp) < rs) (s0 : 0 ≤ sp) (su : sp < u) (u59 : u ≤ len) (l59 : len ≤ 59) (wu : w < u ∨ (k ≤ 0 ∧ w ≤ u))
    (sr : ∀ r : Int, In r → 0 ≤ so r ∧ so r < rs) (kc : ∀ c : Int, 1 ≤ c → 0 ≤ par c → ky c < 0 → -1 - ky c < rs) (ui : ∀ v : Int, 0 ≤ v → v < un → In (uR v) ∧ 1 ≤ nof (uR v) ∧ par (nof (uR v)) = 0 ∧ ky (nof (uR v)) = -1 - uF v ∧ 0 ≤ uF v) : g_pl nd len rs lim sp (u + 1) w k un cw lq row ky par bn nof so aC aS lf uR uF In b4 b5 d4 d5 mb md := by
  obtain ⟨h1, h2, h3, h4, h5, h6, h7, h8, h9⟩ := h
  obtain ⟨o1, o2, t, o3⟩ := uo
  have fr : ∀ s i e : Int, 0 ≤ i → i < 60 → 0 ≤ e → e < 64 → i ≠ sp → (g_H d4 s i e ↔ g_H c4 s i e) ∧ (g_H d5 s i e ↔ g_H c5 s i e) := fun s i e a b c d z => o1 s i e a b c d (Or.inl z)
  have oe : ∀ s e : Int, 0 ≤ e → e < 64 → e ≠ u → (g_H d4 s sp e ↔ g_H c4 s sp e) ∧ (g_H d5 s sp e ↔ g_H c5 s sp e) := fun s e a b z => o1 s sp e s0 (by omega) a b (Or.inr z)
  have ups : ∀ s e : Int, 0 ≤ s → s < rs → 0 ≤ e → e < 64 → (g_H c4 s sp e → g_H d4 s sp e) ∧ (g_H c5 s sp e → g_H d5 s sp e) := fun s e a b c d => by
    by_cases z : e = u
    · rw [z]; exact ⟨fun q => ((o3 s a b).1 q).1, (o3 s a b).2.1⟩
    · have x := oe s e c d z; exact ⟨x.1.mpr, x.2.mpr⟩
  have up : ∀ r e : Int, In r → 0 ≤ e → e < 64 → (g_H c4 (so r) sp e → g_H d4 (so r) sp e) ∧ (g_H c5 (so r) sp e → g_H d5 (so r) sp e) := fun r e hr a b => ups _ e (sr r hr).1 (sr r hr).2 a b
  have mms : ∀ s e : Int, 0 ≤ s → s < rs → sp < e → e ≤ 59 → g_H c4 s sp e → g_mb md s sp e = g_mb mc s sp e := fun s e a b c d q => by
    by_cases z : e = u
    · rw [z] at q ⊢; exact ((o3 s a b).1 q).2
    · exact o2 s sp e s0 c d (Or.inr z)
  have mm : ∀ r e : Int, In r → sp < e → e ≤ 59 → g_H c4 (so r) sp e → g_mb md (so r) sp e = g_mb mc (so r) sp e := fun r e hr => mms _ e (sr r hr).1 (sr r hr).2
  have km : ∀ n q : Int, g_kx len row ky par lf (g_H c4) sp n q → g_kx len row ky par lf (g_H d4) sp n q := fun n q h => g_kx_w h (fun c i e c1 pc kz a b d f g => by
    by_cases z : i = sp
    · rw [z] at g ⊢; exact (ups _ e (by omega) (kc c c1 pc kz) (by omega) (by omega)).1 g
    · exact (fr _ i e (by omega) (by omega) (by omega) (by omega) z).1.mpr g)
  refine ⟨fun s i e a b c d f => ?_, fun s i e a b c f => (o2 s i e a b c (Or.inl f)).trans (h2 s i e a b c f), fun s e a b c d => ?_, fun a b c => g_wq_m (h4 a b c) fr up mm s0 (by omega) l59 id, fun p s a c d e f g => ?_, fun e a b c => ?_, fun a b => ?_, fun e a b c v v0 v1 v2 q => ?_, g_xp_m h9 (fun s i e a b c d z => (fr s i e a b c d z).1) (fun r e hr a b => (up r e hr a b).2) (fun s p p2 s1 s2 a b c d q => ?_) s0 l59⟩
  · have x := h1 s i e a b c d f; have y := fr s i e a b c d f
    exact ⟨y.1.trans x.1, y.2.trans x.2⟩
  · by_cases z : e = u
    · rw [z]
      obtain ⟨a1, a2, a3, a4, _⟩ := o3 s a b
      refine ⟨a3, fun q => ?_⟩
      by_cases y : g_H c4 s sp u
      · obtain ⟨le, dis⟩ := (h3 s u a b (by omega) (by omega)).2 y
        rw [(a1 y).2]
        exact ⟨le, dis.elim Or.inl (fun ⟨d1, d2, d3, d4⟩ => Or.inr ⟨d1, d2, d3, km _ _ d4.1, Or.inl (by omega)⟩)⟩
      · obtain ⟨v, v0, v1, v2, v3, v4, v5, _⟩ := a4 y q
        obtain ⟨u1, u2, u3, u4, u5⟩ := ui v v0 v1
        rw [v4]
        refine ⟨⟨su, u59⟩, Or.inr ⟨u1, v2, v3.symm, g_kx_1 u2 u3 ⟨by omega, Or.inr ⟨by omega, su, u59, ?_⟩⟩ (fun k => by omega), Or.inl (by omega)⟩⟩
        rw [u4, show -1 - (-1 - uF v) = uF v from by omega]; exact v5
    · have x := oe s e c d z
      obtain ⟨y1, y2⟩ := h3 s e a b c d
      refine ⟨fun q => x.1.mpr (y1 (x.2.mp q)), fun q => ?_⟩
      obtain ⟨le, dis⟩ := y2 (x.1.mp q)
      rw [o2 s sp e s0 le.1 (by omega) (Or.inr z)]
      exact ⟨le, dis.elim Or.inl (fun ⟨d1, d2, d3, d4⟩ => Or.inr ⟨d1, d2, d3, km _ _ d4.1, d4.2.elim (fun k => Or.inl (by omega)) Or.inr⟩)⟩
  · have pu : p < u := by omega
    have x := oe s p (by omega) (by omega) (by omega)
    exact g_wq_m (h5 p s a c d e (x.1.mp f) g) fr up mm s0 a l59 x.2.mp
  · by_cases z : e = u
    · rw [z]
      refine ⟨t, fun s x y hh ns nl pz kz => ?_⟩
      obtain ⟨a1, a2, a3, a4, _⟩ := o3 s x y
      by_cases old : g_H c4 s sp u
      · obtain ⟨le, dis⟩ := (h3 s u x y (by omega) (by omega)).2 old
        rw [(a1 old).2] at nl pz kz
        rcases dis with dis | ⟨_, _, _, _, d4⟩
        · exact absurd dis nl
        · omega
      · obtain ⟨v, v0, v1, v2, v3, v4, v5, v6⟩ := a4 old hh
        obtain ⟨u1, u2, u3, u4, u5⟩ := ui v v0 v1
        rw [v4, u4, show -1 - (-1 - uF v) = uF v from by omega]
        exact v6 ns
    · obtain ⟨tt, ht⟩ := h6 e a (by omega) c
      refine ⟨tt, fun s x y hh ns nl pz kz => ?_⟩
      have w := oe s e a c z
      have hc := w.1.mp hh
      have le := ((h3 s e x y a c).2 hc).1
      have me := o2 s sp e s0 le.1 (by omega) (Or.inr z)
      rw [me] at nl pz kz ⊢
      have r := ht s x y hc (fun q => ns (w.2.mpr q)) nl pz kz
      exact ⟨fun q => r.1 ((oe _ e a c z).2.mp q), r.2⟩
  · have v := h7 a b
    have qb := ql b
    have u1 := ups (so (lf sp)) (sp + 1) qb.1 qb.2 (by omega) (by omega)
    exact ⟨u1.1 v.1, fun z => (mms _ (sp + 1) qb.1 qb.2 (by omega) (by omega) v.1).trans (v.2 (fun q => z (u1.2 q)))⟩
  · obtain ⟨ur, _⟩ := ui v v0 v1
    have sb := sr _ ur
    by_cases z : e = u
    · rw [z] at q ⊢
      have x := (o3 (so (uR v)) sb.1 sb.2).2.2.2.2 v v0 v1 v2 rfl q
      exact ⟨x.1, x.2.1, fun _ _ => x.2.2⟩
    · have y := oe (uF v) e a c z
      have y2 := oe (so (uR v)) e a c z
      have x := h8 e a (by omega) c v v0 v1 v2 (y.1.mp q)
      exact ⟨y2.1.mpr x.1, fun k => y2.2.mpr (x.2.1 (y.2.mp k)), fun f g k => (o2 _ sp e s0 f g (Or.inr z)).trans (x.2.2 f g (fun m => k (y2.2.mpr m)))⟩
  · have d2 : p2 < w ∨ (p2 = w ∧ s < k) := d
    exact (oe s p (by omega) (by omega) (by omega)).1.mp q
theorem g_wq_i {nd len sp lim p b : Int} {row ky par bn nof so mc : Int → Int} {In : Int → Prop} {wi wj Y : Prop} {c4 c5 : Int → Int64} (h : g_wq nd len sp lim p row ky par bn nof so In Y b wi c4 c5 mc) (i : wj → wi) : g_wq nd len sp lim p row ky par bn nof so In Y b wj c4 c5 mc := fun r m π hr rl m0 e0 em hs bb w => h r m π hr rl m0 e0 em hs bb (w.elim Or.inl (fun k => Or.inr (i k)))
/-- a variable stands there -/
theorem g_pl_l {nd len rs lim sp s0 un : Int} {lq : Prop} {row ky par bn nof so aC aS lf uR uF : Int → Int} {In : Int → Prop} {x : Int64} {b4 b5 c4 c5 d4 d5 : Int → Int64} {mb md : Int → Int} (fr : ∀ s i e : Int, 0 ≤ i → i < 60 → 0 ≤ e → e < 64 → i ≠ sp → (g_H c4 s i e ↔ g_H b4 s i e) ∧ (g_H c5 s i e ↔ g_H b5 s i e)) (em : ∀ s e : Int, 0 ≤ s → s < rs → ¬ g_H c4 s sp e ∧ ¬ g_H c5 s sp e) (uf : ∀ v : Int, 0 ≤ v → v < un → 0 ≤ uF v ∧ uF v < rs) (p0 : 0 ≤ sp) (sl : sp < len) (l59 : len ≤ 59) (hl : 0 ≤ lf sp) (hs : s0 = so (lf sp)) (ss : 0 ≤ s0 ∧ s0 < rs) (hx : ∀ e : Int, 0 ≤ e → e < 64 → (j_b x e ↔ e = sp + 1)) (e4 : d4 = st c4 (s0 * 60 + sp) (c4 (s0 * 60 + sp) ||| x)) (e5 : d5 = st c5 (s0 * 60 + sp) (c5 (s0 * 60 + sp) ||| ((0 : Int64) ||| (x &&& c4 (s0 * 60 + sp)))))
    (mm : ∀ s i e : Int, 0 ≤ i → i < e → e ≤ 59 → (¬ (s = s0 ∧ i = sp ∧ e ≤ len ∧ j_b x e ∧ ¬ j_b (c4 (s0 * 60 + sp)) e) → g_mb md s i e = g_mb mb s i e) ∧ ((s = s0 ∧ i = sp ∧ e ≤ len ∧ j_b x e ∧ ¬ j_b (c4 (s0 * 60 + sp)) e) → g_mb md s i e = lf sp)) : g_pl nd len rs lim sp (sp + 1) (sp + 1) 0 un True lq row ky par bn nof so aC aS lf uR uF In b4 b5 d4 d5 mb md := by
  have o4 : ∀ s i e : Int, 0 ≤ i → i < 60 → (g_H d4 s i e ↔ g_H c4 s i e ∨ (s = s0 ∧ i = sp ∧ j_b x e)) := fun s i e a b => by rw [e4]; exact g_H_or a b p0 (by omega)
  have o5 : ∀ s i e : Int, 0 ≤ i → i < 60 → (g_H d5 s i e ↔ g_H c5 s i e ∨ (s = s0 ∧ i = sp ∧ g_H c4 s0 sp e ∧ j_b x e)) := fun s i e a b => by
    rw [e5, g_H_or a b p0 (by omega), j_b_or, j_b_and]
    refine ⟨fun q => q.elim Or.inl (fun ⟨a, b, c⟩ => c.elim (fun k => absurd k (j_b_0 e)) (fun k => Or.inr ⟨a, b, k.2, k.1⟩)), fun q => q.elim Or.inl (fun ⟨a, b, c, d⟩ => Or.inr ⟨a, b, Or.inr ⟨d, c⟩⟩)⟩
  have c0 := em s0
  refine ⟨fun s i e a b c d z => ?_, fun s i e a b c z => (mm s i e a b c).1 (fun q => z q.2.1), fun s e a b c d => ?_, fun _ z => by omega, fun p s a c d _ _ _ => by omega, fun e a b c => ⟨fun _ => 0, fun s x y z => ?_⟩, fun _ _ => ?_, fun e a b c v v0 v1 _ q => ?_, fun p p2 s a b c d => by have c2 : p2 < sp + 1 ∨ (p2 = sp + 1 ∧ s < 0) := c; omega⟩
  · have f := fr s i e a b c d z
    rw [o4 s i e a b, o5 s i e a b]
    exact ⟨⟨fun q => q.elim f.1.mp (fun k => absurd k.2.1 z), fun q => Or.inl (f.1.mpr q)⟩, ⟨fun q => q.elim f.2.mp (fun k => absurd k.2.1 z), fun q => Or.inl (f.2.mpr q)⟩⟩
  · rw [o4 s sp e p0 (by omega), o5 s sp e p0 (by omega)]
    refine ⟨fun q => q.elim (fun k => absurd k (em s e a b).2) (fun k => absurd k.2.2.1 (c0 e ss.1 ss.2).1), fun q => ?_⟩
    rcases q with q | ⟨q1, _, q2⟩
    · exact absurd q (em s e a b).1
    · have ee := (hx e c d).mp q2
      have m := (mm s sp e p0 (by omega) (by omega)).2 ⟨q1, rfl, by omega, q2, (c0 e ss.1 ss.2).1⟩
      exact ⟨⟨by omega, by omega⟩, Or.inl ⟨hl, ee, m, by rw [q1]; exact hs⟩⟩
  · rw [o4 s sp e p0 (by omega)] at z
    rcases z with z | ⟨_, _, z⟩
    · exact absurd z (em s e x y).1
    · have := (hx e a c).mp z; omega
  · rw [← hs]
    have xs := (hx (sp + 1) (by omega) (by omega)).mpr rfl
    exact ⟨(o4 s0 sp (sp + 1) p0 (by omega)).mpr (Or.inr ⟨rfl, rfl, xs⟩), fun _ => (mm s0 sp (sp + 1) p0 (by omega) (by omega)).2 ⟨rfl, rfl, by omega, xs, (c0 (sp + 1) ss.1 ss.2).1⟩⟩
  · have ub := uf v v0 v1
    rcases (o4 (uF v) sp e p0 (by omega)).mp q with z | ⟨_, _, z⟩
    · exact absurd z (em _ e ub.1 ub.2).1
    · have := (hx e a c).mp z; omega
/-- rules of one variable -/
theorem g_ui {k : Int} {σ : S0} {par nof : Int → Int} {In : Int → Prop} (h : c_Ug k σ par nof In) (r0 : ∀ s, 0 ≤ σ.2.1 76 s) : ∀ v : Int, 0 ≤ v → v < σ.1 46 → In (σ.2.1 75 v) ∧ 1 ≤ nof (σ.2.1 75 v) ∧ par (nof (σ.2.1 75 v)) = 0 ∧ σ.2.1 69 (nof (σ.2.1 75 v)) = -1 - σ.2.1 76 v ∧ 0 ≤ σ.2.1 76 v := fun v v0 v1 => by
  obtain ⟨_, ru, un, _, kr⟩ := h
  obtain ⟨u1, u2, u3, u4⟩ := un.1 v v0 v1
  obtain ⟨_, _, w3, ⟨π, w4, w5, w6⟩, _⟩ := ru.2.1 _ u1
  have w := w6 0 (Int.le_refl _) (by omega)
  rw [show σ.2.1 14 (σ.2.1 75 v + 1) - σ.2.1 14 (σ.2.1 75 v) - 1 = 0 + 1 from by omega] at w5
  have e : j_sk (σ.2.1 14) (σ.2.1 15) (σ.2.1 16) (σ.2.1 10) (σ.2.1 75 v) 0 = -1 - σ.2.1 76 v := by
    unfold j_sk
    rw [show σ.2.1 14 (σ.2.1 75 v) + 1 + 0 = σ.2.1 14 (σ.2.1 75 v) + 1 from by omega, if_neg (by omega), u4]
  rw [w5] at w
  exact ⟨u1, w.1, by rw [w.2.2.1, w4], by rw [w.2.2.2.1, e], r0 v⟩
theorem g_skc {a tx fl rk : Int → Int} {r k : Int} (z : fl (a r + 1 + k) = -1) : j_sk a tx fl rk r k = tx (a r + 1 + k) := by unfold j_sk; rw [if_pos z]
theorem g_skv {a tx fl rk : Int → Int} {r k : Int} (z : ¬ fl (a r + 1 + k) = -1) : j_sk a tx fl rk r k = -1 - rk (tx (a (fl (a r + 1 + k)))) := by unfold j_sk; rw [if_neg z]
/-- a rule of one variable alone is among those -/
theorem g_uc {k : Int} {σ : S0} {par nof : Int → Int} {In : Int → Prop} (h : c_Ug k σ par nof In) (t0 : ∀ p, 0 ≤ σ.2.1 15 p) : ∀ r : Int, In r → 1 ≤ nof r → par (nof r) = 0 → σ.2.1 69 (nof r) < 0 → ∃ v : Int, 0 ≤ v ∧ v < σ.1 46 ∧ σ.2.1 75 v = r ∧ σ.2.1 76 v = -1 - σ.2.1 69 (nof r) := fun r hr n1 pz kz => by
  obtain ⟨_, ru, un, _, kr⟩ := h
  obtain ⟨_, rf, _, ⟨π, w4, w5, w6⟩, _⟩ := ru.2.1 r hr
  have l := rf.2.1
  have L1 : σ.2.1 14 (r + 1) - σ.2.1 14 r - 1 = 1 := by
    rcases (by omega : σ.2.1 14 (r + 1) - σ.2.1 14 r - 1 = 1 ∨ 2 ≤ σ.2.1 14 (r + 1) - σ.2.1 14 r - 1) with q | q
    · exact q
    · have a := w6 (σ.2.1 14 (r + 1) - σ.2.1 14 r - 1 - 1) (by omega) (by omega)
      have b := w6 (σ.2.1 14 (r + 1) - σ.2.1 14 r - 1 - 1 - 1) (by omega) (by omega)
      rw [show σ.2.1 14 (r + 1) - σ.2.1 14 r - 1 - 1 + 1 = σ.2.1 14 (r + 1) - σ.2.1 14 r - 1 from by omega, w5, pz] at a
      rw [show σ.2.1 14 (r + 1) - σ.2.1 14 r - 1 - 1 - 1 + 1 = σ.2.1 14 (r + 1) - σ.2.1 14 r - 1 - 1 from by omega] at b
      omega
  rw [L1] at w5
  have w := w6 0 (Int.le_refl _) (by omega)
  rw [show (0 : Int) + 1 = 1 from rfl, w5] at w
  have ks := w.2.2.2.1
  have fz : ¬ σ.2.1 16 (σ.2.1 14 r + 1 + 0) = -1 := fun q => by
    rw [g_skc q] at ks
    have := t0 (σ.2.1 14 r + 1 + 0)
    omega
  rw [g_skv fz] at ks
  rw [show σ.2.1 14 r + 1 + 0 = σ.2.1 14 r + 1 from by omega] at ks fz
  obtain ⟨v, v0, v1, v2⟩ := un.2.2.1 r hr (by omega) fz
  have u := (un.1 v v0 v1).2.2.2
  rw [v2] at u
  exact ⟨v, v0, v1, v2, by omega⟩
theorem g_clr {b c : Int → Int64} {s2 i2 : Int} (i0 : 0 ≤ i2) (i1 : i2 < 60) (e : c = st b (s2 * 60 + i2) 0) (s i q : Int) (a : 0 ≤ i) (d : i < 60) : (s = s2 ∧ i = i2 ∧ ¬ g_H c s i q) ∨ (¬ (s = s2 ∧ i = i2) ∧ (g_H c s i q ↔ g_H b s i q)) := by
  rw [e]
  rcases g_H_st (b := b) (s := s) (i := i) (e := q) (s2 := s2) (i2 := i2) (x := 0) a d i0 i1 with ⟨x, y, z⟩ | z
  · exact Or.inl ⟨x, y, fun k => j_b_0 q (z.mp k)⟩
  · exact Or.inr z
set_option maxHeartbeats 8000000 in
theorem K_X1_parseFromStart {par nof : Int → Int} {In : Int → Prop} {σ : S0} (hT : c_T σ) (p1 : J_all (σ.1 7) (σ.1 6) (σ.1 13) (σ.1 14) (σ.1 15) (σ.2.1 13) (σ.2.1 14) (σ.2.1 15) (σ.2.1 16) (σ.2.1 10) (σ.2.1 27) (σ.2.1 28) (σ.2.1 29) (σ.2.1 30) (σ.2.1 31) (σ.2.1 32) (σ.2.1 33) (σ.2.1 34) (σ.2.1 35) (σ.2.1 36) (σ.2.1 37)) (p2 : c_Rs σ par nof In) (p3 : (σ.1 53) < (σ.1 50)) (p4 : ∀ s q : Int, 0 ≤ s → s < 1000 → 0 ≤ q → q < 64 → (j_b (σ.2.2 3 s) q ↔ q < (σ.1 50) ∧ σ.2.1 77 q = s)) (p5 : ∀ s q e : Int, 0 ≤ s → s < (σ.1 4) → (σ.1 53) < q → q < (σ.1 50) → 0 ≤ e → e < 64 → (g_H (σ.2.2 4) s q e → q < e ∧ e ≤ (σ.1 50)) ∧ (g_H (σ.2.2 5) s q e → g_H (σ.2.2 4) s q e)) (p6 : J_rks (σ.1 5) (σ.1 4) (σ.2.1 10) (σ.2.1 11)) (p7 : J_vs (σ.1 6) (σ.1 5) (σ.2.1 15)) (p8 : ∀ i : Int, 0 ≤ i → i < (σ.1 50) → 0 ≤ σ.2.1 78 i → σ.2.1 78 i < (σ.1 7)) : W_X1_parseFromStart σ (fun (τ : S0) => (c_T τ) ∧ (∀ s i e : Int, 0 ≤ i → i < 60 → 0 ≤ e → e < 64 → i ≠ (σ.1 53) → (g_H (τ.2.2 4) s i e ↔ g_H (σ.2.2 4) s i e) ∧ (g_H (τ.2.2 5) s i e ↔ g_H (σ.2.2 5) s i e)) ∧ (∀ s i e : Int, 0 ≤ i → i < e → e ≤ 59 → i ≠ (σ.1 53) → g_mb (τ.2.1 79) s i e = g_mb (σ.2.1 79) s i e) ∧ (g_ok (σ.1 45) (σ.1 50) (σ.1 4) (σ.1 51) (σ.1 53) (σ.2.1 77) (σ.2.1 69) par (σ.2.1 70) nof (g_so (σ.1 48) (σ.2.1 14) (σ.2.1 15) (σ.2.1 10)) (σ.2.1 78) In (τ.2.2 4) (τ.2.2 5) (τ.2.1 79)) ∧ (τ.2.2 3 = σ.2.2 3) ∧ (g_uq (σ.1 45) (σ.1 50) (σ.1 51) (σ.1 53) (0 ≤ σ.2.1 78 (σ.1 53) ∧ ¬ σ.2.1 15 (σ.2.1 14 (σ.2.1 78 (σ.1 53))) = (σ.1 48)) (σ.2.1 77) (σ.2.1 69) par (σ.2.1 70) nof (g_so (σ.1 48) (σ.2.1 14) (σ.2.1 15) (σ.2.1 10)) (σ.2.1 78) In (τ.2.2 4) (τ.2.2 5) (τ.2.1 79))) := by
  have A10 : ∀ j, (-1) ≤ σ.2.1 10 j ∧ σ.2.1 10 j ≤ 99 := fun j => hT.2 10 j
  have A11 : ∀ j, 0 ≤ σ.2.1 11 j ∧ σ.2.1 11 j ≤ 999 := fun j => hT.2 11 j
  have A13 : ∀ j, 0 ≤ σ.2.1 13 j ∧ σ.2.1 13 j ≤ 4 := fun j => hT.2 13 j
  have A14 : ∀ j, 0 ≤ σ.2.1 14 j ∧ σ.2.1 14 j ≤ 30000 := fun j => hT.2 14 j
  have A15 : ∀ j, 0 ≤ σ.2.1 15 j ∧ σ.2.1 15 j ≤ 999 := fun j => hT.2 15 j
  have A16 : ∀ j, (-1) ≤ σ.2.1 16 j ∧ σ.2.1 16 j ≤ 1499 := fun j => hT.2 16 j
  have A27 : ∀ j, 0 ≤ σ.2.1 27 j ∧ σ.2.1 27 j ≤ 90000 := fun j => hT.2 27 j
  have A28 : ∀ j, 0 ≤ σ.2.1 28 j ∧ σ.2.1 28 j ≤ 60 := fun j => hT.2 28 j
  have A29 : ∀ j, 0 ≤ σ.2.1 29 j ∧ σ.2.1 29 j ≤ 1499 := fun j => hT.2 29 j
  have A30 : ∀ j, 0 ≤ σ.2.1 30 j ∧ σ.2.1 30 j ≤ 20000 := fun j => hT.2 30 j
  have A31 : ∀ j, 0 ≤ σ.2.1 31 j ∧ σ.2.1 31 j ≤ 20000 := fun j => hT.2 31 j
  have A32 : ∀ j, 0 ≤ σ.2.1 32 j ∧ σ.2.1 32 j ≤ 999999 := fun j => hT.2 32 j
  have A33 : ∀ j, 0 ≤ σ.2.1 33 j ∧ σ.2.1 33 j ≤ 20000 := fun j => hT.2 33 j
  have A34 : ∀ j, 0 ≤ σ.2.1 34 j ∧ σ.2.1 34 j ≤ 20000 := fun j => hT.2 34 j
  have A35 : ∀ j, 0 ≤ σ.2.1 35 j ∧ σ.2.1 35 j ≤ 1499 := fun j => hT.2 35 j
  have A36 : ∀ j, 0 ≤ σ.2.1 36 j ∧ σ.2.1 36 j ≤ 20000 := fun j => hT.2 36 j
  have A37 : ∀ j, 0 ≤ σ.2.1 37 j ∧ σ.2.1 37 j ≤ 19999 := fun j => hT.2 37 j
  have A67 : ∀ j, 0 ≤ σ.2.1 67 j ∧ σ.2.1 67 j ≤ 30000 := fun j => hT.2 67 j
  have A68 : ∀ j, 0 ≤ σ.2.1 68 j ∧ σ.2.1 68 j ≤ 30000 := fun j => hT.2 68 j
  have A69 : ∀ j, (-100) ≤ σ.2.1 69 j ∧ σ.2.1 69 j ≤ 999 := fun j => hT.2 69 j
  have A70 : ∀ j, 0 ≤ σ.2.1 70 j ∧ σ.2.1 70 j ≤ 1499 := fun j => hT.2 70 j
  have A73 : ∀ j, 0 ≤ σ.2.1 73 j ∧ σ.2.1 73 j ≤ 30000 := fun j => hT.2 73 j
  have A74 : ∀ j, 0 ≤ σ.2.1 74 j ∧ σ.2.1 74 j ≤ 30000 := fun j => hT.2 74 j
  have A75 : ∀ j, 0 ≤ σ.2.1 75 j ∧ σ.2.1 75 j ≤ 1499 := fun j => hT.2 75 j
  have A76 : ∀ j, 0 ≤ σ.2.1 76 j ∧ σ.2.1 76 j ≤ 99 := fun j => hT.2 76 j
  have A77 : ∀ j, 0 ≤ σ.2.1 77 j ∧ σ.2.1 77 j ≤ 999 := fun j => hT.2 77 j
  have A78 : ∀ j, (-1) ≤ σ.2.1 78 j ∧ σ.2.1 78 j ≤ 1499 := fun j => hT.2 78 j
  have A79 : ∀ j, 0 ≤ σ.2.1 79 j ∧ σ.2.1 79 j ≤ 1499 := fun j => hT.2 79 j
  have v4 : 0 ≤ σ.1 4 ∧ σ.1 4 ≤ 100 := hT.1 4
  have v5 : 0 ≤ σ.1 5 ∧ σ.1 5 ≤ 1000 := hT.1 5
  have v6 : 0 ≤ σ.1 6 ∧ σ.1 6 ≤ 30000 := hT.1 6
  have v7 : 0 ≤ σ.1 7 ∧ σ.1 7 ≤ 1500 := hT.1 7
  have v13 : 0 ≤ σ.1 13 ∧ σ.1 13 ≤ 90000 := hT.1 13
  have v14 : 0 ≤ σ.1 14 ∧ σ.1 14 ≤ 20000 := hT.1 14
  have v15 : 0 ≤ σ.1 15 ∧ σ.1 15 ≤ 20000 := hT.1 15
  have v45 : 1 ≤ σ.1 45 ∧ σ.1 45 ≤ 30001 := hT.1 45
  have v46 : 0 ≤ σ.1 46 ∧ σ.1 46 ≤ 1500 := hT.1 46
  have v48 : (-1) ≤ σ.1 48 ∧ σ.1 48 ≤ 999 := hT.1 48
  have v50 : 0 ≤ σ.1 50 ∧ σ.1 50 ≤ 59 := hT.1 50
  have v51 : 0 ≤ σ.1 51 ∧ σ.1 51 ≤ 1500 := hT.1 51
  have v53 : 0 ≤ σ.1 53 ∧ σ.1 53 ≤ 58 := hT.1 53
  have a77_53 : 0 ≤ σ.2.1 77 (σ.1 53) ∧ σ.2.1 77 (σ.1 53) ≤ 999 := hT.2 77 _
  have a78_53 : (-1) ≤ σ.2.1 78 (σ.1 53) ∧ σ.2.1 78 (σ.1 53) ≤ 1499 := hT.2 78 _
  have W4 : σ.1 4 = σ.1 4 := rfl
  have W5 : σ.1 5 = σ.1 5 := rfl
  have W6 : σ.1 6 = σ.1 6 := rfl
  have W7 : σ.1 7 = σ.1 7 := rfl
  have W13 : σ.1 13 = σ.1 13 := rfl
  have W14 : σ.1 14 = σ.1 14 := rfl
  have W15 : σ.1 15 = σ.1 15 := rfl
  have W45 : σ.1 45 = σ.1 45 := rfl
  have W46 : σ.1 46 = σ.1 46 := rfl
  have W48 : σ.1 48 = σ.1 48 := rfl
  have W50 : σ.1 50 = σ.1 50 := rfl
  have W51 : σ.1 51 = σ.1 51 := rfl
  have W53 : σ.1 53 = σ.1 53 := rfl
  have G10 : σ.2.1 10 = σ.2.1 10 := rfl
  have G11 : σ.2.1 11 = σ.2.1 11 := rfl
  have G13 : σ.2.1 13 = σ.2.1 13 := rfl
  have G14 : σ.2.1 14 = σ.2.1 14 := rfl
  have G15 : σ.2.1 15 = σ.2.1 15 := rfl
  have G16 : σ.2.1 16 = σ.2.1 16 := rfl
  have G27 : σ.2.1 27 = σ.2.1 27 := rfl
  have G28 : σ.2.1 28 = σ.2.1 28 := rfl
  have G29 : σ.2.1 29 = σ.2.1 29 := rfl
  have G30 : σ.2.1 30 = σ.2.1 30 := rfl
  have G31 : σ.2.1 31 = σ.2.1 31 := rfl
  have G32 : σ.2.1 32 = σ.2.1 32 := rfl
  have G33 : σ.2.1 33 = σ.2.1 33 := rfl
  have G34 : σ.2.1 34 = σ.2.1 34 := rfl
  have G35 : σ.2.1 35 = σ.2.1 35 := rfl
  have G36 : σ.2.1 36 = σ.2.1 36 := rfl
  have G37 : σ.2.1 37 = σ.2.1 37 := rfl
  have G67 : σ.2.1 67 = σ.2.1 67 := rfl
  have G68 : σ.2.1 68 = σ.2.1 68 := rfl
  have G69 : σ.2.1 69 = σ.2.1 69 := rfl
  have G70 : σ.2.1 70 = σ.2.1 70 := rfl
  have G73 : σ.2.1 73 = σ.2.1 73 := rfl
  have G74 : σ.2.1 74 = σ.2.1 74 := rfl
  have G75 : σ.2.1 75 = σ.2.1 75 := rfl
  have G76 : σ.2.1 76 = σ.2.1 76 := rfl
  have G77 : σ.2.1 77 = σ.2.1 77 := rfl
  have G78 : σ.2.1 78 = σ.2.1 78 := rfl
  intro P2 P175 P190 h2 h175 h190
  have ug := p2.1
  have tr := ug.1
  have ru := ug.2.1
  have un := ug.2.2.1
  have jts := fun f a b => (p1.1 f a b).1.1
  have rkt := fun f a b => (p1.1 f a b).1.2.1
  have s14 := A14
  have s15 := A15
  have l47 := p2.2.2
  have sr : ∀ r : Int, In r → 0 ≤ g_so (σ.1 48) (σ.2.1 14) (σ.2.1 15) (σ.2.1 10) r ∧ g_so (σ.1 48) (σ.2.1 14) (σ.2.1 15) (σ.2.1 10) r < σ.1 4 := fun r hr => by (have w := (ru.2.1 r hr).1; have rk := rkt r (by omega) (by omega); have jt := jts r (by omega) (by omega); rw [g_so_n (g_p1_x (ug.2.2.2.1 r hr).1 p2.2.1 (s15 _).1 (by omega))]; exact ⟨rk, (p6.2 _ (s15 _).1 (p7 (σ.2.1 14 r) (s14 _).1 (by omega))).1⟩)
  have hq := tr.2.2.2.2.2.2
  have kr : ∀ c : Int, 1 ≤ c → c < σ.1 45 → σ.2.1 69 c < 0 → -1 - σ.2.1 69 c < σ.1 4 := ug.2.2.2.2
  have kc : ∀ c : Int, 1 ≤ c → 0 ≤ par c → σ.2.1 69 c < 0 → -1 - σ.2.1 69 c < σ.1 4 := fun c a b z => kr c a (by (by_cases y : c < σ.1 45); exact y; have := hq c (by omega); omega) z
  have ui := g_ui ug (fun s => (A76 s).1)
  have uf := g_uf ug (fun s => (A76 s).1)
  have uc := g_uc ug (fun p => (s15 p).1)
  have ql : (0 ≤ σ.2.1 78 (σ.1 53) ∧ ¬ σ.2.1 15 (σ.2.1 14 (σ.2.1 78 (σ.1 53))) = (σ.1 48)) → 0 ≤ g_so (σ.1 48) (σ.2.1 14) (σ.2.1 15) (σ.2.1 10) (σ.2.1 78 (σ.1 53)) ∧ g_so (σ.1 48) (σ.2.1 14) (σ.2.1 15) (σ.2.1 10) (σ.2.1 78 (σ.1 53)) < σ.1 4 := fun z => by (have w := p8 (σ.1 53) (by omega) (by omega) z.1; have rk := rkt _ z.1 w; have jt := jts _ z.1 w; have t1 := s14 (σ.2.1 78 (σ.1 53) + 1); rw [g_so_n z.2]; exact ⟨rk, (p6.2 _ (s15 _).1 (p7 (σ.2.1 14 _) (s14 _).1 (by omega))).1⟩)
  have w0 : 0 ≤ σ.1 53 ∧ σ.1 53 ≤ 58 := by omega
  have w50 : σ.1 50 ≤ 59 := by omega
  have s77 := A77
  have TX : J_vs (σ.1 6) (σ.1 5) (σ.2.1 15) := p7
  have RKS : J_rks (σ.1 5) (σ.1 4) (σ.2.1 10) (σ.2.1 11) := p6
  have CJ : J_all (σ.1 7) (σ.1 6) (σ.1 13) (σ.1 14) (σ.1 15) (σ.2.1 13) (σ.2.1 14) (σ.2.1 15) (σ.2.1 16) (σ.2.1 10) (σ.2.1 27) (σ.2.1 28) (σ.2.1 29) (σ.2.1 30) (σ.2.1 31) (σ.2.1 32) (σ.2.1 33) (σ.2.1 34) (σ.2.1 35) (σ.2.1 36) (σ.2.1 37) := p1
  have CJ_0 := CJ
  have RKS_0 := RKS
  have TX_0 := TX
  have l_175 : ∀ (m_175 : Nat) (u1_175 : Int) (τ_175 : S0), 61 - u1_175 < (m_175 : Int) → (c_T τ_175) → (τ_175.1 4 = σ.1 4) → (τ_175.1 5 = σ.1 5) → (τ_175.1 6 = σ.1 6) → (τ_175.1 7 = σ.1 7) → (τ_175.1 13 = σ.1 13) → (τ_175.1 14 = σ.1 14) → (τ_175.1 15 = σ.1 15) → (τ_175.1 45 = σ.1 45) → (τ_175.1 46 = σ.1 46) → (τ_175.1 48 = σ.1 48) → (τ_175.1 50 = σ.1 50) → (τ_175.1 51 = σ.1 51) → (τ_175.1 53 = σ.1 53) → (τ_175.2.1 10 = σ.2.1 10) → (τ_175.2.1 11 = σ.2.1 11) → (τ_175.2.1 13 = σ.2.1 13) → (τ_175.2.1 14 = σ.2.1 14) → (τ_175.2.1 15 = σ.2.1 15) → (τ_175.2.1 16 = σ.2.1 16) → (τ_175.2.1 27 = σ.2.1 27) → (τ_175.2.1 28 = σ.2.1 28) → (τ_175.2.1 29 = σ.2.1 29) → (τ_175.2.1 30 = σ.2.1 30) → (τ_175.2.1 31 = σ.2.1 31) → (τ_175.2.1 32 = σ.2.1 32) → (τ_175.2.1 33 = σ.2.1 33) → (τ_175.2.1 34 = σ.2.1 34) → (τ_175.2.1 35 = σ.2.1 35) → (τ_175.2.1 36 = σ.2.1 36) → (τ_175.2.1 37 = σ.2.1 37) → (τ_175.2.1 67 = σ.2.1 67) → (τ_175.2.1 68 = σ.2.1 68) → (τ_175.2.1 69 = σ.2.1 69) → (τ_175.2.1 70 = σ.2.1 70) → (τ_175.2.1 73 = σ.2.1 73) → (τ_175.2.1 74 = σ.2.1 74) → (τ_175.2.1 75 = σ.2.1 75) → (τ_175.2.1 76 = σ.2.1 76) → (τ_175.2.1 77 = σ.2.1 77) → (τ_175.2.1 78 = σ.2.1 78) → ((σ.1 53) < u1_175 ∧ u1_175 ≤ (σ.1 50) + 1) → (g_pl (σ.1 45) (σ.1 50) (σ.1 4) (σ.1 51) (σ.1 53) u1_175 u1_175 0 (σ.1 46) True (0 ≤ σ.2.1 78 (σ.1 53) ∧ ¬ σ.2.1 15 (σ.2.1 14 (σ.2.1 78 (σ.1 53))) = (σ.1 48)) (σ.2.1 77) (σ.2.1 69) par (σ.2.1 70) nof (g_so (σ.1 48) (σ.2.1 14) (σ.2.1 15) (σ.2.1 10)) (σ.2.1 73) (σ.2.1 74) (σ.2.1 78) (σ.2.1 75) (σ.2.1 76) In (σ.2.2 4) (σ.2.2 5) (τ_175.2.2 4) (τ_175.2.2 5) (σ.2.1 79) (τ_175.2.1 79)) → (c_Rs τ_175 par nof In) → (τ_175.2.2 3 = σ.2.2 3) → P175 u1_175 τ_175 := by
    intro m_175
    induction m_175 with
    | zero =>
      intro u1_175 τ_175 hm hT W4 W5 W6 W7 W13 W14 W15 W45 W46 W48 W50 W51 W53 G10 G11 G13 G14 G15 G16 G27 G28 G29 G30 G31 G32 G33 G34 G35 G36 G37 G67 G68 G69 G70 G73 G74 G75 G76 G77 G78 i175_1 i175_2 i175_3 i175_4
      have A10 : ∀ j, (-1) ≤ τ_175.2.1 10 j ∧ τ_175.2.1 10 j ≤ 99 := fun j => hT.2 10 j
      have A11 : ∀ j, 0 ≤ τ_175.2.1 11 j ∧ τ_175.2.1 11 j ≤ 999 := fun j => hT.2 11 j
      have A13 : ∀ j, 0 ≤ τ_175.2.1 13 j ∧ τ_175.2.1 13 j ≤ 4 := fun j => hT.2 13 j
      have A14 : ∀ j, 0 ≤ τ_175.2.1 14 j ∧ τ_175.2.1 14 j ≤ 30000 := fun j => hT.2 14 j
      have A15 : ∀ j, 0 ≤ τ_175.2.1 15 j ∧ τ_175.2.1 15 j ≤ 999 := fun j => hT.2 15 j
      have A16 : ∀ j, (-1) ≤ τ_175.2.1 16 j ∧ τ_175.2.1 16 j ≤ 1499 := fun j => hT.2 16 j
      have A27 : ∀ j, 0 ≤ τ_175.2.1 27 j ∧ τ_175.2.1 27 j ≤ 90000 := fun j => hT.2 27 j
      have A28 : ∀ j, 0 ≤ τ_175.2.1 28 j ∧ τ_175.2.1 28 j ≤ 60 := fun j => hT.2 28 j
      have A29 : ∀ j, 0 ≤ τ_175.2.1 29 j ∧ τ_175.2.1 29 j ≤ 1499 := fun j => hT.2 29 j
      have A30 : ∀ j, 0 ≤ τ_175.2.1 30 j ∧ τ_175.2.1 30 j ≤ 20000 := fun j => hT.2 30 j
      have A31 : ∀ j, 0 ≤ τ_175.2.1 31 j ∧ τ_175.2.1 31 j ≤ 20000 := fun j => hT.2 31 j
      have A32 : ∀ j, 0 ≤ τ_175.2.1 32 j ∧ τ_175.2.1 32 j ≤ 999999 := fun j => hT.2 32 j
      have A33 : ∀ j, 0 ≤ τ_175.2.1 33 j ∧ τ_175.2.1 33 j ≤ 20000 := fun j => hT.2 33 j
      have A34 : ∀ j, 0 ≤ τ_175.2.1 34 j ∧ τ_175.2.1 34 j ≤ 20000 := fun j => hT.2 34 j
      have A35 : ∀ j, 0 ≤ τ_175.2.1 35 j ∧ τ_175.2.1 35 j ≤ 1499 := fun j => hT.2 35 j
      have A36 : ∀ j, 0 ≤ τ_175.2.1 36 j ∧ τ_175.2.1 36 j ≤ 20000 := fun j => hT.2 36 j
      have A37 : ∀ j, 0 ≤ τ_175.2.1 37 j ∧ τ_175.2.1 37 j ≤ 19999 := fun j => hT.2 37 j
      have A67 : ∀ j, 0 ≤ τ_175.2.1 67 j ∧ τ_175.2.1 67 j ≤ 30000 := fun j => hT.2 67 j
      have A68 : ∀ j, 0 ≤ τ_175.2.1 68 j ∧ τ_175.2.1 68 j ≤ 30000 := fun j => hT.2 68 j
      have A69 : ∀ j, (-100) ≤ τ_175.2.1 69 j ∧ τ_175.2.1 69 j ≤ 999 := fun j => hT.2 69 j
      have A70 : ∀ j, 0 ≤ τ_175.2.1 70 j ∧ τ_175.2.1 70 j ≤ 1499 := fun j => hT.2 70 j
      have A73 : ∀ j, 0 ≤ τ_175.2.1 73 j ∧ τ_175.2.1 73 j ≤ 30000 := fun j => hT.2 73 j
      have A74 : ∀ j, 0 ≤ τ_175.2.1 74 j ∧ τ_175.2.1 74 j ≤ 30000 := fun j => hT.2 74 j
      have A75 : ∀ j, 0 ≤ τ_175.2.1 75 j ∧ τ_175.2.1 75 j ≤ 1499 := fun j => hT.2 75 j
      have A76 : ∀ j, 0 ≤ τ_175.2.1 76 j ∧ τ_175.2.1 76 j ≤ 99 := fun j => hT.2 76 j
      have A77 : ∀ j, 0 ≤ τ_175.2.1 77 j ∧ τ_175.2.1 77 j ≤ 999 := fun j => hT.2 77 j
      have A78 : ∀ j, (-1) ≤ τ_175.2.1 78 j ∧ τ_175.2.1 78 j ≤ 1499 := fun j => hT.2 78 j
      have A79 : ∀ j, 0 ≤ τ_175.2.1 79 j ∧ τ_175.2.1 79 j ≤ 1499 := fun j => hT.2 79 j
      have v4 : 0 ≤ τ_175.1 4 ∧ τ_175.1 4 ≤ 100 := hT.1 4
      have v5 : 0 ≤ τ_175.1 5 ∧ τ_175.1 5 ≤ 1000 := hT.1 5
      have v6 : 0 ≤ τ_175.1 6 ∧ τ_175.1 6 ≤ 30000 := hT.1 6
      have v7 : 0 ≤ τ_175.1 7 ∧ τ_175.1 7 ≤ 1500 := hT.1 7
      have v13 : 0 ≤ τ_175.1 13 ∧ τ_175.1 13 ≤ 90000 := hT.1 13
      have v14 : 0 ≤ τ_175.1 14 ∧ τ_175.1 14 ≤ 20000 := hT.1 14
      have v15 : 0 ≤ τ_175.1 15 ∧ τ_175.1 15 ≤ 20000 := hT.1 15
      have v45 : 1 ≤ τ_175.1 45 ∧ τ_175.1 45 ≤ 30001 := hT.1 45
      have v46 : 0 ≤ τ_175.1 46 ∧ τ_175.1 46 ≤ 1500 := hT.1 46
      have v48 : (-1) ≤ τ_175.1 48 ∧ τ_175.1 48 ≤ 999 := hT.1 48
      have v50 : 0 ≤ τ_175.1 50 ∧ τ_175.1 50 ≤ 59 := hT.1 50
      have v51 : 0 ≤ τ_175.1 51 ∧ τ_175.1 51 ≤ 1500 := hT.1 51
      have v53 : 0 ≤ τ_175.1 53 ∧ τ_175.1 53 ≤ 58 := hT.1 53
      have a77_53 : 0 ≤ τ_175.2.1 77 (τ_175.1 53) ∧ τ_175.2.1 77 (τ_175.1 53) ≤ 999 := hT.2 77 _
      have a78_53 : (-1) ≤ τ_175.2.1 78 (τ_175.1 53) ∧ τ_175.2.1 78 (τ_175.1 53) ≤ 1499 := hT.2 78 _
      exfalso; (first | omega | (simp only [st_s] <;> omega) | assumption | omega | fail)
    | succ m_175 ih_175 =>
      intro u1_175 τ_175 hm_175 hT W4 W5 W6 W7 W13 W14 W15 W45 W46 W48 W50 W51 W53 G10 G11 G13 G14 G15 G16 G27 G28 G29 G30 G31 G32 G33 G34 G35 G36 G37 G67 G68 G69 G70 G73 G74 G75 G76 G77 G78 i175_1 i175_2 i175_3 i175_4
      have A10 : ∀ j, (-1) ≤ τ_175.2.1 10 j ∧ τ_175.2.1 10 j ≤ 99 := fun j => hT.2 10 j
      have A11 : ∀ j, 0 ≤ τ_175.2.1 11 j ∧ τ_175.2.1 11 j ≤ 999 := fun j => hT.2 11 j
      have A13 : ∀ j, 0 ≤ τ_175.2.1 13 j ∧ τ_175.2.1 13 j ≤ 4 := fun j => hT.2 13 j
      have A14 : ∀ j, 0 ≤ τ_175.2.1 14 j ∧ τ_175.2.1 14 j ≤ 30000 := fun j => hT.2 14 j
      have A15 : ∀ j, 0 ≤ τ_175.2.1 15 j ∧ τ_175.2.1 15 j ≤ 999 := fun j => hT.2 15 j
      have A16 : ∀ j, (-1) ≤ τ_175.2.1 16 j ∧ τ_175.2.1 16 j ≤ 1499 := fun j => hT.2 16 j
      have A27 : ∀ j, 0 ≤ τ_175.2.1 27 j ∧ τ_175.2.1 27 j ≤ 90000 := fun j => hT.2 27 j
      have A28 : ∀ j, 0 ≤ τ_175.2.1 28 j ∧ τ_175.2.1 28 j ≤ 60 := fun j => hT.2 28 j
      have A29 : ∀ j, 0 ≤ τ_175.2.1 29 j ∧ τ_175.2.1 29 j ≤ 1499 := fun j => hT.2 29 j
      have A30 : ∀ j, 0 ≤ τ_175.2.1 30 j ∧ τ_175.2.1 30 j ≤ 20000 := fun j => hT.2 30 j
      have A31 : ∀ j, 0 ≤ τ_175.2.1 31 j ∧ τ_175.2.1 31 j ≤ 20000 := fun j => hT.2 31 j
      have A32 : ∀ j, 0 ≤ τ_175.2.1 32 j ∧ τ_175.2.1 32 j ≤ 999999 := fun j => hT.2 32 j
      have A33 : ∀ j, 0 ≤ τ_175.2.1 33 j ∧ τ_175.2.1 33 j ≤ 20000 := fun j => hT.2 33 j
      have A34 : ∀ j, 0 ≤ τ_175.2.1 34 j ∧ τ_175.2.1 34 j ≤ 20000 := fun j => hT.2 34 j
      have A35 : ∀ j, 0 ≤ τ_175.2.1 35 j ∧ τ_175.2.1 35 j ≤ 1499 := fun j => hT.2 35 j
      have A36 : ∀ j, 0 ≤ τ_175.2.1 36 j ∧ τ_175.2.1 36 j ≤ 20000 := fun j => hT.2 36 j
      have A37 : ∀ j, 0 ≤ τ_175.2.1 37 j ∧ τ_175.2.1 37 j ≤ 19999 := fun j => hT.2 37 j
      have A67 : ∀ j, 0 ≤ τ_175.2.1 67 j ∧ τ_175.2.1 67 j ≤ 30000 := fun j => hT.2 67 j
      have A68 : ∀ j, 0 ≤ τ_175.2.1 68 j ∧ τ_175.2.1 68 j ≤ 30000 := fun j => hT.2 68 j
      have A69 : ∀ j, (-100) ≤ τ_175.2.1 69 j ∧ τ_175.2.1 69 j ≤ 999 := fun j => hT.2 69 j
      have A70 : ∀ j, 0 ≤ τ_175.2.1 70 j ∧ τ_175.2.1 70 j ≤ 1499 := fun j => hT.2 70 j
      have A73 : ∀ j, 0 ≤ τ_175.2.1 73 j ∧ τ_175.2.1 73 j ≤ 30000 := fun j => hT.2 73 j
      have A74 : ∀ j, 0 ≤ τ_175.2.1 74 j ∧ τ_175.2.1 74 j ≤ 30000 := fun j => hT.2 74 j
      have A75 : ∀ j, 0 ≤ τ_175.2.1 75 j ∧ τ_175.2.1 75 j ≤ 1499 := fun j => hT.2 75 j
      have A76 : ∀ j, 0 ≤ τ_175.2.1 76 j ∧ τ_175.2.1 76 j ≤ 99 := fun j => hT.2 76 j
      have A77 : ∀ j, 0 ≤ τ_175.2.1 77 j ∧ τ_175.2.1 77 j ≤ 999 := fun j => hT.2 77 j
      have A78 : ∀ j, (-1) ≤ τ_175.2.1 78 j ∧ τ_175.2.1 78 j ≤ 1499 := fun j => hT.2 78 j
      have A79 : ∀ j, 0 ≤ τ_175.2.1 79 j ∧ τ_175.2.1 79 j ≤ 1499 := fun j => hT.2 79 j
      have v4 : 0 ≤ τ_175.1 4 ∧ τ_175.1 4 ≤ 100 := hT.1 4
      have v5 : 0 ≤ τ_175.1 5 ∧ τ_175.1 5 ≤ 1000 := hT.1 5
      have v6 : 0 ≤ τ_175.1 6 ∧ τ_175.1 6 ≤ 30000 := hT.1 6
      have v7 : 0 ≤ τ_175.1 7 ∧ τ_175.1 7 ≤ 1500 := hT.1 7
      have v13 : 0 ≤ τ_175.1 13 ∧ τ_175.1 13 ≤ 90000 := hT.1 13
      have v14 : 0 ≤ τ_175.1 14 ∧ τ_175.1 14 ≤ 20000 := hT.1 14
      have v15 : 0 ≤ τ_175.1 15 ∧ τ_175.1 15 ≤ 20000 := hT.1 15
      have v45 : 1 ≤ τ_175.1 45 ∧ τ_175.1 45 ≤ 30001 := hT.1 45
      have v46 : 0 ≤ τ_175.1 46 ∧ τ_175.1 46 ≤ 1500 := hT.1 46
      have v48 : (-1) ≤ τ_175.1 48 ∧ τ_175.1 48 ≤ 999 := hT.1 48
      have v50 : 0 ≤ τ_175.1 50 ∧ τ_175.1 50 ≤ 59 := hT.1 50
      have v51 : 0 ≤ τ_175.1 51 ∧ τ_175.1 51 ≤ 1500 := hT.1 51
      have v53 : 0 ≤ τ_175.1 53 ∧ τ_175.1 53 ≤ 58 := hT.1 53
      have a77_53 : 0 ≤ τ_175.2.1 77 (τ_175.1 53) ∧ τ_175.2.1 77 (τ_175.1 53) ≤ 999 := hT.2 77 _
      have a78_53 : (-1) ≤ τ_175.2.1 78 (τ_175.1 53) ∧ τ_175.2.1 78 (τ_175.1 53) ≤ 1499 := hT.2 78 _
      have y77_53_τ_175 : τ_175.2.1 77 (τ_175.1 53) = σ.2.1 77 (σ.1 53) := by rw [G77, W53]
      have y78_53_τ_175 : τ_175.2.1 78 (τ_175.1 53) = σ.2.1 78 (σ.1 53) := by rw [G78, W53]
      have TX : J_vs (τ_175.1 6) (τ_175.1 5) (τ_175.2.1 15) := by rw [show (J_vs (τ_175.1 6) (τ_175.1 5) (τ_175.2.1 15)) = (J_vs (σ.1 6) (σ.1 5) (σ.2.1 15)) from by rw [W5, W6, G15]]; exact TX_0
      have RKS : J_rks (τ_175.1 5) (τ_175.1 4) (τ_175.2.1 10) (τ_175.2.1 11) := by rw [show (J_rks (τ_175.1 5) (τ_175.1 4) (τ_175.2.1 10) (τ_175.2.1 11)) = (J_rks (σ.1 5) (σ.1 4) (σ.2.1 10) (σ.2.1 11)) from by rw [W4, W5, G10, G11]]; exact RKS_0
      have CJ : J_all (τ_175.1 7) (τ_175.1 6) (τ_175.1 13) (τ_175.1 14) (τ_175.1 15) (τ_175.2.1 13) (τ_175.2.1 14) (τ_175.2.1 15) (τ_175.2.1 16) (τ_175.2.1 10) (τ_175.2.1 27) (τ_175.2.1 28) (τ_175.2.1 29) (τ_175.2.1 30) (τ_175.2.1 31) (τ_175.2.1 32) (τ_175.2.1 33) (τ_175.2.1 34) (τ_175.2.1 35) (τ_175.2.1 36) (τ_175.2.1 37) := by rw [show (J_all (τ_175.1 7) (τ_175.1 6) (τ_175.1 13) (τ_175.1 14) (τ_175.1 15) (τ_175.2.1 13) (τ_175.2.1 14) (τ_175.2.1 15) (τ_175.2.1 16) (τ_175.2.1 10) (τ_175.2.1 27) (τ_175.2.1 28) (τ_175.2.1 29) (τ_175.2.1 30) (τ_175.2.1 31) (τ_175.2.1 32) (τ_175.2.1 33) (τ_175.2.1 34) (τ_175.2.1 35) (τ_175.2.1 36) (τ_175.2.1 37)) = (J_all (σ.1 7) (σ.1 6) (σ.1 13) (σ.1 14) (σ.1 15) (σ.2.1 13) (σ.2.1 14) (σ.2.1 15) (σ.2.1 16) (σ.2.1 10) (σ.2.1 27) (σ.2.1 28) (σ.2.1 29) (σ.2.1 30) (σ.2.1 31) (σ.2.1 32) (σ.2.1 33) (σ.2.1 34) (σ.2.1 35) (σ.2.1 36) (σ.2.1 37)) from by rw [W6, W7, W13, W14, W15, G10, G13, G14, G15, G16, G27, G28, G29, G30, G31, G32, G33, G34, G35, G36, G37]]; exact CJ_0
      have l_190 : ∀ (m_190 : Nat) (u1_190 : Int) (u2_190 : Int) (τ_190 : S0), 101 - u2_190 < (m_190 : Int) → (c_T τ_190) → (τ_190.1 4 = σ.1 4) → (τ_190.1 5 = σ.1 5) → (τ_190.1 6 = σ.1 6) → (τ_190.1 7 = σ.1 7) → (τ_190.1 13 = σ.1 13) → (τ_190.1 14 = σ.1 14) → (τ_190.1 15 = σ.1 15) → (τ_190.1 45 = σ.1 45) → (τ_190.1 46 = σ.1 46) → (τ_190.1 48 = σ.1 48) → (τ_190.1 50 = σ.1 50) → (τ_190.1 51 = σ.1 51) → (τ_190.1 53 = σ.1 53) → (τ_190.2.1 10 = σ.2.1 10) → (τ_190.2.1 11 = σ.2.1 11) → (τ_190.2.1 13 = σ.2.1 13) → (τ_190.2.1 14 = σ.2.1 14) → (τ_190.2.1 15 = σ.2.1 15) → (τ_190.2.1 16 = σ.2.1 16) → (τ_190.2.1 27 = σ.2.1 27) → (τ_190.2.1 28 = σ.2.1 28) → (τ_190.2.1 29 = σ.2.1 29) → (τ_190.2.1 30 = σ.2.1 30) → (τ_190.2.1 31 = σ.2.1 31) → (τ_190.2.1 32 = σ.2.1 32) → (τ_190.2.1 33 = σ.2.1 33) → (τ_190.2.1 34 = σ.2.1 34) → (τ_190.2.1 35 = σ.2.1 35) → (τ_190.2.1 36 = σ.2.1 36) → (τ_190.2.1 37 = σ.2.1 37) → (τ_190.2.1 67 = σ.2.1 67) → (τ_190.2.1 68 = σ.2.1 68) → (τ_190.2.1 69 = σ.2.1 69) → (τ_190.2.1 70 = σ.2.1 70) → (τ_190.2.1 73 = σ.2.1 73) → (τ_190.2.1 74 = σ.2.1 74) → (τ_190.2.1 75 = σ.2.1 75) → (τ_190.2.1 76 = σ.2.1 76) → (τ_190.2.1 77 = σ.2.1 77) → (τ_190.2.1 78 = σ.2.1 78) → ((σ.1 53) < u1_190 ∧ u1_190 ≤ (σ.1 50)) → (0 ≤ u2_190 ∧ u2_190 ≤ 100) → (g_pl (σ.1 45) (σ.1 50) (σ.1 4) (σ.1 51) (σ.1 53) (u1_190 + 1) u1_190 u2_190 (σ.1 46) True (0 ≤ σ.2.1 78 (σ.1 53) ∧ ¬ σ.2.1 15 (σ.2.1 14 (σ.2.1 78 (σ.1 53))) = (σ.1 48)) (σ.2.1 77) (σ.2.1 69) par (σ.2.1 70) nof (g_so (σ.1 48) (σ.2.1 14) (σ.2.1 15) (σ.2.1 10)) (σ.2.1 73) (σ.2.1 74) (σ.2.1 78) (σ.2.1 75) (σ.2.1 76) In (σ.2.2 4) (σ.2.2 5) (τ_190.2.2 4) (τ_190.2.2 5) (σ.2.1 79) (τ_190.2.1 79)) → (c_Rs τ_190 par nof In) → (τ_190.2.2 3 = σ.2.2 3) → (u1_190 + (m_175 : Int) ≥ 61) → P190 u1_190 u2_190 τ_190 := by
        intro m_190
        induction m_190 with
        | zero =>
          intro u1_190 u2_190 τ_190 hm hT W4 W5 W6 W7 W13 W14 W15 W45 W46 W48 W50 W51 W53 G10 G11 G13 G14 G15 G16 G27 G28 G29 G30 G31 G32 G33 G34 G35 G36 G37 G67 G68 G69 G70 G73 G74 G75 G76 G77 G78 i190_1 i190_2 i190_3 i190_4 i190_5 i190_6
          have A10 : ∀ j, (-1) ≤ τ_190.2.1 10 j ∧ τ_190.2.1 10 j ≤ 99 := fun j => hT.2 10 j
          have A11 : ∀ j, 0 ≤ τ_190.2.1 11 j ∧ τ_190.2.1 11 j ≤ 999 := fun j => hT.2 11 j
          have A13 : ∀ j, 0 ≤ τ_190.2.1 13 j ∧ τ_190.2.1 13 j ≤ 4 := fun j => hT.2 13 j
          have A14 : ∀ j, 0 ≤ τ_190.2.1 14 j ∧ τ_190.2.1 14 j ≤ 30000 := fun j => hT.2 14 j
          have A15 : ∀ j, 0 ≤ τ_190.2.1 15 j ∧ τ_190.2.1 15 j ≤ 999 := fun j => hT.2 15 j
          have A16 : ∀ j, (-1) ≤ τ_190.2.1 16 j ∧ τ_190.2.1 16 j ≤ 1499 := fun j => hT.2 16 j
          have A27 : ∀ j, 0 ≤ τ_190.2.1 27 j ∧ τ_190.2.1 27 j ≤ 90000 := fun j => hT.2 27 j
          have A28 : ∀ j, 0 ≤ τ_190.2.1 28 j ∧ τ_190.2.1 28 j ≤ 60 := fun j => hT.2 28 j
          have A29 : ∀ j, 0 ≤ τ_190.2.1 29 j ∧ τ_190.2.1 29 j ≤ 1499 := fun j => hT.2 29 j
          have A30 : ∀ j, 0 ≤ τ_190.2.1 30 j ∧ τ_190.2.1 30 j ≤ 20000 := fun j => hT.2 30 j
          have A31 : ∀ j, 0 ≤ τ_190.2.1 31 j ∧ τ_190.2.1 31 j ≤ 20000 := fun j => hT.2 31 j
          have A32 : ∀ j, 0 ≤ τ_190.2.1 32 j ∧ τ_190.2.1 32 j ≤ 999999 := fun j => hT.2 32 j
          have A33 : ∀ j, 0 ≤ τ_190.2.1 33 j ∧ τ_190.2.1 33 j ≤ 20000 := fun j => hT.2 33 j
          have A34 : ∀ j, 0 ≤ τ_190.2.1 34 j ∧ τ_190.2.1 34 j ≤ 20000 := fun j => hT.2 34 j
          have A35 : ∀ j, 0 ≤ τ_190.2.1 35 j ∧ τ_190.2.1 35 j ≤ 1499 := fun j => hT.2 35 j
          have A36 : ∀ j, 0 ≤ τ_190.2.1 36 j ∧ τ_190.2.1 36 j ≤ 20000 := fun j => hT.2 36 j
          have A37 : ∀ j, 0 ≤ τ_190.2.1 37 j ∧ τ_190.2.1 37 j ≤ 19999 := fun j => hT.2 37 j
          have A67 : ∀ j, 0 ≤ τ_190.2.1 67 j ∧ τ_190.2.1 67 j ≤ 30000 := fun j => hT.2 67 j
          have A68 : ∀ j, 0 ≤ τ_190.2.1 68 j ∧ τ_190.2.1 68 j ≤ 30000 := fun j => hT.2 68 j
          have A69 : ∀ j, (-100) ≤ τ_190.2.1 69 j ∧ τ_190.2.1 69 j ≤ 999 := fun j => hT.2 69 j
          have A70 : ∀ j, 0 ≤ τ_190.2.1 70 j ∧ τ_190.2.1 70 j ≤ 1499 := fun j => hT.2 70 j
          have A73 : ∀ j, 0 ≤ τ_190.2.1 73 j ∧ τ_190.2.1 73 j ≤ 30000 := fun j => hT.2 73 j
          have A74 : ∀ j, 0 ≤ τ_190.2.1 74 j ∧ τ_190.2.1 74 j ≤ 30000 := fun j => hT.2 74 j
          have A75 : ∀ j, 0 ≤ τ_190.2.1 75 j ∧ τ_190.2.1 75 j ≤ 1499 := fun j => hT.2 75 j
          have A76 : ∀ j, 0 ≤ τ_190.2.1 76 j ∧ τ_190.2.1 76 j ≤ 99 := fun j => hT.2 76 j
          have A77 : ∀ j, 0 ≤ τ_190.2.1 77 j ∧ τ_190.2.1 77 j ≤ 999 := fun j => hT.2 77 j
          have A78 : ∀ j, (-1) ≤ τ_190.2.1 78 j ∧ τ_190.2.1 78 j ≤ 1499 := fun j => hT.2 78 j
          have A79 : ∀ j, 0 ≤ τ_190.2.1 79 j ∧ τ_190.2.1 79 j ≤ 1499 := fun j => hT.2 79 j
          have v4 : 0 ≤ τ_190.1 4 ∧ τ_190.1 4 ≤ 100 := hT.1 4
          have v5 : 0 ≤ τ_190.1 5 ∧ τ_190.1 5 ≤ 1000 := hT.1 5
          have v6 : 0 ≤ τ_190.1 6 ∧ τ_190.1 6 ≤ 30000 := hT.1 6
          have v7 : 0 ≤ τ_190.1 7 ∧ τ_190.1 7 ≤ 1500 := hT.1 7
          have v13 : 0 ≤ τ_190.1 13 ∧ τ_190.1 13 ≤ 90000 := hT.1 13
          have v14 : 0 ≤ τ_190.1 14 ∧ τ_190.1 14 ≤ 20000 := hT.1 14
          have v15 : 0 ≤ τ_190.1 15 ∧ τ_190.1 15 ≤ 20000 := hT.1 15
          have v45 : 1 ≤ τ_190.1 45 ∧ τ_190.1 45 ≤ 30001 := hT.1 45
          have v46 : 0 ≤ τ_190.1 46 ∧ τ_190.1 46 ≤ 1500 := hT.1 46
          have v48 : (-1) ≤ τ_190.1 48 ∧ τ_190.1 48 ≤ 999 := hT.1 48
          have v50 : 0 ≤ τ_190.1 50 ∧ τ_190.1 50 ≤ 59 := hT.1 50
          have v51 : 0 ≤ τ_190.1 51 ∧ τ_190.1 51 ≤ 1500 := hT.1 51
          have v53 : 0 ≤ τ_190.1 53 ∧ τ_190.1 53 ≤ 58 := hT.1 53
          have a77_53 : 0 ≤ τ_190.2.1 77 (τ_190.1 53) ∧ τ_190.2.1 77 (τ_190.1 53) ≤ 999 := hT.2 77 _
          have a78_53 : (-1) ≤ τ_190.2.1 78 (τ_190.1 53) ∧ τ_190.2.1 78 (τ_190.1 53) ≤ 1499 := hT.2 78 _
          exfalso; (first | omega | (simp only [st_s] <;> omega) | assumption | omega | fail)
        | succ m_190 ih_190 =>
          intro u1_190 u2_190 τ_190 hm_190 hT W4 W5 W6 W7 W13 W14 W15 W45 W46 W48 W50 W51 W53 G10 G11 G13 G14 G15 G16 G27 G28 G29 G30 G31 G32 G33 G34 G35 G36 G37 G67 G68 G69 G70 G73 G74 G75 G76 G77 G78 i190_1 i190_2 i190_3 i190_4 i190_5 i190_6
          have A10 : ∀ j, (-1) ≤ τ_190.2.1 10 j ∧ τ_190.2.1 10 j ≤ 99 := fun j => hT.2 10 j
          have A11 : ∀ j, 0 ≤ τ_190.2.1 11 j ∧ τ_190.2.1 11 j ≤ 999 := fun j => hT.2 11 j
          have A13 : ∀ j, 0 ≤ τ_190.2.1 13 j ∧ τ_190.2.1 13 j ≤ 4 := fun j => hT.2 13 j
          have A14 : ∀ j, 0 ≤ τ_190.2.1 14 j ∧ τ_190.2.1 14 j ≤ 30000 := fun j => hT.2 14 j
          have A15 : ∀ j, 0 ≤ τ_190.2.1 15 j ∧ τ_190.2.1 15 j ≤ 999 := fun j => hT.2 15 j
          have A16 : ∀ j, (-1) ≤ τ_190.2.1 16 j ∧ τ_190.2.1 16 j ≤ 1499 := fun j => hT.2 16 j
          have A27 : ∀ j, 0 ≤ τ_190.2.1 27 j ∧ τ_190.2.1 27 j ≤ 90000 := fun j => hT.2 27 j
          have A28 : ∀ j, 0 ≤ τ_190.2.1 28 j ∧ τ_190.2.1 28 j ≤ 60 := fun j => hT.2 28 j
          have A29 : ∀ j, 0 ≤ τ_190.2.1 29 j ∧ τ_190.2.1 29 j ≤ 1499 := fun j => hT.2 29 j
          have A30 : ∀ j, 0 ≤ τ_190.2.1 30 j ∧ τ_190.2.1 30 j ≤ 20000 := fun j => hT.2 30 j
          have A31 : ∀ j, 0 ≤ τ_190.2.1 31 j ∧ τ_190.2.1 31 j ≤ 20000 := fun j => hT.2 31 j
          have A32 : ∀ j, 0 ≤ τ_190.2.1 32 j ∧ τ_190.2.1 32 j ≤ 999999 := fun j => hT.2 32 j
          have A33 : ∀ j, 0 ≤ τ_190.2.1 33 j ∧ τ_190.2.1 33 j ≤ 20000 := fun j => hT.2 33 j
          have A34 : ∀ j, 0 ≤ τ_190.2.1 34 j ∧ τ_190.2.1 34 j ≤ 20000 := fun j => hT.2 34 j
          have A35 : ∀ j, 0 ≤ τ_190.2.1 35 j ∧ τ_190.2.1 35 j ≤ 1499 := fun j => hT.2 35 j
          have A36 : ∀ j, 0 ≤ τ_190.2.1 36 j ∧ τ_190.2.1 36 j ≤ 20000 := fun j => hT.2 36 j
          have A37 : ∀ j, 0 ≤ τ_190.2.1 37 j ∧ τ_190.2.1 37 j ≤ 19999 := fun j => hT.2 37 j
          have A67 : ∀ j, 0 ≤ τ_190.2.1 67 j ∧ τ_190.2.1 67 j ≤ 30000 := fun j => hT.2 67 j
          have A68 : ∀ j, 0 ≤ τ_190.2.1 68 j ∧ τ_190.2.1 68 j ≤ 30000 := fun j => hT.2 68 j
          have A69 : ∀ j, (-100) ≤ τ_190.2.1 69 j ∧ τ_190.2.1 69 j ≤ 999 := fun j => hT.2 69 j
          have A70 : ∀ j, 0 ≤ τ_190.2.1 70 j ∧ τ_190.2.1 70 j ≤ 1499 := fun j => hT.2 70 j
          have A73 : ∀ j, 0 ≤ τ_190.2.1 73 j ∧ τ_190.2.1 73 j ≤ 30000 := fun j => hT.2 73 j
          have A74 : ∀ j, 0 ≤ τ_190.2.1 74 j ∧ τ_190.2.1 74 j ≤ 30000 := fun j => hT.2 74 j
          have A75 : ∀ j, 0 ≤ τ_190.2.1 75 j ∧ τ_190.2.1 75 j ≤ 1499 := fun j => hT.2 75 j
          have A76 : ∀ j, 0 ≤ τ_190.2.1 76 j ∧ τ_190.2.1 76 j ≤ 99 := fun j => hT.2 76 j
          have A77 : ∀ j, 0 ≤ τ_190.2.1 77 j ∧ τ_190.2.1 77 j ≤ 999 := fun j => hT.2 77 j
          have A78 : ∀ j, (-1) ≤ τ_190.2.1 78 j ∧ τ_190.2.1 78 j ≤ 1499 := fun j => hT.2 78 j
          have A79 : ∀ j, 0 ≤ τ_190.2.1 79 j ∧ τ_190.2.1 79 j ≤ 1499 := fun j => hT.2 79 j
          have v4 : 0 ≤ τ_190.1 4 ∧ τ_190.1 4 ≤ 100 := hT.1 4
          have v5 : 0 ≤ τ_190.1 5 ∧ τ_190.1 5 ≤ 1000 := hT.1 5
          have v6 : 0 ≤ τ_190.1 6 ∧ τ_190.1 6 ≤ 30000 := hT.1 6
          have v7 : 0 ≤ τ_190.1 7 ∧ τ_190.1 7 ≤ 1500 := hT.1 7
          have v13 : 0 ≤ τ_190.1 13 ∧ τ_190.1 13 ≤ 90000 := hT.1 13
          have v14 : 0 ≤ τ_190.1 14 ∧ τ_190.1 14 ≤ 20000 := hT.1 14
          have v15 : 0 ≤ τ_190.1 15 ∧ τ_190.1 15 ≤ 20000 := hT.1 15
          have v45 : 1 ≤ τ_190.1 45 ∧ τ_190.1 45 ≤ 30001 := hT.1 45
          have v46 : 0 ≤ τ_190.1 46 ∧ τ_190.1 46 ≤ 1500 := hT.1 46
          have v48 : (-1) ≤ τ_190.1 48 ∧ τ_190.1 48 ≤ 999 := hT.1 48
          have v50 : 0 ≤ τ_190.1 50 ∧ τ_190.1 50 ≤ 59 := hT.1 50
          have v51 : 0 ≤ τ_190.1 51 ∧ τ_190.1 51 ≤ 1500 := hT.1 51
          have v53 : 0 ≤ τ_190.1 53 ∧ τ_190.1 53 ≤ 58 := hT.1 53
          have a77_53 : 0 ≤ τ_190.2.1 77 (τ_190.1 53) ∧ τ_190.2.1 77 (τ_190.1 53) ≤ 999 := hT.2 77 _
          have a78_53 : (-1) ≤ τ_190.2.1 78 (τ_190.1 53) ∧ τ_190.2.1 78 (τ_190.1 53) ≤ 1499 := hT.2 78 _
          have y77_53_τ_190 : τ_190.2.1 77 (τ_190.1 53) = σ.2.1 77 (σ.1 53) := by rw [G77, W53]
          have y78_53_τ_190 : τ_190.2.1 78 (τ_190.1 53) = σ.2.1 78 (σ.1 53) := by rw [G78, W53]
          have TX : J_vs (τ_190.1 6) (τ_190.1 5) (τ_190.2.1 15) := by rw [show (J_vs (τ_190.1 6) (τ_190.1 5) (τ_190.2.1 15)) = (J_vs (σ.1 6) (σ.1 5) (σ.2.1 15)) from by rw [W5, W6, G15]]; exact TX_0
          have RKS : J_rks (τ_190.1 5) (τ_190.1 4) (τ_190.2.1 10) (τ_190.2.1 11) := by rw [show (J_rks (τ_190.1 5) (τ_190.1 4) (τ_190.2.1 10) (τ_190.2.1 11)) = (J_rks (σ.1 5) (σ.1 4) (σ.2.1 10) (σ.2.1 11)) from by rw [W4, W5, G10, G11]]; exact RKS_0
          have CJ : J_all (τ_190.1 7) (τ_190.1 6) (τ_190.1 13) (τ_190.1 14) (τ_190.1 15) (τ_190.2.1 13) (τ_190.2.1 14) (τ_190.2.1 15) (τ_190.2.1 16) (τ_190.2.1 10) (τ_190.2.1 27) (τ_190.2.1 28) (τ_190.2.1 29) (τ_190.2.1 30) (τ_190.2.1 31) (τ_190.2.1 32) (τ_190.2.1 33) (τ_190.2.1 34) (τ_190.2.1 35) (τ_190.2.1 36) (τ_190.2.1 37) := by rw [show (J_all (τ_190.1 7) (τ_190.1 6) (τ_190.1 13) (τ_190.1 14) (τ_190.1 15) (τ_190.2.1 13) (τ_190.2.1 14) (τ_190.2.1 15) (τ_190.2.1 16) (τ_190.2.1 10) (τ_190.2.1 27) (τ_190.2.1 28) (τ_190.2.1 29) (τ_190.2.1 30) (τ_190.2.1 31) (τ_190.2.1 32) (τ_190.2.1 33) (τ_190.2.1 34) (τ_190.2.1 35) (τ_190.2.1 36) (τ_190.2.1 37)) = (J_all (σ.1 7) (σ.1 6) (σ.1 13) (σ.1 14) (σ.1 15) (σ.2.1 13) (σ.2.1 14) (σ.2.1 15) (σ.2.1 16) (σ.2.1 10) (σ.2.1 27) (σ.2.1 28) (σ.2.1 29) (σ.2.1 30) (σ.2.1 31) (σ.2.1 32) (σ.2.1 33) (σ.2.1 34) (σ.2.1 35) (σ.2.1 36) (σ.2.1 37)) from by rw [W6, W7, W13, W14, W15, G10, G13, G14, G15, G16, G27, G28, G29, G30, G31, G32, G33, G34, G35, G36, G37]]; exact CJ_0
          refine h190 u1_190 u2_190 τ_190 ?_
          refine ⟨fun c37 => ?_, fun c37 => ?_⟩
          ·
            refine ⟨(⟨by (first | omega | (simp only [st_s] <;> omega) | assumption | omega | fail), by (first | omega | (simp only [st_s] <;> omega) | assumption | omega | fail)⟩ : rg (u1_190 + 1)), ?_⟩
            exact ih_175 _ _ (show (61 - (u1_190 + 1) : Int) < ((m_175 : Nat) : Int) from by ((first | omega | (simp only [st_s] <;> omega) | assumption | omega | fail))) hT (show τ_190.1 4 = σ.1 4 from by first | exact W4 | omega) (show τ_190.1 5 = σ.1 5 from by first | exact W5 | omega) (show τ_190.1 6 = σ.1 6 from by first | exact W6 | omega) (show τ_190.1 7 = σ.1 7 from by first | exact W7 | omega) (show τ_190.1 13 = σ.1 13 from by first | exact W13 | omega) (show τ_190.1 14 = σ.1 14 from by first | exact W14 | omega) (show τ_190.1 15 = σ.1 15 from by first | exact W15 | omega) (show τ_190.1 45 = σ.1 45 from by first | exact W45 | omega) (show τ_190.1 46 = σ.1 46 from by first | exact W46 | omega) (show τ_190.1 48 = σ.1 48 from by first | exact W48 | omega) (show τ_190.1 50 = σ.1 50 from by first | exact W50 | omega) (show τ_190.1 51 = σ.1 51 from by first | exact W51 | omega) (show τ_190.1 53 = σ.1 53 from by first | exact W53 | omega) G10 G11 G13 G14 G15 G16 G27 G28 G29 G30 G31 G32 G33 G34 G35 G36 G37 G67 G68 G69 G70 G73 G74 G75 G76 G77 G78 (show (σ.1 53) < (u1_190 + 1) ∧ (u1_190 + 1) ≤ (σ.1 50) + 1 from by (first | omega | (simp only [st_s] <;> omega) | assumption | omega | fail)) (show g_pl (σ.1 45) (σ.1 50) (σ.1 4) (σ.1 51) (σ.1 53) (u1_190 + 1) (u1_190 + 1) 0 (σ.1 46) True (0 ≤ σ.2.1 78 (σ.1 53) ∧ ¬ σ.2.1 15 (σ.2.1 14 (σ.2.1 78 (σ.1 53))) = (σ.1 48)) (σ.2.1 77) (σ.2.1 69) par (σ.2.1 70) nof (g_so (σ.1 48) (σ.2.1 14) (σ.2.1 15) (σ.2.1 10)) (σ.2.1 73) (σ.2.1 74) (σ.2.1 78) (σ.2.1 75) (σ.2.1 76) In (σ.2.2 4) (σ.2.2 5) (τ_190.2.2 4) (τ_190.2.2 5) (σ.2.1 79) (τ_190.2.1 79) from by (first | (rw [W53, i2_6]; exact g_pl_c (pl0 _ _ _ _ _ _ _ _ _ _ _ _ _ _) (fun z1 z2 => by (exfalso; first | (rw [e_x7, e_x5, G73, G77, W53] at *; omega) | (rw [← W53, ← G78, ← e_x3] at z1; omega))) (fun z => by (exfalso; have z1 := z.1; first | (rw [← W53, ← G78, ← e_x3] at z1; omega) | (have a := q21_2 (by rw [W48, q18_1, e_x17, G78, W53]; exact z.2); have b := (ql z).1; rw [g_so_n z.2] at b; rw [G10, q18_1, e_x17, G78, W53] at a; omega)))) | (rw [w53_τ15, y53]; exact plc) | (rw [w53_τ29, y53]; exact g_pl_l (s0 := x22) fr2 em uf (by omega) (by omega) (by omega) (by rw [← e26]; omega) x22e ⟨by omega, rkb⟩ bx (by rw [q27_1, y53]) (by rw [q27_2, y53]) (fun s i e a b c => by (have w := q27_3 s i e a b c; rw [y53, y50, i2_6, e26] at w; exact w))) | exact g_pl_n i190_3 (by omega) | fail)) (show c_Rs τ_190 par nof In from by (first | exact i2_4 | exact rs15 | exact rs29 | exact i190_4 | fail)) (show τ_190.2.2 3 = σ.2.2 3 from by (first | exact i2_5 | exact h4.trans i2_5 | exact i190_5 | fail))
          ·
            refine ⟨(show 0 ≤ u2_190 ∧ u2_190 < 100 from by (first | omega | (simp only [st_s] <;> omega) | assumption | omega | fail)), ?_⟩
            intro x40 r_x40 e_x40
            have b_x40 : 0 ≤ x40 ∧ x40 ≤ 30000 := by rw [e_x40]; exact hT.2 74 _
            refine ⟨fun c41 => ?_, fun c41 => ?_⟩
            ·
              refine ⟨(⟨by (first | omega | (simp only [st_s] <;> omega) | assumption | omega | fail), by (first | omega | (simp only [st_s] <;> omega) | assumption | omega | fail)⟩ : rg (u2_190 + 1)), ?_⟩
              exact ih_190 _ _ _ (show (101 - (u2_190 + 1) : Int) < ((m_190 : Nat) : Int) from by ((first | omega | (simp only [st_s] <;> omega) | assumption | omega | fail))) hT (show τ_190.1 4 = σ.1 4 from by first | exact W4 | omega) (show τ_190.1 5 = σ.1 5 from by first | exact W5 | omega) (show τ_190.1 6 = σ.1 6 from by first | exact W6 | omega) (show τ_190.1 7 = σ.1 7 from by first | exact W7 | omega) (show τ_190.1 13 = σ.1 13 from by first | exact W13 | omega) (show τ_190.1 14 = σ.1 14 from by first | exact W14 | omega) (show τ_190.1 15 = σ.1 15 from by first | exact W15 | omega) (show τ_190.1 45 = σ.1 45 from by first | exact W45 | omega) (show τ_190.1 46 = σ.1 46 from by first | exact W46 | omega) (show τ_190.1 48 = σ.1 48 from by first | exact W48 | omega) (show τ_190.1 50 = σ.1 50 from by first | exact W50 | omega) (show τ_190.1 51 = σ.1 51 from by first | exact W51 | omega) (show τ_190.1 53 = σ.1 53 from by first | exact W53 | omega) G10 G11 G13 G14 G15 G16 G27 G28 G29 G30 G31 G32 G33 G34 G35 G36 G37 G67 G68 G69 G70 G73 G74 G75 G76 G77 G78 (show (σ.1 53) < u1_190 ∧ u1_190 ≤ (σ.1 50) from by (first | omega | (simp only [st_s] <;> omega) | assumption | omega | fail)) (show 0 ≤ (u2_190 + 1) ∧ (u2_190 + 1) ≤ 100 from by (first | omega | (simp only [st_s] <;> omega) | assumption | omega | fail)) (show g_pl (σ.1 45) (σ.1 50) (σ.1 4) (σ.1 51) (σ.1 53) (u1_190 + 1) u1_190 (u2_190 + 1) (σ.1 46) True (0 ≤ σ.2.1 78 (σ.1 53) ∧ ¬ σ.2.1 15 (σ.2.1 14 (σ.2.1 78 (σ.1 53))) = (σ.1 48)) (σ.2.1 77) (σ.2.1 69) par (σ.2.1 70) nof (g_so (σ.1 48) (σ.2.1 14) (σ.2.1 15) (σ.2.1 10)) (σ.2.1 73) (σ.2.1 74) (σ.2.1 78) (σ.2.1 75) (σ.2.1 76) In (σ.2.2 4) (σ.2.2 5) (τ_190.2.2 4) (τ_190.2.2 5) (σ.2.1 79) (τ_190.2.1 79) from by (first | exact plu | exact plk | exact g_pl_k i190_3 (fun z1 z2 => by (exfalso; first | (rw [← G74, ← e_x40] at z2; omega) | exact q43_3 (by assumption) (by rw [W53]; exact z1))) (fun p a b z0 z1 z2 => by (exfalso; first | (rw [← G74, ← e_x40] at z2; omega) | exact q43_3 (by assumption) (by rw [W53]; exact z1))) | fail)) (show c_Rs τ_190 par nof In from by (first | exact rs36 | exact rs53 | exact i190_4 | fail)) (show τ_190.2.2 3 = σ.2.2 3 from by (first | exact h4.trans i175_4 | exact h4.trans i190_5 | exact i190_5 | fail)) (show u1_190 + (m_175 : Int) ≥ 61 from by (first | omega | (simp only [st_s] <;> omega) | assumption | omega | fail))
            ·
              refine ⟨_, K_X1_reaches hT (show 0 ≤ u2_190 from by (first | omega | (simp only [st_s] <;> omega) | assumption | omega | fail)) (show u2_190 < 100 from by (first | omega | (simp only [st_s] <;> omega) | assumption | omega | fail)) (show 0 ≤ u1_190 from by (first | omega | (simp only [st_s] <;> omega) | assumption | omega | fail)) (show u1_190 < 64 from by (first | omega | (simp only [st_s] <;> omega) | assumption | omega | fail)), ?_⟩
              intro x44 r_x44 hq
              obtain ⟨q43_1, q43_2, q43_3⟩ := hq
              replace q43_1 : 0 ≤ x44 ∧ x44 ≤ 1 := q43_1
              replace q43_2 : ¬ x44 = 0 → g_H (τ_190.2.2 4) u2_190 (τ_190.1 53) u1_190 := q43_2
              replace q43_3 : x44 = 0 → ¬ g_H (τ_190.2.2 4) u2_190 (τ_190.1 53) u1_190 := q43_3
              refine ⟨fun c46 => ?_, fun c46 => ?_⟩
              ·
                refine ⟨(⟨by (first | omega | (simp only [st_s] <;> omega) | assumption | omega | fail), by (first | omega | (simp only [st_s] <;> omega) | assumption | omega | fail)⟩ : rg (u2_190 + 1)), ?_⟩
                exact ih_190 _ _ _ (show (101 - (u2_190 + 1) : Int) < ((m_190 : Nat) : Int) from by ((first | omega | (simp only [st_s] <;> omega) | assumption | omega | fail))) hT (show τ_190.1 4 = σ.1 4 from by first | exact W4 | omega) (show τ_190.1 5 = σ.1 5 from by first | exact W5 | omega) (show τ_190.1 6 = σ.1 6 from by first | exact W6 | omega) (show τ_190.1 7 = σ.1 7 from by first | exact W7 | omega) (show τ_190.1 13 = σ.1 13 from by first | exact W13 | omega) (show τ_190.1 14 = σ.1 14 from by first | exact W14 | omega) (show τ_190.1 15 = σ.1 15 from by first | exact W15 | omega) (show τ_190.1 45 = σ.1 45 from by first | exact W45 | omega) (show τ_190.1 46 = σ.1 46 from by first | exact W46 | omega) (show τ_190.1 48 = σ.1 48 from by first | exact W48 | omega) (show τ_190.1 50 = σ.1 50 from by first | exact W50 | omega) (show τ_190.1 51 = σ.1 51 from by first | exact W51 | omega) (show τ_190.1 53 = σ.1 53 from by first | exact W53 | omega) G10 G11 G13 G14 G15 G16 G27 G28 G29 G30 G31 G32 G33 G34 G35 G36 G37 G67 G68 G69 G70 G73 G74 G75 G76 G77 G78 (show (σ.1 53) < u1_190 ∧ u1_190 ≤ (σ.1 50) from by (first | omega | (simp only [st_s] <;> omega) | assumption | omega | fail)) (show 0 ≤ (u2_190 + 1) ∧ (u2_190 + 1) ≤ 100 from by (first | omega | (simp only [st_s] <;> omega) | assumption | omega | fail)) (show g_pl (σ.1 45) (σ.1 50) (σ.1 4) (σ.1 51) (σ.1 53) (u1_190 + 1) u1_190 (u2_190 + 1) (σ.1 46) True (0 ≤ σ.2.1 78 (σ.1 53) ∧ ¬ σ.2.1 15 (σ.2.1 14 (σ.2.1 78 (σ.1 53))) = (σ.1 48)) (σ.2.1 77) (σ.2.1 69) par (σ.2.1 70) nof (g_so (σ.1 48) (σ.2.1 14) (σ.2.1 15) (σ.2.1 10)) (σ.2.1 73) (σ.2.1 74) (σ.2.1 78) (σ.2.1 75) (σ.2.1 76) In (σ.2.2 4) (σ.2.2 5) (τ_190.2.2 4) (τ_190.2.2 5) (σ.2.1 79) (τ_190.2.1 79) from by (first | exact plu | exact plk | exact g_pl_k i190_3 (fun z1 z2 => by (exfalso; first | (rw [← G74, ← e_x40] at z2; omega) | exact q43_3 (by assumption) (by rw [W53]; exact z1))) (fun p a b z0 z1 z2 => by (exfalso; first | (rw [← G74, ← e_x40] at z2; omega) | exact q43_3 (by assumption) (by rw [W53]; exact z1))) | fail)) (show c_Rs τ_190 par nof In from by (first | exact rs36 | exact rs53 | exact i190_4 | fail)) (show τ_190.2.2 3 = σ.2.2 3 from by (first | exact h4.trans i175_4 | exact h4.trans i190_5 | exact i190_5 | fail)) (show u1_190 + (m_175 : Int) ≥ 61 from by (first | omega | (simp only [st_s] <;> omega) | assumption | omega | fail))
              ·
                intro x48 r_x48 e_x48
                have b_x48 : 0 ≤ x48 ∧ x48 ≤ 30000 := by rw [e_x48]; exact hT.2 74 _
                refine ⟨(show 0 ≤ ((u2_190 * 60) + τ_190.1 53) ∧ ((u2_190 * 60) + τ_190.1 53) < 6000 from by (first | omega | (simp only [st_s] <;> omega) | assumption | omega | fail)), ?_⟩
                intro x50 e_x50
                have pl := i190_3
                have csr := i190_4
                have y53 := W53
                have y50 := W50
                have y4 := W4
                have y51 := W51
                have y48 := W48
                have y45 := W45
                have f77 := G77
                have f78 := G78
                have f14 := G14
                have f15 := G15
                have f10 := G10
                have f69 := G69
                have f70 := G70
                have bx := fun (e : Int) a b => j_b_one (s := u1_190) (k := e) (by omega) (by omega) a b
                have e48 : x48 = σ.2.1 74 u2_190 := by rw [e_x48, G74]
                have n48 := tr.2.2.2.1 u2_190 (by omega) (by rw [← e48]; omega)
                rw [← e48] at n48
                have hv := q43_2 (by assumption)
                rw [y53] at hv
                have frk := pl.1
                have hw2 : ∀ s q e : Int, 0 ≤ s → s < σ.1 4 → σ.1 53 < q → q < σ.1 50 → 0 ≤ e → e < 64 → (g_H (τ_190.2.2 4) s q e → q < e ∧ e ≤ σ.1 50) ∧ (g_H (τ_190.2.2 5) s q e → g_H (τ_190.2.2 4) s q e) := fun s q e a b c d f g => by (have w := p5 s q e a b c d f g; have v := frk s q e (by omega) (by omega) f g (by omega); rw [v.1, v.2]; exact w)
                have x50b : ∀ e : Int, 0 ≤ e → e < 64 → (j_b (x50 &&& (j_shl 1 u1_190)) e ↔ e = u1_190 ∧ g_H (τ_190.2.2 5) u2_190 (σ.1 53) u1_190) := fun e a b => by (rw [j_b_and, bx e a b, e_x50, W53]; exact ⟨fun q => ⟨q.2, by have := q.1; rw [q.2] at this; exact this⟩, fun q => ⟨by rw [q.1]; exact q.2, q.1⟩⟩)
                refine ⟨_, K_X1_walk hT (show 1 ≤ x48 from by (first | omega | (simp only [st_s] <;> omega) | assumption | omega | fail)) (show x48 < (τ_190.1 45) from by (first | omega | (simp only [st_s] <;> omega) | assumption | omega | fail)) (show par x48 = 0 from by exact n48.2.1) (show 0 ≤ (0 : Int) ∧ (0 : Int) ≤ 1 from by (first | omega | (simp only [st_s] <;> omega) | assumption | omega | fail)) (show J_all (τ_190.1 7) (τ_190.1 6) (τ_190.1 13) (τ_190.1 14) (τ_190.1 15) (τ_190.2.1 13) (τ_190.2.1 14) (τ_190.2.1 15) (τ_190.2.1 16) (τ_190.2.1 10) (τ_190.2.1 27) (τ_190.2.1 28) (τ_190.2.1 29) (τ_190.2.1 30) (τ_190.2.1 31) (τ_190.2.1 32) (τ_190.2.1 33) (τ_190.2.1 34) (τ_190.2.1 35) (τ_190.2.1 36) (τ_190.2.1 37) from CJ) (show c_Rs τ_190 par nof In from by exact i190_4) (show (τ_190.1 53) < (τ_190.1 50) from by (first | omega | (simp only [st_s] <;> omega) | assumption | omega | fail)) (show ∀ e : Int, 0 ≤ e → e < 64 → j_b (j_shl 1 u1_190) e → (τ_190.1 53) < e ∧ e ≤ (τ_190.1 50) from by (intro e a b z; have ee := (bx e a b).mp z; omega)) (show ∀ e : Int, 0 ≤ e → e < 64 → j_b (x50 &&& (j_shl 1 u1_190)) e → j_b (j_shl 1 u1_190) e from by (intro e a b z; exact (bx e a b).mpr ((x50b e a b).mp z).1)) (show ∀ s q : Int, 0 ≤ s → s < 1000 → 0 ≤ q → q < 64 → (j_b (τ_190.2.2 3 s) q ↔ q < (τ_190.1 50) ∧ τ_190.2.1 77 q = s) from by (rw [i190_5, W50, G77]; exact p4)) (show ∀ s q e : Int, 0 ≤ s → s < (τ_190.1 4) → (τ_190.1 53) < q → q < (τ_190.1 50) → 0 ≤ e → e < 64 → (g_H (τ_190.2.2 4) s q e → q < e ∧ e ≤ (τ_190.1 50)) ∧ (g_H (τ_190.2.2 5) s q e → g_H (τ_190.2.2 4) s q e) from by (rw [W53, W50, W4]; exact hw2)), ?_⟩
                intro τ53 hn_τ53 hf_τ53 hq
                obtain ⟨hT, q51_1, q51_2⟩ := hq
                replace q51_1 : g_wr (τ_190.1 53) (τ_190.1 50) (τ_190.1 4) (τ_190.1 51) (fun e => ∃ p : Int, 0 ≤ p ∧ p < 64 ∧ j_b (j_shl 1 u1_190) p ∧ (p < e ∨ (¬ (0 : Int) = 0 ∧ p = e))) (fun rn => ∃ rc : Int → Int → Prop, (∀ e : Int, 0 ≤ e → e < 64 → j_b (j_shl 1 u1_190) e → rc x48 e) ∧ (∀ n c q q2 : Int, 1 ≤ c → par c = n → (τ_190.1 53) < q → rc n q → g_mk (τ_190.1 50) (τ_190.2.1 77) (g_H (τ_190.2.2 4)) (τ_190.2.1 69 c) q q2 → rc c q2) ∧ ∀ n e : Int, rc n e → (n ≠ x48 ∨ ¬ (0 : Int) = 0) → rn n e) (τ_190.2.2 4) (τ_190.2.2 5) (τ53.2.2 4) (τ53.2.2 5) (τ_190.2.1 79) (τ53.2.1 79) (τ_190.2.1 78) (g_so (τ_190.1 48) (τ_190.2.1 14) (τ_190.2.1 15) (τ_190.2.1 10)) nof In := q51_1
                replace q51_2 : g_wc (τ_190.1 45) (τ_190.1 50) (τ_190.1 53) (τ_190.1 51) (τ_190.2.1 77) (τ_190.2.1 69) par (τ_190.2.1 70) nof (g_so (τ_190.1 48) (τ_190.2.1 14) (τ_190.2.1 15) (τ_190.2.1 10)) In (g_H (τ_190.2.2 4)) (g_H (τ_190.2.2 5)) (j_shl 1 u1_190) (x50 &&& (j_shl 1 u1_190)) x48 (¬ (0 : Int) = 0) (τ53.2.2 4) (τ53.2.2 5) (τ53.2.1 79) := q51_2
                have w4_τ53 : τ53.1 4 = τ_190.1 4 := hf_τ53.1 4 (by decide)
                have w5_τ53 : τ53.1 5 = τ_190.1 5 := hf_τ53.1 5 (by decide)
                have w6_τ53 : τ53.1 6 = τ_190.1 6 := hf_τ53.1 6 (by decide)
                have w7_τ53 : τ53.1 7 = τ_190.1 7 := hf_τ53.1 7 (by decide)
                have w13_τ53 : τ53.1 13 = τ_190.1 13 := hf_τ53.1 13 (by decide)
                have w14_τ53 : τ53.1 14 = τ_190.1 14 := hf_τ53.1 14 (by decide)
                have w15_τ53 : τ53.1 15 = τ_190.1 15 := hf_τ53.1 15 (by decide)
                have w45_τ53 : τ53.1 45 = τ_190.1 45 := hf_τ53.1 45 (by decide)
                have w46_τ53 : τ53.1 46 = τ_190.1 46 := hf_τ53.1 46 (by decide)
                have w48_τ53 : τ53.1 48 = τ_190.1 48 := hf_τ53.1 48 (by decide)
                have w50_τ53 : τ53.1 50 = τ_190.1 50 := hf_τ53.1 50 (by decide)
                have w51_τ53 : τ53.1 51 = τ_190.1 51 := hf_τ53.1 51 (by decide)
                have w53_τ53 : τ53.1 53 = τ_190.1 53 := hf_τ53.1 53 (by decide)
                have g10_τ53 : τ53.2.1 10 = τ_190.2.1 10 := hf_τ53.2.1 10 (by decide)
                have g11_τ53 : τ53.2.1 11 = τ_190.2.1 11 := hf_τ53.2.1 11 (by decide)
                have g13_τ53 : τ53.2.1 13 = τ_190.2.1 13 := hf_τ53.2.1 13 (by decide)
                have g14_τ53 : τ53.2.1 14 = τ_190.2.1 14 := hf_τ53.2.1 14 (by decide)
                have g15_τ53 : τ53.2.1 15 = τ_190.2.1 15 := hf_τ53.2.1 15 (by decide)
                have g16_τ53 : τ53.2.1 16 = τ_190.2.1 16 := hf_τ53.2.1 16 (by decide)
                have g27_τ53 : τ53.2.1 27 = τ_190.2.1 27 := hf_τ53.2.1 27 (by decide)
                have g28_τ53 : τ53.2.1 28 = τ_190.2.1 28 := hf_τ53.2.1 28 (by decide)
                have g29_τ53 : τ53.2.1 29 = τ_190.2.1 29 := hf_τ53.2.1 29 (by decide)
                have g30_τ53 : τ53.2.1 30 = τ_190.2.1 30 := hf_τ53.2.1 30 (by decide)
                have g31_τ53 : τ53.2.1 31 = τ_190.2.1 31 := hf_τ53.2.1 31 (by decide)
                have g32_τ53 : τ53.2.1 32 = τ_190.2.1 32 := hf_τ53.2.1 32 (by decide)
                have g33_τ53 : τ53.2.1 33 = τ_190.2.1 33 := hf_τ53.2.1 33 (by decide)
                have g34_τ53 : τ53.2.1 34 = τ_190.2.1 34 := hf_τ53.2.1 34 (by decide)
                have g35_τ53 : τ53.2.1 35 = τ_190.2.1 35 := hf_τ53.2.1 35 (by decide)
                have g36_τ53 : τ53.2.1 36 = τ_190.2.1 36 := hf_τ53.2.1 36 (by decide)
                have g37_τ53 : τ53.2.1 37 = τ_190.2.1 37 := hf_τ53.2.1 37 (by decide)
                have g67_τ53 : τ53.2.1 67 = τ_190.2.1 67 := hf_τ53.2.1 67 (by decide)
                have g68_τ53 : τ53.2.1 68 = τ_190.2.1 68 := hf_τ53.2.1 68 (by decide)
                have g69_τ53 : τ53.2.1 69 = τ_190.2.1 69 := hf_τ53.2.1 69 (by decide)
                have g70_τ53 : τ53.2.1 70 = τ_190.2.1 70 := hf_τ53.2.1 70 (by decide)
                have g73_τ53 : τ53.2.1 73 = τ_190.2.1 73 := hf_τ53.2.1 73 (by decide)
                have g74_τ53 : τ53.2.1 74 = τ_190.2.1 74 := hf_τ53.2.1 74 (by decide)
                have g75_τ53 : τ53.2.1 75 = τ_190.2.1 75 := hf_τ53.2.1 75 (by decide)
                have g76_τ53 : τ53.2.1 76 = τ_190.2.1 76 := hf_τ53.2.1 76 (by decide)
                have g77_τ53 : τ53.2.1 77 = τ_190.2.1 77 := hf_τ53.2.1 77 (by decide)
                have g78_τ53 : τ53.2.1 78 = τ_190.2.1 78 := hf_τ53.2.1 78 (by decide)
                have W4 : τ53.1 4 = σ.1 4 := by first | exact w4_τ53.trans W4 | omega
                have W5 : τ53.1 5 = σ.1 5 := by first | exact w5_τ53.trans W5 | omega
                have W6 : τ53.1 6 = σ.1 6 := by first | exact w6_τ53.trans W6 | omega
                have W7 : τ53.1 7 = σ.1 7 := by first | exact w7_τ53.trans W7 | omega
                have W13 : τ53.1 13 = σ.1 13 := by first | exact w13_τ53.trans W13 | omega
                have W14 : τ53.1 14 = σ.1 14 := by first | exact w14_τ53.trans W14 | omega
                have W15 : τ53.1 15 = σ.1 15 := by first | exact w15_τ53.trans W15 | omega
                have W45 : τ53.1 45 = σ.1 45 := by first | exact w45_τ53.trans W45 | omega
                have W46 : τ53.1 46 = σ.1 46 := by first | exact w46_τ53.trans W46 | omega
                have W48 : τ53.1 48 = σ.1 48 := by first | exact w48_τ53.trans W48 | omega
                have W50 : τ53.1 50 = σ.1 50 := by first | exact w50_τ53.trans W50 | omega
                have W51 : τ53.1 51 = σ.1 51 := by first | exact w51_τ53.trans W51 | omega
                have W53 : τ53.1 53 = σ.1 53 := by first | exact w53_τ53.trans W53 | omega
                have G10 : τ53.2.1 10 = σ.2.1 10 := (g10_τ53).trans G10
                have G11 : τ53.2.1 11 = σ.2.1 11 := (g11_τ53).trans G11
                have G13 : τ53.2.1 13 = σ.2.1 13 := (g13_τ53).trans G13
                have G14 : τ53.2.1 14 = σ.2.1 14 := (g14_τ53).trans G14
                have G15 : τ53.2.1 15 = σ.2.1 15 := (g15_τ53).trans G15
                have G16 : τ53.2.1 16 = σ.2.1 16 := (g16_τ53).trans G16
                have G27 : τ53.2.1 27 = σ.2.1 27 := (g27_τ53).trans G27
                have G28 : τ53.2.1 28 = σ.2.1 28 := (g28_τ53).trans G28
                have G29 : τ53.2.1 29 = σ.2.1 29 := (g29_τ53).trans G29
                have G30 : τ53.2.1 30 = σ.2.1 30 := (g30_τ53).trans G30
                have G31 : τ53.2.1 31 = σ.2.1 31 := (g31_τ53).trans G31
                have G32 : τ53.2.1 32 = σ.2.1 32 := (g32_τ53).trans G32
                have G33 : τ53.2.1 33 = σ.2.1 33 := (g33_τ53).trans G33
                have G34 : τ53.2.1 34 = σ.2.1 34 := (g34_τ53).trans G34
                have G35 : τ53.2.1 35 = σ.2.1 35 := (g35_τ53).trans G35
                have G36 : τ53.2.1 36 = σ.2.1 36 := (g36_τ53).trans G36
                have G37 : τ53.2.1 37 = σ.2.1 37 := (g37_τ53).trans G37
                have G67 : τ53.2.1 67 = σ.2.1 67 := (g67_τ53).trans G67
                have G68 : τ53.2.1 68 = σ.2.1 68 := (g68_τ53).trans G68
                have G69 : τ53.2.1 69 = σ.2.1 69 := (g69_τ53).trans G69
                have G70 : τ53.2.1 70 = σ.2.1 70 := (g70_τ53).trans G70
                have G73 : τ53.2.1 73 = σ.2.1 73 := (g73_τ53).trans G73
                have G74 : τ53.2.1 74 = σ.2.1 74 := (g74_τ53).trans G74
                have G75 : τ53.2.1 75 = σ.2.1 75 := (g75_τ53).trans G75
                have G76 : τ53.2.1 76 = σ.2.1 76 := (g76_τ53).trans G76
                have G77 : τ53.2.1 77 = σ.2.1 77 := (g77_τ53).trans G77
                have G78 : τ53.2.1 78 = σ.2.1 78 := (g78_τ53).trans G78
                have y77_53_τ53 : τ53.2.1 77 (τ53.1 53) = (τ_190.2.1 77) (τ_190.1 53) := by rw [g77_τ53, w53_τ53]
                have y78_53_τ53 : τ53.2.1 78 (τ53.1 53) = (τ_190.2.1 78) (τ_190.1 53) := by rw [g78_τ53, w53_τ53]
                have TX : J_vs (τ53.1 6) (τ53.1 5) (τ53.2.1 15) := by rw [show (J_vs (τ53.1 6) (τ53.1 5) (τ53.2.1 15)) = (J_vs (τ_190.1 6) (τ_190.1 5) (τ_190.2.1 15)) from by rw [w5_τ53, w6_τ53, g15_τ53]]; exact TX
                have RKS : J_rks (τ53.1 5) (τ53.1 4) (τ53.2.1 10) (τ53.2.1 11) := by rw [show (J_rks (τ53.1 5) (τ53.1 4) (τ53.2.1 10) (τ53.2.1 11)) = (J_rks (τ_190.1 5) (τ_190.1 4) (τ_190.2.1 10) (τ_190.2.1 11)) from by rw [w4_τ53, w5_τ53, g10_τ53, g11_τ53]]; exact RKS
                have CJ : J_all (τ53.1 7) (τ53.1 6) (τ53.1 13) (τ53.1 14) (τ53.1 15) (τ53.2.1 13) (τ53.2.1 14) (τ53.2.1 15) (τ53.2.1 16) (τ53.2.1 10) (τ53.2.1 27) (τ53.2.1 28) (τ53.2.1 29) (τ53.2.1 30) (τ53.2.1 31) (τ53.2.1 32) (τ53.2.1 33) (τ53.2.1 34) (τ53.2.1 35) (τ53.2.1 36) (τ53.2.1 37) := by rw [show (J_all (τ53.1 7) (τ53.1 6) (τ53.1 13) (τ53.1 14) (τ53.1 15) (τ53.2.1 13) (τ53.2.1 14) (τ53.2.1 15) (τ53.2.1 16) (τ53.2.1 10) (τ53.2.1 27) (τ53.2.1 28) (τ53.2.1 29) (τ53.2.1 30) (τ53.2.1 31) (τ53.2.1 32) (τ53.2.1 33) (τ53.2.1 34) (τ53.2.1 35) (τ53.2.1 36) (τ53.2.1 37)) = (J_all (τ_190.1 7) (τ_190.1 6) (τ_190.1 13) (τ_190.1 14) (τ_190.1 15) (τ_190.2.1 13) (τ_190.2.1 14) (τ_190.2.1 15) (τ_190.2.1 16) (τ_190.2.1 10) (τ_190.2.1 27) (τ_190.2.1 28) (τ_190.2.1 29) (τ_190.2.1 30) (τ_190.2.1 31) (τ_190.2.1 32) (τ_190.2.1 33) (τ_190.2.1 34) (τ_190.2.1 35) (τ_190.2.1 36) (τ_190.2.1 37)) from by rw [w6_τ53, w7_τ53, w13_τ53, w14_τ53, w15_τ53, g10_τ53, g13_τ53, g14_τ53, g15_τ53, g16_τ53, g27_τ53, g28_τ53, g29_τ53, g30_τ53, g31_τ53, g32_τ53, g33_τ53, g34_τ53, g35_τ53, g36_τ53, g37_τ53]]; exact CJ
                have A10 : ∀ j, (-1) ≤ τ53.2.1 10 j ∧ τ53.2.1 10 j ≤ 99 := fun j => hT.2 10 j
                have A11 : ∀ j, 0 ≤ τ53.2.1 11 j ∧ τ53.2.1 11 j ≤ 999 := fun j => hT.2 11 j
                have A13 : ∀ j, 0 ≤ τ53.2.1 13 j ∧ τ53.2.1 13 j ≤ 4 := fun j => hT.2 13 j
                have A14 : ∀ j, 0 ≤ τ53.2.1 14 j ∧ τ53.2.1 14 j ≤ 30000 := fun j => hT.2 14 j
                have A15 : ∀ j, 0 ≤ τ53.2.1 15 j ∧ τ53.2.1 15 j ≤ 999 := fun j => hT.2 15 j
                have A16 : ∀ j, (-1) ≤ τ53.2.1 16 j ∧ τ53.2.1 16 j ≤ 1499 := fun j => hT.2 16 j
                have A27 : ∀ j, 0 ≤ τ53.2.1 27 j ∧ τ53.2.1 27 j ≤ 90000 := fun j => hT.2 27 j
                have A28 : ∀ j, 0 ≤ τ53.2.1 28 j ∧ τ53.2.1 28 j ≤ 60 := fun j => hT.2 28 j
                have A29 : ∀ j, 0 ≤ τ53.2.1 29 j ∧ τ53.2.1 29 j ≤ 1499 := fun j => hT.2 29 j
                have A30 : ∀ j, 0 ≤ τ53.2.1 30 j ∧ τ53.2.1 30 j ≤ 20000 := fun j => hT.2 30 j
                have A31 : ∀ j, 0 ≤ τ53.2.1 31 j ∧ τ53.2.1 31 j ≤ 20000 := fun j => hT.2 31 j
                have A32 : ∀ j, 0 ≤ τ53.2.1 32 j ∧ τ53.2.1 32 j ≤ 999999 := fun j => hT.2 32 j
                have A33 : ∀ j, 0 ≤ τ53.2.1 33 j ∧ τ53.2.1 33 j ≤ 20000 := fun j => hT.2 33 j
                have A34 : ∀ j, 0 ≤ τ53.2.1 34 j ∧ τ53.2.1 34 j ≤ 20000 := fun j => hT.2 34 j
                have A35 : ∀ j, 0 ≤ τ53.2.1 35 j ∧ τ53.2.1 35 j ≤ 1499 := fun j => hT.2 35 j
                have A36 : ∀ j, 0 ≤ τ53.2.1 36 j ∧ τ53.2.1 36 j ≤ 20000 := fun j => hT.2 36 j
                have A37 : ∀ j, 0 ≤ τ53.2.1 37 j ∧ τ53.2.1 37 j ≤ 19999 := fun j => hT.2 37 j
                have A67 : ∀ j, 0 ≤ τ53.2.1 67 j ∧ τ53.2.1 67 j ≤ 30000 := fun j => hT.2 67 j
                have A68 : ∀ j, 0 ≤ τ53.2.1 68 j ∧ τ53.2.1 68 j ≤ 30000 := fun j => hT.2 68 j
                have A69 : ∀ j, (-100) ≤ τ53.2.1 69 j ∧ τ53.2.1 69 j ≤ 999 := fun j => hT.2 69 j
                have A70 : ∀ j, 0 ≤ τ53.2.1 70 j ∧ τ53.2.1 70 j ≤ 1499 := fun j => hT.2 70 j
                have A73 : ∀ j, 0 ≤ τ53.2.1 73 j ∧ τ53.2.1 73 j ≤ 30000 := fun j => hT.2 73 j
                have A74 : ∀ j, 0 ≤ τ53.2.1 74 j ∧ τ53.2.1 74 j ≤ 30000 := fun j => hT.2 74 j
                have A75 : ∀ j, 0 ≤ τ53.2.1 75 j ∧ τ53.2.1 75 j ≤ 1499 := fun j => hT.2 75 j
                have A76 : ∀ j, 0 ≤ τ53.2.1 76 j ∧ τ53.2.1 76 j ≤ 99 := fun j => hT.2 76 j
                have A77 : ∀ j, 0 ≤ τ53.2.1 77 j ∧ τ53.2.1 77 j ≤ 999 := fun j => hT.2 77 j
                have A78 : ∀ j, (-1) ≤ τ53.2.1 78 j ∧ τ53.2.1 78 j ≤ 1499 := fun j => hT.2 78 j
                have A79 : ∀ j, 0 ≤ τ53.2.1 79 j ∧ τ53.2.1 79 j ≤ 1499 := fun j => hT.2 79 j
                have v4 : 0 ≤ τ53.1 4 ∧ τ53.1 4 ≤ 100 := hT.1 4
                have v5 : 0 ≤ τ53.1 5 ∧ τ53.1 5 ≤ 1000 := hT.1 5
                have v6 : 0 ≤ τ53.1 6 ∧ τ53.1 6 ≤ 30000 := hT.1 6
                have v7 : 0 ≤ τ53.1 7 ∧ τ53.1 7 ≤ 1500 := hT.1 7
                have v13 : 0 ≤ τ53.1 13 ∧ τ53.1 13 ≤ 90000 := hT.1 13
                have v14 : 0 ≤ τ53.1 14 ∧ τ53.1 14 ≤ 20000 := hT.1 14
                have v15 : 0 ≤ τ53.1 15 ∧ τ53.1 15 ≤ 20000 := hT.1 15
                have v45 : 1 ≤ τ53.1 45 ∧ τ53.1 45 ≤ 30001 := hT.1 45
                have v46 : 0 ≤ τ53.1 46 ∧ τ53.1 46 ≤ 1500 := hT.1 46
                have v48 : (-1) ≤ τ53.1 48 ∧ τ53.1 48 ≤ 999 := hT.1 48
                have v50 : 0 ≤ τ53.1 50 ∧ τ53.1 50 ≤ 59 := hT.1 50
                have v51 : 0 ≤ τ53.1 51 ∧ τ53.1 51 ≤ 1500 := hT.1 51
                have v53 : 0 ≤ τ53.1 53 ∧ τ53.1 53 ≤ 58 := hT.1 53
                have a77_53 : 0 ≤ τ53.2.1 77 (τ53.1 53) ∧ τ53.2.1 77 (τ53.1 53) ≤ 999 := hT.2 77 _
                have a78_53 : (-1) ≤ τ53.2.1 78 (τ53.1 53) ∧ τ53.2.1 78 (τ53.1 53) ≤ 1499 := hT.2 78 _
                have rs53 := c_Rs_h csr hf_τ53 rfl
                have h4 := hf_τ53.2.2 3 (by decide)
                rw [y53, y50, y4, y51, y48, f77, f78, f14, f15, f10, f69] at q51_1
                rw [y53, y50, y45, y51, y48, f77, f14, f15, f10, f69, f70] at q51_2
                have rcs := g_rcs (len := σ.1 50) (u := u1_190 + 1) (sp := σ.1 53) (b := x48) (n6 := 0) (row := σ.2.1 77) (ky := σ.2.1 69) (par := par) (lf := σ.2.1 78) (x := j_shl 1 u1_190) (c4 := τ_190.2.2 4) (d4 := τ53.2.2 4) (fun s i e a b c => (q51_1.1 s i e a b c).1) (by omega) (by omega) (by omega) n48.2.1 (fun e a b z => by (have ee := (bx e a b).mp z; rw [ee]; exact ⟨by omega, Or.inr ⟨by rw [n48.2.2]; omega, by omega, by omega, by rw [n48.2.2, show -1 - (-1 - u2_190) = u2_190 from by omega]; exact (q51_1.2.1 u2_190 u1_190 (by omega) (by omega)).1 hv⟩⟩)) (fun z => by rw [n48.2.2] at z; omega) (fun z => absurd rfl z)
                have plt := g_pl_t pl q51_1 (fun e a h => by (obtain ⟨p, p0, p1, p2, p3⟩ := h; have := (bx p p0 p1).mp p2; omega)) rcs (by omega) (by omega) (by omega) (Or.inl (by omega))
                have plk := g_pl_k plt (fun _ _ => by (rw [← e48]; exact g_wq_i (g_wq_w q51_2 (q51_1.1) ((bx _ (by omega) (by omega)).mpr rfl) (by omega) (by omega) (by omega) (by omega) (fun y => (x50b u1_190 (by omega) (by omega)).mpr ⟨rfl, ((q51_1.2.1 u2_190 u1_190 (by omega) (by omega)).2.2.2 y).elim id (fun h => by (obtain ⟨p, p0, p1, p2, p3⟩ := h; have := (bx p p0 p1).mp p2; omega))⟩)) False.elim)) (g_xp_w pl q51_2 e48 (fun s i e a b c => q51_1.1 s i e a b c) (fun p a b h => ((q51_1.2.1 u2_190 p a (by omega)).2.2.1 h).elim id (fun h => by (obtain ⟨p3, p0, p1, p2, p4⟩ := h; have := (bx p3 p0 p1).mp p2; exfalso; omega))) ((bx u1_190 (by omega) (by omega)).mpr rfl) (by omega) (by omega) (by omega) (by omega) (by omega))
                refine ⟨(⟨by (first | omega | (simp only [st_s] <;> omega) | assumption | omega | fail), by (first | omega | (simp only [st_s] <;> omega) | assumption | omega | fail)⟩ : rg (u2_190 + 1)), ?_⟩
                exact ih_190 _ _ _ (show (101 - (u2_190 + 1) : Int) < ((m_190 : Nat) : Int) from by ((first | omega | (simp only [st_s] <;> omega) | assumption | omega | fail))) hT (show τ53.1 4 = σ.1 4 from by first | exact W4 | omega) (show τ53.1 5 = σ.1 5 from by first | exact W5 | omega) (show τ53.1 6 = σ.1 6 from by first | exact W6 | omega) (show τ53.1 7 = σ.1 7 from by first | exact W7 | omega) (show τ53.1 13 = σ.1 13 from by first | exact W13 | omega) (show τ53.1 14 = σ.1 14 from by first | exact W14 | omega) (show τ53.1 15 = σ.1 15 from by first | exact W15 | omega) (show τ53.1 45 = σ.1 45 from by first | exact W45 | omega) (show τ53.1 46 = σ.1 46 from by first | exact W46 | omega) (show τ53.1 48 = σ.1 48 from by first | exact W48 | omega) (show τ53.1 50 = σ.1 50 from by first | exact W50 | omega) (show τ53.1 51 = σ.1 51 from by first | exact W51 | omega) (show τ53.1 53 = σ.1 53 from by first | exact W53 | omega) G10 G11 G13 G14 G15 G16 G27 G28 G29 G30 G31 G32 G33 G34 G35 G36 G37 G67 G68 G69 G70 G73 G74 G75 G76 G77 G78 (show (σ.1 53) < u1_190 ∧ u1_190 ≤ (σ.1 50) from by (first | omega | (simp only [st_s] <;> omega) | assumption | omega | fail)) (show 0 ≤ (u2_190 + 1) ∧ (u2_190 + 1) ≤ 100 from by (first | omega | (simp only [st_s] <;> omega) | assumption | omega | fail)) (show g_pl (σ.1 45) (σ.1 50) (σ.1 4) (σ.1 51) (σ.1 53) (u1_190 + 1) u1_190 (u2_190 + 1) (σ.1 46) True (0 ≤ σ.2.1 78 (σ.1 53) ∧ ¬ σ.2.1 15 (σ.2.1 14 (σ.2.1 78 (σ.1 53))) = (σ.1 48)) (σ.2.1 77) (σ.2.1 69) par (σ.2.1 70) nof (g_so (σ.1 48) (σ.2.1 14) (σ.2.1 15) (σ.2.1 10)) (σ.2.1 73) (σ.2.1 74) (σ.2.1 78) (σ.2.1 75) (σ.2.1 76) In (σ.2.2 4) (σ.2.2 5) (τ53.2.2 4) (τ53.2.2 5) (σ.2.1 79) (τ53.2.1 79) from by (first | exact plu | exact plk | exact g_pl_k i190_3 (fun z1 z2 => by (exfalso; first | (rw [← G74, ← e_x40] at z2; omega) | exact q43_3 (by assumption) (by rw [W53]; exact z1))) (fun p a b z0 z1 z2 => by (exfalso; first | (rw [← G74, ← e_x40] at z2; omega) | exact q43_3 (by assumption) (by rw [W53]; exact z1))) | fail)) (show c_Rs τ53 par nof In from by (first | exact rs36 | exact rs53 | exact i190_4 | fail)) (show τ53.2.2 3 = σ.2.2 3 from by (first | exact h4.trans i175_4 | exact h4.trans i190_5 | exact i190_5 | fail)) (show u1_190 + (m_175 : Int) ≥ 61 from by (first | omega | (simp only [st_s] <;> omega) | assumption | omega | fail))
      refine h175 u1_175 τ_175 ?_
      refine ⟨fun c33 => ?_, fun c33 => ?_⟩
      ·
        exact ⟨hT, (show ∀ s i e : Int, 0 ≤ i → i < 60 → 0 ≤ e → e < 64 → i ≠ (σ.1 53) → (g_H (τ_175.2.2 4) s i e ↔ g_H (σ.2.2 4) s i e) ∧ (g_H (τ_175.2.2 5) s i e ↔ g_H (σ.2.2 5) s i e) from by exact i175_2.1), (show ∀ s i e : Int, 0 ≤ i → i < e → e ≤ 59 → i ≠ (σ.1 53) → g_mb (τ_175.2.1 79) s i e = g_mb (σ.2.1 79) s i e from by exact i175_2.2.1), (show g_ok (σ.1 45) (σ.1 50) (σ.1 4) (σ.1 51) (σ.1 53) (σ.2.1 77) (σ.2.1 69) par (σ.2.1 70) nof (g_so (σ.1 48) (σ.2.1 14) (σ.2.1 15) (σ.2.1 10)) (σ.2.1 78) In (τ_175.2.2 4) (τ_175.2.2 5) (τ_175.2.1 79) from by (have e1 : u1_175 = σ.1 50 + 1 := (by omega); rw [e1] at i175_2; exact g_ok_e i175_2 tr kr (by omega) (by omega) (by omega) (by omega))), (show τ_175.2.2 3 = σ.2.2 3 from by exact i175_4), (show g_uq (σ.1 45) (σ.1 50) (σ.1 51) (σ.1 53) (0 ≤ σ.2.1 78 (σ.1 53) ∧ ¬ σ.2.1 15 (σ.2.1 14 (σ.2.1 78 (σ.1 53))) = (σ.1 48)) (σ.2.1 77) (σ.2.1 69) par (σ.2.1 70) nof (g_so (σ.1 48) (σ.2.1 14) (σ.2.1 15) (σ.2.1 10)) (σ.2.1 78) In (τ_175.2.2 4) (τ_175.2.2 5) (τ_175.2.1 79) from by (have e1 : u1_175 = σ.1 50 + 1 := (by omega); rw [e1] at i175_2; exact g_uq_e i175_2 tr kr uc (by omega) (by omega) (by omega) (by omega)))⟩
      ·
        have pl := i175_2
        have csr := i175_3
        have y53 := W53
        have y50 := W50
        have y4 := W4
        have y51 := W51
        have y48 := W48
        have y46 := W46
        have f75 := G75
        have f76 := G76
        have f14 := G14
        have f15 := G15
        have f10 := G10
        refine ⟨_, K_X1_addUnits hT (show J_all (τ_175.1 7) (τ_175.1 6) (τ_175.1 13) (τ_175.1 14) (τ_175.1 15) (τ_175.2.1 13) (τ_175.2.1 14) (τ_175.2.1 15) (τ_175.2.1 16) (τ_175.2.1 10) (τ_175.2.1 27) (τ_175.2.1 28) (τ_175.2.1 29) (τ_175.2.1 30) (τ_175.2.1 31) (τ_175.2.1 32) (τ_175.2.1 33) (τ_175.2.1 34) (τ_175.2.1 35) (τ_175.2.1 36) (τ_175.2.1 37) from CJ) (show c_Rs τ_175 par nof In from by exact i175_3) (show (τ_175.1 53) < u1_175 from by (first | omega | (simp only [st_s] <;> omega) | assumption | omega | fail)) (show u1_175 ≤ (τ_175.1 50) from by (first | omega | (simp only [st_s] <;> omega) | assumption | omega | fail)) (show (τ_175.1 53) < (τ_175.1 50) from by (first | omega | (simp only [st_s] <;> omega) | assumption | omega | fail)) (show ∀ s : Int, 0 ≤ s → s < (τ_175.1 4) → g_H (τ_175.2.2 5) s (τ_175.1 53) u1_175 → g_H (τ_175.2.2 4) s (τ_175.1 53) u1_175 from by (rw [W4, W53]; intro s a b; exact (pl.2.2.1 s u1_175 a b (by omega) (by omega)).1)) (show J_rks (τ_175.1 5) (τ_175.1 4) (τ_175.2.1 10) (τ_175.2.1 11) from RKS) (show J_vs (τ_175.1 6) (τ_175.1 5) (τ_175.2.1 15) from TX), ?_⟩
        intro τ36 hn_τ36 hf_τ36 hq
        obtain ⟨hT, q34_1⟩ := hq
        replace q34_1 : g_uo (τ_175.1 4) (τ_175.1 51) (τ_175.1 46) (τ_175.1 53) u1_175 (τ_175.2.1 75) (τ_175.2.1 76) (g_so (τ_175.1 48) (τ_175.2.1 14) (τ_175.2.1 15) (τ_175.2.1 10)) (τ_175.2.2 4) (τ_175.2.2 5) (τ36.2.2 4) (τ36.2.2 5) (τ_175.2.1 79) (τ36.2.1 79) := q34_1
        have w4_τ36 : τ36.1 4 = τ_175.1 4 := hf_τ36.1 4 (by decide)
        have w5_τ36 : τ36.1 5 = τ_175.1 5 := hf_τ36.1 5 (by decide)
        have w6_τ36 : τ36.1 6 = τ_175.1 6 := hf_τ36.1 6 (by decide)
        have w7_τ36 : τ36.1 7 = τ_175.1 7 := hf_τ36.1 7 (by decide)
        have w13_τ36 : τ36.1 13 = τ_175.1 13 := hf_τ36.1 13 (by decide)
        have w14_τ36 : τ36.1 14 = τ_175.1 14 := hf_τ36.1 14 (by decide)
        have w15_τ36 : τ36.1 15 = τ_175.1 15 := hf_τ36.1 15 (by decide)
        have w45_τ36 : τ36.1 45 = τ_175.1 45 := hf_τ36.1 45 (by decide)
        have w46_τ36 : τ36.1 46 = τ_175.1 46 := hf_τ36.1 46 (by decide)
        have w48_τ36 : τ36.1 48 = τ_175.1 48 := hf_τ36.1 48 (by decide)
        have w50_τ36 : τ36.1 50 = τ_175.1 50 := hf_τ36.1 50 (by decide)
        have w51_τ36 : τ36.1 51 = τ_175.1 51 := hf_τ36.1 51 (by decide)
        have w53_τ36 : τ36.1 53 = τ_175.1 53 := hf_τ36.1 53 (by decide)
        have g10_τ36 : τ36.2.1 10 = τ_175.2.1 10 := hf_τ36.2.1 10 (by decide)
        have g11_τ36 : τ36.2.1 11 = τ_175.2.1 11 := hf_τ36.2.1 11 (by decide)
        have g13_τ36 : τ36.2.1 13 = τ_175.2.1 13 := hf_τ36.2.1 13 (by decide)
        have g14_τ36 : τ36.2.1 14 = τ_175.2.1 14 := hf_τ36.2.1 14 (by decide)
        have g15_τ36 : τ36.2.1 15 = τ_175.2.1 15 := hf_τ36.2.1 15 (by decide)
        have g16_τ36 : τ36.2.1 16 = τ_175.2.1 16 := hf_τ36.2.1 16 (by decide)
        have g27_τ36 : τ36.2.1 27 = τ_175.2.1 27 := hf_τ36.2.1 27 (by decide)
        have g28_τ36 : τ36.2.1 28 = τ_175.2.1 28 := hf_τ36.2.1 28 (by decide)
        have g29_τ36 : τ36.2.1 29 = τ_175.2.1 29 := hf_τ36.2.1 29 (by decide)
        have g30_τ36 : τ36.2.1 30 = τ_175.2.1 30 := hf_τ36.2.1 30 (by decide)
        have g31_τ36 : τ36.2.1 31 = τ_175.2.1 31 := hf_τ36.2.1 31 (by decide)
        have g32_τ36 : τ36.2.1 32 = τ_175.2.1 32 := hf_τ36.2.1 32 (by decide)
        have g33_τ36 : τ36.2.1 33 = τ_175.2.1 33 := hf_τ36.2.1 33 (by decide)
        have g34_τ36 : τ36.2.1 34 = τ_175.2.1 34 := hf_τ36.2.1 34 (by decide)
        have g35_τ36 : τ36.2.1 35 = τ_175.2.1 35 := hf_τ36.2.1 35 (by decide)
        have g36_τ36 : τ36.2.1 36 = τ_175.2.1 36 := hf_τ36.2.1 36 (by decide)
        have g37_τ36 : τ36.2.1 37 = τ_175.2.1 37 := hf_τ36.2.1 37 (by decide)
        have g67_τ36 : τ36.2.1 67 = τ_175.2.1 67 := hf_τ36.2.1 67 (by decide)
        have g68_τ36 : τ36.2.1 68 = τ_175.2.1 68 := hf_τ36.2.1 68 (by decide)
        have g69_τ36 : τ36.2.1 69 = τ_175.2.1 69 := hf_τ36.2.1 69 (by decide)
        have g70_τ36 : τ36.2.1 70 = τ_175.2.1 70 := hf_τ36.2.1 70 (by decide)
        have g73_τ36 : τ36.2.1 73 = τ_175.2.1 73 := hf_τ36.2.1 73 (by decide)
        have g74_τ36 : τ36.2.1 74 = τ_175.2.1 74 := hf_τ36.2.1 74 (by decide)
        have g75_τ36 : τ36.2.1 75 = τ_175.2.1 75 := hf_τ36.2.1 75 (by decide)
        have g76_τ36 : τ36.2.1 76 = τ_175.2.1 76 := hf_τ36.2.1 76 (by decide)
        have g77_τ36 : τ36.2.1 77 = τ_175.2.1 77 := hf_τ36.2.1 77 (by decide)
        have g78_τ36 : τ36.2.1 78 = τ_175.2.1 78 := hf_τ36.2.1 78 (by decide)
        have W4 : τ36.1 4 = σ.1 4 := by first | exact w4_τ36.trans W4 | omega
        have W5 : τ36.1 5 = σ.1 5 := by first | exact w5_τ36.trans W5 | omega
        have W6 : τ36.1 6 = σ.1 6 := by first | exact w6_τ36.trans W6 | omega
        have W7 : τ36.1 7 = σ.1 7 := by first | exact w7_τ36.trans W7 | omega
        have W13 : τ36.1 13 = σ.1 13 := by first | exact w13_τ36.trans W13 | omega
        have W14 : τ36.1 14 = σ.1 14 := by first | exact w14_τ36.trans W14 | omega
        have W15 : τ36.1 15 = σ.1 15 := by first | exact w15_τ36.trans W15 | omega
        have W45 : τ36.1 45 = σ.1 45 := by first | exact w45_τ36.trans W45 | omega
        have W46 : τ36.1 46 = σ.1 46 := by first | exact w46_τ36.trans W46 | omega
        have W48 : τ36.1 48 = σ.1 48 := by first | exact w48_τ36.trans W48 | omega
        have W50 : τ36.1 50 = σ.1 50 := by first | exact w50_τ36.trans W50 | omega
        have W51 : τ36.1 51 = σ.1 51 := by first | exact w51_τ36.trans W51 | omega
        have W53 : τ36.1 53 = σ.1 53 := by first | exact w53_τ36.trans W53 | omega
        have G10 : τ36.2.1 10 = σ.2.1 10 := (g10_τ36).trans G10
        have G11 : τ36.2.1 11 = σ.2.1 11 := (g11_τ36).trans G11
        have G13 : τ36.2.1 13 = σ.2.1 13 := (g13_τ36).trans G13
        have G14 : τ36.2.1 14 = σ.2.1 14 := (g14_τ36).trans G14
        have G15 : τ36.2.1 15 = σ.2.1 15 := (g15_τ36).trans G15
        have G16 : τ36.2.1 16 = σ.2.1 16 := (g16_τ36).trans G16
        have G27 : τ36.2.1 27 = σ.2.1 27 := (g27_τ36).trans G27
        have G28 : τ36.2.1 28 = σ.2.1 28 := (g28_τ36).trans G28
        have G29 : τ36.2.1 29 = σ.2.1 29 := (g29_τ36).trans G29
        have G30 : τ36.2.1 30 = σ.2.1 30 := (g30_τ36).trans G30
        have G31 : τ36.2.1 31 = σ.2.1 31 := (g31_τ36).trans G31
        have G32 : τ36.2.1 32 = σ.2.1 32 := (g32_τ36).trans G32
        have G33 : τ36.2.1 33 = σ.2.1 33 := (g33_τ36).trans G33
        have G34 : τ36.2.1 34 = σ.2.1 34 := (g34_τ36).trans G34
        have G35 : τ36.2.1 35 = σ.2.1 35 := (g35_τ36).trans G35
        have G36 : τ36.2.1 36 = σ.2.1 36 := (g36_τ36).trans G36
        have G37 : τ36.2.1 37 = σ.2.1 37 := (g37_τ36).trans G37
        have G67 : τ36.2.1 67 = σ.2.1 67 := (g67_τ36).trans G67
        have G68 : τ36.2.1 68 = σ.2.1 68 := (g68_τ36).trans G68
        have G69 : τ36.2.1 69 = σ.2.1 69 := (g69_τ36).trans G69
        have G70 : τ36.2.1 70 = σ.2.1 70 := (g70_τ36).trans G70
        have G73 : τ36.2.1 73 = σ.2.1 73 := (g73_τ36).trans G73
        have G74 : τ36.2.1 74 = σ.2.1 74 := (g74_τ36).trans G74
        have G75 : τ36.2.1 75 = σ.2.1 75 := (g75_τ36).trans G75
        have G76 : τ36.2.1 76 = σ.2.1 76 := (g76_τ36).trans G76
        have G77 : τ36.2.1 77 = σ.2.1 77 := (g77_τ36).trans G77
        have G78 : τ36.2.1 78 = σ.2.1 78 := (g78_τ36).trans G78
        have y77_53_τ36 : τ36.2.1 77 (τ36.1 53) = (τ_175.2.1 77) (τ_175.1 53) := by rw [g77_τ36, w53_τ36]
        have y78_53_τ36 : τ36.2.1 78 (τ36.1 53) = (τ_175.2.1 78) (τ_175.1 53) := by rw [g78_τ36, w53_τ36]
        have TX : J_vs (τ36.1 6) (τ36.1 5) (τ36.2.1 15) := by rw [show (J_vs (τ36.1 6) (τ36.1 5) (τ36.2.1 15)) = (J_vs (τ_175.1 6) (τ_175.1 5) (τ_175.2.1 15)) from by rw [w5_τ36, w6_τ36, g15_τ36]]; exact TX
        have RKS : J_rks (τ36.1 5) (τ36.1 4) (τ36.2.1 10) (τ36.2.1 11) := by rw [show (J_rks (τ36.1 5) (τ36.1 4) (τ36.2.1 10) (τ36.2.1 11)) = (J_rks (τ_175.1 5) (τ_175.1 4) (τ_175.2.1 10) (τ_175.2.1 11)) from by rw [w4_τ36, w5_τ36, g10_τ36, g11_τ36]]; exact RKS
        have CJ : J_all (τ36.1 7) (τ36.1 6) (τ36.1 13) (τ36.1 14) (τ36.1 15) (τ36.2.1 13) (τ36.2.1 14) (τ36.2.1 15) (τ36.2.1 16) (τ36.2.1 10) (τ36.2.1 27) (τ36.2.1 28) (τ36.2.1 29) (τ36.2.1 30) (τ36.2.1 31) (τ36.2.1 32) (τ36.2.1 33) (τ36.2.1 34) (τ36.2.1 35) (τ36.2.1 36) (τ36.2.1 37) := by rw [show (J_all (τ36.1 7) (τ36.1 6) (τ36.1 13) (τ36.1 14) (τ36.1 15) (τ36.2.1 13) (τ36.2.1 14) (τ36.2.1 15) (τ36.2.1 16) (τ36.2.1 10) (τ36.2.1 27) (τ36.2.1 28) (τ36.2.1 29) (τ36.2.1 30) (τ36.2.1 31) (τ36.2.1 32) (τ36.2.1 33) (τ36.2.1 34) (τ36.2.1 35) (τ36.2.1 36) (τ36.2.1 37)) = (J_all (τ_175.1 7) (τ_175.1 6) (τ_175.1 13) (τ_175.1 14) (τ_175.1 15) (τ_175.2.1 13) (τ_175.2.1 14) (τ_175.2.1 15) (τ_175.2.1 16) (τ_175.2.1 10) (τ_175.2.1 27) (τ_175.2.1 28) (τ_175.2.1 29) (τ_175.2.1 30) (τ_175.2.1 31) (τ_175.2.1 32) (τ_175.2.1 33) (τ_175.2.1 34) (τ_175.2.1 35) (τ_175.2.1 36) (τ_175.2.1 37)) from by rw [w6_τ36, w7_τ36, w13_τ36, w14_τ36, w15_τ36, g10_τ36, g13_τ36, g14_τ36, g15_τ36, g16_τ36, g27_τ36, g28_τ36, g29_τ36, g30_τ36, g31_τ36, g32_τ36, g33_τ36, g34_τ36, g35_τ36, g36_τ36, g37_τ36]]; exact CJ
        have A10 : ∀ j, (-1) ≤ τ36.2.1 10 j ∧ τ36.2.1 10 j ≤ 99 := fun j => hT.2 10 j
        have A11 : ∀ j, 0 ≤ τ36.2.1 11 j ∧ τ36.2.1 11 j ≤ 999 := fun j => hT.2 11 j
        have A13 : ∀ j, 0 ≤ τ36.2.1 13 j ∧ τ36.2.1 13 j ≤ 4 := fun j => hT.2 13 j
        have A14 : ∀ j, 0 ≤ τ36.2.1 14 j ∧ τ36.2.1 14 j ≤ 30000 := fun j => hT.2 14 j
        have A15 : ∀ j, 0 ≤ τ36.2.1 15 j ∧ τ36.2.1 15 j ≤ 999 := fun j => hT.2 15 j
        have A16 : ∀ j, (-1) ≤ τ36.2.1 16 j ∧ τ36.2.1 16 j ≤ 1499 := fun j => hT.2 16 j
        have A27 : ∀ j, 0 ≤ τ36.2.1 27 j ∧ τ36.2.1 27 j ≤ 90000 := fun j => hT.2 27 j
        have A28 : ∀ j, 0 ≤ τ36.2.1 28 j ∧ τ36.2.1 28 j ≤ 60 := fun j => hT.2 28 j
        have A29 : ∀ j, 0 ≤ τ36.2.1 29 j ∧ τ36.2.1 29 j ≤ 1499 := fun j => hT.2 29 j
        have A30 : ∀ j, 0 ≤ τ36.2.1 30 j ∧ τ36.2.1 30 j ≤ 20000 := fun j => hT.2 30 j
        have A31 : ∀ j, 0 ≤ τ36.2.1 31 j ∧ τ36.2.1 31 j ≤ 20000 := fun j => hT.2 31 j
        have A32 : ∀ j, 0 ≤ τ36.2.1 32 j ∧ τ36.2.1 32 j ≤ 999999 := fun j => hT.2 32 j
        have A33 : ∀ j, 0 ≤ τ36.2.1 33 j ∧ τ36.2.1 33 j ≤ 20000 := fun j => hT.2 33 j
        have A34 : ∀ j, 0 ≤ τ36.2.1 34 j ∧ τ36.2.1 34 j ≤ 20000 := fun j => hT.2 34 j
        have A35 : ∀ j, 0 ≤ τ36.2.1 35 j ∧ τ36.2.1 35 j ≤ 1499 := fun j => hT.2 35 j
        have A36 : ∀ j, 0 ≤ τ36.2.1 36 j ∧ τ36.2.1 36 j ≤ 20000 := fun j => hT.2 36 j
        have A37 : ∀ j, 0 ≤ τ36.2.1 37 j ∧ τ36.2.1 37 j ≤ 19999 := fun j => hT.2 37 j
        have A67 : ∀ j, 0 ≤ τ36.2.1 67 j ∧ τ36.2.1 67 j ≤ 30000 := fun j => hT.2 67 j
        have A68 : ∀ j, 0 ≤ τ36.2.1 68 j ∧ τ36.2.1 68 j ≤ 30000 := fun j => hT.2 68 j
        have A69 : ∀ j, (-100) ≤ τ36.2.1 69 j ∧ τ36.2.1 69 j ≤ 999 := fun j => hT.2 69 j
        have A70 : ∀ j, 0 ≤ τ36.2.1 70 j ∧ τ36.2.1 70 j ≤ 1499 := fun j => hT.2 70 j
        have A73 : ∀ j, 0 ≤ τ36.2.1 73 j ∧ τ36.2.1 73 j ≤ 30000 := fun j => hT.2 73 j
        have A74 : ∀ j, 0 ≤ τ36.2.1 74 j ∧ τ36.2.1 74 j ≤ 30000 := fun j => hT.2 74 j
        have A75 : ∀ j, 0 ≤ τ36.2.1 75 j ∧ τ36.2.1 75 j ≤ 1499 := fun j => hT.2 75 j
        have A76 : ∀ j, 0 ≤ τ36.2.1 76 j ∧ τ36.2.1 76 j ≤ 99 := fun j => hT.2 76 j
        have A77 : ∀ j, 0 ≤ τ36.2.1 77 j ∧ τ36.2.1 77 j ≤ 999 := fun j => hT.2 77 j
        have A78 : ∀ j, (-1) ≤ τ36.2.1 78 j ∧ τ36.2.1 78 j ≤ 1499 := fun j => hT.2 78 j
        have A79 : ∀ j, 0 ≤ τ36.2.1 79 j ∧ τ36.2.1 79 j ≤ 1499 := fun j => hT.2 79 j
        have v4 : 0 ≤ τ36.1 4 ∧ τ36.1 4 ≤ 100 := hT.1 4
        have v5 : 0 ≤ τ36.1 5 ∧ τ36.1 5 ≤ 1000 := hT.1 5
        have v6 : 0 ≤ τ36.1 6 ∧ τ36.1 6 ≤ 30000 := hT.1 6
        have v7 : 0 ≤ τ36.1 7 ∧ τ36.1 7 ≤ 1500 := hT.1 7
        have v13 : 0 ≤ τ36.1 13 ∧ τ36.1 13 ≤ 90000 := hT.1 13
        have v14 : 0 ≤ τ36.1 14 ∧ τ36.1 14 ≤ 20000 := hT.1 14
        have v15 : 0 ≤ τ36.1 15 ∧ τ36.1 15 ≤ 20000 := hT.1 15
        have v45 : 1 ≤ τ36.1 45 ∧ τ36.1 45 ≤ 30001 := hT.1 45
        have v46 : 0 ≤ τ36.1 46 ∧ τ36.1 46 ≤ 1500 := hT.1 46
        have v48 : (-1) ≤ τ36.1 48 ∧ τ36.1 48 ≤ 999 := hT.1 48
        have v50 : 0 ≤ τ36.1 50 ∧ τ36.1 50 ≤ 59 := hT.1 50
        have v51 : 0 ≤ τ36.1 51 ∧ τ36.1 51 ≤ 1500 := hT.1 51
        have v53 : 0 ≤ τ36.1 53 ∧ τ36.1 53 ≤ 58 := hT.1 53
        have a77_53 : 0 ≤ τ36.2.1 77 (τ36.1 53) ∧ τ36.2.1 77 (τ36.1 53) ≤ 999 := hT.2 77 _
        have a78_53 : (-1) ≤ τ36.2.1 78 (τ36.1 53) ∧ τ36.2.1 78 (τ36.1 53) ≤ 1499 := hT.2 78 _
        have rs36 := c_Rs_h csr hf_τ36 rfl
        have h4 := hf_τ36.2.2 3 (by decide)
        rw [y53, y4, y51, y48, y46, f75, f76, f14, f15, f10] at q34_1
        have plu := g_pl_u pl q34_1 ql (by omega) (by omega) (by omega) (by omega) (Or.inr ⟨by omega, by omega⟩) sr kc ui
        exact l_190 ((101 - 0 : Int).toNat + 1) _ _ _ (show (101 - 0 : Int) < (((101 - 0 : Int).toNat + 1 : Nat) : Int) from by ((first | omega | (simp only [st_s] <;> omega) | assumption | omega | fail))) hT (show τ36.1 4 = σ.1 4 from by first | exact W4 | omega) (show τ36.1 5 = σ.1 5 from by first | exact W5 | omega) (show τ36.1 6 = σ.1 6 from by first | exact W6 | omega) (show τ36.1 7 = σ.1 7 from by first | exact W7 | omega) (show τ36.1 13 = σ.1 13 from by first | exact W13 | omega) (show τ36.1 14 = σ.1 14 from by first | exact W14 | omega) (show τ36.1 15 = σ.1 15 from by first | exact W15 | omega) (show τ36.1 45 = σ.1 45 from by first | exact W45 | omega) (show τ36.1 46 = σ.1 46 from by first | exact W46 | omega) (show τ36.1 48 = σ.1 48 from by first | exact W48 | omega) (show τ36.1 50 = σ.1 50 from by first | exact W50 | omega) (show τ36.1 51 = σ.1 51 from by first | exact W51 | omega) (show τ36.1 53 = σ.1 53 from by first | exact W53 | omega) G10 G11 G13 G14 G15 G16 G27 G28 G29 G30 G31 G32 G33 G34 G35 G36 G37 G67 G68 G69 G70 G73 G74 G75 G76 G77 G78 (show (σ.1 53) < u1_175 ∧ u1_175 ≤ (σ.1 50) from by (first | omega | (simp only [st_s] <;> omega) | assumption | omega | fail)) (show 0 ≤ 0 ∧ 0 ≤ 100 from by (first | omega | (simp only [st_s] <;> omega) | assumption | omega | fail)) (show g_pl (σ.1 45) (σ.1 50) (σ.1 4) (σ.1 51) (σ.1 53) (u1_175 + 1) u1_175 0 (σ.1 46) True (0 ≤ σ.2.1 78 (σ.1 53) ∧ ¬ σ.2.1 15 (σ.2.1 14 (σ.2.1 78 (σ.1 53))) = (σ.1 48)) (σ.2.1 77) (σ.2.1 69) par (σ.2.1 70) nof (g_so (σ.1 48) (σ.2.1 14) (σ.2.1 15) (σ.2.1 10)) (σ.2.1 73) (σ.2.1 74) (σ.2.1 78) (σ.2.1 75) (σ.2.1 76) In (σ.2.2 4) (σ.2.2 5) (τ36.2.2 4) (τ36.2.2 5) (σ.2.1 79) (τ36.2.1 79) from by (first | exact plu | exact plk | exact g_pl_k i190_3 (fun z1 z2 => by (exfalso; first | (rw [← G74, ← e_x40] at z2; omega) | exact q43_3 (by assumption) (by rw [W53]; exact z1))) (fun p a b z0 z1 z2 => by (exfalso; first | (rw [← G74, ← e_x40] at z2; omega) | exact q43_3 (by assumption) (by rw [W53]; exact z1))) | fail)) (show c_Rs τ36 par nof In from by (first | exact rs36 | exact rs53 | exact i190_4 | fail)) (show τ36.2.2 3 = σ.2.2 3 from by (first | exact h4.trans i175_4 | exact h4.trans i190_5 | exact i190_5 | fail)) (show u1_175 + (m_175 : Int) ≥ 61 from by (first | omega | (simp only [st_s] <;> omega) | assumption | omega | fail))
  have l_2 : ∀ (m_2 : Nat) (u1_2 : Int) (τ_2 : S0), 101 - u1_2 < (m_2 : Int) → (c_T τ_2) → (τ_2.1 4 = σ.1 4) → (τ_2.1 5 = σ.1 5) → (τ_2.1 6 = σ.1 6) → (τ_2.1 7 = σ.1 7) → (τ_2.1 13 = σ.1 13) → (τ_2.1 14 = σ.1 14) → (τ_2.1 15 = σ.1 15) → (τ_2.1 45 = σ.1 45) → (τ_2.1 46 = σ.1 46) → (τ_2.1 48 = σ.1 48) → (τ_2.1 50 = σ.1 50) → (τ_2.1 51 = σ.1 51) → (τ_2.1 53 = σ.1 53) → (τ_2.2.1 10 = σ.2.1 10) → (τ_2.2.1 11 = σ.2.1 11) → (τ_2.2.1 13 = σ.2.1 13) → (τ_2.2.1 14 = σ.2.1 14) → (τ_2.2.1 15 = σ.2.1 15) → (τ_2.2.1 16 = σ.2.1 16) → (τ_2.2.1 27 = σ.2.1 27) → (τ_2.2.1 28 = σ.2.1 28) → (τ_2.2.1 29 = σ.2.1 29) → (τ_2.2.1 30 = σ.2.1 30) → (τ_2.2.1 31 = σ.2.1 31) → (τ_2.2.1 32 = σ.2.1 32) → (τ_2.2.1 33 = σ.2.1 33) → (τ_2.2.1 34 = σ.2.1 34) → (τ_2.2.1 35 = σ.2.1 35) → (τ_2.2.1 36 = σ.2.1 36) → (τ_2.2.1 37 = σ.2.1 37) → (τ_2.2.1 67 = σ.2.1 67) → (τ_2.2.1 68 = σ.2.1 68) → (τ_2.2.1 69 = σ.2.1 69) → (τ_2.2.1 70 = σ.2.1 70) → (τ_2.2.1 73 = σ.2.1 73) → (τ_2.2.1 74 = σ.2.1 74) → (τ_2.2.1 75 = σ.2.1 75) → (τ_2.2.1 76 = σ.2.1 76) → (τ_2.2.1 77 = σ.2.1 77) → (τ_2.2.1 78 = σ.2.1 78) → (0 ≤ u1_2 ∧ u1_2 ≤ 100) → (∀ s i e : Int, 0 ≤ i → i < 60 → 0 ≤ e → e < 64 → i ≠ (σ.1 53) → (g_H (τ_2.2.2 4) s i e ↔ g_H (σ.2.2 4) s i e) ∧ (g_H (τ_2.2.2 5) s i e ↔ g_H (σ.2.2 5) s i e)) → (∀ s e : Int, 0 ≤ s → s < u1_2 → ¬ g_H (τ_2.2.2 4) s (σ.1 53) e ∧ ¬ g_H (τ_2.2.2 5) s (σ.1 53) e) → (c_Rs τ_2 par nof In) → (τ_2.2.2 3 = σ.2.2 3) → (τ_2.2.1 79 = σ.2.1 79) → P2 u1_2 τ_2 := by
    intro m_2
    induction m_2 with
    | zero =>
      intro u1_2 τ_2 hm hT W4 W5 W6 W7 W13 W14 W15 W45 W46 W48 W50 W51 W53 G10 G11 G13 G14 G15 G16 G27 G28 G29 G30 G31 G32 G33 G34 G35 G36 G37 G67 G68 G69 G70 G73 G74 G75 G76 G77 G78 i2_1 i2_2 i2_3 i2_4 i2_5 i2_6
      have A10 : ∀ j, (-1) ≤ τ_2.2.1 10 j ∧ τ_2.2.1 10 j ≤ 99 := fun j => hT.2 10 j
      have A11 : ∀ j, 0 ≤ τ_2.2.1 11 j ∧ τ_2.2.1 11 j ≤ 999 := fun j => hT.2 11 j
      have A13 : ∀ j, 0 ≤ τ_2.2.1 13 j ∧ τ_2.2.1 13 j ≤ 4 := fun j => hT.2 13 j
      have A14 : ∀ j, 0 ≤ τ_2.2.1 14 j ∧ τ_2.2.1 14 j ≤ 30000 := fun j => hT.2 14 j
      have A15 : ∀ j, 0 ≤ τ_2.2.1 15 j ∧ τ_2.2.1 15 j ≤ 999 := fun j => hT.2 15 j
      have A16 : ∀ j, (-1) ≤ τ_2.2.1 16 j ∧ τ_2.2.1 16 j ≤ 1499 := fun j => hT.2 16 j
      have A27 : ∀ j, 0 ≤ τ_2.2.1 27 j ∧ τ_2.2.1 27 j ≤ 90000 := fun j => hT.2 27 j
      have A28 : ∀ j, 0 ≤ τ_2.2.1 28 j ∧ τ_2.2.1 28 j ≤ 60 := fun j => hT.2 28 j
      have A29 : ∀ j, 0 ≤ τ_2.2.1 29 j ∧ τ_2.2.1 29 j ≤ 1499 := fun j => hT.2 29 j
      have A30 : ∀ j, 0 ≤ τ_2.2.1 30 j ∧ τ_2.2.1 30 j ≤ 20000 := fun j => hT.2 30 j
      have A31 : ∀ j, 0 ≤ τ_2.2.1 31 j ∧ τ_2.2.1 31 j ≤ 20000 := fun j => hT.2 31 j
      have A32 : ∀ j, 0 ≤ τ_2.2.1 32 j ∧ τ_2.2.1 32 j ≤ 999999 := fun j => hT.2 32 j
      have A33 : ∀ j, 0 ≤ τ_2.2.1 33 j ∧ τ_2.2.1 33 j ≤ 20000 := fun j => hT.2 33 j
      have A34 : ∀ j, 0 ≤ τ_2.2.1 34 j ∧ τ_2.2.1 34 j ≤ 20000 := fun j => hT.2 34 j
      have A35 : ∀ j, 0 ≤ τ_2.2.1 35 j ∧ τ_2.2.1 35 j ≤ 1499 := fun j => hT.2 35 j
      have A36 : ∀ j, 0 ≤ τ_2.2.1 36 j ∧ τ_2.2.1 36 j ≤ 20000 := fun j => hT.2 36 j
      have A37 : ∀ j, 0 ≤ τ_2.2.1 37 j ∧ τ_2.2.1 37 j ≤ 19999 := fun j => hT.2 37 j
      have A67 : ∀ j, 0 ≤ τ_2.2.1 67 j ∧ τ_2.2.1 67 j ≤ 30000 := fun j => hT.2 67 j
      have A68 : ∀ j, 0 ≤ τ_2.2.1 68 j ∧ τ_2.2.1 68 j ≤ 30000 := fun j => hT.2 68 j
      have A69 : ∀ j, (-100) ≤ τ_2.2.1 69 j ∧ τ_2.2.1 69 j ≤ 999 := fun j => hT.2 69 j
      have A70 : ∀ j, 0 ≤ τ_2.2.1 70 j ∧ τ_2.2.1 70 j ≤ 1499 := fun j => hT.2 70 j
      have A73 : ∀ j, 0 ≤ τ_2.2.1 73 j ∧ τ_2.2.1 73 j ≤ 30000 := fun j => hT.2 73 j
      have A74 : ∀ j, 0 ≤ τ_2.2.1 74 j ∧ τ_2.2.1 74 j ≤ 30000 := fun j => hT.2 74 j
      have A75 : ∀ j, 0 ≤ τ_2.2.1 75 j ∧ τ_2.2.1 75 j ≤ 1499 := fun j => hT.2 75 j
      have A76 : ∀ j, 0 ≤ τ_2.2.1 76 j ∧ τ_2.2.1 76 j ≤ 99 := fun j => hT.2 76 j
      have A77 : ∀ j, 0 ≤ τ_2.2.1 77 j ∧ τ_2.2.1 77 j ≤ 999 := fun j => hT.2 77 j
      have A78 : ∀ j, (-1) ≤ τ_2.2.1 78 j ∧ τ_2.2.1 78 j ≤ 1499 := fun j => hT.2 78 j
      have A79 : ∀ j, 0 ≤ τ_2.2.1 79 j ∧ τ_2.2.1 79 j ≤ 1499 := fun j => hT.2 79 j
      have v4 : 0 ≤ τ_2.1 4 ∧ τ_2.1 4 ≤ 100 := hT.1 4
      have v5 : 0 ≤ τ_2.1 5 ∧ τ_2.1 5 ≤ 1000 := hT.1 5
      have v6 : 0 ≤ τ_2.1 6 ∧ τ_2.1 6 ≤ 30000 := hT.1 6
      have v7 : 0 ≤ τ_2.1 7 ∧ τ_2.1 7 ≤ 1500 := hT.1 7
      have v13 : 0 ≤ τ_2.1 13 ∧ τ_2.1 13 ≤ 90000 := hT.1 13
      have v14 : 0 ≤ τ_2.1 14 ∧ τ_2.1 14 ≤ 20000 := hT.1 14
      have v15 : 0 ≤ τ_2.1 15 ∧ τ_2.1 15 ≤ 20000 := hT.1 15
      have v45 : 1 ≤ τ_2.1 45 ∧ τ_2.1 45 ≤ 30001 := hT.1 45
      have v46 : 0 ≤ τ_2.1 46 ∧ τ_2.1 46 ≤ 1500 := hT.1 46
      have v48 : (-1) ≤ τ_2.1 48 ∧ τ_2.1 48 ≤ 999 := hT.1 48
      have v50 : 0 ≤ τ_2.1 50 ∧ τ_2.1 50 ≤ 59 := hT.1 50
      have v51 : 0 ≤ τ_2.1 51 ∧ τ_2.1 51 ≤ 1500 := hT.1 51
      have v53 : 0 ≤ τ_2.1 53 ∧ τ_2.1 53 ≤ 58 := hT.1 53
      have a77_53 : 0 ≤ τ_2.2.1 77 (τ_2.1 53) ∧ τ_2.2.1 77 (τ_2.1 53) ≤ 999 := hT.2 77 _
      have a78_53 : (-1) ≤ τ_2.2.1 78 (τ_2.1 53) ∧ τ_2.2.1 78 (τ_2.1 53) ≤ 1499 := hT.2 78 _
      exfalso; (first | omega | (simp only [st_s] <;> omega) | assumption | omega | fail)
    | succ m_2 ih_2 =>
      intro u1_2 τ_2 hm_2 hT W4 W5 W6 W7 W13 W14 W15 W45 W46 W48 W50 W51 W53 G10 G11 G13 G14 G15 G16 G27 G28 G29 G30 G31 G32 G33 G34 G35 G36 G37 G67 G68 G69 G70 G73 G74 G75 G76 G77 G78 i2_1 i2_2 i2_3 i2_4 i2_5 i2_6
      have A10 : ∀ j, (-1) ≤ τ_2.2.1 10 j ∧ τ_2.2.1 10 j ≤ 99 := fun j => hT.2 10 j
      have A11 : ∀ j, 0 ≤ τ_2.2.1 11 j ∧ τ_2.2.1 11 j ≤ 999 := fun j => hT.2 11 j
      have A13 : ∀ j, 0 ≤ τ_2.2.1 13 j ∧ τ_2.2.1 13 j ≤ 4 := fun j => hT.2 13 j
      have A14 : ∀ j, 0 ≤ τ_2.2.1 14 j ∧ τ_2.2.1 14 j ≤ 30000 := fun j => hT.2 14 j
      have A15 : ∀ j, 0 ≤ τ_2.2.1 15 j ∧ τ_2.2.1 15 j ≤ 999 := fun j => hT.2 15 j
      have A16 : ∀ j, (-1) ≤ τ_2.2.1 16 j ∧ τ_2.2.1 16 j ≤ 1499 := fun j => hT.2 16 j
      have A27 : ∀ j, 0 ≤ τ_2.2.1 27 j ∧ τ_2.2.1 27 j ≤ 90000 := fun j => hT.2 27 j
      have A28 : ∀ j, 0 ≤ τ_2.2.1 28 j ∧ τ_2.2.1 28 j ≤ 60 := fun j => hT.2 28 j
      have A29 : ∀ j, 0 ≤ τ_2.2.1 29 j ∧ τ_2.2.1 29 j ≤ 1499 := fun j => hT.2 29 j
      have A30 : ∀ j, 0 ≤ τ_2.2.1 30 j ∧ τ_2.2.1 30 j ≤ 20000 := fun j => hT.2 30 j
      have A31 : ∀ j, 0 ≤ τ_2.2.1 31 j ∧ τ_2.2.1 31 j ≤ 20000 := fun j => hT.2 31 j
      have A32 : ∀ j, 0 ≤ τ_2.2.1 32 j ∧ τ_2.2.1 32 j ≤ 999999 := fun j => hT.2 32 j
      have A33 : ∀ j, 0 ≤ τ_2.2.1 33 j ∧ τ_2.2.1 33 j ≤ 20000 := fun j => hT.2 33 j
      have A34 : ∀ j, 0 ≤ τ_2.2.1 34 j ∧ τ_2.2.1 34 j ≤ 20000 := fun j => hT.2 34 j
      have A35 : ∀ j, 0 ≤ τ_2.2.1 35 j ∧ τ_2.2.1 35 j ≤ 1499 := fun j => hT.2 35 j
      have A36 : ∀ j, 0 ≤ τ_2.2.1 36 j ∧ τ_2.2.1 36 j ≤ 20000 := fun j => hT.2 36 j
      have A37 : ∀ j, 0 ≤ τ_2.2.1 37 j ∧ τ_2.2.1 37 j ≤ 19999 := fun j => hT.2 37 j
      have A67 : ∀ j, 0 ≤ τ_2.2.1 67 j ∧ τ_2.2.1 67 j ≤ 30000 := fun j => hT.2 67 j
      have A68 : ∀ j, 0 ≤ τ_2.2.1 68 j ∧ τ_2.2.1 68 j ≤ 30000 := fun j => hT.2 68 j
      have A69 : ∀ j, (-100) ≤ τ_2.2.1 69 j ∧ τ_2.2.1 69 j ≤ 999 := fun j => hT.2 69 j
      have A70 : ∀ j, 0 ≤ τ_2.2.1 70 j ∧ τ_2.2.1 70 j ≤ 1499 := fun j => hT.2 70 j
      have A73 : ∀ j, 0 ≤ τ_2.2.1 73 j ∧ τ_2.2.1 73 j ≤ 30000 := fun j => hT.2 73 j
      have A74 : ∀ j, 0 ≤ τ_2.2.1 74 j ∧ τ_2.2.1 74 j ≤ 30000 := fun j => hT.2 74 j
      have A75 : ∀ j, 0 ≤ τ_2.2.1 75 j ∧ τ_2.2.1 75 j ≤ 1499 := fun j => hT.2 75 j
      have A76 : ∀ j, 0 ≤ τ_2.2.1 76 j ∧ τ_2.2.1 76 j ≤ 99 := fun j => hT.2 76 j
      have A77 : ∀ j, 0 ≤ τ_2.2.1 77 j ∧ τ_2.2.1 77 j ≤ 999 := fun j => hT.2 77 j
      have A78 : ∀ j, (-1) ≤ τ_2.2.1 78 j ∧ τ_2.2.1 78 j ≤ 1499 := fun j => hT.2 78 j
      have A79 : ∀ j, 0 ≤ τ_2.2.1 79 j ∧ τ_2.2.1 79 j ≤ 1499 := fun j => hT.2 79 j
      have v4 : 0 ≤ τ_2.1 4 ∧ τ_2.1 4 ≤ 100 := hT.1 4
      have v5 : 0 ≤ τ_2.1 5 ∧ τ_2.1 5 ≤ 1000 := hT.1 5
      have v6 : 0 ≤ τ_2.1 6 ∧ τ_2.1 6 ≤ 30000 := hT.1 6
      have v7 : 0 ≤ τ_2.1 7 ∧ τ_2.1 7 ≤ 1500 := hT.1 7
      have v13 : 0 ≤ τ_2.1 13 ∧ τ_2.1 13 ≤ 90000 := hT.1 13
      have v14 : 0 ≤ τ_2.1 14 ∧ τ_2.1 14 ≤ 20000 := hT.1 14
      have v15 : 0 ≤ τ_2.1 15 ∧ τ_2.1 15 ≤ 20000 := hT.1 15
      have v45 : 1 ≤ τ_2.1 45 ∧ τ_2.1 45 ≤ 30001 := hT.1 45
      have v46 : 0 ≤ τ_2.1 46 ∧ τ_2.1 46 ≤ 1500 := hT.1 46
      have v48 : (-1) ≤ τ_2.1 48 ∧ τ_2.1 48 ≤ 999 := hT.1 48
      have v50 : 0 ≤ τ_2.1 50 ∧ τ_2.1 50 ≤ 59 := hT.1 50
      have v51 : 0 ≤ τ_2.1 51 ∧ τ_2.1 51 ≤ 1500 := hT.1 51
      have v53 : 0 ≤ τ_2.1 53 ∧ τ_2.1 53 ≤ 58 := hT.1 53
      have a77_53 : 0 ≤ τ_2.2.1 77 (τ_2.1 53) ∧ τ_2.2.1 77 (τ_2.1 53) ≤ 999 := hT.2 77 _
      have a78_53 : (-1) ≤ τ_2.2.1 78 (τ_2.1 53) ∧ τ_2.2.1 78 (τ_2.1 53) ≤ 1499 := hT.2 78 _
      have y77_53_τ_2 : τ_2.2.1 77 (τ_2.1 53) = σ.2.1 77 (σ.1 53) := by rw [G77, W53]
      have y78_53_τ_2 : τ_2.2.1 78 (τ_2.1 53) = σ.2.1 78 (σ.1 53) := by rw [G78, W53]
      have TX : J_vs (τ_2.1 6) (τ_2.1 5) (τ_2.2.1 15) := by rw [show (J_vs (τ_2.1 6) (τ_2.1 5) (τ_2.2.1 15)) = (J_vs (σ.1 6) (σ.1 5) (σ.2.1 15)) from by rw [W5, W6, G15]]; exact TX_0
      have RKS : J_rks (τ_2.1 5) (τ_2.1 4) (τ_2.2.1 10) (τ_2.2.1 11) := by rw [show (J_rks (τ_2.1 5) (τ_2.1 4) (τ_2.2.1 10) (τ_2.2.1 11)) = (J_rks (σ.1 5) (σ.1 4) (σ.2.1 10) (σ.2.1 11)) from by rw [W4, W5, G10, G11]]; exact RKS_0
      have CJ : J_all (τ_2.1 7) (τ_2.1 6) (τ_2.1 13) (τ_2.1 14) (τ_2.1 15) (τ_2.2.1 13) (τ_2.2.1 14) (τ_2.2.1 15) (τ_2.2.1 16) (τ_2.2.1 10) (τ_2.2.1 27) (τ_2.2.1 28) (τ_2.2.1 29) (τ_2.2.1 30) (τ_2.2.1 31) (τ_2.2.1 32) (τ_2.2.1 33) (τ_2.2.1 34) (τ_2.2.1 35) (τ_2.2.1 36) (τ_2.2.1 37) := by rw [show (J_all (τ_2.1 7) (τ_2.1 6) (τ_2.1 13) (τ_2.1 14) (τ_2.1 15) (τ_2.2.1 13) (τ_2.2.1 14) (τ_2.2.1 15) (τ_2.2.1 16) (τ_2.2.1 10) (τ_2.2.1 27) (τ_2.2.1 28) (τ_2.2.1 29) (τ_2.2.1 30) (τ_2.2.1 31) (τ_2.2.1 32) (τ_2.2.1 33) (τ_2.2.1 34) (τ_2.2.1 35) (τ_2.2.1 36) (τ_2.2.1 37)) = (J_all (σ.1 7) (σ.1 6) (σ.1 13) (σ.1 14) (σ.1 15) (σ.2.1 13) (σ.2.1 14) (σ.2.1 15) (σ.2.1 16) (σ.2.1 10) (σ.2.1 27) (σ.2.1 28) (σ.2.1 29) (σ.2.1 30) (σ.2.1 31) (σ.2.1 32) (σ.2.1 33) (σ.2.1 34) (σ.2.1 35) (σ.2.1 36) (σ.2.1 37)) from by rw [W6, W7, W13, W14, W15, G10, G13, G14, G15, G16, G27, G28, G29, G30, G31, G32, G33, G34, G35, G36, G37]]; exact CJ_0
      refine h2 u1_2 τ_2 ?_
      refine ⟨fun c1 => ?_, fun c1 => ?_⟩
      ·
        have em : ∀ s e : Int, 0 ≤ s → s < σ.1 4 → ¬ g_H (τ_2.2.2 4) s (σ.1 53) e ∧ ¬ g_H (τ_2.2.2 5) s (σ.1 53) e := fun s e a b => i2_3 s e a (by omega)
        have fr2 := i2_2
        have pl0 : ∀ nd len lim (lq : Prop) (row ky par bn nof so aC aS lf : Int → Int) (In : Int → Prop), g_pl nd len (σ.1 4) lim (σ.1 53) (σ.1 53 + 1) (σ.1 53 + 1) 0 (σ.1 46) False lq row ky par bn nof so aC aS lf (σ.2.1 75) (σ.2.1 76) In (σ.2.2 4) (σ.2.2 5) (τ_2.2.2 4) (τ_2.2.2 5) (σ.2.1 79) (σ.2.1 79) := fun nd len lim lq row ky par bn nof so aC aS lf In => g_pl0 fr2 em uf
        have hw2 : ∀ s q e : Int, 0 ≤ s → s < σ.1 4 → σ.1 53 < q → q < σ.1 50 → 0 ≤ e → e < 64 → (g_H (τ_2.2.2 4) s q e → q < e ∧ e ≤ σ.1 50) ∧ (g_H (τ_2.2.2 5) s q e → g_H (τ_2.2.2 4) s q e) := fun s q e a b c d f g => by (have w := p5 s q e a b c d f g; have v := fr2 s q e (by omega) (by omega) f g (by omega); rw [v.1, v.2]; exact w)
        refine ⟨(show 0 ≤ τ_2.1 53 ∧ τ_2.1 53 < 60 from by (first | omega | (simp only [st_s] <;> omega) | assumption | omega | fail)), ?_⟩
        intro x3 r_x3 e_x3
        have b_x3 : (-1) ≤ x3 ∧ x3 ≤ 1499 := by rw [e_x3]; exact hT.2 78 _
        refine ⟨fun c4 => ?_, fun c4 => ?_⟩
        ·
          intro x5 r_x5 e_x5
          have b_x5 : 0 ≤ x5 ∧ x5 ≤ 999 := by rw [e_x5]; exact hT.2 77 _
          refine ⟨(show 0 ≤ x5 ∧ x5 < 1000 from by (first | omega | (simp only [st_s] <;> omega) | assumption | omega | fail)), ?_⟩
          intro x7 r_x7 e_x7
          have b_x7 : 0 ≤ x7 ∧ x7 ≤ 30000 := by rw [e_x7]; exact hT.2 73 _
          refine ⟨fun c8 => ?_, fun c8 => ?_⟩
          ·
            refine ⟨(⟨by (first | omega | (simp only [st_s] <;> omega) | assumption | omega | fail), by (first | omega | (simp only [st_s] <;> omega) | assumption | omega | fail)⟩ : rg (τ_2.1 53 + 1)), ?_⟩
            exact l_175 ((61 - (τ_2.1 53 + 1) : Int).toNat + 1) _ _ (show (61 - (τ_2.1 53 + 1) : Int) < (((61 - (τ_2.1 53 + 1) : Int).toNat + 1 : Nat) : Int) from by ((first | omega | (simp only [st_s] <;> omega) | assumption | omega | fail))) hT (show τ_2.1 4 = σ.1 4 from by first | exact W4 | omega) (show τ_2.1 5 = σ.1 5 from by first | exact W5 | omega) (show τ_2.1 6 = σ.1 6 from by first | exact W6 | omega) (show τ_2.1 7 = σ.1 7 from by first | exact W7 | omega) (show τ_2.1 13 = σ.1 13 from by first | exact W13 | omega) (show τ_2.1 14 = σ.1 14 from by first | exact W14 | omega) (show τ_2.1 15 = σ.1 15 from by first | exact W15 | omega) (show τ_2.1 45 = σ.1 45 from by first | exact W45 | omega) (show τ_2.1 46 = σ.1 46 from by first | exact W46 | omega) (show τ_2.1 48 = σ.1 48 from by first | exact W48 | omega) (show τ_2.1 50 = σ.1 50 from by first | exact W50 | omega) (show τ_2.1 51 = σ.1 51 from by first | exact W51 | omega) (show τ_2.1 53 = σ.1 53 from by first | exact W53 | omega) G10 G11 G13 G14 G15 G16 G27 G28 G29 G30 G31 G32 G33 G34 G35 G36 G37 G67 G68 G69 G70 G73 G74 G75 G76 G77 G78 (show (σ.1 53) < (τ_2.1 53 + 1) ∧ (τ_2.1 53 + 1) ≤ (σ.1 50) + 1 from by (first | omega | (simp only [st_s] <;> omega) | assumption | omega | fail)) (show g_pl (σ.1 45) (σ.1 50) (σ.1 4) (σ.1 51) (σ.1 53) (τ_2.1 53 + 1) (τ_2.1 53 + 1) 0 (σ.1 46) True (0 ≤ σ.2.1 78 (σ.1 53) ∧ ¬ σ.2.1 15 (σ.2.1 14 (σ.2.1 78 (σ.1 53))) = (σ.1 48)) (σ.2.1 77) (σ.2.1 69) par (σ.2.1 70) nof (g_so (σ.1 48) (σ.2.1 14) (σ.2.1 15) (σ.2.1 10)) (σ.2.1 73) (σ.2.1 74) (σ.2.1 78) (σ.2.1 75) (σ.2.1 76) In (σ.2.2 4) (σ.2.2 5) (τ_2.2.2 4) (τ_2.2.2 5) (σ.2.1 79) (τ_2.2.1 79) from by (first | (rw [W53, i2_6]; exact g_pl_c (pl0 _ _ _ _ _ _ _ _ _ _ _ _ _ _) (fun z1 z2 => by (exfalso; first | (rw [e_x7, e_x5, G73, G77, W53] at *; omega) | (rw [← W53, ← G78, ← e_x3] at z1; omega))) (fun z => by (exfalso; have z1 := z.1; first | (rw [← W53, ← G78, ← e_x3] at z1; omega) | (have a := q21_2 (by rw [W48, q18_1, e_x17, G78, W53]; exact z.2); have b := (ql z).1; rw [g_so_n z.2] at b; rw [G10, q18_1, e_x17, G78, W53] at a; omega)))) | (rw [w53_τ15, y53]; exact plc) | (rw [w53_τ29, y53]; exact g_pl_l (s0 := x22) fr2 em uf (by omega) (by omega) (by omega) (by rw [← e26]; omega) x22e ⟨by omega, rkb⟩ bx (by rw [q27_1, y53]) (by rw [q27_2, y53]) (fun s i e a b c => by (have w := q27_3 s i e a b c; rw [y53, y50, i2_6, e26] at w; exact w))) | exact g_pl_n i190_3 (by omega) | fail)) (show c_Rs τ_2 par nof In from by (first | exact i2_4 | exact rs15 | exact rs29 | exact i190_4 | fail)) (show τ_2.2.2 3 = σ.2.2 3 from by (first | exact i2_5 | exact h4.trans i2_5 | exact i190_5 | fail))
          ·
            intro x10 r_x10 e_x10
            have b_x10 : 0 ≤ x10 ∧ x10 ≤ 999 := by rw [e_x10]; exact hT.2 77 _
            refine ⟨(show 0 ≤ x10 ∧ x10 < 1000 from by (first | omega | (simp only [st_s] <;> omega) | assumption | omega | fail)), ?_⟩
            intro x12 r_x12 e_x12
            have b_x12 : 0 ≤ x12 ∧ x12 ≤ 30000 := by rw [e_x12]; exact hT.2 73 _
            have y53 := W53
            have y50 := W50
            have y4 := W4
            have y51 := W51
            have y48 := W48
            have y45 := W45
            have f77 := G77
            have f78 := G78
            have f14 := G14
            have f15 := G15
            have f10 := G10
            have f69 := G69
            have f70 := G70
            have bx := fun (e : Int) a b => j_b_one (s := σ.1 53 + 1) (k := e) (by omega) (by omega) a b
            have e12 : x12 = σ.2.1 73 (σ.2.1 77 (σ.1 53)) := by rw [e_x12, e_x10, G73, G77, W53]
            have e7x : x7 = x12 := by rw [e_x7, e_x5, e_x12, e_x10]
            have n12 := tr.2.2.1 (σ.2.1 77 (σ.1 53)) (by have := b_x5; rw [e_x5, G77, W53] at this; exact this.1) (by rw [← e12]; omega)
            rw [← e12] at n12
            have lf1 : σ.2.1 78 (σ.1 53) = -1 := by rw [← W53, ← G78, ← e_x3]; assumption
            refine ⟨_, K_X1_walk hT (show 1 ≤ x12 from by (first | omega | (simp only [st_s] <;> omega) | assumption | omega | fail)) (show x12 < (τ_2.1 45) from by (first | omega | (simp only [st_s] <;> omega) | assumption | omega | fail)) (show par x12 = 0 from by exact n12.2.1) (show 0 ≤ (1 : Int) ∧ (1 : Int) ≤ 1 from by (first | omega | (simp only [st_s] <;> omega) | assumption | omega | fail)) (show J_all (τ_2.1 7) (τ_2.1 6) (τ_2.1 13) (τ_2.1 14) (τ_2.1 15) (τ_2.2.1 13) (τ_2.2.1 14) (τ_2.2.1 15) (τ_2.2.1 16) (τ_2.2.1 10) (τ_2.2.1 27) (τ_2.2.1 28) (τ_2.2.1 29) (τ_2.2.1 30) (τ_2.2.1 31) (τ_2.2.1 32) (τ_2.2.1 33) (τ_2.2.1 34) (τ_2.2.1 35) (τ_2.2.1 36) (τ_2.2.1 37) from CJ) (show c_Rs τ_2 par nof In from by exact i2_4) (show (τ_2.1 53) < (τ_2.1 50) from by (first | omega | (simp only [st_s] <;> omega) | assumption | omega | fail)) (show ∀ e : Int, 0 ≤ e → e < 64 → j_b (j_shl 1 (τ_2.1 53 + 1)) e → (τ_2.1 53) < e ∧ e ≤ (τ_2.1 50) from by (intro e a b z; rw [y53] at z; have ee := (bx e a b).mp z; omega)) (show ∀ e : Int, 0 ≤ e → e < 64 → j_b (0 : Int64) e → j_b (j_shl 1 (τ_2.1 53 + 1)) e from by (intro e a b z; exact absurd z (j_b_0 e))) (show ∀ s q : Int, 0 ≤ s → s < 1000 → 0 ≤ q → q < 64 → (j_b (τ_2.2.2 3 s) q ↔ q < (τ_2.1 50) ∧ τ_2.2.1 77 q = s) from by (rw [i2_5, W50, G77]; exact p4)) (show ∀ s q e : Int, 0 ≤ s → s < (τ_2.1 4) → (τ_2.1 53) < q → q < (τ_2.1 50) → 0 ≤ e → e < 64 → (g_H (τ_2.2.2 4) s q e → q < e ∧ e ≤ (τ_2.1 50)) ∧ (g_H (τ_2.2.2 5) s q e → g_H (τ_2.2.2 4) s q e) from by (rw [W53, W50, W4]; exact hw2)), ?_⟩
            intro τ15 hn_τ15 hf_τ15 hq
            obtain ⟨hT, q13_1, q13_2⟩ := hq
            replace q13_1 : g_wr (τ_2.1 53) (τ_2.1 50) (τ_2.1 4) (τ_2.1 51) (fun e => ∃ p : Int, 0 ≤ p ∧ p < 64 ∧ j_b (j_shl 1 (τ_2.1 53 + 1)) p ∧ (p < e ∨ (¬ (1 : Int) = 0 ∧ p = e))) (fun rn => ∃ rc : Int → Int → Prop, (∀ e : Int, 0 ≤ e → e < 64 → j_b (j_shl 1 (τ_2.1 53 + 1)) e → rc x12 e) ∧ (∀ n c q q2 : Int, 1 ≤ c → par c = n → (τ_2.1 53) < q → rc n q → g_mk (τ_2.1 50) (τ_2.2.1 77) (g_H (τ_2.2.2 4)) (τ_2.2.1 69 c) q q2 → rc c q2) ∧ ∀ n e : Int, rc n e → (n ≠ x12 ∨ ¬ (1 : Int) = 0) → rn n e) (τ_2.2.2 4) (τ_2.2.2 5) (τ15.2.2 4) (τ15.2.2 5) (τ_2.2.1 79) (τ15.2.1 79) (τ_2.2.1 78) (g_so (τ_2.1 48) (τ_2.2.1 14) (τ_2.2.1 15) (τ_2.2.1 10)) nof In := q13_1
            replace q13_2 : g_wc (τ_2.1 45) (τ_2.1 50) (τ_2.1 53) (τ_2.1 51) (τ_2.2.1 77) (τ_2.2.1 69) par (τ_2.2.1 70) nof (g_so (τ_2.1 48) (τ_2.2.1 14) (τ_2.2.1 15) (τ_2.2.1 10)) In (g_H (τ_2.2.2 4)) (g_H (τ_2.2.2 5)) (j_shl 1 (τ_2.1 53 + 1)) (0 : Int64) x12 (¬ (1 : Int) = 0) (τ15.2.2 4) (τ15.2.2 5) (τ15.2.1 79) := q13_2
            have w4_τ15 : τ15.1 4 = τ_2.1 4 := hf_τ15.1 4 (by decide)
            have w5_τ15 : τ15.1 5 = τ_2.1 5 := hf_τ15.1 5 (by decide)
            have w6_τ15 : τ15.1 6 = τ_2.1 6 := hf_τ15.1 6 (by decide)
            have w7_τ15 : τ15.1 7 = τ_2.1 7 := hf_τ15.1 7 (by decide)
            have w13_τ15 : τ15.1 13 = τ_2.1 13 := hf_τ15.1 13 (by decide)
            have w14_τ15 : τ15.1 14 = τ_2.1 14 := hf_τ15.1 14 (by decide)
            have w15_τ15 : τ15.1 15 = τ_2.1 15 := hf_τ15.1 15 (by decide)
            have w45_τ15 : τ15.1 45 = τ_2.1 45 := hf_τ15.1 45 (by decide)
            have w46_τ15 : τ15.1 46 = τ_2.1 46 := hf_τ15.1 46 (by decide)
            have w48_τ15 : τ15.1 48 = τ_2.1 48 := hf_τ15.1 48 (by decide)
            have w50_τ15 : τ15.1 50 = τ_2.1 50 := hf_τ15.1 50 (by decide)
            have w51_τ15 : τ15.1 51 = τ_2.1 51 := hf_τ15.1 51 (by decide)
            have w53_τ15 : τ15.1 53 = τ_2.1 53 := hf_τ15.1 53 (by decide)
            have g10_τ15 : τ15.2.1 10 = τ_2.2.1 10 := hf_τ15.2.1 10 (by decide)
            have g11_τ15 : τ15.2.1 11 = τ_2.2.1 11 := hf_τ15.2.1 11 (by decide)
            have g13_τ15 : τ15.2.1 13 = τ_2.2.1 13 := hf_τ15.2.1 13 (by decide)
            have g14_τ15 : τ15.2.1 14 = τ_2.2.1 14 := hf_τ15.2.1 14 (by decide)
            have g15_τ15 : τ15.2.1 15 = τ_2.2.1 15 := hf_τ15.2.1 15 (by decide)
            have g16_τ15 : τ15.2.1 16 = τ_2.2.1 16 := hf_τ15.2.1 16 (by decide)
            have g27_τ15 : τ15.2.1 27 = τ_2.2.1 27 := hf_τ15.2.1 27 (by decide)
            have g28_τ15 : τ15.2.1 28 = τ_2.2.1 28 := hf_τ15.2.1 28 (by decide)
            have g29_τ15 : τ15.2.1 29 = τ_2.2.1 29 := hf_τ15.2.1 29 (by decide)
            have g30_τ15 : τ15.2.1 30 = τ_2.2.1 30 := hf_τ15.2.1 30 (by decide)
            have g31_τ15 : τ15.2.1 31 = τ_2.2.1 31 := hf_τ15.2.1 31 (by decide)
            have g32_τ15 : τ15.2.1 32 = τ_2.2.1 32 := hf_τ15.2.1 32 (by decide)
            have g33_τ15 : τ15.2.1 33 = τ_2.2.1 33 := hf_τ15.2.1 33 (by decide)
            have g34_τ15 : τ15.2.1 34 = τ_2.2.1 34 := hf_τ15.2.1 34 (by decide)
            have g35_τ15 : τ15.2.1 35 = τ_2.2.1 35 := hf_τ15.2.1 35 (by decide)
            have g36_τ15 : τ15.2.1 36 = τ_2.2.1 36 := hf_τ15.2.1 36 (by decide)
            have g37_τ15 : τ15.2.1 37 = τ_2.2.1 37 := hf_τ15.2.1 37 (by decide)
            have g67_τ15 : τ15.2.1 67 = τ_2.2.1 67 := hf_τ15.2.1 67 (by decide)
            have g68_τ15 : τ15.2.1 68 = τ_2.2.1 68 := hf_τ15.2.1 68 (by decide)
            have g69_τ15 : τ15.2.1 69 = τ_2.2.1 69 := hf_τ15.2.1 69 (by decide)
            have g70_τ15 : τ15.2.1 70 = τ_2.2.1 70 := hf_τ15.2.1 70 (by decide)
            have g73_τ15 : τ15.2.1 73 = τ_2.2.1 73 := hf_τ15.2.1 73 (by decide)
            have g74_τ15 : τ15.2.1 74 = τ_2.2.1 74 := hf_τ15.2.1 74 (by decide)
            have g75_τ15 : τ15.2.1 75 = τ_2.2.1 75 := hf_τ15.2.1 75 (by decide)
            have g76_τ15 : τ15.2.1 76 = τ_2.2.1 76 := hf_τ15.2.1 76 (by decide)
            have g77_τ15 : τ15.2.1 77 = τ_2.2.1 77 := hf_τ15.2.1 77 (by decide)
            have g78_τ15 : τ15.2.1 78 = τ_2.2.1 78 := hf_τ15.2.1 78 (by decide)
            have W4 : τ15.1 4 = σ.1 4 := by first | exact w4_τ15.trans W4 | omega
            have W5 : τ15.1 5 = σ.1 5 := by first | exact w5_τ15.trans W5 | omega
            have W6 : τ15.1 6 = σ.1 6 := by first | exact w6_τ15.trans W6 | omega
            have W7 : τ15.1 7 = σ.1 7 := by first | exact w7_τ15.trans W7 | omega
            have W13 : τ15.1 13 = σ.1 13 := by first | exact w13_τ15.trans W13 | omega
            have W14 : τ15.1 14 = σ.1 14 := by first | exact w14_τ15.trans W14 | omega
            have W15 : τ15.1 15 = σ.1 15 := by first | exact w15_τ15.trans W15 | omega
            have W45 : τ15.1 45 = σ.1 45 := by first | exact w45_τ15.trans W45 | omega
            have W46 : τ15.1 46 = σ.1 46 := by first | exact w46_τ15.trans W46 | omega
            have W48 : τ15.1 48 = σ.1 48 := by first | exact w48_τ15.trans W48 | omega
            have W50 : τ15.1 50 = σ.1 50 := by first | exact w50_τ15.trans W50 | omega
            have W51 : τ15.1 51 = σ.1 51 := by first | exact w51_τ15.trans W51 | omega
            have W53 : τ15.1 53 = σ.1 53 := by first | exact w53_τ15.trans W53 | omega
            have G10 : τ15.2.1 10 = σ.2.1 10 := (g10_τ15).trans G10
            have G11 : τ15.2.1 11 = σ.2.1 11 := (g11_τ15).trans G11
            have G13 : τ15.2.1 13 = σ.2.1 13 := (g13_τ15).trans G13
            have G14 : τ15.2.1 14 = σ.2.1 14 := (g14_τ15).trans G14
            have G15 : τ15.2.1 15 = σ.2.1 15 := (g15_τ15).trans G15
            have G16 : τ15.2.1 16 = σ.2.1 16 := (g16_τ15).trans G16
            have G27 : τ15.2.1 27 = σ.2.1 27 := (g27_τ15).trans G27
            have G28 : τ15.2.1 28 = σ.2.1 28 := (g28_τ15).trans G28
            have G29 : τ15.2.1 29 = σ.2.1 29 := (g29_τ15).trans G29
            have G30 : τ15.2.1 30 = σ.2.1 30 := (g30_τ15).trans G30
            have G31 : τ15.2.1 31 = σ.2.1 31 := (g31_τ15).trans G31
            have G32 : τ15.2.1 32 = σ.2.1 32 := (g32_τ15).trans G32
            have G33 : τ15.2.1 33 = σ.2.1 33 := (g33_τ15).trans G33
            have G34 : τ15.2.1 34 = σ.2.1 34 := (g34_τ15).trans G34
            have G35 : τ15.2.1 35 = σ.2.1 35 := (g35_τ15).trans G35
            have G36 : τ15.2.1 36 = σ.2.1 36 := (g36_τ15).trans G36
            have G37 : τ15.2.1 37 = σ.2.1 37 := (g37_τ15).trans G37
            have G67 : τ15.2.1 67 = σ.2.1 67 := (g67_τ15).trans G67
            have G68 : τ15.2.1 68 = σ.2.1 68 := (g68_τ15).trans G68
            have G69 : τ15.2.1 69 = σ.2.1 69 := (g69_τ15).trans G69
            have G70 : τ15.2.1 70 = σ.2.1 70 := (g70_τ15).trans G70
            have G73 : τ15.2.1 73 = σ.2.1 73 := (g73_τ15).trans G73
            have G74 : τ15.2.1 74 = σ.2.1 74 := (g74_τ15).trans G74
            have G75 : τ15.2.1 75 = σ.2.1 75 := (g75_τ15).trans G75
            have G76 : τ15.2.1 76 = σ.2.1 76 := (g76_τ15).trans G76
            have G77 : τ15.2.1 77 = σ.2.1 77 := (g77_τ15).trans G77
            have G78 : τ15.2.1 78 = σ.2.1 78 := (g78_τ15).trans G78
            have y77_53_τ15 : τ15.2.1 77 (τ15.1 53) = (τ_2.2.1 77) (τ_2.1 53) := by rw [g77_τ15, w53_τ15]
            have y78_53_τ15 : τ15.2.1 78 (τ15.1 53) = (τ_2.2.1 78) (τ_2.1 53) := by rw [g78_τ15, w53_τ15]
            have TX : J_vs (τ15.1 6) (τ15.1 5) (τ15.2.1 15) := by rw [show (J_vs (τ15.1 6) (τ15.1 5) (τ15.2.1 15)) = (J_vs (τ_2.1 6) (τ_2.1 5) (τ_2.2.1 15)) from by rw [w5_τ15, w6_τ15, g15_τ15]]; exact TX
            have RKS : J_rks (τ15.1 5) (τ15.1 4) (τ15.2.1 10) (τ15.2.1 11) := by rw [show (J_rks (τ15.1 5) (τ15.1 4) (τ15.2.1 10) (τ15.2.1 11)) = (J_rks (τ_2.1 5) (τ_2.1 4) (τ_2.2.1 10) (τ_2.2.1 11)) from by rw [w4_τ15, w5_τ15, g10_τ15, g11_τ15]]; exact RKS
            have CJ : J_all (τ15.1 7) (τ15.1 6) (τ15.1 13) (τ15.1 14) (τ15.1 15) (τ15.2.1 13) (τ15.2.1 14) (τ15.2.1 15) (τ15.2.1 16) (τ15.2.1 10) (τ15.2.1 27) (τ15.2.1 28) (τ15.2.1 29) (τ15.2.1 30) (τ15.2.1 31) (τ15.2.1 32) (τ15.2.1 33) (τ15.2.1 34) (τ15.2.1 35) (τ15.2.1 36) (τ15.2.1 37) := by rw [show (J_all (τ15.1 7) (τ15.1 6) (τ15.1 13) (τ15.1 14) (τ15.1 15) (τ15.2.1 13) (τ15.2.1 14) (τ15.2.1 15) (τ15.2.1 16) (τ15.2.1 10) (τ15.2.1 27) (τ15.2.1 28) (τ15.2.1 29) (τ15.2.1 30) (τ15.2.1 31) (τ15.2.1 32) (τ15.2.1 33) (τ15.2.1 34) (τ15.2.1 35) (τ15.2.1 36) (τ15.2.1 37)) = (J_all (τ_2.1 7) (τ_2.1 6) (τ_2.1 13) (τ_2.1 14) (τ_2.1 15) (τ_2.2.1 13) (τ_2.2.1 14) (τ_2.2.1 15) (τ_2.2.1 16) (τ_2.2.1 10) (τ_2.2.1 27) (τ_2.2.1 28) (τ_2.2.1 29) (τ_2.2.1 30) (τ_2.2.1 31) (τ_2.2.1 32) (τ_2.2.1 33) (τ_2.2.1 34) (τ_2.2.1 35) (τ_2.2.1 36) (τ_2.2.1 37)) from by rw [w6_τ15, w7_τ15, w13_τ15, w14_τ15, w15_τ15, g10_τ15, g13_τ15, g14_τ15, g15_τ15, g16_τ15, g27_τ15, g28_τ15, g29_τ15, g30_τ15, g31_τ15, g32_τ15, g33_τ15, g34_τ15, g35_τ15, g36_τ15, g37_τ15]]; exact CJ
            have A10 : ∀ j, (-1) ≤ τ15.2.1 10 j ∧ τ15.2.1 10 j ≤ 99 := fun j => hT.2 10 j
            have A11 : ∀ j, 0 ≤ τ15.2.1 11 j ∧ τ15.2.1 11 j ≤ 999 := fun j => hT.2 11 j
            have A13 : ∀ j, 0 ≤ τ15.2.1 13 j ∧ τ15.2.1 13 j ≤ 4 := fun j => hT.2 13 j
            have A14 : ∀ j, 0 ≤ τ15.2.1 14 j ∧ τ15.2.1 14 j ≤ 30000 := fun j => hT.2 14 j
            have A15 : ∀ j, 0 ≤ τ15.2.1 15 j ∧ τ15.2.1 15 j ≤ 999 := fun j => hT.2 15 j
            have A16 : ∀ j, (-1) ≤ τ15.2.1 16 j ∧ τ15.2.1 16 j ≤ 1499 := fun j => hT.2 16 j
            have A27 : ∀ j, 0 ≤ τ15.2.1 27 j ∧ τ15.2.1 27 j ≤ 90000 := fun j => hT.2 27 j
            have A28 : ∀ j, 0 ≤ τ15.2.1 28 j ∧ τ15.2.1 28 j ≤ 60 := fun j => hT.2 28 j
            have A29 : ∀ j, 0 ≤ τ15.2.1 29 j ∧ τ15.2.1 29 j ≤ 1499 := fun j => hT.2 29 j
            have A30 : ∀ j, 0 ≤ τ15.2.1 30 j ∧ τ15.2.1 30 j ≤ 20000 := fun j => hT.2 30 j
            have A31 : ∀ j, 0 ≤ τ15.2.1 31 j ∧ τ15.2.1 31 j ≤ 20000 := fun j => hT.2 31 j
            have A32 : ∀ j, 0 ≤ τ15.2.1 32 j ∧ τ15.2.1 32 j ≤ 999999 := fun j => hT.2 32 j
            have A33 : ∀ j, 0 ≤ τ15.2.1 33 j ∧ τ15.2.1 33 j ≤ 20000 := fun j => hT.2 33 j
            have A34 : ∀ j, 0 ≤ τ15.2.1 34 j ∧ τ15.2.1 34 j ≤ 20000 := fun j => hT.2 34 j
            have A35 : ∀ j, 0 ≤ τ15.2.1 35 j ∧ τ15.2.1 35 j ≤ 1499 := fun j => hT.2 35 j
            have A36 : ∀ j, 0 ≤ τ15.2.1 36 j ∧ τ15.2.1 36 j ≤ 20000 := fun j => hT.2 36 j
            have A37 : ∀ j, 0 ≤ τ15.2.1 37 j ∧ τ15.2.1 37 j ≤ 19999 := fun j => hT.2 37 j
            have A67 : ∀ j, 0 ≤ τ15.2.1 67 j ∧ τ15.2.1 67 j ≤ 30000 := fun j => hT.2 67 j
            have A68 : ∀ j, 0 ≤ τ15.2.1 68 j ∧ τ15.2.1 68 j ≤ 30000 := fun j => hT.2 68 j
            have A69 : ∀ j, (-100) ≤ τ15.2.1 69 j ∧ τ15.2.1 69 j ≤ 999 := fun j => hT.2 69 j
            have A70 : ∀ j, 0 ≤ τ15.2.1 70 j ∧ τ15.2.1 70 j ≤ 1499 := fun j => hT.2 70 j
            have A73 : ∀ j, 0 ≤ τ15.2.1 73 j ∧ τ15.2.1 73 j ≤ 30000 := fun j => hT.2 73 j
            have A74 : ∀ j, 0 ≤ τ15.2.1 74 j ∧ τ15.2.1 74 j ≤ 30000 := fun j => hT.2 74 j
            have A75 : ∀ j, 0 ≤ τ15.2.1 75 j ∧ τ15.2.1 75 j ≤ 1499 := fun j => hT.2 75 j
            have A76 : ∀ j, 0 ≤ τ15.2.1 76 j ∧ τ15.2.1 76 j ≤ 99 := fun j => hT.2 76 j
            have A77 : ∀ j, 0 ≤ τ15.2.1 77 j ∧ τ15.2.1 77 j ≤ 999 := fun j => hT.2 77 j
            have A78 : ∀ j, (-1) ≤ τ15.2.1 78 j ∧ τ15.2.1 78 j ≤ 1499 := fun j => hT.2 78 j
            have A79 : ∀ j, 0 ≤ τ15.2.1 79 j ∧ τ15.2.1 79 j ≤ 1499 := fun j => hT.2 79 j
            have v4 : 0 ≤ τ15.1 4 ∧ τ15.1 4 ≤ 100 := hT.1 4
            have v5 : 0 ≤ τ15.1 5 ∧ τ15.1 5 ≤ 1000 := hT.1 5
            have v6 : 0 ≤ τ15.1 6 ∧ τ15.1 6 ≤ 30000 := hT.1 6
            have v7 : 0 ≤ τ15.1 7 ∧ τ15.1 7 ≤ 1500 := hT.1 7
            have v13 : 0 ≤ τ15.1 13 ∧ τ15.1 13 ≤ 90000 := hT.1 13
            have v14 : 0 ≤ τ15.1 14 ∧ τ15.1 14 ≤ 20000 := hT.1 14
            have v15 : 0 ≤ τ15.1 15 ∧ τ15.1 15 ≤ 20000 := hT.1 15
            have v45 : 1 ≤ τ15.1 45 ∧ τ15.1 45 ≤ 30001 := hT.1 45
            have v46 : 0 ≤ τ15.1 46 ∧ τ15.1 46 ≤ 1500 := hT.1 46
            have v48 : (-1) ≤ τ15.1 48 ∧ τ15.1 48 ≤ 999 := hT.1 48
            have v50 : 0 ≤ τ15.1 50 ∧ τ15.1 50 ≤ 59 := hT.1 50
            have v51 : 0 ≤ τ15.1 51 ∧ τ15.1 51 ≤ 1500 := hT.1 51
            have v53 : 0 ≤ τ15.1 53 ∧ τ15.1 53 ≤ 58 := hT.1 53
            have a77_53 : 0 ≤ τ15.2.1 77 (τ15.1 53) ∧ τ15.2.1 77 (τ15.1 53) ≤ 999 := hT.2 77 _
            have a78_53 : (-1) ≤ τ15.2.1 78 (τ15.1 53) ∧ τ15.2.1 78 (τ15.1 53) ≤ 1499 := hT.2 78 _
            have h4 := hf_τ15.2.2 3 (by decide)
            have rs15 := c_Rs_h (show c_Rs τ_2 par nof In from i2_4) hf_τ15 rfl
            rw [y53, y50, y4, y51, y48, f77, f78, f14, f15, f10, f69, i2_6] at q13_1
            rw [y53, y50, y45, y51, y48, f77, f14, f15, f10, f69, f70] at q13_2
            have rcs := g_rcs (len := σ.1 50) (u := σ.1 53 + 1) (sp := σ.1 53) (b := x12) (n6 := 1) (row := σ.2.1 77) (ky := σ.2.1 69) (par := par) (lf := σ.2.1 78) (x := j_shl 1 (σ.1 53 + 1)) (c4 := τ_2.2.2 4) (d4 := τ15.2.2 4) (fun s i e a b c => (q13_1.1 s i e a b c).1) (by omega) (by omega) (by omega) n12.2.1 (fun e a b z => by (have ee := (bx e a b).mp z; exact ⟨by omega, Or.inl ⟨by rw [n12.2.2]; exact (s77 _).1, by rw [n12.2.2], ee⟩⟩)) (fun _ => lf1) (fun _ => by rw [n12.2.2]; exact (s77 _).1)
            have plt := g_pl_t (pl0 (σ.1 45) (σ.1 50) (σ.1 51) (0 ≤ σ.2.1 78 (σ.1 53) ∧ ¬ σ.2.1 15 (σ.2.1 14 (σ.2.1 78 (σ.1 53))) = (σ.1 48)) (σ.2.1 77) (σ.2.1 69) par (σ.2.1 70) nof (g_so (σ.1 48) (σ.2.1 14) (σ.2.1 15) (σ.2.1 10)) (σ.2.1 73) (σ.2.1 74) (σ.2.1 78) In) q13_1 (fun e a h => by (obtain ⟨p, p0, p1, p2, p3⟩ := h; have := (bx p p0 p1).mp p2; omega)) rcs (by omega) (by omega) (by omega) (Or.inr ⟨by omega, by omega⟩)
            have plc := g_pl_c plt (fun _ _ => by (rw [← e12]; exact g_wq_i (g_wq_w q13_2 (q13_1.1) ((bx _ (by omega) (by omega)).mpr rfl) (by omega) (by omega) (by omega) (by omega) False.elim) (fun _ => by decide))) (fun z => by (exfalso; have := z.1; omega))
            refine ⟨(⟨by (first | omega | (simp only [st_s] <;> omega) | assumption | omega | fail), by (first | omega | (simp only [st_s] <;> omega) | assumption | omega | fail)⟩ : rg (τ15.1 53 + 1)), ?_⟩
            exact l_175 ((61 - (τ15.1 53 + 1) : Int).toNat + 1) _ _ (show (61 - (τ15.1 53 + 1) : Int) < (((61 - (τ15.1 53 + 1) : Int).toNat + 1 : Nat) : Int) from by ((first | omega | (simp only [st_s] <;> omega) | assumption | omega | fail))) hT (show τ15.1 4 = σ.1 4 from by first | exact W4 | omega) (show τ15.1 5 = σ.1 5 from by first | exact W5 | omega) (show τ15.1 6 = σ.1 6 from by first | exact W6 | omega) (show τ15.1 7 = σ.1 7 from by first | exact W7 | omega) (show τ15.1 13 = σ.1 13 from by first | exact W13 | omega) (show τ15.1 14 = σ.1 14 from by first | exact W14 | omega) (show τ15.1 15 = σ.1 15 from by first | exact W15 | omega) (show τ15.1 45 = σ.1 45 from by first | exact W45 | omega) (show τ15.1 46 = σ.1 46 from by first | exact W46 | omega) (show τ15.1 48 = σ.1 48 from by first | exact W48 | omega) (show τ15.1 50 = σ.1 50 from by first | exact W50 | omega) (show τ15.1 51 = σ.1 51 from by first | exact W51 | omega) (show τ15.1 53 = σ.1 53 from by first | exact W53 | omega) G10 G11 G13 G14 G15 G16 G27 G28 G29 G30 G31 G32 G33 G34 G35 G36 G37 G67 G68 G69 G70 G73 G74 G75 G76 G77 G78 (show (σ.1 53) < (τ15.1 53 + 1) ∧ (τ15.1 53 + 1) ≤ (σ.1 50) + 1 from by (first | omega | (simp only [st_s] <;> omega) | assumption | omega | fail)) (show g_pl (σ.1 45) (σ.1 50) (σ.1 4) (σ.1 51) (σ.1 53) (τ15.1 53 + 1) (τ15.1 53 + 1) 0 (σ.1 46) True (0 ≤ σ.2.1 78 (σ.1 53) ∧ ¬ σ.2.1 15 (σ.2.1 14 (σ.2.1 78 (σ.1 53))) = (σ.1 48)) (σ.2.1 77) (σ.2.1 69) par (σ.2.1 70) nof (g_so (σ.1 48) (σ.2.1 14) (σ.2.1 15) (σ.2.1 10)) (σ.2.1 73) (σ.2.1 74) (σ.2.1 78) (σ.2.1 75) (σ.2.1 76) In (σ.2.2 4) (σ.2.2 5) (τ15.2.2 4) (τ15.2.2 5) (σ.2.1 79) (τ15.2.1 79) from by (first | (rw [W53, i2_6]; exact g_pl_c (pl0 _ _ _ _ _ _ _ _ _ _ _ _ _ _) (fun z1 z2 => by (exfalso; first | (rw [e_x7, e_x5, G73, G77, W53] at *; omega) | (rw [← W53, ← G78, ← e_x3] at z1; omega))) (fun z => by (exfalso; have z1 := z.1; first | (rw [← W53, ← G78, ← e_x3] at z1; omega) | (have a := q21_2 (by rw [W48, q18_1, e_x17, G78, W53]; exact z.2); have b := (ql z).1; rw [g_so_n z.2] at b; rw [G10, q18_1, e_x17, G78, W53] at a; omega)))) | (rw [w53_τ15, y53]; exact plc) | (rw [w53_τ29, y53]; exact g_pl_l (s0 := x22) fr2 em uf (by omega) (by omega) (by omega) (by rw [← e26]; omega) x22e ⟨by omega, rkb⟩ bx (by rw [q27_1, y53]) (by rw [q27_2, y53]) (fun s i e a b c => by (have w := q27_3 s i e a b c; rw [y53, y50, i2_6, e26] at w; exact w))) | exact g_pl_n i190_3 (by omega) | fail)) (show c_Rs τ15 par nof In from by (first | exact i2_4 | exact rs15 | exact rs29 | exact i190_4 | fail)) (show τ15.2.2 3 = σ.2.2 3 from by (first | exact i2_5 | exact h4.trans i2_5 | exact i190_5 | fail))
        ·
          intro x17 r_x17 e_x17
          have b_x17 : (-1) ≤ x17 ∧ x17 ≤ 1499 := by rw [e_x17]; exact hT.2 78 _
          have e17 : x17 = σ.2.1 78 (σ.1 53) := by rw [e_x17, G78, W53]
          have e3 : x3 = σ.2.1 78 (σ.1 53) := by rw [e_x3, G78, W53]
          have lfb := p8 (σ.1 53) (by omega) (by omega)
          have b78 := A78 (τ_2.1 53)
          have jt1 := jts x17 (by omega) (by omega)
          have t14 := s14 (x17 + 1)
          refine ⟨_, K_X3_typeOf hT (show 0 ≤ x17 from by (first | omega | (simp only [st_s] <;> omega) | assumption | omega | fail)) (show x17 ≤ 1500 from by (first | omega | (simp only [st_s] <;> omega) | assumption | omega | fail)) (show τ_2.2.1 14 x17 < 30000 from by (rw [G14]; omega)), ?_⟩
          intro x19 r_x19 hq
          obtain ⟨q18_1, q18_2⟩ := hq
          replace q18_1 : x19 = τ_2.2.1 15 (τ_2.2.1 14 x17) := q18_1
          replace q18_2 : 0 ≤ x19 ∧ x19 ≤ 999 := q18_2
          rw [G14, G15] at q18_1
          refine ⟨_, K2_X8_sortRank hT (show 0 ≤ x19 from by (first | omega | (simp only [st_s] <;> omega) | assumption | omega | fail)) (show x19 < 1000 from by (first | omega | (simp only [st_s] <;> omega) | assumption | omega | fail)), ?_⟩
          intro x22 r_x22 hq
          obtain ⟨q21_1, q21_2, q21_3⟩ := hq
          replace q21_1 : -1 ≤ x22 ∧ x22 ≤ 99 := q21_1
          replace q21_2 : ¬ x19 = (τ_2.1 48) → x22 = τ_2.2.1 10 x19 := q21_2
          replace q21_3 : x19 = (τ_2.1 48) → x22 = -1 := q21_3
          refine ⟨fun c24 => ?_, fun c24 => ?_⟩
          ·
            refine ⟨(⟨by (first | omega | (simp only [st_s] <;> omega) | assumption | omega | fail), by (first | omega | (simp only [st_s] <;> omega) | assumption | omega | fail)⟩ : rg (τ_2.1 53 + 1)), ?_⟩
            exact l_175 ((61 - (τ_2.1 53 + 1) : Int).toNat + 1) _ _ (show (61 - (τ_2.1 53 + 1) : Int) < (((61 - (τ_2.1 53 + 1) : Int).toNat + 1 : Nat) : Int) from by ((first | omega | (simp only [st_s] <;> omega) | assumption | omega | fail))) hT (show τ_2.1 4 = σ.1 4 from by first | exact W4 | omega) (show τ_2.1 5 = σ.1 5 from by first | exact W5 | omega) (show τ_2.1 6 = σ.1 6 from by first | exact W6 | omega) (show τ_2.1 7 = σ.1 7 from by first | exact W7 | omega) (show τ_2.1 13 = σ.1 13 from by first | exact W13 | omega) (show τ_2.1 14 = σ.1 14 from by first | exact W14 | omega) (show τ_2.1 15 = σ.1 15 from by first | exact W15 | omega) (show τ_2.1 45 = σ.1 45 from by first | exact W45 | omega) (show τ_2.1 46 = σ.1 46 from by first | exact W46 | omega) (show τ_2.1 48 = σ.1 48 from by first | exact W48 | omega) (show τ_2.1 50 = σ.1 50 from by first | exact W50 | omega) (show τ_2.1 51 = σ.1 51 from by first | exact W51 | omega) (show τ_2.1 53 = σ.1 53 from by first | exact W53 | omega) G10 G11 G13 G14 G15 G16 G27 G28 G29 G30 G31 G32 G33 G34 G35 G36 G37 G67 G68 G69 G70 G73 G74 G75 G76 G77 G78 (show (σ.1 53) < (τ_2.1 53 + 1) ∧ (τ_2.1 53 + 1) ≤ (σ.1 50) + 1 from by (first | omega | (simp only [st_s] <;> omega) | assumption | omega | fail)) (show g_pl (σ.1 45) (σ.1 50) (σ.1 4) (σ.1 51) (σ.1 53) (τ_2.1 53 + 1) (τ_2.1 53 + 1) 0 (σ.1 46) True (0 ≤ σ.2.1 78 (σ.1 53) ∧ ¬ σ.2.1 15 (σ.2.1 14 (σ.2.1 78 (σ.1 53))) = (σ.1 48)) (σ.2.1 77) (σ.2.1 69) par (σ.2.1 70) nof (g_so (σ.1 48) (σ.2.1 14) (σ.2.1 15) (σ.2.1 10)) (σ.2.1 73) (σ.2.1 74) (σ.2.1 78) (σ.2.1 75) (σ.2.1 76) In (σ.2.2 4) (σ.2.2 5) (τ_2.2.2 4) (τ_2.2.2 5) (σ.2.1 79) (τ_2.2.1 79) from by (first | (rw [W53, i2_6]; exact g_pl_c (pl0 _ _ _ _ _ _ _ _ _ _ _ _ _ _) (fun z1 z2 => by (exfalso; first | (rw [e_x7, e_x5, G73, G77, W53] at *; omega) | (rw [← W53, ← G78, ← e_x3] at z1; omega))) (fun z => by (exfalso; have z1 := z.1; first | (rw [← W53, ← G78, ← e_x3] at z1; omega) | (have a := q21_2 (by rw [W48, q18_1, e_x17, G78, W53]; exact z.2); have b := (ql z).1; rw [g_so_n z.2] at b; rw [G10, q18_1, e_x17, G78, W53] at a; omega)))) | (rw [w53_τ15, y53]; exact plc) | (rw [w53_τ29, y53]; exact g_pl_l (s0 := x22) fr2 em uf (by omega) (by omega) (by omega) (by rw [← e26]; omega) x22e ⟨by omega, rkb⟩ bx (by rw [q27_1, y53]) (by rw [q27_2, y53]) (fun s i e a b c => by (have w := q27_3 s i e a b c; rw [y53, y50, i2_6, e26] at w; exact w))) | exact g_pl_n i190_3 (by omega) | fail)) (show c_Rs τ_2 par nof In from by (first | exact i2_4 | exact rs15 | exact rs29 | exact i190_4 | fail)) (show τ_2.2.2 3 = σ.2.2 3 from by (first | exact i2_5 | exact h4.trans i2_5 | exact i190_5 | fail))
          ·
            intro x26 r_x26 e_x26
            have b_x26 : (-1) ≤ x26 ∧ x26 ≤ 1499 := by rw [e_x26]; exact hT.2 78 _
            have y53 := W53
            have y50 := W50
            have bx := fun (e : Int) a b => j_b_one (s := σ.1 53 + 1) (k := e) (by omega) (by omega) a b
            have e26 : x26 = σ.2.1 78 (σ.1 53) := by rw [e_x26, G78, W53]
            have e17 : x17 = σ.2.1 78 (σ.1 53) := by rw [e_x17, G78, W53]
            have hnp : ¬ x19 = σ.1 48 := fun z => absurd (q21_3 (z.trans W48.symm)) (by assumption)
            have q2e := q21_2 (fun z => absurd (q21_3 z) (by assumption))
            rw [G10] at q2e
            have x22e : x22 = g_so (σ.1 48) (σ.2.1 14) (σ.2.1 15) (σ.2.1 10) (σ.2.1 78 (σ.1 53)) := by (rw [g_so_n (by rw [← e17, ← q18_1]; exact hnp), q2e, q18_1, e17])
            have rkb : x22 < σ.1 4 := by (rw [q2e]; exact (p6.2 x19 (by omega) (by rw [q18_1]; exact p7 (σ.2.1 14 x17) (s14 _).1 (by omega))).1)
            refine ⟨_, K_X1_add hT (show 0 ≤ x22 from by (first | omega | (simp only [st_s] <;> omega) | assumption | omega | fail)) (show x22 < 100 from by (first | omega | (simp only [st_s] <;> omega) | assumption | omega | fail)) (show 0 ≤ x26 from by (first | omega | (simp only [st_s] <;> omega) | assumption | omega | fail)) (show x26 < 1500 from by (first | omega | (simp only [st_s] <;> omega) | assumption | omega | fail)) (show (τ_2.1 53) < (τ_2.1 50) from by (first | omega | (simp only [st_s] <;> omega) | assumption | omega | fail)), ?_⟩
            intro τ29 hn_τ29 hf_τ29 hq
            obtain ⟨hT, q27_1, q27_2, q27_3⟩ := hq
            replace q27_1 : τ29.2.2 4 = st (τ_2.2.2 4) ((x22 * 60) + (τ_2.1 53)) (τ_2.2.2 4 ((x22 * 60) + (τ_2.1 53)) ||| (j_shl 1 (τ_2.1 53 + 1))) := q27_1
            replace q27_2 : τ29.2.2 5 = st (τ_2.2.2 5) ((x22 * 60) + (τ_2.1 53)) (τ_2.2.2 5 ((x22 * 60) + (τ_2.1 53)) ||| ((0 : Int64) ||| ((j_shl 1 (τ_2.1 53 + 1)) &&& τ_2.2.2 4 ((x22 * 60) + (τ_2.1 53))))) := q27_2
            replace q27_3 : ∀ s i e : Int, 0 ≤ i → i < e → e ≤ 59 → (¬ (s = x22 ∧ i = (τ_2.1 53) ∧ e ≤ (τ_2.1 50) ∧ j_b (j_shl 1 (τ_2.1 53 + 1)) e ∧ ¬ j_b (τ_2.2.2 4 ((x22 * 60) + (τ_2.1 53))) e) → g_mb (τ29.2.1 79) s i e = g_mb (τ_2.2.1 79) s i e) ∧ ((s = x22 ∧ i = (τ_2.1 53) ∧ e ≤ (τ_2.1 50) ∧ j_b (j_shl 1 (τ_2.1 53 + 1)) e ∧ ¬ j_b (τ_2.2.2 4 ((x22 * 60) + (τ_2.1 53))) e) → g_mb (τ29.2.1 79) s i e = x26) := q27_3
            have w4_τ29 : τ29.1 4 = τ_2.1 4 := hf_τ29.1 4 (by decide)
            have w5_τ29 : τ29.1 5 = τ_2.1 5 := hf_τ29.1 5 (by decide)
            have w6_τ29 : τ29.1 6 = τ_2.1 6 := hf_τ29.1 6 (by decide)
            have w7_τ29 : τ29.1 7 = τ_2.1 7 := hf_τ29.1 7 (by decide)
            have w13_τ29 : τ29.1 13 = τ_2.1 13 := hf_τ29.1 13 (by decide)
            have w14_τ29 : τ29.1 14 = τ_2.1 14 := hf_τ29.1 14 (by decide)
            have w15_τ29 : τ29.1 15 = τ_2.1 15 := hf_τ29.1 15 (by decide)
            have w45_τ29 : τ29.1 45 = τ_2.1 45 := hf_τ29.1 45 (by decide)
            have w46_τ29 : τ29.1 46 = τ_2.1 46 := hf_τ29.1 46 (by decide)
            have w48_τ29 : τ29.1 48 = τ_2.1 48 := hf_τ29.1 48 (by decide)
            have w50_τ29 : τ29.1 50 = τ_2.1 50 := hf_τ29.1 50 (by decide)
            have w51_τ29 : τ29.1 51 = τ_2.1 51 := hf_τ29.1 51 (by decide)
            have w53_τ29 : τ29.1 53 = τ_2.1 53 := hf_τ29.1 53 (by decide)
            have g10_τ29 : τ29.2.1 10 = τ_2.2.1 10 := hf_τ29.2.1 10 (by decide)
            have g11_τ29 : τ29.2.1 11 = τ_2.2.1 11 := hf_τ29.2.1 11 (by decide)
            have g13_τ29 : τ29.2.1 13 = τ_2.2.1 13 := hf_τ29.2.1 13 (by decide)
            have g14_τ29 : τ29.2.1 14 = τ_2.2.1 14 := hf_τ29.2.1 14 (by decide)
            have g15_τ29 : τ29.2.1 15 = τ_2.2.1 15 := hf_τ29.2.1 15 (by decide)
            have g16_τ29 : τ29.2.1 16 = τ_2.2.1 16 := hf_τ29.2.1 16 (by decide)
            have g27_τ29 : τ29.2.1 27 = τ_2.2.1 27 := hf_τ29.2.1 27 (by decide)
            have g28_τ29 : τ29.2.1 28 = τ_2.2.1 28 := hf_τ29.2.1 28 (by decide)
            have g29_τ29 : τ29.2.1 29 = τ_2.2.1 29 := hf_τ29.2.1 29 (by decide)
            have g30_τ29 : τ29.2.1 30 = τ_2.2.1 30 := hf_τ29.2.1 30 (by decide)
            have g31_τ29 : τ29.2.1 31 = τ_2.2.1 31 := hf_τ29.2.1 31 (by decide)
            have g32_τ29 : τ29.2.1 32 = τ_2.2.1 32 := hf_τ29.2.1 32 (by decide)
            have g33_τ29 : τ29.2.1 33 = τ_2.2.1 33 := hf_τ29.2.1 33 (by decide)
            have g34_τ29 : τ29.2.1 34 = τ_2.2.1 34 := hf_τ29.2.1 34 (by decide)
            have g35_τ29 : τ29.2.1 35 = τ_2.2.1 35 := hf_τ29.2.1 35 (by decide)
            have g36_τ29 : τ29.2.1 36 = τ_2.2.1 36 := hf_τ29.2.1 36 (by decide)
            have g37_τ29 : τ29.2.1 37 = τ_2.2.1 37 := hf_τ29.2.1 37 (by decide)
            have g67_τ29 : τ29.2.1 67 = τ_2.2.1 67 := hf_τ29.2.1 67 (by decide)
            have g68_τ29 : τ29.2.1 68 = τ_2.2.1 68 := hf_τ29.2.1 68 (by decide)
            have g69_τ29 : τ29.2.1 69 = τ_2.2.1 69 := hf_τ29.2.1 69 (by decide)
            have g70_τ29 : τ29.2.1 70 = τ_2.2.1 70 := hf_τ29.2.1 70 (by decide)
            have g73_τ29 : τ29.2.1 73 = τ_2.2.1 73 := hf_τ29.2.1 73 (by decide)
            have g74_τ29 : τ29.2.1 74 = τ_2.2.1 74 := hf_τ29.2.1 74 (by decide)
            have g75_τ29 : τ29.2.1 75 = τ_2.2.1 75 := hf_τ29.2.1 75 (by decide)
            have g76_τ29 : τ29.2.1 76 = τ_2.2.1 76 := hf_τ29.2.1 76 (by decide)
            have g77_τ29 : τ29.2.1 77 = τ_2.2.1 77 := hf_τ29.2.1 77 (by decide)
            have g78_τ29 : τ29.2.1 78 = τ_2.2.1 78 := hf_τ29.2.1 78 (by decide)
            have W4 : τ29.1 4 = σ.1 4 := by first | exact w4_τ29.trans W4 | omega
            have W5 : τ29.1 5 = σ.1 5 := by first | exact w5_τ29.trans W5 | omega
            have W6 : τ29.1 6 = σ.1 6 := by first | exact w6_τ29.trans W6 | omega
            have W7 : τ29.1 7 = σ.1 7 := by first | exact w7_τ29.trans W7 | omega
            have W13 : τ29.1 13 = σ.1 13 := by first | exact w13_τ29.trans W13 | omega
            have W14 : τ29.1 14 = σ.1 14 := by first | exact w14_τ29.trans W14 | omega
            have W15 : τ29.1 15 = σ.1 15 := by first | exact w15_τ29.trans W15 | omega
            have W45 : τ29.1 45 = σ.1 45 := by first | exact w45_τ29.trans W45 | omega
            have W46 : τ29.1 46 = σ.1 46 := by first | exact w46_τ29.trans W46 | omega
            have W48 : τ29.1 48 = σ.1 48 := by first | exact w48_τ29.trans W48 | omega
            have W50 : τ29.1 50 = σ.1 50 := by first | exact w50_τ29.trans W50 | omega
            have W51 : τ29.1 51 = σ.1 51 := by first | exact w51_τ29.trans W51 | omega
            have W53 : τ29.1 53 = σ.1 53 := by first | exact w53_τ29.trans W53 | omega
            have G10 : τ29.2.1 10 = σ.2.1 10 := (g10_τ29).trans G10
            have G11 : τ29.2.1 11 = σ.2.1 11 := (g11_τ29).trans G11
            have G13 : τ29.2.1 13 = σ.2.1 13 := (g13_τ29).trans G13
            have G14 : τ29.2.1 14 = σ.2.1 14 := (g14_τ29).trans G14
            have G15 : τ29.2.1 15 = σ.2.1 15 := (g15_τ29).trans G15
            have G16 : τ29.2.1 16 = σ.2.1 16 := (g16_τ29).trans G16
            have G27 : τ29.2.1 27 = σ.2.1 27 := (g27_τ29).trans G27
            have G28 : τ29.2.1 28 = σ.2.1 28 := (g28_τ29).trans G28
            have G29 : τ29.2.1 29 = σ.2.1 29 := (g29_τ29).trans G29
            have G30 : τ29.2.1 30 = σ.2.1 30 := (g30_τ29).trans G30
            have G31 : τ29.2.1 31 = σ.2.1 31 := (g31_τ29).trans G31
            have G32 : τ29.2.1 32 = σ.2.1 32 := (g32_τ29).trans G32
            have G33 : τ29.2.1 33 = σ.2.1 33 := (g33_τ29).trans G33
            have G34 : τ29.2.1 34 = σ.2.1 34 := (g34_τ29).trans G34
            have G35 : τ29.2.1 35 = σ.2.1 35 := (g35_τ29).trans G35
            have G36 : τ29.2.1 36 = σ.2.1 36 := (g36_τ29).trans G36
            have G37 : τ29.2.1 37 = σ.2.1 37 := (g37_τ29).trans G37
            have G67 : τ29.2.1 67 = σ.2.1 67 := (g67_τ29).trans G67
            have G68 : τ29.2.1 68 = σ.2.1 68 := (g68_τ29).trans G68
            have G69 : τ29.2.1 69 = σ.2.1 69 := (g69_τ29).trans G69
            have G70 : τ29.2.1 70 = σ.2.1 70 := (g70_τ29).trans G70
            have G73 : τ29.2.1 73 = σ.2.1 73 := (g73_τ29).trans G73
            have G74 : τ29.2.1 74 = σ.2.1 74 := (g74_τ29).trans G74
            have G75 : τ29.2.1 75 = σ.2.1 75 := (g75_τ29).trans G75
            have G76 : τ29.2.1 76 = σ.2.1 76 := (g76_τ29).trans G76
            have G77 : τ29.2.1 77 = σ.2.1 77 := (g77_τ29).trans G77
            have G78 : τ29.2.1 78 = σ.2.1 78 := (g78_τ29).trans G78
            have y77_53_τ29 : τ29.2.1 77 (τ29.1 53) = (τ_2.2.1 77) (τ_2.1 53) := by rw [g77_τ29, w53_τ29]
            have y78_53_τ29 : τ29.2.1 78 (τ29.1 53) = (τ_2.2.1 78) (τ_2.1 53) := by rw [g78_τ29, w53_τ29]
            have TX : J_vs (τ29.1 6) (τ29.1 5) (τ29.2.1 15) := by rw [show (J_vs (τ29.1 6) (τ29.1 5) (τ29.2.1 15)) = (J_vs (τ_2.1 6) (τ_2.1 5) (τ_2.2.1 15)) from by rw [w5_τ29, w6_τ29, g15_τ29]]; exact TX
            have RKS : J_rks (τ29.1 5) (τ29.1 4) (τ29.2.1 10) (τ29.2.1 11) := by rw [show (J_rks (τ29.1 5) (τ29.1 4) (τ29.2.1 10) (τ29.2.1 11)) = (J_rks (τ_2.1 5) (τ_2.1 4) (τ_2.2.1 10) (τ_2.2.1 11)) from by rw [w4_τ29, w5_τ29, g10_τ29, g11_τ29]]; exact RKS
            have CJ : J_all (τ29.1 7) (τ29.1 6) (τ29.1 13) (τ29.1 14) (τ29.1 15) (τ29.2.1 13) (τ29.2.1 14) (τ29.2.1 15) (τ29.2.1 16) (τ29.2.1 10) (τ29.2.1 27) (τ29.2.1 28) (τ29.2.1 29) (τ29.2.1 30) (τ29.2.1 31) (τ29.2.1 32) (τ29.2.1 33) (τ29.2.1 34) (τ29.2.1 35) (τ29.2.1 36) (τ29.2.1 37) := by rw [show (J_all (τ29.1 7) (τ29.1 6) (τ29.1 13) (τ29.1 14) (τ29.1 15) (τ29.2.1 13) (τ29.2.1 14) (τ29.2.1 15) (τ29.2.1 16) (τ29.2.1 10) (τ29.2.1 27) (τ29.2.1 28) (τ29.2.1 29) (τ29.2.1 30) (τ29.2.1 31) (τ29.2.1 32) (τ29.2.1 33) (τ29.2.1 34) (τ29.2.1 35) (τ29.2.1 36) (τ29.2.1 37)) = (J_all (τ_2.1 7) (τ_2.1 6) (τ_2.1 13) (τ_2.1 14) (τ_2.1 15) (τ_2.2.1 13) (τ_2.2.1 14) (τ_2.2.1 15) (τ_2.2.1 16) (τ_2.2.1 10) (τ_2.2.1 27) (τ_2.2.1 28) (τ_2.2.1 29) (τ_2.2.1 30) (τ_2.2.1 31) (τ_2.2.1 32) (τ_2.2.1 33) (τ_2.2.1 34) (τ_2.2.1 35) (τ_2.2.1 36) (τ_2.2.1 37)) from by rw [w6_τ29, w7_τ29, w13_τ29, w14_τ29, w15_τ29, g10_τ29, g13_τ29, g14_τ29, g15_τ29, g16_τ29, g27_τ29, g28_τ29, g29_τ29, g30_τ29, g31_τ29, g32_τ29, g33_τ29, g34_τ29, g35_τ29, g36_τ29, g37_τ29]]; exact CJ
            have A10 : ∀ j, (-1) ≤ τ29.2.1 10 j ∧ τ29.2.1 10 j ≤ 99 := fun j => hT.2 10 j
            have A11 : ∀ j, 0 ≤ τ29.2.1 11 j ∧ τ29.2.1 11 j ≤ 999 := fun j => hT.2 11 j
            have A13 : ∀ j, 0 ≤ τ29.2.1 13 j ∧ τ29.2.1 13 j ≤ 4 := fun j => hT.2 13 j
            have A14 : ∀ j, 0 ≤ τ29.2.1 14 j ∧ τ29.2.1 14 j ≤ 30000 := fun j => hT.2 14 j
            have A15 : ∀ j, 0 ≤ τ29.2.1 15 j ∧ τ29.2.1 15 j ≤ 999 := fun j => hT.2 15 j
            have A16 : ∀ j, (-1) ≤ τ29.2.1 16 j ∧ τ29.2.1 16 j ≤ 1499 := fun j => hT.2 16 j
            have A27 : ∀ j, 0 ≤ τ29.2.1 27 j ∧ τ29.2.1 27 j ≤ 90000 := fun j => hT.2 27 j
            have A28 : ∀ j, 0 ≤ τ29.2.1 28 j ∧ τ29.2.1 28 j ≤ 60 := fun j => hT.2 28 j
            have A29 : ∀ j, 0 ≤ τ29.2.1 29 j ∧ τ29.2.1 29 j ≤ 1499 := fun j => hT.2 29 j
            have A30 : ∀ j, 0 ≤ τ29.2.1 30 j ∧ τ29.2.1 30 j ≤ 20000 := fun j => hT.2 30 j
            have A31 : ∀ j, 0 ≤ τ29.2.1 31 j ∧ τ29.2.1 31 j ≤ 20000 := fun j => hT.2 31 j
            have A32 : ∀ j, 0 ≤ τ29.2.1 32 j ∧ τ29.2.1 32 j ≤ 999999 := fun j => hT.2 32 j
            have A33 : ∀ j, 0 ≤ τ29.2.1 33 j ∧ τ29.2.1 33 j ≤ 20000 := fun j => hT.2 33 j
            have A34 : ∀ j, 0 ≤ τ29.2.1 34 j ∧ τ29.2.1 34 j ≤ 20000 := fun j => hT.2 34 j
            have A35 : ∀ j, 0 ≤ τ29.2.1 35 j ∧ τ29.2.1 35 j ≤ 1499 := fun j => hT.2 35 j
            have A36 : ∀ j, 0 ≤ τ29.2.1 36 j ∧ τ29.2.1 36 j ≤ 20000 := fun j => hT.2 36 j
            have A37 : ∀ j, 0 ≤ τ29.2.1 37 j ∧ τ29.2.1 37 j ≤ 19999 := fun j => hT.2 37 j
            have A67 : ∀ j, 0 ≤ τ29.2.1 67 j ∧ τ29.2.1 67 j ≤ 30000 := fun j => hT.2 67 j
            have A68 : ∀ j, 0 ≤ τ29.2.1 68 j ∧ τ29.2.1 68 j ≤ 30000 := fun j => hT.2 68 j
            have A69 : ∀ j, (-100) ≤ τ29.2.1 69 j ∧ τ29.2.1 69 j ≤ 999 := fun j => hT.2 69 j
            have A70 : ∀ j, 0 ≤ τ29.2.1 70 j ∧ τ29.2.1 70 j ≤ 1499 := fun j => hT.2 70 j
            have A73 : ∀ j, 0 ≤ τ29.2.1 73 j ∧ τ29.2.1 73 j ≤ 30000 := fun j => hT.2 73 j
            have A74 : ∀ j, 0 ≤ τ29.2.1 74 j ∧ τ29.2.1 74 j ≤ 30000 := fun j => hT.2 74 j
            have A75 : ∀ j, 0 ≤ τ29.2.1 75 j ∧ τ29.2.1 75 j ≤ 1499 := fun j => hT.2 75 j
            have A76 : ∀ j, 0 ≤ τ29.2.1 76 j ∧ τ29.2.1 76 j ≤ 99 := fun j => hT.2 76 j
            have A77 : ∀ j, 0 ≤ τ29.2.1 77 j ∧ τ29.2.1 77 j ≤ 999 := fun j => hT.2 77 j
            have A78 : ∀ j, (-1) ≤ τ29.2.1 78 j ∧ τ29.2.1 78 j ≤ 1499 := fun j => hT.2 78 j
            have A79 : ∀ j, 0 ≤ τ29.2.1 79 j ∧ τ29.2.1 79 j ≤ 1499 := fun j => hT.2 79 j
            have v4 : 0 ≤ τ29.1 4 ∧ τ29.1 4 ≤ 100 := hT.1 4
            have v5 : 0 ≤ τ29.1 5 ∧ τ29.1 5 ≤ 1000 := hT.1 5
            have v6 : 0 ≤ τ29.1 6 ∧ τ29.1 6 ≤ 30000 := hT.1 6
            have v7 : 0 ≤ τ29.1 7 ∧ τ29.1 7 ≤ 1500 := hT.1 7
            have v13 : 0 ≤ τ29.1 13 ∧ τ29.1 13 ≤ 90000 := hT.1 13
            have v14 : 0 ≤ τ29.1 14 ∧ τ29.1 14 ≤ 20000 := hT.1 14
            have v15 : 0 ≤ τ29.1 15 ∧ τ29.1 15 ≤ 20000 := hT.1 15
            have v45 : 1 ≤ τ29.1 45 ∧ τ29.1 45 ≤ 30001 := hT.1 45
            have v46 : 0 ≤ τ29.1 46 ∧ τ29.1 46 ≤ 1500 := hT.1 46
            have v48 : (-1) ≤ τ29.1 48 ∧ τ29.1 48 ≤ 999 := hT.1 48
            have v50 : 0 ≤ τ29.1 50 ∧ τ29.1 50 ≤ 59 := hT.1 50
            have v51 : 0 ≤ τ29.1 51 ∧ τ29.1 51 ≤ 1500 := hT.1 51
            have v53 : 0 ≤ τ29.1 53 ∧ τ29.1 53 ≤ 58 := hT.1 53
            have a77_53 : 0 ≤ τ29.2.1 77 (τ29.1 53) ∧ τ29.2.1 77 (τ29.1 53) ≤ 999 := hT.2 77 _
            have a78_53 : (-1) ≤ τ29.2.1 78 (τ29.1 53) ∧ τ29.2.1 78 (τ29.1 53) ≤ 1499 := hT.2 78 _
            have rs29 := c_Rs_h (show c_Rs τ_2 par nof In from i2_4) hf_τ29 rfl
            have h4 := hf_τ29.2.2 3 (by decide)
            refine ⟨(⟨by (first | omega | (simp only [st_s] <;> omega) | assumption | omega | fail), by (first | omega | (simp only [st_s] <;> omega) | assumption | omega | fail)⟩ : rg (τ29.1 53 + 1)), ?_⟩
            exact l_175 ((61 - (τ29.1 53 + 1) : Int).toNat + 1) _ _ (show (61 - (τ29.1 53 + 1) : Int) < (((61 - (τ29.1 53 + 1) : Int).toNat + 1 : Nat) : Int) from by ((first | omega | (simp only [st_s] <;> omega) | assumption | omega | fail))) hT (show τ29.1 4 = σ.1 4 from by first | exact W4 | omega) (show τ29.1 5 = σ.1 5 from by first | exact W5 | omega) (show τ29.1 6 = σ.1 6 from by first | exact W6 | omega) (show τ29.1 7 = σ.1 7 from by first | exact W7 | omega) (show τ29.1 13 = σ.1 13 from by first | exact W13 | omega) (show τ29.1 14 = σ.1 14 from by first | exact W14 | omega) (show τ29.1 15 = σ.1 15 from by first | exact W15 | omega) (show τ29.1 45 = σ.1 45 from by first | exact W45 | omega) (show τ29.1 46 = σ.1 46 from by first | exact W46 | omega) (show τ29.1 48 = σ.1 48 from by first | exact W48 | omega) (show τ29.1 50 = σ.1 50 from by first | exact W50 | omega) (show τ29.1 51 = σ.1 51 from by first | exact W51 | omega) (show τ29.1 53 = σ.1 53 from by first | exact W53 | omega) G10 G11 G13 G14 G15 G16 G27 G28 G29 G30 G31 G32 G33 G34 G35 G36 G37 G67 G68 G69 G70 G73 G74 G75 G76 G77 G78 (show (σ.1 53) < (τ29.1 53 + 1) ∧ (τ29.1 53 + 1) ≤ (σ.1 50) + 1 from by (first | omega | (simp only [st_s] <;> omega) | assumption | omega | fail)) (show g_pl (σ.1 45) (σ.1 50) (σ.1 4) (σ.1 51) (σ.1 53) (τ29.1 53 + 1) (τ29.1 53 + 1) 0 (σ.1 46) True (0 ≤ σ.2.1 78 (σ.1 53) ∧ ¬ σ.2.1 15 (σ.2.1 14 (σ.2.1 78 (σ.1 53))) = (σ.1 48)) (σ.2.1 77) (σ.2.1 69) par (σ.2.1 70) nof (g_so (σ.1 48) (σ.2.1 14) (σ.2.1 15) (σ.2.1 10)) (σ.2.1 73) (σ.2.1 74) (σ.2.1 78) (σ.2.1 75) (σ.2.1 76) In (σ.2.2 4) (σ.2.2 5) (τ29.2.2 4) (τ29.2.2 5) (σ.2.1 79) (τ29.2.1 79) from by (first | (rw [W53, i2_6]; exact g_pl_c (pl0 _ _ _ _ _ _ _ _ _ _ _ _ _ _) (fun z1 z2 => by (exfalso; first | (rw [e_x7, e_x5, G73, G77, W53] at *; omega) | (rw [← W53, ← G78, ← e_x3] at z1; omega))) (fun z => by (exfalso; have z1 := z.1; first | (rw [← W53, ← G78, ← e_x3] at z1; omega) | (have a := q21_2 (by rw [W48, q18_1, e_x17, G78, W53]; exact z.2); have b := (ql z).1; rw [g_so_n z.2] at b; rw [G10, q18_1, e_x17, G78, W53] at a; omega)))) | (rw [w53_τ15, y53]; exact plc) | (rw [w53_τ29, y53]; exact g_pl_l (s0 := x22) fr2 em uf (by omega) (by omega) (by omega) (by rw [← e26]; omega) x22e ⟨by omega, rkb⟩ bx (by rw [q27_1, y53]) (by rw [q27_2, y53]) (fun s i e a b c => by (have w := q27_3 s i e a b c; rw [y53, y50, i2_6, e26] at w; exact w))) | exact g_pl_n i190_3 (by omega) | fail)) (show c_Rs τ29 par nof In from by (first | exact i2_4 | exact rs15 | exact rs29 | exact i190_4 | fail)) (show τ29.2.2 3 = σ.2.2 3 from by (first | exact i2_5 | exact h4.trans i2_5 | exact i190_5 | fail))
      ·
        refine ⟨(show 0 ≤ ((u1_2 * 60) + τ_2.1 53) ∧ ((u1_2 * 60) + τ_2.1 53) < 6000 from by (first | omega | (simp only [st_s] <;> omega) | assumption | omega | fail)), ?_⟩
        replace hT := cT_b (k := 4) (j := ((u1_2 * 60) + τ_2.1 53)) (x := 0) hT
        replace hT := cT_b (k := 5) (j := ((u1_2 * 60) + τ_2.1 53)) (x := 0) hT
        refine ⟨(⟨by (first | omega | (simp only [st_s] <;> omega) | assumption | omega | fail), by (first | omega | (simp only [st_s] <;> omega) | assumption | omega | fail)⟩ : rg (u1_2 + 1)), ?_⟩
        exact ih_2 _ _ (show (101 - (u1_2 + 1) : Int) < ((m_2 : Nat) : Int) from by ((first | omega | (simp only [st_s] <;> omega) | assumption | omega | fail))) hT (show τ_2.1 4 = σ.1 4 from by first | exact W4 | omega) (show τ_2.1 5 = σ.1 5 from by first | exact W5 | omega) (show τ_2.1 6 = σ.1 6 from by first | exact W6 | omega) (show τ_2.1 7 = σ.1 7 from by first | exact W7 | omega) (show τ_2.1 13 = σ.1 13 from by first | exact W13 | omega) (show τ_2.1 14 = σ.1 14 from by first | exact W14 | omega) (show τ_2.1 15 = σ.1 15 from by first | exact W15 | omega) (show τ_2.1 45 = σ.1 45 from by first | exact W45 | omega) (show τ_2.1 46 = σ.1 46 from by first | exact W46 | omega) (show τ_2.1 48 = σ.1 48 from by first | exact W48 | omega) (show τ_2.1 50 = σ.1 50 from by first | exact W50 | omega) (show τ_2.1 51 = σ.1 51 from by first | exact W51 | omega) (show τ_2.1 53 = σ.1 53 from by first | exact W53 | omega) G10 G11 G13 G14 G15 G16 G27 G28 G29 G30 G31 G32 G33 G34 G35 G36 G37 G67 G68 G69 G70 G73 G74 G75 G76 G77 G78 (show 0 ≤ (u1_2 + 1) ∧ (u1_2 + 1) ≤ 100 from by (first | omega | (simp only [st_s] <;> omega) | assumption | omega | fail)) (show ∀ s i e : Int, 0 ≤ i → i < 60 → 0 ≤ e → e < 64 → i ≠ (σ.1 53) → (g_H ((st (τ_2.2.2 4) ((u1_2 * 60) + τ_2.1 53) 0)) s i e ↔ g_H (σ.2.2 4) s i e) ∧ (g_H ((st (τ_2.2.2 5) ((u1_2 * 60) + τ_2.1 53) 0)) s i e ↔ g_H (σ.2.2 5) s i e) from by (first | exact fun s i e _ _ _ _ _ => ⟨Iff.rfl, Iff.rfl⟩ | (intro s i e a b c d z; have w := i2_2 s i e a b c d z; rw [W53]; have q9 := g_clr (b := τ_2.2.2 4) (c := st (τ_2.2.2 4) (u1_2 * 60 + σ.1 53) 0) (s2 := u1_2) (i2 := σ.1 53) (by omega) (by omega) rfl s i e a b; rcases q9 with v | v; exact absurd v.2.1 z; (have q9 := g_clr (b := τ_2.2.2 5) (c := st (τ_2.2.2 5) (u1_2 * 60 + σ.1 53) 0) (s2 := u1_2) (i2 := σ.1 53) (by omega) (by omega) rfl s i e a b; rcases q9 with x | x; exact absurd x.2.1 z; exact ⟨v.2.trans w.1, x.2.trans w.2⟩)) | fail)) (show ∀ s e : Int, 0 ≤ s → s < (u1_2 + 1) → ¬ g_H ((st (τ_2.2.2 4) ((u1_2 * 60) + τ_2.1 53) 0)) s (σ.1 53) e ∧ ¬ g_H ((st (τ_2.2.2 5) ((u1_2 * 60) + τ_2.1 53) 0)) s (σ.1 53) e from by (first | (intro s e a b; exfalso; omega) | (intro s e a b; rw [W53]; have q9 := g_clr (b := τ_2.2.2 4) (c := st (τ_2.2.2 4) (u1_2 * 60 + σ.1 53) 0) (s2 := u1_2) (i2 := σ.1 53) (by omega) (by omega) rfl s (σ.1 53) e (by omega) (by omega); rcases q9 with v | v; (have q9 := g_clr (b := τ_2.2.2 5) (c := st (τ_2.2.2 5) (u1_2 * 60 + σ.1 53) 0) (s2 := u1_2) (i2 := σ.1 53) (by omega) (by omega) rfl s (σ.1 53) e (by omega) (by omega); rcases q9 with x | x; exact ⟨v.2.2, x.2.2⟩; exact absurd ⟨v.1, v.2.1⟩ x.1); (have q9 := g_clr (b := τ_2.2.2 5) (c := st (τ_2.2.2 5) (u1_2 * 60 + σ.1 53) 0) (s2 := u1_2) (i2 := σ.1 53) (by omega) (by omega) rfl s (σ.1 53) e (by omega) (by omega); rcases q9 with x | x; exact absurd ⟨x.1, x.2.1⟩ v.1; have w := i2_3 s e a (by omega); exact ⟨fun q => w.1 (v.2.mp q), fun q => w.2 (x.2.mp q)⟩)) | fail)) (show c_Rs (s_b (s_b τ_2 4 ((u1_2 * 60) + τ_2.1 53) 0) 5 ((u1_2 * 60) + τ_2.1 53) 0) par nof In from by (first | exact p2 | exact i2_4 | fail)) (show τ_2.2.2 3 = σ.2.2 3 from by (first | rfl | exact i2_5 | fail)) (show τ_2.2.1 79 = σ.2.1 79 from by (first | rfl | exact i2_6 | fail))
  exact l_2 ((101 - 0 : Int).toNat + 1) _ _ (show (101 - 0 : Int) < (((101 - 0 : Int).toNat + 1 : Nat) : Int) from by ((first | omega | (simp only [st_s] <;> omega) | assumption | omega | fail))) hT (show σ.1 4 = σ.1 4 from by first | exact W4 | omega) (show σ.1 5 = σ.1 5 from by first | exact W5 | omega) (show σ.1 6 = σ.1 6 from by first | exact W6 | omega) (show σ.1 7 = σ.1 7 from by first | exact W7 | omega) (show σ.1 13 = σ.1 13 from by first | exact W13 | omega) (show σ.1 14 = σ.1 14 from by first | exact W14 | omega) (show σ.1 15 = σ.1 15 from by first | exact W15 | omega) (show σ.1 45 = σ.1 45 from by first | exact W45 | omega) (show σ.1 46 = σ.1 46 from by first | exact W46 | omega) (show σ.1 48 = σ.1 48 from by first | exact W48 | omega) (show σ.1 50 = σ.1 50 from by first | exact W50 | omega) (show σ.1 51 = σ.1 51 from by first | exact W51 | omega) (show σ.1 53 = σ.1 53 from by first | exact W53 | omega) G10 G11 G13 G14 G15 G16 G27 G28 G29 G30 G31 G32 G33 G34 G35 G36 G37 G67 G68 G69 G70 G73 G74 G75 G76 G77 G78 (show 0 ≤ 0 ∧ 0 ≤ 100 from by (first | omega | (simp only [st_s] <;> omega) | assumption | omega | fail)) (show ∀ s i e : Int, 0 ≤ i → i < 60 → 0 ≤ e → e < 64 → i ≠ (σ.1 53) → (g_H (σ.2.2 4) s i e ↔ g_H (σ.2.2 4) s i e) ∧ (g_H (σ.2.2 5) s i e ↔ g_H (σ.2.2 5) s i e) from by (first | exact fun s i e _ _ _ _ _ => ⟨Iff.rfl, Iff.rfl⟩ | (intro s i e a b c d z; have w := i2_2 s i e a b c d z; rw [W53]; have q9 := g_clr (b := τ_2.2.2 4) (c := st (τ_2.2.2 4) (u1_2 * 60 + σ.1 53) 0) (s2 := u1_2) (i2 := σ.1 53) (by omega) (by omega) rfl s i e a b; rcases q9 with v | v; exact absurd v.2.1 z; (have q9 := g_clr (b := τ_2.2.2 5) (c := st (τ_2.2.2 5) (u1_2 * 60 + σ.1 53) 0) (s2 := u1_2) (i2 := σ.1 53) (by omega) (by omega) rfl s i e a b; rcases q9 with x | x; exact absurd x.2.1 z; exact ⟨v.2.trans w.1, x.2.trans w.2⟩)) | fail)) (show ∀ s e : Int, 0 ≤ s → s < 0 → ¬ g_H (σ.2.2 4) s (σ.1 53) e ∧ ¬ g_H (σ.2.2 5) s (σ.1 53) e from by (first | (intro s e a b; exfalso; omega) | (intro s e a b; rw [W53]; have q9 := g_clr (b := τ_2.2.2 4) (c := st (τ_2.2.2 4) (u1_2 * 60 + σ.1 53) 0) (s2 := u1_2) (i2 := σ.1 53) (by omega) (by omega) rfl s (σ.1 53) e (by omega) (by omega); rcases q9 with v | v; (have q9 := g_clr (b := τ_2.2.2 5) (c := st (τ_2.2.2 5) (u1_2 * 60 + σ.1 53) 0) (s2 := u1_2) (i2 := σ.1 53) (by omega) (by omega) rfl s (σ.1 53) e (by omega) (by omega); rcases q9 with x | x; exact ⟨v.2.2, x.2.2⟩; exact absurd ⟨v.1, v.2.1⟩ x.1); (have q9 := g_clr (b := τ_2.2.2 5) (c := st (τ_2.2.2 5) (u1_2 * 60 + σ.1 53) 0) (s2 := u1_2) (i2 := σ.1 53) (by omega) (by omega) rfl s (σ.1 53) e (by omega) (by omega); rcases q9 with x | x; exact absurd ⟨x.1, x.2.1⟩ v.1; have w := i2_3 s e a (by omega); exact ⟨fun q => w.1 (v.2.mp q), fun q => w.2 (x.2.mp q)⟩)) | fail)) (show c_Rs σ par nof In from by (first | exact p2 | exact i2_4 | fail)) (show σ.2.2 3 = σ.2.2 3 from by (first | rfl | exact i2_5 | fail)) (show σ.2.1 79 = σ.2.1 79 from by (first | rfl | exact i2_6 | fail))
