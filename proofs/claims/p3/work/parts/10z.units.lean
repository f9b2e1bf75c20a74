-- pure: rules of one variable are added
theorem sm_lt {f g : Int → Int} {n v : Int} (h : ∀ e : Int, 0 ≤ e → e < n → f e ≤ g e) (v0 : 0 ≤ v) (v1 : v < n) (l : f v < g v) : sm f n + 1 ≤ sm g n := by
  have a := sm_1 (g := fun e => g e - f e) (n := n) (v := v) (fun e a b => by have := h e a b; show 0 ≤ g e - f e; omega) v0 v1
  have d : ∀ k : Nat, smN (fun e => g e - f e) k = smN g k - smN f k := fun k => by
    induction k with
    | zero => rfl
    | succ k ih =>
      show smN (fun e => g e - f e) k + (g (k : Int) - f (k : Int)) = (smN g k + g (k : Int)) - (smN f k + f (k : Int))
      omega
  have e : sm (fun e => g e - f e) n = sm g n - sm f n := d n.toNat
  have a2 : g v - f v ≤ sm (fun e => g e - f e) n := a
  omega
theorem sm_c {f : Int → Int} {n c : Int} (h : ∀ e : Int, 0 ≤ e → e < n → f e ≤ c) (c0 : 0 ≤ c) (n0 : 0 ≤ n) : sm f n ≤ c * n := by
  have d : ∀ k : Nat, (k : Int) ≤ n → smN f k ≤ c * (k : Int) := fun k => by
    induction k with
    | zero => intro _; show (0 : Int) ≤ c * 0; omega
    | succ k ih =>
      intro hk
      have a := ih (by omega)
      have b := h (k : Int) (by omega) (by omega)
      show smN f k + f (k : Int) ≤ c * ((k + 1 : Nat) : Int)
      rw [show ((k + 1 : Nat) : Int) = (k : Int) + 1 from by omega, Int.mul_add]
      omega
  have w := d n.toNat (by omega)
  rw [show (n.toNat : Int) = n from by omega] at w
  exact w
/-- one round more: either nothing changes any more, or the sum has grown -/
theorem g_rd_s {rs lim un k : Int} {uR uF so base T T2 : Int → Int} (r : g_rd rs lim un uR uF so base T T2) (up : ∀ s : Int, 0 ≤ s → s < rs → T s ≤ T2 s) (h : g_rd rs lim un uR uF so base T T ∨ k ≤ sm T rs) (uf : ∀ v : Int, 0 ≤ v → v < un → 0 ≤ uF v ∧ uF v < rs) : g_rd rs lim un uR uF so base T2 T2 ∨ k + 1 ≤ sm T2 rs := by
  by_cases z : ∀ s : Int, 0 ≤ s → s < rs → T2 s = T s
  · exact Or.inl (g_pf_e (k := 0) r z uf)
  · rcases h with h | h
    · exact absurd (fun s a b => by
        have x := r s a b; have y := h s a b
        rcases x with ⟨x1, x2⟩ | ⟨x1, x2⟩ <;> rcases y with ⟨y1, y2⟩ | ⟨y1, y2⟩ <;> omega) z
    · refine Or.inr ?_
      have ex : ∃ s : Int, 0 ≤ s ∧ s < rs ∧ T s < T2 s := by
        by_cases y : ∃ s : Int, 0 ≤ s ∧ s < rs ∧ T s < T2 s
        · exact y
        · exact absurd (fun s a b => by
            by_cases w : T s < T2 s
            · exact absurd ⟨s, a, b, w⟩ y
            · have := up s a b; omega) z
      obtain ⟨s, s0, s1, s2⟩ := ex
      have := sm_lt up s0 s1 s2
      omega
/-- what the counting began with: the cells of the place -/
def g_ba (rs sp en : Int) (b4 b5 : Int → Int64) (base : Int → Int) : Prop := ∀ s : Int, 0 ≤ s → s < rs → (¬ g_H b4 s sp en → base s = 0) ∧ (g_H b4 s sp en → ¬ g_H b5 s sp en → base s = 1) ∧ (g_H b4 s sp en → g_H b5 s sp en → base s = 2)
/-- what has been added for the rules of one variable up to u -/
def g_ua (rs lim un u sp en : Int) (uR uF so T : Int → Int) (b4 b5 c4 c5 : Int → Int64) (mb mc : Int → Int) : Prop :=
  (∀ s i e : Int, 0 ≤ i → i < 60 → 0 ≤ e → e < 64 → (i ≠ sp ∨ e ≠ en) → (g_H c4 s i e ↔ g_H b4 s i e) ∧ (g_H c5 s i e ↔ g_H b5 s i e)) ∧
  (∀ s i e : Int, 0 ≤ i → i < e → e ≤ 59 → (i ≠ sp ∨ e ≠ en) → g_mb mc s i e = g_mb mb s i e) ∧
  ∀ s : Int, 0 ≤ s → s < rs →
    (g_H b4 s sp en → g_H c4 s sp en ∧ g_mb mc s sp en = g_mb mb s sp en) ∧ (g_H b5 s sp en → g_H c5 s sp en) ∧ (g_H c5 s sp en → g_H b5 s sp en ∨ 2 ≤ T s) ∧ (g_H c5 s sp en → g_H c4 s sp en) ∧
    (¬ g_H b4 s sp en → g_H c4 s sp en → ∃ v : Int, 0 ≤ v ∧ v < u ∧ uR v < lim ∧ so (uR v) = s ∧ 1 ≤ T (uF v) ∧ g_mb mc s sp en = uR v) ∧
    ∀ v : Int, 0 ≤ v → v < u → uR v < lim → so (uR v) = s → 1 ≤ T (uF v) → g_H c4 s sp en ∧ (2 ≤ T s → g_H c5 s sp en) ∧ (¬ g_H c5 s sp en → g_mb mc s sp en = uR v)
theorem g_ua0 {rs lim un sp en : Int} {uR uF so T : Int → Int} {b4 b5 : Int → Int64} {mb : Int → Int} (sh : ∀ s : Int, 0 ≤ s → s < rs → g_H b5 s sp en → g_H b4 s sp en) : g_ua rs lim un 0 sp en uR uF so T b4 b5 b4 b5 mb mb :=
  ⟨fun s i e _ _ _ _ _ => ⟨Iff.rfl, Iff.rfl⟩, fun s i e _ _ _ _ => rfl, fun s a b => ⟨fun q => ⟨q, rfl⟩, id, Or.inl, sh s a b, fun x y => absurd y x, fun v c d => by omega⟩⟩
theorem g_ua_n {rs lim un u sp en : Int} {uR uF so T : Int → Int} {b4 b5 c4 c5 : Int → Int64} {mb mc : Int → Int} (h : g_ua rs lim un u sp en uR uF so T b4 b5 c4 c5 mb mc) (z : ¬ (uR u < lim ∧ 1 ≤ T (uF u))) : g_ua rs lim un (u + 1) sp en uR uF so T b4 b5 c4 c5 mb mc := by
  obtain ⟨h1, h2, h3⟩ := h
  refine ⟨h1, h2, fun s a b => ?_⟩
  obtain ⟨a1, a2, a3, a4, a5, a6⟩ := h3 s a b
  refine ⟨a1, a2, a3, a4, fun x y => ?_, fun v c d e f g => ?_⟩
  · obtain ⟨v, v0, v1, v2⟩ := a5 x y
    exact ⟨v, v0, by omega, v2⟩
  · by_cases w : v = u
    · rw [w] at e g; exact absurd ⟨e, g⟩ z
    · exact a6 v c (by omega) e f g
theorem g_ua_a {rs lim un u sp en len s0 : Int} {uR uF so base T : Int → Int} {x y : Int64} {b4 b5 c4 c5 d4 d5 : Int → Int64} {mb mc md : Int → Int} (h : g_ua rs lim un u sp en uR uF so T b4 b5 c4 c5 mb mc) (rd : g_rd rs lim un uR uF so base T T) (ba : g_ba rs sp en b4 b5 base) (T0 : ∀ j, 0 ≤ T j) (b0 : ∀ j, 0 ≤ base j) (u0 : 0 ≤ u) (u1 : u < un) (hl : uR u < lim) (hs : s0 = so (uR u)) (ss : 0 ≤ s0 ∧ s0 < rs) (hT : 1 ≤ T (uF u)) (t0 : 0 ≤ sp) (t1 : sp < en) (en1 : en ≤ len) (l59 : len ≤ 59)
    (hx : ∀ e : Int, 0 ≤ e → e < 64 → (j_b x e ↔ e = en)) (hy : ∀ e : Int, 0 ≤ e → e < 64 → (j_b y e ↔ e = en ∧ 2 ≤ T s0))
    (e4 : d4 = st c4 (s0 * 60 + sp) (c4 (s0 * 60 + sp) ||| x)) (e5 : d5 = st c5 (s0 * 60 + sp) (c5 (s0 * 60 + sp) ||| (y ||| (x &&& c4 (s0 * 60 + sp)))))
    (em : ∀ s i e : Int, 0 ≤ i → i < e → e ≤ 59 → (¬ (s = s0 ∧ i = sp ∧ e ≤ len ∧ j_b x e ∧ ¬ j_b (c4 (s0 * 60 + sp)) e) → g_mb md s i e = g_mb mc s i e) ∧ ((s = s0 ∧ i = sp ∧ e ≤ len ∧ j_b x e ∧ ¬ j_b (c4 (s0 * 60 + sp)) e) → g_mb md s i e = uR u)) : g_ua rs lim un (u + 1) sp en uR uF so T b4 b5 d4 d5 mb md := by
  obtain ⟨h1, h2, h3⟩ := h
  have o4 : ∀ s i e : Int, 0 ≤ i → i < 60 → (g_H d4 s i e ↔ g_H c4 s i e ∨ (s = s0 ∧ i = sp ∧ j_b x e)) := fun s i e a b => by rw [e4]; exact g_H_or a b t0 (by omega)
  have o5 : ∀ s i e : Int, 0 ≤ i → i < 60 → (g_H d5 s i e ↔ g_H c5 s i e ∨ (s = s0 ∧ i = sp ∧ (j_b y e ∨ (j_b x e ∧ g_H c4 s0 sp e)))) := fun s i e a b => by
    rw [e5, g_H_or a b t0 (by omega), j_b_or, j_b_and]; exact Iff.rfl
  refine ⟨fun s i e a b c d z => ?_, fun s i e a b c z => ?_, fun s a b => ?_⟩
  · have w := h1 s i e a b c d z
    rw [o4 s i e a b, o5 s i e a b]
    have no : ¬ (i = sp ∧ e = en) := fun q => z.elim (fun k => k q.1) (fun k => k q.2)
    refine ⟨⟨fun q => q.elim w.1.mp (fun k => absurd ⟨k.2.1, (hx e c d).mp k.2.2⟩ no), fun q => Or.inl (w.1.mpr q)⟩, ⟨fun q => q.elim w.2.mp (fun k => ?_), fun q => Or.inl (w.2.mpr q)⟩⟩
    rcases k.2.2 with k2 | k2
    · exact absurd ⟨k.2.1, ((hy e c d).mp k2).1⟩ no
    · exact absurd ⟨k.2.1, (hx e c d).mp k2.1⟩ no
  · rw [(em s i e a b c).1 (fun k => z.elim (fun q => q k.2.1) (fun q => q ((hx e (by omega) (by omega)).mp k.2.2.2.1)))]
    exact h2 s i e a b c z
  · obtain ⟨a1, a2, a3, a4, a5, a6⟩ := h3 s a b
    rw [o4 s sp en t0 (by omega), o5 s sp en t0 (by omega)]
    have xe := (hx en (by omega) (by omega)).mpr rfl
    -- a cell that is there already, and another rule: reached more than once
    have tw : s = s0 → g_H c4 s0 sp en → 2 ≤ T s0 := fun q k => by
      have g0 : ∀ e : Int, 0 ≤ e → e < un → 0 ≤ g_ub lim s0 uR uF so T e := fun e _ _ => g_ub_0 T0 e
      have gu : g_ub lim s0 uR uF so T u = T (uF u) := by unfold g_ub; rw [if_pos ⟨hl, hs.symm⟩]
      have w1 := sm_1 g0 u0 u1
      have dd : g_us lim un s0 uR uF so T = sm (g_ub lim s0 uR uF so T) un := rfl
      have rr := rd s0 ss.1 ss.2
      by_cases hb : g_H b4 s0 sp en
      · have bb : 1 ≤ base s0 := by
          obtain ⟨_, b1, b2⟩ := ba s0 ss.1 ss.2
          by_cases k5 : g_H b5 s0 sp en
          · have := b2 hb k5; omega
          · have := b1 hb k5; omega
        rcases rr with ⟨r1, r2⟩ | ⟨r1, r2⟩ <;> omega
      · rw [q] at a5
        obtain ⟨v, v0, v1, v2, v3, v4, _⟩ := a5 hb k
        have gv : g_ub lim s0 uR uF so T v = T (uF v) := by unfold g_ub; rw [if_pos ⟨v2, v3⟩]
        have w2 := sm_2 g0 v0 v1 u1
        have bs := b0 s0
        rcases rr with ⟨r1, r2⟩ | ⟨r1, r2⟩ <;> omega
    have mbo : g_H c4 s sp en → g_mb md s sp en = g_mb mc s sp en := fun k => (em s sp en t0 t1 (by omega)).1 (fun q => q.2.2.2.2 (by rw [← q.1]; exact k))
    refine ⟨fun q => ⟨Or.inl (a1 q).1, (mbo (a1 q).1).trans (a1 q).2⟩, fun q => Or.inl (a2 q), fun q => ?_, fun q => ?_, fun p q => ?_, fun v c d e f g => ?_⟩
    · rcases q with q | ⟨q1, _, q2 | q2⟩
      · exact a3 q
      · rw [q1]; exact Or.inr ((hy en (by omega) (by omega)).mp q2).2
      · rw [q1]; exact Or.inr (tw q1 q2.2)
    · rcases q with q | ⟨q1, q3, _⟩
      · exact Or.inl (a4 q)
      · exact Or.inr ⟨q1, q3, xe⟩
    · by_cases k : g_H c4 s sp en
      · obtain ⟨v, v0, v1, v2, v3, v4, v5⟩ := a5 p k
        exact ⟨v, v0, by omega, v2, v3, v4, (mbo k).trans v5⟩
      · rcases q with q | ⟨q1, _, _⟩
        · exact absurd q k
        · exact ⟨u, u0, by omega, hl, by rw [q1]; exact hs.symm, hT, (em s sp en t0 t1 (by omega)).2 ⟨q1, rfl, en1, xe, by rw [q1] at k; exact k⟩⟩
    · by_cases w : v = u
      · rw [w] at f
        have sq : s = s0 := by rw [hs]; exact f.symm
        exact ⟨Or.inr ⟨sq, rfl, xe⟩, fun k => Or.inr ⟨sq, rfl, Or.inl ((hy en (by omega) (by omega)).mpr ⟨rfl, by rw [← sq]; exact k⟩)⟩, fun k => by
          rw [w]
          by_cases c4h : g_H c4 s0 sp en
          · exact absurd (Or.inr ⟨sq, rfl, Or.inr ⟨xe, c4h⟩⟩) k
          · exact (em s sp en t0 t1 (by omega)).2 ⟨sq, rfl, en1, xe, c4h⟩⟩
      · have z := a6 v c (by omega) e f g
        exact ⟨Or.inl z.1, fun k => Or.inl (z.2.1 k), fun k => (mbo z.1).trans (z.2.2 (fun q => k (Or.inl q)))⟩
/-- rules of one variable have been added at a place -/
def g_uo (rs lim un sp en : Int) (uR uF so : Int → Int) (b4 b5 c4 c5 : Int → Int64) (mb mc : Int → Int) : Prop :=
  (∀ s i e : Int, 0 ≤ i → i < 60 → 0 ≤ e → e < 64 → (i ≠ sp ∨ e ≠ en) → (g_H c4 s i e ↔ g_H b4 s i e) ∧ (g_H c5 s i e ↔ g_H b5 s i e)) ∧
  (∀ s i e : Int, 0 ≤ i → i < e → e ≤ 59 → (i ≠ sp ∨ e ≠ en) → g_mb mc s i e = g_mb mb s i e) ∧
  ∃ t : Int → Int, ∀ s : Int, 0 ≤ s → s < rs →
    (g_H b4 s sp en → g_H c4 s sp en ∧ g_mb mc s sp en = g_mb mb s sp en) ∧ (g_H b5 s sp en → g_H c5 s sp en) ∧ (g_H c5 s sp en → g_H c4 s sp en) ∧
    (¬ g_H b4 s sp en → g_H c4 s sp en → ∃ v : Int, 0 ≤ v ∧ v < un ∧ uR v < lim ∧ so (uR v) = s ∧ g_mb mc s sp en = uR v ∧ g_H c4 (uF v) sp en ∧ (¬ g_H c5 s sp en → ¬ g_H c5 (uF v) sp en ∧ 0 ≤ t (uF v) ∧ t (uF v) < t s)) ∧
    ∀ v : Int, 0 ≤ v → v < un → uR v < lim → so (uR v) = s → g_H c4 (uF v) sp en → g_H c4 s sp en ∧ (g_H c5 (uF v) sp en → g_H c5 s sp en) ∧ (¬ g_H c5 s sp en → g_mb mc s sp en = uR v)
theorem g_uo0 {rs lim un sp en : Int} {uR uF so : Int → Int} {b4 b5 : Int → Int64} {mb : Int → Int} (sh : ∀ s : Int, 0 ≤ s → s < rs → g_H b5 s sp en → g_H b4 s sp en) (hn : ∀ v : Int, 0 ≤ v → v < un → uR v < lim → ¬ g_H b4 (uF v) sp en) : g_uo rs lim un sp en uR uF so b4 b5 b4 b5 mb mb :=
  ⟨fun s i e _ _ _ _ _ => ⟨Iff.rfl, Iff.rfl⟩, fun s i e _ _ _ _ => rfl, fun _ => 0, fun s a b => ⟨fun q => ⟨q, rfl⟩, id, sh s a b, fun x y => absurd y x, fun v c d e _ q => absurd q (hn v c d e)⟩⟩
theorem g_uo_e {rs lim un k sp en : Int} {uR uF so base T : Int → Int} {b4 b5 c4 c5 : Int → Int64} {mb mc : Int → Int} (h : g_ua rs lim un un sp en uR uF so T b4 b5 c4 c5 mb mc) (rd : g_rd rs lim un uR uF so base T T) (pf : g_pf rs lim un k uR uF so base T) (ba : g_ba rs sp en b4 b5 base) (T0 : ∀ j, 0 ≤ T j) (b0 : ∀ j, 0 ≤ base j) (uf : ∀ v : Int, 0 ≤ v → v < un → 0 ≤ uF v ∧ uF v < rs) (sh : ∀ s : Int, 0 ≤ s → s < rs → g_H b5 s sp en → g_H b4 s sp en) : g_uo rs lim un sp en uR uF so b4 b5 c4 c5 mb mc := by
  obtain ⟨h1, h2, h3⟩ := h
  obtain ⟨p1, p2, t, p3⟩ := pf
  -- cells that are there are counted, and the other way round
  have hc : ∀ s : Int, 0 ≤ s → s < rs → 1 ≤ T s → g_H c4 s sp en := fun s a b c => by
    obtain ⟨a1, a2, a3, a4, a5, a6⟩ := h3 s a b
    obtain ⟨x1, x2, x3⟩ := p3 s a b c
    rcases x3 with x3 | ⟨v, v0, v1, v2, v3, v4, _⟩
    · by_cases z : g_H b4 s sp en
      · exact (a1 z).1
      · have := (ba s a b).1 z; omega
    · exact (a6 v v0 v1 v2 v3 v4).1
  have sc : ∀ s : Int, 0 ≤ s → s < rs → g_H c5 s sp en → 2 ≤ T s := fun s a b c => by
    obtain ⟨a1, a2, a3, a4, a5, a6⟩ := h3 s a b
    rcases a3 c with z | z
    · have hb : g_H b4 s sp en := sh s a b z
      have := (ba s a b).2.2 hb z
      have := p1 s a b; omega
    · exact z
  have ch : ∀ s : Int, 0 ≤ s → s < rs → g_H c4 s sp en → 1 ≤ T s := fun s a b c => by
    obtain ⟨a1, a2, a3, a4, a5, a6⟩ := h3 s a b
    by_cases z : g_H b4 s sp en
    · have x := p1 s a b
      obtain ⟨_, y1, y2⟩ := ba s a b
      by_cases k5 : g_H b5 s sp en
      · have := y2 z k5; omega
      · have := y1 z k5; omega
    · obtain ⟨v, v0, v1, v2, v3, v4, _⟩ := a5 z c
      have g0 : ∀ e : Int, 0 ≤ e → e < un → 0 ≤ g_ub lim s uR uF so T e := fun e _ _ => g_ub_0 T0 e
      have gv : g_ub lim s uR uF so T v = T (uF v) := by unfold g_ub; rw [if_pos ⟨v2, v3⟩]
      have w1 := sm_1 g0 v0 v1
      have dd : g_us lim un s uR uF so T = sm (g_ub lim s uR uF so T) un := rfl
      have rr := rd s a b
      have bs := b0 s
      rcases rr with ⟨r1, r2⟩ | ⟨r1, r2⟩ <;> omega
  refine ⟨h1, h2, t, fun s a b => ?_⟩
  obtain ⟨a1, a2, a3, a4, a5, a6⟩ := h3 s a b
  refine ⟨a1, a2, a4, fun x y => ?_, fun v v0 v1 v2 v3 q => ?_⟩
  rotate_left
  · have fb := uf v v0 v1
    have hT := ch (uF v) fb.1 fb.2 q
    have e := a6 v v0 v1 v2 v3 hT
    refine ⟨e.1, fun k => e.2.1 ?_, e.2.2⟩
    have t2 := sc (uF v) fb.1 fb.2 k
    have g0 : ∀ e : Int, 0 ≤ e → e < un → 0 ≤ g_ub lim s uR uF so T e := fun e _ _ => g_ub_0 T0 e
    have gv : g_ub lim s uR uF so T v = T (uF v) := by unfold g_ub; rw [if_pos ⟨v2, v3⟩]
    have w1 := sm_1 g0 v0 v1
    have dd : g_us lim un s uR uF so T = sm (g_ub lim s uR uF so T) un := rfl
    have rr := rd s a b
    have bs := b0 s
    rcases rr with ⟨r1, r2⟩ | ⟨r1, r2⟩ <;> omega
  obtain ⟨v, v0, v1, v2, v3, v4, v5⟩ := a5 x y
  have fb := uf v v0 v1
  refine ⟨v, v0, v1, v2, v3, v5, hc (uF v) fb.1 fb.2 v4, fun z => ?_⟩
  have bz := (ba s a b).1 x
  have Ts : T s ≤ 1 := by
    by_cases w : 2 ≤ T s
    · exact absurd ((a6 v v0 v1 v2 v3 v4).2.1 w) z
    · omega
  have g0 : ∀ e : Int, 0 ≤ e → e < un → 0 ≤ g_ub lim s uR uF so T e := fun e _ _ => g_ub_0 T0 e
  have gv : g_ub lim s uR uF so T v = T (uF v) := by unfold g_ub; rw [if_pos ⟨v2, v3⟩]
  have w1 := sm_1 g0 v0 v1
  have dd : g_us lim un s uR uF so T = sm (g_ub lim s uR uF so T) un := rfl
  have rr := rd s a b
  have T1 : T s = 1 ∧ T (uF v) = 1 ∧ sm (g_ub lim s uR uF so T) un = 1 := by
    rcases rr with ⟨r1, r2⟩ | ⟨r1, r2⟩ <;> omega
  refine ⟨fun q => by have := sc (uF v) fb.1 fb.2 q; omega, (p3 (uF v) fb.1 fb.2 v4).1, ?_⟩
  obtain ⟨_, _, q | ⟨w, w0, w1', w2, w3, w4, w5⟩⟩ := p3 s a b (by omega)
  · omega
  · have gw : g_ub lim s uR uF so T w = T (uF w) := by unfold g_ub; rw [if_pos ⟨w2, w3⟩]
    rcases Int.lt_trichotomy v w with k | k | k
    · have := sm_2 g0 v0 k w1'; omega
    · rw [k]; exact w5
    · have := sm_2 g0 w0 k v1; omega
theorem g_pf_w {rs lim un k l : Int} {uR uF so base T : Int → Int} (h : g_pf rs lim un k uR uF so base T) (kl : k ≤ l) : g_pf rs lim un l uR uF so base T := by
  obtain ⟨h1, h2, t, h3⟩ := h
  exact ⟨h1, h2, t, fun s a b c => by obtain ⟨x1, x2, x3⟩ := h3 s a b c; exact ⟨x1, by omega, x3⟩⟩
theorem g_ua_l {rs lim un u sp en : Int} {uR uF so T : Int → Int} {b4 b5 c4 c5 : Int → Int64} {mb mc : Int → Int} (h : g_ua rs lim un u sp en uR uF so T b4 b5 c4 c5 mb mc) (uu : u ≤ un) (l : ∀ v : Int, u ≤ v → v < un → lim ≤ uR v) : g_ua rs lim un un sp en uR uF so T b4 b5 c4 c5 mb mc := by
  obtain ⟨h1, h2, h3⟩ := h
  refine ⟨h1, h2, fun s a b => ?_⟩
  obtain ⟨a1, a2, a3, a4, a5, a6⟩ := h3 s a b
  refine ⟨a1, a2, a3, a4, fun x y => ?_, fun v c d e f g => ?_⟩
  · obtain ⟨v, v0, v1, v2⟩ := a5 x y
    exact ⟨v, v0, by omega, v2⟩
  · by_cases w : v < u
    · exact a6 v c w e f g
    · have := l v (by omega) d; omega
theorem j_b_i {x : Int64} {k : Int} (h0 : 0 ≤ k) (h1 : k < 64) : ((j_ushr x k &&& 1).toInt = 1 ∧ j_b x k) ∨ ((j_ushr x k &&& 1).toInt = 0 ∧ ¬ j_b x k) := by
  rcases j_b_v (x := x) h0 h1 with ⟨a, b⟩ | ⟨a, b⟩ <;> rw [b]
  · exact Or.inl ⟨rfl, a⟩
  · exact Or.inr ⟨rfl, a⟩
/-- the sorts that rules of one variable come from have ranks -/
theorem g_uf {k : Int} {σ : S0} {par nof : Int → Int} {In : Int → Prop} (h : c_Ug k σ par nof In) (r0 : ∀ s, 0 ≤ σ.2.1 76 s) : ∀ v : Int, 0 ≤ v → v < σ.1 46 → 0 ≤ σ.2.1 76 v ∧ σ.2.1 76 v < σ.1 4 := fun v v0 v1 => by
  obtain ⟨_, ru, un, _, kr⟩ := h
  obtain ⟨u1, u2, u3, u4⟩ := un.1 v v0 v1
  obtain ⟨_, _, w3, ⟨π, w4, w5, w6⟩, _⟩ := ru.2.1 _ u1
  have w := w6 0 (Int.le_refl _) (by omega)
  rw [show σ.2.1 14 (σ.2.1 75 v + 1) - σ.2.1 14 (σ.2.1 75 v) - 1 = 0 + 1 from by omega] at w5
  have x := kr _ w.1 w.2.1
  have z := r0 v
  have e : j_sk (σ.2.1 14) (σ.2.1 15) (σ.2.1 16) (σ.2.1 10) (σ.2.1 75 v) 0 = -1 - σ.2.1 76 v := by
    unfold j_sk
    rw [show σ.2.1 14 (σ.2.1 75 v) + 1 + 0 = σ.2.1 14 (σ.2.1 75 v) + 1 from by omega, if_neg (by omega), u4]
  rw [w.2.2.2.1, e] at x
  omega
set_option maxHeartbeats 1000000 in
theorem K_X1_reaches {n1 : Int} {n2 : Int} {σ : S0} (hT : c_T σ) (p1 : 0 ≤ n1) (p2 : n1 < 100) (p3 : 0 ≤ n2) (p4 : n2 < 64) : W_X1_reaches n1 n2 σ (fun (x : Int) => (0 ≤ x ∧ x ≤ 1) ∧ (¬ x = 0 → g_H (σ.2.2 4) n1 (σ.1 53) n2) ∧ (x = 0 → ¬ g_H (σ.2.2 4) n1 (σ.1 53) n2)) := by
  have v53 : 0 ≤ σ.1 53 ∧ σ.1 53 ≤ 58 := hT.1 53
  unfold W_X1_reaches
  refine ⟨(show 0 ≤ ((n1 * 60) + σ.1 53) ∧ ((n1 * 60) + σ.1 53) < 6000 from by (first | omega | (simp only [st_s] <;> omega) | assumption | omega | fail)), ?_⟩
  intro x2 e_x2
  refine ⟨fun c3 => ?_, fun c3 => ?_⟩
  ·
    exact ⟨(show 0 ≤ 0 ∧ 0 ≤ 1 from by (first | omega | (simp only [st_s] <;> omega) | assumption | omega | fail)), (show ¬ 0 = 0 → g_H (σ.2.2 4) n1 (σ.1 53) n2 from by (first | (intro z; exfalso; omega) | (intro _; show j_b _ _; rw [← e_x2]; exact (j_b_t (by omega) (by omega)).mp (by assumption)) | fail)), (show 0 = 0 → ¬ g_H (σ.2.2 4) n1 (σ.1 53) n2 from by (first | (intro z; exfalso; omega) | (intro _; show ¬ j_b _ _; rw [← e_x2]; exact (j_b_f (by omega) (by omega)).mp (by assumption)) | fail))⟩
  ·
    exact ⟨(show 0 ≤ 1 ∧ 1 ≤ 1 from by (first | omega | (simp only [st_s] <;> omega) | assumption | omega | fail)), (show ¬ 1 = 0 → g_H (σ.2.2 4) n1 (σ.1 53) n2 from by (first | (intro z; exfalso; omega) | (intro _; show j_b _ _; rw [← e_x2]; exact (j_b_t (by omega) (by omega)).mp (by assumption)) | fail)), (show 1 = 0 → ¬ g_H (σ.2.2 4) n1 (σ.1 53) n2 from by (first | (intro z; exfalso; omega) | (intro _; show ¬ j_b _ _; rw [← e_x2]; exact (j_b_f (by omega) (by omega)).mp (by assumption)) | fail))⟩
set_option maxHeartbeats 1000000 in
theorem K_X1_hasUnits {n1 : Int} {par nof : Int → Int} {In : Int → Prop} {σ : S0} (hT : c_T σ) (p1 : 0 ≤ n1) (p2 : n1 < 64) (p3 : c_Rs σ par nof In) : W_X1_hasUnits n1 σ (fun (x : Int) => (0 ≤ x ∧ x ≤ 1) ∧ (x = 0 → ∀ v : Int, 0 ≤ v → v < (σ.1 46) → σ.2.1 75 v < (σ.1 51) → ¬ g_H (σ.2.2 4) (σ.2.1 76 v) (σ.1 53) n1)) := by
  have v46 : 0 ≤ σ.1 46 ∧ σ.1 46 ≤ 1500 := hT.1 46
  have v51 : 0 ≤ σ.1 51 ∧ σ.1 51 ≤ 1500 := hT.1 51
  have v53 : 0 ≤ σ.1 53 ∧ σ.1 53 ≤ 58 := hT.1 53
  intro P2 h2
  have un := p3.1.2.2.1
  have l_2 : ∀ (m_2 : Nat) (u2_2 : Int), 1501 - u2_2 < (m_2 : Int) → (0 ≤ u2_2 ∧ u2_2 ≤ 1500) → (∀ v : Int, 0 ≤ v → v < u2_2 → ¬ g_H (σ.2.2 4) (σ.2.1 76 v) (σ.1 53) n1) → P2 n1 u2_2 := by
    intro m_2
    induction m_2 with
    | zero =>
      intro u2_2 hm i2_1 i2_2
      exfalso; (first | omega | (simp only [st_s] <;> omega) | assumption | omega | fail)
    | succ m_2 ih_2 =>
      intro u2_2 hm_2 i2_1 i2_2
      refine h2 n1 u2_2 ?_
      refine ⟨fun c1 => ?_, fun c1 => ?_⟩
      ·
        exact ⟨(show 0 ≤ 0 ∧ 0 ≤ 1 from by (first | omega | (simp only [st_s] <;> omega) | assumption | omega | fail)), (show 0 = 0 → ∀ v : Int, 0 ≤ v → v < (σ.1 46) → σ.2.1 75 v < (σ.1 51) → ¬ g_H (σ.2.2 4) (σ.2.1 76 v) (σ.1 53) n1 from by (first | (intro z; exfalso; omega) | (intro _ v a b c; by_cases z : v < u2_2; exact i2_2 v a z; exfalso; first | omega | (rcases (by omega : u2_2 = v ∨ u2_2 < v) with q | q; (rw [← q, ← e_x3] at c; omega); (have y := un.2.1 u2_2 v (by omega) q b; rw [← e_x3] at y; omega))) | fail))⟩
      ·
        refine ⟨(show 0 ≤ u2_2 ∧ u2_2 < 1500 from by (first | omega | (simp only [st_s] <;> omega) | assumption | omega | fail)), ?_⟩
        intro x3 r_x3 e_x3
        have b_x3 : 0 ≤ x3 ∧ x3 ≤ 1499 := by rw [e_x3]; exact hT.2 75 _
        refine ⟨fun c4 => ?_, fun c4 => ?_⟩
        ·
          exact ⟨(show 0 ≤ 0 ∧ 0 ≤ 1 from by (first | omega | (simp only [st_s] <;> omega) | assumption | omega | fail)), (show 0 = 0 → ∀ v : Int, 0 ≤ v → v < (σ.1 46) → σ.2.1 75 v < (σ.1 51) → ¬ g_H (σ.2.2 4) (σ.2.1 76 v) (σ.1 53) n1 from by (first | (intro z; exfalso; omega) | (intro _ v a b c; by_cases z : v < u2_2; exact i2_2 v a z; exfalso; first | omega | (rcases (by omega : u2_2 = v ∨ u2_2 < v) with q | q; (rw [← q, ← e_x3] at c; omega); (have y := un.2.1 u2_2 v (by omega) q b; rw [← e_x3] at y; omega))) | fail))⟩
        ·
          intro x5 r_x5 e_x5
          have b_x5 : 0 ≤ x5 ∧ x5 ≤ 99 := by rw [e_x5]; exact hT.2 76 _
          refine ⟨_, K_X1_reaches hT (show 0 ≤ x5 from by (first | omega | (simp only [st_s] <;> omega) | assumption | omega | fail)) (show x5 < 100 from by (first | omega | (simp only [st_s] <;> omega) | assumption | omega | fail)) (show 0 ≤ n1 from by (first | omega | (simp only [st_s] <;> omega) | assumption | omega | fail)) (show n1 < 64 from by (first | omega | (simp only [st_s] <;> omega) | assumption | omega | fail)), ?_⟩
          intro x7 r_x7 hq
          obtain ⟨q6_1, q6_2, q6_3⟩ := hq
          replace q6_1 : 0 ≤ x7 ∧ x7 ≤ 1 := q6_1
          replace q6_2 : ¬ x7 = 0 → g_H (σ.2.2 4) x5 (σ.1 53) n1 := q6_2
          replace q6_3 : x7 = 0 → ¬ g_H (σ.2.2 4) x5 (σ.1 53) n1 := q6_3
          refine ⟨fun c9 => ?_, fun c9 => ?_⟩
          ·
            refine ⟨(⟨by (first | omega | (simp only [st_s] <;> omega) | assumption | omega | fail), by (first | omega | (simp only [st_s] <;> omega) | assumption | omega | fail)⟩ : rg (u2_2 + 1)), ?_⟩
            exact ih_2 _ (show (1501 - (u2_2 + 1) : Int) < ((m_2 : Nat) : Int) from by ((first | omega | (simp only [st_s] <;> omega) | assumption | omega | fail))) (show 0 ≤ (u2_2 + 1) ∧ (u2_2 + 1) ≤ 1500 from by (first | omega | (simp only [st_s] <;> omega) | assumption | omega | fail)) (show ∀ v : Int, 0 ≤ v → v < (u2_2 + 1) → ¬ g_H (σ.2.2 4) (σ.2.1 76 v) (σ.1 53) n1 from by (first | (intro v a b; exfalso; omega) | (intro v a b; by_cases z : v = u2_2; (rw [z, ← e_x5]; exact q6_3 (by assumption)); exact i2_2 v a (by omega)) | fail))
          ·
            exact ⟨(show 0 ≤ 1 ∧ 1 ≤ 1 from by (first | omega | (simp only [st_s] <;> omega) | assumption | omega | fail)), (show 1 = 0 → ∀ v : Int, 0 ≤ v → v < (σ.1 46) → σ.2.1 75 v < (σ.1 51) → ¬ g_H (σ.2.2 4) (σ.2.1 76 v) (σ.1 53) n1 from by (first | (intro z; exfalso; omega) | (intro _ v a b c; by_cases z : v < u2_2; exact i2_2 v a z; exfalso; first | omega | (rcases (by omega : u2_2 = v ∨ u2_2 < v) with q | q; (rw [← q, ← e_x3] at c; omega); (have y := un.2.1 u2_2 v (by omega) q b; rw [← e_x3] at y; omega))) | fail))⟩
  exact l_2 ((1501 - 0 : Int).toNat + 1) _ (show (1501 - 0 : Int) < (((1501 - 0 : Int).toNat + 1 : Nat) : Int) from by ((first | omega | (simp only [st_s] <;> omega) | assumption | omega | fail))) (show 0 ≤ 0 ∧ 0 ≤ 1500 from by (first | omega | (simp only [st_s] <;> omega) | assumption | omega | fail)) (show ∀ v : Int, 0 ≤ v → v < 0 → ¬ g_H (σ.2.2 4) (σ.2.1 76 v) (σ.1 53) n1 from by (first | (intro v a b; exfalso; omega) | (intro v a b; by_cases z : v = u2_2; (rw [z, ← e_x5]; exact q6_3 (by assumption)); exact i2_2 v a (by omega)) | fail))
set_option maxHeartbeats 8000000 in
theorem K_X1_addUnits {n1 : Int} {par nof : Int → Int} {In : Int → Prop} {σ : S0} (hT : c_T σ) (p1 : J_all (σ.1 7) (σ.1 6) (σ.1 13) (σ.1 14) (σ.1 15) (σ.2.1 13) (σ.2.1 14) (σ.2.1 15) (σ.2.1 16) (σ.2.1 10) (σ.2.1 27) (σ.2.1 28) (σ.2.1 29) (σ.2.1 30) (σ.2.1 31) (σ.2.1 32) (σ.2.1 33) (σ.2.1 34) (σ.2.1 35) (σ.2.1 36) (σ.2.1 37)) (p2 : c_Rs σ par nof In) (p3 : (σ.1 53) < n1) (p4 : n1 ≤ (σ.1 50)) (p5 : (σ.1 53) < (σ.1 50)) (p6 : ∀ s : Int, 0 ≤ s → s < (σ.1 4) → g_H (σ.2.2 5) s (σ.1 53) n1 → g_H (σ.2.2 4) s (σ.1 53) n1) (p7 : J_rks (σ.1 5) (σ.1 4) (σ.2.1 10) (σ.2.1 11)) (p8 : J_vs (σ.1 6) (σ.1 5) (σ.2.1 15)) : W_X1_addUnits n1 σ (fun (τ : S0) => (c_T τ) ∧ (g_uo (σ.1 4) (σ.1 51) (σ.1 46) (σ.1 53) n1 (σ.2.1 75) (σ.2.1 76) (g_so (σ.1 48) (σ.2.1 14) (σ.2.1 15) (σ.2.1 10)) (σ.2.2 4) (σ.2.2 5) (τ.2.2 4) (τ.2.2 5) (σ.2.1 79) (τ.2.1 79))) := by
  have A10 : ∀ j, (-1) ≤ σ.2.1 10 j ∧ σ.2.1 10 j ≤ 99 := fun j => hT.2 10 j
  have A11 : ∀ j, 0 ≤ σ.2.1 11 j ∧ σ.2.1 11 j ≤ 999 := fun j => hT.2 11 j
  have A13 : ∀ j, 0 ≤ σ.2.1 13 j ∧ σ.2.1 13 j ≤ 4 := fun j => hT.2 13 j
  have A14 : ∀ j, 0 ≤ σ.2.1 14 j ∧ σ.2.1 14 j ≤ 30000 := fun j => hT.2 14 j
  have A15 : ∀ j, 0 ≤ σ.2.1 15 j ∧ σ.2.1 15 j ≤ 999 := fun j => hT.2 15 j
  have A16 : ∀ j, (-1) ≤ σ.2.1 16 j ∧ σ.2.1 16 j ≤ 1499 := fun j => hT.2 16 j
  have A27 : ∀ j, 0 ≤ σ.2.1 27 j ∧ σ.2.1 27 j ≤ 90000 := fun j => hT.2 27 j
  have A28 : ∀ j, 0 ≤ σ.2.1 28 j ∧ σ.2.1 28 j ≤ 60 := fun j => hT.2 28 j
  have A29 : ∀ j, 0 ≤ σ.2.1 29 j ∧ σ.2.1 29 j ≤ 1499 := fun j => hT.2 29 j
  have A30 : ∀ j, 0 ≤ σ.2.1 30 j ∧ σ.2.1 30 j ≤ 20000 := fun j => hT.2 30 j
  have A31 : ∀ j, 0 ≤ σ.2.1 31 j ∧ σ.2.1 31 j ≤ 20000 := fun j => hT.2 31 j
  have A32 : ∀ j, 0 ≤ σ.2.1 32 j ∧ σ.2.1 32 j ≤ 999999 := fun j => hT.2 32 j
  have A33 : ∀ j, 0 ≤ σ.2.1 33 j ∧ σ.2.1 33 j ≤ 20000 := fun j => hT.2 33 j
  have A34 : ∀ j, 0 ≤ σ.2.1 34 j ∧ σ.2.1 34 j ≤ 20000 := fun j => hT.2 34 j
  have A35 : ∀ j, 0 ≤ σ.2.1 35 j ∧ σ.2.1 35 j ≤ 1499 := fun j => hT.2 35 j
  have A36 : ∀ j, 0 ≤ σ.2.1 36 j ∧ σ.2.1 36 j ≤ 20000 := fun j => hT.2 36 j
  have A37 : ∀ j, 0 ≤ σ.2.1 37 j ∧ σ.2.1 37 j ≤ 19999 := fun j => hT.2 37 j
  have A75 : ∀ j, 0 ≤ σ.2.1 75 j ∧ σ.2.1 75 j ≤ 1499 := fun j => hT.2 75 j
  have A76 : ∀ j, 0 ≤ σ.2.1 76 j ∧ σ.2.1 76 j ≤ 99 := fun j => hT.2 76 j
  have A79 : ∀ j, 0 ≤ σ.2.1 79 j ∧ σ.2.1 79 j ≤ 1499 := fun j => hT.2 79 j
  have A81 : ∀ j, 0 ≤ σ.2.1 81 j ∧ σ.2.1 81 j ≤ 2 := fun j => hT.2 81 j
  have A82 : ∀ j, 0 ≤ σ.2.1 82 j ∧ σ.2.1 82 j ≤ 2 := fun j => hT.2 82 j
  have v4 : 0 ≤ σ.1 4 ∧ σ.1 4 ≤ 100 := hT.1 4
  have v5 : 0 ≤ σ.1 5 ∧ σ.1 5 ≤ 1000 := hT.1 5
  have v6 : 0 ≤ σ.1 6 ∧ σ.1 6 ≤ 30000 := hT.1 6
  have v7 : 0 ≤ σ.1 7 ∧ σ.1 7 ≤ 1500 := hT.1 7
  have v13 : 0 ≤ σ.1 13 ∧ σ.1 13 ≤ 90000 := hT.1 13
  have v14 : 0 ≤ σ.1 14 ∧ σ.1 14 ≤ 20000 := hT.1 14
  have v15 : 0 ≤ σ.1 15 ∧ σ.1 15 ≤ 20000 := hT.1 15
  have v46 : 0 ≤ σ.1 46 ∧ σ.1 46 ≤ 1500 := hT.1 46
  have v48 : (-1) ≤ σ.1 48 ∧ σ.1 48 ≤ 999 := hT.1 48
  have v50 : 0 ≤ σ.1 50 ∧ σ.1 50 ≤ 59 := hT.1 50
  have v51 : 0 ≤ σ.1 51 ∧ σ.1 51 ≤ 1500 := hT.1 51
  have v53 : 0 ≤ σ.1 53 ∧ σ.1 53 ≤ 58 := hT.1 53
  have W4 : σ.1 4 = σ.1 4 := rfl
  have W5 : σ.1 5 = σ.1 5 := rfl
  have W6 : σ.1 6 = σ.1 6 := rfl
  have W7 : σ.1 7 = σ.1 7 := rfl
  have W13 : σ.1 13 = σ.1 13 := rfl
  have W14 : σ.1 14 = σ.1 14 := rfl
  have W15 : σ.1 15 = σ.1 15 := rfl
  have W46 : σ.1 46 = σ.1 46 := rfl
  have W48 : σ.1 48 = σ.1 48 := rfl
  have W50 : σ.1 50 = σ.1 50 := rfl
  have W51 : σ.1 51 = σ.1 51 := rfl
  have W53 : σ.1 53 = σ.1 53 := rfl
  have G10 : σ.2.1 10 = σ.2.1 10 := rfl
  have G11 : σ.2.1 11 = σ.2.1 11 := rfl
  have G13 : σ.2.1 13 = σ.2.1 13 := rfl
  have G14 : σ.2.1 14 = σ.2.1 14 := rfl
  have G15 : σ.2.1 15 = σ.2.1 15 := rfl
  have G16 : σ.2.1 16 = σ.2.1 16 := rfl
  have G27 : σ.2.1 27 = σ.2.1 27 := rfl
  have G28 : σ.2.1 28 = σ.2.1 28 := rfl
  have G29 : σ.2.1 29 = σ.2.1 29 := rfl
  have G30 : σ.2.1 30 = σ.2.1 30 := rfl
  have G31 : σ.2.1 31 = σ.2.1 31 := rfl
  have G32 : σ.2.1 32 = σ.2.1 32 := rfl
  have G33 : σ.2.1 33 = σ.2.1 33 := rfl
  have G34 : σ.2.1 34 = σ.2.1 34 := rfl
  have G35 : σ.2.1 35 = σ.2.1 35 := rfl
  have G36 : σ.2.1 36 = σ.2.1 36 := rfl
  have G37 : σ.2.1 37 = σ.2.1 37 := rfl
  have G75 : σ.2.1 75 = σ.2.1 75 := rfl
  have G76 : σ.2.1 76 = σ.2.1 76 := rfl
  intro P11 P63 P86 P110 P203 h11 h63 h86 h110 h203
  have ug := p2.1
  have lns := p2.2.2
  have ru := ug.2.1
  have un := ug.2.2.1
  have jts := fun f a b => (p1.1 f a b).1.1
  have rkt := fun f a b => (p1.1 f a b).1.2.1
  have s14 := A14
  have s15 := A15
  have uf := g_uf ug (fun s => (A76 s).1)
  have TX : J_vs (σ.1 6) (σ.1 5) (σ.2.1 15) := p8
  have RKS : J_rks (σ.1 5) (σ.1 4) (σ.2.1 10) (σ.2.1 11) := p7
  have CJ : J_all (σ.1 7) (σ.1 6) (σ.1 13) (σ.1 14) (σ.1 15) (σ.2.1 13) (σ.2.1 14) (σ.2.1 15) (σ.2.1 16) (σ.2.1 10) (σ.2.1 27) (σ.2.1 28) (σ.2.1 29) (σ.2.1 30) (σ.2.1 31) (σ.2.1 32) (σ.2.1 33) (σ.2.1 34) (σ.2.1 35) (σ.2.1 36) (σ.2.1 37) := p1
  have CJ_0 := CJ
  have RKS_0 := RKS
  have TX_0 := TX
  have l_110 : ∀ (m_110 : Nat) (u3_110 : Int) (τ_110 : S0), 1501 - u3_110 < (m_110 : Int) → (c_T τ_110) → (τ_110.1 4 = σ.1 4) → (τ_110.1 5 = σ.1 5) → (τ_110.1 6 = σ.1 6) → (τ_110.1 7 = σ.1 7) → (τ_110.1 13 = σ.1 13) → (τ_110.1 14 = σ.1 14) → (τ_110.1 15 = σ.1 15) → (τ_110.1 46 = σ.1 46) → (τ_110.1 48 = σ.1 48) → (τ_110.1 50 = σ.1 50) → (τ_110.1 51 = σ.1 51) → (τ_110.1 53 = σ.1 53) → (τ_110.2.1 10 = σ.2.1 10) → (τ_110.2.1 11 = σ.2.1 11) → (τ_110.2.1 13 = σ.2.1 13) → (τ_110.2.1 14 = σ.2.1 14) → (τ_110.2.1 15 = σ.2.1 15) → (τ_110.2.1 16 = σ.2.1 16) → (τ_110.2.1 27 = σ.2.1 27) → (τ_110.2.1 28 = σ.2.1 28) → (τ_110.2.1 29 = σ.2.1 29) → (τ_110.2.1 30 = σ.2.1 30) → (τ_110.2.1 31 = σ.2.1 31) → (τ_110.2.1 32 = σ.2.1 32) → (τ_110.2.1 33 = σ.2.1 33) → (τ_110.2.1 34 = σ.2.1 34) → (τ_110.2.1 35 = σ.2.1 35) → (τ_110.2.1 36 = σ.2.1 36) → (τ_110.2.1 37 = σ.2.1 37) → (τ_110.2.1 75 = σ.2.1 75) → (τ_110.2.1 76 = σ.2.1 76) → (0 ≤ u3_110 ∧ u3_110 ≤ (σ.1 46)) → (g_ua (σ.1 4) (σ.1 51) (σ.1 46) u3_110 (σ.1 53) n1 (σ.2.1 75) (σ.2.1 76) (g_so (σ.1 48) (σ.2.1 14) (σ.2.1 15) (σ.2.1 10)) (τ_110.2.1 82) (σ.2.2 4) (σ.2.2 5) (τ_110.2.2 4) (τ_110.2.2 5) (σ.2.1 79) (τ_110.2.1 79)) → (g_rd (σ.1 4) (σ.1 51) (σ.1 46) (σ.2.1 75) (σ.2.1 76) (g_so (σ.1 48) (σ.2.1 14) (σ.2.1 15) (σ.2.1 10)) (τ_110.2.1 81) (τ_110.2.1 82) (τ_110.2.1 82)) → (g_pf (σ.1 4) (σ.1 51) (σ.1 46) 201 (σ.2.1 75) (σ.2.1 76) (g_so (σ.1 48) (σ.2.1 14) (σ.2.1 15) (σ.2.1 10)) (τ_110.2.1 81) (τ_110.2.1 82)) → (g_ba (σ.1 4) (σ.1 53) n1 (σ.2.2 4) (σ.2.2 5) (τ_110.2.1 81)) → P110 n1 u3_110 τ_110 := by
    intro m_110
    induction m_110 with
    | zero =>
      intro u3_110 τ_110 hm hT W4 W5 W6 W7 W13 W14 W15 W46 W48 W50 W51 W53 G10 G11 G13 G14 G15 G16 G27 G28 G29 G30 G31 G32 G33 G34 G35 G36 G37 G75 G76 i110_1 i110_2 i110_3 i110_4 i110_5
      have A10 : ∀ j, (-1) ≤ τ_110.2.1 10 j ∧ τ_110.2.1 10 j ≤ 99 := fun j => hT.2 10 j
      have A11 : ∀ j, 0 ≤ τ_110.2.1 11 j ∧ τ_110.2.1 11 j ≤ 999 := fun j => hT.2 11 j
      have A13 : ∀ j, 0 ≤ τ_110.2.1 13 j ∧ τ_110.2.1 13 j ≤ 4 := fun j => hT.2 13 j
      have A14 : ∀ j, 0 ≤ τ_110.2.1 14 j ∧ τ_110.2.1 14 j ≤ 30000 := fun j => hT.2 14 j
      have A15 : ∀ j, 0 ≤ τ_110.2.1 15 j ∧ τ_110.2.1 15 j ≤ 999 := fun j => hT.2 15 j
      have A16 : ∀ j, (-1) ≤ τ_110.2.1 16 j ∧ τ_110.2.1 16 j ≤ 1499 := fun j => hT.2 16 j
      have A27 : ∀ j, 0 ≤ τ_110.2.1 27 j ∧ τ_110.2.1 27 j ≤ 90000 := fun j => hT.2 27 j
      have A28 : ∀ j, 0 ≤ τ_110.2.1 28 j ∧ τ_110.2.1 28 j ≤ 60 := fun j => hT.2 28 j
      have A29 : ∀ j, 0 ≤ τ_110.2.1 29 j ∧ τ_110.2.1 29 j ≤ 1499 := fun j => hT.2 29 j
      have A30 : ∀ j, 0 ≤ τ_110.2.1 30 j ∧ τ_110.2.1 30 j ≤ 20000 := fun j => hT.2 30 j
      have A31 : ∀ j, 0 ≤ τ_110.2.1 31 j ∧ τ_110.2.1 31 j ≤ 20000 := fun j => hT.2 31 j
      have A32 : ∀ j, 0 ≤ τ_110.2.1 32 j ∧ τ_110.2.1 32 j ≤ 999999 := fun j => hT.2 32 j
      have A33 : ∀ j, 0 ≤ τ_110.2.1 33 j ∧ τ_110.2.1 33 j ≤ 20000 := fun j => hT.2 33 j
      have A34 : ∀ j, 0 ≤ τ_110.2.1 34 j ∧ τ_110.2.1 34 j ≤ 20000 := fun j => hT.2 34 j
      have A35 : ∀ j, 0 ≤ τ_110.2.1 35 j ∧ τ_110.2.1 35 j ≤ 1499 := fun j => hT.2 35 j
      have A36 : ∀ j, 0 ≤ τ_110.2.1 36 j ∧ τ_110.2.1 36 j ≤ 20000 := fun j => hT.2 36 j
      have A37 : ∀ j, 0 ≤ τ_110.2.1 37 j ∧ τ_110.2.1 37 j ≤ 19999 := fun j => hT.2 37 j
      have A75 : ∀ j, 0 ≤ τ_110.2.1 75 j ∧ τ_110.2.1 75 j ≤ 1499 := fun j => hT.2 75 j
      have A76 : ∀ j, 0 ≤ τ_110.2.1 76 j ∧ τ_110.2.1 76 j ≤ 99 := fun j => hT.2 76 j
      have A79 : ∀ j, 0 ≤ τ_110.2.1 79 j ∧ τ_110.2.1 79 j ≤ 1499 := fun j => hT.2 79 j
      have A81 : ∀ j, 0 ≤ τ_110.2.1 81 j ∧ τ_110.2.1 81 j ≤ 2 := fun j => hT.2 81 j
      have A82 : ∀ j, 0 ≤ τ_110.2.1 82 j ∧ τ_110.2.1 82 j ≤ 2 := fun j => hT.2 82 j
      have v4 : 0 ≤ τ_110.1 4 ∧ τ_110.1 4 ≤ 100 := hT.1 4
      have v5 : 0 ≤ τ_110.1 5 ∧ τ_110.1 5 ≤ 1000 := hT.1 5
      have v6 : 0 ≤ τ_110.1 6 ∧ τ_110.1 6 ≤ 30000 := hT.1 6
      have v7 : 0 ≤ τ_110.1 7 ∧ τ_110.1 7 ≤ 1500 := hT.1 7
      have v13 : 0 ≤ τ_110.1 13 ∧ τ_110.1 13 ≤ 90000 := hT.1 13
      have v14 : 0 ≤ τ_110.1 14 ∧ τ_110.1 14 ≤ 20000 := hT.1 14
      have v15 : 0 ≤ τ_110.1 15 ∧ τ_110.1 15 ≤ 20000 := hT.1 15
      have v46 : 0 ≤ τ_110.1 46 ∧ τ_110.1 46 ≤ 1500 := hT.1 46
      have v48 : (-1) ≤ τ_110.1 48 ∧ τ_110.1 48 ≤ 999 := hT.1 48
      have v50 : 0 ≤ τ_110.1 50 ∧ τ_110.1 50 ≤ 59 := hT.1 50
      have v51 : 0 ≤ τ_110.1 51 ∧ τ_110.1 51 ≤ 1500 := hT.1 51
      have v53 : 0 ≤ τ_110.1 53 ∧ τ_110.1 53 ≤ 58 := hT.1 53
      exfalso; (first | omega | (simp only [st_s] <;> omega) | assumption | omega | fail)
    | succ m_110 ih_110 =>
      intro u3_110 τ_110 hm_110 hT W4 W5 W6 W7 W13 W14 W15 W46 W48 W50 W51 W53 G10 G11 G13 G14 G15 G16 G27 G28 G29 G30 G31 G32 G33 G34 G35 G36 G37 G75 G76 i110_1 i110_2 i110_3 i110_4 i110_5
      have A10 : ∀ j, (-1) ≤ τ_110.2.1 10 j ∧ τ_110.2.1 10 j ≤ 99 := fun j => hT.2 10 j
      have A11 : ∀ j, 0 ≤ τ_110.2.1 11 j ∧ τ_110.2.1 11 j ≤ 999 := fun j => hT.2 11 j
      have A13 : ∀ j, 0 ≤ τ_110.2.1 13 j ∧ τ_110.2.1 13 j ≤ 4 := fun j => hT.2 13 j
      have A14 : ∀ j, 0 ≤ τ_110.2.1 14 j ∧ τ_110.2.1 14 j ≤ 30000 := fun j => hT.2 14 j
      have A15 : ∀ j, 0 ≤ τ_110.2.1 15 j ∧ τ_110.2.1 15 j ≤ 999 := fun j => hT.2 15 j
      have A16 : ∀ j, (-1) ≤ τ_110.2.1 16 j ∧ τ_110.2.1 16 j ≤ 1499 := fun j => hT.2 16 j
      have A27 : ∀ j, 0 ≤ τ_110.2.1 27 j ∧ τ_110.2.1 27 j ≤ 90000 := fun j => hT.2 27 j
      have A28 : ∀ j, 0 ≤ τ_110.2.1 28 j ∧ τ_110.2.1 28 j ≤ 60 := fun j => hT.2 28 j
      have A29 : ∀ j, 0 ≤ τ_110.2.1 29 j ∧ τ_110.2.1 29 j ≤ 1499 := fun j => hT.2 29 j
      have A30 : ∀ j, 0 ≤ τ_110.2.1 30 j ∧ τ_110.2.1 30 j ≤ 20000 := fun j => hT.2 30 j
      have A31 : ∀ j, 0 ≤ τ_110.2.1 31 j ∧ τ_110.2.1 31 j ≤ 20000 := fun j => hT.2 31 j
      have A32 : ∀ j, 0 ≤ τ_110.2.1 32 j ∧ τ_110.2.1 32 j ≤ 999999 := fun j => hT.2 32 j
      have A33 : ∀ j, 0 ≤ τ_110.2.1 33 j ∧ τ_110.2.1 33 j ≤ 20000 := fun j => hT.2 33 j
      have A34 : ∀ j, 0 ≤ τ_110.2.1 34 j ∧ τ_110.2.1 34 j ≤ 20000 := fun j => hT.2 34 j
      have A35 : ∀ j, 0 ≤ τ_110.2.1 35 j ∧ τ_110.2.1 35 j ≤ 1499 := fun j => hT.2 35 j
      have A36 : ∀ j, 0 ≤ τ_110.2.1 36 j ∧ τ_110.2.1 36 j ≤ 20000 := fun j => hT.2 36 j
      have A37 : ∀ j, 0 ≤ τ_110.2.1 37 j ∧ τ_110.2.1 37 j ≤ 19999 := fun j => hT.2 37 j
      have A75 : ∀ j, 0 ≤ τ_110.2.1 75 j ∧ τ_110.2.1 75 j ≤ 1499 := fun j => hT.2 75 j
      have A76 : ∀ j, 0 ≤ τ_110.2.1 76 j ∧ τ_110.2.1 76 j ≤ 99 := fun j => hT.2 76 j
      have A79 : ∀ j, 0 ≤ τ_110.2.1 79 j ∧ τ_110.2.1 79 j ≤ 1499 := fun j => hT.2 79 j
      have A81 : ∀ j, 0 ≤ τ_110.2.1 81 j ∧ τ_110.2.1 81 j ≤ 2 := fun j => hT.2 81 j
      have A82 : ∀ j, 0 ≤ τ_110.2.1 82 j ∧ τ_110.2.1 82 j ≤ 2 := fun j => hT.2 82 j
      have v4 : 0 ≤ τ_110.1 4 ∧ τ_110.1 4 ≤ 100 := hT.1 4
      have v5 : 0 ≤ τ_110.1 5 ∧ τ_110.1 5 ≤ 1000 := hT.1 5
      have v6 : 0 ≤ τ_110.1 6 ∧ τ_110.1 6 ≤ 30000 := hT.1 6
      have v7 : 0 ≤ τ_110.1 7 ∧ τ_110.1 7 ≤ 1500 := hT.1 7
      have v13 : 0 ≤ τ_110.1 13 ∧ τ_110.1 13 ≤ 90000 := hT.1 13
      have v14 : 0 ≤ τ_110.1 14 ∧ τ_110.1 14 ≤ 20000 := hT.1 14
      have v15 : 0 ≤ τ_110.1 15 ∧ τ_110.1 15 ≤ 20000 := hT.1 15
      have v46 : 0 ≤ τ_110.1 46 ∧ τ_110.1 46 ≤ 1500 := hT.1 46
      have v48 : (-1) ≤ τ_110.1 48 ∧ τ_110.1 48 ≤ 999 := hT.1 48
      have v50 : 0 ≤ τ_110.1 50 ∧ τ_110.1 50 ≤ 59 := hT.1 50
      have v51 : 0 ≤ τ_110.1 51 ∧ τ_110.1 51 ≤ 1500 := hT.1 51
      have v53 : 0 ≤ τ_110.1 53 ∧ τ_110.1 53 ≤ 58 := hT.1 53
      have TX : J_vs (τ_110.1 6) (τ_110.1 5) (τ_110.2.1 15) := by rw [show (J_vs (τ_110.1 6) (τ_110.1 5) (τ_110.2.1 15)) = (J_vs (σ.1 6) (σ.1 5) (σ.2.1 15)) from by rw [W5, W6, G15]]; exact TX_0
      have RKS : J_rks (τ_110.1 5) (τ_110.1 4) (τ_110.2.1 10) (τ_110.2.1 11) := by rw [show (J_rks (τ_110.1 5) (τ_110.1 4) (τ_110.2.1 10) (τ_110.2.1 11)) = (J_rks (σ.1 5) (σ.1 4) (σ.2.1 10) (σ.2.1 11)) from by rw [W4, W5, G10, G11]]; exact RKS_0
      have CJ : J_all (τ_110.1 7) (τ_110.1 6) (τ_110.1 13) (τ_110.1 14) (τ_110.1 15) (τ_110.2.1 13) (τ_110.2.1 14) (τ_110.2.1 15) (τ_110.2.1 16) (τ_110.2.1 10) (τ_110.2.1 27) (τ_110.2.1 28) (τ_110.2.1 29) (τ_110.2.1 30) (τ_110.2.1 31) (τ_110.2.1 32) (τ_110.2.1 33) (τ_110.2.1 34) (τ_110.2.1 35) (τ_110.2.1 36) (τ_110.2.1 37) := by rw [show (J_all (τ_110.1 7) (τ_110.1 6) (τ_110.1 13) (τ_110.1 14) (τ_110.1 15) (τ_110.2.1 13) (τ_110.2.1 14) (τ_110.2.1 15) (τ_110.2.1 16) (τ_110.2.1 10) (τ_110.2.1 27) (τ_110.2.1 28) (τ_110.2.1 29) (τ_110.2.1 30) (τ_110.2.1 31) (τ_110.2.1 32) (τ_110.2.1 33) (τ_110.2.1 34) (τ_110.2.1 35) (τ_110.2.1 36) (τ_110.2.1 37)) = (J_all (σ.1 7) (σ.1 6) (σ.1 13) (σ.1 14) (σ.1 15) (σ.2.1 13) (σ.2.1 14) (σ.2.1 15) (σ.2.1 16) (σ.2.1 10) (σ.2.1 27) (σ.2.1 28) (σ.2.1 29) (σ.2.1 30) (σ.2.1 31) (σ.2.1 32) (σ.2.1 33) (σ.2.1 34) (σ.2.1 35) (σ.2.1 36) (σ.2.1 37)) from by rw [W6, W7, W13, W14, W15, G10, G13, G14, G15, G16, G27, G28, G29, G30, G31, G32, G33, G34, G35, G36, G37]]; exact CJ_0
      refine h110 n1 u3_110 τ_110 ?_
      refine ⟨fun c24 => ?_, fun c24 => ?_⟩
      ·
        have T0d := fun j => (A82 j).1
        have B0d := fun j => (A81 j).1
        exact ⟨hT, (show g_uo (σ.1 4) (σ.1 51) (σ.1 46) (σ.1 53) n1 (σ.2.1 75) (σ.2.1 76) (g_so (σ.1 48) (σ.2.1 14) (σ.2.1 15) (σ.2.1 10)) (σ.2.2 4) (σ.2.2 5) (τ_110.2.2 4) (τ_110.2.2 5) (σ.2.1 79) (τ_110.2.1 79) from by (first | exact g_uo0 p6 (q1_2 (by assumption)) | exact g_uo_e (g_ua_l i110_2 (by omega) (fun v a b => by first | (exfalso; omega) | (rcases (by omega : u3_110 = v ∨ u3_110 < v) with q | q; (rw [← q]; omega); (have y := un.2.1 u3_110 v (by omega) q b; omega)))) i110_3 i110_4 i110_5 (fun j => (A82 j).1) (fun j => (A81 j).1) uf p6 | fail))⟩
      ·
        have T0d := fun j => (A82 j).1
        have B0d := fun j => (A81 j).1
        refine ⟨(show 0 ≤ u3_110 ∧ u3_110 < 1500 from by (first | omega | (simp only [st_s] <;> omega) | assumption | omega | fail)), ?_⟩
        intro x26 r_x26 e_x26
        have b_x26 : 0 ≤ x26 ∧ x26 ≤ 1499 := by rw [e_x26]; exact hT.2 75 _
        refine ⟨fun c27 => ?_, fun c27 => ?_⟩
        ·
          have e26 : x26 = σ.2.1 75 u3_110 := by rw [e_x26, G75]
          exact ⟨hT, (show g_uo (σ.1 4) (σ.1 51) (σ.1 46) (σ.1 53) n1 (σ.2.1 75) (σ.2.1 76) (g_so (σ.1 48) (σ.2.1 14) (σ.2.1 15) (σ.2.1 10)) (σ.2.2 4) (σ.2.2 5) (τ_110.2.2 4) (τ_110.2.2 5) (σ.2.1 79) (τ_110.2.1 79) from by (first | exact g_uo0 p6 (q1_2 (by assumption)) | exact g_uo_e (g_ua_l i110_2 (by omega) (fun v a b => by first | (exfalso; omega) | (rcases (by omega : u3_110 = v ∨ u3_110 < v) with q | q; (rw [← q]; omega); (have y := un.2.1 u3_110 v (by omega) q b; omega)))) i110_3 i110_4 i110_5 (fun j => (A82 j).1) (fun j => (A81 j).1) uf p6 | fail))⟩
        ·
          have e26 : x26 = σ.2.1 75 u3_110 := by rw [e_x26, G75]
          intro x28 r_x28 e_x28
          have b_x28 : 0 ≤ x28 ∧ x28 ≤ 99 := by rw [e_x28]; exact hT.2 76 _
          rw [G76] at e_x28
          refine ⟨(show 0 ≤ x28 ∧ x28 < 100 from by (first | omega | (simp only [st_s] <;> omega) | assumption | omega | fail)), ?_⟩
          intro x30 r_x30 e_x30
          have b_x30 : 0 ≤ x30 ∧ x30 ≤ 2 := by rw [e_x30]; exact hT.2 82 _
          refine ⟨fun c31 => ?_, fun c31 => ?_⟩
          ·
            refine ⟨(⟨by (first | omega | (simp only [st_s] <;> omega) | assumption | omega | fail), by (first | omega | (simp only [st_s] <;> omega) | assumption | omega | fail)⟩ : rg (u3_110 + 1)), ?_⟩
            exact ih_110 _ _ (show (1501 - (u3_110 + 1) : Int) < ((m_110 : Nat) : Int) from by ((first | omega | (simp only [st_s] <;> omega) | assumption | omega | fail))) hT (show τ_110.1 4 = σ.1 4 from by first | exact W4 | omega) (show τ_110.1 5 = σ.1 5 from by first | exact W5 | omega) (show τ_110.1 6 = σ.1 6 from by first | exact W6 | omega) (show τ_110.1 7 = σ.1 7 from by first | exact W7 | omega) (show τ_110.1 13 = σ.1 13 from by first | exact W13 | omega) (show τ_110.1 14 = σ.1 14 from by first | exact W14 | omega) (show τ_110.1 15 = σ.1 15 from by first | exact W15 | omega) (show τ_110.1 46 = σ.1 46 from by first | exact W46 | omega) (show τ_110.1 48 = σ.1 48 from by first | exact W48 | omega) (show τ_110.1 50 = σ.1 50 from by first | exact W50 | omega) (show τ_110.1 51 = σ.1 51 from by first | exact W51 | omega) (show τ_110.1 53 = σ.1 53 from by first | exact W53 | omega) G10 G11 G13 G14 G15 G16 G27 G28 G29 G30 G31 G32 G33 G34 G35 G36 G37 G75 G76 (show 0 ≤ (u3_110 + 1) ∧ (u3_110 + 1) ≤ (σ.1 46) from by (first | omega | (simp only [st_s] <;> omega) | assumption | omega | fail)) (show g_ua (σ.1 4) (σ.1 51) (σ.1 46) (u3_110 + 1) (σ.1 53) n1 (σ.2.1 75) (σ.2.1 76) (g_so (σ.1 48) (σ.2.1 14) (σ.2.1 15) (σ.2.1 10)) (τ_110.2.1 82) (σ.2.2 4) (σ.2.2 5) (τ_110.2.2 4) (τ_110.2.2 5) (σ.2.1 79) (τ_110.2.1 79) from by (first | (rw [i86_7, i86_8, i86_9]; exact g_ua0 p6) | exact g_ua_n i110_2 (fun q => by rw [← e_x28, ← e_x30] at q; omega) | (rw [g82_τ47]; exact g_ua_a (len := σ.1 50) (s0 := x38) i110_2 i110_3 i110_5 T0d B0d (by omega) (by omega) (by rw [← e26]; omega) (by rw [x38s, e33]) (by have y := uf u3_110 (by omega) (by omega); have w := (A10 x35).2; exact ⟨by omega, rkb⟩) (by rw [← e_x28, ← e_x30]; omega) (by omega) (by omega) (by omega) (by omega) (fun e a b => j_b_one (by omega) (by omega) a b) (fun e a b => by first | exact ⟨fun q => absurd q (j_b_0 e), fun q => by exfalso; omega⟩ | exact ⟨fun q => ⟨(j_b_one (by omega) (by omega) a b).mp q, by omega⟩, fun q => (j_b_one (by omega) (by omega) a b).mpr q.1⟩) (by rw [q45_1, W53o]) (by rw [q45_2, W53o]) (fun s i e a b c => by have w := q45_3 s i e a b c; rw [W53o, W50o] at w; rw [← e44]; exact w)) | fail)) (show g_rd (σ.1 4) (σ.1 51) (σ.1 46) (σ.2.1 75) (σ.2.1 76) (g_so (σ.1 48) (σ.2.1 14) (σ.2.1 15) (σ.2.1 10)) (τ_110.2.1 81) (τ_110.2.1 82) (τ_110.2.1 82) from by (first | exact i110_3 | (rw [g81_τ47, g82_τ47]; exact i110_3) | (have q9 := i86_5; rcases q9 with w | w; exact w; first | exact i86_6 (by omega) | (exfalso; omega)) | fail)) (show g_pf (σ.1 4) (σ.1 51) (σ.1 46) 201 (σ.2.1 75) (σ.2.1 76) (g_so (σ.1 48) (σ.2.1 14) (σ.2.1 15) (σ.2.1 10)) (τ_110.2.1 81) (τ_110.2.1 82) from by (first | exact i110_4 | (rw [g81_τ47, g82_τ47]; exact i110_4) | exact g_pf_w i86_3 (by omega) | fail)) (show g_ba (σ.1 4) (σ.1 53) n1 (σ.2.2 4) (σ.2.2 5) (τ_110.2.1 81) from by (first | exact i110_5 | (rw [g81_τ47]; exact i110_5) | exact i86_4 | fail))
          ·
            intro x33 r_x33 e_x33
            have b_x33 : 0 ≤ x33 ∧ x33 ≤ 1499 := by rw [e_x33]; exact hT.2 75 _
            have uu := un.1 u3_110 (by omega) (by omega)
            have e33 : x33 = σ.2.1 75 u3_110 := by rw [e_x33, G75]
            rw [← e33] at uu
            have ru2 := ru.2.1 x33 uu.1
            have l1 := ru2.1
            have jt1 := jts x33 (by omega) (by omega)
            have t14 := s14 (x33 + 1)
            refine ⟨_, K_X3_typeOf hT (show 0 ≤ x33 from by (first | omega | (simp only [st_s] <;> omega) | assumption | omega | fail)) (show x33 ≤ 1500 from by (first | omega | (simp only [st_s] <;> omega) | assumption | omega | fail)) (show τ_110.2.1 14 x33 < 30000 from by (rw [G14]; omega)), ?_⟩
            intro x35 r_x35 hq
            obtain ⟨q34_1, q34_2⟩ := hq
            replace q34_1 : x35 = τ_110.2.1 15 (τ_110.2.1 14 x33) := q34_1
            replace q34_2 : 0 ≤ x35 ∧ x35 ≤ 999 := q34_2
            refine ⟨_, K2_X8_sortRank hT (show 0 ≤ x35 from by (first | omega | (simp only [st_s] <;> omega) | assumption | omega | fail)) (show x35 < 1000 from by (first | omega | (simp only [st_s] <;> omega) | assumption | omega | fail)), ?_⟩
            intro x38 r_x38 hq
            obtain ⟨q37_1, q37_2, q37_3⟩ := hq
            replace q37_1 : -1 ≤ x38 ∧ x38 ≤ 99 := q37_1
            replace q37_2 : ¬ x35 = (τ_110.1 48) → x38 = τ_110.2.1 10 x35 := q37_2
            replace q37_3 : x35 = (τ_110.1 48) → x38 = -1 := q37_3
            have tp : x35 = σ.2.1 15 (σ.2.1 14 x33) := by rw [q34_1, G15, G14]
            have pn := g_p1_x (ug.2.2.2.1 x33 uu.1).1 p2.2.1 (s15 _).1 (by omega)
            have rk2 := rkt x33 (by omega) (by omega)
            rw [← tp] at pn rk2
            have x38e := q37_2 (by omega)
            rw [G10] at x38e
            have x38s : x38 = g_so (σ.1 48) (σ.2.1 14) (σ.2.1 15) (σ.2.1 10) x33 := by (rw [g_so_n (by rw [← tp]; exact pn), x38e, tp])
            refine ⟨(show 0 ≤ x38 ∧ x38 < 100 from by (first | omega | (simp only [st_s] <;> omega) | assumption | omega | fail)), ?_⟩
            intro x41 r_x41 e_x41
            have b_x41 : 0 ≤ x41 ∧ x41 ≤ 2 := by rw [e_x41]; exact hT.2 82 _
            refine ⟨fun c42 => ?_, fun c42 => ?_⟩
            ·
              refine h203 _ _ _ _ _ _ ?_
              refine ⟨(show 0 ≤ u3_110 ∧ u3_110 < 1500 from by (first | omega | (simp only [st_s] <;> omega) | assumption | omega | fail)), ?_⟩
              intro x44 r_x44 e_x44
              have b_x44 : 0 ≤ x44 ∧ x44 ≤ 1499 := by rw [e_x44]; exact hT.2 75 _
              have e44 : x44 = σ.2.1 75 u3_110 := by rw [e_x44, G75]
              have W53o := W53
              have W50o := W50
              have rkb : x38 < σ.1 4 := by rw [x38e]; exact (p7.2 x35 (by omega) (by rw [tp]; exact p8 (σ.2.1 14 x33) (s14 _).1 (by omega))).1
              refine ⟨_, K_X1_add hT (show 0 ≤ x38 from by (first | omega | (simp only [st_s] <;> omega) | assumption | omega | fail)) (show x38 < 100 from by (first | omega | (simp only [st_s] <;> omega) | assumption | omega | fail)) (show 0 ≤ x44 from by (first | omega | (simp only [st_s] <;> omega) | assumption | omega | fail)) (show x44 < 1500 from by (first | omega | (simp only [st_s] <;> omega) | assumption | omega | fail)) (show (τ_110.1 53) < (τ_110.1 50) from by (first | omega | (simp only [st_s] <;> omega) | assumption | omega | fail)), ?_⟩
              intro τ47 hn_τ47 hf_τ47 hq
              obtain ⟨hT, q45_1, q45_2, q45_3⟩ := hq
              replace q45_1 : τ47.2.2 4 = st (τ_110.2.2 4) ((x38 * 60) + (τ_110.1 53)) (τ_110.2.2 4 ((x38 * 60) + (τ_110.1 53)) ||| (j_shl 1 n1)) := q45_1
              replace q45_2 : τ47.2.2 5 = st (τ_110.2.2 5) ((x38 * 60) + (τ_110.1 53)) (τ_110.2.2 5 ((x38 * 60) + (τ_110.1 53)) ||| ((0 : Int64) ||| ((j_shl 1 n1) &&& τ_110.2.2 4 ((x38 * 60) + (τ_110.1 53))))) := q45_2
              replace q45_3 : ∀ s i e : Int, 0 ≤ i → i < e → e ≤ 59 → (¬ (s = x38 ∧ i = (τ_110.1 53) ∧ e ≤ (τ_110.1 50) ∧ j_b (j_shl 1 n1) e ∧ ¬ j_b (τ_110.2.2 4 ((x38 * 60) + (τ_110.1 53))) e) → g_mb (τ47.2.1 79) s i e = g_mb (τ_110.2.1 79) s i e) ∧ ((s = x38 ∧ i = (τ_110.1 53) ∧ e ≤ (τ_110.1 50) ∧ j_b (j_shl 1 n1) e ∧ ¬ j_b (τ_110.2.2 4 ((x38 * 60) + (τ_110.1 53))) e) → g_mb (τ47.2.1 79) s i e = x44) := q45_3
              have w4_τ47 : τ47.1 4 = τ_110.1 4 := hf_τ47.1 4 (by decide)
              have w5_τ47 : τ47.1 5 = τ_110.1 5 := hf_τ47.1 5 (by decide)
              have w6_τ47 : τ47.1 6 = τ_110.1 6 := hf_τ47.1 6 (by decide)
              have w7_τ47 : τ47.1 7 = τ_110.1 7 := hf_τ47.1 7 (by decide)
              have w13_τ47 : τ47.1 13 = τ_110.1 13 := hf_τ47.1 13 (by decide)
              have w14_τ47 : τ47.1 14 = τ_110.1 14 := hf_τ47.1 14 (by decide)
              have w15_τ47 : τ47.1 15 = τ_110.1 15 := hf_τ47.1 15 (by decide)
              have w46_τ47 : τ47.1 46 = τ_110.1 46 := hf_τ47.1 46 (by decide)
              have w48_τ47 : τ47.1 48 = τ_110.1 48 := hf_τ47.1 48 (by decide)
              have w50_τ47 : τ47.1 50 = τ_110.1 50 := hf_τ47.1 50 (by decide)
              have w51_τ47 : τ47.1 51 = τ_110.1 51 := hf_τ47.1 51 (by decide)
              have w53_τ47 : τ47.1 53 = τ_110.1 53 := hf_τ47.1 53 (by decide)
              have g10_τ47 : τ47.2.1 10 = τ_110.2.1 10 := hf_τ47.2.1 10 (by decide)
              have g11_τ47 : τ47.2.1 11 = τ_110.2.1 11 := hf_τ47.2.1 11 (by decide)
              have g13_τ47 : τ47.2.1 13 = τ_110.2.1 13 := hf_τ47.2.1 13 (by decide)
              have g14_τ47 : τ47.2.1 14 = τ_110.2.1 14 := hf_τ47.2.1 14 (by decide)
              have g15_τ47 : τ47.2.1 15 = τ_110.2.1 15 := hf_τ47.2.1 15 (by decide)
              have g16_τ47 : τ47.2.1 16 = τ_110.2.1 16 := hf_τ47.2.1 16 (by decide)
              have g27_τ47 : τ47.2.1 27 = τ_110.2.1 27 := hf_τ47.2.1 27 (by decide)
              have g28_τ47 : τ47.2.1 28 = τ_110.2.1 28 := hf_τ47.2.1 28 (by decide)
              have g29_τ47 : τ47.2.1 29 = τ_110.2.1 29 := hf_τ47.2.1 29 (by decide)
              have g30_τ47 : τ47.2.1 30 = τ_110.2.1 30 := hf_τ47.2.1 30 (by decide)
              have g31_τ47 : τ47.2.1 31 = τ_110.2.1 31 := hf_τ47.2.1 31 (by decide)
              have g32_τ47 : τ47.2.1 32 = τ_110.2.1 32 := hf_τ47.2.1 32 (by decide)
              have g33_τ47 : τ47.2.1 33 = τ_110.2.1 33 := hf_τ47.2.1 33 (by decide)
              have g34_τ47 : τ47.2.1 34 = τ_110.2.1 34 := hf_τ47.2.1 34 (by decide)
              have g35_τ47 : τ47.2.1 35 = τ_110.2.1 35 := hf_τ47.2.1 35 (by decide)
              have g36_τ47 : τ47.2.1 36 = τ_110.2.1 36 := hf_τ47.2.1 36 (by decide)
              have g37_τ47 : τ47.2.1 37 = τ_110.2.1 37 := hf_τ47.2.1 37 (by decide)
              have g75_τ47 : τ47.2.1 75 = τ_110.2.1 75 := hf_τ47.2.1 75 (by decide)
              have g76_τ47 : τ47.2.1 76 = τ_110.2.1 76 := hf_τ47.2.1 76 (by decide)
              have g81_τ47 : τ47.2.1 81 = τ_110.2.1 81 := hf_τ47.2.1 81 (by decide)
              have g82_τ47 : τ47.2.1 82 = τ_110.2.1 82 := hf_τ47.2.1 82 (by decide)
              have W4 : τ47.1 4 = σ.1 4 := by first | exact w4_τ47.trans W4 | omega
              have W5 : τ47.1 5 = σ.1 5 := by first | exact w5_τ47.trans W5 | omega
              have W6 : τ47.1 6 = σ.1 6 := by first | exact w6_τ47.trans W6 | omega
              have W7 : τ47.1 7 = σ.1 7 := by first | exact w7_τ47.trans W7 | omega
              have W13 : τ47.1 13 = σ.1 13 := by first | exact w13_τ47.trans W13 | omega
              have W14 : τ47.1 14 = σ.1 14 := by first | exact w14_τ47.trans W14 | omega
              have W15 : τ47.1 15 = σ.1 15 := by first | exact w15_τ47.trans W15 | omega
              have W46 : τ47.1 46 = σ.1 46 := by first | exact w46_τ47.trans W46 | omega
              have W48 : τ47.1 48 = σ.1 48 := by first | exact w48_τ47.trans W48 | omega
              have W50 : τ47.1 50 = σ.1 50 := by first | exact w50_τ47.trans W50 | omega
              have W51 : τ47.1 51 = σ.1 51 := by first | exact w51_τ47.trans W51 | omega
              have W53 : τ47.1 53 = σ.1 53 := by first | exact w53_τ47.trans W53 | omega
              have G10 : τ47.2.1 10 = σ.2.1 10 := (g10_τ47).trans G10
              have G11 : τ47.2.1 11 = σ.2.1 11 := (g11_τ47).trans G11
              have G13 : τ47.2.1 13 = σ.2.1 13 := (g13_τ47).trans G13
              have G14 : τ47.2.1 14 = σ.2.1 14 := (g14_τ47).trans G14
              have G15 : τ47.2.1 15 = σ.2.1 15 := (g15_τ47).trans G15
              have G16 : τ47.2.1 16 = σ.2.1 16 := (g16_τ47).trans G16
              have G27 : τ47.2.1 27 = σ.2.1 27 := (g27_τ47).trans G27
              have G28 : τ47.2.1 28 = σ.2.1 28 := (g28_τ47).trans G28
              have G29 : τ47.2.1 29 = σ.2.1 29 := (g29_τ47).trans G29
              have G30 : τ47.2.1 30 = σ.2.1 30 := (g30_τ47).trans G30
              have G31 : τ47.2.1 31 = σ.2.1 31 := (g31_τ47).trans G31
              have G32 : τ47.2.1 32 = σ.2.1 32 := (g32_τ47).trans G32
              have G33 : τ47.2.1 33 = σ.2.1 33 := (g33_τ47).trans G33
              have G34 : τ47.2.1 34 = σ.2.1 34 := (g34_τ47).trans G34
              have G35 : τ47.2.1 35 = σ.2.1 35 := (g35_τ47).trans G35
              have G36 : τ47.2.1 36 = σ.2.1 36 := (g36_τ47).trans G36
              have G37 : τ47.2.1 37 = σ.2.1 37 := (g37_τ47).trans G37
              have G75 : τ47.2.1 75 = σ.2.1 75 := (g75_τ47).trans G75
              have G76 : τ47.2.1 76 = σ.2.1 76 := (g76_τ47).trans G76
              have TX : J_vs (τ47.1 6) (τ47.1 5) (τ47.2.1 15) := by rw [show (J_vs (τ47.1 6) (τ47.1 5) (τ47.2.1 15)) = (J_vs (τ_110.1 6) (τ_110.1 5) (τ_110.2.1 15)) from by rw [w5_τ47, w6_τ47, g15_τ47]]; exact TX
              have RKS : J_rks (τ47.1 5) (τ47.1 4) (τ47.2.1 10) (τ47.2.1 11) := by rw [show (J_rks (τ47.1 5) (τ47.1 4) (τ47.2.1 10) (τ47.2.1 11)) = (J_rks (τ_110.1 5) (τ_110.1 4) (τ_110.2.1 10) (τ_110.2.1 11)) from by rw [w4_τ47, w5_τ47, g10_τ47, g11_τ47]]; exact RKS
              have CJ : J_all (τ47.1 7) (τ47.1 6) (τ47.1 13) (τ47.1 14) (τ47.1 15) (τ47.2.1 13) (τ47.2.1 14) (τ47.2.1 15) (τ47.2.1 16) (τ47.2.1 10) (τ47.2.1 27) (τ47.2.1 28) (τ47.2.1 29) (τ47.2.1 30) (τ47.2.1 31) (τ47.2.1 32) (τ47.2.1 33) (τ47.2.1 34) (τ47.2.1 35) (τ47.2.1 36) (τ47.2.1 37) := by rw [show (J_all (τ47.1 7) (τ47.1 6) (τ47.1 13) (τ47.1 14) (τ47.1 15) (τ47.2.1 13) (τ47.2.1 14) (τ47.2.1 15) (τ47.2.1 16) (τ47.2.1 10) (τ47.2.1 27) (τ47.2.1 28) (τ47.2.1 29) (τ47.2.1 30) (τ47.2.1 31) (τ47.2.1 32) (τ47.2.1 33) (τ47.2.1 34) (τ47.2.1 35) (τ47.2.1 36) (τ47.2.1 37)) = (J_all (τ_110.1 7) (τ_110.1 6) (τ_110.1 13) (τ_110.1 14) (τ_110.1 15) (τ_110.2.1 13) (τ_110.2.1 14) (τ_110.2.1 15) (τ_110.2.1 16) (τ_110.2.1 10) (τ_110.2.1 27) (τ_110.2.1 28) (τ_110.2.1 29) (τ_110.2.1 30) (τ_110.2.1 31) (τ_110.2.1 32) (τ_110.2.1 33) (τ_110.2.1 34) (τ_110.2.1 35) (τ_110.2.1 36) (τ_110.2.1 37)) from by rw [w6_τ47, w7_τ47, w13_τ47, w14_τ47, w15_τ47, g10_τ47, g13_τ47, g14_τ47, g15_τ47, g16_τ47, g27_τ47, g28_τ47, g29_τ47, g30_τ47, g31_τ47, g32_τ47, g33_τ47, g34_τ47, g35_τ47, g36_τ47, g37_τ47]]; exact CJ
              have A10 : ∀ j, (-1) ≤ τ47.2.1 10 j ∧ τ47.2.1 10 j ≤ 99 := fun j => hT.2 10 j
              have A11 : ∀ j, 0 ≤ τ47.2.1 11 j ∧ τ47.2.1 11 j ≤ 999 := fun j => hT.2 11 j
              have A13 : ∀ j, 0 ≤ τ47.2.1 13 j ∧ τ47.2.1 13 j ≤ 4 := fun j => hT.2 13 j
              have A14 : ∀ j, 0 ≤ τ47.2.1 14 j ∧ τ47.2.1 14 j ≤ 30000 := fun j => hT.2 14 j
              have A15 : ∀ j, 0 ≤ τ47.2.1 15 j ∧ τ47.2.1 15 j ≤ 999 := fun j => hT.2 15 j
              have A16 : ∀ j, (-1) ≤ τ47.2.1 16 j ∧ τ47.2.1 16 j ≤ 1499 := fun j => hT.2 16 j
              have A27 : ∀ j, 0 ≤ τ47.2.1 27 j ∧ τ47.2.1 27 j ≤ 90000 := fun j => hT.2 27 j
              have A28 : ∀ j, 0 ≤ τ47.2.1 28 j ∧ τ47.2.1 28 j ≤ 60 := fun j => hT.2 28 j
              have A29 : ∀ j, 0 ≤ τ47.2.1 29 j ∧ τ47.2.1 29 j ≤ 1499 := fun j => hT.2 29 j
              have A30 : ∀ j, 0 ≤ τ47.2.1 30 j ∧ τ47.2.1 30 j ≤ 20000 := fun j => hT.2 30 j
              have A31 : ∀ j, 0 ≤ τ47.2.1 31 j ∧ τ47.2.1 31 j ≤ 20000 := fun j => hT.2 31 j
              have A32 : ∀ j, 0 ≤ τ47.2.1 32 j ∧ τ47.2.1 32 j ≤ 999999 := fun j => hT.2 32 j
              have A33 : ∀ j, 0 ≤ τ47.2.1 33 j ∧ τ47.2.1 33 j ≤ 20000 := fun j => hT.2 33 j
              have A34 : ∀ j, 0 ≤ τ47.2.1 34 j ∧ τ47.2.1 34 j ≤ 20000 := fun j => hT.2 34 j
              have A35 : ∀ j, 0 ≤ τ47.2.1 35 j ∧ τ47.2.1 35 j ≤ 1499 := fun j => hT.2 35 j
              have A36 : ∀ j, 0 ≤ τ47.2.1 36 j ∧ τ47.2.1 36 j ≤ 20000 := fun j => hT.2 36 j
              have A37 : ∀ j, 0 ≤ τ47.2.1 37 j ∧ τ47.2.1 37 j ≤ 19999 := fun j => hT.2 37 j
              have A75 : ∀ j, 0 ≤ τ47.2.1 75 j ∧ τ47.2.1 75 j ≤ 1499 := fun j => hT.2 75 j
              have A76 : ∀ j, 0 ≤ τ47.2.1 76 j ∧ τ47.2.1 76 j ≤ 99 := fun j => hT.2 76 j
              have A79 : ∀ j, 0 ≤ τ47.2.1 79 j ∧ τ47.2.1 79 j ≤ 1499 := fun j => hT.2 79 j
              have A81 : ∀ j, 0 ≤ τ47.2.1 81 j ∧ τ47.2.1 81 j ≤ 2 := fun j => hT.2 81 j
              have A82 : ∀ j, 0 ≤ τ47.2.1 82 j ∧ τ47.2.1 82 j ≤ 2 := fun j => hT.2 82 j
              have v4 : 0 ≤ τ47.1 4 ∧ τ47.1 4 ≤ 100 := hT.1 4
              have v5 : 0 ≤ τ47.1 5 ∧ τ47.1 5 ≤ 1000 := hT.1 5
              have v6 : 0 ≤ τ47.1 6 ∧ τ47.1 6 ≤ 30000 := hT.1 6
              have v7 : 0 ≤ τ47.1 7 ∧ τ47.1 7 ≤ 1500 := hT.1 7
              have v13 : 0 ≤ τ47.1 13 ∧ τ47.1 13 ≤ 90000 := hT.1 13
              have v14 : 0 ≤ τ47.1 14 ∧ τ47.1 14 ≤ 20000 := hT.1 14
              have v15 : 0 ≤ τ47.1 15 ∧ τ47.1 15 ≤ 20000 := hT.1 15
              have v46 : 0 ≤ τ47.1 46 ∧ τ47.1 46 ≤ 1500 := hT.1 46
              have v48 : (-1) ≤ τ47.1 48 ∧ τ47.1 48 ≤ 999 := hT.1 48
              have v50 : 0 ≤ τ47.1 50 ∧ τ47.1 50 ≤ 59 := hT.1 50
              have v51 : 0 ≤ τ47.1 51 ∧ τ47.1 51 ≤ 1500 := hT.1 51
              have v53 : 0 ≤ τ47.1 53 ∧ τ47.1 53 ≤ 58 := hT.1 53
              refine ⟨(⟨by (first | omega | (simp only [st_s] <;> omega) | assumption | omega | fail), by (first | omega | (simp only [st_s] <;> omega) | assumption | omega | fail)⟩ : rg (u3_110 + 1)), ?_⟩
              exact ih_110 _ _ (show (1501 - (u3_110 + 1) : Int) < ((m_110 : Nat) : Int) from by ((first | omega | (simp only [st_s] <;> omega) | assumption | omega | fail))) hT (show τ47.1 4 = σ.1 4 from by first | exact W4 | omega) (show τ47.1 5 = σ.1 5 from by first | exact W5 | omega) (show τ47.1 6 = σ.1 6 from by first | exact W6 | omega) (show τ47.1 7 = σ.1 7 from by first | exact W7 | omega) (show τ47.1 13 = σ.1 13 from by first | exact W13 | omega) (show τ47.1 14 = σ.1 14 from by first | exact W14 | omega) (show τ47.1 15 = σ.1 15 from by first | exact W15 | omega) (show τ47.1 46 = σ.1 46 from by first | exact W46 | omega) (show τ47.1 48 = σ.1 48 from by first | exact W48 | omega) (show τ47.1 50 = σ.1 50 from by first | exact W50 | omega) (show τ47.1 51 = σ.1 51 from by first | exact W51 | omega) (show τ47.1 53 = σ.1 53 from by first | exact W53 | omega) G10 G11 G13 G14 G15 G16 G27 G28 G29 G30 G31 G32 G33 G34 G35 G36 G37 G75 G76 (show 0 ≤ (u3_110 + 1) ∧ (u3_110 + 1) ≤ (σ.1 46) from by (first | omega | (simp only [st_s] <;> omega) | assumption | omega | fail)) (show g_ua (σ.1 4) (σ.1 51) (σ.1 46) (u3_110 + 1) (σ.1 53) n1 (σ.2.1 75) (σ.2.1 76) (g_so (σ.1 48) (σ.2.1 14) (σ.2.1 15) (σ.2.1 10)) (τ47.2.1 82) (σ.2.2 4) (σ.2.2 5) (τ47.2.2 4) (τ47.2.2 5) (σ.2.1 79) (τ47.2.1 79) from by (first | (rw [i86_7, i86_8, i86_9]; exact g_ua0 p6) | exact g_ua_n i110_2 (fun q => by rw [← e_x28, ← e_x30] at q; omega) | (rw [g82_τ47]; exact g_ua_a (len := σ.1 50) (s0 := x38) i110_2 i110_3 i110_5 T0d B0d (by omega) (by omega) (by rw [← e26]; omega) (by rw [x38s, e33]) (by have y := uf u3_110 (by omega) (by omega); have w := (A10 x35).2; exact ⟨by omega, rkb⟩) (by rw [← e_x28, ← e_x30]; omega) (by omega) (by omega) (by omega) (by omega) (fun e a b => j_b_one (by omega) (by omega) a b) (fun e a b => by first | exact ⟨fun q => absurd q (j_b_0 e), fun q => by exfalso; omega⟩ | exact ⟨fun q => ⟨(j_b_one (by omega) (by omega) a b).mp q, by omega⟩, fun q => (j_b_one (by omega) (by omega) a b).mpr q.1⟩) (by rw [q45_1, W53o]) (by rw [q45_2, W53o]) (fun s i e a b c => by have w := q45_3 s i e a b c; rw [W53o, W50o] at w; rw [← e44]; exact w)) | fail)) (show g_rd (σ.1 4) (σ.1 51) (σ.1 46) (σ.2.1 75) (σ.2.1 76) (g_so (σ.1 48) (σ.2.1 14) (σ.2.1 15) (σ.2.1 10)) (τ47.2.1 81) (τ47.2.1 82) (τ47.2.1 82) from by (first | exact i110_3 | (rw [g81_τ47, g82_τ47]; exact i110_3) | (have q9 := i86_5; rcases q9 with w | w; exact w; first | exact i86_6 (by omega) | (exfalso; omega)) | fail)) (show g_pf (σ.1 4) (σ.1 51) (σ.1 46) 201 (σ.2.1 75) (σ.2.1 76) (g_so (σ.1 48) (σ.2.1 14) (σ.2.1 15) (σ.2.1 10)) (τ47.2.1 81) (τ47.2.1 82) from by (first | exact i110_4 | (rw [g81_τ47, g82_τ47]; exact i110_4) | exact g_pf_w i86_3 (by omega) | fail)) (show g_ba (σ.1 4) (σ.1 53) n1 (σ.2.2 4) (σ.2.2 5) (τ47.2.1 81) from by (first | exact i110_5 | (rw [g81_τ47]; exact i110_5) | exact i86_4 | fail))
            ·
              refine h203 _ _ _ _ _ _ ?_
              refine ⟨(show 0 ≤ u3_110 ∧ u3_110 < 1500 from by (first | omega | (simp only [st_s] <;> omega) | assumption | omega | fail)), ?_⟩
              intro x44 r_x44 e_x44
              have b_x44 : 0 ≤ x44 ∧ x44 ≤ 1499 := by rw [e_x44]; exact hT.2 75 _
              have e44 : x44 = σ.2.1 75 u3_110 := by rw [e_x44, G75]
              have W53o := W53
              have W50o := W50
              have rkb : x38 < σ.1 4 := by rw [x38e]; exact (p7.2 x35 (by omega) (by rw [tp]; exact p8 (σ.2.1 14 x33) (s14 _).1 (by omega))).1
              refine ⟨_, K_X1_add hT (show 0 ≤ x38 from by (first | omega | (simp only [st_s] <;> omega) | assumption | omega | fail)) (show x38 < 100 from by (first | omega | (simp only [st_s] <;> omega) | assumption | omega | fail)) (show 0 ≤ x44 from by (first | omega | (simp only [st_s] <;> omega) | assumption | omega | fail)) (show x44 < 1500 from by (first | omega | (simp only [st_s] <;> omega) | assumption | omega | fail)) (show (τ_110.1 53) < (τ_110.1 50) from by (first | omega | (simp only [st_s] <;> omega) | assumption | omega | fail)), ?_⟩
              intro τ47 hn_τ47 hf_τ47 hq
              obtain ⟨hT, q45_1, q45_2, q45_3⟩ := hq
              replace q45_1 : τ47.2.2 4 = st (τ_110.2.2 4) ((x38 * 60) + (τ_110.1 53)) (τ_110.2.2 4 ((x38 * 60) + (τ_110.1 53)) ||| (j_shl 1 n1)) := q45_1
              replace q45_2 : τ47.2.2 5 = st (τ_110.2.2 5) ((x38 * 60) + (τ_110.1 53)) (τ_110.2.2 5 ((x38 * 60) + (τ_110.1 53)) ||| ((j_shl 1 n1) ||| ((j_shl 1 n1) &&& τ_110.2.2 4 ((x38 * 60) + (τ_110.1 53))))) := q45_2
              replace q45_3 : ∀ s i e : Int, 0 ≤ i → i < e → e ≤ 59 → (¬ (s = x38 ∧ i = (τ_110.1 53) ∧ e ≤ (τ_110.1 50) ∧ j_b (j_shl 1 n1) e ∧ ¬ j_b (τ_110.2.2 4 ((x38 * 60) + (τ_110.1 53))) e) → g_mb (τ47.2.1 79) s i e = g_mb (τ_110.2.1 79) s i e) ∧ ((s = x38 ∧ i = (τ_110.1 53) ∧ e ≤ (τ_110.1 50) ∧ j_b (j_shl 1 n1) e ∧ ¬ j_b (τ_110.2.2 4 ((x38 * 60) + (τ_110.1 53))) e) → g_mb (τ47.2.1 79) s i e = x44) := q45_3
              have w4_τ47 : τ47.1 4 = τ_110.1 4 := hf_τ47.1 4 (by decide)
              have w5_τ47 : τ47.1 5 = τ_110.1 5 := hf_τ47.1 5 (by decide)
              have w6_τ47 : τ47.1 6 = τ_110.1 6 := hf_τ47.1 6 (by decide)
              have w7_τ47 : τ47.1 7 = τ_110.1 7 := hf_τ47.1 7 (by decide)
              have w13_τ47 : τ47.1 13 = τ_110.1 13 := hf_τ47.1 13 (by decide)
              have w14_τ47 : τ47.1 14 = τ_110.1 14 := hf_τ47.1 14 (by decide)
              have w15_τ47 : τ47.1 15 = τ_110.1 15 := hf_τ47.1 15 (by decide)
              have w46_τ47 : τ47.1 46 = τ_110.1 46 := hf_τ47.1 46 (by decide)
              have w48_τ47 : τ47.1 48 = τ_110.1 48 := hf_τ47.1 48 (by decide)
              have w50_τ47 : τ47.1 50 = τ_110.1 50 := hf_τ47.1 50 (by decide)
              have w51_τ47 : τ47.1 51 = τ_110.1 51 := hf_τ47.1 51 (by decide)
              have w53_τ47 : τ47.1 53 = τ_110.1 53 := hf_τ47.1 53 (by decide)
              have g10_τ47 : τ47.2.1 10 = τ_110.2.1 10 := hf_τ47.2.1 10 (by decide)
              have g11_τ47 : τ47.2.1 11 = τ_110.2.1 11 := hf_τ47.2.1 11 (by decide)
              have g13_τ47 : τ47.2.1 13 = τ_110.2.1 13 := hf_τ47.2.1 13 (by decide)
              have g14_τ47 : τ47.2.1 14 = τ_110.2.1 14 := hf_τ47.2.1 14 (by decide)
              have g15_τ47 : τ47.2.1 15 = τ_110.2.1 15 := hf_τ47.2.1 15 (by decide)
              have g16_τ47 : τ47.2.1 16 = τ_110.2.1 16 := hf_τ47.2.1 16 (by decide)
              have g27_τ47 : τ47.2.1 27 = τ_110.2.1 27 := hf_τ47.2.1 27 (by decide)
              have g28_τ47 : τ47.2.1 28 = τ_110.2.1 28 := hf_τ47.2.1 28 (by decide)
              have g29_τ47 : τ47.2.1 29 = τ_110.2.1 29 := hf_τ47.2.1 29 (by decide)
              have g30_τ47 : τ47.2.1 30 = τ_110.2.1 30 := hf_τ47.2.1 30 (by decide)
              have g31_τ47 : τ47.2.1 31 = τ_110.2.1 31 := hf_τ47.2.1 31 (by decide)
              have g32_τ47 : τ47.2.1 32 = τ_110.2.1 32 := hf_τ47.2.1 32 (by decide)
              have g33_τ47 : τ47.2.1 33 = τ_110.2.1 33 := hf_τ47.2.1 33 (by decide)
              have g34_τ47 : τ47.2.1 34 = τ_110.2.1 34 := hf_τ47.2.1 34 (by decide)
              have g35_τ47 : τ47.2.1 35 = τ_110.2.1 35 := hf_τ47.2.1 35 (by decide)
              have g36_τ47 : τ47.2.1 36 = τ_110.2.1 36 := hf_τ47.2.1 36 (by decide)
              have g37_τ47 : τ47.2.1 37 = τ_110.2.1 37 := hf_τ47.2.1 37 (by decide)
              have g75_τ47 : τ47.2.1 75 = τ_110.2.1 75 := hf_τ47.2.1 75 (by decide)
              have g76_τ47 : τ47.2.1 76 = τ_110.2.1 76 := hf_τ47.2.1 76 (by decide)
              have g81_τ47 : τ47.2.1 81 = τ_110.2.1 81 := hf_τ47.2.1 81 (by decide)
              have g82_τ47 : τ47.2.1 82 = τ_110.2.1 82 := hf_τ47.2.1 82 (by decide)
              have W4 : τ47.1 4 = σ.1 4 := by first | exact w4_τ47.trans W4 | omega
              have W5 : τ47.1 5 = σ.1 5 := by first | exact w5_τ47.trans W5 | omega
              have W6 : τ47.1 6 = σ.1 6 := by first | exact w6_τ47.trans W6 | omega
              have W7 : τ47.1 7 = σ.1 7 := by first | exact w7_τ47.trans W7 | omega
              have W13 : τ47.1 13 = σ.1 13 := by first | exact w13_τ47.trans W13 | omega
              have W14 : τ47.1 14 = σ.1 14 := by first | exact w14_τ47.trans W14 | omega
              have W15 : τ47.1 15 = σ.1 15 := by first | exact w15_τ47.trans W15 | omega
              have W46 : τ47.1 46 = σ.1 46 := by first | exact w46_τ47.trans W46 | omega
              have W48 : τ47.1 48 = σ.1 48 := by first | exact w48_τ47.trans W48 | omega
              have W50 : τ47.1 50 = σ.1 50 := by first | exact w50_τ47.trans W50 | omega
              have W51 : τ47.1 51 = σ.1 51 := by first | exact w51_τ47.trans W51 | omega
              have W53 : τ47.1 53 = σ.1 53 := by first | exact w53_τ47.trans W53 | omega
              have G10 : τ47.2.1 10 = σ.2.1 10 := (g10_τ47).trans G10
              have G11 : τ47.2.1 11 = σ.2.1 11 := (g11_τ47).trans G11
              have G13 : τ47.2.1 13 = σ.2.1 13 := (g13_τ47).trans G13
              have G14 : τ47.2.1 14 = σ.2.1 14 := (g14_τ47).trans G14
              have G15 : τ47.2.1 15 = σ.2.1 15 := (g15_τ47).trans G15
              have G16 : τ47.2.1 16 = σ.2.1 16 := (g16_τ47).trans G16
              have G27 : τ47.2.1 27 = σ.2.1 27 := (g27_τ47).trans G27
              have G28 : τ47.2.1 28 = σ.2.1 28 := (g28_τ47).trans G28
              have G29 : τ47.2.1 29 = σ.2.1 29 := (g29_τ47).trans G29
              have G30 : τ47.2.1 30 = σ.2.1 30 := (g30_τ47).trans G30
              have G31 : τ47.2.1 31 = σ.2.1 31 := (g31_τ47).trans G31
              have G32 : τ47.2.1 32 = σ.2.1 32 := (g32_τ47).trans G32
              have G33 : τ47.2.1 33 = σ.2.1 33 := (g33_τ47).trans G33
              have G34 : τ47.2.1 34 = σ.2.1 34 := (g34_τ47).trans G34
              have G35 : τ47.2.1 35 = σ.2.1 35 := (g35_τ47).trans G35
              have G36 : τ47.2.1 36 = σ.2.1 36 := (g36_τ47).trans G36
              have G37 : τ47.2.1 37 = σ.2.1 37 := (g37_τ47).trans G37
              have G75 : τ47.2.1 75 = σ.2.1 75 := (g75_τ47).trans G75
              have G76 : τ47.2.1 76 = σ.2.1 76 := (g76_τ47).trans G76
              have TX : J_vs (τ47.1 6) (τ47.1 5) (τ47.2.1 15) := by rw [show (J_vs (τ47.1 6) (τ47.1 5) (τ47.2.1 15)) = (J_vs (τ_110.1 6) (τ_110.1 5) (τ_110.2.1 15)) from by rw [w5_τ47, w6_τ47, g15_τ47]]; exact TX
              have RKS : J_rks (τ47.1 5) (τ47.1 4) (τ47.2.1 10) (τ47.2.1 11) := by rw [show (J_rks (τ47.1 5) (τ47.1 4) (τ47.2.1 10) (τ47.2.1 11)) = (J_rks (τ_110.1 5) (τ_110.1 4) (τ_110.2.1 10) (τ_110.2.1 11)) from by rw [w4_τ47, w5_τ47, g10_τ47, g11_τ47]]; exact RKS
              have CJ : J_all (τ47.1 7) (τ47.1 6) (τ47.1 13) (τ47.1 14) (τ47.1 15) (τ47.2.1 13) (τ47.2.1 14) (τ47.2.1 15) (τ47.2.1 16) (τ47.2.1 10) (τ47.2.1 27) (τ47.2.1 28) (τ47.2.1 29) (τ47.2.1 30) (τ47.2.1 31) (τ47.2.1 32) (τ47.2.1 33) (τ47.2.1 34) (τ47.2.1 35) (τ47.2.1 36) (τ47.2.1 37) := by rw [show (J_all (τ47.1 7) (τ47.1 6) (τ47.1 13) (τ47.1 14) (τ47.1 15) (τ47.2.1 13) (τ47.2.1 14) (τ47.2.1 15) (τ47.2.1 16) (τ47.2.1 10) (τ47.2.1 27) (τ47.2.1 28) (τ47.2.1 29) (τ47.2.1 30) (τ47.2.1 31) (τ47.2.1 32) (τ47.2.1 33) (τ47.2.1 34) (τ47.2.1 35) (τ47.2.1 36) (τ47.2.1 37)) = (J_all (τ_110.1 7) (τ_110.1 6) (τ_110.1 13) (τ_110.1 14) (τ_110.1 15) (τ_110.2.1 13) (τ_110.2.1 14) (τ_110.2.1 15) (τ_110.2.1 16) (τ_110.2.1 10) (τ_110.2.1 27) (τ_110.2.1 28) (τ_110.2.1 29) (τ_110.2.1 30) (τ_110.2.1 31) (τ_110.2.1 32) (τ_110.2.1 33) (τ_110.2.1 34) (τ_110.2.1 35) (τ_110.2.1 36) (τ_110.2.1 37)) from by rw [w6_τ47, w7_τ47, w13_τ47, w14_τ47, w15_τ47, g10_τ47, g13_τ47, g14_τ47, g15_τ47, g16_τ47, g27_τ47, g28_τ47, g29_τ47, g30_τ47, g31_τ47, g32_τ47, g33_τ47, g34_τ47, g35_τ47, g36_τ47, g37_τ47]]; exact CJ
              have A10 : ∀ j, (-1) ≤ τ47.2.1 10 j ∧ τ47.2.1 10 j ≤ 99 := fun j => hT.2 10 j
              have A11 : ∀ j, 0 ≤ τ47.2.1 11 j ∧ τ47.2.1 11 j ≤ 999 := fun j => hT.2 11 j
              have A13 : ∀ j, 0 ≤ τ47.2.1 13 j ∧ τ47.2.1 13 j ≤ 4 := fun j => hT.2 13 j
              have A14 : ∀ j, 0 ≤ τ47.2.1 14 j ∧ τ47.2.1 14 j ≤ 30000 := fun j => hT.2 14 j
              have A15 : ∀ j, 0 ≤ τ47.2.1 15 j ∧ τ47.2.1 15 j ≤ 999 := fun j => hT.2 15 j
              have A16 : ∀ j, (-1) ≤ τ47.2.1 16 j ∧ τ47.2.1 16 j ≤ 1499 := fun j => hT.2 16 j
              have A27 : ∀ j, 0 ≤ τ47.2.1 27 j ∧ τ47.2.1 27 j ≤ 90000 := fun j => hT.2 27 j
              have A28 : ∀ j, 0 ≤ τ47.2.1 28 j ∧ τ47.2.1 28 j ≤ 60 := fun j => hT.2 28 j
              have A29 : ∀ j, 0 ≤ τ47.2.1 29 j ∧ τ47.2.1 29 j ≤ 1499 := fun j => hT.2 29 j
              have A30 : ∀ j, 0 ≤ τ47.2.1 30 j ∧ τ47.2.1 30 j ≤ 20000 := fun j => hT.2 30 j
              have A31 : ∀ j, 0 ≤ τ47.2.1 31 j ∧ τ47.2.1 31 j ≤ 20000 := fun j => hT.2 31 j
              have A32 : ∀ j, 0 ≤ τ47.2.1 32 j ∧ τ47.2.1 32 j ≤ 999999 := fun j => hT.2 32 j
              have A33 : ∀ j, 0 ≤ τ47.2.1 33 j ∧ τ47.2.1 33 j ≤ 20000 := fun j => hT.2 33 j
              have A34 : ∀ j, 0 ≤ τ47.2.1 34 j ∧ τ47.2.1 34 j ≤ 20000 := fun j => hT.2 34 j
              have A35 : ∀ j, 0 ≤ τ47.2.1 35 j ∧ τ47.2.1 35 j ≤ 1499 := fun j => hT.2 35 j
              have A36 : ∀ j, 0 ≤ τ47.2.1 36 j ∧ τ47.2.1 36 j ≤ 20000 := fun j => hT.2 36 j
              have A37 : ∀ j, 0 ≤ τ47.2.1 37 j ∧ τ47.2.1 37 j ≤ 19999 := fun j => hT.2 37 j
              have A75 : ∀ j, 0 ≤ τ47.2.1 75 j ∧ τ47.2.1 75 j ≤ 1499 := fun j => hT.2 75 j
              have A76 : ∀ j, 0 ≤ τ47.2.1 76 j ∧ τ47.2.1 76 j ≤ 99 := fun j => hT.2 76 j
              have A79 : ∀ j, 0 ≤ τ47.2.1 79 j ∧ τ47.2.1 79 j ≤ 1499 := fun j => hT.2 79 j
              have A81 : ∀ j, 0 ≤ τ47.2.1 81 j ∧ τ47.2.1 81 j ≤ 2 := fun j => hT.2 81 j
              have A82 : ∀ j, 0 ≤ τ47.2.1 82 j ∧ τ47.2.1 82 j ≤ 2 := fun j => hT.2 82 j
              have v4 : 0 ≤ τ47.1 4 ∧ τ47.1 4 ≤ 100 := hT.1 4
              have v5 : 0 ≤ τ47.1 5 ∧ τ47.1 5 ≤ 1000 := hT.1 5
              have v6 : 0 ≤ τ47.1 6 ∧ τ47.1 6 ≤ 30000 := hT.1 6
              have v7 : 0 ≤ τ47.1 7 ∧ τ47.1 7 ≤ 1500 := hT.1 7
              have v13 : 0 ≤ τ47.1 13 ∧ τ47.1 13 ≤ 90000 := hT.1 13
              have v14 : 0 ≤ τ47.1 14 ∧ τ47.1 14 ≤ 20000 := hT.1 14
              have v15 : 0 ≤ τ47.1 15 ∧ τ47.1 15 ≤ 20000 := hT.1 15
              have v46 : 0 ≤ τ47.1 46 ∧ τ47.1 46 ≤ 1500 := hT.1 46
              have v48 : (-1) ≤ τ47.1 48 ∧ τ47.1 48 ≤ 999 := hT.1 48
              have v50 : 0 ≤ τ47.1 50 ∧ τ47.1 50 ≤ 59 := hT.1 50
              have v51 : 0 ≤ τ47.1 51 ∧ τ47.1 51 ≤ 1500 := hT.1 51
              have v53 : 0 ≤ τ47.1 53 ∧ τ47.1 53 ≤ 58 := hT.1 53
              refine ⟨(⟨by (first | omega | (simp only [st_s] <;> omega) | assumption | omega | fail), by (first | omega | (simp only [st_s] <;> omega) | assumption | omega | fail)⟩ : rg (u3_110 + 1)), ?_⟩
              exact ih_110 _ _ (show (1501 - (u3_110 + 1) : Int) < ((m_110 : Nat) : Int) from by ((first | omega | (simp only [st_s] <;> omega) | assumption | omega | fail))) hT (show τ47.1 4 = σ.1 4 from by first | exact W4 | omega) (show τ47.1 5 = σ.1 5 from by first | exact W5 | omega) (show τ47.1 6 = σ.1 6 from by first | exact W6 | omega) (show τ47.1 7 = σ.1 7 from by first | exact W7 | omega) (show τ47.1 13 = σ.1 13 from by first | exact W13 | omega) (show τ47.1 14 = σ.1 14 from by first | exact W14 | omega) (show τ47.1 15 = σ.1 15 from by first | exact W15 | omega) (show τ47.1 46 = σ.1 46 from by first | exact W46 | omega) (show τ47.1 48 = σ.1 48 from by first | exact W48 | omega) (show τ47.1 50 = σ.1 50 from by first | exact W50 | omega) (show τ47.1 51 = σ.1 51 from by first | exact W51 | omega) (show τ47.1 53 = σ.1 53 from by first | exact W53 | omega) G10 G11 G13 G14 G15 G16 G27 G28 G29 G30 G31 G32 G33 G34 G35 G36 G37 G75 G76 (show 0 ≤ (u3_110 + 1) ∧ (u3_110 + 1) ≤ (σ.1 46) from by (first | omega | (simp only [st_s] <;> omega) | assumption | omega | fail)) (show g_ua (σ.1 4) (σ.1 51) (σ.1 46) (u3_110 + 1) (σ.1 53) n1 (σ.2.1 75) (σ.2.1 76) (g_so (σ.1 48) (σ.2.1 14) (σ.2.1 15) (σ.2.1 10)) (τ47.2.1 82) (σ.2.2 4) (σ.2.2 5) (τ47.2.2 4) (τ47.2.2 5) (σ.2.1 79) (τ47.2.1 79) from by (first | (rw [i86_7, i86_8, i86_9]; exact g_ua0 p6) | exact g_ua_n i110_2 (fun q => by rw [← e_x28, ← e_x30] at q; omega) | (rw [g82_τ47]; exact g_ua_a (len := σ.1 50) (s0 := x38) i110_2 i110_3 i110_5 T0d B0d (by omega) (by omega) (by rw [← e26]; omega) (by rw [x38s, e33]) (by have y := uf u3_110 (by omega) (by omega); have w := (A10 x35).2; exact ⟨by omega, rkb⟩) (by rw [← e_x28, ← e_x30]; omega) (by omega) (by omega) (by omega) (by omega) (fun e a b => j_b_one (by omega) (by omega) a b) (fun e a b => by first | exact ⟨fun q => absurd q (j_b_0 e), fun q => by exfalso; omega⟩ | exact ⟨fun q => ⟨(j_b_one (by omega) (by omega) a b).mp q, by omega⟩, fun q => (j_b_one (by omega) (by omega) a b).mpr q.1⟩) (by rw [q45_1, W53o]) (by rw [q45_2, W53o]) (fun s i e a b c => by have w := q45_3 s i e a b c; rw [W53o, W50o] at w; rw [← e44]; exact w)) | fail)) (show g_rd (σ.1 4) (σ.1 51) (σ.1 46) (σ.2.1 75) (σ.2.1 76) (g_so (σ.1 48) (σ.2.1 14) (σ.2.1 15) (σ.2.1 10)) (τ47.2.1 81) (τ47.2.1 82) (τ47.2.1 82) from by (first | exact i110_3 | (rw [g81_τ47, g82_τ47]; exact i110_3) | (have q9 := i86_5; rcases q9 with w | w; exact w; first | exact i86_6 (by omega) | (exfalso; omega)) | fail)) (show g_pf (σ.1 4) (σ.1 51) (σ.1 46) 201 (σ.2.1 75) (σ.2.1 76) (g_so (σ.1 48) (σ.2.1 14) (σ.2.1 15) (σ.2.1 10)) (τ47.2.1 81) (τ47.2.1 82) from by (first | exact i110_4 | (rw [g81_τ47, g82_τ47]; exact i110_4) | exact g_pf_w i86_3 (by omega) | fail)) (show g_ba (σ.1 4) (σ.1 53) n1 (σ.2.2 4) (σ.2.2 5) (τ47.2.1 81) from by (first | exact i110_5 | (rw [g81_τ47]; exact i110_5) | exact i86_4 | fail))
  have l_86 : ∀ (m_86 : Nat) (u2_86 : Int) (u3_86 : Int) (τ_86 : S0), 202 - u3_86 < (m_86 : Int) → (c_T τ_86) → (τ_86.1 4 = σ.1 4) → (τ_86.1 5 = σ.1 5) → (τ_86.1 6 = σ.1 6) → (τ_86.1 7 = σ.1 7) → (τ_86.1 13 = σ.1 13) → (τ_86.1 14 = σ.1 14) → (τ_86.1 15 = σ.1 15) → (τ_86.1 46 = σ.1 46) → (τ_86.1 48 = σ.1 48) → (τ_86.1 50 = σ.1 50) → (τ_86.1 51 = σ.1 51) → (τ_86.1 53 = σ.1 53) → (τ_86.2.1 10 = σ.2.1 10) → (τ_86.2.1 11 = σ.2.1 11) → (τ_86.2.1 13 = σ.2.1 13) → (τ_86.2.1 14 = σ.2.1 14) → (τ_86.2.1 15 = σ.2.1 15) → (τ_86.2.1 16 = σ.2.1 16) → (τ_86.2.1 27 = σ.2.1 27) → (τ_86.2.1 28 = σ.2.1 28) → (τ_86.2.1 29 = σ.2.1 29) → (τ_86.2.1 30 = σ.2.1 30) → (τ_86.2.1 31 = σ.2.1 31) → (τ_86.2.1 32 = σ.2.1 32) → (τ_86.2.1 33 = σ.2.1 33) → (τ_86.2.1 34 = σ.2.1 34) → (τ_86.2.1 35 = σ.2.1 35) → (τ_86.2.1 36 = σ.2.1 36) → (τ_86.2.1 37 = σ.2.1 37) → (τ_86.2.1 75 = σ.2.1 75) → (τ_86.2.1 76 = σ.2.1 76) → (0 ≤ u2_86 ∧ u2_86 ≤ 1) → (0 ≤ u3_86 ∧ u3_86 ≤ 201) → (g_pf (σ.1 4) (σ.1 51) (σ.1 46) u3_86 (σ.2.1 75) (σ.2.1 76) (g_so (σ.1 48) (σ.2.1 14) (σ.2.1 15) (σ.2.1 10)) (τ_86.2.1 81) (τ_86.2.1 82)) → (g_ba (σ.1 4) (σ.1 53) n1 (σ.2.2 4) (σ.2.2 5) (τ_86.2.1 81)) → (g_rd (σ.1 4) (σ.1 51) (σ.1 46) (σ.2.1 75) (σ.2.1 76) (g_so (σ.1 48) (σ.2.1 14) (σ.2.1 15) (σ.2.1 10)) (τ_86.2.1 81) (τ_86.2.1 82) (τ_86.2.1 82) ∨ u3_86 ≤ sm (τ_86.2.1 82) (σ.1 4)) → (u2_86 = 0 → g_rd (σ.1 4) (σ.1 51) (σ.1 46) (σ.2.1 75) (σ.2.1 76) (g_so (σ.1 48) (σ.2.1 14) (σ.2.1 15) (σ.2.1 10)) (τ_86.2.1 81) (τ_86.2.1 82) (τ_86.2.1 82)) → (τ_86.2.2 4 = σ.2.2 4) → (τ_86.2.2 5 = σ.2.2 5) → (τ_86.2.1 79 = σ.2.1 79) → (c_Rs τ_86 par nof In) → P86 n1 u2_86 u3_86 τ_86 := by
    intro m_86
    induction m_86 with
    | zero =>
      intro u2_86 u3_86 τ_86 hm hT W4 W5 W6 W7 W13 W14 W15 W46 W48 W50 W51 W53 G10 G11 G13 G14 G15 G16 G27 G28 G29 G30 G31 G32 G33 G34 G35 G36 G37 G75 G76 i86_1 i86_2 i86_3 i86_4 i86_5 i86_6 i86_7 i86_8 i86_9 i86_10
      have A10 : ∀ j, (-1) ≤ τ_86.2.1 10 j ∧ τ_86.2.1 10 j ≤ 99 := fun j => hT.2 10 j
      have A11 : ∀ j, 0 ≤ τ_86.2.1 11 j ∧ τ_86.2.1 11 j ≤ 999 := fun j => hT.2 11 j
      have A13 : ∀ j, 0 ≤ τ_86.2.1 13 j ∧ τ_86.2.1 13 j ≤ 4 := fun j => hT.2 13 j
      have A14 : ∀ j, 0 ≤ τ_86.2.1 14 j ∧ τ_86.2.1 14 j ≤ 30000 := fun j => hT.2 14 j
      have A15 : ∀ j, 0 ≤ τ_86.2.1 15 j ∧ τ_86.2.1 15 j ≤ 999 := fun j => hT.2 15 j
      have A16 : ∀ j, (-1) ≤ τ_86.2.1 16 j ∧ τ_86.2.1 16 j ≤ 1499 := fun j => hT.2 16 j
      have A27 : ∀ j, 0 ≤ τ_86.2.1 27 j ∧ τ_86.2.1 27 j ≤ 90000 := fun j => hT.2 27 j
      have A28 : ∀ j, 0 ≤ τ_86.2.1 28 j ∧ τ_86.2.1 28 j ≤ 60 := fun j => hT.2 28 j
      have A29 : ∀ j, 0 ≤ τ_86.2.1 29 j ∧ τ_86.2.1 29 j ≤ 1499 := fun j => hT.2 29 j
      have A30 : ∀ j, 0 ≤ τ_86.2.1 30 j ∧ τ_86.2.1 30 j ≤ 20000 := fun j => hT.2 30 j
      have A31 : ∀ j, 0 ≤ τ_86.2.1 31 j ∧ τ_86.2.1 31 j ≤ 20000 := fun j => hT.2 31 j
      have A32 : ∀ j, 0 ≤ τ_86.2.1 32 j ∧ τ_86.2.1 32 j ≤ 999999 := fun j => hT.2 32 j
      have A33 : ∀ j, 0 ≤ τ_86.2.1 33 j ∧ τ_86.2.1 33 j ≤ 20000 := fun j => hT.2 33 j
      have A34 : ∀ j, 0 ≤ τ_86.2.1 34 j ∧ τ_86.2.1 34 j ≤ 20000 := fun j => hT.2 34 j
      have A35 : ∀ j, 0 ≤ τ_86.2.1 35 j ∧ τ_86.2.1 35 j ≤ 1499 := fun j => hT.2 35 j
      have A36 : ∀ j, 0 ≤ τ_86.2.1 36 j ∧ τ_86.2.1 36 j ≤ 20000 := fun j => hT.2 36 j
      have A37 : ∀ j, 0 ≤ τ_86.2.1 37 j ∧ τ_86.2.1 37 j ≤ 19999 := fun j => hT.2 37 j
      have A75 : ∀ j, 0 ≤ τ_86.2.1 75 j ∧ τ_86.2.1 75 j ≤ 1499 := fun j => hT.2 75 j
      have A76 : ∀ j, 0 ≤ τ_86.2.1 76 j ∧ τ_86.2.1 76 j ≤ 99 := fun j => hT.2 76 j
      have A79 : ∀ j, 0 ≤ τ_86.2.1 79 j ∧ τ_86.2.1 79 j ≤ 1499 := fun j => hT.2 79 j
      have A81 : ∀ j, 0 ≤ τ_86.2.1 81 j ∧ τ_86.2.1 81 j ≤ 2 := fun j => hT.2 81 j
      have A82 : ∀ j, 0 ≤ τ_86.2.1 82 j ∧ τ_86.2.1 82 j ≤ 2 := fun j => hT.2 82 j
      have v4 : 0 ≤ τ_86.1 4 ∧ τ_86.1 4 ≤ 100 := hT.1 4
      have v5 : 0 ≤ τ_86.1 5 ∧ τ_86.1 5 ≤ 1000 := hT.1 5
      have v6 : 0 ≤ τ_86.1 6 ∧ τ_86.1 6 ≤ 30000 := hT.1 6
      have v7 : 0 ≤ τ_86.1 7 ∧ τ_86.1 7 ≤ 1500 := hT.1 7
      have v13 : 0 ≤ τ_86.1 13 ∧ τ_86.1 13 ≤ 90000 := hT.1 13
      have v14 : 0 ≤ τ_86.1 14 ∧ τ_86.1 14 ≤ 20000 := hT.1 14
      have v15 : 0 ≤ τ_86.1 15 ∧ τ_86.1 15 ≤ 20000 := hT.1 15
      have v46 : 0 ≤ τ_86.1 46 ∧ τ_86.1 46 ≤ 1500 := hT.1 46
      have v48 : (-1) ≤ τ_86.1 48 ∧ τ_86.1 48 ≤ 999 := hT.1 48
      have v50 : 0 ≤ τ_86.1 50 ∧ τ_86.1 50 ≤ 59 := hT.1 50
      have v51 : 0 ≤ τ_86.1 51 ∧ τ_86.1 51 ≤ 1500 := hT.1 51
      have v53 : 0 ≤ τ_86.1 53 ∧ τ_86.1 53 ≤ 58 := hT.1 53
      exfalso; (first | omega | (simp only [st_s] <;> omega) | assumption | omega | fail)
    | succ m_86 ih_86 =>
      intro u2_86 u3_86 τ_86 hm_86 hT W4 W5 W6 W7 W13 W14 W15 W46 W48 W50 W51 W53 G10 G11 G13 G14 G15 G16 G27 G28 G29 G30 G31 G32 G33 G34 G35 G36 G37 G75 G76 i86_1 i86_2 i86_3 i86_4 i86_5 i86_6 i86_7 i86_8 i86_9 i86_10
      have A10 : ∀ j, (-1) ≤ τ_86.2.1 10 j ∧ τ_86.2.1 10 j ≤ 99 := fun j => hT.2 10 j
      have A11 : ∀ j, 0 ≤ τ_86.2.1 11 j ∧ τ_86.2.1 11 j ≤ 999 := fun j => hT.2 11 j
      have A13 : ∀ j, 0 ≤ τ_86.2.1 13 j ∧ τ_86.2.1 13 j ≤ 4 := fun j => hT.2 13 j
      have A14 : ∀ j, 0 ≤ τ_86.2.1 14 j ∧ τ_86.2.1 14 j ≤ 30000 := fun j => hT.2 14 j
      have A15 : ∀ j, 0 ≤ τ_86.2.1 15 j ∧ τ_86.2.1 15 j ≤ 999 := fun j => hT.2 15 j
      have A16 : ∀ j, (-1) ≤ τ_86.2.1 16 j ∧ τ_86.2.1 16 j ≤ 1499 := fun j => hT.2 16 j
      have A27 : ∀ j, 0 ≤ τ_86.2.1 27 j ∧ τ_86.2.1 27 j ≤ 90000 := fun j => hT.2 27 j
      have A28 : ∀ j, 0 ≤ τ_86.2.1 28 j ∧ τ_86.2.1 28 j ≤ 60 := fun j => hT.2 28 j
      have A29 : ∀ j, 0 ≤ τ_86.2.1 29 j ∧ τ_86.2.1 29 j ≤ 1499 := fun j => hT.2 29 j
      have A30 : ∀ j, 0 ≤ τ_86.2.1 30 j ∧ τ_86.2.1 30 j ≤ 20000 := fun j => hT.2 30 j
      have A31 : ∀ j, 0 ≤ τ_86.2.1 31 j ∧ τ_86.2.1 31 j ≤ 20000 := fun j => hT.2 31 j
      have A32 : ∀ j, 0 ≤ τ_86.2.1 32 j ∧ τ_86.2.1 32 j ≤ 999999 := fun j => hT.2 32 j
      have A33 : ∀ j, 0 ≤ τ_86.2.1 33 j ∧ τ_86.2.1 33 j ≤ 20000 := fun j => hT.2 33 j
      have A34 : ∀ j, 0 ≤ τ_86.2.1 34 j ∧ τ_86.2.1 34 j ≤ 20000 := fun j => hT.2 34 j
      have A35 : ∀ j, 0 ≤ τ_86.2.1 35 j ∧ τ_86.2.1 35 j ≤ 1499 := fun j => hT.2 35 j
      have A36 : ∀ j, 0 ≤ τ_86.2.1 36 j ∧ τ_86.2.1 36 j ≤ 20000 := fun j => hT.2 36 j
      have A37 : ∀ j, 0 ≤ τ_86.2.1 37 j ∧ τ_86.2.1 37 j ≤ 19999 := fun j => hT.2 37 j
      have A75 : ∀ j, 0 ≤ τ_86.2.1 75 j ∧ τ_86.2.1 75 j ≤ 1499 := fun j => hT.2 75 j
      have A76 : ∀ j, 0 ≤ τ_86.2.1 76 j ∧ τ_86.2.1 76 j ≤ 99 := fun j => hT.2 76 j
      have A79 : ∀ j, 0 ≤ τ_86.2.1 79 j ∧ τ_86.2.1 79 j ≤ 1499 := fun j => hT.2 79 j
      have A81 : ∀ j, 0 ≤ τ_86.2.1 81 j ∧ τ_86.2.1 81 j ≤ 2 := fun j => hT.2 81 j
      have A82 : ∀ j, 0 ≤ τ_86.2.1 82 j ∧ τ_86.2.1 82 j ≤ 2 := fun j => hT.2 82 j
      have v4 : 0 ≤ τ_86.1 4 ∧ τ_86.1 4 ≤ 100 := hT.1 4
      have v5 : 0 ≤ τ_86.1 5 ∧ τ_86.1 5 ≤ 1000 := hT.1 5
      have v6 : 0 ≤ τ_86.1 6 ∧ τ_86.1 6 ≤ 30000 := hT.1 6
      have v7 : 0 ≤ τ_86.1 7 ∧ τ_86.1 7 ≤ 1500 := hT.1 7
      have v13 : 0 ≤ τ_86.1 13 ∧ τ_86.1 13 ≤ 90000 := hT.1 13
      have v14 : 0 ≤ τ_86.1 14 ∧ τ_86.1 14 ≤ 20000 := hT.1 14
      have v15 : 0 ≤ τ_86.1 15 ∧ τ_86.1 15 ≤ 20000 := hT.1 15
      have v46 : 0 ≤ τ_86.1 46 ∧ τ_86.1 46 ≤ 1500 := hT.1 46
      have v48 : (-1) ≤ τ_86.1 48 ∧ τ_86.1 48 ≤ 999 := hT.1 48
      have v50 : 0 ≤ τ_86.1 50 ∧ τ_86.1 50 ≤ 59 := hT.1 50
      have v51 : 0 ≤ τ_86.1 51 ∧ τ_86.1 51 ≤ 1500 := hT.1 51
      have v53 : 0 ≤ τ_86.1 53 ∧ τ_86.1 53 ≤ 58 := hT.1 53
      have TX : J_vs (τ_86.1 6) (τ_86.1 5) (τ_86.2.1 15) := by rw [show (J_vs (τ_86.1 6) (τ_86.1 5) (τ_86.2.1 15)) = (J_vs (σ.1 6) (σ.1 5) (σ.2.1 15)) from by rw [W5, W6, G15]]; exact TX_0
      have RKS : J_rks (τ_86.1 5) (τ_86.1 4) (τ_86.2.1 10) (τ_86.2.1 11) := by rw [show (J_rks (τ_86.1 5) (τ_86.1 4) (τ_86.2.1 10) (τ_86.2.1 11)) = (J_rks (σ.1 5) (σ.1 4) (σ.2.1 10) (σ.2.1 11)) from by rw [W4, W5, G10, G11]]; exact RKS_0
      have CJ : J_all (τ_86.1 7) (τ_86.1 6) (τ_86.1 13) (τ_86.1 14) (τ_86.1 15) (τ_86.2.1 13) (τ_86.2.1 14) (τ_86.2.1 15) (τ_86.2.1 16) (τ_86.2.1 10) (τ_86.2.1 27) (τ_86.2.1 28) (τ_86.2.1 29) (τ_86.2.1 30) (τ_86.2.1 31) (τ_86.2.1 32) (τ_86.2.1 33) (τ_86.2.1 34) (τ_86.2.1 35) (τ_86.2.1 36) (τ_86.2.1 37) := by rw [show (J_all (τ_86.1 7) (τ_86.1 6) (τ_86.1 13) (τ_86.1 14) (τ_86.1 15) (τ_86.2.1 13) (τ_86.2.1 14) (τ_86.2.1 15) (τ_86.2.1 16) (τ_86.2.1 10) (τ_86.2.1 27) (τ_86.2.1 28) (τ_86.2.1 29) (τ_86.2.1 30) (τ_86.2.1 31) (τ_86.2.1 32) (τ_86.2.1 33) (τ_86.2.1 34) (τ_86.2.1 35) (τ_86.2.1 36) (τ_86.2.1 37)) = (J_all (σ.1 7) (σ.1 6) (σ.1 13) (σ.1 14) (σ.1 15) (σ.2.1 13) (σ.2.1 14) (σ.2.1 15) (σ.2.1 16) (σ.2.1 10) (σ.2.1 27) (σ.2.1 28) (σ.2.1 29) (σ.2.1 30) (σ.2.1 31) (σ.2.1 32) (σ.2.1 33) (σ.2.1 34) (σ.2.1 35) (σ.2.1 36) (σ.2.1 37)) from by rw [W6, W7, W13, W14, W15, G10, G13, G14, G15, G16, G27, G28, G29, G30, G31, G32, G33, G34, G35, G36, G37]]; exact CJ_0
      refine h86 n1 u2_86 u3_86 τ_86 ?_
      refine ⟨fun c14 => ?_, fun c14 => ?_⟩
      ·
        have T0c := fun j => (A82 j).1
        have smb := sm_c (f := τ_86.2.1 82) (n := σ.1 4) (c := 2) (fun e a b => (A82 e).2) (by omega) (by omega)
        exact l_110 ((1501 - 0 : Int).toNat + 1) _ _ (show (1501 - 0 : Int) < (((1501 - 0 : Int).toNat + 1 : Nat) : Int) from by ((first | omega | (simp only [st_s] <;> omega) | assumption | omega | fail))) hT (show τ_86.1 4 = σ.1 4 from by first | exact W4 | omega) (show τ_86.1 5 = σ.1 5 from by first | exact W5 | omega) (show τ_86.1 6 = σ.1 6 from by first | exact W6 | omega) (show τ_86.1 7 = σ.1 7 from by first | exact W7 | omega) (show τ_86.1 13 = σ.1 13 from by first | exact W13 | omega) (show τ_86.1 14 = σ.1 14 from by first | exact W14 | omega) (show τ_86.1 15 = σ.1 15 from by first | exact W15 | omega) (show τ_86.1 46 = σ.1 46 from by first | exact W46 | omega) (show τ_86.1 48 = σ.1 48 from by first | exact W48 | omega) (show τ_86.1 50 = σ.1 50 from by first | exact W50 | omega) (show τ_86.1 51 = σ.1 51 from by first | exact W51 | omega) (show τ_86.1 53 = σ.1 53 from by first | exact W53 | omega) G10 G11 G13 G14 G15 G16 G27 G28 G29 G30 G31 G32 G33 G34 G35 G36 G37 G75 G76 (show 0 ≤ 0 ∧ 0 ≤ (σ.1 46) from by (first | omega | (simp only [st_s] <;> omega) | assumption | omega | fail)) (show g_ua (σ.1 4) (σ.1 51) (σ.1 46) 0 (σ.1 53) n1 (σ.2.1 75) (σ.2.1 76) (g_so (σ.1 48) (σ.2.1 14) (σ.2.1 15) (σ.2.1 10)) (τ_86.2.1 82) (σ.2.2 4) (σ.2.2 5) (τ_86.2.2 4) (τ_86.2.2 5) (σ.2.1 79) (τ_86.2.1 79) from by (first | (rw [i86_7, i86_8, i86_9]; exact g_ua0 p6) | exact g_ua_n i110_2 (fun q => by rw [← e_x28, ← e_x30] at q; omega) | (rw [g82_τ47]; exact g_ua_a (len := σ.1 50) (s0 := x38) i110_2 i110_3 i110_5 T0d B0d (by omega) (by omega) (by rw [← e26]; omega) (by rw [x38s, e33]) (by have y := uf u3_110 (by omega) (by omega); have w := (A10 x35).2; exact ⟨by omega, rkb⟩) (by rw [← e_x28, ← e_x30]; omega) (by omega) (by omega) (by omega) (by omega) (fun e a b => j_b_one (by omega) (by omega) a b) (fun e a b => by first | exact ⟨fun q => absurd q (j_b_0 e), fun q => by exfalso; omega⟩ | exact ⟨fun q => ⟨(j_b_one (by omega) (by omega) a b).mp q, by omega⟩, fun q => (j_b_one (by omega) (by omega) a b).mpr q.1⟩) (by rw [q45_1, W53o]) (by rw [q45_2, W53o]) (fun s i e a b c => by have w := q45_3 s i e a b c; rw [W53o, W50o] at w; rw [← e44]; exact w)) | fail)) (show g_rd (σ.1 4) (σ.1 51) (σ.1 46) (σ.2.1 75) (σ.2.1 76) (g_so (σ.1 48) (σ.2.1 14) (σ.2.1 15) (σ.2.1 10)) (τ_86.2.1 81) (τ_86.2.1 82) (τ_86.2.1 82) from by (first | exact i110_3 | (rw [g81_τ47, g82_τ47]; exact i110_3) | (have q9 := i86_5; rcases q9 with w | w; exact w; first | exact i86_6 (by omega) | (exfalso; omega)) | fail)) (show g_pf (σ.1 4) (σ.1 51) (σ.1 46) 201 (σ.2.1 75) (σ.2.1 76) (g_so (σ.1 48) (σ.2.1 14) (σ.2.1 15) (σ.2.1 10)) (τ_86.2.1 81) (τ_86.2.1 82) from by (first | exact i110_4 | (rw [g81_τ47, g82_τ47]; exact i110_4) | exact g_pf_w i86_3 (by omega) | fail)) (show g_ba (σ.1 4) (σ.1 53) n1 (σ.2.2 4) (σ.2.2 5) (τ_86.2.1 81) from by (first | exact i110_5 | (rw [g81_τ47]; exact i110_5) | exact i86_4 | fail))
      ·
        have T0c := fun j => (A82 j).1
        have smb := sm_c (f := τ_86.2.1 82) (n := σ.1 4) (c := 2) (fun e a b => (A82 e).2) (by omega) (by omega)
        refine ⟨fun c15 => ?_, fun c15 => ?_⟩
        ·
          exact l_110 ((1501 - 0 : Int).toNat + 1) _ _ (show (1501 - 0 : Int) < (((1501 - 0 : Int).toNat + 1 : Nat) : Int) from by ((first | omega | (simp only [st_s] <;> omega) | assumption | omega | fail))) hT (show τ_86.1 4 = σ.1 4 from by first | exact W4 | omega) (show τ_86.1 5 = σ.1 5 from by first | exact W5 | omega) (show τ_86.1 6 = σ.1 6 from by first | exact W6 | omega) (show τ_86.1 7 = σ.1 7 from by first | exact W7 | omega) (show τ_86.1 13 = σ.1 13 from by first | exact W13 | omega) (show τ_86.1 14 = σ.1 14 from by first | exact W14 | omega) (show τ_86.1 15 = σ.1 15 from by first | exact W15 | omega) (show τ_86.1 46 = σ.1 46 from by first | exact W46 | omega) (show τ_86.1 48 = σ.1 48 from by first | exact W48 | omega) (show τ_86.1 50 = σ.1 50 from by first | exact W50 | omega) (show τ_86.1 51 = σ.1 51 from by first | exact W51 | omega) (show τ_86.1 53 = σ.1 53 from by first | exact W53 | omega) G10 G11 G13 G14 G15 G16 G27 G28 G29 G30 G31 G32 G33 G34 G35 G36 G37 G75 G76 (show 0 ≤ 0 ∧ 0 ≤ (σ.1 46) from by (first | omega | (simp only [st_s] <;> omega) | assumption | omega | fail)) (show g_ua (σ.1 4) (σ.1 51) (σ.1 46) 0 (σ.1 53) n1 (σ.2.1 75) (σ.2.1 76) (g_so (σ.1 48) (σ.2.1 14) (σ.2.1 15) (σ.2.1 10)) (τ_86.2.1 82) (σ.2.2 4) (σ.2.2 5) (τ_86.2.2 4) (τ_86.2.2 5) (σ.2.1 79) (τ_86.2.1 79) from by (first | (rw [i86_7, i86_8, i86_9]; exact g_ua0 p6) | exact g_ua_n i110_2 (fun q => by rw [← e_x28, ← e_x30] at q; omega) | (rw [g82_τ47]; exact g_ua_a (len := σ.1 50) (s0 := x38) i110_2 i110_3 i110_5 T0d B0d (by omega) (by omega) (by rw [← e26]; omega) (by rw [x38s, e33]) (by have y := uf u3_110 (by omega) (by omega); have w := (A10 x35).2; exact ⟨by omega, rkb⟩) (by rw [← e_x28, ← e_x30]; omega) (by omega) (by omega) (by omega) (by omega) (fun e a b => j_b_one (by omega) (by omega) a b) (fun e a b => by first | exact ⟨fun q => absurd q (j_b_0 e), fun q => by exfalso; omega⟩ | exact ⟨fun q => ⟨(j_b_one (by omega) (by omega) a b).mp q, by omega⟩, fun q => (j_b_one (by omega) (by omega) a b).mpr q.1⟩) (by rw [q45_1, W53o]) (by rw [q45_2, W53o]) (fun s i e a b c => by have w := q45_3 s i e a b c; rw [W53o, W50o] at w; rw [← e44]; exact w)) | fail)) (show g_rd (σ.1 4) (σ.1 51) (σ.1 46) (σ.2.1 75) (σ.2.1 76) (g_so (σ.1 48) (σ.2.1 14) (σ.2.1 15) (σ.2.1 10)) (τ_86.2.1 81) (τ_86.2.1 82) (τ_86.2.1 82) from by (first | exact i110_3 | (rw [g81_τ47, g82_τ47]; exact i110_3) | (have q9 := i86_5; rcases q9 with w | w; exact w; first | exact i86_6 (by omega) | (exfalso; omega)) | fail)) (show g_pf (σ.1 4) (σ.1 51) (σ.1 46) 201 (σ.2.1 75) (σ.2.1 76) (g_so (σ.1 48) (σ.2.1 14) (σ.2.1 15) (σ.2.1 10)) (τ_86.2.1 81) (τ_86.2.1 82) from by (first | exact i110_4 | (rw [g81_τ47, g82_τ47]; exact i110_4) | exact g_pf_w i86_3 (by omega) | fail)) (show g_ba (σ.1 4) (σ.1 53) n1 (σ.2.2 4) (σ.2.2 5) (τ_86.2.1 81) from by (first | exact i110_5 | (rw [g81_τ47]; exact i110_5) | exact i86_4 | fail))
        ·
          have y4 := W4
          have y51 := W51
          have y48 := W48
          have y46 := W46
          have f75 := G75
          have f76 := G76
          have f14 := G14
          have f15 := G15
          have f10 := G10
          have T0a := fun j => (A82 j).1
          have B0a := fun j => (A81 j).1
          refine ⟨_, K_X1_countUnits hT (show J_all (τ_86.1 7) (τ_86.1 6) (τ_86.1 13) (τ_86.1 14) (τ_86.1 15) (τ_86.2.1 13) (τ_86.2.1 14) (τ_86.2.1 15) (τ_86.2.1 16) (τ_86.2.1 10) (τ_86.2.1 27) (τ_86.2.1 28) (τ_86.2.1 29) (τ_86.2.1 30) (τ_86.2.1 31) (τ_86.2.1 32) (τ_86.2.1 33) (τ_86.2.1 34) (τ_86.2.1 35) (τ_86.2.1 36) (τ_86.2.1 37) from CJ) (show c_Rs τ_86 par nof In from by exact i86_10), ?_⟩
          intro x17 τ18 r_x17 hn_τ18 hf_τ18 hq
          obtain ⟨hT, q16_1, q16_2, q16_3⟩ := hq
          replace q16_1 : 0 ≤ x17 ∧ x17 ≤ 1 := q16_1
          replace q16_2 : g_rd (τ_86.1 4) (τ_86.1 51) (τ_86.1 46) (τ_86.2.1 75) (τ_86.2.1 76) (g_so (τ_86.1 48) (τ_86.2.1 14) (τ_86.2.1 15) (τ_86.2.1 10)) (τ_86.2.1 81) (τ_86.2.1 82) (τ18.2.1 82) := q16_2
          replace q16_3 : x17 = 0 → ∀ s : Int, 0 ≤ s → s < (τ_86.1 4) → τ18.2.1 82 s = τ_86.2.1 82 s := q16_3
          have w4_τ18 : τ18.1 4 = τ_86.1 4 := hf_τ18.1 4 (by decide)
          have w5_τ18 : τ18.1 5 = τ_86.1 5 := hf_τ18.1 5 (by decide)
          have w6_τ18 : τ18.1 6 = τ_86.1 6 := hf_τ18.1 6 (by decide)
          have w7_τ18 : τ18.1 7 = τ_86.1 7 := hf_τ18.1 7 (by decide)
          have w13_τ18 : τ18.1 13 = τ_86.1 13 := hf_τ18.1 13 (by decide)
          have w14_τ18 : τ18.1 14 = τ_86.1 14 := hf_τ18.1 14 (by decide)
          have w15_τ18 : τ18.1 15 = τ_86.1 15 := hf_τ18.1 15 (by decide)
          have w46_τ18 : τ18.1 46 = τ_86.1 46 := hf_τ18.1 46 (by decide)
          have w48_τ18 : τ18.1 48 = τ_86.1 48 := hf_τ18.1 48 (by decide)
          have w50_τ18 : τ18.1 50 = τ_86.1 50 := hf_τ18.1 50 (by decide)
          have w51_τ18 : τ18.1 51 = τ_86.1 51 := hf_τ18.1 51 (by decide)
          have w53_τ18 : τ18.1 53 = τ_86.1 53 := hf_τ18.1 53 (by decide)
          have g10_τ18 : τ18.2.1 10 = τ_86.2.1 10 := hf_τ18.2.1 10 (by decide)
          have g11_τ18 : τ18.2.1 11 = τ_86.2.1 11 := hf_τ18.2.1 11 (by decide)
          have g13_τ18 : τ18.2.1 13 = τ_86.2.1 13 := hf_τ18.2.1 13 (by decide)
          have g14_τ18 : τ18.2.1 14 = τ_86.2.1 14 := hf_τ18.2.1 14 (by decide)
          have g15_τ18 : τ18.2.1 15 = τ_86.2.1 15 := hf_τ18.2.1 15 (by decide)
          have g16_τ18 : τ18.2.1 16 = τ_86.2.1 16 := hf_τ18.2.1 16 (by decide)
          have g27_τ18 : τ18.2.1 27 = τ_86.2.1 27 := hf_τ18.2.1 27 (by decide)
          have g28_τ18 : τ18.2.1 28 = τ_86.2.1 28 := hf_τ18.2.1 28 (by decide)
          have g29_τ18 : τ18.2.1 29 = τ_86.2.1 29 := hf_τ18.2.1 29 (by decide)
          have g30_τ18 : τ18.2.1 30 = τ_86.2.1 30 := hf_τ18.2.1 30 (by decide)
          have g31_τ18 : τ18.2.1 31 = τ_86.2.1 31 := hf_τ18.2.1 31 (by decide)
          have g32_τ18 : τ18.2.1 32 = τ_86.2.1 32 := hf_τ18.2.1 32 (by decide)
          have g33_τ18 : τ18.2.1 33 = τ_86.2.1 33 := hf_τ18.2.1 33 (by decide)
          have g34_τ18 : τ18.2.1 34 = τ_86.2.1 34 := hf_τ18.2.1 34 (by decide)
          have g35_τ18 : τ18.2.1 35 = τ_86.2.1 35 := hf_τ18.2.1 35 (by decide)
          have g36_τ18 : τ18.2.1 36 = τ_86.2.1 36 := hf_τ18.2.1 36 (by decide)
          have g37_τ18 : τ18.2.1 37 = τ_86.2.1 37 := hf_τ18.2.1 37 (by decide)
          have g75_τ18 : τ18.2.1 75 = τ_86.2.1 75 := hf_τ18.2.1 75 (by decide)
          have g76_τ18 : τ18.2.1 76 = τ_86.2.1 76 := hf_τ18.2.1 76 (by decide)
          have g79_τ18 : τ18.2.1 79 = τ_86.2.1 79 := hf_τ18.2.1 79 (by decide)
          have g81_τ18 : τ18.2.1 81 = τ_86.2.1 81 := hf_τ18.2.1 81 (by decide)
          have W4 : τ18.1 4 = σ.1 4 := by first | exact w4_τ18.trans W4 | omega
          have W5 : τ18.1 5 = σ.1 5 := by first | exact w5_τ18.trans W5 | omega
          have W6 : τ18.1 6 = σ.1 6 := by first | exact w6_τ18.trans W6 | omega
          have W7 : τ18.1 7 = σ.1 7 := by first | exact w7_τ18.trans W7 | omega
          have W13 : τ18.1 13 = σ.1 13 := by first | exact w13_τ18.trans W13 | omega
          have W14 : τ18.1 14 = σ.1 14 := by first | exact w14_τ18.trans W14 | omega
          have W15 : τ18.1 15 = σ.1 15 := by first | exact w15_τ18.trans W15 | omega
          have W46 : τ18.1 46 = σ.1 46 := by first | exact w46_τ18.trans W46 | omega
          have W48 : τ18.1 48 = σ.1 48 := by first | exact w48_τ18.trans W48 | omega
          have W50 : τ18.1 50 = σ.1 50 := by first | exact w50_τ18.trans W50 | omega
          have W51 : τ18.1 51 = σ.1 51 := by first | exact w51_τ18.trans W51 | omega
          have W53 : τ18.1 53 = σ.1 53 := by first | exact w53_τ18.trans W53 | omega
          have G10 : τ18.2.1 10 = σ.2.1 10 := (g10_τ18).trans G10
          have G11 : τ18.2.1 11 = σ.2.1 11 := (g11_τ18).trans G11
          have G13 : τ18.2.1 13 = σ.2.1 13 := (g13_τ18).trans G13
          have G14 : τ18.2.1 14 = σ.2.1 14 := (g14_τ18).trans G14
          have G15 : τ18.2.1 15 = σ.2.1 15 := (g15_τ18).trans G15
          have G16 : τ18.2.1 16 = σ.2.1 16 := (g16_τ18).trans G16
          have G27 : τ18.2.1 27 = σ.2.1 27 := (g27_τ18).trans G27
          have G28 : τ18.2.1 28 = σ.2.1 28 := (g28_τ18).trans G28
          have G29 : τ18.2.1 29 = σ.2.1 29 := (g29_τ18).trans G29
          have G30 : τ18.2.1 30 = σ.2.1 30 := (g30_τ18).trans G30
          have G31 : τ18.2.1 31 = σ.2.1 31 := (g31_τ18).trans G31
          have G32 : τ18.2.1 32 = σ.2.1 32 := (g32_τ18).trans G32
          have G33 : τ18.2.1 33 = σ.2.1 33 := (g33_τ18).trans G33
          have G34 : τ18.2.1 34 = σ.2.1 34 := (g34_τ18).trans G34
          have G35 : τ18.2.1 35 = σ.2.1 35 := (g35_τ18).trans G35
          have G36 : τ18.2.1 36 = σ.2.1 36 := (g36_τ18).trans G36
          have G37 : τ18.2.1 37 = σ.2.1 37 := (g37_τ18).trans G37
          have G75 : τ18.2.1 75 = σ.2.1 75 := (g75_τ18).trans G75
          have G76 : τ18.2.1 76 = σ.2.1 76 := (g76_τ18).trans G76
          have TX : J_vs (τ18.1 6) (τ18.1 5) (τ18.2.1 15) := by rw [show (J_vs (τ18.1 6) (τ18.1 5) (τ18.2.1 15)) = (J_vs (τ_86.1 6) (τ_86.1 5) (τ_86.2.1 15)) from by rw [w5_τ18, w6_τ18, g15_τ18]]; exact TX
          have RKS : J_rks (τ18.1 5) (τ18.1 4) (τ18.2.1 10) (τ18.2.1 11) := by rw [show (J_rks (τ18.1 5) (τ18.1 4) (τ18.2.1 10) (τ18.2.1 11)) = (J_rks (τ_86.1 5) (τ_86.1 4) (τ_86.2.1 10) (τ_86.2.1 11)) from by rw [w4_τ18, w5_τ18, g10_τ18, g11_τ18]]; exact RKS
          have CJ : J_all (τ18.1 7) (τ18.1 6) (τ18.1 13) (τ18.1 14) (τ18.1 15) (τ18.2.1 13) (τ18.2.1 14) (τ18.2.1 15) (τ18.2.1 16) (τ18.2.1 10) (τ18.2.1 27) (τ18.2.1 28) (τ18.2.1 29) (τ18.2.1 30) (τ18.2.1 31) (τ18.2.1 32) (τ18.2.1 33) (τ18.2.1 34) (τ18.2.1 35) (τ18.2.1 36) (τ18.2.1 37) := by rw [show (J_all (τ18.1 7) (τ18.1 6) (τ18.1 13) (τ18.1 14) (τ18.1 15) (τ18.2.1 13) (τ18.2.1 14) (τ18.2.1 15) (τ18.2.1 16) (τ18.2.1 10) (τ18.2.1 27) (τ18.2.1 28) (τ18.2.1 29) (τ18.2.1 30) (τ18.2.1 31) (τ18.2.1 32) (τ18.2.1 33) (τ18.2.1 34) (τ18.2.1 35) (τ18.2.1 36) (τ18.2.1 37)) = (J_all (τ_86.1 7) (τ_86.1 6) (τ_86.1 13) (τ_86.1 14) (τ_86.1 15) (τ_86.2.1 13) (τ_86.2.1 14) (τ_86.2.1 15) (τ_86.2.1 16) (τ_86.2.1 10) (τ_86.2.1 27) (τ_86.2.1 28) (τ_86.2.1 29) (τ_86.2.1 30) (τ_86.2.1 31) (τ_86.2.1 32) (τ_86.2.1 33) (τ_86.2.1 34) (τ_86.2.1 35) (τ_86.2.1 36) (τ_86.2.1 37)) from by rw [w6_τ18, w7_τ18, w13_τ18, w14_τ18, w15_τ18, g10_τ18, g13_τ18, g14_τ18, g15_τ18, g16_τ18, g27_τ18, g28_τ18, g29_τ18, g30_τ18, g31_τ18, g32_τ18, g33_τ18, g34_τ18, g35_τ18, g36_τ18, g37_τ18]]; exact CJ
          have A10 : ∀ j, (-1) ≤ τ18.2.1 10 j ∧ τ18.2.1 10 j ≤ 99 := fun j => hT.2 10 j
          have A11 : ∀ j, 0 ≤ τ18.2.1 11 j ∧ τ18.2.1 11 j ≤ 999 := fun j => hT.2 11 j
          have A13 : ∀ j, 0 ≤ τ18.2.1 13 j ∧ τ18.2.1 13 j ≤ 4 := fun j => hT.2 13 j
          have A14 : ∀ j, 0 ≤ τ18.2.1 14 j ∧ τ18.2.1 14 j ≤ 30000 := fun j => hT.2 14 j
          have A15 : ∀ j, 0 ≤ τ18.2.1 15 j ∧ τ18.2.1 15 j ≤ 999 := fun j => hT.2 15 j
          have A16 : ∀ j, (-1) ≤ τ18.2.1 16 j ∧ τ18.2.1 16 j ≤ 1499 := fun j => hT.2 16 j
          have A27 : ∀ j, 0 ≤ τ18.2.1 27 j ∧ τ18.2.1 27 j ≤ 90000 := fun j => hT.2 27 j
          have A28 : ∀ j, 0 ≤ τ18.2.1 28 j ∧ τ18.2.1 28 j ≤ 60 := fun j => hT.2 28 j
          have A29 : ∀ j, 0 ≤ τ18.2.1 29 j ∧ τ18.2.1 29 j ≤ 1499 := fun j => hT.2 29 j
          have A30 : ∀ j, 0 ≤ τ18.2.1 30 j ∧ τ18.2.1 30 j ≤ 20000 := fun j => hT.2 30 j
          have A31 : ∀ j, 0 ≤ τ18.2.1 31 j ∧ τ18.2.1 31 j ≤ 20000 := fun j => hT.2 31 j
          have A32 : ∀ j, 0 ≤ τ18.2.1 32 j ∧ τ18.2.1 32 j ≤ 999999 := fun j => hT.2 32 j
          have A33 : ∀ j, 0 ≤ τ18.2.1 33 j ∧ τ18.2.1 33 j ≤ 20000 := fun j => hT.2 33 j
          have A34 : ∀ j, 0 ≤ τ18.2.1 34 j ∧ τ18.2.1 34 j ≤ 20000 := fun j => hT.2 34 j
          have A35 : ∀ j, 0 ≤ τ18.2.1 35 j ∧ τ18.2.1 35 j ≤ 1499 := fun j => hT.2 35 j
          have A36 : ∀ j, 0 ≤ τ18.2.1 36 j ∧ τ18.2.1 36 j ≤ 20000 := fun j => hT.2 36 j
          have A37 : ∀ j, 0 ≤ τ18.2.1 37 j ∧ τ18.2.1 37 j ≤ 19999 := fun j => hT.2 37 j
          have A75 : ∀ j, 0 ≤ τ18.2.1 75 j ∧ τ18.2.1 75 j ≤ 1499 := fun j => hT.2 75 j
          have A76 : ∀ j, 0 ≤ τ18.2.1 76 j ∧ τ18.2.1 76 j ≤ 99 := fun j => hT.2 76 j
          have A79 : ∀ j, 0 ≤ τ18.2.1 79 j ∧ τ18.2.1 79 j ≤ 1499 := fun j => hT.2 79 j
          have A81 : ∀ j, 0 ≤ τ18.2.1 81 j ∧ τ18.2.1 81 j ≤ 2 := fun j => hT.2 81 j
          have A82 : ∀ j, 0 ≤ τ18.2.1 82 j ∧ τ18.2.1 82 j ≤ 2 := fun j => hT.2 82 j
          have v4 : 0 ≤ τ18.1 4 ∧ τ18.1 4 ≤ 100 := hT.1 4
          have v5 : 0 ≤ τ18.1 5 ∧ τ18.1 5 ≤ 1000 := hT.1 5
          have v6 : 0 ≤ τ18.1 6 ∧ τ18.1 6 ≤ 30000 := hT.1 6
          have v7 : 0 ≤ τ18.1 7 ∧ τ18.1 7 ≤ 1500 := hT.1 7
          have v13 : 0 ≤ τ18.1 13 ∧ τ18.1 13 ≤ 90000 := hT.1 13
          have v14 : 0 ≤ τ18.1 14 ∧ τ18.1 14 ≤ 20000 := hT.1 14
          have v15 : 0 ≤ τ18.1 15 ∧ τ18.1 15 ≤ 20000 := hT.1 15
          have v46 : 0 ≤ τ18.1 46 ∧ τ18.1 46 ≤ 1500 := hT.1 46
          have v48 : (-1) ≤ τ18.1 48 ∧ τ18.1 48 ≤ 999 := hT.1 48
          have v50 : 0 ≤ τ18.1 50 ∧ τ18.1 50 ≤ 59 := hT.1 50
          have v51 : 0 ≤ τ18.1 51 ∧ τ18.1 51 ≤ 1500 := hT.1 51
          have v53 : 0 ≤ τ18.1 53 ∧ τ18.1 53 ≤ 58 := hT.1 53
          have rd := q16_2
          rw [y4, y51, y46, y48, f75, f76, f14, f15, f10] at rd
          have ps := g_pf_s i86_3 rd T0a (fun j => (A82 j).1) B0a uf (by omega)
          refine ⟨(⟨by (first | omega | (simp only [st_s] <;> omega) | assumption | omega | fail), by (first | omega | (simp only [st_s] <;> omega) | assumption | omega | fail)⟩ : rg (u3_86 + 1)), ?_⟩
          exact ih_86 _ _ _ (show (202 - (u3_86 + 1) : Int) < ((m_86 : Nat) : Int) from by ((first | omega | (simp only [st_s] <;> omega) | assumption | omega | fail))) hT (show τ18.1 4 = σ.1 4 from by first | exact W4 | omega) (show τ18.1 5 = σ.1 5 from by first | exact W5 | omega) (show τ18.1 6 = σ.1 6 from by first | exact W6 | omega) (show τ18.1 7 = σ.1 7 from by first | exact W7 | omega) (show τ18.1 13 = σ.1 13 from by first | exact W13 | omega) (show τ18.1 14 = σ.1 14 from by first | exact W14 | omega) (show τ18.1 15 = σ.1 15 from by first | exact W15 | omega) (show τ18.1 46 = σ.1 46 from by first | exact W46 | omega) (show τ18.1 48 = σ.1 48 from by first | exact W48 | omega) (show τ18.1 50 = σ.1 50 from by first | exact W50 | omega) (show τ18.1 51 = σ.1 51 from by first | exact W51 | omega) (show τ18.1 53 = σ.1 53 from by first | exact W53 | omega) G10 G11 G13 G14 G15 G16 G27 G28 G29 G30 G31 G32 G33 G34 G35 G36 G37 G75 G76 (show 0 ≤ x17 ∧ x17 ≤ 1 from by (first | omega | (simp only [st_s] <;> omega) | assumption | omega | fail)) (show 0 ≤ (u3_86 + 1) ∧ (u3_86 + 1) ≤ 201 from by (first | omega | (simp only [st_s] <;> omega) | assumption | omega | fail)) (show g_pf (σ.1 4) (σ.1 51) (σ.1 46) (u3_86 + 1) (σ.2.1 75) (σ.2.1 76) (g_so (σ.1 48) (σ.2.1 14) (σ.2.1 15) (σ.2.1 10)) (τ18.2.1 81) (τ18.2.1 82) from by (first | (rw [g81_τ18]; exact ps.2) | exact g_pf0 (fun s a b => i11_3 s a (by omega)) (fun s a b => A81 s) (fun j => (A82 j).1) | fail)) (show g_ba (σ.1 4) (σ.1 53) n1 (σ.2.2 4) (σ.2.2 5) (τ18.2.1 81) from by (first | (rw [g81_τ18]; exact i86_4) | exact fun s a b => i11_2 s a (by omega) | fail)) (show g_rd (σ.1 4) (σ.1 51) (σ.1 46) (σ.2.1 75) (σ.2.1 76) (g_so (σ.1 48) (σ.2.1 14) (σ.2.1 15) (σ.2.1 10)) (τ18.2.1 81) (τ18.2.1 82) (τ18.2.1 82) ∨ (u3_86 + 1) ≤ sm (τ18.2.1 82) (σ.1 4) from by (first | (rw [g81_τ18]; exact g_rd_s rd ps.1 i86_5 uf) | exact Or.inr (sm_n (fun e a b => (A82 e).1)) | fail)) (show x17 = 0 → g_rd (σ.1 4) (σ.1 51) (σ.1 46) (σ.2.1 75) (σ.2.1 76) (g_so (σ.1 48) (σ.2.1 14) (σ.2.1 15) (σ.2.1 10)) (τ18.2.1 81) (τ18.2.1 82) (τ18.2.1 82) from by (first | (intro z; exfalso; omega) | (intro z; rw [g81_τ18]; exact g_pf_e (k := 0) rd (fun s a b => q16_3 z s a (by omega)) uf) | fail)) (show τ18.2.2 4 = σ.2.2 4 from by (first | exact (hf_τ18.2.2 4 (by decide)).trans i86_7 | exact i11_4 | fail)) (show τ18.2.2 5 = σ.2.2 5 from by (first | exact (hf_τ18.2.2 5 (by decide)).trans i86_8 | exact i11_5 | fail)) (show τ18.2.1 79 = σ.2.1 79 from by (first | exact g79_τ18.trans i86_9 | exact i11_6 | fail)) (show c_Rs τ18 par nof In from by (first | exact c_Rs_h i86_10 hf_τ18 rfl | exact i11_7 | fail))
  have l_11 : ∀ (m_11 : Nat) (u2_11 : Int) (τ_11 : S0), 101 - u2_11 < (m_11 : Int) → (c_T τ_11) → (τ_11.1 4 = σ.1 4) → (τ_11.1 5 = σ.1 5) → (τ_11.1 6 = σ.1 6) → (τ_11.1 7 = σ.1 7) → (τ_11.1 13 = σ.1 13) → (τ_11.1 14 = σ.1 14) → (τ_11.1 15 = σ.1 15) → (τ_11.1 46 = σ.1 46) → (τ_11.1 48 = σ.1 48) → (τ_11.1 50 = σ.1 50) → (τ_11.1 51 = σ.1 51) → (τ_11.1 53 = σ.1 53) → (τ_11.2.1 10 = σ.2.1 10) → (τ_11.2.1 11 = σ.2.1 11) → (τ_11.2.1 13 = σ.2.1 13) → (τ_11.2.1 14 = σ.2.1 14) → (τ_11.2.1 15 = σ.2.1 15) → (τ_11.2.1 16 = σ.2.1 16) → (τ_11.2.1 27 = σ.2.1 27) → (τ_11.2.1 28 = σ.2.1 28) → (τ_11.2.1 29 = σ.2.1 29) → (τ_11.2.1 30 = σ.2.1 30) → (τ_11.2.1 31 = σ.2.1 31) → (τ_11.2.1 32 = σ.2.1 32) → (τ_11.2.1 33 = σ.2.1 33) → (τ_11.2.1 34 = σ.2.1 34) → (τ_11.2.1 35 = σ.2.1 35) → (τ_11.2.1 36 = σ.2.1 36) → (τ_11.2.1 37 = σ.2.1 37) → (τ_11.2.1 75 = σ.2.1 75) → (τ_11.2.1 76 = σ.2.1 76) → (0 ≤ u2_11 ∧ u2_11 ≤ 100) → (g_ba u2_11 (σ.1 53) n1 (σ.2.2 4) (σ.2.2 5) (τ_11.2.1 81)) → (∀ s : Int, 0 ≤ s → s < u2_11 → τ_11.2.1 82 s = τ_11.2.1 81 s) → (τ_11.2.2 4 = σ.2.2 4) → (τ_11.2.2 5 = σ.2.2 5) → (τ_11.2.1 79 = σ.2.1 79) → (c_Rs τ_11 par nof In) → P11 n1 u2_11 τ_11 := by
    intro m_11
    induction m_11 with
    | zero =>
      intro u2_11 τ_11 hm hT W4 W5 W6 W7 W13 W14 W15 W46 W48 W50 W51 W53 G10 G11 G13 G14 G15 G16 G27 G28 G29 G30 G31 G32 G33 G34 G35 G36 G37 G75 G76 i11_1 i11_2 i11_3 i11_4 i11_5 i11_6 i11_7
      have A10 : ∀ j, (-1) ≤ τ_11.2.1 10 j ∧ τ_11.2.1 10 j ≤ 99 := fun j => hT.2 10 j
      have A11 : ∀ j, 0 ≤ τ_11.2.1 11 j ∧ τ_11.2.1 11 j ≤ 999 := fun j => hT.2 11 j
      have A13 : ∀ j, 0 ≤ τ_11.2.1 13 j ∧ τ_11.2.1 13 j ≤ 4 := fun j => hT.2 13 j
      have A14 : ∀ j, 0 ≤ τ_11.2.1 14 j ∧ τ_11.2.1 14 j ≤ 30000 := fun j => hT.2 14 j
      have A15 : ∀ j, 0 ≤ τ_11.2.1 15 j ∧ τ_11.2.1 15 j ≤ 999 := fun j => hT.2 15 j
      have A16 : ∀ j, (-1) ≤ τ_11.2.1 16 j ∧ τ_11.2.1 16 j ≤ 1499 := fun j => hT.2 16 j
      have A27 : ∀ j, 0 ≤ τ_11.2.1 27 j ∧ τ_11.2.1 27 j ≤ 90000 := fun j => hT.2 27 j
      have A28 : ∀ j, 0 ≤ τ_11.2.1 28 j ∧ τ_11.2.1 28 j ≤ 60 := fun j => hT.2 28 j
      have A29 : ∀ j, 0 ≤ τ_11.2.1 29 j ∧ τ_11.2.1 29 j ≤ 1499 := fun j => hT.2 29 j
      have A30 : ∀ j, 0 ≤ τ_11.2.1 30 j ∧ τ_11.2.1 30 j ≤ 20000 := fun j => hT.2 30 j
      have A31 : ∀ j, 0 ≤ τ_11.2.1 31 j ∧ τ_11.2.1 31 j ≤ 20000 := fun j => hT.2 31 j
      have A32 : ∀ j, 0 ≤ τ_11.2.1 32 j ∧ τ_11.2.1 32 j ≤ 999999 := fun j => hT.2 32 j
      have A33 : ∀ j, 0 ≤ τ_11.2.1 33 j ∧ τ_11.2.1 33 j ≤ 20000 := fun j => hT.2 33 j
      have A34 : ∀ j, 0 ≤ τ_11.2.1 34 j ∧ τ_11.2.1 34 j ≤ 20000 := fun j => hT.2 34 j
      have A35 : ∀ j, 0 ≤ τ_11.2.1 35 j ∧ τ_11.2.1 35 j ≤ 1499 := fun j => hT.2 35 j
      have A36 : ∀ j, 0 ≤ τ_11.2.1 36 j ∧ τ_11.2.1 36 j ≤ 20000 := fun j => hT.2 36 j
      have A37 : ∀ j, 0 ≤ τ_11.2.1 37 j ∧ τ_11.2.1 37 j ≤ 19999 := fun j => hT.2 37 j
      have A75 : ∀ j, 0 ≤ τ_11.2.1 75 j ∧ τ_11.2.1 75 j ≤ 1499 := fun j => hT.2 75 j
      have A76 : ∀ j, 0 ≤ τ_11.2.1 76 j ∧ τ_11.2.1 76 j ≤ 99 := fun j => hT.2 76 j
      have A79 : ∀ j, 0 ≤ τ_11.2.1 79 j ∧ τ_11.2.1 79 j ≤ 1499 := fun j => hT.2 79 j
      have A81 : ∀ j, 0 ≤ τ_11.2.1 81 j ∧ τ_11.2.1 81 j ≤ 2 := fun j => hT.2 81 j
      have A82 : ∀ j, 0 ≤ τ_11.2.1 82 j ∧ τ_11.2.1 82 j ≤ 2 := fun j => hT.2 82 j
      have v4 : 0 ≤ τ_11.1 4 ∧ τ_11.1 4 ≤ 100 := hT.1 4
      have v5 : 0 ≤ τ_11.1 5 ∧ τ_11.1 5 ≤ 1000 := hT.1 5
      have v6 : 0 ≤ τ_11.1 6 ∧ τ_11.1 6 ≤ 30000 := hT.1 6
      have v7 : 0 ≤ τ_11.1 7 ∧ τ_11.1 7 ≤ 1500 := hT.1 7
      have v13 : 0 ≤ τ_11.1 13 ∧ τ_11.1 13 ≤ 90000 := hT.1 13
      have v14 : 0 ≤ τ_11.1 14 ∧ τ_11.1 14 ≤ 20000 := hT.1 14
      have v15 : 0 ≤ τ_11.1 15 ∧ τ_11.1 15 ≤ 20000 := hT.1 15
      have v46 : 0 ≤ τ_11.1 46 ∧ τ_11.1 46 ≤ 1500 := hT.1 46
      have v48 : (-1) ≤ τ_11.1 48 ∧ τ_11.1 48 ≤ 999 := hT.1 48
      have v50 : 0 ≤ τ_11.1 50 ∧ τ_11.1 50 ≤ 59 := hT.1 50
      have v51 : 0 ≤ τ_11.1 51 ∧ τ_11.1 51 ≤ 1500 := hT.1 51
      have v53 : 0 ≤ τ_11.1 53 ∧ τ_11.1 53 ≤ 58 := hT.1 53
      exfalso; (first | omega | (simp only [st_s] <;> omega) | assumption | omega | fail)
    | succ m_11 ih_11 =>
      intro u2_11 τ_11 hm_11 hT W4 W5 W6 W7 W13 W14 W15 W46 W48 W50 W51 W53 G10 G11 G13 G14 G15 G16 G27 G28 G29 G30 G31 G32 G33 G34 G35 G36 G37 G75 G76 i11_1 i11_2 i11_3 i11_4 i11_5 i11_6 i11_7
      have A10 : ∀ j, (-1) ≤ τ_11.2.1 10 j ∧ τ_11.2.1 10 j ≤ 99 := fun j => hT.2 10 j
      have A11 : ∀ j, 0 ≤ τ_11.2.1 11 j ∧ τ_11.2.1 11 j ≤ 999 := fun j => hT.2 11 j
      have A13 : ∀ j, 0 ≤ τ_11.2.1 13 j ∧ τ_11.2.1 13 j ≤ 4 := fun j => hT.2 13 j
      have A14 : ∀ j, 0 ≤ τ_11.2.1 14 j ∧ τ_11.2.1 14 j ≤ 30000 := fun j => hT.2 14 j
      have A15 : ∀ j, 0 ≤ τ_11.2.1 15 j ∧ τ_11.2.1 15 j ≤ 999 := fun j => hT.2 15 j
      have A16 : ∀ j, (-1) ≤ τ_11.2.1 16 j ∧ τ_11.2.1 16 j ≤ 1499 := fun j => hT.2 16 j
      have A27 : ∀ j, 0 ≤ τ_11.2.1 27 j ∧ τ_11.2.1 27 j ≤ 90000 := fun j => hT.2 27 j
      have A28 : ∀ j, 0 ≤ τ_11.2.1 28 j ∧ τ_11.2.1 28 j ≤ 60 := fun j => hT.2 28 j
      have A29 : ∀ j, 0 ≤ τ_11.2.1 29 j ∧ τ_11.2.1 29 j ≤ 1499 := fun j => hT.2 29 j
      have A30 : ∀ j, 0 ≤ τ_11.2.1 30 j ∧ τ_11.2.1 30 j ≤ 20000 := fun j => hT.2 30 j
      have A31 : ∀ j, 0 ≤ τ_11.2.1 31 j ∧ τ_11.2.1 31 j ≤ 20000 := fun j => hT.2 31 j
      have A32 : ∀ j, 0 ≤ τ_11.2.1 32 j ∧ τ_11.2.1 32 j ≤ 999999 := fun j => hT.2 32 j
      have A33 : ∀ j, 0 ≤ τ_11.2.1 33 j ∧ τ_11.2.1 33 j ≤ 20000 := fun j => hT.2 33 j
      have A34 : ∀ j, 0 ≤ τ_11.2.1 34 j ∧ τ_11.2.1 34 j ≤ 20000 := fun j => hT.2 34 j
      have A35 : ∀ j, 0 ≤ τ_11.2.1 35 j ∧ τ_11.2.1 35 j ≤ 1499 := fun j => hT.2 35 j
      have A36 : ∀ j, 0 ≤ τ_11.2.1 36 j ∧ τ_11.2.1 36 j ≤ 20000 := fun j => hT.2 36 j
      have A37 : ∀ j, 0 ≤ τ_11.2.1 37 j ∧ τ_11.2.1 37 j ≤ 19999 := fun j => hT.2 37 j
      have A75 : ∀ j, 0 ≤ τ_11.2.1 75 j ∧ τ_11.2.1 75 j ≤ 1499 := fun j => hT.2 75 j
      have A76 : ∀ j, 0 ≤ τ_11.2.1 76 j ∧ τ_11.2.1 76 j ≤ 99 := fun j => hT.2 76 j
      have A79 : ∀ j, 0 ≤ τ_11.2.1 79 j ∧ τ_11.2.1 79 j ≤ 1499 := fun j => hT.2 79 j
      have A81 : ∀ j, 0 ≤ τ_11.2.1 81 j ∧ τ_11.2.1 81 j ≤ 2 := fun j => hT.2 81 j
      have A82 : ∀ j, 0 ≤ τ_11.2.1 82 j ∧ τ_11.2.1 82 j ≤ 2 := fun j => hT.2 82 j
      have v4 : 0 ≤ τ_11.1 4 ∧ τ_11.1 4 ≤ 100 := hT.1 4
      have v5 : 0 ≤ τ_11.1 5 ∧ τ_11.1 5 ≤ 1000 := hT.1 5
      have v6 : 0 ≤ τ_11.1 6 ∧ τ_11.1 6 ≤ 30000 := hT.1 6
      have v7 : 0 ≤ τ_11.1 7 ∧ τ_11.1 7 ≤ 1500 := hT.1 7
      have v13 : 0 ≤ τ_11.1 13 ∧ τ_11.1 13 ≤ 90000 := hT.1 13
      have v14 : 0 ≤ τ_11.1 14 ∧ τ_11.1 14 ≤ 20000 := hT.1 14
      have v15 : 0 ≤ τ_11.1 15 ∧ τ_11.1 15 ≤ 20000 := hT.1 15
      have v46 : 0 ≤ τ_11.1 46 ∧ τ_11.1 46 ≤ 1500 := hT.1 46
      have v48 : (-1) ≤ τ_11.1 48 ∧ τ_11.1 48 ≤ 999 := hT.1 48
      have v50 : 0 ≤ τ_11.1 50 ∧ τ_11.1 50 ≤ 59 := hT.1 50
      have v51 : 0 ≤ τ_11.1 51 ∧ τ_11.1 51 ≤ 1500 := hT.1 51
      have v53 : 0 ≤ τ_11.1 53 ∧ τ_11.1 53 ≤ 58 := hT.1 53
      have TX : J_vs (τ_11.1 6) (τ_11.1 5) (τ_11.2.1 15) := by rw [show (J_vs (τ_11.1 6) (τ_11.1 5) (τ_11.2.1 15)) = (J_vs (σ.1 6) (σ.1 5) (σ.2.1 15)) from by rw [W5, W6, G15]]; exact TX_0
      have RKS : J_rks (τ_11.1 5) (τ_11.1 4) (τ_11.2.1 10) (τ_11.2.1 11) := by rw [show (J_rks (τ_11.1 5) (τ_11.1 4) (τ_11.2.1 10) (τ_11.2.1 11)) = (J_rks (σ.1 5) (σ.1 4) (σ.2.1 10) (σ.2.1 11)) from by rw [W4, W5, G10, G11]]; exact RKS_0
      have CJ : J_all (τ_11.1 7) (τ_11.1 6) (τ_11.1 13) (τ_11.1 14) (τ_11.1 15) (τ_11.2.1 13) (τ_11.2.1 14) (τ_11.2.1 15) (τ_11.2.1 16) (τ_11.2.1 10) (τ_11.2.1 27) (τ_11.2.1 28) (τ_11.2.1 29) (τ_11.2.1 30) (τ_11.2.1 31) (τ_11.2.1 32) (τ_11.2.1 33) (τ_11.2.1 34) (τ_11.2.1 35) (τ_11.2.1 36) (τ_11.2.1 37) := by rw [show (J_all (τ_11.1 7) (τ_11.1 6) (τ_11.1 13) (τ_11.1 14) (τ_11.1 15) (τ_11.2.1 13) (τ_11.2.1 14) (τ_11.2.1 15) (τ_11.2.1 16) (τ_11.2.1 10) (τ_11.2.1 27) (τ_11.2.1 28) (τ_11.2.1 29) (τ_11.2.1 30) (τ_11.2.1 31) (τ_11.2.1 32) (τ_11.2.1 33) (τ_11.2.1 34) (τ_11.2.1 35) (τ_11.2.1 36) (τ_11.2.1 37)) = (J_all (σ.1 7) (σ.1 6) (σ.1 13) (σ.1 14) (σ.1 15) (σ.2.1 13) (σ.2.1 14) (σ.2.1 15) (σ.2.1 16) (σ.2.1 10) (σ.2.1 27) (σ.2.1 28) (σ.2.1 29) (σ.2.1 30) (σ.2.1 31) (σ.2.1 32) (σ.2.1 33) (σ.2.1 34) (σ.2.1 35) (σ.2.1 36) (σ.2.1 37)) from by rw [W6, W7, W13, W14, W15, G10, G13, G14, G15, G16, G27, G28, G29, G30, G31, G32, G33, G34, G35, G36, G37]]; exact CJ_0
      refine h11 n1 u2_11 τ_11 ?_
      refine ⟨fun c5 => ?_, fun c5 => ?_⟩
      ·
        exact l_86 ((202 - 0 : Int).toNat + 1) _ _ _ (show (202 - 0 : Int) < (((202 - 0 : Int).toNat + 1 : Nat) : Int) from by ((first | omega | (simp only [st_s] <;> omega) | assumption | omega | fail))) hT (show τ_11.1 4 = σ.1 4 from by first | exact W4 | omega) (show τ_11.1 5 = σ.1 5 from by first | exact W5 | omega) (show τ_11.1 6 = σ.1 6 from by first | exact W6 | omega) (show τ_11.1 7 = σ.1 7 from by first | exact W7 | omega) (show τ_11.1 13 = σ.1 13 from by first | exact W13 | omega) (show τ_11.1 14 = σ.1 14 from by first | exact W14 | omega) (show τ_11.1 15 = σ.1 15 from by first | exact W15 | omega) (show τ_11.1 46 = σ.1 46 from by first | exact W46 | omega) (show τ_11.1 48 = σ.1 48 from by first | exact W48 | omega) (show τ_11.1 50 = σ.1 50 from by first | exact W50 | omega) (show τ_11.1 51 = σ.1 51 from by first | exact W51 | omega) (show τ_11.1 53 = σ.1 53 from by first | exact W53 | omega) G10 G11 G13 G14 G15 G16 G27 G28 G29 G30 G31 G32 G33 G34 G35 G36 G37 G75 G76 (show 0 ≤ 1 ∧ 1 ≤ 1 from by (first | omega | (simp only [st_s] <;> omega) | assumption | omega | fail)) (show 0 ≤ 0 ∧ 0 ≤ 201 from by (first | omega | (simp only [st_s] <;> omega) | assumption | omega | fail)) (show g_pf (σ.1 4) (σ.1 51) (σ.1 46) 0 (σ.2.1 75) (σ.2.1 76) (g_so (σ.1 48) (σ.2.1 14) (σ.2.1 15) (σ.2.1 10)) (τ_11.2.1 81) (τ_11.2.1 82) from by (first | (rw [g81_τ18]; exact ps.2) | exact g_pf0 (fun s a b => i11_3 s a (by omega)) (fun s a b => A81 s) (fun j => (A82 j).1) | fail)) (show g_ba (σ.1 4) (σ.1 53) n1 (σ.2.2 4) (σ.2.2 5) (τ_11.2.1 81) from by (first | (rw [g81_τ18]; exact i86_4) | exact fun s a b => i11_2 s a (by omega) | fail)) (show g_rd (σ.1 4) (σ.1 51) (σ.1 46) (σ.2.1 75) (σ.2.1 76) (g_so (σ.1 48) (σ.2.1 14) (σ.2.1 15) (σ.2.1 10)) (τ_11.2.1 81) (τ_11.2.1 82) (τ_11.2.1 82) ∨ 0 ≤ sm (τ_11.2.1 82) (σ.1 4) from by (first | (rw [g81_τ18]; exact g_rd_s rd ps.1 i86_5 uf) | exact Or.inr (sm_n (fun e a b => (A82 e).1)) | fail)) (show 1 = 0 → g_rd (σ.1 4) (σ.1 51) (σ.1 46) (σ.2.1 75) (σ.2.1 76) (g_so (σ.1 48) (σ.2.1 14) (σ.2.1 15) (σ.2.1 10)) (τ_11.2.1 81) (τ_11.2.1 82) (τ_11.2.1 82) from by (first | (intro z; exfalso; omega) | (intro z; rw [g81_τ18]; exact g_pf_e (k := 0) rd (fun s a b => q16_3 z s a (by omega)) uf) | fail)) (show τ_11.2.2 4 = σ.2.2 4 from by (first | exact (hf_τ18.2.2 4 (by decide)).trans i86_7 | exact i11_4 | fail)) (show τ_11.2.2 5 = σ.2.2 5 from by (first | exact (hf_τ18.2.2 5 (by decide)).trans i86_8 | exact i11_5 | fail)) (show τ_11.2.1 79 = σ.2.1 79 from by (first | exact g79_τ18.trans i86_9 | exact i11_6 | fail)) (show c_Rs τ_11 par nof In from by (first | exact c_Rs_h i86_10 hf_τ18 rfl | exact i11_7 | fail))
      ·
        refine ⟨(show 0 ≤ ((u2_11 * 60) + τ_11.1 53) ∧ ((u2_11 * 60) + τ_11.1 53) < 6000 from by (first | omega | (simp only [st_s] <;> omega) | assumption | omega | fail)), ?_⟩
        intro x7 e_x7
        have e7 : x7 = σ.2.2 5 ((u2_11 * 60) + σ.1 53) := by rw [e_x7, i11_5, W53]
        refine ⟨_, K_X1_reaches hT (show 0 ≤ u2_11 from by (first | omega | (simp only [st_s] <;> omega) | assumption | omega | fail)) (show u2_11 < 100 from by (first | omega | (simp only [st_s] <;> omega) | assumption | omega | fail)) (show 0 ≤ n1 from by (first | omega | (simp only [st_s] <;> omega) | assumption | omega | fail)) (show n1 < 64 from by (first | omega | (simp only [st_s] <;> omega) | assumption | omega | fail)), ?_⟩
        intro x9 r_x9 hq
        obtain ⟨q8_1, q8_2, q8_3⟩ := hq
        replace q8_1 : 0 ≤ x9 ∧ x9 ≤ 1 := q8_1
        replace q8_2 : ¬ x9 = 0 → g_H (τ_11.2.2 4) u2_11 (τ_11.1 53) n1 := q8_2
        replace q8_3 : x9 = 0 → ¬ g_H (τ_11.2.2 4) u2_11 (τ_11.1 53) n1 := q8_3
        rw [i11_4, W53] at q8_2 q8_3
        refine ⟨fun c11 => ?_, fun c11 => ?_⟩
        ·
          refine h63 _ _ _ _ _ ?_
          refine ⟨(show 0 ≤ u2_11 ∧ u2_11 < 100 from by (first | omega | (simp only [st_s] <;> omega) | assumption | omega | fail)), ?_⟩
          replace hT := cT_a (k := 81) (j := u2_11) hT (show (0 : Int) ≤ 0 ∧ 0 ≤ 2 from by (first | omega | (simp only [st_s] <;> omega) | assumption | omega | fail))
          refine ⟨(show 0 ≤ u2_11 ∧ u2_11 < 100 from by (first | omega | (simp only [st_s] <;> omega) | assumption | omega | fail)), ?_⟩
          intro x22 r_x22 e_x22
          have b_x22 : 0 ≤ x22 ∧ x22 ≤ 2 := by rw [e_x22]; exact hT.2 81 _
          replace hT := cT_a (k := 82) (j := u2_11) hT (show (0 : Int) ≤ x22 ∧ x22 ≤ 2 from by (first | omega | (simp only [st_s] <;> omega) | assumption | omega | fail))
          refine ⟨(⟨by (first | omega | (simp only [st_s] <;> omega) | assumption | omega | fail), by (first | omega | (simp only [st_s] <;> omega) | assumption | omega | fail)⟩ : rg (u2_11 + 1)), ?_⟩
          exact ih_11 _ _ (show (101 - (u2_11 + 1) : Int) < ((m_11 : Nat) : Int) from by ((first | omega | (simp only [st_s] <;> omega) | assumption | omega | fail))) hT (show τ_11.1 4 = σ.1 4 from by first | exact W4 | omega) (show τ_11.1 5 = σ.1 5 from by first | exact W5 | omega) (show τ_11.1 6 = σ.1 6 from by first | exact W6 | omega) (show τ_11.1 7 = σ.1 7 from by first | exact W7 | omega) (show τ_11.1 13 = σ.1 13 from by first | exact W13 | omega) (show τ_11.1 14 = σ.1 14 from by first | exact W14 | omega) (show τ_11.1 15 = σ.1 15 from by first | exact W15 | omega) (show τ_11.1 46 = σ.1 46 from by first | exact W46 | omega) (show τ_11.1 48 = σ.1 48 from by first | exact W48 | omega) (show τ_11.1 50 = σ.1 50 from by first | exact W50 | omega) (show τ_11.1 51 = σ.1 51 from by first | exact W51 | omega) (show τ_11.1 53 = σ.1 53 from by first | exact W53 | omega) G10 G11 G13 G14 G15 G16 G27 G28 G29 G30 G31 G32 G33 G34 G35 G36 G37 G75 G76 (show 0 ≤ (u2_11 + 1) ∧ (u2_11 + 1) ≤ 100 from by (first | omega | (simp only [st_s] <;> omega) | assumption | omega | fail)) (show g_ba (u2_11 + 1) (σ.1 53) n1 (σ.2.2 4) (σ.2.2 5) ((st (τ_11.2.1 81) u2_11 0)) from by (first | (intro s a b; exfalso; omega) | (intro s a b; by_cases z : s = u2_11; (rw [z, st_s]; have r := q8_3 (by assumption); exact ⟨fun _ => rfl, fun q => absurd q r, fun q => absurd q r⟩); (rw [st_n _ _ z]; exact i11_2 s a (by omega))) | (intro s a b; by_cases z : s = u2_11; (rw [z, st_s]; have r := q8_2 (by assumption); rw [e7] at jx; have q9 := jx; rcases q9 with ⟨j1, j2⟩ | ⟨j1, j2⟩; exact ⟨fun q => absurd r q, fun _ q => absurd j2 q, fun _ _ => by rw [e7] at x12v; omega⟩; exact ⟨fun q => absurd r q, fun _ _ => by rw [e7] at x12v; omega, fun _ q => absurd q j2⟩); (rw [st_n _ _ z]; exact i11_2 s a (by omega))) | fail)) (show ∀ s : Int, 0 ≤ s → s < (u2_11 + 1) → (st (τ_11.2.1 82) u2_11 x22) s = (st (τ_11.2.1 81) u2_11 0) s from by (first | (intro s a b; exfalso; omega) | (intro s a b; by_cases z : s = u2_11; (rw [z, st_s, e_x22]); (rw [st_n _ _ z, st_n _ _ z]; exact i11_3 s a (by omega))) | fail)) (show τ_11.2.2 4 = σ.2.2 4 from by (first | rfl | exact i11_4 | fail)) (show τ_11.2.2 5 = σ.2.2 5 from by (first | rfl | exact i11_5 | fail)) (show τ_11.2.1 79 = σ.2.1 79 from by (first | rfl | exact i11_6 | fail)) (show c_Rs (s_a (s_a τ_11 81 u2_11 0) 82 u2_11 x22) par nof In from by (first | exact p2 | exact i11_7 | fail))
        ·
          intro x12 r_x12 h1_x12
          have jx := j_b_i (x := x7) (k := n1) (by omega) (by omega)
          have x12v := h1_x12 (by unfold rg; omega)
          refine ⟨(⟨by (first | omega | (simp only [st_s] <;> omega) | assumption | omega | fail), by (first | omega | (simp only [st_s] <;> omega) | assumption | omega | fail)⟩ : rg (1 + x12)), ?_⟩
          refine h63 _ _ _ _ _ ?_
          refine ⟨(show 0 ≤ u2_11 ∧ u2_11 < 100 from by (first | omega | (simp only [st_s] <;> omega) | assumption | omega | fail)), ?_⟩
          replace hT := cT_a (k := 81) (j := u2_11) hT (show (0 : Int) ≤ (1 + x12) ∧ (1 + x12) ≤ 2 from by (first | omega | (simp only [st_s] <;> omega) | assumption | omega | fail))
          refine ⟨(show 0 ≤ u2_11 ∧ u2_11 < 100 from by (first | omega | (simp only [st_s] <;> omega) | assumption | omega | fail)), ?_⟩
          intro x22 r_x22 e_x22
          have b_x22 : 0 ≤ x22 ∧ x22 ≤ 2 := by rw [e_x22]; exact hT.2 81 _
          replace hT := cT_a (k := 82) (j := u2_11) hT (show (0 : Int) ≤ x22 ∧ x22 ≤ 2 from by (first | omega | (simp only [st_s] <;> omega) | assumption | omega | fail))
          refine ⟨(⟨by (first | omega | (simp only [st_s] <;> omega) | assumption | omega | fail), by (first | omega | (simp only [st_s] <;> omega) | assumption | omega | fail)⟩ : rg (u2_11 + 1)), ?_⟩
          exact ih_11 _ _ (show (101 - (u2_11 + 1) : Int) < ((m_11 : Nat) : Int) from by ((first | omega | (simp only [st_s] <;> omega) | assumption | omega | fail))) hT (show τ_11.1 4 = σ.1 4 from by first | exact W4 | omega) (show τ_11.1 5 = σ.1 5 from by first | exact W5 | omega) (show τ_11.1 6 = σ.1 6 from by first | exact W6 | omega) (show τ_11.1 7 = σ.1 7 from by first | exact W7 | omega) (show τ_11.1 13 = σ.1 13 from by first | exact W13 | omega) (show τ_11.1 14 = σ.1 14 from by first | exact W14 | omega) (show τ_11.1 15 = σ.1 15 from by first | exact W15 | omega) (show τ_11.1 46 = σ.1 46 from by first | exact W46 | omega) (show τ_11.1 48 = σ.1 48 from by first | exact W48 | omega) (show τ_11.1 50 = σ.1 50 from by first | exact W50 | omega) (show τ_11.1 51 = σ.1 51 from by first | exact W51 | omega) (show τ_11.1 53 = σ.1 53 from by first | exact W53 | omega) G10 G11 G13 G14 G15 G16 G27 G28 G29 G30 G31 G32 G33 G34 G35 G36 G37 G75 G76 (show 0 ≤ (u2_11 + 1) ∧ (u2_11 + 1) ≤ 100 from by (first | omega | (simp only [st_s] <;> omega) | assumption | omega | fail)) (show g_ba (u2_11 + 1) (σ.1 53) n1 (σ.2.2 4) (σ.2.2 5) ((st (τ_11.2.1 81) u2_11 (1 + x12))) from by (first | (intro s a b; exfalso; omega) | (intro s a b; by_cases z : s = u2_11; (rw [z, st_s]; have r := q8_3 (by assumption); exact ⟨fun _ => rfl, fun q => absurd q r, fun q => absurd q r⟩); (rw [st_n _ _ z]; exact i11_2 s a (by omega))) | (intro s a b; by_cases z : s = u2_11; (rw [z, st_s]; have r := q8_2 (by assumption); rw [e7] at jx; have q9 := jx; rcases q9 with ⟨j1, j2⟩ | ⟨j1, j2⟩; exact ⟨fun q => absurd r q, fun _ q => absurd j2 q, fun _ _ => by rw [e7] at x12v; omega⟩; exact ⟨fun q => absurd r q, fun _ _ => by rw [e7] at x12v; omega, fun _ q => absurd q j2⟩); (rw [st_n _ _ z]; exact i11_2 s a (by omega))) | fail)) (show ∀ s : Int, 0 ≤ s → s < (u2_11 + 1) → (st (τ_11.2.1 82) u2_11 x22) s = (st (τ_11.2.1 81) u2_11 (1 + x12)) s from by (first | (intro s a b; exfalso; omega) | (intro s a b; by_cases z : s = u2_11; (rw [z, st_s, e_x22]); (rw [st_n _ _ z, st_n _ _ z]; exact i11_3 s a (by omega))) | fail)) (show τ_11.2.2 4 = σ.2.2 4 from by (first | rfl | exact i11_4 | fail)) (show τ_11.2.2 5 = σ.2.2 5 from by (first | rfl | exact i11_5 | fail)) (show τ_11.2.1 79 = σ.2.1 79 from by (first | rfl | exact i11_6 | fail)) (show c_Rs (s_a (s_a τ_11 81 u2_11 (1 + x12)) 82 u2_11 x22) par nof In from by (first | exact p2 | exact i11_7 | fail))
  refine ⟨_, K_X1_hasUnits hT (show 0 ≤ n1 from by (first | omega | (simp only [st_s] <;> omega) | assumption | omega | fail)) (show n1 < 64 from by (first | omega | (simp only [st_s] <;> omega) | assumption | omega | fail)) (show c_Rs σ par nof In from by exact p2), ?_⟩
  intro x2 r_x2 hq
  obtain ⟨q1_1, q1_2⟩ := hq
  replace q1_1 : 0 ≤ x2 ∧ x2 ≤ 1 := q1_1
  replace q1_2 : x2 = 0 → ∀ v : Int, 0 ≤ v → v < (σ.1 46) → σ.2.1 75 v < (σ.1 51) → ¬ g_H (σ.2.2 4) (σ.2.1 76 v) (σ.1 53) n1 := q1_2
  refine ⟨fun c4 => ?_, fun c4 => ?_⟩
  ·
    exact l_11 ((101 - 0 : Int).toNat + 1) _ _ (show (101 - 0 : Int) < (((101 - 0 : Int).toNat + 1 : Nat) : Int) from by ((first | omega | (simp only [st_s] <;> omega) | assumption | omega | fail))) hT (show σ.1 4 = σ.1 4 from by first | exact W4 | omega) (show σ.1 5 = σ.1 5 from by first | exact W5 | omega) (show σ.1 6 = σ.1 6 from by first | exact W6 | omega) (show σ.1 7 = σ.1 7 from by first | exact W7 | omega) (show σ.1 13 = σ.1 13 from by first | exact W13 | omega) (show σ.1 14 = σ.1 14 from by first | exact W14 | omega) (show σ.1 15 = σ.1 15 from by first | exact W15 | omega) (show σ.1 46 = σ.1 46 from by first | exact W46 | omega) (show σ.1 48 = σ.1 48 from by first | exact W48 | omega) (show σ.1 50 = σ.1 50 from by first | exact W50 | omega) (show σ.1 51 = σ.1 51 from by first | exact W51 | omega) (show σ.1 53 = σ.1 53 from by first | exact W53 | omega) G10 G11 G13 G14 G15 G16 G27 G28 G29 G30 G31 G32 G33 G34 G35 G36 G37 G75 G76 (show 0 ≤ 0 ∧ 0 ≤ 100 from by (first | omega | (simp only [st_s] <;> omega) | assumption | omega | fail)) (show g_ba 0 (σ.1 53) n1 (σ.2.2 4) (σ.2.2 5) (σ.2.1 81) from by (first | (intro s a b; exfalso; omega) | (intro s a b; by_cases z : s = u2_11; (rw [z, st_s]; have r := q8_3 (by assumption); exact ⟨fun _ => rfl, fun q => absurd q r, fun q => absurd q r⟩); (rw [st_n _ _ z]; exact i11_2 s a (by omega))) | (intro s a b; by_cases z : s = u2_11; (rw [z, st_s]; have r := q8_2 (by assumption); rw [e7] at jx; have q9 := jx; rcases q9 with ⟨j1, j2⟩ | ⟨j1, j2⟩; exact ⟨fun q => absurd r q, fun _ q => absurd j2 q, fun _ _ => by rw [e7] at x12v; omega⟩; exact ⟨fun q => absurd r q, fun _ _ => by rw [e7] at x12v; omega, fun _ q => absurd q j2⟩); (rw [st_n _ _ z]; exact i11_2 s a (by omega))) | fail)) (show ∀ s : Int, 0 ≤ s → s < 0 → σ.2.1 82 s = σ.2.1 81 s from by (first | (intro s a b; exfalso; omega) | (intro s a b; by_cases z : s = u2_11; (rw [z, st_s, e_x22]); (rw [st_n _ _ z, st_n _ _ z]; exact i11_3 s a (by omega))) | fail)) (show σ.2.2 4 = σ.2.2 4 from by (first | rfl | exact i11_4 | fail)) (show σ.2.2 5 = σ.2.2 5 from by (first | rfl | exact i11_5 | fail)) (show σ.2.1 79 = σ.2.1 79 from by (first | rfl | exact i11_6 | fail)) (show c_Rs σ par nof In from by (first | exact p2 | exact i11_7 | fail))
  ·
    exact ⟨hT, (show g_uo (σ.1 4) (σ.1 51) (σ.1 46) (σ.1 53) n1 (σ.2.1 75) (σ.2.1 76) (g_so (σ.1 48) (σ.2.1 14) (σ.2.1 15) (σ.2.1 10)) (σ.2.2 4) (σ.2.2 5) (σ.2.2 4) (σ.2.2 5) (σ.2.1 79) (σ.2.1 79) from by (first | exact g_uo0 p6 (q1_2 (by assumption)) | exact g_uo_e (g_ua_l i110_2 (by omega) (fun v a b => by first | (exfalso; omega) | (rcases (by omega : u3_110 = v ∨ u3_110 < v) with q | q; (rw [← q]; omega); (have y := un.2.1 u3_110 v (by omega) q b; omega)))) i110_3 i110_4 i110_5 (fun j => (A82 j).1) (fun j => (A81 j).1) uf p6 | fail))⟩
