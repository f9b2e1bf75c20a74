-- pure: a walk through the rules
/-- what a walk adds -/
def g_wr (sp len rs lim : Int) (Nw : Int → Prop) (rcs : (Int → Int → Prop) → Prop) (b4 b5 c4 c5 : Int → Int64) (mb mc lf so nof : Int → Int) (In : Int → Prop) : Prop :=
  (∀ s i e : Int, 0 ≤ i → i < 60 → i ≠ sp → (g_H c4 s i e ↔ g_H b4 s i e) ∧ (g_H c5 s i e ↔ g_H b5 s i e)) ∧
  (∀ s e : Int, 0 ≤ e → e < 64 → (g_H b4 s sp e → g_H c4 s sp e) ∧ (g_H b5 s sp e → g_H c5 s sp e) ∧ (g_H c4 s sp e → g_H b4 s sp e ∨ Nw e) ∧ (g_H c5 s sp e → g_H b5 s sp e ∨ Nw e)) ∧
  (∀ s i e : Int, 0 ≤ i → i < e → e ≤ 59 → (i ≠ sp ∨ ¬ Nw e ∨ g_H b4 s sp e) → g_mb mc s i e = g_mb mb s i e) ∧
  ∀ rc : Int → Int → Prop, rcs rc → g_cs sp len rs lim b4 b5 mb lf so nof In rc → g_cs sp len rs lim c4 c5 mc lf so nof In rc
theorem g_wr0 (sp len rs lim : Int) (Nw : Int → Prop) (rcs : (Int → Int → Prop) → Prop) (b4 b5 : Int → Int64) (mb lf so nof : Int → Int) (In : Int → Prop) : g_wr sp len rs lim Nw rcs b4 b5 b4 b5 mb mb lf so nof In :=
  ⟨fun s i e a b c => ⟨Iff.rfl, Iff.rfl⟩, fun s e _ _ => ⟨id, id, Or.inl, Or.inl⟩, fun s i e a b c d => rfl, fun rc _ h => h⟩
theorem g_wr_a {sp len rs lim n u : Int} {Nw : Int → Prop} {rcs : (Int → Int → Prop) → Prop} {x y : Int64} {b4 b5 c4 c5 d4 d5 : Int → Int64} {mb mc md lf so nof : Int → Int} {In : Int → Prop} (h : g_wr sp len rs lim Nw rcs b4 b5 c4 c5 mb mc lf so nof In) (a : g_ad sp len rs lim n u x y c4 c5 d4 d5 mc md lf so nof In) (xn : ∀ e : Int, 0 ≤ e → e < 64 → j_b x e → Nw e) (yx : ∀ e : Int, 0 ≤ e → e < 64 → j_b y e → j_b x e) (xr : ∀ rc, rcs rc → ∀ e : Int, 0 ≤ e → e < 64 → j_b x e → rc n e) : g_wr sp len rs lim Nw rcs b4 b5 d4 d5 mb md lf so nof In := by
  obtain ⟨h1, h2, h3, h4⟩ := h
  obtain ⟨a1, a2, a3, a4, a5⟩ := a
  refine ⟨fun s i e p q r => ?_, fun s e e0 e1 => ?_, fun s i e p q r z => ?_, fun rc hr hc => a4 rc (xr rc hr) (h4 rc hr hc)⟩
  · have w := h1 s i e p q r; have v := a1 s i e p q r
    exact ⟨v.1.trans w.1, v.2.trans w.2⟩
  · obtain ⟨w1, w2, w3, w4⟩ := h2 s e e0 e1
    obtain ⟨v1, v2, v3, v4⟩ := a2 s e
    refine ⟨fun z => v1 (w1 z), fun z => v2 (w2 z), fun z => ?_, fun z => ?_⟩
    · rcases v3 z with z | z
      · exact w3 z
      · exact Or.inr (xn e e0 e1 z)
    · rcases v4 z with z | z | z
      · exact w4 z
      · exact Or.inr (xn e e0 e1 (yx e e0 e1 z))
      · exact Or.inr (xn e e0 e1 z)
  · rw [a3 s i e p q r (z.elim Or.inl (fun k => Or.inr (k.elim (fun k => Or.inl (fun m => k (xn e (by omega) (by omega) m))) (fun k => Or.inr ((h2 s e (by omega) (by omega)).1 k)))))]; exact h3 s i e p q r z
/-- nodes of a way rise -/
theorem g_wk_n {nd len b p n q m : Int} {row ky par π d : Int → Int} {Hs : Int → Int → Int → Prop} (h : g_wk len row ky par Hs b p n q m π d) (hp : ∀ c : Int, 1 ≤ c → c < nd → 0 ≤ par c ∧ par c < c) (hq : ∀ c : Int, nd ≤ c → par c = -1) (b0 : 0 ≤ b) : ∀ k : Nat, (k : Int) ≤ m → b + (k : Int) ≤ π (k : Int) ∧ (0 < (k : Int) → π (k : Int) < nd)
  | 0, _ => by
    have := h.2.1
    rw [show ((0 : Nat) : Int) = 0 from rfl, this]
    exact ⟨by omega, fun z => by omega⟩
  | k + 1, hk => by
    have w := g_wk_n h hp hq b0 k (by omega)
    obtain ⟨x1, x2, x3⟩ := h.2.2.2.2.2 (k : Int) (by omega) (by omega)
    rw [show ((k + 1 : Nat) : Int) = (k : Int) + 1 from by omega]
    by_cases z : π ((k : Int) + 1) < nd
    · have v := hp _ x1 z
      rw [x2] at v
      exact ⟨by omega, fun _ => z⟩
    · have v := hq _ (show nd ≤ π ((k : Int) + 1) from by omega)
      rw [x2] at v; omega
theorem g_rc_b {nd len b p q : Int} {row ky par : Int → Int} {Hs : Int → Int → Int → Prop} (h : g_rc len row ky par Hs b p b q) (hp : ∀ c : Int, 1 ≤ c → c < nd → 0 ≤ par c ∧ par c < c) (hq : ∀ c : Int, nd ≤ c → par c = -1) (b0 : 0 ≤ b) : q = p := by
  obtain ⟨m, π, d, w⟩ := h
  have v := (g_wk_n w hp hq b0 m.toNat (by have := w.1; omega)).1
  have w0 := w.1
  rw [show (m.toNat : Int) = m from by omega, w.2.2.1] at v
  have e : m = 0 := by omega
  have a := w.2.2.2.1; have c := w.2.2.2.2.1
  rw [e, a] at c; exact c.symm
theorem g_rs_b {nd len b p q : Int} {row ky par : Int → Int} {Hs Ss : Int → Int → Int → Prop} (h : g_rs len row ky par Hs Ss b p b q) (hp : ∀ c : Int, 1 ≤ c → c < nd → 0 ≤ par c ∧ par c < c) (hq : ∀ c : Int, nd ≤ c → par c = -1) (b0 : 0 ≤ b) : False := by
  obtain ⟨m, π, d, w, j, j0, j1, _⟩ := h
  have v := (g_wk_n w hp hq b0 m.toNat (by omega)).1
  rw [show (m.toNat : Int) = m from by omega, w.2.2.1] at v
  omega
theorem g_s2_b {nd len b q : Int} {row ky par : Int → Int} {Hs : Int → Int → Int → Prop} {E : Int → Prop} (h : g_s2 len row ky par Hs E b b q) (hp : ∀ c : Int, 1 ≤ c → c < nd → 0 ≤ par c ∧ par c < c) (hq : ∀ c : Int, nd ≤ c → par c = -1) (b0 : 0 ≤ b) : False := by
  obtain ⟨p, p2, m, π, d, d2, _, _, w, w2, j, j0, j1, jd⟩ := h
  have w0 := w.1
  have v := (g_wk_n w hp hq b0 m.toNat (by omega)).1
  rw [show (m.toNat : Int) = m from by omega, w.2.2.1] at v
  have a := w.2.2.2.2.1; have c := w2.2.2.2.2.1
  have mz : m = 0 := by omega
  have jz : j = 0 := by omega
  rw [mz] at a c
  exact jd (by rw [jz, a, c])
/-- what is reached further is reached behind -/
theorem g_rc_g {len b p n q : Int} {row ky par : Int → Int} {Hs : Int → Int → Int → Prop} (h : g_rc len row ky par Hs b p n q) : p ≤ q ∧ (n ≠ b → p < q ∧ q ≤ len) := by
  obtain ⟨m, π, d, w⟩ := h
  have v := g_wk_g (j := m) w w.1 (Int.le_refl _)
  have w0 := w.1
  have w2 := w.2.1; have w3 := w.2.2.1
  rw [w.2.2.2.2.1] at v
  refine ⟨by omega, fun z => ?_⟩
  have m0 : 0 < m := by
    by_cases y : m = 0
    · rw [y, w2] at w3; exact absurd w3.symm z
    · omega
  have x := g_mk_b (g_wk_p w m0).2.2
  omega
theorem g_rc_c {sp len b p n q : Int} {row ky par : Int → Int} {Hs : Int → Int → Int → Prop} {rc : Int → Int → Prop} (h : g_rc len row ky par Hs b p n q) (r0 : rc b p) (p0 : sp < p) (cl : ∀ n c q q2 : Int, 1 ≤ c → par c = n → sp < q → rc n q → g_mk len row Hs (ky c) q q2 → rc c q2) : rc n q := by
  obtain ⟨m, π, d, w⟩ := h
  have w0 := w.1
  have all : ∀ k : Nat, (k : Int) ≤ m → rc (π (k : Int)) (d (k : Int)) := fun k => by
    induction k with
    | zero => intro _; rw [show ((0 : Nat) : Int) = 0 from rfl, w.2.1, w.2.2.2.1]; exact r0
    | succ k ih =>
      intro hk
      obtain ⟨x1, x2, x3⟩ := w.2.2.2.2.2 (k : Int) (by omega) (by omega)
      have g := g_wk_g (j := (k : Int)) w (by omega) (by omega)
      rw [show ((k + 1 : Nat) : Int) = (k : Int) + 1 from by omega]
      exact cl _ _ _ _ x1 x2 (by omega) (ih (by omega)) x3
  have v := all m.toNat (by omega)
  rw [show (m.toNat : Int) = m from by omega, w.2.2.1, w.2.2.2.2.1] at v
  exact v
/-- the beginning of a walk -/
theorem g_df_0 {nd len sp lim b f : Int} {row ky par bn nof so xs fc sb aC aS : Int → Int} {In : Int → Prop} {Hs Ss : Int → Int → Int → Prop} {wi : Prop} {x y : Int64} {b4 b5 b6 b7 : Int → Int64} {mb : Int → Int} (tr : g_tr nd fc sb ky aC aS par) (b1 : 1 ≤ b) (bn' : b < nd) (hf : f = fc b) (xe : ∀ e : Int, 0 ≤ e → e < 64 → j_b x e → sp < e ∧ e ≤ len) (yx : ∀ e : Int, 0 ≤ e → e < 64 → j_b y e → j_b x e) (l59 : len ≤ 59)
    (ra : wi → g_RA len sp lim row ky par nof so In Hs Ss (fun p => p < 64 ∧ j_b x p) (fun p => p < 64 ∧ j_b y p) b b4 b5 mb b) : g_df nd len sp lim 0 0 row ky par bn nof so (st xs 0 f) (fun _ => b) (fun _ => 0) In (fun n => n = b) Hs Ss (fun p => p < 64 ∧ j_b x p) (fun p => p < 64 ∧ j_b y p) b wi b4 b5 (st b6 0 x) (st b7 0 y) mb := by
  have hp : ∀ c : Int, 1 ≤ c → c < nd → 0 ≤ par c ∧ par c < c := fun c a e => ⟨(tr.1 c a e).1, (tr.1 c a e).2.1⟩
  have hq := tr.2.2.2.2.2.2
  obtain ⟨r1, r2, r3⟩ := tr.2.1 b (by omega) bn'
  rw [← hf] at r1 r2 r3
  refine ⟨⟨by omega, rfl, rfl⟩, fun l l0 l1 => ?_, fun n hn => ?_, fun c c0 z => absurd rfl z, ?_⟩
  · rw [show l = 0 from by omega]
    unfold g_lv
    rw [show st xs 0 f 0 = f from st_s _ _ _, show st b6 0 x 0 = x from st_s _ _ _, show st b7 0 y 0 = y from st_s _ _ _]
    refine ⟨⟨Int.le_refl _, bn', rfl⟩, ⟨r1, r2⟩, fun z => by omega, fun q q0 q1 => ⟨⟨fun z => ⟨q, q0, ⟨q1, z⟩, g_rc0 _ _ _ _ _ _ _⟩, fun ⟨p, p0, ⟨p1, p2⟩, w⟩ => ?_⟩, fun w => ?_, fun z => yx q q0 q1 z, fun z => ?_⟩, fun z => by omega, fun c c0 c1 c2 => ⟨⟨fun z => absurd rfl z, fun z => absurd c2 (r3 c z c1 c0)⟩, fun z => absurd c2 (r3 c z c1 c0)⟩⟩
    · rw [g_rc_b w hp hq (by omega)]; exact p2
    · rcases w with ⟨p, p0, ⟨⟨_, v⟩, w⟩ | ⟨_, w⟩⟩ | w
      · rw [g_rc_b w hp hq (by omega)]; exact v
      · exact (g_rs_b w hp hq (by omega)).elim
      · exact (g_s2_b w hp hq (by omega)).elim
    · have := xe q q0 q1 z; omega
  · rw [hn]
    exact ⟨⟨Int.le_refl _, bn'⟩, fun z => absurd rfl z, fun z => z.elim (fun w => absurd rfl w) ra, Or.inl ⟨0, Int.le_refl _, Int.le_refl _, rfl⟩⟩
  · have := (ca_b (fun _ => (0 : Int)) (n := nd) (by omega)).1
    omega
/-- what a step down gives, told of the whole way -/
theorem g_st_d {nd len sp D b c N : Int} {row ky par fc sb aC aS : Int → Int} {Hs Ss : Int → Int → Int → Prop} {E V : Int → Prop} {A B A2 B2 : Int64} {b4 b5 : Int → Int64} (tr : g_tr nd fc sb ky aC aS par) (b1 : 1 ≤ b) (c1 : 1 ≤ c) (pc : par c = N) (bN : b ≤ N) (cn : c < nd) (l59 : len ≤ 59) (s0 : 0 ≤ sp) (D0 : 0 ≤ D) (E0 : ∀ p : Int, 0 ≤ p → E p → sp < p) (V0 : ∀ p : Int, 0 ≤ p → V p → E p)
    (eH : ∀ s q e : Int, sp < q → q < 60 → (Hs s q e ↔ g_H b4 s q e)) (eS : ∀ s q e : Int, sp < q → q < 60 → (Ss s q e ↔ g_H b5 s q e))
    (hA : ∀ q : Int, 0 ≤ q → q < 64 → (j_b A q ↔ g_re len row ky par Hs E b N q) ∧ (g_se len row ky par Hs Ss E V b N q → j_b B q) ∧ (j_b B q → j_b A q) ∧ (j_b A q → sp + 1 + D ≤ q ∧ q ≤ len)) (sr : g_sr len (ky c) A B A2 B2 row b4 b5) :
    ∀ q : Int, 0 ≤ q → q < 64 → (j_b A2 q ↔ g_re len row ky par Hs E b c q) ∧ (g_se len row ky par Hs Ss E V b c q → j_b B2 q) ∧ (j_b B2 q → j_b A2 q) ∧ (j_b A2 q → sp + 1 + (D + 1) ≤ q ∧ q ≤ len) := by
  have hp := (tr.1 c c1 cn).2.1
  have cb : c ≠ b := by omega
  have rg : ∀ n q : Int, g_re len row ky par Hs E b n q → sp < q := fun n q ⟨p, p0, pe, w⟩ => by
    have := E0 p p0 pe; have := (g_rc_g w).1; omega
  have mk : ∀ q q2 : Int, sp < q → (g_mk len row Hs (ky c) q q2 ↔ g_mk len row (g_H b4) (ky c) q q2) := fun q q2 z => by
    constructor
    · intro m; have ml := m.1; exact g_mk_m m (fun _ y => (eH _ _ _ z (by omega)).mp y)
    · intro m; have ml := m.1; exact g_mk_m m (fun _ y => (eH _ _ _ z (by omega)).mpr y)
  intro q2 q0 q1
  obtain ⟨s1, s2, s3, s4⟩ := sr q2 q0 q1
  refine ⟨⟨fun z => ?_, fun ⟨p, p0, pe, w⟩ => ?_⟩, fun w => ?_, s2, fun z => ?_⟩
  · obtain ⟨q, qa, qb, qc⟩ := s1.mp z
    have ql := qc.1
    obtain ⟨p, p0, pe, w⟩ := (hA q qa (by omega)).1.mp qb
    exact ⟨p, p0, pe, g_rc_s w c1 pc ((mk q q2 (rg N q ⟨p, p0, pe, w⟩)).mpr qc)⟩
  · obtain ⟨_, q, w1, w2⟩ := g_rc_i w cb
    rw [pc] at w1
    have ql := w2.1
    have g := rg N q ⟨p, p0, pe, w1⟩
    exact s1.mpr ⟨q, by omega, (hA q (by omega) (by omega)).1.mpr ⟨p, p0, pe, w1⟩, (mk q q2 g).mp w2⟩
  · rcases w with ⟨p, p0, ⟨v, w⟩ | ⟨pe, w⟩⟩ | w
    · obtain ⟨_, q, w1, w2⟩ := g_rc_i w cb
      rw [pc] at w1
      have ql := w2.1
      have g := rg N q ⟨p, p0, V0 p p0 v, w1⟩
      exact s3 q (by omega) ((mk q q2 g).mp w2) (Or.inl ((hA q (by omega) (by omega)).2.1 (Or.inl ⟨p, p0, Or.inl ⟨v, w1⟩⟩)))
    · obtain ⟨_, q, w2, w1⟩ := g_rs_i w
      rw [pc] at w1
      have ql := w2.1
      rcases w1 with w1 | ⟨w1, k, sx⟩
      · have g : sp < q := by
          obtain ⟨m, π, d, x, _⟩ := w1
          exact rg N q ⟨p, p0, pe, m, π, d, x⟩
        exact s3 q (by omega) ((mk q q2 g).mp w2) (Or.inl ((hA q (by omega) (by omega)).2.1 (Or.inl ⟨p, p0, Or.inr ⟨pe, w1⟩⟩)))
      · have g := rg N q ⟨p, p0, pe, w1⟩
        exact s3 q (by omega) ((mk q q2 g).mp w2) (Or.inr ⟨(hA q (by omega) (by omega)).1.mpr ⟨p, p0, pe, w1⟩, k, (eS _ _ _ g (by omega)).mp sx⟩)
    · obtain ⟨p, p2, m, π, d, d2, ⟨p0, pe⟩, ⟨p20, pe2⟩, w1, w2, j, j0, j1, jd⟩ := w
      have m0 : 0 < m := by
        rcases (by have := w1.1; omega : 0 < m ∨ m = 0) with y | y
        · exact y
        · have a := w1.2.1; have c := w1.2.2.1
          rw [y, a] at c; exact absurd c.symm cb
      obtain ⟨_, x1, x2⟩ := g_wk_p w1 m0
      obtain ⟨_, y1, y2⟩ := g_wk_p w2 m0
      rw [pc] at x1 y1
      have gx := rg N _ ⟨p, p0, pe, _, _, _, x1⟩
      have gy := rg N _ ⟨p2, p20, pe2, _, _, _, y1⟩
      have lx := x2.1; have ly := y2.1
      have ax := (hA _ (show 0 ≤ d (m - 1) from by omega) (by omega)).1.mpr ⟨p, p0, pe, _, _, _, x1⟩
      have ay := (hA _ (show 0 ≤ d2 (m - 1) from by omega) (by omega)).1.mpr ⟨p2, p20, pe2, _, _, _, y1⟩
      rcases Int.lt_trichotomy (d (m - 1)) (d2 (m - 1)) with z | z | z
      · exact s4 _ _ (by omega) z ax ay ((mk _ q2 gx).mp x2) ((mk _ q2 gy).mp y2)
      · have jm : j ≤ m - 1 := by
          rcases (by omega : j ≤ m - 1 ∨ j = m) with y | y
          · exact y
          · rw [y, w1.2.2.2.2.1, w2.2.2.2.2.1] at jd; exact absurd rfl jd
        rw [← z] at y1
        exact s3 _ (by omega) ((mk _ q2 gx).mp x2) (Or.inl ((hA _ (by omega) (by omega)).2.1 (Or.inr ⟨p, p2, m - 1, π, d, d2, ⟨p0, pe⟩, ⟨p20, pe2⟩, x1, y1, j, j0, jm, jd⟩)))
      · exact s4 _ _ (by omega) z ay ax ((mk _ q2 gy).mp y2) ((mk _ q2 gx).mp x2)
  · obtain ⟨q, qa, qb, qc⟩ := s1.mp z
    have ql := qc.1
    have g := (hA q qa (by omega)).2.2.2 qb
    have x := g_mk_b qc
    omega
/-- nothing is reached over a child when the step down gives nothing -/
theorem g_st_0 {nd len sp D b c N : Int} {row ky par fc sb aC aS : Int → Int} {Hs Ss : Int → Int → Int → Prop} {E V : Int → Prop} {A B : Int64} {b4 : Int → Int64} (tr : g_tr nd fc sb ky aC aS par) (b1 : 1 ≤ b) (c1 : 1 ≤ c) (pc : par c = N) (bN : b ≤ N) (cn : c < nd) (l59 : len ≤ 59) (s0 : 0 ≤ sp) (E0 : ∀ p : Int, 0 ≤ p → E p → sp < p)
    (eH : ∀ s q e : Int, sp < q → q < 60 → (Hs s q e ↔ g_H b4 s q e))
    (hA : ∀ q : Int, 0 ≤ q → q < 64 → (j_b A q ↔ g_re len row ky par Hs E b N q) ∧ (g_se len row ky par Hs Ss E V b N q → j_b B q) ∧ (j_b B q → j_b A q) ∧ (j_b A q → sp + 1 + D ≤ q ∧ q ≤ len)) (no : ∀ q e : Int, 0 ≤ q → 0 ≤ e → e < 64 → j_b A q → ¬ g_mk len row (g_H b4) (ky c) q e) : ∀ q : Int, ¬ g_re len row ky par Hs E b c q := by
  have hp := (tr.1 c c1 cn).2.1
  intro q2 ⟨p, p0, pe, w⟩
  obtain ⟨_, q, w1, w2⟩ := g_rc_i w (show c ≠ b from by omega)
  rw [pc] at w1
  have g : sp < q := by have := E0 p p0 pe; have := (g_rc_g w1).1; omega
  have ql := w2.1
  have x := g_mk_b w2
  exact no q q2 (by omega) (by omega) (by omega) ((hA q (by omega) (by omega)).1.mpr ⟨p, p0, pe, w1⟩) (g_mk_m w2 (fun _ y => (eH _ _ _ g (by omega)).mp y))
theorem g_RA_0 {nd len sp lim b : Int} {row ky par nof so fc sb aC aS mb : Int → Int} {In : Int → Prop} {Hs Ss : Int → Int → Int → Prop} {x y : Int64} {a4 b4 b5 : Int → Int64} (tr : g_tr nd fc sb ky aC aS par) (b1 : 1 ≤ b) (a : ∀ r : Int, 0 ≤ r → In r → r < lim → nof r = b → ∀ q : Int, 0 ≤ q → q < 64 → (j_b x q → g_H b4 (so r) sp q ∧ (g_H a4 (so r) sp q → g_H b5 (so r) sp q) ∧ (sp < q → q ≤ 59 → ¬ g_H b5 (so r) sp q → g_mb mb (so r) sp q = r)) ∧ (j_b y q → g_H b5 (so r) sp q)) (i0 : ∀ r, In r → 0 ≤ r) (mo : ∀ s q : Int, 0 ≤ q → q < 64 → Hs s sp q → g_H a4 s sp q) : g_RA len sp lim row ky par nof so In Hs Ss (fun p => p < 64 ∧ j_b x p) (fun p => p < 64 ∧ j_b y p) b b4 b5 mb b := fun r hr rl e q q0 q1 => by
  have hp : ∀ c : Int, 1 ≤ c → c < nd → 0 ≤ par c ∧ par c < c := fun c a e => ⟨(tr.1 c a e).1, (tr.1 c a e).2.1⟩
  have hq := tr.2.2.2.2.2.2
  have w := a r (i0 r hr) hr rl e q q0 q1
  refine ⟨fun ⟨p, p0, ⟨p1, p2⟩, k⟩ => ?_, fun k => ?_⟩
  · rw [← g_rc_b k hp hq (by omega)] at p2
    have v := w.1 p2
    exact ⟨v.1, fun z => v.2.1 (mo _ _ q0 q1 z), v.2.2⟩
  · rcases k with ⟨p, p0, ⟨⟨_, v⟩, k⟩ | ⟨_, k⟩⟩ | k
    · rw [← g_rc_b k hp hq (by omega)] at v; exact w.2 v
    · exact (g_rs_b k hp hq (by omega)).elim
    · exact (g_s2_b k hp hq (by omega)).elim
theorem g_RA_a {nd len sp lim rs b c : Int} {row ky par nof so lf mb mc : Int → Int} {In : Int → Prop} {Hs Ss : Int → Int → Int → Prop} {E V : Int → Prop} {x y : Int64} {b4 b5 c4 c5 : Int → Int64} (a : g_ad sp len rs lim c 0 x y b4 b5 c4 c5 mb mc lf so nof In) (i0 : ∀ r, In r → 0 ≤ r) (sd : ∀ q : Int, 0 ≤ q → q < 64 → (j_b x q ↔ g_re len row ky par Hs E b c q) ∧ (g_se len row ky par Hs Ss E V b c q → j_b y q) ∧ (j_b y q → j_b x q) ∧ (j_b x q → sp + 1 + (nd + 1) ≤ q ∧ q ≤ len)) (mo : ∀ s q : Int, 0 ≤ q → q < 64 → Hs s sp q → g_H b4 s sp q) : g_RA len sp lim row ky par nof so In Hs Ss E V b c4 c5 mc c := fun r hr rl e q q0 q1 => by
  have w := a.2.2.2.2 r (i0 r hr) hr rl e q q0 q1
  have v := sd q q0 q1
  exact ⟨fun k => by
    have u := w.1 (v.1.mpr k)
    exact ⟨u.1, fun z => u.2.1 (mo _ _ q0 q1 z), u.2.2⟩, fun k => w.2 (v.2.1 k)⟩
theorem g_xn {len b n q : Int} {row ky par : Int → Int} {Hs : Int → Int → Int → Prop} {x : Int64} {wi : Prop} (h : g_re len row ky par Hs (fun p => p < 64 ∧ j_b x p) b n q) (z : n ≠ b) : ∃ p : Int, 0 ≤ p ∧ p < 64 ∧ j_b x p ∧ (p < q ∨ (wi ∧ p = q)) := by
  obtain ⟨p, p0, ⟨p1, p2⟩, k⟩ := h
  exact ⟨p, p0, p1, p2, Or.inl ((g_rc_g k).2 z).1⟩
theorem g_xr {sp len b n q : Int} {row ky par : Int → Int} {Hs : Int → Int → Int → Prop} {x : Int64} {rc : Int → Int → Prop} (h : g_re len row ky par Hs (fun p => p < 64 ∧ j_b x p) b n q) (xs : ∀ p : Int, 0 ≤ p → p < 64 → j_b x p → sp < p) (r0 : ∀ e : Int, 0 ≤ e → e < 64 → j_b x e → rc b e) (cl : ∀ n c q q2 : Int, 1 ≤ c → par c = n → sp < q → rc n q → g_mk len row Hs (ky c) q q2 → rc c q2) : rc n q := by
  obtain ⟨p, p0, ⟨p1, p2⟩, k⟩ := h
  exact g_rc_c k (r0 p p0 p1 p2) (xs p p0 p1 p2) cl
/-- all ways of all rules behind node b are told in the cells -/
def g_wc (nd len sp lim : Int) (row ky par bn nof so : Int → Int) (In : Int → Prop) (Hs Ss : Int → Int → Int → Prop) (x y : Int64) (b : Int) (wi : Prop) (c4 c5 : Int → Int64) (mc : Int → Int) : Prop := ∀ (r m : Int) (π : Int → Int), In r → r < lim → 0 ≤ m → π 0 = b → π m = nof r → (∀ j : Int, 0 ≤ j → j < m → 1 ≤ π (j + 1) ∧ π (j + 1) < nd ∧ par (π (j + 1)) = π j ∧ bn (π (j + 1)) ≤ r) → bn b ≤ r → (nof r ≠ b ∨ wi) →
  ∀ d : Int → Int, ∀ p q : Int, 0 ≤ p → p < 64 → j_b x p → 0 ≤ q → q < 64 → d 0 = p → d m = q → (∀ j : Int, 0 ≤ j → j < m → g_mk len row Hs (ky (π (j + 1))) (d j) (d (j + 1))) → (g_H c4 (so r) sp q ∧ (Hs (so r) sp q → g_H c5 (so r) sp q) ∧ (sp < q → q ≤ 59 → ¬ g_H c5 (so r) sp q → g_mb mc (so r) sp q = r)) ∧ ((j_b y p ∨ ∃ j : Int, 0 ≤ j ∧ j < m ∧ ky (π (j + 1)) < 0 ∧ Ss (-1 - ky (π (j + 1))) (d j) (d (j + 1))) → g_H c5 (so r) sp q) ∧ ∀ (d2 : Int → Int) (p2 : Int), 0 ≤ p2 → p2 < 64 → j_b x p2 → d2 0 = p2 → d2 m = q → (∀ j : Int, 0 ≤ j → j < m → g_mk len row Hs (ky (π (j + 1))) (d2 j) (d2 (j + 1))) → (∃ j : Int, 0 ≤ j ∧ j ≤ m ∧ d j ≠ d2 j) → g_H c5 (so r) sp q
theorem g_wc_e {nd len sp lim D t b : Int} {row ky par bn nof so xs N vs mb : Int → Int} {In en : Int → Prop} {Hs Ss : Int → Int → Int → Prop} {x y : Int64} {wi : Prop} {b4 b5 b6 b7 : Int → Int64} (h : g_df nd len sp lim D t row ky par bn nof so xs N vs In en Hs Ss (fun p => p < 64 ∧ j_b x p) (fun p => p < 64 ∧ j_b y p) b wi b4 b5 b6 b7 mb) (z : D < 0) (yx : ∀ e : Int, 0 ≤ e → e < 64 → j_b y e → j_b x e) : g_wc nd len sp lim row ky par bn nof so In Hs Ss x y b wi b4 b5 mb := fun r m π hr rl m0 p0 pm hs _ w d p q p1 p2 px q0 q1 d0 dm mk => by
  have v := g_df_e h z r m π hr rl m0 p0 pm hs w d p q p1 ⟨p2, px⟩ q0 q1 d0 dm mk
  exact ⟨v.1, fun k => v.2.1 (k.elim (fun k => Or.inl ⟨p2, k⟩) Or.inr), fun d2 p3 a b c e f g k => v.2.2 d2 p3 a ⟨b, c⟩ e f g k⟩
set_option maxHeartbeats 8000000 in
theorem K_X1_walk {n1 : Int} {n2 : Int64} {n4 : Int64} {n6 : Int} {par nof : Int → Int} {In : Int → Prop} {σ : S0} (hT : c_T σ) (p1 : 1 ≤ n1) (p2 : n1 < (σ.1 45)) (p3 : par n1 = 0) (p4 : 0 ≤ n6 ∧ n6 ≤ 1) (p5 : J_all (σ.1 7) (σ.1 6) (σ.1 13) (σ.1 14) (σ.1 15) (σ.2.1 13) (σ.2.1 14) (σ.2.1 15) (σ.2.1 16) (σ.2.1 10) (σ.2.1 27) (σ.2.1 28) (σ.2.1 29) (σ.2.1 30) (σ.2.1 31) (σ.2.1 32) (σ.2.1 33) (σ.2.1 34) (σ.2.1 35) (σ.2.1 36) (σ.2.1 37)) (p6 : c_Rs σ par nof In) (p7 : (σ.1 53) < (σ.1 50)) (p8 : ∀ e : Int, 0 ≤ e → e < 64 → j_b n2 e → (σ.1 53) < e ∧ e ≤ (σ.1 50)) (p9 : ∀ e : Int, 0 ≤ e → e < 64 → j_b n4 e → j_b n2 e) (p10 : ∀ s q : Int, 0 ≤ s → s < 1000 → 0 ≤ q → q < 64 → (j_b (σ.2.2 3 s) q ↔ q < (σ.1 50) ∧ σ.2.1 77 q = s)) (p11 : ∀ s q e : Int, 0 ≤ s → s < (σ.1 4) → (σ.1 53) < q → q < (σ.1 50) → 0 ≤ e → e < 64 → (g_H (σ.2.2 4) s q e → q < e ∧ e ≤ (σ.1 50)) ∧ (g_H (σ.2.2 5) s q e → g_H (σ.2.2 4) s q e)) : W_X1_walk n1 n2 n4 n6 σ (fun (τ : S0) => (c_T τ) ∧ (g_wr (σ.1 53) (σ.1 50) (σ.1 4) (σ.1 51) (fun e => ∃ p : Int, 0 ≤ p ∧ p < 64 ∧ j_b n2 p ∧ (p < e ∨ (¬ n6 = 0 ∧ p = e))) (fun rn => ∃ rc : Int → Int → Prop, (∀ e : Int, 0 ≤ e → e < 64 → j_b n2 e → rc n1 e) ∧ (∀ n c q q2 : Int, 1 ≤ c → par c = n → (σ.1 53) < q → rc n q → g_mk (σ.1 50) (σ.2.1 77) (g_H (σ.2.2 4)) (σ.2.1 69 c) q q2 → rc c q2) ∧ ∀ n e : Int, rc n e → (n ≠ n1 ∨ ¬ n6 = 0) → rn n e) (σ.2.2 4) (σ.2.2 5) (τ.2.2 4) (τ.2.2 5) (σ.2.1 79) (τ.2.1 79) (σ.2.1 78) (g_so (σ.1 48) (σ.2.1 14) (σ.2.1 15) (σ.2.1 10)) nof In) ∧ (g_wc (σ.1 45) (σ.1 50) (σ.1 53) (σ.1 51) (σ.2.1 77) (σ.2.1 69) par (σ.2.1 70) nof (g_so (σ.1 48) (σ.2.1 14) (σ.2.1 15) (σ.2.1 10)) In (g_H (σ.2.2 4)) (g_H (σ.2.2 5)) n2 n4 n1 (¬ n6 = 0) (τ.2.2 4) (τ.2.2 5) (τ.2.1 79))) := by
  have A10 : ∀ j, (-1) ≤ σ.2.1 10 j ∧ σ.2.1 10 j ≤ 99 := fun j => hT.2 10 j
  have A13 : ∀ j, 0 ≤ σ.2.1 13 j ∧ σ.2.1 13 j ≤ 4 := fun j => hT.2 13 j
  have A14 : ∀ j, 0 ≤ σ.2.1 14 j ∧ σ.2.1 14 j ≤ 30000 := fun j => hT.2 14 j
  have A15 : ∀ j, 0 ≤ σ.2.1 15 j ∧ σ.2.1 15 j ≤ 999 := fun j => hT.2 15 j
  have A16 : ∀ j, (-1) ≤ σ.2.1 16 j ∧ σ.2.1 16 j ≤ 1499 := fun j => hT.2 16 j
  have A27 : ∀ j, 0 ≤ σ.2.1 27 j ∧ σ.2.1 27 j ≤ 90000 := fun j => hT.2 27 j
  have A28 : ∀ j, 0 ≤ σ.2.1 28 j ∧ σ.2.1 28 j ≤ 60 := fun j => hT.2 28 j
  have A29 : ∀ j, 0 ≤ σ.2.1 29 j ∧ σ.2.1 29 j ≤ 1499 := fun j => hT.2 29 j
  have A30 : ∀ j, 0 ≤ σ.2.1 30 j ∧ σ.2.1 30 j ≤ 20000 := fun j => hT.2 30 j
  have A31 : ∀ j, 0 ≤ σ.2.1 31 j ∧ σ.2.1 31 j ≤ 20000 := fun j => hT.2 31 j
  have A32 : ∀ j, 0 ≤ σ.2.1 32 j ∧ σ.2.1 32 j ≤ 999999 := fun j => hT.2 32 j
  have A33 : ∀ j, 0 ≤ σ.2.1 33 j ∧ σ.2.1 33 j ≤ 20000 := fun j => hT.2 33 j
  have A34 : ∀ j, 0 ≤ σ.2.1 34 j ∧ σ.2.1 34 j ≤ 20000 := fun j => hT.2 34 j
  have A35 : ∀ j, 0 ≤ σ.2.1 35 j ∧ σ.2.1 35 j ≤ 1499 := fun j => hT.2 35 j
  have A36 : ∀ j, 0 ≤ σ.2.1 36 j ∧ σ.2.1 36 j ≤ 20000 := fun j => hT.2 36 j
  have A37 : ∀ j, 0 ≤ σ.2.1 37 j ∧ σ.2.1 37 j ≤ 19999 := fun j => hT.2 37 j
  have A67 : ∀ j, 0 ≤ σ.2.1 67 j ∧ σ.2.1 67 j ≤ 30000 := fun j => hT.2 67 j
  have A68 : ∀ j, 0 ≤ σ.2.1 68 j ∧ σ.2.1 68 j ≤ 30000 := fun j => hT.2 68 j
  have A69 : ∀ j, (-100) ≤ σ.2.1 69 j ∧ σ.2.1 69 j ≤ 999 := fun j => hT.2 69 j
  have A70 : ∀ j, 0 ≤ σ.2.1 70 j ∧ σ.2.1 70 j ≤ 1499 := fun j => hT.2 70 j
  have A77 : ∀ j, 0 ≤ σ.2.1 77 j ∧ σ.2.1 77 j ≤ 999 := fun j => hT.2 77 j
  have A78 : ∀ j, (-1) ≤ σ.2.1 78 j ∧ σ.2.1 78 j ≤ 1499 := fun j => hT.2 78 j
  have A79 : ∀ j, 0 ≤ σ.2.1 79 j ∧ σ.2.1 79 j ≤ 1499 := fun j => hT.2 79 j
  have A80 : ∀ j, 0 ≤ σ.2.1 80 j ∧ σ.2.1 80 j ≤ 30000 := fun j => hT.2 80 j
  have v4 : 0 ≤ σ.1 4 ∧ σ.1 4 ≤ 100 := hT.1 4
  have v6 : 0 ≤ σ.1 6 ∧ σ.1 6 ≤ 30000 := hT.1 6
  have v7 : 0 ≤ σ.1 7 ∧ σ.1 7 ≤ 1500 := hT.1 7
  have v13 : 0 ≤ σ.1 13 ∧ σ.1 13 ≤ 90000 := hT.1 13
  have v14 : 0 ≤ σ.1 14 ∧ σ.1 14 ≤ 20000 := hT.1 14
  have v15 : 0 ≤ σ.1 15 ∧ σ.1 15 ≤ 20000 := hT.1 15
  have v45 : 1 ≤ σ.1 45 ∧ σ.1 45 ≤ 30001 := hT.1 45
  have v48 : (-1) ≤ σ.1 48 ∧ σ.1 48 ≤ 999 := hT.1 48
  have v50 : 0 ≤ σ.1 50 ∧ σ.1 50 ≤ 59 := hT.1 50
  have v51 : 0 ≤ σ.1 51 ∧ σ.1 51 ≤ 1500 := hT.1 51
  have v53 : 0 ≤ σ.1 53 ∧ σ.1 53 ≤ 58 := hT.1 53
  have W4 : σ.1 4 = σ.1 4 := rfl
  have W6 : σ.1 6 = σ.1 6 := rfl
  have W7 : σ.1 7 = σ.1 7 := rfl
  have W13 : σ.1 13 = σ.1 13 := rfl
  have W14 : σ.1 14 = σ.1 14 := rfl
  have W15 : σ.1 15 = σ.1 15 := rfl
  have W45 : σ.1 45 = σ.1 45 := rfl
  have W48 : σ.1 48 = σ.1 48 := rfl
  have W50 : σ.1 50 = σ.1 50 := rfl
  have W51 : σ.1 51 = σ.1 51 := rfl
  have W53 : σ.1 53 = σ.1 53 := rfl
  have G10 : σ.2.1 10 = σ.2.1 10 := rfl
  have G13 : σ.2.1 13 = σ.2.1 13 := rfl
  have G14 : σ.2.1 14 = σ.2.1 14 := rfl
  have G15 : σ.2.1 15 = σ.2.1 15 := rfl
  have G16 : σ.2.1 16 = σ.2.1 16 := rfl
  have G27 : σ.2.1 27 = σ.2.1 27 := rfl
  have G28 : σ.2.1 28 = σ.2.1 28 := rfl
  have G29 : σ.2.1 29 = σ.2.1 29 := rfl
  have G30 : σ.2.1 30 = σ.2.1 30 := rfl
  have G31 : σ.2.1 31 = σ.2.1 31 := rfl
  have G32 : σ.2.1 32 = σ.2.1 32 := rfl
  have G33 : σ.2.1 33 = σ.2.1 33 := rfl
  have G34 : σ.2.1 34 = σ.2.1 34 := rfl
  have G35 : σ.2.1 35 = σ.2.1 35 := rfl
  have G36 : σ.2.1 36 = σ.2.1 36 := rfl
  have G37 : σ.2.1 37 = σ.2.1 37 := rfl
  have G67 : σ.2.1 67 = σ.2.1 67 := rfl
  have G68 : σ.2.1 68 = σ.2.1 68 := rfl
  have G69 : σ.2.1 69 = σ.2.1 69 := rfl
  have G70 : σ.2.1 70 = σ.2.1 70 := rfl
  have G77 : σ.2.1 77 = σ.2.1 77 := rfl
  have G78 : σ.2.1 78 = σ.2.1 78 := rfl
  intro P30 P66 h30 h66
  have ug := p6.1
  have tr := ug.1
  have ru := ug.2.1
  have i0 := fun r hr => (ru.2.1 r hr).1.1
  have CJ : J_all (σ.1 7) (σ.1 6) (σ.1 13) (σ.1 14) (σ.1 15) (σ.2.1 13) (σ.2.1 14) (σ.2.1 15) (σ.2.1 16) (σ.2.1 10) (σ.2.1 27) (σ.2.1 28) (σ.2.1 29) (σ.2.1 30) (σ.2.1 31) (σ.2.1 32) (σ.2.1 33) (σ.2.1 34) (σ.2.1 35) (σ.2.1 36) (σ.2.1 37) := p5
  have CJ_0 := CJ
  have l_66 : ∀ (m_66 : Nat) (u7_66 : Int) (u8_66 : Int) (τ_66 : S0), 1000001 - u8_66 < (m_66 : Int) → (c_T τ_66) → (τ_66.1 4 = σ.1 4) → (τ_66.1 6 = σ.1 6) → (τ_66.1 7 = σ.1 7) → (τ_66.1 13 = σ.1 13) → (τ_66.1 14 = σ.1 14) → (τ_66.1 15 = σ.1 15) → (τ_66.1 45 = σ.1 45) → (τ_66.1 48 = σ.1 48) → (τ_66.1 50 = σ.1 50) → (τ_66.1 51 = σ.1 51) → (τ_66.1 53 = σ.1 53) → (τ_66.2.1 10 = σ.2.1 10) → (τ_66.2.1 13 = σ.2.1 13) → (τ_66.2.1 14 = σ.2.1 14) → (τ_66.2.1 15 = σ.2.1 15) → (τ_66.2.1 16 = σ.2.1 16) → (τ_66.2.1 27 = σ.2.1 27) → (τ_66.2.1 28 = σ.2.1 28) → (τ_66.2.1 29 = σ.2.1 29) → (τ_66.2.1 30 = σ.2.1 30) → (τ_66.2.1 31 = σ.2.1 31) → (τ_66.2.1 32 = σ.2.1 32) → (τ_66.2.1 33 = σ.2.1 33) → (τ_66.2.1 34 = σ.2.1 34) → (τ_66.2.1 35 = σ.2.1 35) → (τ_66.2.1 36 = σ.2.1 36) → (τ_66.2.1 37 = σ.2.1 37) → (τ_66.2.1 67 = σ.2.1 67) → (τ_66.2.1 68 = σ.2.1 68) → (τ_66.2.1 69 = σ.2.1 69) → (τ_66.2.1 70 = σ.2.1 70) → (τ_66.2.1 77 = σ.2.1 77) → (τ_66.2.1 78 = σ.2.1 78) → (-1 ≤ u7_66) → (0 ≤ u8_66 ∧ u8_66 ≤ 1000000) → (g_wr (σ.1 53) (σ.1 50) (σ.1 4) (σ.1 51) (fun e => ∃ p : Int, 0 ≤ p ∧ p < 64 ∧ j_b n2 p ∧ (p < e ∨ (¬ n6 = 0 ∧ p = e))) (fun rn => ∃ rc : Int → Int → Prop, (∀ e : Int, 0 ≤ e → e < 64 → j_b n2 e → rc n1 e) ∧ (∀ n c q q2 : Int, 1 ≤ c → par c = n → (σ.1 53) < q → rc n q → g_mk (σ.1 50) (σ.2.1 77) (g_H (σ.2.2 4)) (σ.2.1 69 c) q q2 → rc c q2) ∧ ∀ n e : Int, rc n e → (n ≠ n1 ∨ ¬ n6 = 0) → rn n e) (σ.2.2 4) (σ.2.2 5) (τ_66.2.2 4) (τ_66.2.2 5) (σ.2.1 79) (τ_66.2.1 79) (σ.2.1 78) (g_so (σ.1 48) (σ.2.1 14) (σ.2.1 15) (σ.2.1 10)) nof In) → (∃ N vs : Int → Int, ∃ en : Int → Prop, g_df (σ.1 45) (σ.1 50) (σ.1 53) (σ.1 51) u7_66 u8_66 (σ.2.1 77) (σ.2.1 69) par (σ.2.1 70) nof (g_so (σ.1 48) (σ.2.1 14) (σ.2.1 15) (σ.2.1 10)) (τ_66.2.1 80) N vs In en (g_H (σ.2.2 4)) (g_H (σ.2.2 5)) (fun p => p < 64 ∧ j_b n2 p) (fun p => p < 64 ∧ j_b n4 p) n1 (¬ n6 = 0) (τ_66.2.2 4) (τ_66.2.2 5) (τ_66.2.2 6) (τ_66.2.2 7) (τ_66.2.1 79)) → (c_Rs τ_66 par nof In) → (τ_66.2.2 3 = σ.2.2 3) → P66 u7_66 u8_66 τ_66 := by
    intro m_66
    induction m_66 with
    | zero =>
      intro u7_66 u8_66 τ_66 hm hT W4 W6 W7 W13 W14 W15 W45 W48 W50 W51 W53 G10 G13 G14 G15 G16 G27 G28 G29 G30 G31 G32 G33 G34 G35 G36 G37 G67 G68 G69 G70 G77 G78 i66_1 i66_2 i66_3 i66_4 i66_5 i66_6
      have A10 : ∀ j, (-1) ≤ τ_66.2.1 10 j ∧ τ_66.2.1 10 j ≤ 99 := fun j => hT.2 10 j
      have A13 : ∀ j, 0 ≤ τ_66.2.1 13 j ∧ τ_66.2.1 13 j ≤ 4 := fun j => hT.2 13 j
      have A14 : ∀ j, 0 ≤ τ_66.2.1 14 j ∧ τ_66.2.1 14 j ≤ 30000 := fun j => hT.2 14 j
      have A15 : ∀ j, 0 ≤ τ_66.2.1 15 j ∧ τ_66.2.1 15 j ≤ 999 := fun j => hT.2 15 j
      have A16 : ∀ j, (-1) ≤ τ_66.2.1 16 j ∧ τ_66.2.1 16 j ≤ 1499 := fun j => hT.2 16 j
      have A27 : ∀ j, 0 ≤ τ_66.2.1 27 j ∧ τ_66.2.1 27 j ≤ 90000 := fun j => hT.2 27 j
      have A28 : ∀ j, 0 ≤ τ_66.2.1 28 j ∧ τ_66.2.1 28 j ≤ 60 := fun j => hT.2 28 j
      have A29 : ∀ j, 0 ≤ τ_66.2.1 29 j ∧ τ_66.2.1 29 j ≤ 1499 := fun j => hT.2 29 j
      have A30 : ∀ j, 0 ≤ τ_66.2.1 30 j ∧ τ_66.2.1 30 j ≤ 20000 := fun j => hT.2 30 j
      have A31 : ∀ j, 0 ≤ τ_66.2.1 31 j ∧ τ_66.2.1 31 j ≤ 20000 := fun j => hT.2 31 j
      have A32 : ∀ j, 0 ≤ τ_66.2.1 32 j ∧ τ_66.2.1 32 j ≤ 999999 := fun j => hT.2 32 j
      have A33 : ∀ j, 0 ≤ τ_66.2.1 33 j ∧ τ_66.2.1 33 j ≤ 20000 := fun j => hT.2 33 j
      have A34 : ∀ j, 0 ≤ τ_66.2.1 34 j ∧ τ_66.2.1 34 j ≤ 20000 := fun j => hT.2 34 j
      have A35 : ∀ j, 0 ≤ τ_66.2.1 35 j ∧ τ_66.2.1 35 j ≤ 1499 := fun j => hT.2 35 j
      have A36 : ∀ j, 0 ≤ τ_66.2.1 36 j ∧ τ_66.2.1 36 j ≤ 20000 := fun j => hT.2 36 j
      have A37 : ∀ j, 0 ≤ τ_66.2.1 37 j ∧ τ_66.2.1 37 j ≤ 19999 := fun j => hT.2 37 j
      have A67 : ∀ j, 0 ≤ τ_66.2.1 67 j ∧ τ_66.2.1 67 j ≤ 30000 := fun j => hT.2 67 j
      have A68 : ∀ j, 0 ≤ τ_66.2.1 68 j ∧ τ_66.2.1 68 j ≤ 30000 := fun j => hT.2 68 j
      have A69 : ∀ j, (-100) ≤ τ_66.2.1 69 j ∧ τ_66.2.1 69 j ≤ 999 := fun j => hT.2 69 j
      have A70 : ∀ j, 0 ≤ τ_66.2.1 70 j ∧ τ_66.2.1 70 j ≤ 1499 := fun j => hT.2 70 j
      have A77 : ∀ j, 0 ≤ τ_66.2.1 77 j ∧ τ_66.2.1 77 j ≤ 999 := fun j => hT.2 77 j
      have A78 : ∀ j, (-1) ≤ τ_66.2.1 78 j ∧ τ_66.2.1 78 j ≤ 1499 := fun j => hT.2 78 j
      have A79 : ∀ j, 0 ≤ τ_66.2.1 79 j ∧ τ_66.2.1 79 j ≤ 1499 := fun j => hT.2 79 j
      have A80 : ∀ j, 0 ≤ τ_66.2.1 80 j ∧ τ_66.2.1 80 j ≤ 30000 := fun j => hT.2 80 j
      have v4 : 0 ≤ τ_66.1 4 ∧ τ_66.1 4 ≤ 100 := hT.1 4
      have v6 : 0 ≤ τ_66.1 6 ∧ τ_66.1 6 ≤ 30000 := hT.1 6
      have v7 : 0 ≤ τ_66.1 7 ∧ τ_66.1 7 ≤ 1500 := hT.1 7
      have v13 : 0 ≤ τ_66.1 13 ∧ τ_66.1 13 ≤ 90000 := hT.1 13
      have v14 : 0 ≤ τ_66.1 14 ∧ τ_66.1 14 ≤ 20000 := hT.1 14
      have v15 : 0 ≤ τ_66.1 15 ∧ τ_66.1 15 ≤ 20000 := hT.1 15
      have v45 : 1 ≤ τ_66.1 45 ∧ τ_66.1 45 ≤ 30001 := hT.1 45
      have v48 : (-1) ≤ τ_66.1 48 ∧ τ_66.1 48 ≤ 999 := hT.1 48
      have v50 : 0 ≤ τ_66.1 50 ∧ τ_66.1 50 ≤ 59 := hT.1 50
      have v51 : 0 ≤ τ_66.1 51 ∧ τ_66.1 51 ≤ 1500 := hT.1 51
      have v53 : 0 ≤ τ_66.1 53 ∧ τ_66.1 53 ≤ 58 := hT.1 53
      exfalso; (first | omega | (simp only [st_s] <;> omega) | assumption | omega | fail)
    | succ m_66 ih_66 =>
      intro u7_66 u8_66 τ_66 hm_66 hT W4 W6 W7 W13 W14 W15 W45 W48 W50 W51 W53 G10 G13 G14 G15 G16 G27 G28 G29 G30 G31 G32 G33 G34 G35 G36 G37 G67 G68 G69 G70 G77 G78 i66_1 i66_2 i66_3 i66_4 i66_5 i66_6
      have A10 : ∀ j, (-1) ≤ τ_66.2.1 10 j ∧ τ_66.2.1 10 j ≤ 99 := fun j => hT.2 10 j
      have A13 : ∀ j, 0 ≤ τ_66.2.1 13 j ∧ τ_66.2.1 13 j ≤ 4 := fun j => hT.2 13 j
      have A14 : ∀ j, 0 ≤ τ_66.2.1 14 j ∧ τ_66.2.1 14 j ≤ 30000 := fun j => hT.2 14 j
      have A15 : ∀ j, 0 ≤ τ_66.2.1 15 j ∧ τ_66.2.1 15 j ≤ 999 := fun j => hT.2 15 j
      have A16 : ∀ j, (-1) ≤ τ_66.2.1 16 j ∧ τ_66.2.1 16 j ≤ 1499 := fun j => hT.2 16 j
      have A27 : ∀ j, 0 ≤ τ_66.2.1 27 j ∧ τ_66.2.1 27 j ≤ 90000 := fun j => hT.2 27 j
      have A28 : ∀ j, 0 ≤ τ_66.2.1 28 j ∧ τ_66.2.1 28 j ≤ 60 := fun j => hT.2 28 j
      have A29 : ∀ j, 0 ≤ τ_66.2.1 29 j ∧ τ_66.2.1 29 j ≤ 1499 := fun j => hT.2 29 j
      have A30 : ∀ j, 0 ≤ τ_66.2.1 30 j ∧ τ_66.2.1 30 j ≤ 20000 := fun j => hT.2 30 j
      have A31 : ∀ j, 0 ≤ τ_66.2.1 31 j ∧ τ_66.2.1 31 j ≤ 20000 := fun j => hT.2 31 j
      have A32 : ∀ j, 0 ≤ τ_66.2.1 32 j ∧ τ_66.2.1 32 j ≤ 999999 := fun j => hT.2 32 j
      have A33 : ∀ j, 0 ≤ τ_66.2.1 33 j ∧ τ_66.2.1 33 j ≤ 20000 := fun j => hT.2 33 j
      have A34 : ∀ j, 0 ≤ τ_66.2.1 34 j ∧ τ_66.2.1 34 j ≤ 20000 := fun j => hT.2 34 j
      have A35 : ∀ j, 0 ≤ τ_66.2.1 35 j ∧ τ_66.2.1 35 j ≤ 1499 := fun j => hT.2 35 j
      have A36 : ∀ j, 0 ≤ τ_66.2.1 36 j ∧ τ_66.2.1 36 j ≤ 20000 := fun j => hT.2 36 j
      have A37 : ∀ j, 0 ≤ τ_66.2.1 37 j ∧ τ_66.2.1 37 j ≤ 19999 := fun j => hT.2 37 j
      have A67 : ∀ j, 0 ≤ τ_66.2.1 67 j ∧ τ_66.2.1 67 j ≤ 30000 := fun j => hT.2 67 j
      have A68 : ∀ j, 0 ≤ τ_66.2.1 68 j ∧ τ_66.2.1 68 j ≤ 30000 := fun j => hT.2 68 j
      have A69 : ∀ j, (-100) ≤ τ_66.2.1 69 j ∧ τ_66.2.1 69 j ≤ 999 := fun j => hT.2 69 j
      have A70 : ∀ j, 0 ≤ τ_66.2.1 70 j ∧ τ_66.2.1 70 j ≤ 1499 := fun j => hT.2 70 j
      have A77 : ∀ j, 0 ≤ τ_66.2.1 77 j ∧ τ_66.2.1 77 j ≤ 999 := fun j => hT.2 77 j
      have A78 : ∀ j, (-1) ≤ τ_66.2.1 78 j ∧ τ_66.2.1 78 j ≤ 1499 := fun j => hT.2 78 j
      have A79 : ∀ j, 0 ≤ τ_66.2.1 79 j ∧ τ_66.2.1 79 j ≤ 1499 := fun j => hT.2 79 j
      have A80 : ∀ j, 0 ≤ τ_66.2.1 80 j ∧ τ_66.2.1 80 j ≤ 30000 := fun j => hT.2 80 j
      have v4 : 0 ≤ τ_66.1 4 ∧ τ_66.1 4 ≤ 100 := hT.1 4
      have v6 : 0 ≤ τ_66.1 6 ∧ τ_66.1 6 ≤ 30000 := hT.1 6
      have v7 : 0 ≤ τ_66.1 7 ∧ τ_66.1 7 ≤ 1500 := hT.1 7
      have v13 : 0 ≤ τ_66.1 13 ∧ τ_66.1 13 ≤ 90000 := hT.1 13
      have v14 : 0 ≤ τ_66.1 14 ∧ τ_66.1 14 ≤ 20000 := hT.1 14
      have v15 : 0 ≤ τ_66.1 15 ∧ τ_66.1 15 ≤ 20000 := hT.1 15
      have v45 : 1 ≤ τ_66.1 45 ∧ τ_66.1 45 ≤ 30001 := hT.1 45
      have v48 : (-1) ≤ τ_66.1 48 ∧ τ_66.1 48 ≤ 999 := hT.1 48
      have v50 : 0 ≤ τ_66.1 50 ∧ τ_66.1 50 ≤ 59 := hT.1 50
      have v51 : 0 ≤ τ_66.1 51 ∧ τ_66.1 51 ≤ 1500 := hT.1 51
      have v53 : 0 ≤ τ_66.1 53 ∧ τ_66.1 53 ≤ 58 := hT.1 53
      have CJ : J_all (τ_66.1 7) (τ_66.1 6) (τ_66.1 13) (τ_66.1 14) (τ_66.1 15) (τ_66.2.1 13) (τ_66.2.1 14) (τ_66.2.1 15) (τ_66.2.1 16) (τ_66.2.1 10) (τ_66.2.1 27) (τ_66.2.1 28) (τ_66.2.1 29) (τ_66.2.1 30) (τ_66.2.1 31) (τ_66.2.1 32) (τ_66.2.1 33) (τ_66.2.1 34) (τ_66.2.1 35) (τ_66.2.1 36) (τ_66.2.1 37) := by rw [show (J_all (τ_66.1 7) (τ_66.1 6) (τ_66.1 13) (τ_66.1 14) (τ_66.1 15) (τ_66.2.1 13) (τ_66.2.1 14) (τ_66.2.1 15) (τ_66.2.1 16) (τ_66.2.1 10) (τ_66.2.1 27) (τ_66.2.1 28) (τ_66.2.1 29) (τ_66.2.1 30) (τ_66.2.1 31) (τ_66.2.1 32) (τ_66.2.1 33) (τ_66.2.1 34) (τ_66.2.1 35) (τ_66.2.1 36) (τ_66.2.1 37)) = (J_all (σ.1 7) (σ.1 6) (σ.1 13) (σ.1 14) (σ.1 15) (σ.2.1 13) (σ.2.1 14) (σ.2.1 15) (σ.2.1 16) (σ.2.1 10) (σ.2.1 27) (σ.2.1 28) (σ.2.1 29) (σ.2.1 30) (σ.2.1 31) (σ.2.1 32) (σ.2.1 33) (σ.2.1 34) (σ.2.1 35) (σ.2.1 36) (σ.2.1 37)) from by rw [W6, W7, W13, W14, W15, G10, G13, G14, G15, G16, G27, G28, G29, G30, G31, G32, G33, G34, G35, G36, G37]]; exact CJ_0
      refine h66 u7_66 u8_66 τ_66 ?_
      refine ⟨fun c10 => ?_, fun c10 => ?_⟩
      ·
        exact ⟨hT, (show g_wr (σ.1 53) (σ.1 50) (σ.1 4) (σ.1 51) (fun e => ∃ p : Int, 0 ≤ p ∧ p < 64 ∧ j_b n2 p ∧ (p < e ∨ (¬ n6 = 0 ∧ p = e))) (fun rn => ∃ rc : Int → Int → Prop, (∀ e : Int, 0 ≤ e → e < 64 → j_b n2 e → rc n1 e) ∧ (∀ n c q q2 : Int, 1 ≤ c → par c = n → (σ.1 53) < q → rc n q → g_mk (σ.1 50) (σ.2.1 77) (g_H (σ.2.2 4)) (σ.2.1 69 c) q q2 → rc c q2) ∧ ∀ n e : Int, rc n e → (n ≠ n1 ∨ ¬ n6 = 0) → rn n e) (σ.2.2 4) (σ.2.2 5) (τ_66.2.2 4) (τ_66.2.2 5) (σ.2.1 79) (τ_66.2.1 79) (σ.2.1 78) (g_so (σ.1 48) (σ.2.1 14) (σ.2.1 15) (σ.2.1 10)) nof In from by (first | exact g_wr0 _ _ _ _ _ _ _ _ _ _ _ _ _ | exact i66_3 | fail)), (show g_wc (σ.1 45) (σ.1 50) (σ.1 53) (σ.1 51) (σ.2.1 77) (σ.2.1 69) par (σ.2.1 70) nof (g_so (σ.1 48) (σ.2.1 14) (σ.2.1 15) (σ.2.1 10)) In (g_H (σ.2.2 4)) (g_H (σ.2.2 5)) n2 n4 n1 (¬ n6 = 0) (τ_66.2.2 4) (τ_66.2.2 5) (τ_66.2.1 79) from by (first | (have q9 := i66_4; obtain ⟨N, vs, en, df⟩ := q9; exact g_wc_e df (by omega) p9) | (exfalso; have q9 := i66_4; obtain ⟨N, vs, en, df⟩ := q9; have w := df.2.2.2.2; have v := (ca_b vs (n := σ.1 45) (by omega)).2; omega) | (intro r m π hr rl m0 p0 pm hs bb w; exfalso; rw [← e_x2] at bb; omega) | fail))⟩
      ·
        refine ⟨fun c11 => ?_, fun c11 => ?_⟩
        ·
          exact ⟨hT, (show g_wr (σ.1 53) (σ.1 50) (σ.1 4) (σ.1 51) (fun e => ∃ p : Int, 0 ≤ p ∧ p < 64 ∧ j_b n2 p ∧ (p < e ∨ (¬ n6 = 0 ∧ p = e))) (fun rn => ∃ rc : Int → Int → Prop, (∀ e : Int, 0 ≤ e → e < 64 → j_b n2 e → rc n1 e) ∧ (∀ n c q q2 : Int, 1 ≤ c → par c = n → (σ.1 53) < q → rc n q → g_mk (σ.1 50) (σ.2.1 77) (g_H (σ.2.2 4)) (σ.2.1 69 c) q q2 → rc c q2) ∧ ∀ n e : Int, rc n e → (n ≠ n1 ∨ ¬ n6 = 0) → rn n e) (σ.2.2 4) (σ.2.2 5) (τ_66.2.2 4) (τ_66.2.2 5) (σ.2.1 79) (τ_66.2.1 79) (σ.2.1 78) (g_so (σ.1 48) (σ.2.1 14) (σ.2.1 15) (σ.2.1 10)) nof In from by (first | exact g_wr0 _ _ _ _ _ _ _ _ _ _ _ _ _ | exact i66_3 | fail)), (show g_wc (σ.1 45) (σ.1 50) (σ.1 53) (σ.1 51) (σ.2.1 77) (σ.2.1 69) par (σ.2.1 70) nof (g_so (σ.1 48) (σ.2.1 14) (σ.2.1 15) (σ.2.1 10)) In (g_H (σ.2.2 4)) (g_H (σ.2.2 5)) n2 n4 n1 (¬ n6 = 0) (τ_66.2.2 4) (τ_66.2.2 5) (τ_66.2.1 79) from by (first | (have q9 := i66_4; obtain ⟨N, vs, en, df⟩ := q9; exact g_wc_e df (by omega) p9) | (exfalso; have q9 := i66_4; obtain ⟨N, vs, en, df⟩ := q9; have w := df.2.2.2.2; have v := (ca_b vs (n := σ.1 45) (by omega)).2; omega) | (intro r m π hr rl m0 p0 pm hs bb w; exfalso; rw [← e_x2] at bb; omega) | fail))⟩
        ·
          obtain ⟨N, vs, en, df⟩ := i66_4
          have lv := df.2.1 u7_66 (by omega) (Int.le_refl _)
          have hA := lv.2.2.2.1
          have u58 : u7_66 ≤ 58 := by (by_cases z : 0 < u7_66); (obtain ⟨q, q0, q1, q2⟩ := lv.2.2.2.2.1 z; have w := (hA q q0 q1).2.2.2 q2; omega); omega
          have eH : ∀ s q e : Int, σ.1 53 < q → q < 60 → (g_H (σ.2.2 4) s q e ↔ g_H (τ_66.2.2 4) s q e) := fun s q e a b => (i66_3.1 s q e (by omega) b (by omega)).1.symm
          have eS : ∀ s q e : Int, σ.1 53 < q → q < 60 → (g_H (σ.2.2 5) s q e ↔ g_H (τ_66.2.2 5) s q e) := fun s q e a b => (i66_3.1 s q e (by omega) b (by omega)).2.symm
          have E0 : ∀ p : Int, 0 ≤ p → (p < 64 ∧ j_b n2 p) → σ.1 53 < p := fun p a b => (p8 p a b.1 b.2).1
          have V0 : ∀ p : Int, 0 ≤ p → (p < 64 ∧ j_b n4 p) → (p < 64 ∧ j_b n2 p) := fun p a b => ⟨b.1, p9 p a b.1 b.2⟩
          have o50 := W50
          have o69 := G69
          have o77 := G77
          refine ⟨(show 0 ≤ u7_66 ∧ u7_66 < 61 from by (first | omega | (simp only [st_s] <;> omega) | assumption | omega | fail)), ?_⟩
          intro x13 r_x13 e_x13
          have b_x13 : 0 ≤ x13 ∧ x13 ≤ 30000 := by rw [e_x13]; exact hT.2 80 _
          refine ⟨fun c14 => ?_, fun c14 => ?_⟩
          ·
            have x0 : 0 < x13 := by omega
            have lx := lv.2.1
            rw [← e_x13] at lx
            have px := lx.2 x0
            have xn1 : x13 ≠ n1 := by have w1 := lv.1.1; have w2 := (tr.1 x13 (by omega) lx.1).2.1; omega
            refine ⟨(show 0 ≤ x13 ∧ x13 < 30001 from by (first | omega | (simp only [st_s] <;> omega) | assumption | omega | fail)), ?_⟩
            intro x16 r_x16 e_x16
            have b_x16 : 0 ≤ x16 ∧ x16 ≤ 30000 := by rw [e_x16]; exact hT.2 68 _
            rw [G68] at e_x16
            replace hT := cT_a (k := 80) (j := u7_66) hT (show (0 : Int) ≤ x16 ∧ x16 ≤ 30000 from by (first | omega | (simp only [st_s] <;> omega) | assumption | omega | fail))
            intro x17 r_x17 e_x17
            have b_x17 : 0 ≤ x17 ∧ x17 ≤ 1499 := by rw [e_x17]; exact hT.2 70 _
            rw [G70] at e_x17
            refine ⟨fun c18 => ?_, fun c18 => ?_⟩
            ·
              refine ⟨(⟨by (first | omega | (simp only [st_s] <;> omega) | assumption | omega | fail), by (first | omega | (simp only [st_s] <;> omega) | assumption | omega | fail)⟩ : rg (u8_66 + 1)), ?_⟩
              exact ih_66 _ _ _ (show (1000001 - (u8_66 + 1) : Int) < ((m_66 : Nat) : Int) from by ((first | omega | (simp only [st_s] <;> omega) | assumption | omega | fail))) hT (show τ_66.1 4 = σ.1 4 from by first | exact W4 | omega) (show τ_66.1 6 = σ.1 6 from by first | exact W6 | omega) (show τ_66.1 7 = σ.1 7 from by first | exact W7 | omega) (show τ_66.1 13 = σ.1 13 from by first | exact W13 | omega) (show τ_66.1 14 = σ.1 14 from by first | exact W14 | omega) (show τ_66.1 15 = σ.1 15 from by first | exact W15 | omega) (show τ_66.1 45 = σ.1 45 from by first | exact W45 | omega) (show τ_66.1 48 = σ.1 48 from by first | exact W48 | omega) (show τ_66.1 50 = σ.1 50 from by first | exact W50 | omega) (show τ_66.1 51 = σ.1 51 from by first | exact W51 | omega) (show τ_66.1 53 = σ.1 53 from by first | exact W53 | omega) G10 G13 G14 G15 G16 G27 G28 G29 G30 G31 G32 G33 G34 G35 G36 G37 G67 G68 G69 G70 G77 G78 (show -1 ≤ u7_66 from by (first | omega | (simp only [st_s] <;> omega) | assumption | omega | fail)) (show 0 ≤ (u8_66 + 1) ∧ (u8_66 + 1) ≤ 1000000 from by (first | omega | (simp only [st_s] <;> omega) | assumption | omega | fail)) (show g_wr (σ.1 53) (σ.1 50) (σ.1 4) (σ.1 51) (fun e => ∃ p : Int, 0 ≤ p ∧ p < 64 ∧ j_b n2 p ∧ (p < e ∨ (¬ n6 = 0 ∧ p = e))) (fun rn => ∃ rc : Int → Int → Prop, (∀ e : Int, 0 ≤ e → e < 64 → j_b n2 e → rc n1 e) ∧ (∀ n c q q2 : Int, 1 ≤ c → par c = n → (σ.1 53) < q → rc n q → g_mk (σ.1 50) (σ.2.1 77) (g_H (σ.2.2 4)) (σ.2.1 69 c) q q2 → rc c q2) ∧ ∀ n e : Int, rc n e → (n ≠ n1 ∨ ¬ n6 = 0) → rn n e) (σ.2.2 4) (σ.2.2 5) (τ_66.2.2 4) (τ_66.2.2 5) (σ.2.1 79) (τ_66.2.1 79) (σ.2.1 78) (g_so (σ.1 48) (σ.2.1 14) (σ.2.1 15) (σ.2.1 10)) nof In from by (first | exact g_wr0 _ _ _ _ _ _ _ _ _ _ _ _ _ | exact i66_3 | exact g_wr_a (g_wr0 _ _ _ _ _ _ _ _ _ _ _ _ _) q5_1 (fun e a b z => ⟨e, a, b, z, Or.inr ⟨by assumption, rfl⟩⟩) p9 (fun rn h e a b z => by have q9 := h; obtain ⟨rc, h1, h2, h3⟩ := q9; exact h3 n1 e (h1 e a b z) (Or.inr (by assumption))) | (rw [h4, h5, g79_τ22]; exact i66_3) | exact g_wr_a (show g_wr (σ.1 53) (σ.1 50) (σ.1 4) (σ.1 51) _ _ _ _ (τ_66.2.2 4) (τ_66.2.2 5) _ (τ_66.2.1 79) _ _ _ _ from i66_3) q28_1 (fun e a b z => g_xn ((sd e a b).1.mp z) xn1) (fun e a b z => (sd e a b).2.2.1 z) (fun rn h e a b z => by have q9 := h; obtain ⟨rc, h1, h2, h3⟩ := q9; exact h3 x13 e (g_xr ((sd e a b).1.mp z) (fun p a b c => (p8 p a b c).1) h1 h2) (Or.inl xn1)) | fail)) (show ∃ N vs : Int → Int, ∃ en : Int → Prop, g_df (σ.1 45) (σ.1 50) (σ.1 53) (σ.1 51) u7_66 (u8_66 + 1) (σ.2.1 77) (σ.2.1 69) par (σ.2.1 70) nof (g_so (σ.1 48) (σ.2.1 14) (σ.2.1 15) (σ.2.1 10)) ((st (τ_66.2.1 80) u7_66 x16)) N vs In en (g_H (σ.2.2 4)) (g_H (σ.2.2 5)) (fun p => p < 64 ∧ j_b n2 p) (fun p => p < 64 ∧ j_b n4 p) n1 (¬ n6 = 0) (τ_66.2.2 4) (τ_66.2.2 5) (τ_66.2.2 6) (τ_66.2.2 7) (τ_66.2.1 79) from by (first | exact ⟨fun _ => n1, fun _ => 0, fun n => n = n1, g_df_0 tr p1 p2 (by first | exact e_x9 | (rw [e_x9, G67])) p8 p9 (by omega) (fun z => absurd (by assumption) z)⟩ | exact ⟨fun _ => n1, fun _ => 0, fun n => n = n1, g_df_0 tr p1 p2 (by first | exact e_x9 | (rw [e_x9, G67])) p8 p9 (by omega) (fun _ => g_RA_0 tr p1 q5_1.2.2.2.2 i0 (fun _ _ _ _ z => z))⟩ | (rw [show u7_66 + (-1) = u7_66 - 1 from by omega]; exact ⟨N, vs, en, g_df_p df (by omega) (by rw [← e_x13]; omega)⟩) | exact ⟨N, st vs x13 1, en, g_df_s df tr p1 (by omega) e_x13 x0 e_x16 (by omega) (Or.inr (Or.inl (by rw [← e_x17]; omega)))⟩ | (rw [g79_τ22, g80_τ22, h4, h5, (q20_2 (by assumption)).1, (q20_2 (by assumption)).2.1]; exact ⟨N, st vs x13 1, en, g_df_s df tr p1 (by omega) e_x13 x0 e_x16 (by omega) (Or.inr (Or.inr (g_st_0 tr p1 (by omega) px lv.1.1 lx.1 (by omega) (by omega) E0 eH hA (by have w := (q20_2 (by assumption)).2.2; rw [o50, o77, o69] at w; exact w))))⟩) | (rw [g80_τ30, g80_τ22]; exact ⟨st N (u7_66 + 1) x13, st vs x13 1, fun n => en n ∨ n = x13, g_df_d (g_df_m df (fun s q z => (q28_1.2.1 s q).1 z) (fun s q z => (q28_1.2.1 s q).2.1 z) (fun s q a b z => q28_1.2.2.1 s _ q (by omega) a b (Or.inr (Or.inr z)))) tr p1 (by omega) e_x13 x0 e_x16 (by omega) (by rw [e_x31, G67]) (by omega) (g_RA_a q28_1 i0 sd (fun s q a b z => (i66_3.2.1 s q a b).1 z)) (fun l hl => by rw [k6, k7]; refine ⟨?_, ?_⟩; (rw [q3.1.1, st_n _ _ (by omega)]); (rw [q3.1.2, st_n _ _ (by omega)])) (by rw [k6, k7, ← e_x26, ← e_x27]; exact sd) (by rw [k6]; exact q3.2.2)⟩) | fail)) (show c_Rs (s_a τ_66 80 u7_66 x16) par nof In from by (first | exact p6 | exact i66_5 | exact rs7 | exact rs30 | exact rs22 | fail)) (show τ_66.2.2 3 = σ.2.2 3 from by (first | rfl | exact i66_6 | exact hf_τ7.2.2 3 (by decide) | exact (k3.trans h3).trans i66_6 | exact h3.trans i66_6 | fail))
            ·
              have hr2 : ∀ s q e : Int, 0 ≤ s → s < σ.1 4 → σ.1 53 < q → q < σ.1 50 → 0 ≤ e → e < 64 → (g_H (τ_66.2.2 4) s q e → q < e ∧ e ≤ σ.1 50) ∧ (g_H (τ_66.2.2 5) s q e → g_H (τ_66.2.2 4) s q e) := fun s q e a b c d f g => by have w := p11 s q e a b c d f g; rw [← eH s q e c (by omega), ← eS s q e c (by omega)]; exact w
              refine ⟨_, K_X1_step hT (show 0 ≤ x13 from by (first | omega | (simp only [st_s] <;> omega) | assumption | omega | fail)) (show x13 ≤ 30000 from by (first | omega | (simp only [st_s] <;> omega) | assumption | omega | fail)) (show 0 ≤ u7_66 from by (first | omega | (simp only [st_s] <;> omega) | assumption | omega | fail)) (show u7_66 < 60 from by (first | omega | (simp only [st_s] <;> omega) | assumption | omega | fail)) (show ∀ s q : Int, 0 ≤ s → s < 1000 → 0 ≤ q → q < 64 → (j_b (τ_66.2.2 3 s) q ↔ q < (τ_66.1 50) ∧ τ_66.2.1 77 q = s) from by (rw [i66_6, W50, G77]; exact p10)) (show ∀ s q e : Int, 0 ≤ s → s < (τ_66.1 4) → (τ_66.1 53) < q → q < (τ_66.1 50) → 0 ≤ e → e < 64 → (g_H (τ_66.2.2 4) s q e → q < e ∧ e ≤ (τ_66.1 50)) ∧ (g_H (τ_66.2.2 5) s q e → g_H (τ_66.2.2 4) s q e) from by (rw [W53, W50, W4]; exact hr2)) (show ∀ q : Int, 0 ≤ q → q < 64 → (j_b (τ_66.2.2 6 u7_66) q → (τ_66.1 53) < q ∧ q ≤ (τ_66.1 50)) ∧ (j_b (τ_66.2.2 7 u7_66) q → j_b (τ_66.2.2 6 u7_66) q) from by (intro q a b; have w := hA q a b; rw [W53, W50]; exact ⟨fun z => by have := w.2.2.2 z; omega, w.2.2.1⟩)) (show (τ_66.1 53) < (τ_66.1 50) from by (first | omega | (simp only [st_s] <;> omega) | assumption | omega | fail)) (show τ_66.2.1 69 x13 < 0 → -1 - τ_66.2.1 69 x13 < (τ_66.1 4) from by (rw [G69, W4]; exact ug.2.2.2.2 x13 (by omega) lx.1)), ?_⟩
              intro x21 τ22 r_x21 hn_τ22 hf_τ22 hq
              obtain ⟨hT, q20_1, q20_2, q20_3⟩ := hq
              replace q20_1 : 0 ≤ x21 ∧ x21 ≤ 1 := q20_1
              replace q20_2 : x21 = 0 → τ22.2.2 6 = τ_66.2.2 6 ∧ τ22.2.2 7 = τ_66.2.2 7 ∧ ∀ q e : Int, 0 ≤ q → 0 ≤ e → e < 64 → j_b (τ_66.2.2 6 u7_66) q → ¬ g_mk (τ_66.1 50) (τ_66.2.1 77) (g_H (τ_66.2.2 4)) (τ_66.2.1 69 x13) q e := q20_2
              replace q20_3 : ¬ x21 = 0 → (τ22.2.2 6 = st (τ_66.2.2 6) (u7_66 + 1) (τ22.2.2 6 (u7_66 + 1)) ∧ τ22.2.2 7 = st (τ_66.2.2 7) (u7_66 + 1) (τ22.2.2 7 (u7_66 + 1))) ∧ g_sr (τ_66.1 50) (τ_66.2.1 69 x13) (τ_66.2.2 6 u7_66) (τ_66.2.2 7 u7_66) (τ22.2.2 6 (u7_66 + 1)) (τ22.2.2 7 (u7_66 + 1)) (τ_66.2.1 77) (τ_66.2.2 4) (τ_66.2.2 5) ∧ ∃ e : Int, 0 ≤ e ∧ e < 64 ∧ j_b (τ22.2.2 6 (u7_66 + 1)) e := q20_3
              have w4_τ22 : τ22.1 4 = τ_66.1 4 := hf_τ22.1 4 (by decide)
              have w6_τ22 : τ22.1 6 = τ_66.1 6 := hf_τ22.1 6 (by decide)
              have w7_τ22 : τ22.1 7 = τ_66.1 7 := hf_τ22.1 7 (by decide)
              have w13_τ22 : τ22.1 13 = τ_66.1 13 := hf_τ22.1 13 (by decide)
              have w14_τ22 : τ22.1 14 = τ_66.1 14 := hf_τ22.1 14 (by decide)
              have w15_τ22 : τ22.1 15 = τ_66.1 15 := hf_τ22.1 15 (by decide)
              have w45_τ22 : τ22.1 45 = τ_66.1 45 := hf_τ22.1 45 (by decide)
              have w48_τ22 : τ22.1 48 = τ_66.1 48 := hf_τ22.1 48 (by decide)
              have w50_τ22 : τ22.1 50 = τ_66.1 50 := hf_τ22.1 50 (by decide)
              have w51_τ22 : τ22.1 51 = τ_66.1 51 := hf_τ22.1 51 (by decide)
              have w53_τ22 : τ22.1 53 = τ_66.1 53 := hf_τ22.1 53 (by decide)
              have g10_τ22 : τ22.2.1 10 = τ_66.2.1 10 := hf_τ22.2.1 10 (by decide)
              have g13_τ22 : τ22.2.1 13 = τ_66.2.1 13 := hf_τ22.2.1 13 (by decide)
              have g14_τ22 : τ22.2.1 14 = τ_66.2.1 14 := hf_τ22.2.1 14 (by decide)
              have g15_τ22 : τ22.2.1 15 = τ_66.2.1 15 := hf_τ22.2.1 15 (by decide)
              have g16_τ22 : τ22.2.1 16 = τ_66.2.1 16 := hf_τ22.2.1 16 (by decide)
              have g27_τ22 : τ22.2.1 27 = τ_66.2.1 27 := hf_τ22.2.1 27 (by decide)
              have g28_τ22 : τ22.2.1 28 = τ_66.2.1 28 := hf_τ22.2.1 28 (by decide)
              have g29_τ22 : τ22.2.1 29 = τ_66.2.1 29 := hf_τ22.2.1 29 (by decide)
              have g30_τ22 : τ22.2.1 30 = τ_66.2.1 30 := hf_τ22.2.1 30 (by decide)
              have g31_τ22 : τ22.2.1 31 = τ_66.2.1 31 := hf_τ22.2.1 31 (by decide)
              have g32_τ22 : τ22.2.1 32 = τ_66.2.1 32 := hf_τ22.2.1 32 (by decide)
              have g33_τ22 : τ22.2.1 33 = τ_66.2.1 33 := hf_τ22.2.1 33 (by decide)
              have g34_τ22 : τ22.2.1 34 = τ_66.2.1 34 := hf_τ22.2.1 34 (by decide)
              have g35_τ22 : τ22.2.1 35 = τ_66.2.1 35 := hf_τ22.2.1 35 (by decide)
              have g36_τ22 : τ22.2.1 36 = τ_66.2.1 36 := hf_τ22.2.1 36 (by decide)
              have g37_τ22 : τ22.2.1 37 = τ_66.2.1 37 := hf_τ22.2.1 37 (by decide)
              have g67_τ22 : τ22.2.1 67 = τ_66.2.1 67 := hf_τ22.2.1 67 (by decide)
              have g68_τ22 : τ22.2.1 68 = τ_66.2.1 68 := hf_τ22.2.1 68 (by decide)
              have g69_τ22 : τ22.2.1 69 = τ_66.2.1 69 := hf_τ22.2.1 69 (by decide)
              have g70_τ22 : τ22.2.1 70 = τ_66.2.1 70 := hf_τ22.2.1 70 (by decide)
              have g77_τ22 : τ22.2.1 77 = τ_66.2.1 77 := hf_τ22.2.1 77 (by decide)
              have g78_τ22 : τ22.2.1 78 = τ_66.2.1 78 := hf_τ22.2.1 78 (by decide)
              have g79_τ22 : τ22.2.1 79 = τ_66.2.1 79 := hf_τ22.2.1 79 (by decide)
              have g80_τ22 : τ22.2.1 80 = (st (τ_66.2.1 80) u7_66 x16) := hf_τ22.2.1 80 (by decide)
              have W4 : τ22.1 4 = σ.1 4 := by first | exact w4_τ22.trans W4 | omega
              have W6 : τ22.1 6 = σ.1 6 := by first | exact w6_τ22.trans W6 | omega
              have W7 : τ22.1 7 = σ.1 7 := by first | exact w7_τ22.trans W7 | omega
              have W13 : τ22.1 13 = σ.1 13 := by first | exact w13_τ22.trans W13 | omega
              have W14 : τ22.1 14 = σ.1 14 := by first | exact w14_τ22.trans W14 | omega
              have W15 : τ22.1 15 = σ.1 15 := by first | exact w15_τ22.trans W15 | omega
              have W45 : τ22.1 45 = σ.1 45 := by first | exact w45_τ22.trans W45 | omega
              have W48 : τ22.1 48 = σ.1 48 := by first | exact w48_τ22.trans W48 | omega
              have W50 : τ22.1 50 = σ.1 50 := by first | exact w50_τ22.trans W50 | omega
              have W51 : τ22.1 51 = σ.1 51 := by first | exact w51_τ22.trans W51 | omega
              have W53 : τ22.1 53 = σ.1 53 := by first | exact w53_τ22.trans W53 | omega
              have G10 : τ22.2.1 10 = σ.2.1 10 := (g10_τ22).trans G10
              have G13 : τ22.2.1 13 = σ.2.1 13 := (g13_τ22).trans G13
              have G14 : τ22.2.1 14 = σ.2.1 14 := (g14_τ22).trans G14
              have G15 : τ22.2.1 15 = σ.2.1 15 := (g15_τ22).trans G15
              have G16 : τ22.2.1 16 = σ.2.1 16 := (g16_τ22).trans G16
              have G27 : τ22.2.1 27 = σ.2.1 27 := (g27_τ22).trans G27
              have G28 : τ22.2.1 28 = σ.2.1 28 := (g28_τ22).trans G28
              have G29 : τ22.2.1 29 = σ.2.1 29 := (g29_τ22).trans G29
              have G30 : τ22.2.1 30 = σ.2.1 30 := (g30_τ22).trans G30
              have G31 : τ22.2.1 31 = σ.2.1 31 := (g31_τ22).trans G31
              have G32 : τ22.2.1 32 = σ.2.1 32 := (g32_τ22).trans G32
              have G33 : τ22.2.1 33 = σ.2.1 33 := (g33_τ22).trans G33
              have G34 : τ22.2.1 34 = σ.2.1 34 := (g34_τ22).trans G34
              have G35 : τ22.2.1 35 = σ.2.1 35 := (g35_τ22).trans G35
              have G36 : τ22.2.1 36 = σ.2.1 36 := (g36_τ22).trans G36
              have G37 : τ22.2.1 37 = σ.2.1 37 := (g37_τ22).trans G37
              have G67 : τ22.2.1 67 = σ.2.1 67 := (g67_τ22).trans G67
              have G68 : τ22.2.1 68 = σ.2.1 68 := (g68_τ22).trans G68
              have G69 : τ22.2.1 69 = σ.2.1 69 := (g69_τ22).trans G69
              have G70 : τ22.2.1 70 = σ.2.1 70 := (g70_τ22).trans G70
              have G77 : τ22.2.1 77 = σ.2.1 77 := (g77_τ22).trans G77
              have G78 : τ22.2.1 78 = σ.2.1 78 := (g78_τ22).trans G78
              have CJ : J_all (τ22.1 7) (τ22.1 6) (τ22.1 13) (τ22.1 14) (τ22.1 15) (τ22.2.1 13) (τ22.2.1 14) (τ22.2.1 15) (τ22.2.1 16) (τ22.2.1 10) (τ22.2.1 27) (τ22.2.1 28) (τ22.2.1 29) (τ22.2.1 30) (τ22.2.1 31) (τ22.2.1 32) (τ22.2.1 33) (τ22.2.1 34) (τ22.2.1 35) (τ22.2.1 36) (τ22.2.1 37) := by rw [show (J_all (τ22.1 7) (τ22.1 6) (τ22.1 13) (τ22.1 14) (τ22.1 15) (τ22.2.1 13) (τ22.2.1 14) (τ22.2.1 15) (τ22.2.1 16) (τ22.2.1 10) (τ22.2.1 27) (τ22.2.1 28) (τ22.2.1 29) (τ22.2.1 30) (τ22.2.1 31) (τ22.2.1 32) (τ22.2.1 33) (τ22.2.1 34) (τ22.2.1 35) (τ22.2.1 36) (τ22.2.1 37)) = (J_all (τ_66.1 7) (τ_66.1 6) (τ_66.1 13) (τ_66.1 14) (τ_66.1 15) (τ_66.2.1 13) (τ_66.2.1 14) (τ_66.2.1 15) (τ_66.2.1 16) (τ_66.2.1 10) (τ_66.2.1 27) (τ_66.2.1 28) (τ_66.2.1 29) (τ_66.2.1 30) (τ_66.2.1 31) (τ_66.2.1 32) (τ_66.2.1 33) (τ_66.2.1 34) (τ_66.2.1 35) (τ_66.2.1 36) (τ_66.2.1 37)) from by rw [w6_τ22, w7_τ22, w13_τ22, w14_τ22, w15_τ22, g10_τ22, g13_τ22, g14_τ22, g15_τ22, g16_τ22, g27_τ22, g28_τ22, g29_τ22, g30_τ22, g31_τ22, g32_τ22, g33_τ22, g34_τ22, g35_τ22, g36_τ22, g37_τ22]]; exact CJ
              have A10 : ∀ j, (-1) ≤ τ22.2.1 10 j ∧ τ22.2.1 10 j ≤ 99 := fun j => hT.2 10 j
              have A13 : ∀ j, 0 ≤ τ22.2.1 13 j ∧ τ22.2.1 13 j ≤ 4 := fun j => hT.2 13 j
              have A14 : ∀ j, 0 ≤ τ22.2.1 14 j ∧ τ22.2.1 14 j ≤ 30000 := fun j => hT.2 14 j
              have A15 : ∀ j, 0 ≤ τ22.2.1 15 j ∧ τ22.2.1 15 j ≤ 999 := fun j => hT.2 15 j
              have A16 : ∀ j, (-1) ≤ τ22.2.1 16 j ∧ τ22.2.1 16 j ≤ 1499 := fun j => hT.2 16 j
              have A27 : ∀ j, 0 ≤ τ22.2.1 27 j ∧ τ22.2.1 27 j ≤ 90000 := fun j => hT.2 27 j
              have A28 : ∀ j, 0 ≤ τ22.2.1 28 j ∧ τ22.2.1 28 j ≤ 60 := fun j => hT.2 28 j
              have A29 : ∀ j, 0 ≤ τ22.2.1 29 j ∧ τ22.2.1 29 j ≤ 1499 := fun j => hT.2 29 j
              have A30 : ∀ j, 0 ≤ τ22.2.1 30 j ∧ τ22.2.1 30 j ≤ 20000 := fun j => hT.2 30 j
              have A31 : ∀ j, 0 ≤ τ22.2.1 31 j ∧ τ22.2.1 31 j ≤ 20000 := fun j => hT.2 31 j
              have A32 : ∀ j, 0 ≤ τ22.2.1 32 j ∧ τ22.2.1 32 j ≤ 999999 := fun j => hT.2 32 j
              have A33 : ∀ j, 0 ≤ τ22.2.1 33 j ∧ τ22.2.1 33 j ≤ 20000 := fun j => hT.2 33 j
              have A34 : ∀ j, 0 ≤ τ22.2.1 34 j ∧ τ22.2.1 34 j ≤ 20000 := fun j => hT.2 34 j
              have A35 : ∀ j, 0 ≤ τ22.2.1 35 j ∧ τ22.2.1 35 j ≤ 1499 := fun j => hT.2 35 j
              have A36 : ∀ j, 0 ≤ τ22.2.1 36 j ∧ τ22.2.1 36 j ≤ 20000 := fun j => hT.2 36 j
              have A37 : ∀ j, 0 ≤ τ22.2.1 37 j ∧ τ22.2.1 37 j ≤ 19999 := fun j => hT.2 37 j
              have A67 : ∀ j, 0 ≤ τ22.2.1 67 j ∧ τ22.2.1 67 j ≤ 30000 := fun j => hT.2 67 j
              have A68 : ∀ j, 0 ≤ τ22.2.1 68 j ∧ τ22.2.1 68 j ≤ 30000 := fun j => hT.2 68 j
              have A69 : ∀ j, (-100) ≤ τ22.2.1 69 j ∧ τ22.2.1 69 j ≤ 999 := fun j => hT.2 69 j
              have A70 : ∀ j, 0 ≤ τ22.2.1 70 j ∧ τ22.2.1 70 j ≤ 1499 := fun j => hT.2 70 j
              have A77 : ∀ j, 0 ≤ τ22.2.1 77 j ∧ τ22.2.1 77 j ≤ 999 := fun j => hT.2 77 j
              have A78 : ∀ j, (-1) ≤ τ22.2.1 78 j ∧ τ22.2.1 78 j ≤ 1499 := fun j => hT.2 78 j
              have A79 : ∀ j, 0 ≤ τ22.2.1 79 j ∧ τ22.2.1 79 j ≤ 1499 := fun j => hT.2 79 j
              have A80 : ∀ j, 0 ≤ τ22.2.1 80 j ∧ τ22.2.1 80 j ≤ 30000 := fun j => hT.2 80 j
              have v4 : 0 ≤ τ22.1 4 ∧ τ22.1 4 ≤ 100 := hT.1 4
              have v6 : 0 ≤ τ22.1 6 ∧ τ22.1 6 ≤ 30000 := hT.1 6
              have v7 : 0 ≤ τ22.1 7 ∧ τ22.1 7 ≤ 1500 := hT.1 7
              have v13 : 0 ≤ τ22.1 13 ∧ τ22.1 13 ≤ 90000 := hT.1 13
              have v14 : 0 ≤ τ22.1 14 ∧ τ22.1 14 ≤ 20000 := hT.1 14
              have v15 : 0 ≤ τ22.1 15 ∧ τ22.1 15 ≤ 20000 := hT.1 15
              have v45 : 1 ≤ τ22.1 45 ∧ τ22.1 45 ≤ 30001 := hT.1 45
              have v48 : (-1) ≤ τ22.1 48 ∧ τ22.1 48 ≤ 999 := hT.1 48
              have v50 : 0 ≤ τ22.1 50 ∧ τ22.1 50 ≤ 59 := hT.1 50
              have v51 : 0 ≤ τ22.1 51 ∧ τ22.1 51 ≤ 1500 := hT.1 51
              have v53 : 0 ≤ τ22.1 53 ∧ τ22.1 53 ≤ 58 := hT.1 53
              have rs22 := c_Rs_h (show c_Rs (s_a τ_66 80 u7_66 x16) par nof In from i66_5) hf_τ22 rfl
              have h4 := hf_τ22.2.2 4 (by decide)
              have h5 := hf_τ22.2.2 5 (by decide)
              have h3 := hf_τ22.2.2 3 (by decide)
              refine ⟨fun c23 => ?_, fun c23 => ?_⟩
              ·
                refine ⟨(⟨by (first | omega | (simp only [st_s] <;> omega) | assumption | omega | fail), by (first | omega | (simp only [st_s] <;> omega) | assumption | omega | fail)⟩ : rg (u8_66 + 1)), ?_⟩
                exact ih_66 _ _ _ (show (1000001 - (u8_66 + 1) : Int) < ((m_66 : Nat) : Int) from by ((first | omega | (simp only [st_s] <;> omega) | assumption | omega | fail))) hT (show τ22.1 4 = σ.1 4 from by first | exact W4 | omega) (show τ22.1 6 = σ.1 6 from by first | exact W6 | omega) (show τ22.1 7 = σ.1 7 from by first | exact W7 | omega) (show τ22.1 13 = σ.1 13 from by first | exact W13 | omega) (show τ22.1 14 = σ.1 14 from by first | exact W14 | omega) (show τ22.1 15 = σ.1 15 from by first | exact W15 | omega) (show τ22.1 45 = σ.1 45 from by first | exact W45 | omega) (show τ22.1 48 = σ.1 48 from by first | exact W48 | omega) (show τ22.1 50 = σ.1 50 from by first | exact W50 | omega) (show τ22.1 51 = σ.1 51 from by first | exact W51 | omega) (show τ22.1 53 = σ.1 53 from by first | exact W53 | omega) G10 G13 G14 G15 G16 G27 G28 G29 G30 G31 G32 G33 G34 G35 G36 G37 G67 G68 G69 G70 G77 G78 (show -1 ≤ u7_66 from by (first | omega | (simp only [st_s] <;> omega) | assumption | omega | fail)) (show 0 ≤ (u8_66 + 1) ∧ (u8_66 + 1) ≤ 1000000 from by (first | omega | (simp only [st_s] <;> omega) | assumption | omega | fail)) (show g_wr (σ.1 53) (σ.1 50) (σ.1 4) (σ.1 51) (fun e => ∃ p : Int, 0 ≤ p ∧ p < 64 ∧ j_b n2 p ∧ (p < e ∨ (¬ n6 = 0 ∧ p = e))) (fun rn => ∃ rc : Int → Int → Prop, (∀ e : Int, 0 ≤ e → e < 64 → j_b n2 e → rc n1 e) ∧ (∀ n c q q2 : Int, 1 ≤ c → par c = n → (σ.1 53) < q → rc n q → g_mk (σ.1 50) (σ.2.1 77) (g_H (σ.2.2 4)) (σ.2.1 69 c) q q2 → rc c q2) ∧ ∀ n e : Int, rc n e → (n ≠ n1 ∨ ¬ n6 = 0) → rn n e) (σ.2.2 4) (σ.2.2 5) (τ22.2.2 4) (τ22.2.2 5) (σ.2.1 79) (τ22.2.1 79) (σ.2.1 78) (g_so (σ.1 48) (σ.2.1 14) (σ.2.1 15) (σ.2.1 10)) nof In from by (first | exact g_wr0 _ _ _ _ _ _ _ _ _ _ _ _ _ | exact i66_3 | exact g_wr_a (g_wr0 _ _ _ _ _ _ _ _ _ _ _ _ _) q5_1 (fun e a b z => ⟨e, a, b, z, Or.inr ⟨by assumption, rfl⟩⟩) p9 (fun rn h e a b z => by have q9 := h; obtain ⟨rc, h1, h2, h3⟩ := q9; exact h3 n1 e (h1 e a b z) (Or.inr (by assumption))) | (rw [h4, h5, g79_τ22]; exact i66_3) | exact g_wr_a (show g_wr (σ.1 53) (σ.1 50) (σ.1 4) (σ.1 51) _ _ _ _ (τ_66.2.2 4) (τ_66.2.2 5) _ (τ_66.2.1 79) _ _ _ _ from i66_3) q28_1 (fun e a b z => g_xn ((sd e a b).1.mp z) xn1) (fun e a b z => (sd e a b).2.2.1 z) (fun rn h e a b z => by have q9 := h; obtain ⟨rc, h1, h2, h3⟩ := q9; exact h3 x13 e (g_xr ((sd e a b).1.mp z) (fun p a b c => (p8 p a b c).1) h1 h2) (Or.inl xn1)) | fail)) (show ∃ N vs : Int → Int, ∃ en : Int → Prop, g_df (σ.1 45) (σ.1 50) (σ.1 53) (σ.1 51) u7_66 (u8_66 + 1) (σ.2.1 77) (σ.2.1 69) par (σ.2.1 70) nof (g_so (σ.1 48) (σ.2.1 14) (σ.2.1 15) (σ.2.1 10)) (τ22.2.1 80) N vs In en (g_H (σ.2.2 4)) (g_H (σ.2.2 5)) (fun p => p < 64 ∧ j_b n2 p) (fun p => p < 64 ∧ j_b n4 p) n1 (¬ n6 = 0) (τ22.2.2 4) (τ22.2.2 5) (τ22.2.2 6) (τ22.2.2 7) (τ22.2.1 79) from by (first | exact ⟨fun _ => n1, fun _ => 0, fun n => n = n1, g_df_0 tr p1 p2 (by first | exact e_x9 | (rw [e_x9, G67])) p8 p9 (by omega) (fun z => absurd (by assumption) z)⟩ | exact ⟨fun _ => n1, fun _ => 0, fun n => n = n1, g_df_0 tr p1 p2 (by first | exact e_x9 | (rw [e_x9, G67])) p8 p9 (by omega) (fun _ => g_RA_0 tr p1 q5_1.2.2.2.2 i0 (fun _ _ _ _ z => z))⟩ | (rw [show u7_66 + (-1) = u7_66 - 1 from by omega]; exact ⟨N, vs, en, g_df_p df (by omega) (by rw [← e_x13]; omega)⟩) | exact ⟨N, st vs x13 1, en, g_df_s df tr p1 (by omega) e_x13 x0 e_x16 (by omega) (Or.inr (Or.inl (by rw [← e_x17]; omega)))⟩ | (rw [g79_τ22, g80_τ22, h4, h5, (q20_2 (by assumption)).1, (q20_2 (by assumption)).2.1]; exact ⟨N, st vs x13 1, en, g_df_s df tr p1 (by omega) e_x13 x0 e_x16 (by omega) (Or.inr (Or.inr (g_st_0 tr p1 (by omega) px lv.1.1 lx.1 (by omega) (by omega) E0 eH hA (by have w := (q20_2 (by assumption)).2.2; rw [o50, o77, o69] at w; exact w))))⟩) | (rw [g80_τ30, g80_τ22]; exact ⟨st N (u7_66 + 1) x13, st vs x13 1, fun n => en n ∨ n = x13, g_df_d (g_df_m df (fun s q z => (q28_1.2.1 s q).1 z) (fun s q z => (q28_1.2.1 s q).2.1 z) (fun s q a b z => q28_1.2.2.1 s _ q (by omega) a b (Or.inr (Or.inr z)))) tr p1 (by omega) e_x13 x0 e_x16 (by omega) (by rw [e_x31, G67]) (by omega) (g_RA_a q28_1 i0 sd (fun s q a b z => (i66_3.2.1 s q a b).1 z)) (fun l hl => by rw [k6, k7]; refine ⟨?_, ?_⟩; (rw [q3.1.1, st_n _ _ (by omega)]); (rw [q3.1.2, st_n _ _ (by omega)])) (by rw [k6, k7, ← e_x26, ← e_x27]; exact sd) (by rw [k6]; exact q3.2.2)⟩) | fail)) (show c_Rs τ22 par nof In from by (first | exact p6 | exact i66_5 | exact rs7 | exact rs30 | exact rs22 | fail)) (show τ22.2.2 3 = σ.2.2 3 from by (first | rfl | exact i66_6 | exact hf_τ7.2.2 3 (by decide) | exact (k3.trans h3).trans i66_6 | exact h3.trans i66_6 | fail))
              ·
                refine ⟨(show 0 ≤ (u7_66 + 1) ∧ (u7_66 + 1) < 61 from by (first | omega | (simp only [st_s] <;> omega) | assumption | omega | fail)), ?_⟩
                intro x26 e_x26
                intro x27 e_x27
                have q3 := q20_3 (by assumption)
                have sr3 := q3.2.1
                rw [o50, o69, o77] at sr3
                have sd := g_st_d tr p1 (by omega) px lv.1.1 lx.1 (by omega) (by omega) (by omega) E0 V0 eH eS hA sr3
                rw [← e_x26, ← e_x27] at sd
                have y53 := W53
                have y50 := W50
                have y4 := W4
                have y51 := W51
                have y48 := W48
                have f78 := G78
                have f14 := G14
                have f15 := G15
                have f10 := G10
                refine ⟨_, K_X1_addRules hT (show 0 ≤ x13 from by (first | omega | (simp only [st_s] <;> omega) | assumption | omega | fail)) (show x13 < (τ22.1 45) from by (first | omega | (simp only [st_s] <;> omega) | assumption | omega | fail)) (show J_all (τ22.1 7) (τ22.1 6) (τ22.1 13) (τ22.1 14) (τ22.1 15) (τ22.2.1 13) (τ22.2.1 14) (τ22.2.1 15) (τ22.2.1 16) (τ22.2.1 10) (τ22.2.1 27) (τ22.2.1 28) (τ22.2.1 29) (τ22.2.1 30) (τ22.2.1 31) (τ22.2.1 32) (τ22.2.1 33) (τ22.2.1 34) (τ22.2.1 35) (τ22.2.1 36) (τ22.2.1 37) from CJ) (show c_Rs τ22 par nof In from by exact rs22) (show (τ22.1 53) < (τ22.1 50) from by (first | omega | (simp only [st_s] <;> omega) | assumption | omega | fail)) (show ∀ e : Int, 0 ≤ e → e < 64 → j_b x26 e → (τ22.1 53) < e ∧ e ≤ (τ22.1 50) from by (intro e a b z; have w := (sd e a b).2.2.2 z; omega)) (show ∀ e : Int, 0 ≤ e → e < 64 → j_b x27 e → j_b x26 e from by (intro e a b z; exact (sd e a b).2.2.1 z)), ?_⟩
                intro τ30 hn_τ30 hf_τ30 hq
                obtain ⟨hT, q28_1⟩ := hq
                replace q28_1 : g_ad (τ22.1 53) (τ22.1 50) (τ22.1 4) (τ22.1 51) x13 0 x26 x27 (τ22.2.2 4) (τ22.2.2 5) (τ30.2.2 4) (τ30.2.2 5) (τ22.2.1 79) (τ30.2.1 79) (τ22.2.1 78) (g_so (τ22.1 48) (τ22.2.1 14) (τ22.2.1 15) (τ22.2.1 10)) nof In := q28_1
                have w4_τ30 : τ30.1 4 = τ22.1 4 := hf_τ30.1 4 (by decide)
                have w6_τ30 : τ30.1 6 = τ22.1 6 := hf_τ30.1 6 (by decide)
                have w7_τ30 : τ30.1 7 = τ22.1 7 := hf_τ30.1 7 (by decide)
                have w13_τ30 : τ30.1 13 = τ22.1 13 := hf_τ30.1 13 (by decide)
                have w14_τ30 : τ30.1 14 = τ22.1 14 := hf_τ30.1 14 (by decide)
                have w15_τ30 : τ30.1 15 = τ22.1 15 := hf_τ30.1 15 (by decide)
                have w45_τ30 : τ30.1 45 = τ22.1 45 := hf_τ30.1 45 (by decide)
                have w48_τ30 : τ30.1 48 = τ22.1 48 := hf_τ30.1 48 (by decide)
                have w50_τ30 : τ30.1 50 = τ22.1 50 := hf_τ30.1 50 (by decide)
                have w51_τ30 : τ30.1 51 = τ22.1 51 := hf_τ30.1 51 (by decide)
                have w53_τ30 : τ30.1 53 = τ22.1 53 := hf_τ30.1 53 (by decide)
                have g10_τ30 : τ30.2.1 10 = τ22.2.1 10 := hf_τ30.2.1 10 (by decide)
                have g13_τ30 : τ30.2.1 13 = τ22.2.1 13 := hf_τ30.2.1 13 (by decide)
                have g14_τ30 : τ30.2.1 14 = τ22.2.1 14 := hf_τ30.2.1 14 (by decide)
                have g15_τ30 : τ30.2.1 15 = τ22.2.1 15 := hf_τ30.2.1 15 (by decide)
                have g16_τ30 : τ30.2.1 16 = τ22.2.1 16 := hf_τ30.2.1 16 (by decide)
                have g27_τ30 : τ30.2.1 27 = τ22.2.1 27 := hf_τ30.2.1 27 (by decide)
                have g28_τ30 : τ30.2.1 28 = τ22.2.1 28 := hf_τ30.2.1 28 (by decide)
                have g29_τ30 : τ30.2.1 29 = τ22.2.1 29 := hf_τ30.2.1 29 (by decide)
                have g30_τ30 : τ30.2.1 30 = τ22.2.1 30 := hf_τ30.2.1 30 (by decide)
                have g31_τ30 : τ30.2.1 31 = τ22.2.1 31 := hf_τ30.2.1 31 (by decide)
                have g32_τ30 : τ30.2.1 32 = τ22.2.1 32 := hf_τ30.2.1 32 (by decide)
                have g33_τ30 : τ30.2.1 33 = τ22.2.1 33 := hf_τ30.2.1 33 (by decide)
                have g34_τ30 : τ30.2.1 34 = τ22.2.1 34 := hf_τ30.2.1 34 (by decide)
                have g35_τ30 : τ30.2.1 35 = τ22.2.1 35 := hf_τ30.2.1 35 (by decide)
                have g36_τ30 : τ30.2.1 36 = τ22.2.1 36 := hf_τ30.2.1 36 (by decide)
                have g37_τ30 : τ30.2.1 37 = τ22.2.1 37 := hf_τ30.2.1 37 (by decide)
                have g67_τ30 : τ30.2.1 67 = τ22.2.1 67 := hf_τ30.2.1 67 (by decide)
                have g68_τ30 : τ30.2.1 68 = τ22.2.1 68 := hf_τ30.2.1 68 (by decide)
                have g69_τ30 : τ30.2.1 69 = τ22.2.1 69 := hf_τ30.2.1 69 (by decide)
                have g70_τ30 : τ30.2.1 70 = τ22.2.1 70 := hf_τ30.2.1 70 (by decide)
                have g77_τ30 : τ30.2.1 77 = τ22.2.1 77 := hf_τ30.2.1 77 (by decide)
                have g78_τ30 : τ30.2.1 78 = τ22.2.1 78 := hf_τ30.2.1 78 (by decide)
                have g80_τ30 : τ30.2.1 80 = τ22.2.1 80 := hf_τ30.2.1 80 (by decide)
                have W4 : τ30.1 4 = σ.1 4 := by first | exact w4_τ30.trans W4 | omega
                have W6 : τ30.1 6 = σ.1 6 := by first | exact w6_τ30.trans W6 | omega
                have W7 : τ30.1 7 = σ.1 7 := by first | exact w7_τ30.trans W7 | omega
                have W13 : τ30.1 13 = σ.1 13 := by first | exact w13_τ30.trans W13 | omega
                have W14 : τ30.1 14 = σ.1 14 := by first | exact w14_τ30.trans W14 | omega
                have W15 : τ30.1 15 = σ.1 15 := by first | exact w15_τ30.trans W15 | omega
                have W45 : τ30.1 45 = σ.1 45 := by first | exact w45_τ30.trans W45 | omega
                have W48 : τ30.1 48 = σ.1 48 := by first | exact w48_τ30.trans W48 | omega
                have W50 : τ30.1 50 = σ.1 50 := by first | exact w50_τ30.trans W50 | omega
                have W51 : τ30.1 51 = σ.1 51 := by first | exact w51_τ30.trans W51 | omega
                have W53 : τ30.1 53 = σ.1 53 := by first | exact w53_τ30.trans W53 | omega
                have G10 : τ30.2.1 10 = σ.2.1 10 := (g10_τ30).trans G10
                have G13 : τ30.2.1 13 = σ.2.1 13 := (g13_τ30).trans G13
                have G14 : τ30.2.1 14 = σ.2.1 14 := (g14_τ30).trans G14
                have G15 : τ30.2.1 15 = σ.2.1 15 := (g15_τ30).trans G15
                have G16 : τ30.2.1 16 = σ.2.1 16 := (g16_τ30).trans G16
                have G27 : τ30.2.1 27 = σ.2.1 27 := (g27_τ30).trans G27
                have G28 : τ30.2.1 28 = σ.2.1 28 := (g28_τ30).trans G28
                have G29 : τ30.2.1 29 = σ.2.1 29 := (g29_τ30).trans G29
                have G30 : τ30.2.1 30 = σ.2.1 30 := (g30_τ30).trans G30
                have G31 : τ30.2.1 31 = σ.2.1 31 := (g31_τ30).trans G31
                have G32 : τ30.2.1 32 = σ.2.1 32 := (g32_τ30).trans G32
                have G33 : τ30.2.1 33 = σ.2.1 33 := (g33_τ30).trans G33
                have G34 : τ30.2.1 34 = σ.2.1 34 := (g34_τ30).trans G34
                have G35 : τ30.2.1 35 = σ.2.1 35 := (g35_τ30).trans G35
                have G36 : τ30.2.1 36 = σ.2.1 36 := (g36_τ30).trans G36
                have G37 : τ30.2.1 37 = σ.2.1 37 := (g37_τ30).trans G37
                have G67 : τ30.2.1 67 = σ.2.1 67 := (g67_τ30).trans G67
                have G68 : τ30.2.1 68 = σ.2.1 68 := (g68_τ30).trans G68
                have G69 : τ30.2.1 69 = σ.2.1 69 := (g69_τ30).trans G69
                have G70 : τ30.2.1 70 = σ.2.1 70 := (g70_τ30).trans G70
                have G77 : τ30.2.1 77 = σ.2.1 77 := (g77_τ30).trans G77
                have G78 : τ30.2.1 78 = σ.2.1 78 := (g78_τ30).trans G78
                have CJ : J_all (τ30.1 7) (τ30.1 6) (τ30.1 13) (τ30.1 14) (τ30.1 15) (τ30.2.1 13) (τ30.2.1 14) (τ30.2.1 15) (τ30.2.1 16) (τ30.2.1 10) (τ30.2.1 27) (τ30.2.1 28) (τ30.2.1 29) (τ30.2.1 30) (τ30.2.1 31) (τ30.2.1 32) (τ30.2.1 33) (τ30.2.1 34) (τ30.2.1 35) (τ30.2.1 36) (τ30.2.1 37) := by rw [show (J_all (τ30.1 7) (τ30.1 6) (τ30.1 13) (τ30.1 14) (τ30.1 15) (τ30.2.1 13) (τ30.2.1 14) (τ30.2.1 15) (τ30.2.1 16) (τ30.2.1 10) (τ30.2.1 27) (τ30.2.1 28) (τ30.2.1 29) (τ30.2.1 30) (τ30.2.1 31) (τ30.2.1 32) (τ30.2.1 33) (τ30.2.1 34) (τ30.2.1 35) (τ30.2.1 36) (τ30.2.1 37)) = (J_all (τ22.1 7) (τ22.1 6) (τ22.1 13) (τ22.1 14) (τ22.1 15) (τ22.2.1 13) (τ22.2.1 14) (τ22.2.1 15) (τ22.2.1 16) (τ22.2.1 10) (τ22.2.1 27) (τ22.2.1 28) (τ22.2.1 29) (τ22.2.1 30) (τ22.2.1 31) (τ22.2.1 32) (τ22.2.1 33) (τ22.2.1 34) (τ22.2.1 35) (τ22.2.1 36) (τ22.2.1 37)) from by rw [w6_τ30, w7_τ30, w13_τ30, w14_τ30, w15_τ30, g10_τ30, g13_τ30, g14_τ30, g15_τ30, g16_τ30, g27_τ30, g28_τ30, g29_τ30, g30_τ30, g31_τ30, g32_τ30, g33_τ30, g34_τ30, g35_τ30, g36_τ30, g37_τ30]]; exact CJ
                have A10 : ∀ j, (-1) ≤ τ30.2.1 10 j ∧ τ30.2.1 10 j ≤ 99 := fun j => hT.2 10 j
                have A13 : ∀ j, 0 ≤ τ30.2.1 13 j ∧ τ30.2.1 13 j ≤ 4 := fun j => hT.2 13 j
                have A14 : ∀ j, 0 ≤ τ30.2.1 14 j ∧ τ30.2.1 14 j ≤ 30000 := fun j => hT.2 14 j
                have A15 : ∀ j, 0 ≤ τ30.2.1 15 j ∧ τ30.2.1 15 j ≤ 999 := fun j => hT.2 15 j
                have A16 : ∀ j, (-1) ≤ τ30.2.1 16 j ∧ τ30.2.1 16 j ≤ 1499 := fun j => hT.2 16 j
                have A27 : ∀ j, 0 ≤ τ30.2.1 27 j ∧ τ30.2.1 27 j ≤ 90000 := fun j => hT.2 27 j
                have A28 : ∀ j, 0 ≤ τ30.2.1 28 j ∧ τ30.2.1 28 j ≤ 60 := fun j => hT.2 28 j
                have A29 : ∀ j, 0 ≤ τ30.2.1 29 j ∧ τ30.2.1 29 j ≤ 1499 := fun j => hT.2 29 j
                have A30 : ∀ j, 0 ≤ τ30.2.1 30 j ∧ τ30.2.1 30 j ≤ 20000 := fun j => hT.2 30 j
                have A31 : ∀ j, 0 ≤ τ30.2.1 31 j ∧ τ30.2.1 31 j ≤ 20000 := fun j => hT.2 31 j
                have A32 : ∀ j, 0 ≤ τ30.2.1 32 j ∧ τ30.2.1 32 j ≤ 999999 := fun j => hT.2 32 j
                have A33 : ∀ j, 0 ≤ τ30.2.1 33 j ∧ τ30.2.1 33 j ≤ 20000 := fun j => hT.2 33 j
                have A34 : ∀ j, 0 ≤ τ30.2.1 34 j ∧ τ30.2.1 34 j ≤ 20000 := fun j => hT.2 34 j
                have A35 : ∀ j, 0 ≤ τ30.2.1 35 j ∧ τ30.2.1 35 j ≤ 1499 := fun j => hT.2 35 j
                have A36 : ∀ j, 0 ≤ τ30.2.1 36 j ∧ τ30.2.1 36 j ≤ 20000 := fun j => hT.2 36 j
                have A37 : ∀ j, 0 ≤ τ30.2.1 37 j ∧ τ30.2.1 37 j ≤ 19999 := fun j => hT.2 37 j
                have A67 : ∀ j, 0 ≤ τ30.2.1 67 j ∧ τ30.2.1 67 j ≤ 30000 := fun j => hT.2 67 j
                have A68 : ∀ j, 0 ≤ τ30.2.1 68 j ∧ τ30.2.1 68 j ≤ 30000 := fun j => hT.2 68 j
                have A69 : ∀ j, (-100) ≤ τ30.2.1 69 j ∧ τ30.2.1 69 j ≤ 999 := fun j => hT.2 69 j
                have A70 : ∀ j, 0 ≤ τ30.2.1 70 j ∧ τ30.2.1 70 j ≤ 1499 := fun j => hT.2 70 j
                have A77 : ∀ j, 0 ≤ τ30.2.1 77 j ∧ τ30.2.1 77 j ≤ 999 := fun j => hT.2 77 j
                have A78 : ∀ j, (-1) ≤ τ30.2.1 78 j ∧ τ30.2.1 78 j ≤ 1499 := fun j => hT.2 78 j
                have A79 : ∀ j, 0 ≤ τ30.2.1 79 j ∧ τ30.2.1 79 j ≤ 1499 := fun j => hT.2 79 j
                have A80 : ∀ j, 0 ≤ τ30.2.1 80 j ∧ τ30.2.1 80 j ≤ 30000 := fun j => hT.2 80 j
                have v4 : 0 ≤ τ30.1 4 ∧ τ30.1 4 ≤ 100 := hT.1 4
                have v6 : 0 ≤ τ30.1 6 ∧ τ30.1 6 ≤ 30000 := hT.1 6
                have v7 : 0 ≤ τ30.1 7 ∧ τ30.1 7 ≤ 1500 := hT.1 7
                have v13 : 0 ≤ τ30.1 13 ∧ τ30.1 13 ≤ 90000 := hT.1 13
                have v14 : 0 ≤ τ30.1 14 ∧ τ30.1 14 ≤ 20000 := hT.1 14
                have v15 : 0 ≤ τ30.1 15 ∧ τ30.1 15 ≤ 20000 := hT.1 15
                have v45 : 1 ≤ τ30.1 45 ∧ τ30.1 45 ≤ 30001 := hT.1 45
                have v48 : (-1) ≤ τ30.1 48 ∧ τ30.1 48 ≤ 999 := hT.1 48
                have v50 : 0 ≤ τ30.1 50 ∧ τ30.1 50 ≤ 59 := hT.1 50
                have v51 : 0 ≤ τ30.1 51 ∧ τ30.1 51 ≤ 1500 := hT.1 51
                have v53 : 0 ≤ τ30.1 53 ∧ τ30.1 53 ≤ 58 := hT.1 53
                have rs30 := c_Rs_h rs22 hf_τ30 rfl
                have k6 := hf_τ30.2.2 6 (by decide)
                have k7 := hf_τ30.2.2 7 (by decide)
                have k3 := hf_τ30.2.2 3 (by decide)
                rw [y53, y50, y4, y51, y48, f78, f14, f15, f10, h4, h5, g79_τ22] at q28_1
                intro x31 r_x31 e_x31
                have b_x31 : 0 ≤ x31 ∧ x31 ≤ 30000 := by rw [e_x31]; exact hT.2 67 _
                replace hT := cT_a (k := 80) (j := (u7_66 + 1)) hT (show (0 : Int) ≤ x31 ∧ x31 ≤ 30000 from by (first | omega | (simp only [st_s] <;> omega) | assumption | omega | fail))
                refine ⟨(⟨by (first | omega | (simp only [st_s] <;> omega) | assumption | omega | fail), by (first | omega | (simp only [st_s] <;> omega) | assumption | omega | fail)⟩ : rg (u8_66 + 1)), ?_⟩
                exact ih_66 _ _ _ (show (1000001 - (u8_66 + 1) : Int) < ((m_66 : Nat) : Int) from by ((first | omega | (simp only [st_s] <;> omega) | assumption | omega | fail))) hT (show τ30.1 4 = σ.1 4 from by first | exact W4 | omega) (show τ30.1 6 = σ.1 6 from by first | exact W6 | omega) (show τ30.1 7 = σ.1 7 from by first | exact W7 | omega) (show τ30.1 13 = σ.1 13 from by first | exact W13 | omega) (show τ30.1 14 = σ.1 14 from by first | exact W14 | omega) (show τ30.1 15 = σ.1 15 from by first | exact W15 | omega) (show τ30.1 45 = σ.1 45 from by first | exact W45 | omega) (show τ30.1 48 = σ.1 48 from by first | exact W48 | omega) (show τ30.1 50 = σ.1 50 from by first | exact W50 | omega) (show τ30.1 51 = σ.1 51 from by first | exact W51 | omega) (show τ30.1 53 = σ.1 53 from by first | exact W53 | omega) G10 G13 G14 G15 G16 G27 G28 G29 G30 G31 G32 G33 G34 G35 G36 G37 G67 G68 G69 G70 G77 G78 (show -1 ≤ (u7_66 + 1) from by (first | omega | (simp only [st_s] <;> omega) | assumption | omega | fail)) (show 0 ≤ (u8_66 + 1) ∧ (u8_66 + 1) ≤ 1000000 from by (first | omega | (simp only [st_s] <;> omega) | assumption | omega | fail)) (show g_wr (σ.1 53) (σ.1 50) (σ.1 4) (σ.1 51) (fun e => ∃ p : Int, 0 ≤ p ∧ p < 64 ∧ j_b n2 p ∧ (p < e ∨ (¬ n6 = 0 ∧ p = e))) (fun rn => ∃ rc : Int → Int → Prop, (∀ e : Int, 0 ≤ e → e < 64 → j_b n2 e → rc n1 e) ∧ (∀ n c q q2 : Int, 1 ≤ c → par c = n → (σ.1 53) < q → rc n q → g_mk (σ.1 50) (σ.2.1 77) (g_H (σ.2.2 4)) (σ.2.1 69 c) q q2 → rc c q2) ∧ ∀ n e : Int, rc n e → (n ≠ n1 ∨ ¬ n6 = 0) → rn n e) (σ.2.2 4) (σ.2.2 5) (τ30.2.2 4) (τ30.2.2 5) (σ.2.1 79) (τ30.2.1 79) (σ.2.1 78) (g_so (σ.1 48) (σ.2.1 14) (σ.2.1 15) (σ.2.1 10)) nof In from by (first | exact g_wr0 _ _ _ _ _ _ _ _ _ _ _ _ _ | exact i66_3 | exact g_wr_a (g_wr0 _ _ _ _ _ _ _ _ _ _ _ _ _) q5_1 (fun e a b z => ⟨e, a, b, z, Or.inr ⟨by assumption, rfl⟩⟩) p9 (fun rn h e a b z => by have q9 := h; obtain ⟨rc, h1, h2, h3⟩ := q9; exact h3 n1 e (h1 e a b z) (Or.inr (by assumption))) | (rw [h4, h5, g79_τ22]; exact i66_3) | exact g_wr_a (show g_wr (σ.1 53) (σ.1 50) (σ.1 4) (σ.1 51) _ _ _ _ (τ_66.2.2 4) (τ_66.2.2 5) _ (τ_66.2.1 79) _ _ _ _ from i66_3) q28_1 (fun e a b z => g_xn ((sd e a b).1.mp z) xn1) (fun e a b z => (sd e a b).2.2.1 z) (fun rn h e a b z => by have q9 := h; obtain ⟨rc, h1, h2, h3⟩ := q9; exact h3 x13 e (g_xr ((sd e a b).1.mp z) (fun p a b c => (p8 p a b c).1) h1 h2) (Or.inl xn1)) | fail)) (show ∃ N vs : Int → Int, ∃ en : Int → Prop, g_df (σ.1 45) (σ.1 50) (σ.1 53) (σ.1 51) (u7_66 + 1) (u8_66 + 1) (σ.2.1 77) (σ.2.1 69) par (σ.2.1 70) nof (g_so (σ.1 48) (σ.2.1 14) (σ.2.1 15) (σ.2.1 10)) ((st (τ30.2.1 80) (u7_66 + 1) x31)) N vs In en (g_H (σ.2.2 4)) (g_H (σ.2.2 5)) (fun p => p < 64 ∧ j_b n2 p) (fun p => p < 64 ∧ j_b n4 p) n1 (¬ n6 = 0) (τ30.2.2 4) (τ30.2.2 5) (τ30.2.2 6) (τ30.2.2 7) (τ30.2.1 79) from by (first | exact ⟨fun _ => n1, fun _ => 0, fun n => n = n1, g_df_0 tr p1 p2 (by first | exact e_x9 | (rw [e_x9, G67])) p8 p9 (by omega) (fun z => absurd (by assumption) z)⟩ | exact ⟨fun _ => n1, fun _ => 0, fun n => n = n1, g_df_0 tr p1 p2 (by first | exact e_x9 | (rw [e_x9, G67])) p8 p9 (by omega) (fun _ => g_RA_0 tr p1 q5_1.2.2.2.2 i0 (fun _ _ _ _ z => z))⟩ | (rw [show u7_66 + (-1) = u7_66 - 1 from by omega]; exact ⟨N, vs, en, g_df_p df (by omega) (by rw [← e_x13]; omega)⟩) | exact ⟨N, st vs x13 1, en, g_df_s df tr p1 (by omega) e_x13 x0 e_x16 (by omega) (Or.inr (Or.inl (by rw [← e_x17]; omega)))⟩ | (rw [g79_τ22, g80_τ22, h4, h5, (q20_2 (by assumption)).1, (q20_2 (by assumption)).2.1]; exact ⟨N, st vs x13 1, en, g_df_s df tr p1 (by omega) e_x13 x0 e_x16 (by omega) (Or.inr (Or.inr (g_st_0 tr p1 (by omega) px lv.1.1 lx.1 (by omega) (by omega) E0 eH hA (by have w := (q20_2 (by assumption)).2.2; rw [o50, o77, o69] at w; exact w))))⟩) | (rw [g80_τ30, g80_τ22]; exact ⟨st N (u7_66 + 1) x13, st vs x13 1, fun n => en n ∨ n = x13, g_df_d (g_df_m df (fun s q z => (q28_1.2.1 s q).1 z) (fun s q z => (q28_1.2.1 s q).2.1 z) (fun s q a b z => q28_1.2.2.1 s _ q (by omega) a b (Or.inr (Or.inr z)))) tr p1 (by omega) e_x13 x0 e_x16 (by omega) (by rw [e_x31, G67]) (by omega) (g_RA_a q28_1 i0 sd (fun s q a b z => (i66_3.2.1 s q a b).1 z)) (fun l hl => by rw [k6, k7]; refine ⟨?_, ?_⟩; (rw [q3.1.1, st_n _ _ (by omega)]); (rw [q3.1.2, st_n _ _ (by omega)])) (by rw [k6, k7, ← e_x26, ← e_x27]; exact sd) (by rw [k6]; exact q3.2.2)⟩) | fail)) (show c_Rs (s_a τ30 80 (u7_66 + 1) x31) par nof In from by (first | exact p6 | exact i66_5 | exact rs7 | exact rs30 | exact rs22 | fail)) (show τ30.2.2 3 = σ.2.2 3 from by (first | rfl | exact i66_6 | exact hf_τ7.2.2 3 (by decide) | exact (k3.trans h3).trans i66_6 | exact h3.trans i66_6 | fail))
          ·
            refine ⟨(⟨by (first | omega | (simp only [st_s] <;> omega) | assumption | omega | fail), by (first | omega | (simp only [st_s] <;> omega) | assumption | omega | fail)⟩ : rg (u7_66 + (-1))), ?_⟩
            refine ⟨(⟨by (first | omega | (simp only [st_s] <;> omega) | assumption | omega | fail), by (first | omega | (simp only [st_s] <;> omega) | assumption | omega | fail)⟩ : rg (u8_66 + 1)), ?_⟩
            exact ih_66 _ _ _ (show (1000001 - (u8_66 + 1) : Int) < ((m_66 : Nat) : Int) from by ((first | omega | (simp only [st_s] <;> omega) | assumption | omega | fail))) hT (show τ_66.1 4 = σ.1 4 from by first | exact W4 | omega) (show τ_66.1 6 = σ.1 6 from by first | exact W6 | omega) (show τ_66.1 7 = σ.1 7 from by first | exact W7 | omega) (show τ_66.1 13 = σ.1 13 from by first | exact W13 | omega) (show τ_66.1 14 = σ.1 14 from by first | exact W14 | omega) (show τ_66.1 15 = σ.1 15 from by first | exact W15 | omega) (show τ_66.1 45 = σ.1 45 from by first | exact W45 | omega) (show τ_66.1 48 = σ.1 48 from by first | exact W48 | omega) (show τ_66.1 50 = σ.1 50 from by first | exact W50 | omega) (show τ_66.1 51 = σ.1 51 from by first | exact W51 | omega) (show τ_66.1 53 = σ.1 53 from by first | exact W53 | omega) G10 G13 G14 G15 G16 G27 G28 G29 G30 G31 G32 G33 G34 G35 G36 G37 G67 G68 G69 G70 G77 G78 (show -1 ≤ (u7_66 + (-1)) from by (first | omega | (simp only [st_s] <;> omega) | assumption | omega | fail)) (show 0 ≤ (u8_66 + 1) ∧ (u8_66 + 1) ≤ 1000000 from by (first | omega | (simp only [st_s] <;> omega) | assumption | omega | fail)) (show g_wr (σ.1 53) (σ.1 50) (σ.1 4) (σ.1 51) (fun e => ∃ p : Int, 0 ≤ p ∧ p < 64 ∧ j_b n2 p ∧ (p < e ∨ (¬ n6 = 0 ∧ p = e))) (fun rn => ∃ rc : Int → Int → Prop, (∀ e : Int, 0 ≤ e → e < 64 → j_b n2 e → rc n1 e) ∧ (∀ n c q q2 : Int, 1 ≤ c → par c = n → (σ.1 53) < q → rc n q → g_mk (σ.1 50) (σ.2.1 77) (g_H (σ.2.2 4)) (σ.2.1 69 c) q q2 → rc c q2) ∧ ∀ n e : Int, rc n e → (n ≠ n1 ∨ ¬ n6 = 0) → rn n e) (σ.2.2 4) (σ.2.2 5) (τ_66.2.2 4) (τ_66.2.2 5) (σ.2.1 79) (τ_66.2.1 79) (σ.2.1 78) (g_so (σ.1 48) (σ.2.1 14) (σ.2.1 15) (σ.2.1 10)) nof In from by (first | exact g_wr0 _ _ _ _ _ _ _ _ _ _ _ _ _ | exact i66_3 | exact g_wr_a (g_wr0 _ _ _ _ _ _ _ _ _ _ _ _ _) q5_1 (fun e a b z => ⟨e, a, b, z, Or.inr ⟨by assumption, rfl⟩⟩) p9 (fun rn h e a b z => by have q9 := h; obtain ⟨rc, h1, h2, h3⟩ := q9; exact h3 n1 e (h1 e a b z) (Or.inr (by assumption))) | (rw [h4, h5, g79_τ22]; exact i66_3) | exact g_wr_a (show g_wr (σ.1 53) (σ.1 50) (σ.1 4) (σ.1 51) _ _ _ _ (τ_66.2.2 4) (τ_66.2.2 5) _ (τ_66.2.1 79) _ _ _ _ from i66_3) q28_1 (fun e a b z => g_xn ((sd e a b).1.mp z) xn1) (fun e a b z => (sd e a b).2.2.1 z) (fun rn h e a b z => by have q9 := h; obtain ⟨rc, h1, h2, h3⟩ := q9; exact h3 x13 e (g_xr ((sd e a b).1.mp z) (fun p a b c => (p8 p a b c).1) h1 h2) (Or.inl xn1)) | fail)) (show ∃ N vs : Int → Int, ∃ en : Int → Prop, g_df (σ.1 45) (σ.1 50) (σ.1 53) (σ.1 51) (u7_66 + (-1)) (u8_66 + 1) (σ.2.1 77) (σ.2.1 69) par (σ.2.1 70) nof (g_so (σ.1 48) (σ.2.1 14) (σ.2.1 15) (σ.2.1 10)) (τ_66.2.1 80) N vs In en (g_H (σ.2.2 4)) (g_H (σ.2.2 5)) (fun p => p < 64 ∧ j_b n2 p) (fun p => p < 64 ∧ j_b n4 p) n1 (¬ n6 = 0) (τ_66.2.2 4) (τ_66.2.2 5) (τ_66.2.2 6) (τ_66.2.2 7) (τ_66.2.1 79) from by (first | exact ⟨fun _ => n1, fun _ => 0, fun n => n = n1, g_df_0 tr p1 p2 (by first | exact e_x9 | (rw [e_x9, G67])) p8 p9 (by omega) (fun z => absurd (by assumption) z)⟩ | exact ⟨fun _ => n1, fun _ => 0, fun n => n = n1, g_df_0 tr p1 p2 (by first | exact e_x9 | (rw [e_x9, G67])) p8 p9 (by omega) (fun _ => g_RA_0 tr p1 q5_1.2.2.2.2 i0 (fun _ _ _ _ z => z))⟩ | (rw [show u7_66 + (-1) = u7_66 - 1 from by omega]; exact ⟨N, vs, en, g_df_p df (by omega) (by rw [← e_x13]; omega)⟩) | exact ⟨N, st vs x13 1, en, g_df_s df tr p1 (by omega) e_x13 x0 e_x16 (by omega) (Or.inr (Or.inl (by rw [← e_x17]; omega)))⟩ | (rw [g79_τ22, g80_τ22, h4, h5, (q20_2 (by assumption)).1, (q20_2 (by assumption)).2.1]; exact ⟨N, st vs x13 1, en, g_df_s df tr p1 (by omega) e_x13 x0 e_x16 (by omega) (Or.inr (Or.inr (g_st_0 tr p1 (by omega) px lv.1.1 lx.1 (by omega) (by omega) E0 eH hA (by have w := (q20_2 (by assumption)).2.2; rw [o50, o77, o69] at w; exact w))))⟩) | (rw [g80_τ30, g80_τ22]; exact ⟨st N (u7_66 + 1) x13, st vs x13 1, fun n => en n ∨ n = x13, g_df_d (g_df_m df (fun s q z => (q28_1.2.1 s q).1 z) (fun s q z => (q28_1.2.1 s q).2.1 z) (fun s q a b z => q28_1.2.2.1 s _ q (by omega) a b (Or.inr (Or.inr z)))) tr p1 (by omega) e_x13 x0 e_x16 (by omega) (by rw [e_x31, G67]) (by omega) (g_RA_a q28_1 i0 sd (fun s q a b z => (i66_3.2.1 s q a b).1 z)) (fun l hl => by rw [k6, k7]; refine ⟨?_, ?_⟩; (rw [q3.1.1, st_n _ _ (by omega)]); (rw [q3.1.2, st_n _ _ (by omega)])) (by rw [k6, k7, ← e_x26, ← e_x27]; exact sd) (by rw [k6]; exact q3.2.2)⟩) | fail)) (show c_Rs τ_66 par nof In from by (first | exact p6 | exact i66_5 | exact rs7 | exact rs30 | exact rs22 | fail)) (show τ_66.2.2 3 = σ.2.2 3 from by (first | rfl | exact i66_6 | exact hf_τ7.2.2 3 (by decide) | exact (k3.trans h3).trans i66_6 | exact h3.trans i66_6 | fail))
  refine ⟨(show 0 ≤ n1 ∧ n1 < 30001 from by (first | omega | (simp only [st_s] <;> omega) | assumption | omega | fail)), ?_⟩
  intro x2 r_x2 e_x2
  have b_x2 : 0 ≤ x2 ∧ x2 ≤ 1499 := by rw [e_x2]; exact hT.2 70 _
  refine ⟨fun c3 => ?_, fun c3 => ?_⟩
  ·
    refine ⟨fun c4 => ?_, fun c4 => ?_⟩
    ·
      refine h30 _ _ _ _ ?_
      refine ⟨(show 0 ≤ n1 ∧ n1 < 30001 from by (first | omega | (simp only [st_s] <;> omega) | assumption | omega | fail)), ?_⟩
      intro x9 r_x9 e_x9
      have b_x9 : 0 ≤ x9 ∧ x9 ≤ 30000 := by rw [e_x9]; exact hT.2 67 _
      replace hT := cT_a (k := 80) (j := 0) hT (show (0 : Int) ≤ x9 ∧ x9 ≤ 30000 from by (first | omega | (simp only [st_s] <;> omega) | assumption | omega | fail))
      replace hT := cT_b (k := 6) (j := 0) (x := n2) hT
      replace hT := cT_b (k := 7) (j := 0) (x := n4) hT
      exact l_66 ((1000001 - 0 : Int).toNat + 1) _ _ _ (show (1000001 - 0 : Int) < (((1000001 - 0 : Int).toNat + 1 : Nat) : Int) from by ((first | omega | (simp only [st_s] <;> omega) | assumption | omega | fail))) hT (show σ.1 4 = σ.1 4 from by first | exact W4 | omega) (show σ.1 6 = σ.1 6 from by first | exact W6 | omega) (show σ.1 7 = σ.1 7 from by first | exact W7 | omega) (show σ.1 13 = σ.1 13 from by first | exact W13 | omega) (show σ.1 14 = σ.1 14 from by first | exact W14 | omega) (show σ.1 15 = σ.1 15 from by first | exact W15 | omega) (show σ.1 45 = σ.1 45 from by first | exact W45 | omega) (show σ.1 48 = σ.1 48 from by first | exact W48 | omega) (show σ.1 50 = σ.1 50 from by first | exact W50 | omega) (show σ.1 51 = σ.1 51 from by first | exact W51 | omega) (show σ.1 53 = σ.1 53 from by first | exact W53 | omega) G10 G13 G14 G15 G16 G27 G28 G29 G30 G31 G32 G33 G34 G35 G36 G37 G67 G68 G69 G70 G77 G78 (show -1 ≤ 0 from by (first | omega | (simp only [st_s] <;> omega) | assumption | omega | fail)) (show 0 ≤ 0 ∧ 0 ≤ 1000000 from by (first | omega | (simp only [st_s] <;> omega) | assumption | omega | fail)) (show g_wr (σ.1 53) (σ.1 50) (σ.1 4) (σ.1 51) (fun e => ∃ p : Int, 0 ≤ p ∧ p < 64 ∧ j_b n2 p ∧ (p < e ∨ (¬ n6 = 0 ∧ p = e))) (fun rn => ∃ rc : Int → Int → Prop, (∀ e : Int, 0 ≤ e → e < 64 → j_b n2 e → rc n1 e) ∧ (∀ n c q q2 : Int, 1 ≤ c → par c = n → (σ.1 53) < q → rc n q → g_mk (σ.1 50) (σ.2.1 77) (g_H (σ.2.2 4)) (σ.2.1 69 c) q q2 → rc c q2) ∧ ∀ n e : Int, rc n e → (n ≠ n1 ∨ ¬ n6 = 0) → rn n e) (σ.2.2 4) (σ.2.2 5) (σ.2.2 4) (σ.2.2 5) (σ.2.1 79) (σ.2.1 79) (σ.2.1 78) (g_so (σ.1 48) (σ.2.1 14) (σ.2.1 15) (σ.2.1 10)) nof In from by (first | exact g_wr0 _ _ _ _ _ _ _ _ _ _ _ _ _ | exact i66_3 | exact g_wr_a (g_wr0 _ _ _ _ _ _ _ _ _ _ _ _ _) q5_1 (fun e a b z => ⟨e, a, b, z, Or.inr ⟨by assumption, rfl⟩⟩) p9 (fun rn h e a b z => by have q9 := h; obtain ⟨rc, h1, h2, h3⟩ := q9; exact h3 n1 e (h1 e a b z) (Or.inr (by assumption))) | (rw [h4, h5, g79_τ22]; exact i66_3) | exact g_wr_a (show g_wr (σ.1 53) (σ.1 50) (σ.1 4) (σ.1 51) _ _ _ _ (τ_66.2.2 4) (τ_66.2.2 5) _ (τ_66.2.1 79) _ _ _ _ from i66_3) q28_1 (fun e a b z => g_xn ((sd e a b).1.mp z) xn1) (fun e a b z => (sd e a b).2.2.1 z) (fun rn h e a b z => by have q9 := h; obtain ⟨rc, h1, h2, h3⟩ := q9; exact h3 x13 e (g_xr ((sd e a b).1.mp z) (fun p a b c => (p8 p a b c).1) h1 h2) (Or.inl xn1)) | fail)) (show ∃ N vs : Int → Int, ∃ en : Int → Prop, g_df (σ.1 45) (σ.1 50) (σ.1 53) (σ.1 51) 0 0 (σ.2.1 77) (σ.2.1 69) par (σ.2.1 70) nof (g_so (σ.1 48) (σ.2.1 14) (σ.2.1 15) (σ.2.1 10)) ((st (σ.2.1 80) 0 x9)) N vs In en (g_H (σ.2.2 4)) (g_H (σ.2.2 5)) (fun p => p < 64 ∧ j_b n2 p) (fun p => p < 64 ∧ j_b n4 p) n1 (¬ n6 = 0) (σ.2.2 4) (σ.2.2 5) ((st (σ.2.2 6) 0 n2)) ((st (σ.2.2 7) 0 n4)) (σ.2.1 79) from by (first | exact ⟨fun _ => n1, fun _ => 0, fun n => n = n1, g_df_0 tr p1 p2 (by first | exact e_x9 | (rw [e_x9, G67])) p8 p9 (by omega) (fun z => absurd (by assumption) z)⟩ | exact ⟨fun _ => n1, fun _ => 0, fun n => n = n1, g_df_0 tr p1 p2 (by first | exact e_x9 | (rw [e_x9, G67])) p8 p9 (by omega) (fun _ => g_RA_0 tr p1 q5_1.2.2.2.2 i0 (fun _ _ _ _ z => z))⟩ | (rw [show u7_66 + (-1) = u7_66 - 1 from by omega]; exact ⟨N, vs, en, g_df_p df (by omega) (by rw [← e_x13]; omega)⟩) | exact ⟨N, st vs x13 1, en, g_df_s df tr p1 (by omega) e_x13 x0 e_x16 (by omega) (Or.inr (Or.inl (by rw [← e_x17]; omega)))⟩ | (rw [g79_τ22, g80_τ22, h4, h5, (q20_2 (by assumption)).1, (q20_2 (by assumption)).2.1]; exact ⟨N, st vs x13 1, en, g_df_s df tr p1 (by omega) e_x13 x0 e_x16 (by omega) (Or.inr (Or.inr (g_st_0 tr p1 (by omega) px lv.1.1 lx.1 (by omega) (by omega) E0 eH hA (by have w := (q20_2 (by assumption)).2.2; rw [o50, o77, o69] at w; exact w))))⟩) | (rw [g80_τ30, g80_τ22]; exact ⟨st N (u7_66 + 1) x13, st vs x13 1, fun n => en n ∨ n = x13, g_df_d (g_df_m df (fun s q z => (q28_1.2.1 s q).1 z) (fun s q z => (q28_1.2.1 s q).2.1 z) (fun s q a b z => q28_1.2.2.1 s _ q (by omega) a b (Or.inr (Or.inr z)))) tr p1 (by omega) e_x13 x0 e_x16 (by omega) (by rw [e_x31, G67]) (by omega) (g_RA_a q28_1 i0 sd (fun s q a b z => (i66_3.2.1 s q a b).1 z)) (fun l hl => by rw [k6, k7]; refine ⟨?_, ?_⟩; (rw [q3.1.1, st_n _ _ (by omega)]); (rw [q3.1.2, st_n _ _ (by omega)])) (by rw [k6, k7, ← e_x26, ← e_x27]; exact sd) (by rw [k6]; exact q3.2.2)⟩) | fail)) (show c_Rs (s_b (s_b (s_a σ 80 0 x9) 6 0 n2) 7 0 n4) par nof In from by (first | exact p6 | exact i66_5 | exact rs7 | exact rs30 | exact rs22 | fail)) (show σ.2.2 3 = σ.2.2 3 from by (first | rfl | exact i66_6 | exact hf_τ7.2.2 3 (by decide) | exact (k3.trans h3).trans i66_6 | exact h3.trans i66_6 | fail))
    ·
      refine ⟨_, K_X1_addRules hT (show 0 ≤ n1 from by (first | omega | (simp only [st_s] <;> omega) | assumption | omega | fail)) (show n1 < (σ.1 45) from by (first | omega | (simp only [st_s] <;> omega) | assumption | omega | fail)) (show J_all (σ.1 7) (σ.1 6) (σ.1 13) (σ.1 14) (σ.1 15) (σ.2.1 13) (σ.2.1 14) (σ.2.1 15) (σ.2.1 16) (σ.2.1 10) (σ.2.1 27) (σ.2.1 28) (σ.2.1 29) (σ.2.1 30) (σ.2.1 31) (σ.2.1 32) (σ.2.1 33) (σ.2.1 34) (σ.2.1 35) (σ.2.1 36) (σ.2.1 37) from CJ) (show c_Rs σ par nof In from by (first | omega | (simp only [st_s] <;> omega) | assumption | omega | fail)) (show (σ.1 53) < (σ.1 50) from by (first | omega | (simp only [st_s] <;> omega) | assumption | omega | fail)) (show ∀ e : Int, 0 ≤ e → e < 64 → j_b n2 e → (σ.1 53) < e ∧ e ≤ (σ.1 50) from by (first | omega | (simp only [st_s] <;> omega) | assumption | omega | fail)) (show ∀ e : Int, 0 ≤ e → e < 64 → j_b n4 e → j_b n2 e from by (first | omega | (simp only [st_s] <;> omega) | assumption | omega | fail)), ?_⟩
      intro τ7 hn_τ7 hf_τ7 hq
      obtain ⟨hT, q5_1⟩ := hq
      replace q5_1 : g_ad (σ.1 53) (σ.1 50) (σ.1 4) (σ.1 51) n1 0 n2 n4 (σ.2.2 4) (σ.2.2 5) (τ7.2.2 4) (τ7.2.2 5) (σ.2.1 79) (τ7.2.1 79) (σ.2.1 78) (g_so (σ.1 48) (σ.2.1 14) (σ.2.1 15) (σ.2.1 10)) nof In := q5_1
      have w4_τ7 : τ7.1 4 = σ.1 4 := hf_τ7.1 4 (by decide)
      have w6_τ7 : τ7.1 6 = σ.1 6 := hf_τ7.1 6 (by decide)
      have w7_τ7 : τ7.1 7 = σ.1 7 := hf_τ7.1 7 (by decide)
      have w13_τ7 : τ7.1 13 = σ.1 13 := hf_τ7.1 13 (by decide)
      have w14_τ7 : τ7.1 14 = σ.1 14 := hf_τ7.1 14 (by decide)
      have w15_τ7 : τ7.1 15 = σ.1 15 := hf_τ7.1 15 (by decide)
      have w45_τ7 : τ7.1 45 = σ.1 45 := hf_τ7.1 45 (by decide)
      have w48_τ7 : τ7.1 48 = σ.1 48 := hf_τ7.1 48 (by decide)
      have w50_τ7 : τ7.1 50 = σ.1 50 := hf_τ7.1 50 (by decide)
      have w51_τ7 : τ7.1 51 = σ.1 51 := hf_τ7.1 51 (by decide)
      have w53_τ7 : τ7.1 53 = σ.1 53 := hf_τ7.1 53 (by decide)
      have g10_τ7 : τ7.2.1 10 = σ.2.1 10 := hf_τ7.2.1 10 (by decide)
      have g13_τ7 : τ7.2.1 13 = σ.2.1 13 := hf_τ7.2.1 13 (by decide)
      have g14_τ7 : τ7.2.1 14 = σ.2.1 14 := hf_τ7.2.1 14 (by decide)
      have g15_τ7 : τ7.2.1 15 = σ.2.1 15 := hf_τ7.2.1 15 (by decide)
      have g16_τ7 : τ7.2.1 16 = σ.2.1 16 := hf_τ7.2.1 16 (by decide)
      have g27_τ7 : τ7.2.1 27 = σ.2.1 27 := hf_τ7.2.1 27 (by decide)
      have g28_τ7 : τ7.2.1 28 = σ.2.1 28 := hf_τ7.2.1 28 (by decide)
      have g29_τ7 : τ7.2.1 29 = σ.2.1 29 := hf_τ7.2.1 29 (by decide)
      have g30_τ7 : τ7.2.1 30 = σ.2.1 30 := hf_τ7.2.1 30 (by decide)
      have g31_τ7 : τ7.2.1 31 = σ.2.1 31 := hf_τ7.2.1 31 (by decide)
      have g32_τ7 : τ7.2.1 32 = σ.2.1 32 := hf_τ7.2.1 32 (by decide)
      have g33_τ7 : τ7.2.1 33 = σ.2.1 33 := hf_τ7.2.1 33 (by decide)
      have g34_τ7 : τ7.2.1 34 = σ.2.1 34 := hf_τ7.2.1 34 (by decide)
      have g35_τ7 : τ7.2.1 35 = σ.2.1 35 := hf_τ7.2.1 35 (by decide)
      have g36_τ7 : τ7.2.1 36 = σ.2.1 36 := hf_τ7.2.1 36 (by decide)
      have g37_τ7 : τ7.2.1 37 = σ.2.1 37 := hf_τ7.2.1 37 (by decide)
      have g67_τ7 : τ7.2.1 67 = σ.2.1 67 := hf_τ7.2.1 67 (by decide)
      have g68_τ7 : τ7.2.1 68 = σ.2.1 68 := hf_τ7.2.1 68 (by decide)
      have g69_τ7 : τ7.2.1 69 = σ.2.1 69 := hf_τ7.2.1 69 (by decide)
      have g70_τ7 : τ7.2.1 70 = σ.2.1 70 := hf_τ7.2.1 70 (by decide)
      have g77_τ7 : τ7.2.1 77 = σ.2.1 77 := hf_τ7.2.1 77 (by decide)
      have g78_τ7 : τ7.2.1 78 = σ.2.1 78 := hf_τ7.2.1 78 (by decide)
      have g80_τ7 : τ7.2.1 80 = σ.2.1 80 := hf_τ7.2.1 80 (by decide)
      have W4 : τ7.1 4 = σ.1 4 := by first | exact w4_τ7.trans W4 | omega
      have W6 : τ7.1 6 = σ.1 6 := by first | exact w6_τ7.trans W6 | omega
      have W7 : τ7.1 7 = σ.1 7 := by first | exact w7_τ7.trans W7 | omega
      have W13 : τ7.1 13 = σ.1 13 := by first | exact w13_τ7.trans W13 | omega
      have W14 : τ7.1 14 = σ.1 14 := by first | exact w14_τ7.trans W14 | omega
      have W15 : τ7.1 15 = σ.1 15 := by first | exact w15_τ7.trans W15 | omega
      have W45 : τ7.1 45 = σ.1 45 := by first | exact w45_τ7.trans W45 | omega
      have W48 : τ7.1 48 = σ.1 48 := by first | exact w48_τ7.trans W48 | omega
      have W50 : τ7.1 50 = σ.1 50 := by first | exact w50_τ7.trans W50 | omega
      have W51 : τ7.1 51 = σ.1 51 := by first | exact w51_τ7.trans W51 | omega
      have W53 : τ7.1 53 = σ.1 53 := by first | exact w53_τ7.trans W53 | omega
      have G10 : τ7.2.1 10 = σ.2.1 10 := (g10_τ7).trans G10
      have G13 : τ7.2.1 13 = σ.2.1 13 := (g13_τ7).trans G13
      have G14 : τ7.2.1 14 = σ.2.1 14 := (g14_τ7).trans G14
      have G15 : τ7.2.1 15 = σ.2.1 15 := (g15_τ7).trans G15
      have G16 : τ7.2.1 16 = σ.2.1 16 := (g16_τ7).trans G16
      have G27 : τ7.2.1 27 = σ.2.1 27 := (g27_τ7).trans G27
      have G28 : τ7.2.1 28 = σ.2.1 28 := (g28_τ7).trans G28
      have G29 : τ7.2.1 29 = σ.2.1 29 := (g29_τ7).trans G29
      have G30 : τ7.2.1 30 = σ.2.1 30 := (g30_τ7).trans G30
      have G31 : τ7.2.1 31 = σ.2.1 31 := (g31_τ7).trans G31
      have G32 : τ7.2.1 32 = σ.2.1 32 := (g32_τ7).trans G32
      have G33 : τ7.2.1 33 = σ.2.1 33 := (g33_τ7).trans G33
      have G34 : τ7.2.1 34 = σ.2.1 34 := (g34_τ7).trans G34
      have G35 : τ7.2.1 35 = σ.2.1 35 := (g35_τ7).trans G35
      have G36 : τ7.2.1 36 = σ.2.1 36 := (g36_τ7).trans G36
      have G37 : τ7.2.1 37 = σ.2.1 37 := (g37_τ7).trans G37
      have G67 : τ7.2.1 67 = σ.2.1 67 := (g67_τ7).trans G67
      have G68 : τ7.2.1 68 = σ.2.1 68 := (g68_τ7).trans G68
      have G69 : τ7.2.1 69 = σ.2.1 69 := (g69_τ7).trans G69
      have G70 : τ7.2.1 70 = σ.2.1 70 := (g70_τ7).trans G70
      have G77 : τ7.2.1 77 = σ.2.1 77 := (g77_τ7).trans G77
      have G78 : τ7.2.1 78 = σ.2.1 78 := (g78_τ7).trans G78
      have CJ : J_all (τ7.1 7) (τ7.1 6) (τ7.1 13) (τ7.1 14) (τ7.1 15) (τ7.2.1 13) (τ7.2.1 14) (τ7.2.1 15) (τ7.2.1 16) (τ7.2.1 10) (τ7.2.1 27) (τ7.2.1 28) (τ7.2.1 29) (τ7.2.1 30) (τ7.2.1 31) (τ7.2.1 32) (τ7.2.1 33) (τ7.2.1 34) (τ7.2.1 35) (τ7.2.1 36) (τ7.2.1 37) := by rw [show (J_all (τ7.1 7) (τ7.1 6) (τ7.1 13) (τ7.1 14) (τ7.1 15) (τ7.2.1 13) (τ7.2.1 14) (τ7.2.1 15) (τ7.2.1 16) (τ7.2.1 10) (τ7.2.1 27) (τ7.2.1 28) (τ7.2.1 29) (τ7.2.1 30) (τ7.2.1 31) (τ7.2.1 32) (τ7.2.1 33) (τ7.2.1 34) (τ7.2.1 35) (τ7.2.1 36) (τ7.2.1 37)) = (J_all (σ.1 7) (σ.1 6) (σ.1 13) (σ.1 14) (σ.1 15) (σ.2.1 13) (σ.2.1 14) (σ.2.1 15) (σ.2.1 16) (σ.2.1 10) (σ.2.1 27) (σ.2.1 28) (σ.2.1 29) (σ.2.1 30) (σ.2.1 31) (σ.2.1 32) (σ.2.1 33) (σ.2.1 34) (σ.2.1 35) (σ.2.1 36) (σ.2.1 37)) from by rw [w6_τ7, w7_τ7, w13_τ7, w14_τ7, w15_τ7, g10_τ7, g13_τ7, g14_τ7, g15_τ7, g16_τ7, g27_τ7, g28_τ7, g29_τ7, g30_τ7, g31_τ7, g32_τ7, g33_τ7, g34_τ7, g35_τ7, g36_τ7, g37_τ7]]; exact CJ
      have A10 : ∀ j, (-1) ≤ τ7.2.1 10 j ∧ τ7.2.1 10 j ≤ 99 := fun j => hT.2 10 j
      have A13 : ∀ j, 0 ≤ τ7.2.1 13 j ∧ τ7.2.1 13 j ≤ 4 := fun j => hT.2 13 j
      have A14 : ∀ j, 0 ≤ τ7.2.1 14 j ∧ τ7.2.1 14 j ≤ 30000 := fun j => hT.2 14 j
      have A15 : ∀ j, 0 ≤ τ7.2.1 15 j ∧ τ7.2.1 15 j ≤ 999 := fun j => hT.2 15 j
      have A16 : ∀ j, (-1) ≤ τ7.2.1 16 j ∧ τ7.2.1 16 j ≤ 1499 := fun j => hT.2 16 j
      have A27 : ∀ j, 0 ≤ τ7.2.1 27 j ∧ τ7.2.1 27 j ≤ 90000 := fun j => hT.2 27 j
      have A28 : ∀ j, 0 ≤ τ7.2.1 28 j ∧ τ7.2.1 28 j ≤ 60 := fun j => hT.2 28 j
      have A29 : ∀ j, 0 ≤ τ7.2.1 29 j ∧ τ7.2.1 29 j ≤ 1499 := fun j => hT.2 29 j
      have A30 : ∀ j, 0 ≤ τ7.2.1 30 j ∧ τ7.2.1 30 j ≤ 20000 := fun j => hT.2 30 j
      have A31 : ∀ j, 0 ≤ τ7.2.1 31 j ∧ τ7.2.1 31 j ≤ 20000 := fun j => hT.2 31 j
      have A32 : ∀ j, 0 ≤ τ7.2.1 32 j ∧ τ7.2.1 32 j ≤ 999999 := fun j => hT.2 32 j
      have A33 : ∀ j, 0 ≤ τ7.2.1 33 j ∧ τ7.2.1 33 j ≤ 20000 := fun j => hT.2 33 j
      have A34 : ∀ j, 0 ≤ τ7.2.1 34 j ∧ τ7.2.1 34 j ≤ 20000 := fun j => hT.2 34 j
      have A35 : ∀ j, 0 ≤ τ7.2.1 35 j ∧ τ7.2.1 35 j ≤ 1499 := fun j => hT.2 35 j
      have A36 : ∀ j, 0 ≤ τ7.2.1 36 j ∧ τ7.2.1 36 j ≤ 20000 := fun j => hT.2 36 j
      have A37 : ∀ j, 0 ≤ τ7.2.1 37 j ∧ τ7.2.1 37 j ≤ 19999 := fun j => hT.2 37 j
      have A67 : ∀ j, 0 ≤ τ7.2.1 67 j ∧ τ7.2.1 67 j ≤ 30000 := fun j => hT.2 67 j
      have A68 : ∀ j, 0 ≤ τ7.2.1 68 j ∧ τ7.2.1 68 j ≤ 30000 := fun j => hT.2 68 j
      have A69 : ∀ j, (-100) ≤ τ7.2.1 69 j ∧ τ7.2.1 69 j ≤ 999 := fun j => hT.2 69 j
      have A70 : ∀ j, 0 ≤ τ7.2.1 70 j ∧ τ7.2.1 70 j ≤ 1499 := fun j => hT.2 70 j
      have A77 : ∀ j, 0 ≤ τ7.2.1 77 j ∧ τ7.2.1 77 j ≤ 999 := fun j => hT.2 77 j
      have A78 : ∀ j, (-1) ≤ τ7.2.1 78 j ∧ τ7.2.1 78 j ≤ 1499 := fun j => hT.2 78 j
      have A79 : ∀ j, 0 ≤ τ7.2.1 79 j ∧ τ7.2.1 79 j ≤ 1499 := fun j => hT.2 79 j
      have A80 : ∀ j, 0 ≤ τ7.2.1 80 j ∧ τ7.2.1 80 j ≤ 30000 := fun j => hT.2 80 j
      have v4 : 0 ≤ τ7.1 4 ∧ τ7.1 4 ≤ 100 := hT.1 4
      have v6 : 0 ≤ τ7.1 6 ∧ τ7.1 6 ≤ 30000 := hT.1 6
      have v7 : 0 ≤ τ7.1 7 ∧ τ7.1 7 ≤ 1500 := hT.1 7
      have v13 : 0 ≤ τ7.1 13 ∧ τ7.1 13 ≤ 90000 := hT.1 13
      have v14 : 0 ≤ τ7.1 14 ∧ τ7.1 14 ≤ 20000 := hT.1 14
      have v15 : 0 ≤ τ7.1 15 ∧ τ7.1 15 ≤ 20000 := hT.1 15
      have v45 : 1 ≤ τ7.1 45 ∧ τ7.1 45 ≤ 30001 := hT.1 45
      have v48 : (-1) ≤ τ7.1 48 ∧ τ7.1 48 ≤ 999 := hT.1 48
      have v50 : 0 ≤ τ7.1 50 ∧ τ7.1 50 ≤ 59 := hT.1 50
      have v51 : 0 ≤ τ7.1 51 ∧ τ7.1 51 ≤ 1500 := hT.1 51
      have v53 : 0 ≤ τ7.1 53 ∧ τ7.1 53 ≤ 58 := hT.1 53
      have rs7 := c_Rs_h p6 hf_τ7 rfl
      refine h30 _ _ _ _ ?_
      refine ⟨(show 0 ≤ n1 ∧ n1 < 30001 from by (first | omega | (simp only [st_s] <;> omega) | assumption | omega | fail)), ?_⟩
      intro x9 r_x9 e_x9
      have b_x9 : 0 ≤ x9 ∧ x9 ≤ 30000 := by rw [e_x9]; exact hT.2 67 _
      replace hT := cT_a (k := 80) (j := 0) hT (show (0 : Int) ≤ x9 ∧ x9 ≤ 30000 from by (first | omega | (simp only [st_s] <;> omega) | assumption | omega | fail))
      replace hT := cT_b (k := 6) (j := 0) (x := n2) hT
      replace hT := cT_b (k := 7) (j := 0) (x := n4) hT
      exact l_66 ((1000001 - 0 : Int).toNat + 1) _ _ _ (show (1000001 - 0 : Int) < (((1000001 - 0 : Int).toNat + 1 : Nat) : Int) from by ((first | omega | (simp only [st_s] <;> omega) | assumption | omega | fail))) hT (show τ7.1 4 = σ.1 4 from by first | exact W4 | omega) (show τ7.1 6 = σ.1 6 from by first | exact W6 | omega) (show τ7.1 7 = σ.1 7 from by first | exact W7 | omega) (show τ7.1 13 = σ.1 13 from by first | exact W13 | omega) (show τ7.1 14 = σ.1 14 from by first | exact W14 | omega) (show τ7.1 15 = σ.1 15 from by first | exact W15 | omega) (show τ7.1 45 = σ.1 45 from by first | exact W45 | omega) (show τ7.1 48 = σ.1 48 from by first | exact W48 | omega) (show τ7.1 50 = σ.1 50 from by first | exact W50 | omega) (show τ7.1 51 = σ.1 51 from by first | exact W51 | omega) (show τ7.1 53 = σ.1 53 from by first | exact W53 | omega) G10 G13 G14 G15 G16 G27 G28 G29 G30 G31 G32 G33 G34 G35 G36 G37 G67 G68 G69 G70 G77 G78 (show -1 ≤ 0 from by (first | omega | (simp only [st_s] <;> omega) | assumption | omega | fail)) (show 0 ≤ 0 ∧ 0 ≤ 1000000 from by (first | omega | (simp only [st_s] <;> omega) | assumption | omega | fail)) (show g_wr (σ.1 53) (σ.1 50) (σ.1 4) (σ.1 51) (fun e => ∃ p : Int, 0 ≤ p ∧ p < 64 ∧ j_b n2 p ∧ (p < e ∨ (¬ n6 = 0 ∧ p = e))) (fun rn => ∃ rc : Int → Int → Prop, (∀ e : Int, 0 ≤ e → e < 64 → j_b n2 e → rc n1 e) ∧ (∀ n c q q2 : Int, 1 ≤ c → par c = n → (σ.1 53) < q → rc n q → g_mk (σ.1 50) (σ.2.1 77) (g_H (σ.2.2 4)) (σ.2.1 69 c) q q2 → rc c q2) ∧ ∀ n e : Int, rc n e → (n ≠ n1 ∨ ¬ n6 = 0) → rn n e) (σ.2.2 4) (σ.2.2 5) (τ7.2.2 4) (τ7.2.2 5) (σ.2.1 79) (τ7.2.1 79) (σ.2.1 78) (g_so (σ.1 48) (σ.2.1 14) (σ.2.1 15) (σ.2.1 10)) nof In from by (first | exact g_wr0 _ _ _ _ _ _ _ _ _ _ _ _ _ | exact i66_3 | exact g_wr_a (g_wr0 _ _ _ _ _ _ _ _ _ _ _ _ _) q5_1 (fun e a b z => ⟨e, a, b, z, Or.inr ⟨by assumption, rfl⟩⟩) p9 (fun rn h e a b z => by have q9 := h; obtain ⟨rc, h1, h2, h3⟩ := q9; exact h3 n1 e (h1 e a b z) (Or.inr (by assumption))) | (rw [h4, h5, g79_τ22]; exact i66_3) | exact g_wr_a (show g_wr (σ.1 53) (σ.1 50) (σ.1 4) (σ.1 51) _ _ _ _ (τ_66.2.2 4) (τ_66.2.2 5) _ (τ_66.2.1 79) _ _ _ _ from i66_3) q28_1 (fun e a b z => g_xn ((sd e a b).1.mp z) xn1) (fun e a b z => (sd e a b).2.2.1 z) (fun rn h e a b z => by have q9 := h; obtain ⟨rc, h1, h2, h3⟩ := q9; exact h3 x13 e (g_xr ((sd e a b).1.mp z) (fun p a b c => (p8 p a b c).1) h1 h2) (Or.inl xn1)) | fail)) (show ∃ N vs : Int → Int, ∃ en : Int → Prop, g_df (σ.1 45) (σ.1 50) (σ.1 53) (σ.1 51) 0 0 (σ.2.1 77) (σ.2.1 69) par (σ.2.1 70) nof (g_so (σ.1 48) (σ.2.1 14) (σ.2.1 15) (σ.2.1 10)) ((st (τ7.2.1 80) 0 x9)) N vs In en (g_H (σ.2.2 4)) (g_H (σ.2.2 5)) (fun p => p < 64 ∧ j_b n2 p) (fun p => p < 64 ∧ j_b n4 p) n1 (¬ n6 = 0) (τ7.2.2 4) (τ7.2.2 5) ((st (τ7.2.2 6) 0 n2)) ((st (τ7.2.2 7) 0 n4)) (τ7.2.1 79) from by (first | exact ⟨fun _ => n1, fun _ => 0, fun n => n = n1, g_df_0 tr p1 p2 (by first | exact e_x9 | (rw [e_x9, G67])) p8 p9 (by omega) (fun z => absurd (by assumption) z)⟩ | exact ⟨fun _ => n1, fun _ => 0, fun n => n = n1, g_df_0 tr p1 p2 (by first | exact e_x9 | (rw [e_x9, G67])) p8 p9 (by omega) (fun _ => g_RA_0 tr p1 q5_1.2.2.2.2 i0 (fun _ _ _ _ z => z))⟩ | (rw [show u7_66 + (-1) = u7_66 - 1 from by omega]; exact ⟨N, vs, en, g_df_p df (by omega) (by rw [← e_x13]; omega)⟩) | exact ⟨N, st vs x13 1, en, g_df_s df tr p1 (by omega) e_x13 x0 e_x16 (by omega) (Or.inr (Or.inl (by rw [← e_x17]; omega)))⟩ | (rw [g79_τ22, g80_τ22, h4, h5, (q20_2 (by assumption)).1, (q20_2 (by assumption)).2.1]; exact ⟨N, st vs x13 1, en, g_df_s df tr p1 (by omega) e_x13 x0 e_x16 (by omega) (Or.inr (Or.inr (g_st_0 tr p1 (by omega) px lv.1.1 lx.1 (by omega) (by omega) E0 eH hA (by have w := (q20_2 (by assumption)).2.2; rw [o50, o77, o69] at w; exact w))))⟩) | (rw [g80_τ30, g80_τ22]; exact ⟨st N (u7_66 + 1) x13, st vs x13 1, fun n => en n ∨ n = x13, g_df_d (g_df_m df (fun s q z => (q28_1.2.1 s q).1 z) (fun s q z => (q28_1.2.1 s q).2.1 z) (fun s q a b z => q28_1.2.2.1 s _ q (by omega) a b (Or.inr (Or.inr z)))) tr p1 (by omega) e_x13 x0 e_x16 (by omega) (by rw [e_x31, G67]) (by omega) (g_RA_a q28_1 i0 sd (fun s q a b z => (i66_3.2.1 s q a b).1 z)) (fun l hl => by rw [k6, k7]; refine ⟨?_, ?_⟩; (rw [q3.1.1, st_n _ _ (by omega)]); (rw [q3.1.2, st_n _ _ (by omega)])) (by rw [k6, k7, ← e_x26, ← e_x27]; exact sd) (by rw [k6]; exact q3.2.2)⟩) | fail)) (show c_Rs (s_b (s_b (s_a τ7 80 0 x9) 6 0 n2) 7 0 n4) par nof In from by (first | exact p6 | exact i66_5 | exact rs7 | exact rs30 | exact rs22 | fail)) (show τ7.2.2 3 = σ.2.2 3 from by (first | rfl | exact i66_6 | exact hf_τ7.2.2 3 (by decide) | exact (k3.trans h3).trans i66_6 | exact h3.trans i66_6 | fail))
  ·
    exact ⟨hT, (show g_wr (σ.1 53) (σ.1 50) (σ.1 4) (σ.1 51) (fun e => ∃ p : Int, 0 ≤ p ∧ p < 64 ∧ j_b n2 p ∧ (p < e ∨ (¬ n6 = 0 ∧ p = e))) (fun rn => ∃ rc : Int → Int → Prop, (∀ e : Int, 0 ≤ e → e < 64 → j_b n2 e → rc n1 e) ∧ (∀ n c q q2 : Int, 1 ≤ c → par c = n → (σ.1 53) < q → rc n q → g_mk (σ.1 50) (σ.2.1 77) (g_H (σ.2.2 4)) (σ.2.1 69 c) q q2 → rc c q2) ∧ ∀ n e : Int, rc n e → (n ≠ n1 ∨ ¬ n6 = 0) → rn n e) (σ.2.2 4) (σ.2.2 5) (σ.2.2 4) (σ.2.2 5) (σ.2.1 79) (σ.2.1 79) (σ.2.1 78) (g_so (σ.1 48) (σ.2.1 14) (σ.2.1 15) (σ.2.1 10)) nof In from by (first | exact g_wr0 _ _ _ _ _ _ _ _ _ _ _ _ _ | exact i66_3 | fail)), (show g_wc (σ.1 45) (σ.1 50) (σ.1 53) (σ.1 51) (σ.2.1 77) (σ.2.1 69) par (σ.2.1 70) nof (g_so (σ.1 48) (σ.2.1 14) (σ.2.1 15) (σ.2.1 10)) In (g_H (σ.2.2 4)) (g_H (σ.2.2 5)) n2 n4 n1 (¬ n6 = 0) (σ.2.2 4) (σ.2.2 5) (σ.2.1 79) from by (first | (have q9 := i66_4; obtain ⟨N, vs, en, df⟩ := q9; exact g_wc_e df (by omega) p9) | (exfalso; have q9 := i66_4; obtain ⟨N, vs, en, df⟩ := q9; have w := df.2.2.2.2; have v := (ca_b vs (n := σ.1 45) (by omega)).2; omega) | (intro r m π hr rl m0 p0 pm hs bb w; exfalso; rw [← e_x2] at bb; omega) | fail))⟩
