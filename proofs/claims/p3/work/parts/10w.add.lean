-- pure: rules are added to the cells of a place
theorem g_H_or {b : Int → Int64} {s i e s2 i2 : Int} {x : Int64} (a0 : 0 ≤ i) (a1 : i < 60) (b0 : 0 ≤ i2) (b1 : i2 < 60) : g_H (st b (s2 * 60 + i2) (b (s2 * 60 + i2) ||| x)) s i e ↔ g_H b s i e ∨ (s = s2 ∧ i = i2 ∧ j_b x e) := by
  rcases g_H_st (b := b) (s := s) (i := i) (e := e) (s2 := s2) (i2 := i2) (x := b (s2 * 60 + i2) ||| x) a0 a1 b0 b1 with ⟨z1, z2, w⟩ | ⟨z, w⟩
  · rw [w, j_b_or, z1, z2]
    exact ⟨fun q => q.elim Or.inl (fun y => Or.inr ⟨rfl, rfl, y⟩), fun q => q.elim Or.inl (fun y => Or.inr y.2.2)⟩
  · rw [w]
    exact ⟨Or.inl, fun q => q.elim id (fun y => absurd ⟨y.1, y.2.1⟩ z)⟩
/-- the cells of a place are made by what stands beside them -/
def g_cs (sp len rs lim : Int) (b4 b5 : Int → Int64) (mb lf so nof : Int → Int) (In : Int → Prop) (rc : Int → Int → Prop) : Prop := ∀ s e : Int, 0 ≤ s → s < rs → 0 ≤ e → e < 64 → (g_H b5 s sp e → g_H b4 s sp e) ∧ (g_H b4 s sp e → (sp < e ∧ e ≤ len) ∧ ((0 ≤ lf sp ∧ e = sp + 1 ∧ g_mb mb s sp e = lf sp ∧ s = so (lf sp)) ∨ (In (g_mb mb s sp e) ∧ g_mb mb s sp e < lim ∧ s = so (g_mb mb s sp e) ∧ rc (nof (g_mb mb s sp e)) e)))
/-- what is added for the rules at node n from u on -/
def g_ad (sp len rs lim n u : Int) (x y : Int64) (b4 b5 c4 c5 : Int → Int64) (mb mc lf so nof : Int → Int) (In : Int → Prop) : Prop :=
  (∀ s i e : Int, 0 ≤ i → i < 60 → i ≠ sp → (g_H c4 s i e ↔ g_H b4 s i e) ∧ (g_H c5 s i e ↔ g_H b5 s i e)) ∧
  (∀ s e : Int, (g_H b4 s sp e → g_H c4 s sp e) ∧ (g_H b5 s sp e → g_H c5 s sp e) ∧ (g_H c4 s sp e → g_H b4 s sp e ∨ j_b x e) ∧ (g_H c5 s sp e → g_H b5 s sp e ∨ j_b y e ∨ j_b x e)) ∧
  (∀ s i e : Int, 0 ≤ i → i < e → e ≤ 59 → (i ≠ sp ∨ ¬ j_b x e ∨ g_H b4 s sp e) → g_mb mc s i e = g_mb mb s i e) ∧
  (∀ rc : Int → Int → Prop, (∀ e : Int, 0 ≤ e → e < 64 → j_b x e → rc n e) → g_cs sp len rs lim b4 b5 mb lf so nof In rc → g_cs sp len rs lim c4 c5 mc lf so nof In rc) ∧
  ∀ r : Int, u ≤ r → In r → r < lim → nof r = n → ∀ q : Int, 0 ≤ q → q < 64 → (j_b x q → g_H c4 (so r) sp q ∧ (g_H b4 (so r) sp q → g_H c5 (so r) sp q) ∧ (sp < q → q ≤ 59 → ¬ g_H c5 (so r) sp q → g_mb mc (so r) sp q = r)) ∧ (j_b y q → g_H c5 (so r) sp q)
theorem g_ad0 {sp len rs lim n u : Int} {x y : Int64} {b4 b5 : Int → Int64} {mb lf so nof : Int → Int} {In : Int → Prop} (h : ∀ r : Int, u ≤ r → In r → nof r ≠ n) : g_ad sp len rs lim n u x y b4 b5 b4 b5 mb mb lf so nof In :=
  ⟨fun s i e a b c => ⟨Iff.rfl, Iff.rfl⟩, fun s e => ⟨id, id, Or.inl, Or.inl⟩, fun s i e a b c d => rfl, fun rc _ h => h, fun r a b c d => absurd d (h r a b)⟩
/-- a rule that comes too late is passed over -/
theorem g_ad_n {sp len rs lim n u v : Int} {x y : Int64} {b4 b5 c4 c5 : Int → Int64} {mb mc lf so nof : Int → Int} {In : Int → Prop} (h : g_ad sp len rs lim n u x y b4 b5 c4 c5 mb mc lf so nof In) (hu : lim ≤ u - 1) (no : ∀ r : Int, v ≤ r → r < u - 1 → In r → nof r ≠ n) : g_ad sp len rs lim n v x y b4 b5 c4 c5 mb mc lf so nof In := by
  obtain ⟨h1, h2, h3, h4, h5⟩ := h
  refine ⟨h1, h2, h3, h4, fun r a b c d => ?_⟩
  by_cases z : u ≤ r
  · exact h5 r z b c d
  · by_cases w : r = u - 1
    · omega
    · exact absurd d (no r a (by omega) b)
/-- a rule is added -/
theorem g_ad_a {sp len rs lim n u v s0 : Int} {x y : Int64} {b4 b5 c4 c5 d4 d5 : Int → Int64} {mb mc md lf so nof : Int → Int} {In : Int → Prop} (h : g_ad sp len rs lim n u x y b4 b5 c4 c5 mb mc lf so nof In) (no : ∀ r : Int, v ≤ r → r < u - 1 → In r → nof r ≠ n) (hr : In (u - 1)) (hl : u - 1 < lim) (hn : nof (u - 1) = n) (hs : s0 = so (u - 1)) (t0 : 0 ≤ sp) (t1 : sp < 59) (xe : ∀ e : Int, 0 ≤ e → e < 64 → j_b x e → sp < e ∧ e ≤ len) (l59 : len ≤ 59) (yx : ∀ e : Int, 0 ≤ e → e < 64 → j_b y e → j_b x e)
    (e4 : d4 = st c4 (s0 * 60 + sp) (c4 (s0 * 60 + sp) ||| x)) (e5 : d5 = st c5 (s0 * 60 + sp) (c5 (s0 * 60 + sp) ||| (y ||| (x &&& c4 (s0 * 60 + sp)))))
    (em : ∀ s i e : Int, 0 ≤ i → i < e → e ≤ 59 → (¬ (s = s0 ∧ i = sp ∧ e ≤ len ∧ j_b x e ∧ ¬ j_b (c4 (s0 * 60 + sp)) e) → g_mb md s i e = g_mb mc s i e) ∧ ((s = s0 ∧ i = sp ∧ e ≤ len ∧ j_b x e ∧ ¬ j_b (c4 (s0 * 60 + sp)) e) → g_mb md s i e = u - 1)) : g_ad sp len rs lim n v x y b4 b5 d4 d5 mb md lf so nof In := by
  obtain ⟨h1, h2, h3, h4, h5⟩ := h
  have o4 : ∀ s i e : Int, 0 ≤ i → i < 60 → (g_H d4 s i e ↔ g_H c4 s i e ∨ (s = s0 ∧ i = sp ∧ j_b x e)) := fun s i e a b => by rw [e4]; exact g_H_or a b t0 (by omega)
  have o5 : ∀ s i e : Int, 0 ≤ i → i < 60 → (g_H d5 s i e ↔ g_H c5 s i e ∨ (s = s0 ∧ i = sp ∧ (j_b y e ∨ (j_b x e ∧ g_H c4 s0 sp e)))) := fun s i e a b => by
    rw [e5, g_H_or a b t0 (by omega), j_b_or, j_b_and]; exact Iff.rfl
  refine ⟨fun s i e a b c => ?_, fun s e => ?_, fun s i e a b c d => ?_, fun rc hx hc => ?_, fun r a b c d => ?_⟩
  · have w := h1 s i e a b c
    rw [o4 s i e a b, o5 s i e a b]
    exact ⟨⟨fun q => q.elim w.1.mp (fun z => absurd z.2.1 c), fun q => Or.inl (w.1.mpr q)⟩, ⟨fun q => q.elim w.2.mp (fun z => absurd z.2.1 c), fun q => Or.inl (w.2.mpr q)⟩⟩
  · obtain ⟨w1, w2, w3, w4⟩ := h2 s e
    rw [o4 s sp e t0 (by omega), o5 s sp e t0 (by omega)]
    refine ⟨fun q => Or.inl (w1 q), fun q => Or.inl (w2 q), fun q => ?_, fun q => ?_⟩
    · rcases q with q | q
      · exact w3 q
      · exact Or.inr q.2.2
    · rcases q with q | ⟨_, _, q | q⟩
      · exact w4 q
      · exact Or.inr (Or.inl q)
      · exact Or.inr (Or.inr q.1)
  · rw [(em s i e a b c).1 (fun z => d.elim (fun w => w z.2.1) (fun w => w.elim (fun w => w z.2.2.2.1) (fun w => z.2.2.2.2 (by rw [← z.1]; exact (h2 s e).1 w))))]; exact h3 s i e a b c d
  · have hc := h4 rc hx hc
    intro s e s1 s2 e1 e2
    obtain ⟨w1, w2⟩ := hc s e s1 s2 e1 e2
    rw [o4 s sp e t0 (by omega), o5 s sp e t0 (by omega)]
    refine ⟨fun q => ?_, fun q => ?_⟩
    · rcases q with q | ⟨z1, z2, q | q⟩
      · exact Or.inl (w1 q)
      · exact Or.inr ⟨z1, z2, yx e e1 e2 q⟩
      · exact Or.inr ⟨z1, z2, q.1⟩
    · by_cases f : s = s0 ∧ j_b x e ∧ ¬ j_b (c4 (s0 * 60 + sp)) e
      · have v := xe e e1 e2 f.2.1
        have g := (em s sp e t0 v.1 (by omega)).2 ⟨f.1, rfl, v.2, f.2⟩
        rw [g]
        exact ⟨⟨v.1, v.2⟩, Or.inr ⟨hr, hl, f.1.trans hs, by rw [hn]; exact hx e e1 e2 f.2.1⟩⟩
      · have q2 : g_H c4 s sp e := by
          rcases q with q | ⟨z1, z2, q⟩
          · exact q
          · by_cases k : j_b (c4 (s0 * 60 + sp)) e
            · rw [z1]; exact k
            · exact absurd ⟨z1, q, k⟩ f
        obtain ⟨v1, v2⟩ := w2 q2
        rw [(em s sp e t0 v1.1 (by omega)).1 (fun z => f ⟨z.1, z.2.2.2⟩)]
        exact ⟨v1, v2⟩
  · intro q q0 q1
    rw [o4 _ sp q t0 (by omega), o5 _ sp q t0 (by omega)]
    by_cases z : u ≤ r
    · have w := h5 r z b c d q q0 q1
      refine ⟨fun k => ⟨Or.inl (w.1 k).1, fun y => Or.inl ((w.1 k).2.1 y), fun a1 a2 y => ?_⟩, fun k => Or.inl (w.2 k)⟩
      have v := w.1 k
      rw [(em _ sp q t0 a1 a2).1 (fun f => f.2.2.2.2 (by rw [← f.1]; exact v.1))]
      exact v.2.2 a1 a2 (fun f => y (Or.inl f))
    · by_cases w : r = u - 1
      · rw [w, ← hs]
        refine ⟨fun k => ⟨Or.inr ⟨rfl, rfl, k⟩, fun y => Or.inr ⟨rfl, rfl, Or.inr ⟨k, (h2 _ _).1 y⟩⟩, fun a1 a2 y => ?_⟩, fun k => Or.inr ⟨rfl, rfl, Or.inl k⟩⟩
        have xq := xe q q0 q1 k
        exact (em _ sp q t0 a1 a2).2 ⟨rfl, rfl, xq.2, k, fun f => y (Or.inr ⟨rfl, rfl, Or.inr ⟨k, f⟩⟩)⟩
      · exact absurd d (no r a (by omega) b)
theorem g_ad_z {sp len rs lim n u : Int} {x y : Int64} {b4 b5 c4 c5 : Int → Int64} {mb mc lf so nof : Int → Int} {In : Int → Prop} (h : g_ad sp len rs lim n u x y b4 b5 c4 c5 mb mc lf so nof In) (hu : u ≤ 0) (i0 : ∀ r, In r → 0 ≤ r) : g_ad sp len rs lim n 0 x y b4 b5 c4 c5 mb mc lf so nof In :=
  ⟨h.1, h.2.1, h.2.2.1, h.2.2.2.1, fun r a b c d => h.2.2.2.2 r (by have := i0 r b; omega) b c d⟩
/-- the rules are sound, none of them is of the first name's sort -/
def c_Rs (σ : S0) (par nof : Int → Int) (In : Int → Prop) : Prop := c_Ug (σ.1 47) σ par nof In ∧ (σ.1 48 = -1 ∨ g_pe σ (σ.1 48)) ∧ σ.1 47 ≤ σ.1 7
theorem c_Rs_h {σ τ : S0} {par nof : Int → Int} {In : Int → Prop} {wv wa wb : List Nat} (h : c_Rs σ par nof In) (hf : f_r wv wa wb σ τ) (d : ([3, 4, 7, 45, 46, 47, 48].all (fun i => !wv.contains i) && [2, 3, 4, 8, 10, 13, 14, 15, 16, 27, 28, 29, 67, 68, 69, 70, 71, 72, 73, 74, 75, 76].all (fun k => !wa.contains k)) = true) : c_Rs τ par nof In := by
  have d1 := (Bool.and_eq_true _ _ ▸ d).1
  have d2 := (Bool.and_eq_true _ _ ▸ d).2
  have w : ∀ i, i ∈ [3, 4, 7, 45, 46, 47, 48] → τ.1 i = σ.1 i := fun i hi => hf.1 i (by have := List.all_eq_true.mp d1 i hi; simpa using this)
  have g : ∀ i, i ∈ [2, 3, 4, 8, 10, 13, 14, 15, 16, 27, 28, 29, 67, 68, 69, 70, 71, 72, 73, 74, 75, 76] → τ.2.1 i = σ.2.1 i := fun k hk => hf.2.1 k (by have := List.all_eq_true.mp d2 k hk; simpa using this)
  obtain ⟨h1, h2, h3⟩ := h
  refine ⟨?_, ?_, by rw [w 47 (by decide), w 7 (by decide)]; exact h3⟩
  · rw [w 47 (by decide)]
    exact c_Ug_e h1 (fun i hi => w i (by simp only [List.mem_cons, List.mem_nil_iff, or_false] at hi ⊢; omega)) g
  · rw [w 48 (by decide)]
    exact h2.elim Or.inl (fun q => Or.inr (g_pe_e (w 3 (by decide)) (g 2 (by decide)) (g 3 (by decide)) (g 4 (by decide)) (g 8 (by decide)) q))
/-- a statement's sort; the provable ones have none -/
def g_so (p : Int) (a tx rk : Int → Int) (r : Int) : Int := if tx (a r) = p then -1 else rk (tx (a r))
theorem g_so_n {p r : Int} {a tx rk : Int → Int} (h : ¬ tx (a r) = p) : g_so p a tx rk r = rk (tx (a r)) := by unfold g_so; rw [if_neg h]
set_option maxHeartbeats 1000000 in
theorem K2_X8_sortRank {n1 : Int} {σ : S0} (hT : c_T σ) (p1 : 0 ≤ n1) (p2 : n1 < 1000) : W_X8_sortRank n1 σ (fun (x : Int) => (-1 ≤ x ∧ x ≤ 99) ∧ (¬ n1 = (σ.1 48) → x = σ.2.1 10 n1) ∧ (n1 = (σ.1 48) → x = -1)) := by
  have A10 : ∀ j, (-1) ≤ σ.2.1 10 j ∧ σ.2.1 10 j ≤ 99 := fun j => hT.2 10 j
  have v48 : (-1) ≤ σ.1 48 ∧ σ.1 48 ≤ 999 := hT.1 48
  unfold W_X8_sortRank
  refine ⟨fun c1 => ?_, fun c1 => ?_⟩
  ·
    refine ⟨(show 0 ≤ n1 ∧ n1 < 1000 from by (first | omega | (simp only [st_s] <;> omega) | assumption | omega | fail)), ?_⟩
    intro x3 r_x3 e_x3
    have b_x3 : (-1) ≤ x3 ∧ x3 ≤ 99 := by rw [e_x3]; exact hT.2 10 _
    exact ⟨(show -1 ≤ x3 ∧ x3 ≤ 99 from by (first | omega | (simp only [st_s] <;> omega) | assumption | omega | fail)), (show ¬ n1 = (σ.1 48) → x3 = σ.2.1 10 n1 from by (first | omega | (simp only [st_s] <;> omega) | assumption | omega | fail)), (show n1 = (σ.1 48) → x3 = -1 from by (first | omega | (simp only [st_s] <;> omega) | assumption | omega | fail))⟩
  ·
    exact ⟨(show -1 ≤ (-1) ∧ (-1) ≤ 99 from by (first | omega | (simp only [st_s] <;> omega) | assumption | omega | fail)), (show ¬ n1 = (σ.1 48) → (-1) = σ.2.1 10 n1 from by (first | omega | (simp only [st_s] <;> omega) | assumption | omega | fail)), (show n1 = (σ.1 48) → (-1) = -1 from by (first | omega | (simp only [st_s] <;> omega) | assumption | omega | fail))⟩
set_option maxHeartbeats 4000000 in
theorem K_X1_addRules {n1 : Int} {n2 : Int64} {n4 : Int64} {par nof : Int → Int} {In : Int → Prop} {σ : S0} (hT : c_T σ) (p1 : 0 ≤ n1) (p2 : n1 < (σ.1 45)) (p3 : J_all (σ.1 7) (σ.1 6) (σ.1 13) (σ.1 14) (σ.1 15) (σ.2.1 13) (σ.2.1 14) (σ.2.1 15) (σ.2.1 16) (σ.2.1 10) (σ.2.1 27) (σ.2.1 28) (σ.2.1 29) (σ.2.1 30) (σ.2.1 31) (σ.2.1 32) (σ.2.1 33) (σ.2.1 34) (σ.2.1 35) (σ.2.1 36) (σ.2.1 37)) (p4 : c_Rs σ par nof In) (p5 : (σ.1 53) < (σ.1 50)) (p6 : ∀ e : Int, 0 ≤ e → e < 64 → j_b n2 e → (σ.1 53) < e ∧ e ≤ (σ.1 50)) (p7 : ∀ e : Int, 0 ≤ e → e < 64 → j_b n4 e → j_b n2 e) : W_X1_addRules n1 n2 n4 σ (fun (τ : S0) => (c_T τ) ∧ (g_ad (σ.1 53) (σ.1 50) (σ.1 4) (σ.1 51) n1 0 n2 n4 (σ.2.2 4) (σ.2.2 5) (τ.2.2 4) (τ.2.2 5) (σ.2.1 79) (τ.2.1 79) (σ.2.1 78) (g_so (σ.1 48) (σ.2.1 14) (σ.2.1 15) (σ.2.1 10)) nof In)) := by
  have A10 : ∀ j, (-1) ≤ σ.2.1 10 j ∧ σ.2.1 10 j ≤ 99 := fun j => hT.2 10 j
  have A13 : ∀ j, 0 ≤ σ.2.1 13 j ∧ σ.2.1 13 j ≤ 4 := fun j => hT.2 13 j
  have A14 : ∀ j, 0 ≤ σ.2.1 14 j ∧ σ.2.1 14 j ≤ 30000 := fun j => hT.2 14 j
  have A15 : ∀ j, 0 ≤ σ.2.1 15 j ∧ σ.2.1 15 j ≤ 999 := fun j => hT.2 15 j
  have A16 : ∀ j, (-1) ≤ σ.2.1 16 j ∧ σ.2.1 16 j ≤ 1499 := fun j => hT.2 16 j
  have A27 : ∀ j, 0 ≤ σ.2.1 27 j ∧ σ.2.1 27 j ≤ 90000 := fun j => hT.2 27 j
  have A28 : ∀ j, 0 ≤ σ.2.1 28 j ∧ σ.2.1 28 j ≤ 60 := fun j => hT.2 28 j
  have A29 : ∀ j, 0 ≤ σ.2.1 29 j ∧ σ.2.1 29 j ≤ 1499 := fun j => hT.2 29 j
  have A30 : ∀ j, 0 ≤ σ.2.1 30 j ∧ σ.2.1 30 j ≤ 20000 := fun j => hT.2 30 j
  have A31 : ∀ j, 0 ≤ σ.2.1 31 j ∧ σ.2.1 31 j ≤ 20000 := fun j => hT.2 31 j
  have A32 : ∀ j, 0 ≤ σ.2.1 32 j ∧ σ.2.1 32 j ≤ 999999 := fun j => hT.2 32 j
  have A33 : ∀ j, 0 ≤ σ.2.1 33 j ∧ σ.2.1 33 j ≤ 20000 := fun j => hT.2 33 j
  have A34 : ∀ j, 0 ≤ σ.2.1 34 j ∧ σ.2.1 34 j ≤ 20000 := fun j => hT.2 34 j
  have A35 : ∀ j, 0 ≤ σ.2.1 35 j ∧ σ.2.1 35 j ≤ 1499 := fun j => hT.2 35 j
  have A36 : ∀ j, 0 ≤ σ.2.1 36 j ∧ σ.2.1 36 j ≤ 20000 := fun j => hT.2 36 j
  have A37 : ∀ j, 0 ≤ σ.2.1 37 j ∧ σ.2.1 37 j ≤ 19999 := fun j => hT.2 37 j
  have A71 : ∀ j, 0 ≤ σ.2.1 71 j ∧ σ.2.1 71 j ≤ 1500 := fun j => hT.2 71 j
  have A72 : ∀ j, 0 ≤ σ.2.1 72 j ∧ σ.2.1 72 j ≤ 1500 := fun j => hT.2 72 j
  have A78 : ∀ j, (-1) ≤ σ.2.1 78 j ∧ σ.2.1 78 j ≤ 1499 := fun j => hT.2 78 j
  have A79 : ∀ j, 0 ≤ σ.2.1 79 j ∧ σ.2.1 79 j ≤ 1499 := fun j => hT.2 79 j
  have v4 : 0 ≤ σ.1 4 ∧ σ.1 4 ≤ 100 := hT.1 4
  have v6 : 0 ≤ σ.1 6 ∧ σ.1 6 ≤ 30000 := hT.1 6
  have v7 : 0 ≤ σ.1 7 ∧ σ.1 7 ≤ 1500 := hT.1 7
  have v13 : 0 ≤ σ.1 13 ∧ σ.1 13 ≤ 90000 := hT.1 13
  have v14 : 0 ≤ σ.1 14 ∧ σ.1 14 ≤ 20000 := hT.1 14
  have v15 : 0 ≤ σ.1 15 ∧ σ.1 15 ≤ 20000 := hT.1 15
  have v45 : 1 ≤ σ.1 45 ∧ σ.1 45 ≤ 30001 := hT.1 45
  have v48 : (-1) ≤ σ.1 48 ∧ σ.1 48 ≤ 999 := hT.1 48
  have v50 : 0 ≤ σ.1 50 ∧ σ.1 50 ≤ 59 := hT.1 50
  have v51 : 0 ≤ σ.1 51 ∧ σ.1 51 ≤ 1500 := hT.1 51
  have v53 : 0 ≤ σ.1 53 ∧ σ.1 53 ≤ 58 := hT.1 53
  have W4 : σ.1 4 = σ.1 4 := rfl
  have W6 : σ.1 6 = σ.1 6 := rfl
  have W7 : σ.1 7 = σ.1 7 := rfl
  have W13 : σ.1 13 = σ.1 13 := rfl
  have W14 : σ.1 14 = σ.1 14 := rfl
  have W15 : σ.1 15 = σ.1 15 := rfl
  have W45 : σ.1 45 = σ.1 45 := rfl
  have W48 : σ.1 48 = σ.1 48 := rfl
  have W50 : σ.1 50 = σ.1 50 := rfl
  have W51 : σ.1 51 = σ.1 51 := rfl
  have W53 : σ.1 53 = σ.1 53 := rfl
  have G10 : σ.2.1 10 = σ.2.1 10 := rfl
  have G13 : σ.2.1 13 = σ.2.1 13 := rfl
  have G14 : σ.2.1 14 = σ.2.1 14 := rfl
  have G15 : σ.2.1 15 = σ.2.1 15 := rfl
  have G16 : σ.2.1 16 = σ.2.1 16 := rfl
  have G27 : σ.2.1 27 = σ.2.1 27 := rfl
  have G28 : σ.2.1 28 = σ.2.1 28 := rfl
  have G29 : σ.2.1 29 = σ.2.1 29 := rfl
  have G30 : σ.2.1 30 = σ.2.1 30 := rfl
  have G31 : σ.2.1 31 = σ.2.1 31 := rfl
  have G32 : σ.2.1 32 = σ.2.1 32 := rfl
  have G33 : σ.2.1 33 = σ.2.1 33 := rfl
  have G34 : σ.2.1 34 = σ.2.1 34 := rfl
  have G35 : σ.2.1 35 = σ.2.1 35 := rfl
  have G36 : σ.2.1 36 = σ.2.1 36 := rfl
  have G37 : σ.2.1 37 = σ.2.1 37 := rfl
  have G71 : σ.2.1 71 = σ.2.1 71 := rfl
  have G72 : σ.2.1 72 = σ.2.1 72 := rfl
  have G78 : σ.2.1 78 = σ.2.1 78 := rfl
  intro P14 h14
  have ug := p4.1
  have lns := p4.2.2
  have ru := ug.2.1
  have jts := fun f a b => (p3.1 f a b).1.1
  have rkt := fun f a b => (p3.1 f a b).1.2.1
  have s14 := A14
  have fr := ru.1 n1 (by omega) (by omega)
  have s15 := A15
  have CJ : J_all (σ.1 7) (σ.1 6) (σ.1 13) (σ.1 14) (σ.1 15) (σ.2.1 13) (σ.2.1 14) (σ.2.1 15) (σ.2.1 16) (σ.2.1 10) (σ.2.1 27) (σ.2.1 28) (σ.2.1 29) (σ.2.1 30) (σ.2.1 31) (σ.2.1 32) (σ.2.1 33) (σ.2.1 34) (σ.2.1 35) (σ.2.1 36) (σ.2.1 37) := p3
  have CJ_0 := CJ
  have l_14 : ∀ (m_14 : Nat) (u6_14 : Int) (u7_14 : Int) (τ_14 : S0), 1501 - u7_14 < (m_14 : Int) → (c_T τ_14) → (τ_14.1 4 = σ.1 4) → (τ_14.1 6 = σ.1 6) → (τ_14.1 7 = σ.1 7) → (τ_14.1 13 = σ.1 13) → (τ_14.1 14 = σ.1 14) → (τ_14.1 15 = σ.1 15) → (τ_14.1 45 = σ.1 45) → (τ_14.1 48 = σ.1 48) → (τ_14.1 50 = σ.1 50) → (τ_14.1 51 = σ.1 51) → (τ_14.1 53 = σ.1 53) → (τ_14.2.1 10 = σ.2.1 10) → (τ_14.2.1 13 = σ.2.1 13) → (τ_14.2.1 14 = σ.2.1 14) → (τ_14.2.1 15 = σ.2.1 15) → (τ_14.2.1 16 = σ.2.1 16) → (τ_14.2.1 27 = σ.2.1 27) → (τ_14.2.1 28 = σ.2.1 28) → (τ_14.2.1 29 = σ.2.1 29) → (τ_14.2.1 30 = σ.2.1 30) → (τ_14.2.1 31 = σ.2.1 31) → (τ_14.2.1 32 = σ.2.1 32) → (τ_14.2.1 33 = σ.2.1 33) → (τ_14.2.1 34 = σ.2.1 34) → (τ_14.2.1 35 = σ.2.1 35) → (τ_14.2.1 36 = σ.2.1 36) → (τ_14.2.1 37 = σ.2.1 37) → (τ_14.2.1 71 = σ.2.1 71) → (τ_14.2.1 72 = σ.2.1 72) → (τ_14.2.1 78 = σ.2.1 78) → (0 ≤ u6_14) → (0 ≤ u7_14 ∧ u7_14 ≤ 1500) → (0 < u6_14 → u6_14 + u7_14 ≤ 1500) → (0 < u6_14 → In (u6_14 - 1) ∧ nof (u6_14 - 1) = n1) → (g_ad (σ.1 53) (σ.1 50) (σ.1 4) (σ.1 51) n1 u6_14 n2 n4 (σ.2.2 4) (σ.2.2 5) (τ_14.2.2 4) (τ_14.2.2 5) (σ.2.1 79) (τ_14.2.1 79) (σ.2.1 78) (g_so (σ.1 48) (σ.2.1 14) (σ.2.1 15) (σ.2.1 10)) nof In) → P14 n2 n4 u6_14 u7_14 τ_14 := by
    intro m_14
    induction m_14 with
    | zero =>
      intro u6_14 u7_14 τ_14 hm hT W4 W6 W7 W13 W14 W15 W45 W48 W50 W51 W53 G10 G13 G14 G15 G16 G27 G28 G29 G30 G31 G32 G33 G34 G35 G36 G37 G71 G72 G78 i14_1 i14_2 i14_3 i14_4 i14_5
      have A10 : ∀ j, (-1) ≤ τ_14.2.1 10 j ∧ τ_14.2.1 10 j ≤ 99 := fun j => hT.2 10 j
      have A13 : ∀ j, 0 ≤ τ_14.2.1 13 j ∧ τ_14.2.1 13 j ≤ 4 := fun j => hT.2 13 j
      have A14 : ∀ j, 0 ≤ τ_14.2.1 14 j ∧ τ_14.2.1 14 j ≤ 30000 := fun j => hT.2 14 j
      have A15 : ∀ j, 0 ≤ τ_14.2.1 15 j ∧ τ_14.2.1 15 j ≤ 999 := fun j => hT.2 15 j
      have A16 : ∀ j, (-1) ≤ τ_14.2.1 16 j ∧ τ_14.2.1 16 j ≤ 1499 := fun j => hT.2 16 j
      have A27 : ∀ j, 0 ≤ τ_14.2.1 27 j ∧ τ_14.2.1 27 j ≤ 90000 := fun j => hT.2 27 j
      have A28 : ∀ j, 0 ≤ τ_14.2.1 28 j ∧ τ_14.2.1 28 j ≤ 60 := fun j => hT.2 28 j
      have A29 : ∀ j, 0 ≤ τ_14.2.1 29 j ∧ τ_14.2.1 29 j ≤ 1499 := fun j => hT.2 29 j
      have A30 : ∀ j, 0 ≤ τ_14.2.1 30 j ∧ τ_14.2.1 30 j ≤ 20000 := fun j => hT.2 30 j
      have A31 : ∀ j, 0 ≤ τ_14.2.1 31 j ∧ τ_14.2.1 31 j ≤ 20000 := fun j => hT.2 31 j
      have A32 : ∀ j, 0 ≤ τ_14.2.1 32 j ∧ τ_14.2.1 32 j ≤ 999999 := fun j => hT.2 32 j
      have A33 : ∀ j, 0 ≤ τ_14.2.1 33 j ∧ τ_14.2.1 33 j ≤ 20000 := fun j => hT.2 33 j
      have A34 : ∀ j, 0 ≤ τ_14.2.1 34 j ∧ τ_14.2.1 34 j ≤ 20000 := fun j => hT.2 34 j
      have A35 : ∀ j, 0 ≤ τ_14.2.1 35 j ∧ τ_14.2.1 35 j ≤ 1499 := fun j => hT.2 35 j
      have A36 : ∀ j, 0 ≤ τ_14.2.1 36 j ∧ τ_14.2.1 36 j ≤ 20000 := fun j => hT.2 36 j
      have A37 : ∀ j, 0 ≤ τ_14.2.1 37 j ∧ τ_14.2.1 37 j ≤ 19999 := fun j => hT.2 37 j
      have A71 : ∀ j, 0 ≤ τ_14.2.1 71 j ∧ τ_14.2.1 71 j ≤ 1500 := fun j => hT.2 71 j
      have A72 : ∀ j, 0 ≤ τ_14.2.1 72 j ∧ τ_14.2.1 72 j ≤ 1500 := fun j => hT.2 72 j
      have A78 : ∀ j, (-1) ≤ τ_14.2.1 78 j ∧ τ_14.2.1 78 j ≤ 1499 := fun j => hT.2 78 j
      have A79 : ∀ j, 0 ≤ τ_14.2.1 79 j ∧ τ_14.2.1 79 j ≤ 1499 := fun j => hT.2 79 j
      have v4 : 0 ≤ τ_14.1 4 ∧ τ_14.1 4 ≤ 100 := hT.1 4
      have v6 : 0 ≤ τ_14.1 6 ∧ τ_14.1 6 ≤ 30000 := hT.1 6
      have v7 : 0 ≤ τ_14.1 7 ∧ τ_14.1 7 ≤ 1500 := hT.1 7
      have v13 : 0 ≤ τ_14.1 13 ∧ τ_14.1 13 ≤ 90000 := hT.1 13
      have v14 : 0 ≤ τ_14.1 14 ∧ τ_14.1 14 ≤ 20000 := hT.1 14
      have v15 : 0 ≤ τ_14.1 15 ∧ τ_14.1 15 ≤ 20000 := hT.1 15
      have v45 : 1 ≤ τ_14.1 45 ∧ τ_14.1 45 ≤ 30001 := hT.1 45
      have v48 : (-1) ≤ τ_14.1 48 ∧ τ_14.1 48 ≤ 999 := hT.1 48
      have v50 : 0 ≤ τ_14.1 50 ∧ τ_14.1 50 ≤ 59 := hT.1 50
      have v51 : 0 ≤ τ_14.1 51 ∧ τ_14.1 51 ≤ 1500 := hT.1 51
      have v53 : 0 ≤ τ_14.1 53 ∧ τ_14.1 53 ≤ 58 := hT.1 53
      exfalso; (first | omega | (simp only [st_s] <;> omega) | assumption | omega | fail)
    | succ m_14 ih_14 =>
      intro u6_14 u7_14 τ_14 hm_14 hT W4 W6 W7 W13 W14 W15 W45 W48 W50 W51 W53 G10 G13 G14 G15 G16 G27 G28 G29 G30 G31 G32 G33 G34 G35 G36 G37 G71 G72 G78 i14_1 i14_2 i14_3 i14_4 i14_5
      have A10 : ∀ j, (-1) ≤ τ_14.2.1 10 j ∧ τ_14.2.1 10 j ≤ 99 := fun j => hT.2 10 j
      have A13 : ∀ j, 0 ≤ τ_14.2.1 13 j ∧ τ_14.2.1 13 j ≤ 4 := fun j => hT.2 13 j
      have A14 : ∀ j, 0 ≤ τ_14.2.1 14 j ∧ τ_14.2.1 14 j ≤ 30000 := fun j => hT.2 14 j
      have A15 : ∀ j, 0 ≤ τ_14.2.1 15 j ∧ τ_14.2.1 15 j ≤ 999 := fun j => hT.2 15 j
      have A16 : ∀ j, (-1) ≤ τ_14.2.1 16 j ∧ τ_14.2.1 16 j ≤ 1499 := fun j => hT.2 16 j
      have A27 : ∀ j, 0 ≤ τ_14.2.1 27 j ∧ τ_14.2.1 27 j ≤ 90000 := fun j => hT.2 27 j
      have A28 : ∀ j, 0 ≤ τ_14.2.1 28 j ∧ τ_14.2.1 28 j ≤ 60 := fun j => hT.2 28 j
      have A29 : ∀ j, 0 ≤ τ_14.2.1 29 j ∧ τ_14.2.1 29 j ≤ 1499 := fun j => hT.2 29 j
      have A30 : ∀ j, 0 ≤ τ_14.2.1 30 j ∧ τ_14.2.1 30 j ≤ 20000 := fun j => hT.2 30 j
      have A31 : ∀ j, 0 ≤ τ_14.2.1 31 j ∧ τ_14.2.1 31 j ≤ 20000 := fun j => hT.2 31 j
      have A32 : ∀ j, 0 ≤ τ_14.2.1 32 j ∧ τ_14.2.1 32 j ≤ 999999 := fun j => hT.2 32 j
      have A33 : ∀ j, 0 ≤ τ_14.2.1 33 j ∧ τ_14.2.1 33 j ≤ 20000 := fun j => hT.2 33 j
      have A34 : ∀ j, 0 ≤ τ_14.2.1 34 j ∧ τ_14.2.1 34 j ≤ 20000 := fun j => hT.2 34 j
      have A35 : ∀ j, 0 ≤ τ_14.2.1 35 j ∧ τ_14.2.1 35 j ≤ 1499 := fun j => hT.2 35 j
      have A36 : ∀ j, 0 ≤ τ_14.2.1 36 j ∧ τ_14.2.1 36 j ≤ 20000 := fun j => hT.2 36 j
      have A37 : ∀ j, 0 ≤ τ_14.2.1 37 j ∧ τ_14.2.1 37 j ≤ 19999 := fun j => hT.2 37 j
      have A71 : ∀ j, 0 ≤ τ_14.2.1 71 j ∧ τ_14.2.1 71 j ≤ 1500 := fun j => hT.2 71 j
      have A72 : ∀ j, 0 ≤ τ_14.2.1 72 j ∧ τ_14.2.1 72 j ≤ 1500 := fun j => hT.2 72 j
      have A78 : ∀ j, (-1) ≤ τ_14.2.1 78 j ∧ τ_14.2.1 78 j ≤ 1499 := fun j => hT.2 78 j
      have A79 : ∀ j, 0 ≤ τ_14.2.1 79 j ∧ τ_14.2.1 79 j ≤ 1499 := fun j => hT.2 79 j
      have v4 : 0 ≤ τ_14.1 4 ∧ τ_14.1 4 ≤ 100 := hT.1 4
      have v6 : 0 ≤ τ_14.1 6 ∧ τ_14.1 6 ≤ 30000 := hT.1 6
      have v7 : 0 ≤ τ_14.1 7 ∧ τ_14.1 7 ≤ 1500 := hT.1 7
      have v13 : 0 ≤ τ_14.1 13 ∧ τ_14.1 13 ≤ 90000 := hT.1 13
      have v14 : 0 ≤ τ_14.1 14 ∧ τ_14.1 14 ≤ 20000 := hT.1 14
      have v15 : 0 ≤ τ_14.1 15 ∧ τ_14.1 15 ≤ 20000 := hT.1 15
      have v45 : 1 ≤ τ_14.1 45 ∧ τ_14.1 45 ≤ 30001 := hT.1 45
      have v48 : (-1) ≤ τ_14.1 48 ∧ τ_14.1 48 ≤ 999 := hT.1 48
      have v50 : 0 ≤ τ_14.1 50 ∧ τ_14.1 50 ≤ 59 := hT.1 50
      have v51 : 0 ≤ τ_14.1 51 ∧ τ_14.1 51 ≤ 1500 := hT.1 51
      have v53 : 0 ≤ τ_14.1 53 ∧ τ_14.1 53 ≤ 58 := hT.1 53
      have CJ : J_all (τ_14.1 7) (τ_14.1 6) (τ_14.1 13) (τ_14.1 14) (τ_14.1 15) (τ_14.2.1 13) (τ_14.2.1 14) (τ_14.2.1 15) (τ_14.2.1 16) (τ_14.2.1 10) (τ_14.2.1 27) (τ_14.2.1 28) (τ_14.2.1 29) (τ_14.2.1 30) (τ_14.2.1 31) (τ_14.2.1 32) (τ_14.2.1 33) (τ_14.2.1 34) (τ_14.2.1 35) (τ_14.2.1 36) (τ_14.2.1 37) := by rw [show (J_all (τ_14.1 7) (τ_14.1 6) (τ_14.1 13) (τ_14.1 14) (τ_14.1 15) (τ_14.2.1 13) (τ_14.2.1 14) (τ_14.2.1 15) (τ_14.2.1 16) (τ_14.2.1 10) (τ_14.2.1 27) (τ_14.2.1 28) (τ_14.2.1 29) (τ_14.2.1 30) (τ_14.2.1 31) (τ_14.2.1 32) (τ_14.2.1 33) (τ_14.2.1 34) (τ_14.2.1 35) (τ_14.2.1 36) (τ_14.2.1 37)) = (J_all (σ.1 7) (σ.1 6) (σ.1 13) (σ.1 14) (σ.1 15) (σ.2.1 13) (σ.2.1 14) (σ.2.1 15) (σ.2.1 16) (σ.2.1 10) (σ.2.1 27) (σ.2.1 28) (σ.2.1 29) (σ.2.1 30) (σ.2.1 31) (σ.2.1 32) (σ.2.1 33) (σ.2.1 34) (σ.2.1 35) (σ.2.1 36) (σ.2.1 37)) from by rw [W6, W7, W13, W14, W15, G10, G13, G14, G15, G16, G27, G28, G29, G30, G31, G32, G33, G34, G35, G36, G37]]; exact CJ_0
      refine h14 n2 n4 u6_14 u7_14 τ_14 ?_
      refine ⟨fun c3 => ?_, fun c3 => ?_⟩
      ·
        exact ⟨hT, (show g_ad (σ.1 53) (σ.1 50) (σ.1 4) (σ.1 51) n1 0 n2 n4 (σ.2.2 4) (σ.2.2 5) (τ_14.2.2 4) (τ_14.2.2 5) (σ.2.1 79) (τ_14.2.1 79) (σ.2.1 78) (g_so (σ.1 48) (σ.2.1 14) (σ.2.1 15) (σ.2.1 10)) nof In from by (first | exact g_ad_z i14_5 (by omega) (fun r hr => (ru.2.1 r hr).1.1) | fail))⟩
      ·
        refine ⟨fun c4 => ?_, fun c4 => ?_⟩
        ·
          exact ⟨hT, (show g_ad (σ.1 53) (σ.1 50) (σ.1 4) (σ.1 51) n1 0 n2 n4 (σ.2.2 4) (σ.2.2 5) (τ_14.2.2 4) (τ_14.2.2 5) (σ.2.1 79) (τ_14.2.1 79) (σ.2.1 78) (g_so (σ.1 48) (σ.2.1 14) (σ.2.1 15) (σ.2.1 10)) nof In from by (first | exact g_ad_z i14_5 (by omega) (fun r hr => (ru.2.1 r hr).1.1) | fail))⟩
        ·
          have inr := i14_4 (by omega)
          have ru2 := ru.2.1 (u6_14 - 1) inr.1
          have l1 := ru2.1
          have nrr := ru2.2.2.2.2
          have jt1 := jts (u6_14 - 1) (by omega) (by omega)
          have t14 := s14 (u6_14 - 1 + 1)
          refine ⟨(⟨by (first | omega | (simp only [st_s] <;> omega) | assumption | omega | fail), by (first | omega | (simp only [st_s] <;> omega) | assumption | omega | fail)⟩ : rg (u6_14 - 1)), ?_⟩
          refine ⟨fun c6 => ?_, fun c6 => ?_⟩
          ·
            refine ⟨(show 0 ≤ (u6_14 - 1) ∧ (u6_14 - 1) < 1500 from by (first | omega | (simp only [st_s] <;> omega) | assumption | omega | fail)), ?_⟩
            intro x8 r_x8 e_x8
            have b_x8 : 0 ≤ x8 ∧ x8 ≤ 1500 := by rw [e_x8]; exact hT.2 72 _
            rw [G72] at e_x8
            rw [← e_x8] at nrr
            refine ⟨(⟨by (first | omega | (simp only [st_s] <;> omega) | assumption | omega | fail), by (first | omega | (simp only [st_s] <;> omega) | assumption | omega | fail)⟩ : rg (u7_14 + 1)), ?_⟩
            exact ih_14 _ _ _ (show (1501 - (u7_14 + 1) : Int) < ((m_14 : Nat) : Int) from by ((first | omega | (simp only [st_s] <;> omega) | assumption | omega | fail))) hT (show τ_14.1 4 = σ.1 4 from by first | exact W4 | omega) (show τ_14.1 6 = σ.1 6 from by first | exact W6 | omega) (show τ_14.1 7 = σ.1 7 from by first | exact W7 | omega) (show τ_14.1 13 = σ.1 13 from by first | exact W13 | omega) (show τ_14.1 14 = σ.1 14 from by first | exact W14 | omega) (show τ_14.1 15 = σ.1 15 from by first | exact W15 | omega) (show τ_14.1 45 = σ.1 45 from by first | exact W45 | omega) (show τ_14.1 48 = σ.1 48 from by first | exact W48 | omega) (show τ_14.1 50 = σ.1 50 from by first | exact W50 | omega) (show τ_14.1 51 = σ.1 51 from by first | exact W51 | omega) (show τ_14.1 53 = σ.1 53 from by first | exact W53 | omega) G10 G13 G14 G15 G16 G27 G28 G29 G30 G31 G32 G33 G34 G35 G36 G37 G71 G72 G78 (show 0 ≤ x8 from by (first | omega | (simp only [st_s] <;> omega) | assumption | omega | fail)) (show 0 ≤ (u7_14 + 1) ∧ (u7_14 + 1) ≤ 1500 from by (first | omega | (simp only [st_s] <;> omega) | assumption | omega | fail)) (show 0 < x8 → x8 + (u7_14 + 1) ≤ 1500 from by (first | omega | (intro z; omega) | fail)) (show 0 < x8 → In (x8 - 1) ∧ nof (x8 - 1) = n1 from by (first | exact fr.2.1 | exact fun z => ⟨(nrr.2.1 z).1, (nrr.2.1 z).2.trans inr.2⟩ | fail)) (show g_ad (σ.1 53) (σ.1 50) (σ.1 4) (σ.1 51) n1 x8 n2 n4 (σ.2.2 4) (σ.2.2 5) (τ_14.2.2 4) (τ_14.2.2 5) (σ.2.1 79) (τ_14.2.1 79) (σ.2.1 78) (g_so (σ.1 48) (σ.2.1 14) (σ.2.1 15) (σ.2.1 10)) nof In from by (first | exact g_ad0 fr.2.2 | exact g_ad_n i14_5 (by omega) (fun r a b c d => nrr.2.2 r a b c (d.trans inr.2.symm)) | exact g_ad_a (s0 := x14) i14_5 (fun r a b c d => nrr.2.2 r a b c (d.trans inr.2.symm)) inr.1 (by omega) inr.2 x14s (by omega) (by omega) p6 (by omega) p7 (by rw [q16_1, W53o]) (by rw [q16_2, W53o]) (fun s i e a b c => by have w := q16_3 s i e a b c; rw [W53o, W50o] at w; exact w) | fail))
          ·
            refine ⟨_, K_X3_typeOf hT (show 0 ≤ (u6_14 - 1) from by (first | omega | (simp only [st_s] <;> omega) | assumption | omega | fail)) (show (u6_14 - 1) ≤ 1500 from by (first | omega | (simp only [st_s] <;> omega) | assumption | omega | fail)) (show τ_14.2.1 14 (u6_14 - 1) < 30000 from by (rw [G14]; omega)), ?_⟩
            intro x11 r_x11 hq
            obtain ⟨q10_1, q10_2⟩ := hq
            replace q10_1 : x11 = τ_14.2.1 15 (τ_14.2.1 14 (u6_14 - 1)) := q10_1
            replace q10_2 : 0 ≤ x11 ∧ x11 ≤ 999 := q10_2
            refine ⟨_, K2_X8_sortRank hT (show 0 ≤ x11 from by (first | omega | (simp only [st_s] <;> omega) | assumption | omega | fail)) (show x11 < 1000 from by (first | omega | (simp only [st_s] <;> omega) | assumption | omega | fail)), ?_⟩
            intro x14 r_x14 hq
            obtain ⟨q13_1, q13_2, q13_3⟩ := hq
            replace q13_1 : -1 ≤ x14 ∧ x14 ≤ 99 := q13_1
            replace q13_2 : ¬ x11 = (τ_14.1 48) → x14 = τ_14.2.1 10 x11 := q13_2
            replace q13_3 : x11 = (τ_14.1 48) → x14 = -1 := q13_3
            have tp : x11 = σ.2.1 15 (σ.2.1 14 (u6_14 - 1)) := by rw [q10_1, G15, G14]
            have pn := g_p1_x (ug.2.2.2.1 (u6_14 - 1) inr.1).1 p4.2.1 (s15 _).1 (by omega)
            have rk2 := rkt (u6_14 - 1) (by omega) (by omega)
            rw [← tp] at pn rk2
            have x14e := q13_2 (by omega)
            rw [G10] at x14e
            have x14s : x14 = g_so (σ.1 48) (σ.2.1 14) (σ.2.1 15) (σ.2.1 10) (u6_14 - 1) := by (rw [g_so_n (by rw [← tp]; exact pn), x14e, tp])
            have W53o := W53
            have W50o := W50
            refine ⟨_, K_X1_add hT (show 0 ≤ x14 from by (first | omega | (simp only [st_s] <;> omega) | assumption | omega | fail)) (show x14 < 100 from by (first | omega | (simp only [st_s] <;> omega) | assumption | omega | fail)) (show 0 ≤ (u6_14 - 1) from by (first | omega | (simp only [st_s] <;> omega) | assumption | omega | fail)) (show (u6_14 - 1) < 1500 from by (first | omega | (simp only [st_s] <;> omega) | assumption | omega | fail)) (show (τ_14.1 53) < (τ_14.1 50) from by (first | omega | (simp only [st_s] <;> omega) | assumption | omega | fail)), ?_⟩
            intro τ18 hn_τ18 hf_τ18 hq
            obtain ⟨hT, q16_1, q16_2, q16_3⟩ := hq
            replace q16_1 : τ18.2.2 4 = st (τ_14.2.2 4) ((x14 * 60) + (τ_14.1 53)) (τ_14.2.2 4 ((x14 * 60) + (τ_14.1 53)) ||| n2) := q16_1
            replace q16_2 : τ18.2.2 5 = st (τ_14.2.2 5) ((x14 * 60) + (τ_14.1 53)) (τ_14.2.2 5 ((x14 * 60) + (τ_14.1 53)) ||| (n4 ||| (n2 &&& τ_14.2.2 4 ((x14 * 60) + (τ_14.1 53))))) := q16_2
            replace q16_3 : ∀ s i e : Int, 0 ≤ i → i < e → e ≤ 59 → (¬ (s = x14 ∧ i = (τ_14.1 53) ∧ e ≤ (τ_14.1 50) ∧ j_b n2 e ∧ ¬ j_b (τ_14.2.2 4 ((x14 * 60) + (τ_14.1 53))) e) → g_mb (τ18.2.1 79) s i e = g_mb (τ_14.2.1 79) s i e) ∧ ((s = x14 ∧ i = (τ_14.1 53) ∧ e ≤ (τ_14.1 50) ∧ j_b n2 e ∧ ¬ j_b (τ_14.2.2 4 ((x14 * 60) + (τ_14.1 53))) e) → g_mb (τ18.2.1 79) s i e = (u6_14 - 1)) := q16_3
            have w4_τ18 : τ18.1 4 = τ_14.1 4 := hf_τ18.1 4 (by decide)
            have w6_τ18 : τ18.1 6 = τ_14.1 6 := hf_τ18.1 6 (by decide)
            have w7_τ18 : τ18.1 7 = τ_14.1 7 := hf_τ18.1 7 (by decide)
            have w13_τ18 : τ18.1 13 = τ_14.1 13 := hf_τ18.1 13 (by decide)
            have w14_τ18 : τ18.1 14 = τ_14.1 14 := hf_τ18.1 14 (by decide)
            have w15_τ18 : τ18.1 15 = τ_14.1 15 := hf_τ18.1 15 (by decide)
            have w45_τ18 : τ18.1 45 = τ_14.1 45 := hf_τ18.1 45 (by decide)
            have w48_τ18 : τ18.1 48 = τ_14.1 48 := hf_τ18.1 48 (by decide)
            have w50_τ18 : τ18.1 50 = τ_14.1 50 := hf_τ18.1 50 (by decide)
            have w51_τ18 : τ18.1 51 = τ_14.1 51 := hf_τ18.1 51 (by decide)
            have w53_τ18 : τ18.1 53 = τ_14.1 53 := hf_τ18.1 53 (by decide)
            have g10_τ18 : τ18.2.1 10 = τ_14.2.1 10 := hf_τ18.2.1 10 (by decide)
            have g13_τ18 : τ18.2.1 13 = τ_14.2.1 13 := hf_τ18.2.1 13 (by decide)
            have g14_τ18 : τ18.2.1 14 = τ_14.2.1 14 := hf_τ18.2.1 14 (by decide)
            have g15_τ18 : τ18.2.1 15 = τ_14.2.1 15 := hf_τ18.2.1 15 (by decide)
            have g16_τ18 : τ18.2.1 16 = τ_14.2.1 16 := hf_τ18.2.1 16 (by decide)
            have g27_τ18 : τ18.2.1 27 = τ_14.2.1 27 := hf_τ18.2.1 27 (by decide)
            have g28_τ18 : τ18.2.1 28 = τ_14.2.1 28 := hf_τ18.2.1 28 (by decide)
            have g29_τ18 : τ18.2.1 29 = τ_14.2.1 29 := hf_τ18.2.1 29 (by decide)
            have g30_τ18 : τ18.2.1 30 = τ_14.2.1 30 := hf_τ18.2.1 30 (by decide)
            have g31_τ18 : τ18.2.1 31 = τ_14.2.1 31 := hf_τ18.2.1 31 (by decide)
            have g32_τ18 : τ18.2.1 32 = τ_14.2.1 32 := hf_τ18.2.1 32 (by decide)
            have g33_τ18 : τ18.2.1 33 = τ_14.2.1 33 := hf_τ18.2.1 33 (by decide)
            have g34_τ18 : τ18.2.1 34 = τ_14.2.1 34 := hf_τ18.2.1 34 (by decide)
            have g35_τ18 : τ18.2.1 35 = τ_14.2.1 35 := hf_τ18.2.1 35 (by decide)
            have g36_τ18 : τ18.2.1 36 = τ_14.2.1 36 := hf_τ18.2.1 36 (by decide)
            have g37_τ18 : τ18.2.1 37 = τ_14.2.1 37 := hf_τ18.2.1 37 (by decide)
            have g71_τ18 : τ18.2.1 71 = τ_14.2.1 71 := hf_τ18.2.1 71 (by decide)
            have g72_τ18 : τ18.2.1 72 = τ_14.2.1 72 := hf_τ18.2.1 72 (by decide)
            have g78_τ18 : τ18.2.1 78 = τ_14.2.1 78 := hf_τ18.2.1 78 (by decide)
            have W4 : τ18.1 4 = σ.1 4 := by first | exact w4_τ18.trans W4 | omega
            have W6 : τ18.1 6 = σ.1 6 := by first | exact w6_τ18.trans W6 | omega
            have W7 : τ18.1 7 = σ.1 7 := by first | exact w7_τ18.trans W7 | omega
            have W13 : τ18.1 13 = σ.1 13 := by first | exact w13_τ18.trans W13 | omega
            have W14 : τ18.1 14 = σ.1 14 := by first | exact w14_τ18.trans W14 | omega
            have W15 : τ18.1 15 = σ.1 15 := by first | exact w15_τ18.trans W15 | omega
            have W45 : τ18.1 45 = σ.1 45 := by first | exact w45_τ18.trans W45 | omega
            have W48 : τ18.1 48 = σ.1 48 := by first | exact w48_τ18.trans W48 | omega
            have W50 : τ18.1 50 = σ.1 50 := by first | exact w50_τ18.trans W50 | omega
            have W51 : τ18.1 51 = σ.1 51 := by first | exact w51_τ18.trans W51 | omega
            have W53 : τ18.1 53 = σ.1 53 := by first | exact w53_τ18.trans W53 | omega
            have G10 : τ18.2.1 10 = σ.2.1 10 := (g10_τ18).trans G10
            have G13 : τ18.2.1 13 = σ.2.1 13 := (g13_τ18).trans G13
            have G14 : τ18.2.1 14 = σ.2.1 14 := (g14_τ18).trans G14
            have G15 : τ18.2.1 15 = σ.2.1 15 := (g15_τ18).trans G15
            have G16 : τ18.2.1 16 = σ.2.1 16 := (g16_τ18).trans G16
            have G27 : τ18.2.1 27 = σ.2.1 27 := (g27_τ18).trans G27
            have G28 : τ18.2.1 28 = σ.2.1 28 := (g28_τ18).trans G28
            have G29 : τ18.2.1 29 = σ.2.1 29 := (g29_τ18).trans G29
            have G30 : τ18.2.1 30 = σ.2.1 30 := (g30_τ18).trans G30
            have G31 : τ18.2.1 31 = σ.2.1 31 := (g31_τ18).trans G31
            have G32 : τ18.2.1 32 = σ.2.1 32 := (g32_τ18).trans G32
            have G33 : τ18.2.1 33 = σ.2.1 33 := (g33_τ18).trans G33
            have G34 : τ18.2.1 34 = σ.2.1 34 := (g34_τ18).trans G34
            have G35 : τ18.2.1 35 = σ.2.1 35 := (g35_τ18).trans G35
            have G36 : τ18.2.1 36 = σ.2.1 36 := (g36_τ18).trans G36
            have G37 : τ18.2.1 37 = σ.2.1 37 := (g37_τ18).trans G37
            have G71 : τ18.2.1 71 = σ.2.1 71 := (g71_τ18).trans G71
            have G72 : τ18.2.1 72 = σ.2.1 72 := (g72_τ18).trans G72
            have G78 : τ18.2.1 78 = σ.2.1 78 := (g78_τ18).trans G78
            have CJ : J_all (τ18.1 7) (τ18.1 6) (τ18.1 13) (τ18.1 14) (τ18.1 15) (τ18.2.1 13) (τ18.2.1 14) (τ18.2.1 15) (τ18.2.1 16) (τ18.2.1 10) (τ18.2.1 27) (τ18.2.1 28) (τ18.2.1 29) (τ18.2.1 30) (τ18.2.1 31) (τ18.2.1 32) (τ18.2.1 33) (τ18.2.1 34) (τ18.2.1 35) (τ18.2.1 36) (τ18.2.1 37) := by rw [show (J_all (τ18.1 7) (τ18.1 6) (τ18.1 13) (τ18.1 14) (τ18.1 15) (τ18.2.1 13) (τ18.2.1 14) (τ18.2.1 15) (τ18.2.1 16) (τ18.2.1 10) (τ18.2.1 27) (τ18.2.1 28) (τ18.2.1 29) (τ18.2.1 30) (τ18.2.1 31) (τ18.2.1 32) (τ18.2.1 33) (τ18.2.1 34) (τ18.2.1 35) (τ18.2.1 36) (τ18.2.1 37)) = (J_all (τ_14.1 7) (τ_14.1 6) (τ_14.1 13) (τ_14.1 14) (τ_14.1 15) (τ_14.2.1 13) (τ_14.2.1 14) (τ_14.2.1 15) (τ_14.2.1 16) (τ_14.2.1 10) (τ_14.2.1 27) (τ_14.2.1 28) (τ_14.2.1 29) (τ_14.2.1 30) (τ_14.2.1 31) (τ_14.2.1 32) (τ_14.2.1 33) (τ_14.2.1 34) (τ_14.2.1 35) (τ_14.2.1 36) (τ_14.2.1 37)) from by rw [w6_τ18, w7_τ18, w13_τ18, w14_τ18, w15_τ18, g10_τ18, g13_τ18, g14_τ18, g15_τ18, g16_τ18, g27_τ18, g28_τ18, g29_τ18, g30_τ18, g31_τ18, g32_τ18, g33_τ18, g34_τ18, g35_τ18, g36_τ18, g37_τ18]]; exact CJ
            have A10 : ∀ j, (-1) ≤ τ18.2.1 10 j ∧ τ18.2.1 10 j ≤ 99 := fun j => hT.2 10 j
            have A13 : ∀ j, 0 ≤ τ18.2.1 13 j ∧ τ18.2.1 13 j ≤ 4 := fun j => hT.2 13 j
            have A14 : ∀ j, 0 ≤ τ18.2.1 14 j ∧ τ18.2.1 14 j ≤ 30000 := fun j => hT.2 14 j
            have A15 : ∀ j, 0 ≤ τ18.2.1 15 j ∧ τ18.2.1 15 j ≤ 999 := fun j => hT.2 15 j
            have A16 : ∀ j, (-1) ≤ τ18.2.1 16 j ∧ τ18.2.1 16 j ≤ 1499 := fun j => hT.2 16 j
            have A27 : ∀ j, 0 ≤ τ18.2.1 27 j ∧ τ18.2.1 27 j ≤ 90000 := fun j => hT.2 27 j
            have A28 : ∀ j, 0 ≤ τ18.2.1 28 j ∧ τ18.2.1 28 j ≤ 60 := fun j => hT.2 28 j
            have A29 : ∀ j, 0 ≤ τ18.2.1 29 j ∧ τ18.2.1 29 j ≤ 1499 := fun j => hT.2 29 j
            have A30 : ∀ j, 0 ≤ τ18.2.1 30 j ∧ τ18.2.1 30 j ≤ 20000 := fun j => hT.2 30 j
            have A31 : ∀ j, 0 ≤ τ18.2.1 31 j ∧ τ18.2.1 31 j ≤ 20000 := fun j => hT.2 31 j
            have A32 : ∀ j, 0 ≤ τ18.2.1 32 j ∧ τ18.2.1 32 j ≤ 999999 := fun j => hT.2 32 j
            have A33 : ∀ j, 0 ≤ τ18.2.1 33 j ∧ τ18.2.1 33 j ≤ 20000 := fun j => hT.2 33 j
            have A34 : ∀ j, 0 ≤ τ18.2.1 34 j ∧ τ18.2.1 34 j ≤ 20000 := fun j => hT.2 34 j
            have A35 : ∀ j, 0 ≤ τ18.2.1 35 j ∧ τ18.2.1 35 j ≤ 1499 := fun j => hT.2 35 j
            have A36 : ∀ j, 0 ≤ τ18.2.1 36 j ∧ τ18.2.1 36 j ≤ 20000 := fun j => hT.2 36 j
            have A37 : ∀ j, 0 ≤ τ18.2.1 37 j ∧ τ18.2.1 37 j ≤ 19999 := fun j => hT.2 37 j
            have A71 : ∀ j, 0 ≤ τ18.2.1 71 j ∧ τ18.2.1 71 j ≤ 1500 := fun j => hT.2 71 j
            have A72 : ∀ j, 0 ≤ τ18.2.1 72 j ∧ τ18.2.1 72 j ≤ 1500 := fun j => hT.2 72 j
            have A78 : ∀ j, (-1) ≤ τ18.2.1 78 j ∧ τ18.2.1 78 j ≤ 1499 := fun j => hT.2 78 j
            have A79 : ∀ j, 0 ≤ τ18.2.1 79 j ∧ τ18.2.1 79 j ≤ 1499 := fun j => hT.2 79 j
            have v4 : 0 ≤ τ18.1 4 ∧ τ18.1 4 ≤ 100 := hT.1 4
            have v6 : 0 ≤ τ18.1 6 ∧ τ18.1 6 ≤ 30000 := hT.1 6
            have v7 : 0 ≤ τ18.1 7 ∧ τ18.1 7 ≤ 1500 := hT.1 7
            have v13 : 0 ≤ τ18.1 13 ∧ τ18.1 13 ≤ 90000 := hT.1 13
            have v14 : 0 ≤ τ18.1 14 ∧ τ18.1 14 ≤ 20000 := hT.1 14
            have v15 : 0 ≤ τ18.1 15 ∧ τ18.1 15 ≤ 20000 := hT.1 15
            have v45 : 1 ≤ τ18.1 45 ∧ τ18.1 45 ≤ 30001 := hT.1 45
            have v48 : (-1) ≤ τ18.1 48 ∧ τ18.1 48 ≤ 999 := hT.1 48
            have v50 : 0 ≤ τ18.1 50 ∧ τ18.1 50 ≤ 59 := hT.1 50
            have v51 : 0 ≤ τ18.1 51 ∧ τ18.1 51 ≤ 1500 := hT.1 51
            have v53 : 0 ≤ τ18.1 53 ∧ τ18.1 53 ≤ 58 := hT.1 53
            refine ⟨(show 0 ≤ (u6_14 - 1) ∧ (u6_14 - 1) < 1500 from by (first | omega | (simp only [st_s] <;> omega) | assumption | omega | fail)), ?_⟩
            intro x20 r_x20 e_x20
            have b_x20 : 0 ≤ x20 ∧ x20 ≤ 1500 := by rw [e_x20]; exact hT.2 72 _
            rw [G72] at e_x20
            rw [← e_x20] at nrr
            refine ⟨(⟨by (first | omega | (simp only [st_s] <;> omega) | assumption | omega | fail), by (first | omega | (simp only [st_s] <;> omega) | assumption | omega | fail)⟩ : rg (u7_14 + 1)), ?_⟩
            exact ih_14 _ _ _ (show (1501 - (u7_14 + 1) : Int) < ((m_14 : Nat) : Int) from by ((first | omega | (simp only [st_s] <;> omega) | assumption | omega | fail))) hT (show τ18.1 4 = σ.1 4 from by first | exact W4 | omega) (show τ18.1 6 = σ.1 6 from by first | exact W6 | omega) (show τ18.1 7 = σ.1 7 from by first | exact W7 | omega) (show τ18.1 13 = σ.1 13 from by first | exact W13 | omega) (show τ18.1 14 = σ.1 14 from by first | exact W14 | omega) (show τ18.1 15 = σ.1 15 from by first | exact W15 | omega) (show τ18.1 45 = σ.1 45 from by first | exact W45 | omega) (show τ18.1 48 = σ.1 48 from by first | exact W48 | omega) (show τ18.1 50 = σ.1 50 from by first | exact W50 | omega) (show τ18.1 51 = σ.1 51 from by first | exact W51 | omega) (show τ18.1 53 = σ.1 53 from by first | exact W53 | omega) G10 G13 G14 G15 G16 G27 G28 G29 G30 G31 G32 G33 G34 G35 G36 G37 G71 G72 G78 (show 0 ≤ x20 from by (first | omega | (simp only [st_s] <;> omega) | assumption | omega | fail)) (show 0 ≤ (u7_14 + 1) ∧ (u7_14 + 1) ≤ 1500 from by (first | omega | (simp only [st_s] <;> omega) | assumption | omega | fail)) (show 0 < x20 → x20 + (u7_14 + 1) ≤ 1500 from by (first | omega | (intro z; omega) | fail)) (show 0 < x20 → In (x20 - 1) ∧ nof (x20 - 1) = n1 from by (first | exact fr.2.1 | exact fun z => ⟨(nrr.2.1 z).1, (nrr.2.1 z).2.trans inr.2⟩ | fail)) (show g_ad (σ.1 53) (σ.1 50) (σ.1 4) (σ.1 51) n1 x20 n2 n4 (σ.2.2 4) (σ.2.2 5) (τ18.2.2 4) (τ18.2.2 5) (σ.2.1 79) (τ18.2.1 79) (σ.2.1 78) (g_so (σ.1 48) (σ.2.1 14) (σ.2.1 15) (σ.2.1 10)) nof In from by (first | exact g_ad0 fr.2.2 | exact g_ad_n i14_5 (by omega) (fun r a b c d => nrr.2.2 r a b c (d.trans inr.2.symm)) | exact g_ad_a (s0 := x14) i14_5 (fun r a b c d => nrr.2.2 r a b c (d.trans inr.2.symm)) inr.1 (by omega) inr.2 x14s (by omega) (by omega) p6 (by omega) p7 (by rw [q16_1, W53o]) (by rw [q16_2, W53o]) (fun s i e a b c => by have w := q16_3 s i e a b c; rw [W53o, W50o] at w; exact w) | fail))
  refine ⟨(show 0 ≤ n1 ∧ n1 < 30001 from by (first | omega | (simp only [st_s] <;> omega) | assumption | omega | fail)), ?_⟩
  intro x2 r_x2 e_x2
  have b_x2 : 0 ≤ x2 ∧ x2 ≤ 1500 := by rw [e_x2]; exact hT.2 71 _
  rw [← e_x2] at fr
  exact l_14 ((1501 - 0 : Int).toNat + 1) _ _ _ (show (1501 - 0 : Int) < (((1501 - 0 : Int).toNat + 1 : Nat) : Int) from by ((first | omega | (simp only [st_s] <;> omega) | assumption | omega | fail))) hT (show σ.1 4 = σ.1 4 from by first | exact W4 | omega) (show σ.1 6 = σ.1 6 from by first | exact W6 | omega) (show σ.1 7 = σ.1 7 from by first | exact W7 | omega) (show σ.1 13 = σ.1 13 from by first | exact W13 | omega) (show σ.1 14 = σ.1 14 from by first | exact W14 | omega) (show σ.1 15 = σ.1 15 from by first | exact W15 | omega) (show σ.1 45 = σ.1 45 from by first | exact W45 | omega) (show σ.1 48 = σ.1 48 from by first | exact W48 | omega) (show σ.1 50 = σ.1 50 from by first | exact W50 | omega) (show σ.1 51 = σ.1 51 from by first | exact W51 | omega) (show σ.1 53 = σ.1 53 from by first | exact W53 | omega) G10 G13 G14 G15 G16 G27 G28 G29 G30 G31 G32 G33 G34 G35 G36 G37 G71 G72 G78 (show 0 ≤ x2 from by (first | omega | (simp only [st_s] <;> omega) | assumption | omega | fail)) (show 0 ≤ 0 ∧ 0 ≤ 1500 from by (first | omega | (simp only [st_s] <;> omega) | assumption | omega | fail)) (show 0 < x2 → x2 + 0 ≤ 1500 from by (first | omega | (intro z; omega) | fail)) (show 0 < x2 → In (x2 - 1) ∧ nof (x2 - 1) = n1 from by (first | exact fr.2.1 | exact fun z => ⟨(nrr.2.1 z).1, (nrr.2.1 z).2.trans inr.2⟩ | fail)) (show g_ad (σ.1 53) (σ.1 50) (σ.1 4) (σ.1 51) n1 x2 n2 n4 (σ.2.2 4) (σ.2.2 5) (σ.2.2 4) (σ.2.2 5) (σ.2.1 79) (σ.2.1 79) (σ.2.1 78) (g_so (σ.1 48) (σ.2.1 14) (σ.2.1 15) (σ.2.1 10)) nof In from by (first | exact g_ad0 fr.2.2 | exact g_ad_n i14_5 (by omega) (fun r a b c d => nrr.2.2 r a b c (d.trans inr.2.symm)) | exact g_ad_a (s0 := x14) i14_5 (fun r a b c d => nrr.2.2 r a b c (d.trans inr.2.symm)) inr.1 (by omega) inr.2 x14s (by omega) (by omega) p6 (by omega) p7 (by rw [q16_1, W53o]) (by rw [q16_2, W53o]) (fun s i e a b c => by have w := q16_3 s i e a b c; rw [W53o, W50o] at w; exact w) | fail))
