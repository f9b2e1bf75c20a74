-- pure: one step down the rules
/-- the places that are reached over a sort, as far as places below u are looked at -/
def g_s7 (st u s : Int) (A B u7 u9 : Int64) (b4 b5 : Int → Int64) : Prop := ∀ e : Int, 0 ≤ e → e < 64 → (j_b u7 e ↔ ∃ q : Int, st < q ∧ q < u ∧ j_b A q ∧ g_H b4 s q e) ∧ (j_b u9 e → j_b u7 e) ∧ (∀ q : Int, st < q → q < u → j_b A q → ((j_b B q ∧ g_H b4 s q e) ∨ g_H b5 s q e) → j_b u9 e) ∧ ∀ q q2 : Int, st < q → q < q2 → q2 < u → j_b A q → j_b A q2 → g_H b4 s q e → g_H b4 s q2 e → j_b u9 e
theorem g_s70 (st s : Int) (A B : Int64) (b4 b5 : Int → Int64) : g_s7 st (st + 1) s A B 0 0 b4 b5 := fun e e0 e1 => ⟨⟨fun h => absurd h (j_b_0 e), fun ⟨q, a, b, _⟩ => by omega⟩, fun h => absurd h (j_b_0 e), fun q a b => by omega, fun q q2 a b c => by omega⟩
theorem g_s7_n {st u s : Int} {A B u7 u9 : Int64} {b4 b5 : Int → Int64} (h : g_s7 st u s A B u7 u9 b4 b5) (z : ¬ j_b A u) : g_s7 st (u + 1) s A B u7 u9 b4 b5 := fun e e0 e1 => by
  obtain ⟨h1, h2, h3, h4⟩ := h e e0 e1
  refine ⟨h1.trans ⟨fun ⟨q, a, b, c, d⟩ => ⟨q, a, by omega, c, d⟩, fun ⟨q, a, b, c, d⟩ => ⟨q, a, ?_, c, d⟩⟩, h2, fun q a b c d => h3 q a ?_ c d, fun q q2 a b c d f => h4 q q2 a b ?_ d f⟩
  · rcases (by omega : q < u ∨ q = u) with y | y
    · exact y
    · rw [y] at c; exact absurd c z
  · rcases (by omega : q < u ∨ q = u) with y | y
    · exact y
    · rw [y] at c; exact absurd c z
  · rcases (by omega : q2 < u ∨ q2 = u) with y | y
    · exact y
    · rw [y] at f; exact absurd f z
theorem g_s7_y {st u s : Int} {A B u7 u9 x z : Int64} {b4 b5 : Int → Int64} (h : g_s7 st u s A B u7 u9 b4 b5) (u0 : st < u) (a : j_b A u) (hx : x = b4 (s * 60 + u)) (sh : ∀ e : Int, 0 ≤ e → e < 64 → g_H b5 s u e → g_H b4 s u e) (hz : (j_b B u ∧ z = x) ∨ (¬ j_b B u ∧ z = b5 (s * 60 + u))) : g_s7 st (u + 1) s A B (u7 ||| x) (u9 ||| ((u7 &&& x) ||| z)) b4 b5 := fun e e0 e1 => by
  obtain ⟨h1, h2, h3, h4⟩ := h e e0 e1
  have hb : j_b x e ↔ g_H b4 s u e := by rw [hx]; exact Iff.rfl
  have zx : j_b z e → j_b x e := fun q => by
    rcases hz with ⟨_, y⟩ | ⟨_, y⟩
    · rw [y] at q; exact q
    · rw [y] at q; exact hb.mpr (sh e e0 e1 q)
  rw [j_b_or, j_b_or, j_b_or, j_b_and]
  refine ⟨⟨fun q => ?_, fun ⟨q, c1, c2, c3, c4⟩ => ?_⟩, fun q => ?_, fun q c1 c2 c3 c4 => ?_, fun q q2 c1 c2 c3 c4 c5 c6 c7 => ?_⟩
  · rcases q with q | q
    · obtain ⟨w, w1, w2, w3, w4⟩ := h1.mp q
      exact ⟨w, w1, by omega, w3, w4⟩
    · exact ⟨u, u0, by omega, a, hb.mp q⟩
  · by_cases y : q < u
    · exact Or.inl (h1.mpr ⟨q, c1, y, c3, c4⟩)
    · rw [show q = u from by omega] at c4; exact Or.inr (hb.mpr c4)
  · rcases q with q | ⟨q, _⟩ | q
    · exact Or.inl (h2 q)
    · exact Or.inl q
    · exact Or.inr (zx q)
  · by_cases y : q < u
    · exact Or.inl (h3 q c1 y c3 c4)
    · rw [show q = u from by omega] at c4
      refine Or.inr (Or.inr ?_)
      rcases hz with ⟨w, v⟩ | ⟨w, v⟩
      · rw [v]
        rcases c4 with c4 | c4
        · exact hb.mpr c4.2
        · exact hb.mpr (sh e e0 e1 c4)
      · rw [v]
        rcases c4 with c4 | c4
        · exact absurd c4.1 w
        · exact c4
  · by_cases y : q2 < u
    · exact Or.inl (h4 q q2 c1 c2 y c4 c5 c6 c7)
    · rw [show q2 = u from by omega] at c7
      exact Or.inr (Or.inl ⟨h1.mpr ⟨q, c1, by omega, c4, c6⟩, hb.mpr c7⟩)
theorem j_b_ex {x : Int64} (h : ¬ x = 0) : ∃ e : Int, 0 ≤ e ∧ e < 64 ∧ j_b x e := by
  by_cases z : ∃ e : Int, 0 ≤ e ∧ e < 64 ∧ j_b x e
  · exact z
  · exact absurd (j_b_ext (fun k a b c => z ⟨k, a, b, c⟩)) h
/-- what a step reaches -/
def g_sr (len ke : Int) (A B u7 u9 : Int64) (row : Int → Int) (b4 b5 : Int → Int64) : Prop := ∀ e : Int, 0 ≤ e → e < 64 → (j_b u7 e ↔ ∃ q : Int, 0 ≤ q ∧ j_b A q ∧ g_mk len row (g_H b4) ke q e) ∧ (j_b u9 e → j_b u7 e) ∧ (∀ q : Int, 0 ≤ q → g_mk len row (g_H b4) ke q e → (j_b B q ∨ (j_b A q ∧ ke < 0 ∧ g_H b5 (-1 - ke) q e)) → j_b u9 e) ∧ ∀ q q2 : Int, 0 ≤ q → q < q2 → j_b A q → j_b A q2 → g_mk len row (g_H b4) ke q e → g_mk len row (g_H b4) ke q2 e → j_b u9 e
theorem g_sr_7 {st len ke : Int} {A B u7 u9 : Int64} {row : Int → Int} {b4 b5 : Int → Int64} (h : g_s7 st len (-1 - ke) A B u7 u9 b4 b5) (k : ke < 0) (s0 : 0 ≤ st) (l : len ≤ 59) (hA : ∀ q : Int, 0 ≤ q → q < 64 → j_b A q → st < q) (hB : ∀ q : Int, 0 ≤ q → q < 64 → j_b B q → j_b A q) (hr : ∀ q e : Int, st < q → q < len → 0 ≤ e → e < 64 → g_H b4 (-1 - ke) q e → q < e ∧ e ≤ len) : g_sr len ke A B u7 u9 row b4 b5 := fun e e0 e1 => by
  obtain ⟨h1, h2, h3, h4⟩ := h e e0 e1
  have mk : ∀ q : Int, g_mk len row (g_H b4) ke q e → q < len ∧ g_H b4 (-1 - ke) q e := fun q m => by
    obtain ⟨m1, ⟨a, _⟩ | ⟨_, _, _, d⟩⟩ := m
    · omega
    · exact ⟨m1, d⟩
  refine ⟨⟨fun q => ?_, fun ⟨q, q0, c1, c2⟩ => ?_⟩, h2, fun q q0 c1 c2 => ?_, fun q q2 q0 c1 c2 c3 c4 c5 => ?_⟩
  · obtain ⟨w, w1, w2, w3, w4⟩ := h1.mp q
    have v := hr w e w1 w2 e0 e1 w4
    exact ⟨w, by omega, w3, w2, Or.inr ⟨k, v.1, v.2, w4⟩⟩
  · have v := mk q c2
    exact h1.mpr ⟨q, hA q q0 (by omega) c1, v.1, c1, v.2⟩
  · have v := mk q c1
    rcases c2 with c2 | ⟨c2, _, c3⟩
    · have a := hB q q0 (by omega) c2
      exact h3 q (hA q q0 (by omega) a) v.1 a (Or.inl ⟨c2, v.2⟩)
    · exact h3 q (hA q q0 (by omega) c2) v.1 c2 (Or.inr c3)
  · have v := mk q c4
    have w := mk q2 c5
    exact h4 q q2 (hA q q0 (by omega) c2) c1 w.1 c2 c3 v.2 w.2
theorem g_sr_c {len ke : Int} {A B w u7 u9 : Int64} {row : Int → Int} {b4 b5 : Int → Int64} (k : 0 ≤ ke) (l : len ≤ 59) (hw : ∀ q : Int, 0 ≤ q → q < 64 → (j_b w q ↔ q < len ∧ row q = ke)) (e7 : u7 = j_shl (A &&& w) 1) (e9 : u9 = j_shl (B &&& w) 1) (hB : ∀ q : Int, 0 ≤ q → q < 64 → j_b B q → j_b A q) : g_sr len ke A B u7 u9 row b4 b5 := fun e e0 e1 => by
  have mk : ∀ q : Int, g_mk len row (g_H b4) ke q e → q < len ∧ row q = ke ∧ e = q + 1 := fun q m => by
    obtain ⟨m1, ⟨_, b, c⟩ | ⟨a, _⟩⟩ := m
    · exact ⟨m1, b, c⟩
    · omega
  have h7 : ∀ x : Int64, j_b (j_shl (x &&& w) 1) e ↔ 1 ≤ e ∧ j_b x (e - 1) ∧ j_b w (e - 1) := fun x => by rw [j_b_shl _ (by omega) (by omega) e0 e1, j_b_and]
  rw [e7, e9, h7, h7]
  refine ⟨⟨fun ⟨a, b, c⟩ => ?_, fun ⟨q, q0, c1, c2⟩ => ?_⟩, fun ⟨a, b, c⟩ => ⟨a, hB _ (by omega) (by omega) b, c⟩, fun q q0 c1 c2 => ?_, fun q q2 q0 c1 c2 c3 c4 c5 => ?_⟩
  · have v := (hw (e - 1) (by omega) (by omega)).mp c
    exact ⟨e - 1, by omega, b, v.1, Or.inl ⟨k, v.2, by omega⟩⟩
  · obtain ⟨m1, m2, m3⟩ := mk q c2
    rw [show e - 1 = q from by omega]
    exact ⟨by omega, c1, (hw q q0 (by omega)).mpr ⟨m1, m2⟩⟩
  · obtain ⟨m1, m2, m3⟩ := mk q c1
    rw [show e - 1 = q from by omega]
    rcases c2 with c2 | ⟨_, c2, _⟩
    · exact ⟨by omega, c2, (hw q q0 (by omega)).mpr ⟨m1, m2⟩⟩
    · omega
  · have v := mk q c4
    have w := mk q2 c5
    omega
set_option maxHeartbeats 2000000 in
theorem K_X1_step {n1 : Int} {n2 : Int} {σ : S0} (hT : c_T σ) (p1 : 0 ≤ n1) (p2 : n1 ≤ 30000) (p3 : 0 ≤ n2) (p4 : n2 < 60) (p5 : ∀ s q : Int, 0 ≤ s → s < 1000 → 0 ≤ q → q < 64 → (j_b (σ.2.2 3 s) q ↔ q < (σ.1 50) ∧ σ.2.1 77 q = s)) (p6 : ∀ s q e : Int, 0 ≤ s → s < (σ.1 4) → (σ.1 53) < q → q < (σ.1 50) → 0 ≤ e → e < 64 → (g_H (σ.2.2 4) s q e → q < e ∧ e ≤ (σ.1 50)) ∧ (g_H (σ.2.2 5) s q e → g_H (σ.2.2 4) s q e)) (p7 : ∀ q : Int, 0 ≤ q → q < 64 → (j_b (σ.2.2 6 n2) q → (σ.1 53) < q ∧ q ≤ (σ.1 50)) ∧ (j_b (σ.2.2 7 n2) q → j_b (σ.2.2 6 n2) q)) (p8 : (σ.1 53) < (σ.1 50)) (p9 : σ.2.1 69 n1 < 0 → -1 - σ.2.1 69 n1 < (σ.1 4)) : W_X1_step n1 n2 σ (fun (x : Int) (τ : S0) => (c_T τ) ∧ (0 ≤ x ∧ x ≤ 1) ∧ (x = 0 → τ.2.2 6 = σ.2.2 6 ∧ τ.2.2 7 = σ.2.2 7 ∧ ∀ q e : Int, 0 ≤ q → 0 ≤ e → e < 64 → j_b (σ.2.2 6 n2) q → ¬ g_mk (σ.1 50) (σ.2.1 77) (g_H (σ.2.2 4)) (σ.2.1 69 n1) q e) ∧ (¬ x = 0 → (τ.2.2 6 = st (σ.2.2 6) (n2 + 1) (τ.2.2 6 (n2 + 1)) ∧ τ.2.2 7 = st (σ.2.2 7) (n2 + 1) (τ.2.2 7 (n2 + 1))) ∧ g_sr (σ.1 50) (σ.2.1 69 n1) (σ.2.2 6 n2) (σ.2.2 7 n2) (τ.2.2 6 (n2 + 1)) (τ.2.2 7 (n2 + 1)) (σ.2.1 77) (σ.2.2 4) (σ.2.2 5) ∧ ∃ e : Int, 0 ≤ e ∧ e < 64 ∧ j_b (τ.2.2 6 (n2 + 1)) e)) := by
  have A69 : ∀ j, (-100) ≤ σ.2.1 69 j ∧ σ.2.1 69 j ≤ 999 := fun j => hT.2 69 j
  have A77 : ∀ j, 0 ≤ σ.2.1 77 j ∧ σ.2.1 77 j ≤ 999 := fun j => hT.2 77 j
  have v4 : 0 ≤ σ.1 4 ∧ σ.1 4 ≤ 100 := hT.1 4
  have v50 : 0 ≤ σ.1 50 ∧ σ.1 50 ≤ 59 := hT.1 50
  have v53 : 0 ≤ σ.1 53 ∧ σ.1 53 ≤ 58 := hT.1 53
  have W4 : σ.1 4 = σ.1 4 := rfl
  have W50 : σ.1 50 = σ.1 50 := rfl
  have W53 : σ.1 53 = σ.1 53 := rfl
  have G69 : σ.2.1 69 = σ.2.1 69 := rfl
  have G77 : σ.2.1 77 = σ.2.1 77 := rfl
  intro P75 P129 P180 h75 h129 h180
  have k69 := A69 n1
  have l_180 : ∀ (u7_180 : Int64) (u9_180 : Int64) (τ_180 : S0), (c_T τ_180) → (τ_180.1 4 = σ.1 4) → (τ_180.1 50 = σ.1 50) → (τ_180.1 53 = σ.1 53) → (τ_180.2.1 69 = σ.2.1 69) → (τ_180.2.1 77 = σ.2.1 77) → (τ_180 = σ) → (g_sr (σ.1 50) (σ.2.1 69 n1) (σ.2.2 6 n2) (σ.2.2 7 n2) u7_180 u9_180 (σ.2.1 77) (σ.2.2 4) (σ.2.2 5)) → P180 n2 u7_180 u9_180 τ_180 := by
    intro u7_180 u9_180 τ_180 hT W4 W50 W53 G69 G77 i180_1 i180_2
    have A69 : ∀ j, (-100) ≤ τ_180.2.1 69 j ∧ τ_180.2.1 69 j ≤ 999 := fun j => hT.2 69 j
    have A77 : ∀ j, 0 ≤ τ_180.2.1 77 j ∧ τ_180.2.1 77 j ≤ 999 := fun j => hT.2 77 j
    have v4 : 0 ≤ τ_180.1 4 ∧ τ_180.1 4 ≤ 100 := hT.1 4
    have v50 : 0 ≤ τ_180.1 50 ∧ τ_180.1 50 ≤ 59 := hT.1 50
    have v53 : 0 ≤ τ_180.1 53 ∧ τ_180.1 53 ≤ 58 := hT.1 53
    refine h180 n2 u7_180 u9_180 τ_180 ?_
    refine ⟨fun c17 => ?_, fun c17 => ?_⟩
    ·
      exact ⟨hT, (show 0 ≤ 0 ∧ 0 ≤ 1 from by (first | omega | (simp only [st_s] <;> omega) | assumption | omega | fail)), (show 0 = 0 → τ_180.2.2 6 = σ.2.2 6 ∧ τ_180.2.2 7 = σ.2.2 7 ∧ ∀ q e : Int, 0 ≤ q → 0 ≤ e → e < 64 → j_b (σ.2.2 6 n2) q → ¬ g_mk (σ.1 50) (σ.2.1 77) (g_H (σ.2.2 4)) (σ.2.1 69 n1) q e from by (first | (intro z; exfalso; omega) | (intro _; refine ⟨by rw [i180_1], by rw [i180_1], fun q e q0 e0 e1 a m => ?_⟩; have w := (i180_2 e e0 e1).1.mpr ⟨q, q0, a, m⟩; rw [c17] at w; exact j_b_0 e w) | fail)), (show ¬ 0 = 0 → (τ_180.2.2 6 = st (σ.2.2 6) (n2 + 1) (τ_180.2.2 6 (n2 + 1)) ∧ τ_180.2.2 7 = st (σ.2.2 7) (n2 + 1) (τ_180.2.2 7 (n2 + 1))) ∧ g_sr (σ.1 50) (σ.2.1 69 n1) (σ.2.2 6 n2) (σ.2.2 7 n2) (τ_180.2.2 6 (n2 + 1)) (τ_180.2.2 7 (n2 + 1)) (σ.2.1 77) (σ.2.2 4) (σ.2.2 5) ∧ ∃ e : Int, 0 ≤ e ∧ e < 64 ∧ j_b (τ_180.2.2 6 (n2 + 1)) e from by (first | (intro z; exfalso; omega) | (intro _; rw [st_s, st_s, i180_1]; exact ⟨⟨rfl, rfl⟩, i180_2, j_b_ex (by assumption)⟩) | fail))⟩
    ·
      refine ⟨(⟨by (first | omega | (simp only [st_s] <;> omega) | assumption | omega | fail), by (first | omega | (simp only [st_s] <;> omega) | assumption | omega | fail)⟩ : rg (n2 + 1)), ?_⟩
      refine ⟨fun c19 => ?_, fun c19 => ?_⟩
      ·
        refine ⟨(show 0 ≤ (n2 + 1) ∧ (n2 + 1) < 61 from by (first | omega | (simp only [st_s] <;> omega) | assumption | omega | fail)), ?_⟩
        replace hT := cT_b (k := 6) (j := (n2 + 1)) (x := u7_180) hT
        replace hT := cT_b (k := 7) (j := (n2 + 1)) (x := u9_180) hT
        exact ⟨hT, (show 0 ≤ 1 ∧ 1 ≤ 1 from by (first | omega | (simp only [st_s] <;> omega) | assumption | omega | fail)), (show 1 = 0 → (st (τ_180.2.2 6) (n2 + 1) u7_180) = σ.2.2 6 ∧ (st (τ_180.2.2 7) (n2 + 1) u9_180) = σ.2.2 7 ∧ ∀ q e : Int, 0 ≤ q → 0 ≤ e → e < 64 → j_b (σ.2.2 6 n2) q → ¬ g_mk (σ.1 50) (σ.2.1 77) (g_H (σ.2.2 4)) (σ.2.1 69 n1) q e from by (first | (intro z; exfalso; omega) | (intro _; refine ⟨by rw [i180_1], by rw [i180_1], fun q e q0 e0 e1 a m => ?_⟩; have w := (i180_2 e e0 e1).1.mpr ⟨q, q0, a, m⟩; rw [c17] at w; exact j_b_0 e w) | fail)), (show ¬ 1 = 0 → ((st (τ_180.2.2 6) (n2 + 1) u7_180) = st (σ.2.2 6) (n2 + 1) ((st (τ_180.2.2 6) (n2 + 1) u7_180) (n2 + 1)) ∧ (st (τ_180.2.2 7) (n2 + 1) u9_180) = st (σ.2.2 7) (n2 + 1) ((st (τ_180.2.2 7) (n2 + 1) u9_180) (n2 + 1))) ∧ g_sr (σ.1 50) (σ.2.1 69 n1) (σ.2.2 6 n2) (σ.2.2 7 n2) ((st (τ_180.2.2 6) (n2 + 1) u7_180) (n2 + 1)) ((st (τ_180.2.2 7) (n2 + 1) u9_180) (n2 + 1)) (σ.2.1 77) (σ.2.2 4) (σ.2.2 5) ∧ ∃ e : Int, 0 ≤ e ∧ e < 64 ∧ j_b ((st (τ_180.2.2 6) (n2 + 1) u7_180) (n2 + 1)) e from by (first | (intro z; exfalso; omega) | (intro _; rw [st_s, st_s, i180_1]; exact ⟨⟨rfl, rfl⟩, i180_2, j_b_ex (by assumption)⟩) | fail))⟩
      ·
        exact ⟨hT, (show 0 ≤ 0 ∧ 0 ≤ 1 from by (first | omega | (simp only [st_s] <;> omega) | assumption | omega | fail)), (show 0 = 0 → τ_180.2.2 6 = σ.2.2 6 ∧ τ_180.2.2 7 = σ.2.2 7 ∧ ∀ q e : Int, 0 ≤ q → 0 ≤ e → e < 64 → j_b (σ.2.2 6 n2) q → ¬ g_mk (σ.1 50) (σ.2.1 77) (g_H (σ.2.2 4)) (σ.2.1 69 n1) q e from by (first | (intro z; exfalso; omega) | (intro _; refine ⟨by rw [i180_1], by rw [i180_1], fun q e q0 e0 e1 a m => ?_⟩; have w := (i180_2 e e0 e1).1.mpr ⟨q, q0, a, m⟩; rw [c17] at w; exact j_b_0 e w) | fail)), (show ¬ 0 = 0 → (τ_180.2.2 6 = st (σ.2.2 6) (n2 + 1) (τ_180.2.2 6 (n2 + 1)) ∧ τ_180.2.2 7 = st (σ.2.2 7) (n2 + 1) (τ_180.2.2 7 (n2 + 1))) ∧ g_sr (σ.1 50) (σ.2.1 69 n1) (σ.2.2 6 n2) (σ.2.2 7 n2) (τ_180.2.2 6 (n2 + 1)) (τ_180.2.2 7 (n2 + 1)) (σ.2.1 77) (σ.2.2 4) (σ.2.2 5) ∧ ∃ e : Int, 0 ≤ e ∧ e < 64 ∧ j_b (τ_180.2.2 6 (n2 + 1)) e from by (first | (intro z; exfalso; omega) | (intro _; rw [st_s, st_s, i180_1]; exact ⟨⟨rfl, rfl⟩, i180_2, j_b_ex (by assumption)⟩) | fail))⟩
  have l_75 : ∀ (m_75 : Nat) (u3_75 : Int64) (u5_75 : Int64) (u7_75 : Int64) (u9_75 : Int64) (u11_75 : Int) (u12_75 : Int) (τ_75 : S0), 61 - u12_75 < (m_75 : Int) → (c_T τ_75) → (τ_75.1 4 = σ.1 4) → (τ_75.1 50 = σ.1 50) → (τ_75.1 53 = σ.1 53) → (τ_75.2.1 69 = σ.2.1 69) → (τ_75.2.1 77 = σ.2.1 77) → (u3_75 = σ.2.2 6 n2) → (u5_75 = σ.2.2 7 n2) → (u11_75 = σ.2.1 69 n1) → (u11_75 < 0) → ((σ.1 53) + 1 ≤ u12_75) → (u12_75 ≤ (σ.1 50)) → (τ_75 = σ) → (g_s7 (σ.1 53) u12_75 (-1 - u11_75) (σ.2.2 6 n2) (σ.2.2 7 n2) u7_75 u9_75 (σ.2.2 4) (σ.2.2 5)) → P75 n2 u3_75 u5_75 u7_75 u9_75 u11_75 u12_75 τ_75 := by
    intro m_75
    induction m_75 with
    | zero =>
      intro u3_75 u5_75 u7_75 u9_75 u11_75 u12_75 τ_75 hm hT W4 W50 W53 G69 G77 i75_1 i75_2 i75_3 i75_4 i75_5 i75_6 i75_7 i75_8
      have A69 : ∀ j, (-100) ≤ τ_75.2.1 69 j ∧ τ_75.2.1 69 j ≤ 999 := fun j => hT.2 69 j
      have A77 : ∀ j, 0 ≤ τ_75.2.1 77 j ∧ τ_75.2.1 77 j ≤ 999 := fun j => hT.2 77 j
      have v4 : 0 ≤ τ_75.1 4 ∧ τ_75.1 4 ≤ 100 := hT.1 4
      have v50 : 0 ≤ τ_75.1 50 ∧ τ_75.1 50 ≤ 59 := hT.1 50
      have v53 : 0 ≤ τ_75.1 53 ∧ τ_75.1 53 ≤ 58 := hT.1 53
      exfalso; (first | omega | (simp only [st_s] <;> omega) | assumption | omega | fail)
    | succ m_75 ih_75 =>
      intro u3_75 u5_75 u7_75 u9_75 u11_75 u12_75 τ_75 hm_75 hT W4 W50 W53 G69 G77 i75_1 i75_2 i75_3 i75_4 i75_5 i75_6 i75_7 i75_8
      have A69 : ∀ j, (-100) ≤ τ_75.2.1 69 j ∧ τ_75.2.1 69 j ≤ 999 := fun j => hT.2 69 j
      have A77 : ∀ j, 0 ≤ τ_75.2.1 77 j ∧ τ_75.2.1 77 j ≤ 999 := fun j => hT.2 77 j
      have v4 : 0 ≤ τ_75.1 4 ∧ τ_75.1 4 ≤ 100 := hT.1 4
      have v50 : 0 ≤ τ_75.1 50 ∧ τ_75.1 50 ≤ 59 := hT.1 50
      have v53 : 0 ≤ τ_75.1 53 ∧ τ_75.1 53 ≤ 58 := hT.1 53
      refine h75 n2 u3_75 u5_75 u7_75 u9_75 u11_75 u12_75 τ_75 ?_
      refine ⟨fun c11 => ?_, fun c11 => ?_⟩
      ·
        exact l_180 _ _ _ hT (show τ_75.1 4 = σ.1 4 from by first | exact W4 | omega) (show τ_75.1 50 = σ.1 50 from by first | exact W50 | omega) (show τ_75.1 53 = σ.1 53 from by first | exact W53 | omega) G69 G77 (show τ_75 = σ from by (first | exact i75_7 | rfl | fail)) (show g_sr (σ.1 50) (σ.2.1 69 n1) (σ.2.2 6 n2) (σ.2.2 7 n2) u7_75 u9_75 (σ.2.1 77) (σ.2.2 4) (σ.2.2 5) from by (first | (rw [← i75_3]; exact g_sr_7 (st := σ.1 53) (by rw [← show u12_75 = σ.1 50 from by omega]; exact i75_8) (by omega) (by omega) (by omega) (fun q a b c => ((p7 q a b).1 c).1) (fun q a b c => (p7 q a b).2 c) (fun q e a b c d h => (p6 (-1 - u11_75) q e (by omega) (by omega) a b c d).1 h)) | (rw [← e_x5]; exact g_sr_c (w := σ.2.2 3 x5) (by omega) (by omega) (fun q a b => p5 x5 q (by omega) (by omega) a b) (by rw [e_x2, e_x9]) (by rw [e_x3, e_x10]) (fun q a b c => (p7 q a b).2 c)) | fail))
      ·
        refine ⟨fun c12 => ?_, fun c12 => ?_⟩
        ·
          refine ⟨(⟨by (first | omega | (simp only [st_s] <;> omega) | assumption | omega | fail), by (first | omega | (simp only [st_s] <;> omega) | assumption | omega | fail)⟩ : rg (u12_75 + 1)), ?_⟩
          exact ih_75 _ _ _ _ _ _ _ (show (61 - (u12_75 + 1) : Int) < ((m_75 : Nat) : Int) from by ((first | omega | (simp only [st_s] <;> omega) | assumption | omega | fail))) hT (show τ_75.1 4 = σ.1 4 from by first | exact W4 | omega) (show τ_75.1 50 = σ.1 50 from by first | exact W50 | omega) (show τ_75.1 53 = σ.1 53 from by first | exact W53 | omega) G69 G77 (show u3_75 = σ.2.2 6 n2 from by (first | exact i75_1 | exact e_x2 | fail)) (show u5_75 = σ.2.2 7 n2 from by (first | exact i75_2 | exact e_x3 | fail)) (show u11_75 = σ.2.1 69 n1 from by (first | exact i75_3 | exact e_x5 | fail)) (show u11_75 < 0 from by (first | omega | (simp only [st_s] <;> omega) | assumption | omega | fail)) (show (σ.1 53) + 1 ≤ (u12_75 + 1) from by (first | omega | (simp only [st_s] <;> omega) | assumption | omega | fail)) (show (u12_75 + 1) ≤ (σ.1 50) from by (first | omega | (simp only [st_s] <;> omega) | assumption | omega | fail)) (show τ_75 = σ from by (first | exact i75_7 | rfl | fail)) (show g_s7 (σ.1 53) (u12_75 + 1) (-1 - u11_75) (σ.2.2 6 n2) (σ.2.2 7 n2) u7_75 u9_75 (σ.2.2 4) (σ.2.2 5) from by (first | exact g_s70 _ _ _ _ _ _ | exact g_s7_n i75_8 (by rw [← i75_1]; exact (j_b_f (by omega) (by omega)).mp (by assumption)) | (exfalso; omega) | exact g_s7_y i75_8 (by omega) (by rw [← i75_1]; exact (j_b_t (by omega) (by omega)).mp c12) (by rw [e_x15, i75_7]) (fun e a b q => (p6 (-1 - u11_75) u12_75 e (by omega) (by omega) (by omega) (by omega) a b).2 q) (Or.inl ⟨by rw [← i75_2]; exact (j_b_t (by omega) (by omega)).mp c16, rfl⟩) | exact g_s7_y i75_8 (by omega) (by rw [← i75_1]; exact (j_b_t (by omega) (by omega)).mp c12) (by rw [e_x15, i75_7]) (fun e a b q => (p6 (-1 - u11_75) u12_75 e (by omega) (by omega) (by omega) (by omega) a b).2 q) (Or.inr ⟨by rw [← i75_2]; exact (j_b_f (by omega) (by omega)).mp c16, by rw [e_x23, i75_7]⟩) | fail))
        ·
          refine ⟨(show 0 ≤ (((-1 - u11_75) * 60) + u12_75) ∧ (((-1 - u11_75) * 60) + u12_75) < 6000 from by (first | omega | (simp only [st_s] <;> omega) | assumption | omega | fail)), ?_⟩
          intro x15 e_x15
          refine ⟨fun c16 => ?_, fun c16 => ?_⟩
          ·
            refine h129 _ _ _ _ _ _ _ _ _ _ ?_
            refine ⟨fun c21 => ?_, fun c21 => ?_⟩
            ·
              refine ⟨(show 0 ≤ (((-1 - u11_75) * 60) + u12_75) ∧ (((-1 - u11_75) * 60) + u12_75) < 6000 from by (first | omega | (simp only [st_s] <;> omega) | assumption | omega | fail)), ?_⟩
              intro x23 e_x23
              refine ⟨(⟨by (first | omega | (simp only [st_s] <;> omega) | assumption | omega | fail), by (first | omega | (simp only [st_s] <;> omega) | assumption | omega | fail)⟩ : rg (u12_75 + 1)), ?_⟩
              exact ih_75 _ _ _ _ _ _ _ (show (61 - (u12_75 + 1) : Int) < ((m_75 : Nat) : Int) from by ((first | omega | (simp only [st_s] <;> omega) | assumption | omega | fail))) hT (show τ_75.1 4 = σ.1 4 from by first | exact W4 | omega) (show τ_75.1 50 = σ.1 50 from by first | exact W50 | omega) (show τ_75.1 53 = σ.1 53 from by first | exact W53 | omega) G69 G77 (show u3_75 = σ.2.2 6 n2 from by (first | exact i75_1 | exact e_x2 | fail)) (show u5_75 = σ.2.2 7 n2 from by (first | exact i75_2 | exact e_x3 | fail)) (show u11_75 = σ.2.1 69 n1 from by (first | exact i75_3 | exact e_x5 | fail)) (show u11_75 < 0 from by (first | omega | (simp only [st_s] <;> omega) | assumption | omega | fail)) (show (σ.1 53) + 1 ≤ (u12_75 + 1) from by (first | omega | (simp only [st_s] <;> omega) | assumption | omega | fail)) (show (u12_75 + 1) ≤ (σ.1 50) from by (first | omega | (simp only [st_s] <;> omega) | assumption | omega | fail)) (show τ_75 = σ from by (first | exact i75_7 | rfl | fail)) (show g_s7 (σ.1 53) (u12_75 + 1) (-1 - u11_75) (σ.2.2 6 n2) (σ.2.2 7 n2) (u7_75 ||| x15) (u9_75 ||| ((u7_75 &&& x15) ||| x23)) (σ.2.2 4) (σ.2.2 5) from by (first | exact g_s70 _ _ _ _ _ _ | exact g_s7_n i75_8 (by rw [← i75_1]; exact (j_b_f (by omega) (by omega)).mp (by assumption)) | (exfalso; omega) | exact g_s7_y i75_8 (by omega) (by rw [← i75_1]; exact (j_b_t (by omega) (by omega)).mp c12) (by rw [e_x15, i75_7]) (fun e a b q => (p6 (-1 - u11_75) u12_75 e (by omega) (by omega) (by omega) (by omega) a b).2 q) (Or.inl ⟨by rw [← i75_2]; exact (j_b_t (by omega) (by omega)).mp c16, rfl⟩) | exact g_s7_y i75_8 (by omega) (by rw [← i75_1]; exact (j_b_t (by omega) (by omega)).mp c12) (by rw [e_x15, i75_7]) (fun e a b q => (p6 (-1 - u11_75) u12_75 e (by omega) (by omega) (by omega) (by omega) a b).2 q) (Or.inr ⟨by rw [← i75_2]; exact (j_b_f (by omega) (by omega)).mp c16, by rw [e_x23, i75_7]⟩) | fail))
            ·
              refine ⟨(⟨by (first | omega | (simp only [st_s] <;> omega) | assumption | omega | fail), by (first | omega | (simp only [st_s] <;> omega) | assumption | omega | fail)⟩ : rg (u12_75 + 1)), ?_⟩
              exact ih_75 _ _ _ _ _ _ _ (show (61 - (u12_75 + 1) : Int) < ((m_75 : Nat) : Int) from by ((first | omega | (simp only [st_s] <;> omega) | assumption | omega | fail))) hT (show τ_75.1 4 = σ.1 4 from by first | exact W4 | omega) (show τ_75.1 50 = σ.1 50 from by first | exact W50 | omega) (show τ_75.1 53 = σ.1 53 from by first | exact W53 | omega) G69 G77 (show u3_75 = σ.2.2 6 n2 from by (first | exact i75_1 | exact e_x2 | fail)) (show u5_75 = σ.2.2 7 n2 from by (first | exact i75_2 | exact e_x3 | fail)) (show u11_75 = σ.2.1 69 n1 from by (first | exact i75_3 | exact e_x5 | fail)) (show u11_75 < 0 from by (first | omega | (simp only [st_s] <;> omega) | assumption | omega | fail)) (show (σ.1 53) + 1 ≤ (u12_75 + 1) from by (first | omega | (simp only [st_s] <;> omega) | assumption | omega | fail)) (show (u12_75 + 1) ≤ (σ.1 50) from by (first | omega | (simp only [st_s] <;> omega) | assumption | omega | fail)) (show τ_75 = σ from by (first | exact i75_7 | rfl | fail)) (show g_s7 (σ.1 53) (u12_75 + 1) (-1 - u11_75) (σ.2.2 6 n2) (σ.2.2 7 n2) (u7_75 ||| x15) (u9_75 ||| ((u7_75 &&& x15) ||| x15)) (σ.2.2 4) (σ.2.2 5) from by (first | exact g_s70 _ _ _ _ _ _ | exact g_s7_n i75_8 (by rw [← i75_1]; exact (j_b_f (by omega) (by omega)).mp (by assumption)) | (exfalso; omega) | exact g_s7_y i75_8 (by omega) (by rw [← i75_1]; exact (j_b_t (by omega) (by omega)).mp c12) (by rw [e_x15, i75_7]) (fun e a b q => (p6 (-1 - u11_75) u12_75 e (by omega) (by omega) (by omega) (by omega) a b).2 q) (Or.inl ⟨by rw [← i75_2]; exact (j_b_t (by omega) (by omega)).mp c16, rfl⟩) | exact g_s7_y i75_8 (by omega) (by rw [← i75_1]; exact (j_b_t (by omega) (by omega)).mp c12) (by rw [e_x15, i75_7]) (fun e a b q => (p6 (-1 - u11_75) u12_75 e (by omega) (by omega) (by omega) (by omega) a b).2 q) (Or.inr ⟨by rw [← i75_2]; exact (j_b_f (by omega) (by omega)).mp c16, by rw [e_x23, i75_7]⟩) | fail))
          ·
            refine h129 _ _ _ _ _ _ _ _ _ _ ?_
            refine ⟨fun c21 => ?_, fun c21 => ?_⟩
            ·
              refine ⟨(show 0 ≤ (((-1 - u11_75) * 60) + u12_75) ∧ (((-1 - u11_75) * 60) + u12_75) < 6000 from by (first | omega | (simp only [st_s] <;> omega) | assumption | omega | fail)), ?_⟩
              intro x23 e_x23
              refine ⟨(⟨by (first | omega | (simp only [st_s] <;> omega) | assumption | omega | fail), by (first | omega | (simp only [st_s] <;> omega) | assumption | omega | fail)⟩ : rg (u12_75 + 1)), ?_⟩
              exact ih_75 _ _ _ _ _ _ _ (show (61 - (u12_75 + 1) : Int) < ((m_75 : Nat) : Int) from by ((first | omega | (simp only [st_s] <;> omega) | assumption | omega | fail))) hT (show τ_75.1 4 = σ.1 4 from by first | exact W4 | omega) (show τ_75.1 50 = σ.1 50 from by first | exact W50 | omega) (show τ_75.1 53 = σ.1 53 from by first | exact W53 | omega) G69 G77 (show u3_75 = σ.2.2 6 n2 from by (first | exact i75_1 | exact e_x2 | fail)) (show u5_75 = σ.2.2 7 n2 from by (first | exact i75_2 | exact e_x3 | fail)) (show u11_75 = σ.2.1 69 n1 from by (first | exact i75_3 | exact e_x5 | fail)) (show u11_75 < 0 from by (first | omega | (simp only [st_s] <;> omega) | assumption | omega | fail)) (show (σ.1 53) + 1 ≤ (u12_75 + 1) from by (first | omega | (simp only [st_s] <;> omega) | assumption | omega | fail)) (show (u12_75 + 1) ≤ (σ.1 50) from by (first | omega | (simp only [st_s] <;> omega) | assumption | omega | fail)) (show τ_75 = σ from by (first | exact i75_7 | rfl | fail)) (show g_s7 (σ.1 53) (u12_75 + 1) (-1 - u11_75) (σ.2.2 6 n2) (σ.2.2 7 n2) (u7_75 ||| x15) (u9_75 ||| ((u7_75 &&& x15) ||| x23)) (σ.2.2 4) (σ.2.2 5) from by (first | exact g_s70 _ _ _ _ _ _ | exact g_s7_n i75_8 (by rw [← i75_1]; exact (j_b_f (by omega) (by omega)).mp (by assumption)) | (exfalso; omega) | exact g_s7_y i75_8 (by omega) (by rw [← i75_1]; exact (j_b_t (by omega) (by omega)).mp c12) (by rw [e_x15, i75_7]) (fun e a b q => (p6 (-1 - u11_75) u12_75 e (by omega) (by omega) (by omega) (by omega) a b).2 q) (Or.inl ⟨by rw [← i75_2]; exact (j_b_t (by omega) (by omega)).mp c16, rfl⟩) | exact g_s7_y i75_8 (by omega) (by rw [← i75_1]; exact (j_b_t (by omega) (by omega)).mp c12) (by rw [e_x15, i75_7]) (fun e a b q => (p6 (-1 - u11_75) u12_75 e (by omega) (by omega) (by omega) (by omega) a b).2 q) (Or.inr ⟨by rw [← i75_2]; exact (j_b_f (by omega) (by omega)).mp c16, by rw [e_x23, i75_7]⟩) | fail))
            ·
              refine ⟨(⟨by (first | omega | (simp only [st_s] <;> omega) | assumption | omega | fail), by (first | omega | (simp only [st_s] <;> omega) | assumption | omega | fail)⟩ : rg (u12_75 + 1)), ?_⟩
              exact ih_75 _ _ _ _ _ _ _ (show (61 - (u12_75 + 1) : Int) < ((m_75 : Nat) : Int) from by ((first | omega | (simp only [st_s] <;> omega) | assumption | omega | fail))) hT (show τ_75.1 4 = σ.1 4 from by first | exact W4 | omega) (show τ_75.1 50 = σ.1 50 from by first | exact W50 | omega) (show τ_75.1 53 = σ.1 53 from by first | exact W53 | omega) G69 G77 (show u3_75 = σ.2.2 6 n2 from by (first | exact i75_1 | exact e_x2 | fail)) (show u5_75 = σ.2.2 7 n2 from by (first | exact i75_2 | exact e_x3 | fail)) (show u11_75 = σ.2.1 69 n1 from by (first | exact i75_3 | exact e_x5 | fail)) (show u11_75 < 0 from by (first | omega | (simp only [st_s] <;> omega) | assumption | omega | fail)) (show (σ.1 53) + 1 ≤ (u12_75 + 1) from by (first | omega | (simp only [st_s] <;> omega) | assumption | omega | fail)) (show (u12_75 + 1) ≤ (σ.1 50) from by (first | omega | (simp only [st_s] <;> omega) | assumption | omega | fail)) (show τ_75 = σ from by (first | exact i75_7 | rfl | fail)) (show g_s7 (σ.1 53) (u12_75 + 1) (-1 - u11_75) (σ.2.2 6 n2) (σ.2.2 7 n2) (u7_75 ||| x15) (u9_75 ||| ((u7_75 &&& x15) ||| x15)) (σ.2.2 4) (σ.2.2 5) from by (first | exact g_s70 _ _ _ _ _ _ | exact g_s7_n i75_8 (by rw [← i75_1]; exact (j_b_f (by omega) (by omega)).mp (by assumption)) | (exfalso; omega) | exact g_s7_y i75_8 (by omega) (by rw [← i75_1]; exact (j_b_t (by omega) (by omega)).mp c12) (by rw [e_x15, i75_7]) (fun e a b q => (p6 (-1 - u11_75) u12_75 e (by omega) (by omega) (by omega) (by omega) a b).2 q) (Or.inl ⟨by rw [← i75_2]; exact (j_b_t (by omega) (by omega)).mp c16, rfl⟩) | exact g_s7_y i75_8 (by omega) (by rw [← i75_1]; exact (j_b_t (by omega) (by omega)).mp c12) (by rw [e_x15, i75_7]) (fun e a b q => (p6 (-1 - u11_75) u12_75 e (by omega) (by omega) (by omega) (by omega) a b).2 q) (Or.inr ⟨by rw [← i75_2]; exact (j_b_f (by omega) (by omega)).mp c16, by rw [e_x23, i75_7]⟩) | fail))
  refine ⟨(show 0 ≤ n2 ∧ n2 < 61 from by (first | omega | (simp only [st_s] <;> omega) | assumption | omega | fail)), ?_⟩
  intro x2 e_x2
  intro x3 e_x3
  refine ⟨(show 0 ≤ n1 ∧ n1 < 30001 from by (first | omega | (simp only [st_s] <;> omega) | assumption | omega | fail)), ?_⟩
  intro x5 r_x5 e_x5
  have b_x5 : (-100) ≤ x5 ∧ x5 ≤ 999 := by rw [e_x5]; exact hT.2 69 _
  refine ⟨fun c6 => ?_, fun c6 => ?_⟩
  ·
    refine ⟨(⟨by (first | omega | (simp only [st_s] <;> omega) | assumption | omega | fail), by (first | omega | (simp only [st_s] <;> omega) | assumption | omega | fail)⟩ : rg (σ.1 53 + 1)), ?_⟩
    exact l_75 ((61 - (σ.1 53 + 1) : Int).toNat + 1) _ _ _ _ _ _ _ (show (61 - (σ.1 53 + 1) : Int) < (((61 - (σ.1 53 + 1) : Int).toNat + 1 : Nat) : Int) from by ((first | omega | (simp only [st_s] <;> omega) | assumption | omega | fail))) hT (show σ.1 4 = σ.1 4 from by first | exact W4 | omega) (show σ.1 50 = σ.1 50 from by first | exact W50 | omega) (show σ.1 53 = σ.1 53 from by first | exact W53 | omega) G69 G77 (show x2 = σ.2.2 6 n2 from by (first | exact i75_1 | exact e_x2 | fail)) (show x3 = σ.2.2 7 n2 from by (first | exact i75_2 | exact e_x3 | fail)) (show x5 = σ.2.1 69 n1 from by (first | exact i75_3 | exact e_x5 | fail)) (show x5 < 0 from by (first | omega | (simp only [st_s] <;> omega) | assumption | omega | fail)) (show (σ.1 53) + 1 ≤ (σ.1 53 + 1) from by (first | omega | (simp only [st_s] <;> omega) | assumption | omega | fail)) (show (σ.1 53 + 1) ≤ (σ.1 50) from by (first | omega | (simp only [st_s] <;> omega) | assumption | omega | fail)) (show σ = σ from by (first | exact i75_7 | rfl | fail)) (show g_s7 (σ.1 53) (σ.1 53 + 1) (-1 - x5) (σ.2.2 6 n2) (σ.2.2 7 n2) 0 0 (σ.2.2 4) (σ.2.2 5) from by (first | exact g_s70 _ _ _ _ _ _ | exact g_s7_n i75_8 (by rw [← i75_1]; exact (j_b_f (by omega) (by omega)).mp (by assumption)) | (exfalso; omega) | exact g_s7_y i75_8 (by omega) (by rw [← i75_1]; exact (j_b_t (by omega) (by omega)).mp c12) (by rw [e_x15, i75_7]) (fun e a b q => (p6 (-1 - u11_75) u12_75 e (by omega) (by omega) (by omega) (by omega) a b).2 q) (Or.inl ⟨by rw [← i75_2]; exact (j_b_t (by omega) (by omega)).mp c16, rfl⟩) | exact g_s7_y i75_8 (by omega) (by rw [← i75_1]; exact (j_b_t (by omega) (by omega)).mp c12) (by rw [e_x15, i75_7]) (fun e a b q => (p6 (-1 - u11_75) u12_75 e (by omega) (by omega) (by omega) (by omega) a b).2 q) (Or.inr ⟨by rw [← i75_2]; exact (j_b_f (by omega) (by omega)).mp c16, by rw [e_x23, i75_7]⟩) | fail))
  ·
    refine ⟨(show 0 ≤ x5 ∧ x5 < 1000 from by (first | omega | (simp only [st_s] <;> omega) | assumption | omega | fail)), ?_⟩
    intro x9 e_x9
    intro x10 e_x10
    exact l_180 _ _ _ hT (show σ.1 4 = σ.1 4 from by first | exact W4 | omega) (show σ.1 50 = σ.1 50 from by first | exact W50 | omega) (show σ.1 53 = σ.1 53 from by first | exact W53 | omega) G69 G77 (show σ = σ from by (first | exact i75_7 | rfl | fail)) (show g_sr (σ.1 50) (σ.2.1 69 n1) (σ.2.2 6 n2) (σ.2.2 7 n2) (j_shl (x2 &&& x9) 1) (j_shl (x3 &&& x10) 1) (σ.2.1 77) (σ.2.2 4) (σ.2.2 5) from by (first | (rw [← i75_3]; exact g_sr_7 (st := σ.1 53) (by rw [← show u12_75 = σ.1 50 from by omega]; exact i75_8) (by omega) (by omega) (by omega) (fun q a b c => ((p7 q a b).1 c).1) (fun q a b c => (p7 q a b).2 c) (fun q e a b c d h => (p6 (-1 - u11_75) q e (by omega) (by omega) a b c d).1 h)) | (rw [← e_x5]; exact g_sr_c (w := σ.2.2 3 x5) (by omega) (by omega) (fun q a b => p5 x5 q (by omega) (by omega) a b) (by rw [e_x2, e_x9]) (by rw [e_x3, e_x10]) (fun q a b c => (p7 q a b).2 c)) | fail))
