-- pure: rows without definitions
/-- a rule's row that is told stands -/
def z_BV (σ : S0) (r : Int) : Prop := σ.2.1 100 r = -1 ∨ ((1 ≤ σ.2.1 100 r ∧ 0 ≤ σ.2.1 99 r ∧ σ.2.1 99 r + σ.2.1 100 r ≤ σ.1 53) ∧ ∀ k : Int, 0 ≤ k → k < σ.2.1 100 r → (σ.2.1 101 (σ.2.1 99 r + k) < 0 → -1 - σ.2.1 101 (σ.2.1 99 r + k) < σ.2.1 19 r) ∧ (0 ≤ σ.2.1 101 (σ.2.1 99 r + k) → σ.2.1 101 (σ.2.1 99 r + k) < σ.1 3))
/-- what a node is made of -/
def z_tk (σ : S0) (n t : Int) : Prop := (t < 0 ∧ -1 - t < σ.1 3) ∨ ∃ k : Int, (0 ≤ k ∧ k < σ.2.1 19 (σ.2.1 86 n)) ∧ t = σ.2.1 91 (σ.2.1 87 n + k)
/-- nodes that may be told -/
def z_BZ (σ : S0) (lo hi n2 : Int) (Z : Int → Prop) : Prop := ∀ y : Int, Z y → (lo ≤ y ∧ y < hi) ∧ (σ.2.1 86 y < 0 → (n2 = -1 → σ.2.1 16 (σ.2.1 14 (-1 - σ.2.1 86 y) + 1) < σ.1 3) ∧ (¬ n2 = -1 → y_Lv σ (σ.2.1 86 n2) n2 (σ.2.1 86 y))) ∧ (0 ≤ σ.2.1 86 y → (y_In σ (σ.2.1 86 y) ∧ (σ.2.1 97 (σ.2.1 86 y) = -1 ∨ z_BV σ (σ.2.1 86 y))) ∧ ∀ k : Int, 0 ≤ k → k < σ.2.1 19 (σ.2.1 86 y) → Z (σ.2.1 91 (σ.2.1 87 y + k)))
/-- an item of a row -/
def z_it (σ : S0) (n2 v : Int) : Prop := (v < 0 → ¬ n2 = -1 ∧ -1 - v < σ.2.1 19 (σ.2.1 86 n2)) ∧ (0 ≤ v → v < σ.1 3)
/-- a task -/
def z_ts (σ : S0) (Z : Int → Prop) (t : Int) : Prop := (t < 0 ∧ -1 - t < σ.1 3) ∨ (0 ≤ t ∧ Z t)
def z_wf (wt : Int → Int) (t : Int) : Int := if t < 0 then 1 else 1 + wt t
theorem z_ts_b {σ : S0} {wt : Int → Int} {lo hi n2 t : Int} {Z : Int → Prop} (h : y_TW σ wt lo hi) (z : z_BZ σ lo hi n2 Z) (g : z_ts σ Z t) : 1 ≤ z_wf wt t ∧ z_wf wt t ≤ 11701 := by
  unfold z_wf
  rcases g with g | g
  · rw [if_pos g.1]; omega
  · rw [if_neg (by omega)]
    have w := (z t g.2).1
    have v := (h t w.1 w.2).1
    omega
theorem z_mw_b {σ : S0} {wt f : Int → Int} {lo hi n2 n : Int} {Z : Int → Prop} (h : y_TW σ wt lo hi) (z : z_BZ σ lo hi n2 Z) (n0 : 0 ≤ n) (g : ∀ s : Int, 0 ≤ s → s < n → z_ts σ Z (f s)) : 0 ≤ sm (fun s => z_wf wt (f s)) n ∧ sm (fun s => z_wf wt (f s)) n ≤ 11701 * n := by
  refine ⟨sm_n (fun e a b => ?_), sm_c (fun e a b => (z_ts_b h z (g e a b)).2) (by omega) n0⟩
  have w := (z_ts_b h z (g e a b)).1
  show 0 ≤ z_wf wt (f e)
  omega
theorem z_mw_1 {wt f g : Int → Int} {n : Int} (n0 : 0 ≤ n) (e : ∀ s : Int, 0 ≤ s → s < n → g s = f s) : sm (fun s => z_wf wt (g s)) (n + 1) = sm (fun s => z_wf wt (f s)) n + z_wf wt (g n) := by
  rw [sm_s _ n0, sm_x (f := fun s => z_wf wt (g s)) (g := fun s => z_wf wt (f s)) (fun s a b => by show z_wf wt (g s) = z_wf wt (f s); rw [e s a b])]
theorem z_mw_p {wt f : Int → Int} {n : Int} (n0 : 0 < n) : sm (fun s => z_wf wt (f s)) n = sm (fun s => z_wf wt (f s)) (n - 1) + z_wf wt (f (n - 1)) := by
  have w := sm_s (fun s => z_wf wt (f s)) (n := n - 1) (by omega)
  rw [show n - 1 + 1 = n by omega] at w
  exact w
/-- a kid weighs less -/
theorem z_tk_w {σ : S0} {wt : Int → Int} {lo hi n t : Int} (h : y_TW σ wt lo hi) (a : lo ≤ n) (b : n < hi) (l0 : 0 ≤ lo) (r0 : 0 ≤ σ.2.1 86 n) (g : z_tk σ n t) : z_wf wt t ≤ wt n := by
  have w := h n a b
  unfold z_wf
  rcases g with g | ⟨k, k1, k2⟩
  · rw [if_pos g.1]; exact w.1.1
  · obtain ⟨_, w2, w3⟩ := w.2 r0
    have c := w2 k k1.1 k1.2
    rw [← k2] at c
    rw [if_neg (by omega)]
    have s := sm_1 (g := fun k => wt (σ.2.1 91 (σ.2.1 87 n + k))) (n := σ.2.1 19 (σ.2.1 86 n)) (v := k) (fun e e0 e1 => by
      have c := w2 e e0 e1
      have v := (h _ (by omega) c.2).1.1
      show 0 ≤ wt (σ.2.1 91 (σ.2.1 87 n + e))
      omega) k1.1 k1.2
    have s : wt (σ.2.1 91 (σ.2.1 87 n + k)) ≤ sm (fun k => wt (σ.2.1 91 (σ.2.1 87 n + k))) (σ.2.1 19 (σ.2.1 86 n)) := s
    rw [← k2] at s
    omega
theorem z_tk_s {σ : S0} {wt : Int → Int} {lo hi n2 n t : Int} {Z : Int → Prop} (h : y_TW σ wt lo hi) (z : z_BZ σ lo hi n2 Z) (zn : Z n) (l0 : 0 ≤ lo) (r0 : 0 ≤ σ.2.1 86 n) (g : z_tk σ n t) : z_ts σ Z t := by
  have w := z n zn
  rcases g with g | ⟨k, k1, k2⟩
  · exact Or.inl g
  · have v := (w.2.2 r0).2 k k1.1 k1.2
    rw [← k2] at v
    exact Or.inr ⟨by have u := (z t v).1; omega, v⟩
/-- what is told anew: the loop goes down -/
theorem z_sp {σ : S0} {wt f g : Int → Int} {lo hi n2 n d x : Int} {Z : Int → Prop} (h : y_TW σ wt lo hi) (z : z_BZ σ lo hi n2 Z) (zx : Z x) (l0 : 0 ≤ lo) (r0 : 0 ≤ σ.2.1 86 x) (n0 : 0 ≤ n) (d1 : 1 ≤ d) (nd : n + d ≤ 1300) (e : ∀ s : Int, s < n → g s = f s) (fs : ∀ s : Int, 0 ≤ s → s < n → z_ts σ Z (f s)) (gs : ∀ s : Int, n ≤ s → s < n + d → z_tk σ x (g s)) : (∀ s : Int, 0 ≤ s → s < n + d → z_ts σ Z (g s)) ∧ sm (fun s => z_wf wt (g s)) (n + d) + (2 - d) * 15300000 ≤ sm (fun s => z_wf wt (f s)) n + wt x + 15300000 ∧ (d = 1 → sm (fun s => z_wf wt (g s)) (n + d) ≤ sm (fun s => z_wf wt (f s)) n + wt x) := by
  have xr := (z x zx).1
  have all : ∀ s : Int, 0 ≤ s → s < n + d → z_ts σ Z (g s) := fun s a b => by
    rcases (by omega : s < n ∨ n ≤ s) with q | q
    · rw [e s q]; exact fs s a q
    · exact z_tk_s h z zx l0 r0 (gs s q b)
  have one : d = 1 → sm (fun s => z_wf wt (g s)) (n + d) ≤ sm (fun s => z_wf wt (f s)) n + wt x := fun q => by
    rw [q, z_mw_1 n0 (fun s _ b => e s b)]
    have w := z_tk_w h xr.1 xr.2 l0 r0 (gs n (Int.le_refl _) (by omega))
    omega
  refine ⟨all, ?_, one⟩
  have b1 := z_mw_b h z (by omega) all
  have b2 := z_mw_b h z n0 fs
  have wx := (h x xr.1 xr.2).1
  rcases (by omega : d = 1 ∨ 2 ≤ d) with q | q
  · have w := one q
    omega
  · have w : (2 - d) * 15300000 ≤ 0 := by omega
    omega
set_option maxHeartbeats 1000000 in
theorem K_X13_addTask {n1 : Int} {σ : S0} (hT : m_T σ) (p1 : (σ.1 54) < 1300) (p2 : -2147483648 ≤ n1 ∧ n1 ≤ 2147483647) : W_X13_addTask n1 σ (fun (τ : S0) => (m_T τ) ∧ (τ.2.1 102 = st (σ.2.1 102) (σ.1 54) n1) ∧ ((τ.1 54) = (σ.1 54) + 1)) := by
  have A102 : ∀ j, (-2147483648) ≤ σ.2.1 102 j ∧ σ.2.1 102 j ≤ 2147483647 := fun j => hT.2 102 j
  have v54 : 0 ≤ σ.1 54 ∧ σ.1 54 ≤ 1300 := hT.1 54
  unfold W_X13_addTask
  refine ⟨(show 0 ≤ σ.1 54 ∧ σ.1 54 < 1300 from by (first | omega | (simp only [st_s] <;> omega) | assumption | omega | fail)), ?_⟩
  replace hT := mT_a (k := 102) (j := (σ.1 54)) hT (show (-2147483648 : Int) ≤ n1 ∧ n1 ≤ 2147483647 from by (first | omega | (simp only [st_s] <;> omega) | assumption | omega | fail))
  refine ⟨(⟨by (first | omega | (simp only [st_s] <;> omega) | assumption | omega | fail), by (first | omega | (simp only [st_s] <;> omega) | assumption | omega | fail)⟩ : rg (σ.1 54 + 1)), ?_⟩
  replace hT := mT_v (i := 54) hT (show 0 ≤ (σ.1 54 + 1) ∧ (σ.1 54 + 1) ≤ 1300 from by (first | omega | (simp only [st_s] <;> omega) | assumption | omega | fail))
  exact ⟨hT, (show (st (σ.2.1 102) (σ.1 54) n1) = st (σ.2.1 102) (σ.1 54) n1 from by (first | omega | (simp only [st_s] <;> omega) | assumption | omega | fail)), (show ((σ.1 54 + 1)) = (σ.1 54) + 1 from by (first | omega | (simp only [st_s] <;> omega) | assumption | omega | fail))⟩
set_option maxHeartbeats 2000000 in
theorem K_X13_leafOf {n1 : Int} {n2 : Int} {wt : Int → Int} {lo hi : Int} {σ : S0} (hT : m_T σ) (p1 : y_TW σ wt lo hi) (p2 : 0 ≤ lo ∧ hi ≤ 60000) (p3 : lo ≤ n1 ∧ n1 < hi) (p4 : σ.2.1 86 n1 < 0) (p5 : n2 = -1 ∨ ((lo ≤ n2 ∧ n2 < hi) ∧ 0 ≤ σ.2.1 86 n2 ∧ y_Lv σ (σ.2.1 86 n2) n2 (σ.2.1 86 n1))) : W_X13_leafOf n1 n2 σ (fun (x : Int) => (n2 = -1 → x = σ.2.1 16 (σ.2.1 14 (-1 - σ.2.1 86 n1) + 1)) ∧ (¬ n2 = -1 → x < 0 ∧ -1 - x < σ.2.1 19 (σ.2.1 86 n2))) := by
  have A14 : ∀ j, 0 ≤ σ.2.1 14 j ∧ σ.2.1 14 j ≤ 30000 := fun j => hT.2 14 j
  have A16 : ∀ j, 0 ≤ σ.2.1 16 j ∧ σ.2.1 16 j ≤ 999 := fun j => hT.2 16 j
  have A19 : ∀ j, 0 ≤ σ.2.1 19 j ∧ σ.2.1 19 j ≤ 60 := fun j => hT.2 19 j
  have A86 : ∀ j, (-1500) ≤ σ.2.1 86 j ∧ σ.2.1 86 j ≤ 1499 := fun j => hT.2 86 j
  have A87 : ∀ j, 0 ≤ σ.2.1 87 j ∧ σ.2.1 87 j ≤ 120000 := fun j => hT.2 87 j
  have A91 : ∀ j, 0 ≤ σ.2.1 91 j ∧ σ.2.1 91 j ≤ 60000 := fun j => hT.2 91 j
  have v52 : 0 ≤ σ.1 52 ∧ σ.1 52 ≤ 120000 := hT.1 52
  intro P28 h28
  have l52 : σ.1 52 ≤ 120000 := (hT.1 52).2
  have l_28 : ∀ (m_28 : Nat) (u3_28 : Int), 61 - u3_28 < (m_28 : Int) → (0 ≤ u3_28) → (¬ n2 = -1) → (∃ k : Int, (u3_28 ≤ k ∧ k < σ.2.1 19 (σ.2.1 86 n2)) ∧ σ.2.1 86 (σ.2.1 91 (σ.2.1 87 n2 + k)) = σ.2.1 86 n1) → P28 n1 n2 u3_28 := by
    intro m_28
    induction m_28 with
    | zero =>
      intro u3_28 hm i28_1 i28_2 i28_3
      exfalso; (obtain ⟨kk, kk1, kk2⟩ := i28_3; have a19 := A19 (σ.2.1 86 n2); omega)
    | succ m_28 ih_28 =>
      intro u3_28 hm_28 i28_1 i28_2 i28_3
      obtain ⟨kk, kk1, kk2⟩ := i28_3
      have p5x := p5.resolve_left i28_2
      have tw := (p1 n2 p5x.1.1 p5x.1.2).2 p5x.2.1
      have a19 := A19 (σ.2.1 86 n2)
      have tk := tw.2.1 u3_28 i28_1 (by omega)
      refine h28 n1 n2 u3_28 ?_
      refine ⟨(show 0 ≤ n2 ∧ n2 < 60000 from by (first | omega | (simp only [st_s] <;> omega) | assumption | omega | fail)), ?_⟩
      intro x9 r_x9 e_x9
      have b_x9 : 0 ≤ x9 ∧ x9 ≤ 120000 := by rw [e_x9]; exact hT.2 87 _
      rw [← e_x9] at tk
      refine ⟨(show 0 ≤ (x9 + u3_28) ∧ (x9 + u3_28) < 120000 from by (first | omega | (simp only [st_s] <;> omega) | assumption | omega | fail)), ?_⟩
      intro x11 r_x11 e_x11
      have b_x11 : 0 ≤ x11 ∧ x11 ≤ 60000 := by rw [e_x11]; exact hT.2 91 _
      rw [← e_x11] at tk
      refine ⟨(show 0 ≤ x11 ∧ x11 < 60000 from by (first | omega | (simp only [st_s] <;> omega) | assumption | omega | fail)), ?_⟩
      intro x13 r_x13 e_x13
      have b_x13 : (-1500) ≤ x13 ∧ x13 ≤ 1499 := by rw [e_x13]; exact hT.2 86 _
      have f13 : x13 = σ.2.1 86 (σ.2.1 91 (σ.2.1 87 n2 + u3_28)) := by rw [e_x13, e_x11, e_x9]
      refine ⟨(show 0 ≤ n1 ∧ n1 < 60000 from by (first | omega | (simp only [st_s] <;> omega) | assumption | omega | fail)), ?_⟩
      intro x15 r_x15 e_x15
      have b_x15 : (-1500) ≤ x15 ∧ x15 ≤ 1499 := by rw [e_x15]; exact hT.2 86 _
      refine ⟨fun c16 => ?_, fun c16 => ?_⟩
      ·
        refine ⟨(⟨by (first | omega | (simp only [st_s] <;> omega) | assumption | omega | fail), by (first | omega | (simp only [st_s] <;> omega) | assumption | omega | fail)⟩ : rg ((-1) - u3_28)), ?_⟩
        exact ⟨(show n2 = -1 → ((-1) - u3_28) = σ.2.1 16 (σ.2.1 14 (-1 - σ.2.1 86 n1) + 1) from by (first | exact fun _ => by (rw [e_x7, e_x5, e_x3]) | exact fun z => absurd z i28_2 | fail)), (show ¬ n2 = -1 → ((-1) - u3_28) < 0 ∧ -1 - ((-1) - u3_28) < σ.2.1 19 (σ.2.1 86 n2) from by (first | (intro z; exfalso; omega) | exact fun _ => ⟨by omega, by omega⟩ | fail))⟩
      ·
        refine ⟨(⟨by (first | omega | (simp only [st_s] <;> omega) | assumption | omega | fail), by (first | omega | (simp only [st_s] <;> omega) | assumption | omega | fail)⟩ : rg (u3_28 + 1)), ?_⟩
        exact ih_28 _ (show (61 - (u3_28 + 1) : Int) < ((m_28 : Nat) : Int) from by ((first | omega | (simp only [st_s] <;> omega) | assumption | omega | fail))) (show 0 ≤ (u3_28 + 1) from by (first | omega | (simp only [st_s] <;> omega) | assumption | omega | fail)) (show ¬ n2 = -1 from by (first | assumption | exact i28_2 | fail)) (show ∃ k : Int, ((u3_28 + 1) ≤ k ∧ k < σ.2.1 19 (σ.2.1 86 n2)) ∧ σ.2.1 86 (σ.2.1 91 (σ.2.1 87 n2 + k)) = σ.2.1 86 n1 from by (first | (have q9 := p5.resolve_left (by assumption); obtain ⟨_, _, k, k1, k2⟩ := q9; exact ⟨k, k1, k2⟩) | (refine ⟨kk, ⟨?_, kk1.2⟩, kk2⟩; rcases (by omega : u3_28 = kk ∨ u3_28 + 1 ≤ kk) with y | y; (exfalso; refine c16 ?_; rw [f13, e_x15, y]; exact kk2); (exact y)) | fail))
  refine ⟨fun c1 => ?_, fun c1 => ?_⟩
  ·
    exact l_28 ((61 - 0 : Int).toNat + 1) _ (show (61 - 0 : Int) < (((61 - 0 : Int).toNat + 1 : Nat) : Int) from by ((first | omega | (simp only [st_s] <;> omega) | assumption | omega | fail))) (show 0 ≤ 0 from by (first | omega | (simp only [st_s] <;> omega) | assumption | omega | fail)) (show ¬ n2 = -1 from by (first | assumption | exact i28_2 | fail)) (show ∃ k : Int, (0 ≤ k ∧ k < σ.2.1 19 (σ.2.1 86 n2)) ∧ σ.2.1 86 (σ.2.1 91 (σ.2.1 87 n2 + k)) = σ.2.1 86 n1 from by (first | (have q9 := p5.resolve_left (by assumption); obtain ⟨_, _, k, k1, k2⟩ := q9; exact ⟨k, k1, k2⟩) | (refine ⟨kk, ⟨?_, kk1.2⟩, kk2⟩; rcases (by omega : u3_28 = kk ∨ u3_28 + 1 ≤ kk) with y | y; (exfalso; refine c16 ?_; rw [f13, e_x15, y]; exact kk2); (exact y)) | fail))
  ·
    refine ⟨(show 0 ≤ n1 ∧ n1 < 60000 from by (first | omega | (simp only [st_s] <;> omega) | assumption | omega | fail)), ?_⟩
    intro x3 r_x3 e_x3
    have b_x3 : (-1500) ≤ x3 ∧ x3 ≤ 1499 := by rw [e_x3]; exact hT.2 86 _
    refine ⟨(show 0 ≤ ((-1) - x3) ∧ ((-1) - x3) < 1501 from by (first | omega | (simp only [st_s] <;> omega) | assumption | omega | fail)), ?_⟩
    intro x5 r_x5 e_x5
    have b_x5 : 0 ≤ x5 ∧ x5 ≤ 30000 := by rw [e_x5]; exact hT.2 14 _
    refine ⟨(show 0 ≤ (x5 + 1) ∧ (x5 + 1) < 30400 from by (first | omega | (simp only [st_s] <;> omega) | assumption | omega | fail)), ?_⟩
    intro x7 r_x7 e_x7
    have b_x7 : 0 ≤ x7 ∧ x7 ≤ 999 := by rw [e_x7]; exact hT.2 16 _
    exact ⟨(show n2 = -1 → x7 = σ.2.1 16 (σ.2.1 14 (-1 - σ.2.1 86 n1) + 1) from by (first | exact fun _ => by (rw [e_x7, e_x5, e_x3]) | exact fun z => absurd z i28_2 | fail)), (show ¬ n2 = -1 → x7 < 0 ∧ -1 - x7 < σ.2.1 19 (σ.2.1 86 n2) from by (first | (intro z; exfalso; omega) | exact fun _ => ⟨by omega, by omega⟩ | fail))⟩
set_option maxHeartbeats 4000000 in
theorem K_X13_spread {n1 : Int} {wt : Int → Int} {lo hi : Int} {σ : S0} (hT : m_T σ) (p1 : y_TW σ wt lo hi) (p2 : 0 ≤ lo ∧ hi ≤ 60000) (p3 : lo ≤ n1 ∧ n1 < hi) (p4 : 0 ≤ σ.2.1 86 n1) (p5 : y_In σ (σ.2.1 86 n1)) (p6 : n_J σ) (p7 : σ.2.1 97 (σ.2.1 86 n1) = -1 ∨ z_BV σ (σ.2.1 86 n1)) (p8 : (σ.1 54) ≤ 599) : W_X13_spread n1 σ (fun (x : Int) (τ : S0) => (m_T τ) ∧ (x = 0 ∨ x = 1) ∧ (∀ s : Int, s < (σ.1 54) → τ.2.1 102 s = σ.2.1 102 s) ∧ (x = 1 → ((σ.1 54) + 1 ≤ (τ.1 54) ∧ (τ.1 54) ≤ (σ.1 54) + 599) ∧ ∀ s : Int, (σ.1 54) ≤ s → s < (τ.1 54) → z_tk σ n1 (τ.2.1 102 s))) := by
  have A8 : ∀ j, 0 ≤ σ.2.1 8 j ∧ σ.2.1 8 j ≤ 1 := fun j => hT.2 8 j
  have A10 : ∀ j, (-1) ≤ σ.2.1 10 j ∧ σ.2.1 10 j ≤ 999 := fun j => hT.2 10 j
  have A13 : ∀ j, 0 ≤ σ.2.1 13 j ∧ σ.2.1 13 j ≤ 4 := fun j => hT.2 13 j
  have A14 : ∀ j, 0 ≤ σ.2.1 14 j ∧ σ.2.1 14 j ≤ 30000 := fun j => hT.2 14 j
  have A15 : ∀ j, 0 ≤ σ.2.1 15 j ∧ σ.2.1 15 j ≤ 300 := fun j => hT.2 15 j
  have A16 : ∀ j, 0 ≤ σ.2.1 16 j ∧ σ.2.1 16 j ≤ 999 := fun j => hT.2 16 j
  have A18 : ∀ j, 0 ≤ σ.2.1 18 j ∧ σ.2.1 18 j ≤ 90000 := fun j => hT.2 18 j
  have A19 : ∀ j, 0 ≤ σ.2.1 19 j ∧ σ.2.1 19 j ≤ 60 := fun j => hT.2 19 j
  have A20 : ∀ j, 0 ≤ σ.2.1 20 j ∧ σ.2.1 20 j ≤ 1499 := fun j => hT.2 20 j
  have A86 : ∀ j, (-1500) ≤ σ.2.1 86 j ∧ σ.2.1 86 j ≤ 1499 := fun j => hT.2 86 j
  have A87 : ∀ j, 0 ≤ σ.2.1 87 j ∧ σ.2.1 87 j ≤ 120000 := fun j => hT.2 87 j
  have A91 : ∀ j, 0 ≤ σ.2.1 91 j ∧ σ.2.1 91 j ≤ 60000 := fun j => hT.2 91 j
  have A97 : ∀ j, (-1) ≤ σ.2.1 97 j ∧ σ.2.1 97 j ≤ 1499 := fun j => hT.2 97 j
  have A99 : ∀ j, 0 ≤ σ.2.1 99 j ∧ σ.2.1 99 j ≤ 460000 := fun j => hT.2 99 j
  have A100 : ∀ j, (-1) ≤ σ.2.1 100 j ∧ σ.2.1 100 j ≤ 599 := fun j => hT.2 100 j
  have A101 : ∀ j, (-61) ≤ σ.2.1 101 j ∧ σ.2.1 101 j ≤ 999 := fun j => hT.2 101 j
  have A102 : ∀ j, (-2147483648) ≤ σ.2.1 102 j ∧ σ.2.1 102 j ≤ 2147483647 := fun j => hT.2 102 j
  have v3 : 0 ≤ σ.1 3 ∧ σ.1 3 ≤ 1000 := hT.1 3
  have v5 : 0 ≤ σ.1 5 ∧ σ.1 5 ≤ 1500 := hT.1 5
  have v52 : 0 ≤ σ.1 52 ∧ σ.1 52 ≤ 120000 := hT.1 52
  have v53 : 0 ≤ σ.1 53 ∧ σ.1 53 ≤ 460000 := hT.1 53
  have v54 : 0 ≤ σ.1 54 ∧ σ.1 54 ≤ 1300 := hT.1 54
  have W3 : σ.1 3 = σ.1 3 := rfl
  have W5 : σ.1 5 = σ.1 5 := rfl
  have W52 : σ.1 52 = σ.1 52 := rfl
  have W53 : σ.1 53 = σ.1 53 := rfl
  have G8 : σ.2.1 8 = σ.2.1 8 := rfl
  have G10 : σ.2.1 10 = σ.2.1 10 := rfl
  have G13 : σ.2.1 13 = σ.2.1 13 := rfl
  have G14 : σ.2.1 14 = σ.2.1 14 := rfl
  have G15 : σ.2.1 15 = σ.2.1 15 := rfl
  have G16 : σ.2.1 16 = σ.2.1 16 := rfl
  have G18 : σ.2.1 18 = σ.2.1 18 := rfl
  have G19 : σ.2.1 19 = σ.2.1 19 := rfl
  have G20 : σ.2.1 20 = σ.2.1 20 := rfl
  have G86 : σ.2.1 86 = σ.2.1 86 := rfl
  have G87 : σ.2.1 87 = σ.2.1 87 := rfl
  have G91 : σ.2.1 91 = σ.2.1 91 := rfl
  have G97 : σ.2.1 97 = σ.2.1 97 := rfl
  have G99 : σ.2.1 99 = σ.2.1 99 := rfl
  have G100 : σ.2.1 100 = σ.2.1 100 := rfl
  have G101 : σ.2.1 101 = σ.2.1 101 := rfl
  intro P26 P74 P115 P174 h26 h74 h115 h174
  have hTσ := hT
  have l52 : σ.1 52 ≤ 120000 := (hT.1 52).2
  have tw := (p1 n1 p3.1 p3.2).2 p4
  have nn1 := y_nn1 _ p5
  have nn2 : y_nn σ (σ.2.1 86 n1) = σ.2.1 15 (σ.2.1 86 n1) - 1 := rfl
  have ts60 : σ.2.1 15 (σ.2.1 86 n1) ≤ 60 := p5.2
  have na := (p6 _ p4 tw.1.1).1
  obtain ⟨rh1, _, _, _⟩ := y_rh p6 hTσ p4 tw.1.1 p5
  have A100s := A100 (σ.2.1 86 n1)
  have a14 := A14 (σ.2.1 86 n1)
  have l_26 : ∀ (m_26 : Nat) (u2_26 : Int) (u3_26 : Int) (τ_26 : S0), u3_26 + 3 < (m_26 : Int) → (m_T τ_26) → (τ_26.1 3 = σ.1 3) → (τ_26.1 5 = σ.1 5) → (τ_26.1 52 = σ.1 52) → (τ_26.1 53 = σ.1 53) → (τ_26.2.1 8 = σ.2.1 8) → (τ_26.2.1 10 = σ.2.1 10) → (τ_26.2.1 13 = σ.2.1 13) → (τ_26.2.1 14 = σ.2.1 14) → (τ_26.2.1 15 = σ.2.1 15) → (τ_26.2.1 16 = σ.2.1 16) → (τ_26.2.1 18 = σ.2.1 18) → (τ_26.2.1 19 = σ.2.1 19) → (τ_26.2.1 20 = σ.2.1 20) → (τ_26.2.1 86 = σ.2.1 86) → (τ_26.2.1 87 = σ.2.1 87) → (τ_26.2.1 91 = σ.2.1 91) → (τ_26.2.1 97 = σ.2.1 97) → (τ_26.2.1 99 = σ.2.1 99) → (τ_26.2.1 100 = σ.2.1 100) → (τ_26.2.1 101 = σ.2.1 101) → (u2_26 = σ.2.1 86 n1) → (∀ s : Int, s < (σ.1 54) → τ_26.2.1 102 s = σ.2.1 102 s) → (∀ s : Int, (σ.1 54) ≤ s → s < (τ_26.1 54) → z_tk σ n1 (τ_26.2.1 102 s)) → (z_BV σ u2_26) → ((τ_26.1 54) = (σ.1 54) + (σ.2.1 100 u2_26 - 1 - u3_26)) → (-2 ≤ u3_26 ∧ u3_26 ≤ σ.2.1 100 u2_26 - 1) → (¬ σ.2.1 100 u2_26 = -1 → -1 ≤ u3_26) → (0 ≤ u2_26 ∧ u2_26 < 1501) → P26 n1 u2_26 u3_26 τ_26 := by
    intro m_26
    induction m_26 with
    | zero =>
      intro u2_26 u3_26 τ_26 hm hT W3 W5 W52 W53 G8 G10 G13 G14 G15 G16 G18 G19 G20 G86 G87 G91 G97 G99 G100 G101 i26_1 i26_2 i26_3 i26_4 i26_5 i26_6 i26_7 i26_8
      have A8 : ∀ j, 0 ≤ τ_26.2.1 8 j ∧ τ_26.2.1 8 j ≤ 1 := fun j => hT.2 8 j
      have A10 : ∀ j, (-1) ≤ τ_26.2.1 10 j ∧ τ_26.2.1 10 j ≤ 999 := fun j => hT.2 10 j
      have A13 : ∀ j, 0 ≤ τ_26.2.1 13 j ∧ τ_26.2.1 13 j ≤ 4 := fun j => hT.2 13 j
      have A14 : ∀ j, 0 ≤ τ_26.2.1 14 j ∧ τ_26.2.1 14 j ≤ 30000 := fun j => hT.2 14 j
      have A15 : ∀ j, 0 ≤ τ_26.2.1 15 j ∧ τ_26.2.1 15 j ≤ 300 := fun j => hT.2 15 j
      have A16 : ∀ j, 0 ≤ τ_26.2.1 16 j ∧ τ_26.2.1 16 j ≤ 999 := fun j => hT.2 16 j
      have A18 : ∀ j, 0 ≤ τ_26.2.1 18 j ∧ τ_26.2.1 18 j ≤ 90000 := fun j => hT.2 18 j
      have A19 : ∀ j, 0 ≤ τ_26.2.1 19 j ∧ τ_26.2.1 19 j ≤ 60 := fun j => hT.2 19 j
      have A20 : ∀ j, 0 ≤ τ_26.2.1 20 j ∧ τ_26.2.1 20 j ≤ 1499 := fun j => hT.2 20 j
      have A86 : ∀ j, (-1500) ≤ τ_26.2.1 86 j ∧ τ_26.2.1 86 j ≤ 1499 := fun j => hT.2 86 j
      have A87 : ∀ j, 0 ≤ τ_26.2.1 87 j ∧ τ_26.2.1 87 j ≤ 120000 := fun j => hT.2 87 j
      have A91 : ∀ j, 0 ≤ τ_26.2.1 91 j ∧ τ_26.2.1 91 j ≤ 60000 := fun j => hT.2 91 j
      have A97 : ∀ j, (-1) ≤ τ_26.2.1 97 j ∧ τ_26.2.1 97 j ≤ 1499 := fun j => hT.2 97 j
      have A99 : ∀ j, 0 ≤ τ_26.2.1 99 j ∧ τ_26.2.1 99 j ≤ 460000 := fun j => hT.2 99 j
      have A100 : ∀ j, (-1) ≤ τ_26.2.1 100 j ∧ τ_26.2.1 100 j ≤ 599 := fun j => hT.2 100 j
      have A101 : ∀ j, (-61) ≤ τ_26.2.1 101 j ∧ τ_26.2.1 101 j ≤ 999 := fun j => hT.2 101 j
      have A102 : ∀ j, (-2147483648) ≤ τ_26.2.1 102 j ∧ τ_26.2.1 102 j ≤ 2147483647 := fun j => hT.2 102 j
      have v3 : 0 ≤ τ_26.1 3 ∧ τ_26.1 3 ≤ 1000 := hT.1 3
      have v5 : 0 ≤ τ_26.1 5 ∧ τ_26.1 5 ≤ 1500 := hT.1 5
      have v52 : 0 ≤ τ_26.1 52 ∧ τ_26.1 52 ≤ 120000 := hT.1 52
      have v53 : 0 ≤ τ_26.1 53 ∧ τ_26.1 53 ≤ 460000 := hT.1 53
      have v54 : 0 ≤ τ_26.1 54 ∧ τ_26.1 54 ≤ 1300 := hT.1 54
      exfalso; (first | omega | (simp only [st_s] <;> omega) | assumption | omega | fail)
    | succ m_26 ih_26 =>
      intro u2_26 u3_26 τ_26 hm_26 hT W3 W5 W52 W53 G8 G10 G13 G14 G15 G16 G18 G19 G20 G86 G87 G91 G97 G99 G100 G101 i26_1 i26_2 i26_3 i26_4 i26_5 i26_6 i26_7 i26_8
      have A8 : ∀ j, 0 ≤ τ_26.2.1 8 j ∧ τ_26.2.1 8 j ≤ 1 := fun j => hT.2 8 j
      have A10 : ∀ j, (-1) ≤ τ_26.2.1 10 j ∧ τ_26.2.1 10 j ≤ 999 := fun j => hT.2 10 j
      have A13 : ∀ j, 0 ≤ τ_26.2.1 13 j ∧ τ_26.2.1 13 j ≤ 4 := fun j => hT.2 13 j
      have A14 : ∀ j, 0 ≤ τ_26.2.1 14 j ∧ τ_26.2.1 14 j ≤ 30000 := fun j => hT.2 14 j
      have A15 : ∀ j, 0 ≤ τ_26.2.1 15 j ∧ τ_26.2.1 15 j ≤ 300 := fun j => hT.2 15 j
      have A16 : ∀ j, 0 ≤ τ_26.2.1 16 j ∧ τ_26.2.1 16 j ≤ 999 := fun j => hT.2 16 j
      have A18 : ∀ j, 0 ≤ τ_26.2.1 18 j ∧ τ_26.2.1 18 j ≤ 90000 := fun j => hT.2 18 j
      have A19 : ∀ j, 0 ≤ τ_26.2.1 19 j ∧ τ_26.2.1 19 j ≤ 60 := fun j => hT.2 19 j
      have A20 : ∀ j, 0 ≤ τ_26.2.1 20 j ∧ τ_26.2.1 20 j ≤ 1499 := fun j => hT.2 20 j
      have A86 : ∀ j, (-1500) ≤ τ_26.2.1 86 j ∧ τ_26.2.1 86 j ≤ 1499 := fun j => hT.2 86 j
      have A87 : ∀ j, 0 ≤ τ_26.2.1 87 j ∧ τ_26.2.1 87 j ≤ 120000 := fun j => hT.2 87 j
      have A91 : ∀ j, 0 ≤ τ_26.2.1 91 j ∧ τ_26.2.1 91 j ≤ 60000 := fun j => hT.2 91 j
      have A97 : ∀ j, (-1) ≤ τ_26.2.1 97 j ∧ τ_26.2.1 97 j ≤ 1499 := fun j => hT.2 97 j
      have A99 : ∀ j, 0 ≤ τ_26.2.1 99 j ∧ τ_26.2.1 99 j ≤ 460000 := fun j => hT.2 99 j
      have A100 : ∀ j, (-1) ≤ τ_26.2.1 100 j ∧ τ_26.2.1 100 j ≤ 599 := fun j => hT.2 100 j
      have A101 : ∀ j, (-61) ≤ τ_26.2.1 101 j ∧ τ_26.2.1 101 j ≤ 999 := fun j => hT.2 101 j
      have A102 : ∀ j, (-2147483648) ≤ τ_26.2.1 102 j ∧ τ_26.2.1 102 j ≤ 2147483647 := fun j => hT.2 102 j
      have v3 : 0 ≤ τ_26.1 3 ∧ τ_26.1 3 ≤ 1000 := hT.1 3
      have v5 : 0 ≤ τ_26.1 5 ∧ τ_26.1 5 ≤ 1500 := hT.1 5
      have v52 : 0 ≤ τ_26.1 52 ∧ τ_26.1 52 ≤ 120000 := hT.1 52
      have v53 : 0 ≤ τ_26.1 53 ∧ τ_26.1 53 ≤ 460000 := hT.1 53
      have v54 : 0 ≤ τ_26.1 54 ∧ τ_26.1 54 ≤ 1300 := hT.1 54
      rw [i26_1] at i26_4 i26_5 i26_6 i26_7
      have l_74 : ∀ (u2_74 : Int) (u3_74 : Int) (k1_74 : Int) (τ_74 : S0), (m_T τ_74) → (τ_74.1 3 = σ.1 3) → (τ_74.1 5 = σ.1 5) → (τ_74.1 52 = σ.1 52) → (τ_74.1 53 = σ.1 53) → (τ_74.2.1 8 = σ.2.1 8) → (τ_74.2.1 10 = σ.2.1 10) → (τ_74.2.1 13 = σ.2.1 13) → (τ_74.2.1 14 = σ.2.1 14) → (τ_74.2.1 15 = σ.2.1 15) → (τ_74.2.1 16 = σ.2.1 16) → (τ_74.2.1 18 = σ.2.1 18) → (τ_74.2.1 19 = σ.2.1 19) → (τ_74.2.1 20 = σ.2.1 20) → (τ_74.2.1 86 = σ.2.1 86) → (τ_74.2.1 87 = σ.2.1 87) → (τ_74.2.1 91 = σ.2.1 91) → (τ_74.2.1 97 = σ.2.1 97) → (τ_74.2.1 99 = σ.2.1 99) → (τ_74.2.1 100 = σ.2.1 100) → (τ_74.2.1 101 = σ.2.1 101) → (u2_74 = σ.2.1 86 n1) → (∀ s : Int, s < (σ.1 54) → τ_74.2.1 102 s = σ.2.1 102 s) → (∀ s : Int, (σ.1 54) ≤ s → s < (τ_74.1 54) → z_tk σ n1 (τ_74.2.1 102 s)) → (z_BV σ u2_74) → ((τ_74.1 54) = (σ.1 54) + (σ.2.1 100 u2_74 - 1 - u3_74)) → (-2 ≤ u3_74 ∧ u3_74 ≤ σ.2.1 100 u2_74 - 1) → (¬ σ.2.1 100 u2_74 = -1 → -1 ≤ u3_74) → (0 ≤ u2_74 ∧ u2_74 < 1501) → (0 ≤ u3_74) → (z_tk σ n1 k1_74) → (u3_74 + 3 < (m_26 : Int) + 1) → (-2147483648 ≤ k1_74 ∧ k1_74 ≤ 2147483647) → P74 n1 u2_74 u3_74 k1_74 τ_74 := by
        intro u2_74 u3_74 k1_74 τ_74 hT W3 W5 W52 W53 G8 G10 G13 G14 G15 G16 G18 G19 G20 G86 G87 G91 G97 G99 G100 G101 i74_1 i74_2 i74_3 i74_4 i74_5 i74_6 i74_7 i74_8 i74_9 i74_10 i74_11 i74_12
        have A8 : ∀ j, 0 ≤ τ_74.2.1 8 j ∧ τ_74.2.1 8 j ≤ 1 := fun j => hT.2 8 j
        have A10 : ∀ j, (-1) ≤ τ_74.2.1 10 j ∧ τ_74.2.1 10 j ≤ 999 := fun j => hT.2 10 j
        have A13 : ∀ j, 0 ≤ τ_74.2.1 13 j ∧ τ_74.2.1 13 j ≤ 4 := fun j => hT.2 13 j
        have A14 : ∀ j, 0 ≤ τ_74.2.1 14 j ∧ τ_74.2.1 14 j ≤ 30000 := fun j => hT.2 14 j
        have A15 : ∀ j, 0 ≤ τ_74.2.1 15 j ∧ τ_74.2.1 15 j ≤ 300 := fun j => hT.2 15 j
        have A16 : ∀ j, 0 ≤ τ_74.2.1 16 j ∧ τ_74.2.1 16 j ≤ 999 := fun j => hT.2 16 j
        have A18 : ∀ j, 0 ≤ τ_74.2.1 18 j ∧ τ_74.2.1 18 j ≤ 90000 := fun j => hT.2 18 j
        have A19 : ∀ j, 0 ≤ τ_74.2.1 19 j ∧ τ_74.2.1 19 j ≤ 60 := fun j => hT.2 19 j
        have A20 : ∀ j, 0 ≤ τ_74.2.1 20 j ∧ τ_74.2.1 20 j ≤ 1499 := fun j => hT.2 20 j
        have A86 : ∀ j, (-1500) ≤ τ_74.2.1 86 j ∧ τ_74.2.1 86 j ≤ 1499 := fun j => hT.2 86 j
        have A87 : ∀ j, 0 ≤ τ_74.2.1 87 j ∧ τ_74.2.1 87 j ≤ 120000 := fun j => hT.2 87 j
        have A91 : ∀ j, 0 ≤ τ_74.2.1 91 j ∧ τ_74.2.1 91 j ≤ 60000 := fun j => hT.2 91 j
        have A97 : ∀ j, (-1) ≤ τ_74.2.1 97 j ∧ τ_74.2.1 97 j ≤ 1499 := fun j => hT.2 97 j
        have A99 : ∀ j, 0 ≤ τ_74.2.1 99 j ∧ τ_74.2.1 99 j ≤ 460000 := fun j => hT.2 99 j
        have A100 : ∀ j, (-1) ≤ τ_74.2.1 100 j ∧ τ_74.2.1 100 j ≤ 599 := fun j => hT.2 100 j
        have A101 : ∀ j, (-61) ≤ τ_74.2.1 101 j ∧ τ_74.2.1 101 j ≤ 999 := fun j => hT.2 101 j
        have A102 : ∀ j, (-2147483648) ≤ τ_74.2.1 102 j ∧ τ_74.2.1 102 j ≤ 2147483647 := fun j => hT.2 102 j
        have v3 : 0 ≤ τ_74.1 3 ∧ τ_74.1 3 ≤ 1000 := hT.1 3
        have v5 : 0 ≤ τ_74.1 5 ∧ τ_74.1 5 ≤ 1500 := hT.1 5
        have v52 : 0 ≤ τ_74.1 52 ∧ τ_74.1 52 ≤ 120000 := hT.1 52
        have v53 : 0 ≤ τ_74.1 53 ∧ τ_74.1 53 ≤ 460000 := hT.1 53
        have v54 : 0 ≤ τ_74.1 54 ∧ τ_74.1 54 ≤ 1300 := hT.1 54
        rw [i74_1] at i74_4 i74_5 i74_6 i74_7
        refine h74 n1 u2_74 u3_74 k1_74 τ_74 ?_
        refine ⟨_, K_X13_addTask hT (show (τ_74.1 54) < 1300 from by (first | omega | (simp only [st_s] <;> omega) | assumption | omega | fail)) (show -2147483648 ≤ k1_74 ∧ k1_74 ≤ 2147483647 from by (first | omega | (simp only [st_s] <;> omega) | assumption | omega | fail)), ?_⟩
        intro τ49 hn_τ49 hf_τ49 hq
        obtain ⟨hT, q47_1, q47_2⟩ := hq
        replace q47_1 : τ49.2.1 102 = st (τ_74.2.1 102) (τ_74.1 54) k1_74 := q47_1
        replace q47_2 : (τ49.1 54) = (τ_74.1 54) + 1 := q47_2
        have w3_τ49 : τ49.1 3 = τ_74.1 3 := hf_τ49.1 3 (by decide)
        have w5_τ49 : τ49.1 5 = τ_74.1 5 := hf_τ49.1 5 (by decide)
        have w52_τ49 : τ49.1 52 = τ_74.1 52 := hf_τ49.1 52 (by decide)
        have w53_τ49 : τ49.1 53 = τ_74.1 53 := hf_τ49.1 53 (by decide)
        have g8_τ49 : τ49.2.1 8 = τ_74.2.1 8 := hf_τ49.2.1 8 (by decide)
        have g10_τ49 : τ49.2.1 10 = τ_74.2.1 10 := hf_τ49.2.1 10 (by decide)
        have g13_τ49 : τ49.2.1 13 = τ_74.2.1 13 := hf_τ49.2.1 13 (by decide)
        have g14_τ49 : τ49.2.1 14 = τ_74.2.1 14 := hf_τ49.2.1 14 (by decide)
        have g15_τ49 : τ49.2.1 15 = τ_74.2.1 15 := hf_τ49.2.1 15 (by decide)
        have g16_τ49 : τ49.2.1 16 = τ_74.2.1 16 := hf_τ49.2.1 16 (by decide)
        have g18_τ49 : τ49.2.1 18 = τ_74.2.1 18 := hf_τ49.2.1 18 (by decide)
        have g19_τ49 : τ49.2.1 19 = τ_74.2.1 19 := hf_τ49.2.1 19 (by decide)
        have g20_τ49 : τ49.2.1 20 = τ_74.2.1 20 := hf_τ49.2.1 20 (by decide)
        have g86_τ49 : τ49.2.1 86 = τ_74.2.1 86 := hf_τ49.2.1 86 (by decide)
        have g87_τ49 : τ49.2.1 87 = τ_74.2.1 87 := hf_τ49.2.1 87 (by decide)
        have g91_τ49 : τ49.2.1 91 = τ_74.2.1 91 := hf_τ49.2.1 91 (by decide)
        have g97_τ49 : τ49.2.1 97 = τ_74.2.1 97 := hf_τ49.2.1 97 (by decide)
        have g99_τ49 : τ49.2.1 99 = τ_74.2.1 99 := hf_τ49.2.1 99 (by decide)
        have g100_τ49 : τ49.2.1 100 = τ_74.2.1 100 := hf_τ49.2.1 100 (by decide)
        have g101_τ49 : τ49.2.1 101 = τ_74.2.1 101 := hf_τ49.2.1 101 (by decide)
        have W3 : τ49.1 3 = σ.1 3 := by first | exact w3_τ49.trans W3 | omega
        have W5 : τ49.1 5 = σ.1 5 := by first | exact w5_τ49.trans W5 | omega
        have W52 : τ49.1 52 = σ.1 52 := by first | exact w52_τ49.trans W52 | omega
        have W53 : τ49.1 53 = σ.1 53 := by first | exact w53_τ49.trans W53 | omega
        have G8 : τ49.2.1 8 = σ.2.1 8 := (g8_τ49).trans G8
        have G10 : τ49.2.1 10 = σ.2.1 10 := (g10_τ49).trans G10
        have G13 : τ49.2.1 13 = σ.2.1 13 := (g13_τ49).trans G13
        have G14 : τ49.2.1 14 = σ.2.1 14 := (g14_τ49).trans G14
        have G15 : τ49.2.1 15 = σ.2.1 15 := (g15_τ49).trans G15
        have G16 : τ49.2.1 16 = σ.2.1 16 := (g16_τ49).trans G16
        have G18 : τ49.2.1 18 = σ.2.1 18 := (g18_τ49).trans G18
        have G19 : τ49.2.1 19 = σ.2.1 19 := (g19_τ49).trans G19
        have G20 : τ49.2.1 20 = σ.2.1 20 := (g20_τ49).trans G20
        have G86 : τ49.2.1 86 = σ.2.1 86 := (g86_τ49).trans G86
        have G87 : τ49.2.1 87 = σ.2.1 87 := (g87_τ49).trans G87
        have G91 : τ49.2.1 91 = σ.2.1 91 := (g91_τ49).trans G91
        have G97 : τ49.2.1 97 = σ.2.1 97 := (g97_τ49).trans G97
        have G99 : τ49.2.1 99 = σ.2.1 99 := (g99_τ49).trans G99
        have G100 : τ49.2.1 100 = σ.2.1 100 := (g100_τ49).trans G100
        have G101 : τ49.2.1 101 = σ.2.1 101 := (g101_τ49).trans G101
        have A8 : ∀ j, 0 ≤ τ49.2.1 8 j ∧ τ49.2.1 8 j ≤ 1 := fun j => hT.2 8 j
        have A10 : ∀ j, (-1) ≤ τ49.2.1 10 j ∧ τ49.2.1 10 j ≤ 999 := fun j => hT.2 10 j
        have A13 : ∀ j, 0 ≤ τ49.2.1 13 j ∧ τ49.2.1 13 j ≤ 4 := fun j => hT.2 13 j
        have A14 : ∀ j, 0 ≤ τ49.2.1 14 j ∧ τ49.2.1 14 j ≤ 30000 := fun j => hT.2 14 j
        have A15 : ∀ j, 0 ≤ τ49.2.1 15 j ∧ τ49.2.1 15 j ≤ 300 := fun j => hT.2 15 j
        have A16 : ∀ j, 0 ≤ τ49.2.1 16 j ∧ τ49.2.1 16 j ≤ 999 := fun j => hT.2 16 j
        have A18 : ∀ j, 0 ≤ τ49.2.1 18 j ∧ τ49.2.1 18 j ≤ 90000 := fun j => hT.2 18 j
        have A19 : ∀ j, 0 ≤ τ49.2.1 19 j ∧ τ49.2.1 19 j ≤ 60 := fun j => hT.2 19 j
        have A20 : ∀ j, 0 ≤ τ49.2.1 20 j ∧ τ49.2.1 20 j ≤ 1499 := fun j => hT.2 20 j
        have A86 : ∀ j, (-1500) ≤ τ49.2.1 86 j ∧ τ49.2.1 86 j ≤ 1499 := fun j => hT.2 86 j
        have A87 : ∀ j, 0 ≤ τ49.2.1 87 j ∧ τ49.2.1 87 j ≤ 120000 := fun j => hT.2 87 j
        have A91 : ∀ j, 0 ≤ τ49.2.1 91 j ∧ τ49.2.1 91 j ≤ 60000 := fun j => hT.2 91 j
        have A97 : ∀ j, (-1) ≤ τ49.2.1 97 j ∧ τ49.2.1 97 j ≤ 1499 := fun j => hT.2 97 j
        have A99 : ∀ j, 0 ≤ τ49.2.1 99 j ∧ τ49.2.1 99 j ≤ 460000 := fun j => hT.2 99 j
        have A100 : ∀ j, (-1) ≤ τ49.2.1 100 j ∧ τ49.2.1 100 j ≤ 599 := fun j => hT.2 100 j
        have A101 : ∀ j, (-61) ≤ τ49.2.1 101 j ∧ τ49.2.1 101 j ≤ 999 := fun j => hT.2 101 j
        have A102 : ∀ j, (-2147483648) ≤ τ49.2.1 102 j ∧ τ49.2.1 102 j ≤ 2147483647 := fun j => hT.2 102 j
        have v3 : 0 ≤ τ49.1 3 ∧ τ49.1 3 ≤ 1000 := hT.1 3
        have v5 : 0 ≤ τ49.1 5 ∧ τ49.1 5 ≤ 1500 := hT.1 5
        have v52 : 0 ≤ τ49.1 52 ∧ τ49.1 52 ≤ 120000 := hT.1 52
        have v53 : 0 ≤ τ49.1 53 ∧ τ49.1 53 ≤ 460000 := hT.1 53
        have v54 : 0 ≤ τ49.1 54 ∧ τ49.1 54 ≤ 1300 := hT.1 54
        refine ⟨(⟨by (first | omega | (simp only [st_s] <;> omega) | assumption | omega | fail), by (first | omega | (simp only [st_s] <;> omega) | assumption | omega | fail)⟩ : rg (u3_74 + (-1))), ?_⟩
        exact ih_26 _ _ _ (show ((u3_74 + (-1)) + 3 : Int) < ((m_26 : Nat) : Int) from by ((first | omega | (simp only [st_s] <;> omega) | assumption | omega | fail))) hT (show τ49.1 3 = σ.1 3 from by first | exact W3 | omega) (show τ49.1 5 = σ.1 5 from by first | exact W5 | omega) (show τ49.1 52 = σ.1 52 from by first | exact W52 | omega) (show τ49.1 53 = σ.1 53 from by first | exact W53 | omega) G8 G10 G13 G14 G15 G16 G18 G19 G20 G86 G87 G91 G97 G99 G100 G101 (show u2_74 = σ.2.1 86 n1 from by (first | exact e_x2 | exact i74_1 | fail)) (show ∀ s : Int, s < (σ.1 54) → τ49.2.1 102 s = σ.2.1 102 s from by (first | exact fun _ _ => rfl | (intro s a; rw [q47_1, st_n _ _ (by omega)]; exact i74_2 s a) | fail)) (show ∀ s : Int, (σ.1 54) ≤ s → s < (τ49.1 54) → z_tk σ n1 (τ49.2.1 102 s) from by (first | (intro s a b; exfalso; omega) | (intro s a b; rcases (by omega : s < τ_74.1 54 ∨ s = τ_74.1 54) with y | y; (rw [q47_1, st_n _ _ (by omega)]; exact i74_3 s a y); (rw [q47_1, y, st_s]; exact i74_10)) | fail)) (show z_BV σ u2_74 from by (first | (rw [e_x2]; exact p7.resolve_left (by rw [← e_x2, ← e_x4]; assumption)) | (rw [i74_1]; exact i74_4) | fail)) (show (τ49.1 54) = (σ.1 54) + (σ.2.1 100 u2_74 - 1 - (u3_74 + (-1))) from by (first | omega | (rw [i74_1]; omega) | (rw [← e_x9]; omega) | fail)) (show -2 ≤ (u3_74 + (-1)) ∧ (u3_74 + (-1)) ≤ σ.2.1 100 u2_74 - 1 from by (first | omega | (rw [i74_1]; omega) | (rw [← e_x9]; omega) | fail)) (show ¬ σ.2.1 100 u2_74 = -1 → -1 ≤ (u3_74 + (-1)) from by (first | omega | (rw [i74_1]; omega) | (rw [← e_x9]; omega) | fail)) (show 0 ≤ u2_74 ∧ u2_74 < 1501 from by (first | omega | (simp only [st_s] <;> omega) | assumption | omega | fail))
      refine h26 n1 u2_26 u3_26 τ_26 ?_
      refine ⟨fun c29 => ?_, fun c29 => ?_⟩
      ·
        refine ⟨(show 0 ≤ u2_26 ∧ u2_26 < 1501 from by (first | omega | (simp only [st_s] <;> omega) | assumption | omega | fail)), ?_⟩
        intro x31 r_x31 e_x31
        have b_x31 : (-1) ≤ x31 ∧ x31 ≤ 599 := by rw [e_x31]; exact hT.2 100 _
        rw [G100, i26_1] at e_x31
        refine ⟨fun c32 => ?_, fun c32 => ?_⟩
        ·
          exact ⟨hT, (show 0 = 0 ∨ 0 = 1 from by (first | omega | (simp only [st_s] <;> omega) | assumption | omega | fail)), (show ∀ s : Int, s < (σ.1 54) → τ_26.2.1 102 s = σ.2.1 102 s from by (first | exact i26_2 | exact i115_2 | fail)), (show 0 = 1 → ((σ.1 54) + 1 ≤ (τ_26.1 54) ∧ (τ_26.1 54) ≤ (σ.1 54) + 599) ∧ ∀ s : Int, (σ.1 54) ≤ s → s < (τ_26.1 54) → z_tk σ n1 (τ_26.2.1 102 s) from by (first | (intro z; exfalso; omega) | exact fun _ => ⟨by (have bv := (i26_4.resolve_left (by omega)).1; omega), i26_3⟩ | exact fun _ => ⟨by omega, i115_3⟩ | fail))⟩
        ·
          exact ⟨hT, (show 1 = 0 ∨ 1 = 1 from by (first | omega | (simp only [st_s] <;> omega) | assumption | omega | fail)), (show ∀ s : Int, s < (σ.1 54) → τ_26.2.1 102 s = σ.2.1 102 s from by (first | exact i26_2 | exact i115_2 | fail)), (show 1 = 1 → ((σ.1 54) + 1 ≤ (τ_26.1 54) ∧ (τ_26.1 54) ≤ (σ.1 54) + 599) ∧ ∀ s : Int, (σ.1 54) ≤ s → s < (τ_26.1 54) → z_tk σ n1 (τ_26.2.1 102 s) from by (first | (intro z; exfalso; omega) | exact fun _ => ⟨by (have bv := (i26_4.resolve_left (by omega)).1; omega), i26_3⟩ | exact fun _ => ⟨by omega, i115_3⟩ | fail))⟩
      ·
        refine ⟨(show 0 ≤ u2_26 ∧ u2_26 < 1501 from by (first | omega | (simp only [st_s] <;> omega) | assumption | omega | fail)), ?_⟩
        intro x34 r_x34 e_x34
        have b_x34 : 0 ≤ x34 ∧ x34 ≤ 460000 := by rw [e_x34]; exact hT.2 99 _
        rw [G99, i26_1] at e_x34
        have bv := i26_4.resolve_left (by omega)
        have bk := bv.2 u3_26 (by omega) (by omega)
        refine ⟨(show 0 ≤ (x34 + u3_26) ∧ (x34 + u3_26) < 460000 from by (first | omega | (simp only [st_s] <;> omega) | assumption | omega | fail)), ?_⟩
        intro x36 r_x36 e_x36
        have b_x36 : (-61) ≤ x36 ∧ x36 ≤ 999 := by rw [e_x36]; exact hT.2 101 _
        rw [G101, e_x34] at e_x36
        rw [← e_x36] at bk
        refine ⟨fun c37 => ?_, fun c37 => ?_⟩
        ·
          refine ⟨(⟨by (first | omega | (simp only [st_s] <;> omega) | assumption | omega | fail), by (first | omega | (simp only [st_s] <;> omega) | assumption | omega | fail)⟩ : rg ((-1) - x36)), ?_⟩
          exact l_74 _ _ _ _ hT (show τ_26.1 3 = σ.1 3 from by first | exact W3 | omega) (show τ_26.1 5 = σ.1 5 from by first | exact W5 | omega) (show τ_26.1 52 = σ.1 52 from by first | exact W52 | omega) (show τ_26.1 53 = σ.1 53 from by first | exact W53 | omega) G8 G10 G13 G14 G15 G16 G18 G19 G20 G86 G87 G91 G97 G99 G100 G101 (show u2_26 = σ.2.1 86 n1 from by (first | omega | (simp only [st_s] <;> omega) | assumption | omega | fail)) (show ∀ s : Int, s < (σ.1 54) → τ_26.2.1 102 s = σ.2.1 102 s from by exact i26_2) (show ∀ s : Int, (σ.1 54) ≤ s → s < (τ_26.1 54) → z_tk σ n1 (τ_26.2.1 102 s) from by exact i26_3) (show z_BV σ u2_26 from by (rw [i26_1]; exact i26_4)) (show (τ_26.1 54) = (σ.1 54) + (σ.2.1 100 u2_26 - 1 - u3_26) from by (rw [i26_1]; omega)) (show -2 ≤ u3_26 ∧ u3_26 ≤ σ.2.1 100 u2_26 - 1 from by (rw [i26_1]; omega)) (show ¬ σ.2.1 100 u2_26 = -1 → -1 ≤ u3_26 from by (rw [i26_1]; omega)) (show 0 ≤ u2_26 ∧ u2_26 < 1501 from by (first | omega | (simp only [st_s] <;> omega) | assumption | omega | fail)) (show 0 ≤ u3_26 from by (first | omega | (simp only [st_s] <;> omega) | assumption | omega | fail)) (show z_tk σ n1 ((-1) - x36) from by (first | exact tk42 | exact Or.inl ⟨by omega, by (have w := bk.2 (by omega); omega)⟩ | fail)) (show u3_26 + 3 < (m_26 : Int) + 1 from by (first | omega | (simp only [st_s] <;> omega) | assumption | omega | fail)) (show -2147483648 ≤ ((-1) - x36) ∧ ((-1) - x36) ≤ 2147483647 from by (first | omega | (simp only [st_s] <;> omega) | assumption | omega | fail))
        ·
          refine ⟨(show 0 ≤ n1 ∧ n1 < 60000 from by (first | omega | (simp only [st_s] <;> omega) | assumption | omega | fail)), ?_⟩
          intro x40 r_x40 e_x40
          have b_x40 : 0 ≤ x40 ∧ x40 ≤ 120000 := by rw [e_x40]; exact hT.2 87 _
          rw [G87] at e_x40
          refine ⟨(show 0 ≤ ((x40 - 1) - x36) ∧ ((x40 - 1) - x36) < 120000 from by (first | omega | (simp only [st_s] <;> omega) | assumption | omega | fail)), ?_⟩
          intro x42 r_x42 e_x42
          have b_x42 : 0 ≤ x42 ∧ x42 ≤ 60000 := by rw [e_x42]; exact hT.2 91 _
          rw [G91] at e_x42
          have tk42 : z_tk σ n1 x42 := Or.inr ⟨-1 - x36, ⟨by omega, by (have w := bk.1 (by omega); omega)⟩, by (rw [e_x42, e_x40]; exact congrArg (σ.2.1 91) (by omega))⟩
          have b42 : 0 ≤ x42 ∧ x42 ≤ 60000 := (by rw [e_x42]; exact hTσ.2 91 _)
          exact l_74 _ _ _ _ hT (show τ_26.1 3 = σ.1 3 from by first | exact W3 | omega) (show τ_26.1 5 = σ.1 5 from by first | exact W5 | omega) (show τ_26.1 52 = σ.1 52 from by first | exact W52 | omega) (show τ_26.1 53 = σ.1 53 from by first | exact W53 | omega) G8 G10 G13 G14 G15 G16 G18 G19 G20 G86 G87 G91 G97 G99 G100 G101 (show u2_26 = σ.2.1 86 n1 from by (first | omega | (simp only [st_s] <;> omega) | assumption | omega | fail)) (show ∀ s : Int, s < (σ.1 54) → τ_26.2.1 102 s = σ.2.1 102 s from by exact i26_2) (show ∀ s : Int, (σ.1 54) ≤ s → s < (τ_26.1 54) → z_tk σ n1 (τ_26.2.1 102 s) from by exact i26_3) (show z_BV σ u2_26 from by (rw [i26_1]; exact i26_4)) (show (τ_26.1 54) = (σ.1 54) + (σ.2.1 100 u2_26 - 1 - u3_26) from by (rw [i26_1]; omega)) (show -2 ≤ u3_26 ∧ u3_26 ≤ σ.2.1 100 u2_26 - 1 from by (rw [i26_1]; omega)) (show ¬ σ.2.1 100 u2_26 = -1 → -1 ≤ u3_26 from by (rw [i26_1]; omega)) (show 0 ≤ u2_26 ∧ u2_26 < 1501 from by (first | omega | (simp only [st_s] <;> omega) | assumption | omega | fail)) (show 0 ≤ u3_26 from by (first | omega | (simp only [st_s] <;> omega) | assumption | omega | fail)) (show z_tk σ n1 x42 from by (first | exact tk42 | exact Or.inl ⟨by omega, by (have w := bk.2 (by omega); omega)⟩ | fail)) (show u3_26 + 3 < (m_26 : Int) + 1 from by (first | omega | (simp only [st_s] <;> omega) | assumption | omega | fail)) (show -2147483648 ≤ x42 ∧ x42 ≤ 2147483647 from by (first | omega | (simp only [st_s] <;> omega) | assumption | omega | fail))
  have l_115 : ∀ (m_115 : Nat) (u2_115 : Int) (u3_115 : Int) (τ_115 : S0), u3_115 - σ.2.1 14 u2_115 + 1 < (m_115 : Int) → (m_T τ_115) → (τ_115.1 3 = σ.1 3) → (τ_115.1 5 = σ.1 5) → (τ_115.1 52 = σ.1 52) → (τ_115.1 53 = σ.1 53) → (τ_115.2.1 8 = σ.2.1 8) → (τ_115.2.1 10 = σ.2.1 10) → (τ_115.2.1 13 = σ.2.1 13) → (τ_115.2.1 14 = σ.2.1 14) → (τ_115.2.1 15 = σ.2.1 15) → (τ_115.2.1 16 = σ.2.1 16) → (τ_115.2.1 18 = σ.2.1 18) → (τ_115.2.1 19 = σ.2.1 19) → (τ_115.2.1 20 = σ.2.1 20) → (τ_115.2.1 86 = σ.2.1 86) → (τ_115.2.1 87 = σ.2.1 87) → (τ_115.2.1 91 = σ.2.1 91) → (τ_115.2.1 97 = σ.2.1 97) → (τ_115.2.1 99 = σ.2.1 99) → (τ_115.2.1 100 = σ.2.1 100) → (τ_115.2.1 101 = σ.2.1 101) → (u2_115 = σ.2.1 86 n1) → (∀ s : Int, s < (σ.1 54) → τ_115.2.1 102 s = σ.2.1 102 s) → (∀ s : Int, (σ.1 54) ≤ s → s < (τ_115.1 54) → z_tk σ n1 (τ_115.2.1 102 s)) → (σ.2.1 14 u2_115 ≤ u3_115 ∧ u3_115 ≤ σ.2.1 14 u2_115 + σ.2.1 15 u2_115 - 1) → ((τ_115.1 54) = (σ.1 54) + (σ.2.1 14 u2_115 + σ.2.1 15 u2_115 - 1 - u3_115)) → (0 ≤ u2_115 ∧ u2_115 < (σ.1 5)) → P115 n1 u2_115 u3_115 τ_115 := by
    intro m_115
    induction m_115 with
    | zero =>
      intro u2_115 u3_115 τ_115 hm hT W3 W5 W52 W53 G8 G10 G13 G14 G15 G16 G18 G19 G20 G86 G87 G91 G97 G99 G100 G101 i115_1 i115_2 i115_3 i115_4 i115_5 i115_6
      have A8 : ∀ j, 0 ≤ τ_115.2.1 8 j ∧ τ_115.2.1 8 j ≤ 1 := fun j => hT.2 8 j
      have A10 : ∀ j, (-1) ≤ τ_115.2.1 10 j ∧ τ_115.2.1 10 j ≤ 999 := fun j => hT.2 10 j
      have A13 : ∀ j, 0 ≤ τ_115.2.1 13 j ∧ τ_115.2.1 13 j ≤ 4 := fun j => hT.2 13 j
      have A14 : ∀ j, 0 ≤ τ_115.2.1 14 j ∧ τ_115.2.1 14 j ≤ 30000 := fun j => hT.2 14 j
      have A15 : ∀ j, 0 ≤ τ_115.2.1 15 j ∧ τ_115.2.1 15 j ≤ 300 := fun j => hT.2 15 j
      have A16 : ∀ j, 0 ≤ τ_115.2.1 16 j ∧ τ_115.2.1 16 j ≤ 999 := fun j => hT.2 16 j
      have A18 : ∀ j, 0 ≤ τ_115.2.1 18 j ∧ τ_115.2.1 18 j ≤ 90000 := fun j => hT.2 18 j
      have A19 : ∀ j, 0 ≤ τ_115.2.1 19 j ∧ τ_115.2.1 19 j ≤ 60 := fun j => hT.2 19 j
      have A20 : ∀ j, 0 ≤ τ_115.2.1 20 j ∧ τ_115.2.1 20 j ≤ 1499 := fun j => hT.2 20 j
      have A86 : ∀ j, (-1500) ≤ τ_115.2.1 86 j ∧ τ_115.2.1 86 j ≤ 1499 := fun j => hT.2 86 j
      have A87 : ∀ j, 0 ≤ τ_115.2.1 87 j ∧ τ_115.2.1 87 j ≤ 120000 := fun j => hT.2 87 j
      have A91 : ∀ j, 0 ≤ τ_115.2.1 91 j ∧ τ_115.2.1 91 j ≤ 60000 := fun j => hT.2 91 j
      have A97 : ∀ j, (-1) ≤ τ_115.2.1 97 j ∧ τ_115.2.1 97 j ≤ 1499 := fun j => hT.2 97 j
      have A99 : ∀ j, 0 ≤ τ_115.2.1 99 j ∧ τ_115.2.1 99 j ≤ 460000 := fun j => hT.2 99 j
      have A100 : ∀ j, (-1) ≤ τ_115.2.1 100 j ∧ τ_115.2.1 100 j ≤ 599 := fun j => hT.2 100 j
      have A101 : ∀ j, (-61) ≤ τ_115.2.1 101 j ∧ τ_115.2.1 101 j ≤ 999 := fun j => hT.2 101 j
      have A102 : ∀ j, (-2147483648) ≤ τ_115.2.1 102 j ∧ τ_115.2.1 102 j ≤ 2147483647 := fun j => hT.2 102 j
      have v3 : 0 ≤ τ_115.1 3 ∧ τ_115.1 3 ≤ 1000 := hT.1 3
      have v5 : 0 ≤ τ_115.1 5 ∧ τ_115.1 5 ≤ 1500 := hT.1 5
      have v52 : 0 ≤ τ_115.1 52 ∧ τ_115.1 52 ≤ 120000 := hT.1 52
      have v53 : 0 ≤ τ_115.1 53 ∧ τ_115.1 53 ≤ 460000 := hT.1 53
      have v54 : 0 ≤ τ_115.1 54 ∧ τ_115.1 54 ≤ 1300 := hT.1 54
      exfalso; (rw [i115_1] at hm i115_4; omega)
    | succ m_115 ih_115 =>
      intro u2_115 u3_115 τ_115 hm_115 hT W3 W5 W52 W53 G8 G10 G13 G14 G15 G16 G18 G19 G20 G86 G87 G91 G97 G99 G100 G101 i115_1 i115_2 i115_3 i115_4 i115_5 i115_6
      have A8 : ∀ j, 0 ≤ τ_115.2.1 8 j ∧ τ_115.2.1 8 j ≤ 1 := fun j => hT.2 8 j
      have A10 : ∀ j, (-1) ≤ τ_115.2.1 10 j ∧ τ_115.2.1 10 j ≤ 999 := fun j => hT.2 10 j
      have A13 : ∀ j, 0 ≤ τ_115.2.1 13 j ∧ τ_115.2.1 13 j ≤ 4 := fun j => hT.2 13 j
      have A14 : ∀ j, 0 ≤ τ_115.2.1 14 j ∧ τ_115.2.1 14 j ≤ 30000 := fun j => hT.2 14 j
      have A15 : ∀ j, 0 ≤ τ_115.2.1 15 j ∧ τ_115.2.1 15 j ≤ 300 := fun j => hT.2 15 j
      have A16 : ∀ j, 0 ≤ τ_115.2.1 16 j ∧ τ_115.2.1 16 j ≤ 999 := fun j => hT.2 16 j
      have A18 : ∀ j, 0 ≤ τ_115.2.1 18 j ∧ τ_115.2.1 18 j ≤ 90000 := fun j => hT.2 18 j
      have A19 : ∀ j, 0 ≤ τ_115.2.1 19 j ∧ τ_115.2.1 19 j ≤ 60 := fun j => hT.2 19 j
      have A20 : ∀ j, 0 ≤ τ_115.2.1 20 j ∧ τ_115.2.1 20 j ≤ 1499 := fun j => hT.2 20 j
      have A86 : ∀ j, (-1500) ≤ τ_115.2.1 86 j ∧ τ_115.2.1 86 j ≤ 1499 := fun j => hT.2 86 j
      have A87 : ∀ j, 0 ≤ τ_115.2.1 87 j ∧ τ_115.2.1 87 j ≤ 120000 := fun j => hT.2 87 j
      have A91 : ∀ j, 0 ≤ τ_115.2.1 91 j ∧ τ_115.2.1 91 j ≤ 60000 := fun j => hT.2 91 j
      have A97 : ∀ j, (-1) ≤ τ_115.2.1 97 j ∧ τ_115.2.1 97 j ≤ 1499 := fun j => hT.2 97 j
      have A99 : ∀ j, 0 ≤ τ_115.2.1 99 j ∧ τ_115.2.1 99 j ≤ 460000 := fun j => hT.2 99 j
      have A100 : ∀ j, (-1) ≤ τ_115.2.1 100 j ∧ τ_115.2.1 100 j ≤ 599 := fun j => hT.2 100 j
      have A101 : ∀ j, (-61) ≤ τ_115.2.1 101 j ∧ τ_115.2.1 101 j ≤ 999 := fun j => hT.2 101 j
      have A102 : ∀ j, (-2147483648) ≤ τ_115.2.1 102 j ∧ τ_115.2.1 102 j ≤ 2147483647 := fun j => hT.2 102 j
      have v3 : 0 ≤ τ_115.1 3 ∧ τ_115.1 3 ≤ 1000 := hT.1 3
      have v5 : 0 ≤ τ_115.1 5 ∧ τ_115.1 5 ≤ 1500 := hT.1 5
      have v52 : 0 ≤ τ_115.1 52 ∧ τ_115.1 52 ≤ 120000 := hT.1 52
      have v53 : 0 ≤ τ_115.1 53 ∧ τ_115.1 53 ≤ 460000 := hT.1 53
      have v54 : 0 ≤ τ_115.1 54 ∧ τ_115.1 54 ≤ 1300 := hT.1 54
      rw [i115_1] at i115_4 i115_5
      have l_174 : ∀ (u2_174 : Int) (u3_174 : Int) (k1_174 : Int) (τ_174 : S0), (m_T τ_174) → (τ_174.1 3 = σ.1 3) → (τ_174.1 5 = σ.1 5) → (τ_174.1 52 = σ.1 52) → (τ_174.1 53 = σ.1 53) → (τ_174.2.1 8 = σ.2.1 8) → (τ_174.2.1 10 = σ.2.1 10) → (τ_174.2.1 13 = σ.2.1 13) → (τ_174.2.1 14 = σ.2.1 14) → (τ_174.2.1 15 = σ.2.1 15) → (τ_174.2.1 16 = σ.2.1 16) → (τ_174.2.1 18 = σ.2.1 18) → (τ_174.2.1 19 = σ.2.1 19) → (τ_174.2.1 20 = σ.2.1 20) → (τ_174.2.1 86 = σ.2.1 86) → (τ_174.2.1 87 = σ.2.1 87) → (τ_174.2.1 91 = σ.2.1 91) → (τ_174.2.1 97 = σ.2.1 97) → (τ_174.2.1 99 = σ.2.1 99) → (τ_174.2.1 100 = σ.2.1 100) → (τ_174.2.1 101 = σ.2.1 101) → (u2_174 = σ.2.1 86 n1) → (∀ s : Int, s < (σ.1 54) → τ_174.2.1 102 s = σ.2.1 102 s) → (∀ s : Int, (σ.1 54) ≤ s → s < (τ_174.1 54) → z_tk σ n1 (τ_174.2.1 102 s)) → (σ.2.1 14 u2_174 ≤ u3_174 ∧ u3_174 ≤ σ.2.1 14 u2_174 + σ.2.1 15 u2_174 - 1) → ((τ_174.1 54) = (σ.1 54) + (σ.2.1 14 u2_174 + σ.2.1 15 u2_174 - 1 - u3_174)) → (0 ≤ u2_174 ∧ u2_174 < (σ.1 5)) → (σ.2.1 14 u2_174 < u3_174) → (z_tk σ n1 k1_174) → (u3_174 - σ.2.1 14 u2_174 + 1 < (m_115 : Int) + 1) → (-2147483648 ≤ k1_174 ∧ k1_174 ≤ 2147483647) → P174 n1 u2_174 u3_174 k1_174 τ_174 := by
        intro u2_174 u3_174 k1_174 τ_174 hT W3 W5 W52 W53 G8 G10 G13 G14 G15 G16 G18 G19 G20 G86 G87 G91 G97 G99 G100 G101 i174_1 i174_2 i174_3 i174_4 i174_5 i174_6 i174_7 i174_8 i174_9 i174_10
        have A8 : ∀ j, 0 ≤ τ_174.2.1 8 j ∧ τ_174.2.1 8 j ≤ 1 := fun j => hT.2 8 j
        have A10 : ∀ j, (-1) ≤ τ_174.2.1 10 j ∧ τ_174.2.1 10 j ≤ 999 := fun j => hT.2 10 j
        have A13 : ∀ j, 0 ≤ τ_174.2.1 13 j ∧ τ_174.2.1 13 j ≤ 4 := fun j => hT.2 13 j
        have A14 : ∀ j, 0 ≤ τ_174.2.1 14 j ∧ τ_174.2.1 14 j ≤ 30000 := fun j => hT.2 14 j
        have A15 : ∀ j, 0 ≤ τ_174.2.1 15 j ∧ τ_174.2.1 15 j ≤ 300 := fun j => hT.2 15 j
        have A16 : ∀ j, 0 ≤ τ_174.2.1 16 j ∧ τ_174.2.1 16 j ≤ 999 := fun j => hT.2 16 j
        have A18 : ∀ j, 0 ≤ τ_174.2.1 18 j ∧ τ_174.2.1 18 j ≤ 90000 := fun j => hT.2 18 j
        have A19 : ∀ j, 0 ≤ τ_174.2.1 19 j ∧ τ_174.2.1 19 j ≤ 60 := fun j => hT.2 19 j
        have A20 : ∀ j, 0 ≤ τ_174.2.1 20 j ∧ τ_174.2.1 20 j ≤ 1499 := fun j => hT.2 20 j
        have A86 : ∀ j, (-1500) ≤ τ_174.2.1 86 j ∧ τ_174.2.1 86 j ≤ 1499 := fun j => hT.2 86 j
        have A87 : ∀ j, 0 ≤ τ_174.2.1 87 j ∧ τ_174.2.1 87 j ≤ 120000 := fun j => hT.2 87 j
        have A91 : ∀ j, 0 ≤ τ_174.2.1 91 j ∧ τ_174.2.1 91 j ≤ 60000 := fun j => hT.2 91 j
        have A97 : ∀ j, (-1) ≤ τ_174.2.1 97 j ∧ τ_174.2.1 97 j ≤ 1499 := fun j => hT.2 97 j
        have A99 : ∀ j, 0 ≤ τ_174.2.1 99 j ∧ τ_174.2.1 99 j ≤ 460000 := fun j => hT.2 99 j
        have A100 : ∀ j, (-1) ≤ τ_174.2.1 100 j ∧ τ_174.2.1 100 j ≤ 599 := fun j => hT.2 100 j
        have A101 : ∀ j, (-61) ≤ τ_174.2.1 101 j ∧ τ_174.2.1 101 j ≤ 999 := fun j => hT.2 101 j
        have A102 : ∀ j, (-2147483648) ≤ τ_174.2.1 102 j ∧ τ_174.2.1 102 j ≤ 2147483647 := fun j => hT.2 102 j
        have v3 : 0 ≤ τ_174.1 3 ∧ τ_174.1 3 ≤ 1000 := hT.1 3
        have v5 : 0 ≤ τ_174.1 5 ∧ τ_174.1 5 ≤ 1500 := hT.1 5
        have v52 : 0 ≤ τ_174.1 52 ∧ τ_174.1 52 ≤ 120000 := hT.1 52
        have v53 : 0 ≤ τ_174.1 53 ∧ τ_174.1 53 ≤ 460000 := hT.1 53
        have v54 : 0 ≤ τ_174.1 54 ∧ τ_174.1 54 ≤ 1300 := hT.1 54
        have i174_9z := i174_9
        rw [i174_1] at i174_4 i174_5 i174_7 i174_9
        refine h174 n1 u2_174 u3_174 k1_174 τ_174 ?_
        refine ⟨_, K_X13_addTask hT (show (τ_174.1 54) < 1300 from by (first | omega | (simp only [st_s] <;> omega) | assumption | omega | fail)) (show -2147483648 ≤ k1_174 ∧ k1_174 ≤ 2147483647 from by (first | omega | (simp only [st_s] <;> omega) | assumption | omega | fail)), ?_⟩
        intro τ45 hn_τ45 hf_τ45 hq
        obtain ⟨hT, q43_1, q43_2⟩ := hq
        replace q43_1 : τ45.2.1 102 = st (τ_174.2.1 102) (τ_174.1 54) k1_174 := q43_1
        replace q43_2 : (τ45.1 54) = (τ_174.1 54) + 1 := q43_2
        have w3_τ45 : τ45.1 3 = τ_174.1 3 := hf_τ45.1 3 (by decide)
        have w5_τ45 : τ45.1 5 = τ_174.1 5 := hf_τ45.1 5 (by decide)
        have w52_τ45 : τ45.1 52 = τ_174.1 52 := hf_τ45.1 52 (by decide)
        have w53_τ45 : τ45.1 53 = τ_174.1 53 := hf_τ45.1 53 (by decide)
        have g8_τ45 : τ45.2.1 8 = τ_174.2.1 8 := hf_τ45.2.1 8 (by decide)
        have g10_τ45 : τ45.2.1 10 = τ_174.2.1 10 := hf_τ45.2.1 10 (by decide)
        have g13_τ45 : τ45.2.1 13 = τ_174.2.1 13 := hf_τ45.2.1 13 (by decide)
        have g14_τ45 : τ45.2.1 14 = τ_174.2.1 14 := hf_τ45.2.1 14 (by decide)
        have g15_τ45 : τ45.2.1 15 = τ_174.2.1 15 := hf_τ45.2.1 15 (by decide)
        have g16_τ45 : τ45.2.1 16 = τ_174.2.1 16 := hf_τ45.2.1 16 (by decide)
        have g18_τ45 : τ45.2.1 18 = τ_174.2.1 18 := hf_τ45.2.1 18 (by decide)
        have g19_τ45 : τ45.2.1 19 = τ_174.2.1 19 := hf_τ45.2.1 19 (by decide)
        have g20_τ45 : τ45.2.1 20 = τ_174.2.1 20 := hf_τ45.2.1 20 (by decide)
        have g86_τ45 : τ45.2.1 86 = τ_174.2.1 86 := hf_τ45.2.1 86 (by decide)
        have g87_τ45 : τ45.2.1 87 = τ_174.2.1 87 := hf_τ45.2.1 87 (by decide)
        have g91_τ45 : τ45.2.1 91 = τ_174.2.1 91 := hf_τ45.2.1 91 (by decide)
        have g97_τ45 : τ45.2.1 97 = τ_174.2.1 97 := hf_τ45.2.1 97 (by decide)
        have g99_τ45 : τ45.2.1 99 = τ_174.2.1 99 := hf_τ45.2.1 99 (by decide)
        have g100_τ45 : τ45.2.1 100 = τ_174.2.1 100 := hf_τ45.2.1 100 (by decide)
        have g101_τ45 : τ45.2.1 101 = τ_174.2.1 101 := hf_τ45.2.1 101 (by decide)
        have W3 : τ45.1 3 = σ.1 3 := by first | exact w3_τ45.trans W3 | omega
        have W5 : τ45.1 5 = σ.1 5 := by first | exact w5_τ45.trans W5 | omega
        have W52 : τ45.1 52 = σ.1 52 := by first | exact w52_τ45.trans W52 | omega
        have W53 : τ45.1 53 = σ.1 53 := by first | exact w53_τ45.trans W53 | omega
        have G8 : τ45.2.1 8 = σ.2.1 8 := (g8_τ45).trans G8
        have G10 : τ45.2.1 10 = σ.2.1 10 := (g10_τ45).trans G10
        have G13 : τ45.2.1 13 = σ.2.1 13 := (g13_τ45).trans G13
        have G14 : τ45.2.1 14 = σ.2.1 14 := (g14_τ45).trans G14
        have G15 : τ45.2.1 15 = σ.2.1 15 := (g15_τ45).trans G15
        have G16 : τ45.2.1 16 = σ.2.1 16 := (g16_τ45).trans G16
        have G18 : τ45.2.1 18 = σ.2.1 18 := (g18_τ45).trans G18
        have G19 : τ45.2.1 19 = σ.2.1 19 := (g19_τ45).trans G19
        have G20 : τ45.2.1 20 = σ.2.1 20 := (g20_τ45).trans G20
        have G86 : τ45.2.1 86 = σ.2.1 86 := (g86_τ45).trans G86
        have G87 : τ45.2.1 87 = σ.2.1 87 := (g87_τ45).trans G87
        have G91 : τ45.2.1 91 = σ.2.1 91 := (g91_τ45).trans G91
        have G97 : τ45.2.1 97 = σ.2.1 97 := (g97_τ45).trans G97
        have G99 : τ45.2.1 99 = σ.2.1 99 := (g99_τ45).trans G99
        have G100 : τ45.2.1 100 = σ.2.1 100 := (g100_τ45).trans G100
        have G101 : τ45.2.1 101 = σ.2.1 101 := (g101_τ45).trans G101
        have A8 : ∀ j, 0 ≤ τ45.2.1 8 j ∧ τ45.2.1 8 j ≤ 1 := fun j => hT.2 8 j
        have A10 : ∀ j, (-1) ≤ τ45.2.1 10 j ∧ τ45.2.1 10 j ≤ 999 := fun j => hT.2 10 j
        have A13 : ∀ j, 0 ≤ τ45.2.1 13 j ∧ τ45.2.1 13 j ≤ 4 := fun j => hT.2 13 j
        have A14 : ∀ j, 0 ≤ τ45.2.1 14 j ∧ τ45.2.1 14 j ≤ 30000 := fun j => hT.2 14 j
        have A15 : ∀ j, 0 ≤ τ45.2.1 15 j ∧ τ45.2.1 15 j ≤ 300 := fun j => hT.2 15 j
        have A16 : ∀ j, 0 ≤ τ45.2.1 16 j ∧ τ45.2.1 16 j ≤ 999 := fun j => hT.2 16 j
        have A18 : ∀ j, 0 ≤ τ45.2.1 18 j ∧ τ45.2.1 18 j ≤ 90000 := fun j => hT.2 18 j
        have A19 : ∀ j, 0 ≤ τ45.2.1 19 j ∧ τ45.2.1 19 j ≤ 60 := fun j => hT.2 19 j
        have A20 : ∀ j, 0 ≤ τ45.2.1 20 j ∧ τ45.2.1 20 j ≤ 1499 := fun j => hT.2 20 j
        have A86 : ∀ j, (-1500) ≤ τ45.2.1 86 j ∧ τ45.2.1 86 j ≤ 1499 := fun j => hT.2 86 j
        have A87 : ∀ j, 0 ≤ τ45.2.1 87 j ∧ τ45.2.1 87 j ≤ 120000 := fun j => hT.2 87 j
        have A91 : ∀ j, 0 ≤ τ45.2.1 91 j ∧ τ45.2.1 91 j ≤ 60000 := fun j => hT.2 91 j
        have A97 : ∀ j, (-1) ≤ τ45.2.1 97 j ∧ τ45.2.1 97 j ≤ 1499 := fun j => hT.2 97 j
        have A99 : ∀ j, 0 ≤ τ45.2.1 99 j ∧ τ45.2.1 99 j ≤ 460000 := fun j => hT.2 99 j
        have A100 : ∀ j, (-1) ≤ τ45.2.1 100 j ∧ τ45.2.1 100 j ≤ 599 := fun j => hT.2 100 j
        have A101 : ∀ j, (-61) ≤ τ45.2.1 101 j ∧ τ45.2.1 101 j ≤ 999 := fun j => hT.2 101 j
        have A102 : ∀ j, (-2147483648) ≤ τ45.2.1 102 j ∧ τ45.2.1 102 j ≤ 2147483647 := fun j => hT.2 102 j
        have v3 : 0 ≤ τ45.1 3 ∧ τ45.1 3 ≤ 1000 := hT.1 3
        have v5 : 0 ≤ τ45.1 5 ∧ τ45.1 5 ≤ 1500 := hT.1 5
        have v52 : 0 ≤ τ45.1 52 ∧ τ45.1 52 ≤ 120000 := hT.1 52
        have v53 : 0 ≤ τ45.1 53 ∧ τ45.1 53 ≤ 460000 := hT.1 53
        have v54 : 0 ≤ τ45.1 54 ∧ τ45.1 54 ≤ 1300 := hT.1 54
        refine ⟨(⟨by (first | omega | (simp only [st_s] <;> omega) | assumption | omega | fail), by (first | omega | (simp only [st_s] <;> omega) | assumption | omega | fail)⟩ : rg (u3_174 + (-1))), ?_⟩
        exact ih_115 _ _ _ (show ((u3_174 + (-1)) - σ.2.1 14 u2_174 + 1 : Int) < ((m_115 : Nat) : Int) from by ((first | omega | (simp only [st_s] <;> omega) | assumption | omega | fail))) hT (show τ45.1 3 = σ.1 3 from by first | exact W3 | omega) (show τ45.1 5 = σ.1 5 from by first | exact W5 | omega) (show τ45.1 52 = σ.1 52 from by first | exact W52 | omega) (show τ45.1 53 = σ.1 53 from by first | exact W53 | omega) G8 G10 G13 G14 G15 G16 G18 G19 G20 G86 G87 G91 G97 G99 G100 G101 (show u2_174 = σ.2.1 86 n1 from by (first | exact e_x2 | exact i174_1 | fail)) (show ∀ s : Int, s < (σ.1 54) → τ45.2.1 102 s = σ.2.1 102 s from by (first | exact fun _ _ => rfl | (intro s a; rw [q43_1, st_n _ _ (by omega)]; exact i174_2 s a) | fail)) (show ∀ s : Int, (σ.1 54) ≤ s → s < (τ45.1 54) → z_tk σ n1 (τ45.2.1 102 s) from by (first | (intro s a b; exfalso; omega) | (intro s a b; rcases (by omega : s < τ_174.1 54 ∨ s = τ_174.1 54) with y | y; (rw [q43_1, st_n _ _ (by omega)]; exact i174_3 s a y); (rw [q43_1, y, st_s]; exact i174_8)) | fail)) (show σ.2.1 14 u2_174 ≤ (u3_174 + (-1)) ∧ (u3_174 + (-1)) ≤ σ.2.1 14 u2_174 + σ.2.1 15 u2_174 - 1 from by (first | omega | (rw [i174_1]; omega) | (rw [e_x2]; rw [e_x2] at e_x6 e_x7; omega) | fail)) (show (τ45.1 54) = (σ.1 54) + (σ.2.1 14 u2_174 + σ.2.1 15 u2_174 - 1 - (u3_174 + (-1))) from by (first | omega | (rw [i174_1]; omega) | (rw [e_x2]; rw [e_x2] at e_x6 e_x7; omega) | fail)) (show 0 ≤ u2_174 ∧ u2_174 < (σ.1 5) from by (first | omega | exact i174_6 | (rw [e_x2]; exact ⟨p4, tw.1.1⟩) | fail))
      refine h115 n1 u2_115 u3_115 τ_115 ?_
      refine ⟨(show 0 ≤ u2_115 ∧ u2_115 < 1501 from by (first | omega | (simp only [st_s] <;> omega) | assumption | omega | fail)), ?_⟩
      intro x12 r_x12 e_x12
      have b_x12 : 0 ≤ x12 ∧ x12 ≤ 30000 := by rw [e_x12]; exact hT.2 14 _
      rw [G14, i115_1] at e_x12
      refine ⟨fun c13 => ?_, fun c13 => ?_⟩
      ·
        exact ⟨hT, (show 1 = 0 ∨ 1 = 1 from by (first | omega | (simp only [st_s] <;> omega) | assumption | omega | fail)), (show ∀ s : Int, s < (σ.1 54) → τ_115.2.1 102 s = σ.2.1 102 s from by (first | exact i26_2 | exact i115_2 | fail)), (show 1 = 1 → ((σ.1 54) + 1 ≤ (τ_115.1 54) ∧ (τ_115.1 54) ≤ (σ.1 54) + 599) ∧ ∀ s : Int, (σ.1 54) ≤ s → s < (τ_115.1 54) → z_tk σ n1 (τ_115.2.1 102 s) from by (first | (intro z; exfalso; omega) | exact fun _ => ⟨by (have bv := (i26_4.resolve_left (by omega)).1; omega), i26_3⟩ | exact fun _ => ⟨by omega, i115_3⟩ | fail))⟩
      ·
        refine ⟨(show 0 ≤ u3_115 ∧ u3_115 < 30400 from by (first | omega | (simp only [st_s] <;> omega) | assumption | omega | fail)), ?_⟩
        intro x15 r_x15 e_x15
        have b_x15 : 0 ≤ x15 ∧ x15 ≤ 999 := by rw [e_x15]; exact hT.2 16 _
        rw [G16] at e_x15
        have s15 := (na.2.2 u3_115 (by omega) (by omega)).1
        rw [← e_x15] at s15
        refine ⟨(show 0 ≤ x15 ∧ x15 < 1001 from by (first | omega | (simp only [st_s] <;> omega) | assumption | omega | fail)), ?_⟩
        intro x17 r_x17 e_x17
        have b_x17 : 0 ≤ x17 ∧ x17 ≤ 1 := by rw [e_x17]; exact hT.2 8 _
        rw [G8] at e_x17
        refine ⟨fun c18 => ?_, fun c18 => ?_⟩
        ·
          intro x19 r_x19 e_x19
          have b_x19 : 0 ≤ x19 ∧ x19 ≤ 999 := by rw [e_x19]; exact hT.2 16 _
          rw [G16] at e_x19
          refine ⟨(⟨by (first | omega | (simp only [st_s] <;> omega) | assumption | omega | fail), by (first | omega | (simp only [st_s] <;> omega) | assumption | omega | fail)⟩ : rg ((-1) - x19)), ?_⟩
          exact l_174 _ _ _ _ hT (show τ_115.1 3 = σ.1 3 from by first | exact W3 | omega) (show τ_115.1 5 = σ.1 5 from by first | exact W5 | omega) (show τ_115.1 52 = σ.1 52 from by first | exact W52 | omega) (show τ_115.1 53 = σ.1 53 from by first | exact W53 | omega) G8 G10 G13 G14 G15 G16 G18 G19 G20 G86 G87 G91 G97 G99 G100 G101 (show u2_115 = σ.2.1 86 n1 from by (first | omega | (simp only [st_s] <;> omega) | assumption | omega | fail)) (show ∀ s : Int, s < (σ.1 54) → τ_115.2.1 102 s = σ.2.1 102 s from by exact i115_2) (show ∀ s : Int, (σ.1 54) ≤ s → s < (τ_115.1 54) → z_tk σ n1 (τ_115.2.1 102 s) from by exact i115_3) (show σ.2.1 14 u2_115 ≤ u3_115 ∧ u3_115 ≤ σ.2.1 14 u2_115 + σ.2.1 15 u2_115 - 1 from by (rw [i115_1]; omega)) (show (τ_115.1 54) = (σ.1 54) + (σ.2.1 14 u2_115 + σ.2.1 15 u2_115 - 1 - u3_115) from by (rw [i115_1]; omega)) (show 0 ≤ u2_115 ∧ u2_115 < (σ.1 5) from by (first | omega | (simp only [st_s] <;> omega) | assumption | omega | fail)) (show σ.2.1 14 u2_115 < u3_115 from by (rw [i115_1]; omega)) (show z_tk σ n1 ((-1) - x19) from by (first | exact tk28 | exact Or.inl ⟨by omega, by omega⟩ | fail)) (show u3_115 - σ.2.1 14 u2_115 + 1 < (m_115 : Int) + 1 from by (rw [i115_1]; rw [i115_1] at hm_115; omega)) (show -2147483648 ≤ ((-1) - x19) ∧ ((-1) - x19) ≤ 2147483647 from by (first | omega | (simp only [st_s] <;> omega) | assumption | omega | fail))
        ·
          refine ⟨(show 0 ≤ n1 ∧ n1 < 60000 from by (first | omega | (simp only [st_s] <;> omega) | assumption | omega | fail)), ?_⟩
          intro x22 r_x22 e_x22
          have b_x22 : 0 ≤ x22 ∧ x22 ≤ 120000 := by rw [e_x22]; exact hT.2 87 _
          rw [G87] at e_x22
          intro x23 r_x23 e_x23
          have b_x23 : 0 ≤ x23 ∧ x23 ≤ 999 := by rw [e_x23]; exact hT.2 16 _
          rw [G16] at e_x23
          refine ⟨_, K_X13_hypOf hT (show 0 ≤ u2_115 from by (first | omega | (simp only [st_s] <;> omega) | assumption | omega | fail)) (show u2_115 < (τ_115.1 5) from by (first | omega | (simp only [st_s] <;> omega) | assumption | omega | fail)), ?_⟩
          intro x25 r_x25 hq
          obtain ⟨q24_1, q24_2, q24_3⟩ := hq
          replace q24_1 : -1 ≤ x25 ∧ x25 < τ_115.2.1 19 u2_115 ∨ x25 = -1 := q24_1
          replace q24_2 : 0 ≤ x25 → x25 < τ_115.2.1 19 u2_115 ∧ τ_115.2.1 16 (τ_115.2.1 14 (τ_115.2.1 20 (τ_115.2.1 18 u2_115 + x25)) + 1) = x23 := q24_2
          replace q24_3 : x25 = -1 → ∀ k : Int, 0 ≤ k → k < τ_115.2.1 19 u2_115 → τ_115.2.1 16 (τ_115.2.1 14 (τ_115.2.1 20 (τ_115.2.1 18 u2_115 + k)) + 1) ≠ x23 := q24_3
          rw [G14, G16, G18, G19, G20] at q24_2 q24_3
          rw [i115_1] at q24_2 q24_3
          have fv : y_f σ (σ.2.1 86 n1) (u3_115 - σ.2.1 14 (σ.2.1 86 n1) - 1 + 1) < 0 := (by unfold y_f; rw [show σ.2.1 14 (σ.2.1 86 n1) + (u3_115 - σ.2.1 14 (σ.2.1 86 n1) - 1 + 1) = u3_115 from by omega, ← e_x15, if_neg (by rw [← e_x17]; assumption)]; have w := hTσ.2 10 x15; have w1 : -1 ≤ σ.2.1 10 x15 := w.1; omega)
          obtain ⟨kr, kr1, kr2⟩ := rh1 (u3_115 - σ.2.1 14 (σ.2.1 86 n1) - 1) (by omega) (by omega) fv
          have n25 : ¬ x25 = -1 := (fun z => q24_3 z kr kr1.1 kr1.2 (kr2.trans (by rw [e_x23]; exact congrArg (σ.2.1 16) (by omega))))
          have b25 : 0 ≤ x25 ∧ x25 < σ.2.1 19 (σ.2.1 86 n1) := (by have z0 : 0 ≤ x25 := (by omega); exact ⟨z0, (q24_2 z0).1⟩)
          refine ⟨(show 0 ≤ (x22 + x25) ∧ (x22 + x25) < 120000 from by (first | omega | (simp only [st_s] <;> omega) | assumption | omega | fail)), ?_⟩
          intro x28 r_x28 e_x28
          have b_x28 : 0 ≤ x28 ∧ x28 ≤ 60000 := by rw [e_x28]; exact hT.2 91 _
          rw [G91] at e_x28
          have tk28 : z_tk σ n1 x28 := Or.inr ⟨x25, b25, by rw [e_x28, e_x22]⟩
          have b28 : 0 ≤ x28 ∧ x28 ≤ 60000 := (by rw [e_x28]; exact hTσ.2 91 _)
          exact l_174 _ _ _ _ hT (show τ_115.1 3 = σ.1 3 from by first | exact W3 | omega) (show τ_115.1 5 = σ.1 5 from by first | exact W5 | omega) (show τ_115.1 52 = σ.1 52 from by first | exact W52 | omega) (show τ_115.1 53 = σ.1 53 from by first | exact W53 | omega) G8 G10 G13 G14 G15 G16 G18 G19 G20 G86 G87 G91 G97 G99 G100 G101 (show u2_115 = σ.2.1 86 n1 from by (first | omega | (simp only [st_s] <;> omega) | assumption | omega | fail)) (show ∀ s : Int, s < (σ.1 54) → τ_115.2.1 102 s = σ.2.1 102 s from by exact i115_2) (show ∀ s : Int, (σ.1 54) ≤ s → s < (τ_115.1 54) → z_tk σ n1 (τ_115.2.1 102 s) from by exact i115_3) (show σ.2.1 14 u2_115 ≤ u3_115 ∧ u3_115 ≤ σ.2.1 14 u2_115 + σ.2.1 15 u2_115 - 1 from by (rw [i115_1]; omega)) (show (τ_115.1 54) = (σ.1 54) + (σ.2.1 14 u2_115 + σ.2.1 15 u2_115 - 1 - u3_115) from by (rw [i115_1]; omega)) (show 0 ≤ u2_115 ∧ u2_115 < (σ.1 5) from by (first | omega | (simp only [st_s] <;> omega) | assumption | omega | fail)) (show σ.2.1 14 u2_115 < u3_115 from by (rw [i115_1]; omega)) (show z_tk σ n1 x28 from by (first | exact tk28 | exact Or.inl ⟨by omega, by omega⟩ | fail)) (show u3_115 - σ.2.1 14 u2_115 + 1 < (m_115 : Int) + 1 from by (rw [i115_1]; rw [i115_1] at hm_115; omega)) (show -2147483648 ≤ x28 ∧ x28 ≤ 2147483647 from by (first | omega | (simp only [st_s] <;> omega) | assumption | omega | fail))
  refine ⟨(show 0 ≤ n1 ∧ n1 < 60000 from by (first | omega | (simp only [st_s] <;> omega) | assumption | omega | fail)), ?_⟩
  intro x2 r_x2 e_x2
  have b_x2 : (-1500) ≤ x2 ∧ x2 ≤ 1499 := by rw [e_x2]; exact hT.2 86 _
  refine ⟨(show 0 ≤ x2 ∧ x2 < 1501 from by (first | omega | (simp only [st_s] <;> omega) | assumption | omega | fail)), ?_⟩
  intro x4 r_x4 e_x4
  have b_x4 : (-1) ≤ x4 ∧ x4 ≤ 1499 := by rw [e_x4]; exact hT.2 97 _
  refine ⟨fun c5 => ?_, fun c5 => ?_⟩
  ·
    intro x6 r_x6 e_x6
    have b_x6 : 0 ≤ x6 ∧ x6 ≤ 30000 := by rw [e_x6]; exact hT.2 14 _
    intro x7 r_x7 e_x7
    have b_x7 : 0 ≤ x7 ∧ x7 ≤ 300 := by rw [e_x7]; exact hT.2 15 _
    refine ⟨(⟨by (first | omega | (simp only [st_s] <;> omega) | assumption | omega | fail), by (first | omega | (simp only [st_s] <;> omega) | assumption | omega | fail)⟩ : rg ((x6 + x7) - 1)), ?_⟩
    exact l_115 ((((x6 + x7) - 1) - σ.2.1 14 x2 + 1 : Int).toNat + 1) _ _ _ (show (((x6 + x7) - 1) - σ.2.1 14 x2 + 1 : Int) < (((((x6 + x7) - 1) - σ.2.1 14 x2 + 1 : Int).toNat + 1 : Nat) : Int) from by ((first | omega | (simp only [st_s] <;> omega) | assumption | omega | fail))) hT (show σ.1 3 = σ.1 3 from by first | exact W3 | omega) (show σ.1 5 = σ.1 5 from by first | exact W5 | omega) (show σ.1 52 = σ.1 52 from by first | exact W52 | omega) (show σ.1 53 = σ.1 53 from by first | exact W53 | omega) G8 G10 G13 G14 G15 G16 G18 G19 G20 G86 G87 G91 G97 G99 G100 G101 (show x2 = σ.2.1 86 n1 from by (first | exact e_x2 | exact i174_1 | fail)) (show ∀ s : Int, s < (σ.1 54) → σ.2.1 102 s = σ.2.1 102 s from by (first | exact fun _ _ => rfl | (intro s a; rw [q43_1, st_n _ _ (by omega)]; exact i174_2 s a) | fail)) (show ∀ s : Int, (σ.1 54) ≤ s → s < (σ.1 54) → z_tk σ n1 (σ.2.1 102 s) from by (first | (intro s a b; exfalso; omega) | (intro s a b; rcases (by omega : s < τ_174.1 54 ∨ s = τ_174.1 54) with y | y; (rw [q43_1, st_n _ _ (by omega)]; exact i174_3 s a y); (rw [q43_1, y, st_s]; exact i174_8)) | fail)) (show σ.2.1 14 x2 ≤ ((x6 + x7) - 1) ∧ ((x6 + x7) - 1) ≤ σ.2.1 14 x2 + σ.2.1 15 x2 - 1 from by (first | omega | (rw [i174_1]; omega) | (rw [e_x2]; rw [e_x2] at e_x6 e_x7; omega) | fail)) (show (σ.1 54) = (σ.1 54) + (σ.2.1 14 x2 + σ.2.1 15 x2 - 1 - ((x6 + x7) - 1)) from by (first | omega | (rw [i174_1]; omega) | (rw [e_x2]; rw [e_x2] at e_x6 e_x7; omega) | fail)) (show 0 ≤ x2 ∧ x2 < (σ.1 5) from by (first | omega | exact i174_6 | (rw [e_x2]; exact ⟨p4, tw.1.1⟩) | fail))
  ·
    intro x9 r_x9 e_x9
    have b_x9 : (-1) ≤ x9 ∧ x9 ≤ 599 := by rw [e_x9]; exact hT.2 100 _
    refine ⟨(⟨by (first | omega | (simp only [st_s] <;> omega) | assumption | omega | fail), by (first | omega | (simp only [st_s] <;> omega) | assumption | omega | fail)⟩ : rg (x9 - 1)), ?_⟩
    exact l_26 (((x9 - 1) + 3 : Int).toNat + 1) _ _ _ (show ((x9 - 1) + 3 : Int) < ((((x9 - 1) + 3 : Int).toNat + 1 : Nat) : Int) from by ((first | omega | (simp only [st_s] <;> omega) | assumption | omega | fail))) hT (show σ.1 3 = σ.1 3 from by first | exact W3 | omega) (show σ.1 5 = σ.1 5 from by first | exact W5 | omega) (show σ.1 52 = σ.1 52 from by first | exact W52 | omega) (show σ.1 53 = σ.1 53 from by first | exact W53 | omega) G8 G10 G13 G14 G15 G16 G18 G19 G20 G86 G87 G91 G97 G99 G100 G101 (show x2 = σ.2.1 86 n1 from by (first | exact e_x2 | exact i74_1 | fail)) (show ∀ s : Int, s < (σ.1 54) → σ.2.1 102 s = σ.2.1 102 s from by (first | exact fun _ _ => rfl | (intro s a; rw [q47_1, st_n _ _ (by omega)]; exact i74_2 s a) | fail)) (show ∀ s : Int, (σ.1 54) ≤ s → s < (σ.1 54) → z_tk σ n1 (σ.2.1 102 s) from by (first | (intro s a b; exfalso; omega) | (intro s a b; rcases (by omega : s < τ_74.1 54 ∨ s = τ_74.1 54) with y | y; (rw [q47_1, st_n _ _ (by omega)]; exact i74_3 s a y); (rw [q47_1, y, st_s]; exact i74_10)) | fail)) (show z_BV σ x2 from by (first | (rw [e_x2]; exact p7.resolve_left (by rw [← e_x2, ← e_x4]; assumption)) | (rw [i74_1]; exact i74_4) | fail)) (show (σ.1 54) = (σ.1 54) + (σ.2.1 100 x2 - 1 - (x9 - 1)) from by (first | omega | (rw [i74_1]; omega) | (rw [← e_x9]; omega) | fail)) (show -2 ≤ (x9 - 1) ∧ (x9 - 1) ≤ σ.2.1 100 x2 - 1 from by (first | omega | (rw [i74_1]; omega) | (rw [← e_x9]; omega) | fail)) (show ¬ σ.2.1 100 x2 = -1 → -1 ≤ (x9 - 1) from by (first | omega | (rw [i74_1]; omega) | (rw [← e_x9]; omega) | fail)) (show 0 ≤ x2 ∧ x2 < 1501 from by (first | omega | (simp only [st_s] <;> omega) | assumption | omega | fail))
