-- pure: a walk with counters: what is left of each node on the stack
def y_RM (σ : S0) (wt : Int → Int) (x u : Int) : Int := if 0 ≤ σ.2.1 86 x then 1 + 2 * sm (fun k => wt (σ.2.1 91 (σ.2.1 87 x + (u + k)))) (σ.2.1 19 (σ.2.1 86 x) - u) else 1
theorem y_RM_0 {σ : S0} {wt : Int → Int} {lo hi x : Int} (h : y_TW σ wt lo hi) (x0 : lo ≤ x) (x1 : x < hi) : 1 ≤ y_RM σ wt x 0 ∧ y_RM σ wt x 0 + 1 ≤ 2 * wt x := by
  obtain ⟨a, b⟩ := h x x0 x1
  unfold y_RM
  by_cases z : 0 ≤ σ.2.1 86 x
  · rw [if_pos z, y_k0 (fun k => wt (σ.2.1 91 (σ.2.1 87 x + k)))]
    obtain ⟨_, c, d⟩ := b z
    have s : 0 ≤ sm (fun k => wt (σ.2.1 91 (σ.2.1 87 x + k))) (σ.2.1 19 (σ.2.1 86 x)) := sm_n (fun e e0 e1 => by
      have w := c e e0 e1
      have v := (h _ (show lo ≤ σ.2.1 91 (σ.2.1 87 x + e) by omega) w.2).1.1
      show 0 ≤ wt (σ.2.1 91 (σ.2.1 87 x + e))
      omega)
    omega
  · rw [if_neg z]; omega
theorem y_RM_1 {σ : S0} {wt : Int → Int} {lo hi x u : Int} (h : y_TW σ wt lo hi) (x0 : lo ≤ x) (x1 : x < hi) (u0 : 0 ≤ u) (r0 : 0 ≤ σ.2.1 86 x) (u1 : u < σ.2.1 19 (σ.2.1 86 x)) : y_RM σ wt x u = 2 * wt (σ.2.1 91 (σ.2.1 87 x + u)) + y_RM σ wt x (u + 1) ∧ lo ≤ σ.2.1 91 (σ.2.1 87 x + u) ∧ σ.2.1 91 (σ.2.1 87 x + u) < hi := by
  have c := ((h x x0 x1).2 r0).2.1 u u0 u1
  refine ⟨?_, by omega, c.2⟩
  unfold y_RM
  rw [if_pos r0, if_pos r0]
  have kf : sm (fun k => wt (σ.2.1 91 (σ.2.1 87 x + (u + k)))) (σ.2.1 19 (σ.2.1 86 x) - u) = wt (σ.2.1 91 (σ.2.1 87 x + u)) + sm (fun k => wt (σ.2.1 91 (σ.2.1 87 x + (u + 1 + k)))) (σ.2.1 19 (σ.2.1 86 x) - (u + 1)) := y_kf (fun k => wt (σ.2.1 91 (σ.2.1 87 x + k))) u0 u1
  omega
theorem y_RM_p {σ : S0} {wt : Int → Int} {lo hi x u : Int} (h : y_TW σ wt lo hi) (x0 : lo ≤ x) (x1 : x < hi) (u0 : 0 ≤ u) : 1 ≤ y_RM σ wt x u := by
  unfold y_RM
  by_cases z : 0 ≤ σ.2.1 86 x
  · rw [if_pos z]
    have c := ((h x x0 x1).2 z).2.1
    have s : 0 ≤ sm (fun k => wt (σ.2.1 91 (σ.2.1 87 x + (u + k)))) (σ.2.1 19 (σ.2.1 86 x) - u) := sm_n (fun e e0 e1 => by
      have w := c (u + e) (by omega) (by omega)
      have v := (h _ (show lo ≤ σ.2.1 91 (σ.2.1 87 x + (u + e)) by omega) w.2).1.1
      show 0 ≤ wt (σ.2.1 91 (σ.2.1 87 x + (u + e)))
      omega)
    omega
  · rw [if_neg z]; omega
/-- a walk's stack with counters -/
def y_SC (σ : S0) (wt : Int → Int) (lo hi n : Int) (f g : Int → Int) : Prop := ∀ s : Int, 0 ≤ s → s < n → (lo ≤ f s ∧ f s < hi) ∧ 0 ≤ g s ∧ (0 ≤ σ.2.1 86 (f s) → g s ≤ σ.2.1 19 (σ.2.1 86 (f s)))
theorem y_SC_n {σ : S0} {wt : Int → Int} {lo hi n : Int} {f g : Int → Int} (h : y_TW σ wt lo hi) (k : y_SC σ wt lo hi n f g) (n0 : 0 ≤ n) : n ≤ sm (fun s => y_RM σ wt (f s) (g s)) n := by
  have a := sm_ge (f := fun s => y_RM σ wt (f s) (g s)) n.toNat (fun e e0 e1 => by
    have w := k e e0 (by omega)
    exact y_RM_p h w.1.1 w.1.2 w.2.1)
  have b : ((n.toNat : Nat) : Int) ≤ sm (fun s => y_RM σ wt (f s) (g s)) n := a
  omega
theorem y_SC_a {σ : S0} {wt : Int → Int} {lo hi n x : Int} {f g : Int → Int} (h : y_SC σ wt lo hi n f g) (hT : ∀ r : Int, 0 ≤ σ.2.1 19 r) (x0 : lo ≤ x) (x1 : x < hi) : y_SC σ wt lo hi (n + 1) (st f n x) (st g n 0) := fun s a b => by
  by_cases z : s = n
  · rw [z, st_s, st_s]; exact ⟨⟨x0, x1⟩, Int.le_refl _, fun _ => hT _⟩
  · rw [st_n _ _ z, st_n _ _ z]; exact h s a (by omega)
theorem y_SC_u {σ : S0} {wt : Int → Int} {lo hi n u : Int} {f g : Int → Int} (h : y_SC σ wt lo hi n f g) (u0 : 0 ≤ u) (u1 : 0 ≤ σ.2.1 86 (f (n - 1)) → u ≤ σ.2.1 19 (σ.2.1 86 (f (n - 1)))) : y_SC σ wt lo hi n f (st g (n - 1) u) := fun s a b => by
  by_cases z : s = n - 1
  · have w := h s a b
    rw [z, st_s]; rw [z] at w; exact ⟨w.1, u0, u1⟩
  · rw [st_n _ _ z]; exact h s a b
theorem y_SC_p {σ : S0} {wt : Int → Int} {lo hi n m : Int} {f g : Int → Int} (h : y_SC σ wt lo hi n f g) (mn : m ≤ n) : y_SC σ wt lo hi m f g := fun s a b => h s a (by omega)
theorem y_sC_p (F : Int → Int → Int) (f g : Int → Int) {n : Int} (n0 : 0 < n) : sm (fun s => F (f s) (g s)) n = sm (fun s => F (f s) (g s)) (n - 1) + F (f (n - 1)) (g (n - 1)) := by
  have w := sm_s (fun s => F (f s) (g s)) (n := n - 1) (by omega)
  rw [show n - 1 + 1 = n by omega] at w
  exact w
theorem y_sC_u (F : Int → Int → Int) (f g : Int → Int) {n u : Int} (n0 : 0 < n) : sm (fun s => F (f s) (st g (n - 1) u s)) n = sm (fun s => F (f s) (g s)) (n - 1) + F (f (n - 1)) u := by
  rw [y_sC_p F f (st g (n - 1) u) n0, st_s, sm_x (fun s a b => by rw [st_n _ _ (show s ≠ n - 1 by omega)])]
theorem y_sC_a (F : Int → Int → Int) (f g : Int → Int) {n x : Int} (n0 : 0 ≤ n) : sm (fun s => F (st f n x s) (st g n 0 s)) (n + 1) = sm (fun s => F (f s) (g s)) n + F x 0 := by
  rw [sm_s _ n0, st_s, st_s, sm_x (fun s a b => by rw [st_n _ _ (show s ≠ n by omega), st_n _ _ (show s ≠ n by omega)])]
set_option maxHeartbeats 6000000 in
theorem K_X13_putTree {n1 : Int} {wt : Int → Int} {lo hi : Int} {σ : S0} (hT : m_T σ) (p1 : y_TW σ wt lo hi) (p2 : lo ≤ n1 ∧ n1 < hi) (p3 : 0 ≤ lo ∧ hi ≤ 60000) : W_X13_putTree n1 σ (fun (τ : S0) => (m_T τ)) := by
  have A19 : ∀ j, 0 ≤ σ.2.1 19 j ∧ σ.2.1 19 j ≤ 60 := fun j => hT.2 19 j
  have A65 : ∀ j, 0 ≤ σ.2.1 65 j ∧ σ.2.1 65 j ≤ 60000 := fun j => hT.2 65 j
  have A66 : ∀ j, 0 ≤ σ.2.1 66 j ∧ σ.2.1 66 j ≤ 60 := fun j => hT.2 66 j
  have A86 : ∀ j, (-1500) ≤ σ.2.1 86 j ∧ σ.2.1 86 j ≤ 1499 := fun j => hT.2 86 j
  have A87 : ∀ j, 0 ≤ σ.2.1 87 j ∧ σ.2.1 87 j ≤ 120000 := fun j => hT.2 87 j
  have A91 : ∀ j, 0 ≤ σ.2.1 91 j ∧ σ.2.1 91 j ≤ 60000 := fun j => hT.2 91 j
  have v5 : 0 ≤ σ.1 5 ∧ σ.1 5 ≤ 1500 := hT.1 5
  have v42 : 0 ≤ σ.1 42 ∧ σ.1 42 ≤ 40000 := hT.1 42
  have v52 : 0 ≤ σ.1 52 ∧ σ.1 52 ≤ 120000 := hT.1 52
  have W5 : σ.1 5 = σ.1 5 := rfl
  have W52 : σ.1 52 = σ.1 52 := rfl
  have G19 : σ.2.1 19 = σ.2.1 19 := rfl
  have G86 : σ.2.1 86 = σ.2.1 86 := rfl
  have G87 : σ.2.1 87 = σ.2.1 87 := rfl
  have G91 : σ.2.1 91 = σ.2.1 91 := rfl
  intro P10 P65 P90 h10 h65 h90
  have l52 : σ.1 52 ≤ 120000 := (hT.1 52).2
  have l5 : σ.1 5 ≤ 1500 := (hT.1 5).2
  have s19 : ∀ r : Int, 0 ≤ σ.2.1 19 r := fun r => (A19 r).1
  have wn1 := (p1 n1 p2.1 p2.2).1
  have rm0 := y_RM_0 p1 p2.1 p2.2
  have l_10 : ∀ (m_10 : Nat) (τ_10 : S0), sm (fun s => y_RM σ wt (τ_10.2.1 65 s) (τ_10.2.1 66 s)) (τ_10.1 42) < (m_10 : Int) → (m_T τ_10) → (τ_10.1 5 = σ.1 5) → (τ_10.1 52 = σ.1 52) → (τ_10.2.1 19 = σ.2.1 19) → (τ_10.2.1 86 = σ.2.1 86) → (τ_10.2.1 87 = σ.2.1 87) → (τ_10.2.1 91 = σ.2.1 91) → (0 ≤ τ_10.1 42) → (y_SC σ wt lo hi (τ_10.1 42) (τ_10.2.1 65) (τ_10.2.1 66)) → (sm (fun s => y_RM σ wt (τ_10.2.1 65 s) (τ_10.2.1 66 s)) (τ_10.1 42) ≤ 23400) → P10 τ_10 := by
    intro m_10
    induction m_10 with
    | zero =>
      intro τ_10 hm hT W5 W52 G19 G86 G87 G91 i10_1 i10_2 i10_3
      have A19 : ∀ j, 0 ≤ τ_10.2.1 19 j ∧ τ_10.2.1 19 j ≤ 60 := fun j => hT.2 19 j
      have A65 : ∀ j, 0 ≤ τ_10.2.1 65 j ∧ τ_10.2.1 65 j ≤ 60000 := fun j => hT.2 65 j
      have A66 : ∀ j, 0 ≤ τ_10.2.1 66 j ∧ τ_10.2.1 66 j ≤ 60 := fun j => hT.2 66 j
      have A86 : ∀ j, (-1500) ≤ τ_10.2.1 86 j ∧ τ_10.2.1 86 j ≤ 1499 := fun j => hT.2 86 j
      have A87 : ∀ j, 0 ≤ τ_10.2.1 87 j ∧ τ_10.2.1 87 j ≤ 120000 := fun j => hT.2 87 j
      have A91 : ∀ j, 0 ≤ τ_10.2.1 91 j ∧ τ_10.2.1 91 j ≤ 60000 := fun j => hT.2 91 j
      have v5 : 0 ≤ τ_10.1 5 ∧ τ_10.1 5 ≤ 1500 := hT.1 5
      have v42 : 0 ≤ τ_10.1 42 ∧ τ_10.1 42 ≤ 40000 := hT.1 42
      have v52 : 0 ≤ τ_10.1 52 ∧ τ_10.1 52 ≤ 120000 := hT.1 52
      exfalso; (have sn := y_SC_n p1 i10_2 i10_1; omega)
    | succ m_10 ih_10 =>
      intro τ_10 hm_10 hT W5 W52 G19 G86 G87 G91 i10_1 i10_2 i10_3
      have A19 : ∀ j, 0 ≤ τ_10.2.1 19 j ∧ τ_10.2.1 19 j ≤ 60 := fun j => hT.2 19 j
      have A65 : ∀ j, 0 ≤ τ_10.2.1 65 j ∧ τ_10.2.1 65 j ≤ 60000 := fun j => hT.2 65 j
      have A66 : ∀ j, 0 ≤ τ_10.2.1 66 j ∧ τ_10.2.1 66 j ≤ 60 := fun j => hT.2 66 j
      have A86 : ∀ j, (-1500) ≤ τ_10.2.1 86 j ∧ τ_10.2.1 86 j ≤ 1499 := fun j => hT.2 86 j
      have A87 : ∀ j, 0 ≤ τ_10.2.1 87 j ∧ τ_10.2.1 87 j ≤ 120000 := fun j => hT.2 87 j
      have A91 : ∀ j, 0 ≤ τ_10.2.1 91 j ∧ τ_10.2.1 91 j ≤ 60000 := fun j => hT.2 91 j
      have v5 : 0 ≤ τ_10.1 5 ∧ τ_10.1 5 ≤ 1500 := hT.1 5
      have v42 : 0 ≤ τ_10.1 42 ∧ τ_10.1 42 ≤ 40000 := hT.1 42
      have v52 : 0 ≤ τ_10.1 52 ∧ τ_10.1 52 ≤ 120000 := hT.1 52
      have sn := y_SC_n p1 i10_2 i10_1
      refine h10 τ_10 ?_
      refine ⟨fun c4 => ?_, fun c4 => ?_⟩
      ·
        exact hT
      ·
        refine ⟨(show 0 ≤ (τ_10.1 42 - 1) ∧ (τ_10.1 42 - 1) < 40002 from by (first | omega | (simp only [st_s] <;> omega) | assumption | omega | fail)), ?_⟩
        intro x6 r_x6 e_x6
        have b_x6 : 0 ≤ x6 ∧ x6 ≤ 60000 := by rw [e_x6]; exact hT.2 65 _
        have tp := i10_2 (τ_10.1 42 - 1) (by omega) (by omega)
        have sp := y_sC_p (y_RM σ wt) (τ_10.2.1 65) (τ_10.2.1 66) (n := τ_10.1 42) (by omega)
        rw [← e_x6] at tp sp
        intro x7 r_x7 e_x7
        have b_x7 : 0 ≤ x7 ∧ x7 ≤ 60 := by rw [e_x7]; exact hT.2 66 _
        rw [← e_x7] at tp sp
        refine ⟨(show 0 ≤ x6 ∧ x6 < 60000 from by (first | omega | (simp only [st_s] <;> omega) | assumption | omega | fail)), ?_⟩
        intro x9 r_x9 e_x9
        have b_x9 : (-1500) ≤ x9 ∧ x9 ≤ 1499 := by rw [e_x9]; exact hT.2 86 _
        rw [G86] at e_x9
        rw [← e_x9] at tp
        refine ⟨fun c10 => ?_, fun c10 => ?_⟩
        ·
          refine h65 _ _ ?_
          refine ⟨(⟨by (first | omega | (simp only [st_s] <;> omega) | assumption | omega | fail), by (first | omega | (simp only [st_s] <;> omega) | assumption | omega | fail)⟩ : rg (τ_10.1 42 - 1)), ?_⟩
          replace hT := mT_v (i := 42) hT (show 0 ≤ (τ_10.1 42 - 1) ∧ (τ_10.1 42 - 1) ≤ 40000 from by (first | omega | (simp only [st_s] <;> omega) | assumption | omega | fail))
          refine ⟨fun c23 => ?_, fun c23 => ?_⟩
          ·
            obtain ⟨τ_90, e_τ_90⟩ : ∃ z : S0, z = s_v τ_10 42 (τ_10.1 42 - 1) := ⟨_, rfl⟩
            rw [← e_τ_90]
            replace hT : m_T τ_90 := by rw [e_τ_90]; exact hT
            have w5_τ_90 : τ_90.1 5 = τ_10.1 5 := by rw [e_τ_90]; rfl
            have w42_τ_90 : τ_90.1 42 = (τ_10.1 42 - 1) := by rw [e_τ_90]; rfl
            have w52_τ_90 : τ_90.1 52 = τ_10.1 52 := by rw [e_τ_90]; rfl
            have g19_τ_90 : τ_90.2.1 19 = τ_10.2.1 19 := by rw [e_τ_90]; rfl
            have g65_τ_90 : τ_90.2.1 65 = τ_10.2.1 65 := by rw [e_τ_90]; rfl
            have g66_τ_90 : τ_90.2.1 66 = τ_10.2.1 66 := by rw [e_τ_90]; rfl
            have g86_τ_90 : τ_90.2.1 86 = τ_10.2.1 86 := by rw [e_τ_90]; rfl
            have g87_τ_90 : τ_90.2.1 87 = τ_10.2.1 87 := by rw [e_τ_90]; rfl
            have g91_τ_90 : τ_90.2.1 91 = τ_10.2.1 91 := by rw [e_τ_90]; rfl
            have W5 : τ_90.1 5 = σ.1 5 := by first | exact w5_τ_90.trans W5 | omega
            have W52 : τ_90.1 52 = σ.1 52 := by first | exact w52_τ_90.trans W52 | omega
            have G19 : τ_90.2.1 19 = σ.2.1 19 := (g19_τ_90).trans G19
            have G86 : τ_90.2.1 86 = σ.2.1 86 := (g86_τ_90).trans G86
            have G87 : τ_90.2.1 87 = σ.2.1 87 := (g87_τ_90).trans G87
            have G91 : τ_90.2.1 91 = σ.2.1 91 := (g91_τ_90).trans G91
            have A19 : ∀ j, 0 ≤ τ_90.2.1 19 j ∧ τ_90.2.1 19 j ≤ 60 := fun j => hT.2 19 j
            have A65 : ∀ j, 0 ≤ τ_90.2.1 65 j ∧ τ_90.2.1 65 j ≤ 60000 := fun j => hT.2 65 j
            have A66 : ∀ j, 0 ≤ τ_90.2.1 66 j ∧ τ_90.2.1 66 j ≤ 60 := fun j => hT.2 66 j
            have A86 : ∀ j, (-1500) ≤ τ_90.2.1 86 j ∧ τ_90.2.1 86 j ≤ 1499 := fun j => hT.2 86 j
            have A87 : ∀ j, 0 ≤ τ_90.2.1 87 j ∧ τ_90.2.1 87 j ≤ 120000 := fun j => hT.2 87 j
            have A91 : ∀ j, 0 ≤ τ_90.2.1 91 j ∧ τ_90.2.1 91 j ≤ 60000 := fun j => hT.2 91 j
            have v5 : 0 ≤ τ_90.1 5 ∧ τ_90.1 5 ≤ 1500 := hT.1 5
            have v42 : 0 ≤ τ_90.1 42 ∧ τ_90.1 42 ≤ 40000 := hT.1 42
            have v52 : 0 ≤ τ_90.1 52 ∧ τ_90.1 52 ≤ 120000 := hT.1 52
            refine h90 _ _ ?_
            refine ⟨_, K_X13_putLabel hT (show 0 ≤ x9 from by (first | omega | (simp only [st_s] <;> omega) | assumption | omega | fail)) (show x9 < 1500 from by (first | omega | (simp only [st_s] <;> omega) | assumption | omega | fail)), ?_⟩
            intro τ27 hn_τ27 hf_τ27 hq
            replace hT := hq
            have w5_τ27 : τ27.1 5 = τ_90.1 5 := hf_τ27.1 5 (by decide)
            have w42_τ27 : τ27.1 42 = τ_90.1 42 := hf_τ27.1 42 (by decide)
            have w52_τ27 : τ27.1 52 = τ_90.1 52 := hf_τ27.1 52 (by decide)
            have g19_τ27 : τ27.2.1 19 = τ_90.2.1 19 := hf_τ27.2.1 19 (by decide)
            have g65_τ27 : τ27.2.1 65 = τ_90.2.1 65 := hf_τ27.2.1 65 (by decide)
            have g66_τ27 : τ27.2.1 66 = τ_90.2.1 66 := hf_τ27.2.1 66 (by decide)
            have g86_τ27 : τ27.2.1 86 = τ_90.2.1 86 := hf_τ27.2.1 86 (by decide)
            have g87_τ27 : τ27.2.1 87 = τ_90.2.1 87 := hf_τ27.2.1 87 (by decide)
            have g91_τ27 : τ27.2.1 91 = τ_90.2.1 91 := hf_τ27.2.1 91 (by decide)
            have W5 : τ27.1 5 = σ.1 5 := by first | exact w5_τ27.trans W5 | omega
            have W52 : τ27.1 52 = σ.1 52 := by first | exact w52_τ27.trans W52 | omega
            have G19 : τ27.2.1 19 = σ.2.1 19 := (g19_τ27).trans G19
            have G86 : τ27.2.1 86 = σ.2.1 86 := (g86_τ27).trans G86
            have G87 : τ27.2.1 87 = σ.2.1 87 := (g87_τ27).trans G87
            have G91 : τ27.2.1 91 = σ.2.1 91 := (g91_τ27).trans G91
            have A19 : ∀ j, 0 ≤ τ27.2.1 19 j ∧ τ27.2.1 19 j ≤ 60 := fun j => hT.2 19 j
            have A65 : ∀ j, 0 ≤ τ27.2.1 65 j ∧ τ27.2.1 65 j ≤ 60000 := fun j => hT.2 65 j
            have A66 : ∀ j, 0 ≤ τ27.2.1 66 j ∧ τ27.2.1 66 j ≤ 60 := fun j => hT.2 66 j
            have A86 : ∀ j, (-1500) ≤ τ27.2.1 86 j ∧ τ27.2.1 86 j ≤ 1499 := fun j => hT.2 86 j
            have A87 : ∀ j, 0 ≤ τ27.2.1 87 j ∧ τ27.2.1 87 j ≤ 120000 := fun j => hT.2 87 j
            have A91 : ∀ j, 0 ≤ τ27.2.1 91 j ∧ τ27.2.1 91 j ≤ 60000 := fun j => hT.2 91 j
            have v5 : 0 ≤ τ27.1 5 ∧ τ27.1 5 ≤ 1500 := hT.1 5
            have v42 : 0 ≤ τ27.1 42 ∧ τ27.1 42 ≤ 40000 := hT.1 42
            have v52 : 0 ≤ τ27.1 52 ∧ τ27.1 52 ≤ 120000 := hT.1 52
            have c65 : τ27.2.1 65 = τ_10.2.1 65 := (hf_τ27.2.1 65 (by decide)).trans (by subst e_τ_90; rfl)
            have c66 : τ27.2.1 66 = τ_10.2.1 66 := (hf_τ27.2.1 66 (by decide)).trans (by subst e_τ_90; rfl)
            have c42 : τ27.1 42 = τ_10.1 42 - 1 := (hf_τ27.1 42 (by decide)).trans (by subst e_τ_90; rfl)
            have cS : sm (fun s => y_RM σ wt (τ27.2.1 65 s) (τ27.2.1 66 s)) (τ27.1 42) = sm (fun s => y_RM σ wt (τ_10.2.1 65 s) (τ_10.2.1 66 s)) (τ_10.1 42 - 1) := by rw [c65, c66, c42]
            have rp := y_RM_p p1 tp.1.1 tp.1.2 tp.2.1
            exact ih_10 _ (show (sm (fun s => y_RM σ wt (τ27.2.1 65 s) (τ27.2.1 66 s)) (τ27.1 42) : Int) < ((m_10 : Nat) : Int) from by ((first | omega | (simp only [st_s] <;> omega) | assumption | omega | fail))) hT (show τ27.1 5 = σ.1 5 from by first | exact W5 | omega) (show τ27.1 52 = σ.1 52 from by first | exact W52 | omega) G19 G86 G87 G91 (show 0 ≤ τ27.1 42 from by (first | omega | (simp only [st_s] <;> omega) | assumption | omega | fail)) (show y_SC σ wt lo hi (τ27.1 42) (τ27.2.1 65) (τ27.2.1 66) from by (first | (rw [q1_1, q1_2, q1_3]; exact y_SC_a (n := 0) (fun s a b => by omega) s19 p2.1 p2.2) | (rw [q19_1, q19_2, q19_3]; exact ca) | (rw [c65, c66, c42]; exact y_SC_p i10_2 (by omega)) | fail)) (show sm (fun s => y_RM σ wt (τ27.2.1 65 s) (τ27.2.1 66 s)) (τ27.1 42) ≤ 23400 from by (first | omega | (rw [q1_1, q1_2, q1_3]; show sm _ (0 + 1) ≤ _; rw [sw1]; omega) | fail))
          ·
            refine ⟨(⟨by (first | omega | (simp only [st_s] <;> omega) | assumption | omega | fail), by (first | omega | (simp only [st_s] <;> omega) | assumption | omega | fail)⟩ : rg ((-1) - x9)), ?_⟩
            obtain ⟨τ_90, e_τ_90⟩ : ∃ z : S0, z = s_v τ_10 42 (τ_10.1 42 - 1) := ⟨_, rfl⟩
            rw [← e_τ_90]
            replace hT : m_T τ_90 := by rw [e_τ_90]; exact hT
            have w5_τ_90 : τ_90.1 5 = τ_10.1 5 := by rw [e_τ_90]; rfl
            have w42_τ_90 : τ_90.1 42 = (τ_10.1 42 - 1) := by rw [e_τ_90]; rfl
            have w52_τ_90 : τ_90.1 52 = τ_10.1 52 := by rw [e_τ_90]; rfl
            have g19_τ_90 : τ_90.2.1 19 = τ_10.2.1 19 := by rw [e_τ_90]; rfl
            have g65_τ_90 : τ_90.2.1 65 = τ_10.2.1 65 := by rw [e_τ_90]; rfl
            have g66_τ_90 : τ_90.2.1 66 = τ_10.2.1 66 := by rw [e_τ_90]; rfl
            have g86_τ_90 : τ_90.2.1 86 = τ_10.2.1 86 := by rw [e_τ_90]; rfl
            have g87_τ_90 : τ_90.2.1 87 = τ_10.2.1 87 := by rw [e_τ_90]; rfl
            have g91_τ_90 : τ_90.2.1 91 = τ_10.2.1 91 := by rw [e_τ_90]; rfl
            have W5 : τ_90.1 5 = σ.1 5 := by first | exact w5_τ_90.trans W5 | omega
            have W52 : τ_90.1 52 = σ.1 52 := by first | exact w52_τ_90.trans W52 | omega
            have G19 : τ_90.2.1 19 = σ.2.1 19 := (g19_τ_90).trans G19
            have G86 : τ_90.2.1 86 = σ.2.1 86 := (g86_τ_90).trans G86
            have G87 : τ_90.2.1 87 = σ.2.1 87 := (g87_τ_90).trans G87
            have G91 : τ_90.2.1 91 = σ.2.1 91 := (g91_τ_90).trans G91
            have A19 : ∀ j, 0 ≤ τ_90.2.1 19 j ∧ τ_90.2.1 19 j ≤ 60 := fun j => hT.2 19 j
            have A65 : ∀ j, 0 ≤ τ_90.2.1 65 j ∧ τ_90.2.1 65 j ≤ 60000 := fun j => hT.2 65 j
            have A66 : ∀ j, 0 ≤ τ_90.2.1 66 j ∧ τ_90.2.1 66 j ≤ 60 := fun j => hT.2 66 j
            have A86 : ∀ j, (-1500) ≤ τ_90.2.1 86 j ∧ τ_90.2.1 86 j ≤ 1499 := fun j => hT.2 86 j
            have A87 : ∀ j, 0 ≤ τ_90.2.1 87 j ∧ τ_90.2.1 87 j ≤ 120000 := fun j => hT.2 87 j
            have A91 : ∀ j, 0 ≤ τ_90.2.1 91 j ∧ τ_90.2.1 91 j ≤ 60000 := fun j => hT.2 91 j
            have v5 : 0 ≤ τ_90.1 5 ∧ τ_90.1 5 ≤ 1500 := hT.1 5
            have v42 : 0 ≤ τ_90.1 42 ∧ τ_90.1 42 ≤ 40000 := hT.1 42
            have v52 : 0 ≤ τ_90.1 52 ∧ τ_90.1 52 ≤ 120000 := hT.1 52
            refine h90 _ _ ?_
            refine ⟨_, K_X13_putLabel hT (show 0 ≤ ((-1) - x9) from by (first | omega | (simp only [st_s] <;> omega) | assumption | omega | fail)) (show ((-1) - x9) < 1500 from by (first | omega | (simp only [st_s] <;> omega) | assumption | omega | fail)), ?_⟩
            intro τ27 hn_τ27 hf_τ27 hq
            replace hT := hq
            have w5_τ27 : τ27.1 5 = τ_90.1 5 := hf_τ27.1 5 (by decide)
            have w42_τ27 : τ27.1 42 = τ_90.1 42 := hf_τ27.1 42 (by decide)
            have w52_τ27 : τ27.1 52 = τ_90.1 52 := hf_τ27.1 52 (by decide)
            have g19_τ27 : τ27.2.1 19 = τ_90.2.1 19 := hf_τ27.2.1 19 (by decide)
            have g65_τ27 : τ27.2.1 65 = τ_90.2.1 65 := hf_τ27.2.1 65 (by decide)
            have g66_τ27 : τ27.2.1 66 = τ_90.2.1 66 := hf_τ27.2.1 66 (by decide)
            have g86_τ27 : τ27.2.1 86 = τ_90.2.1 86 := hf_τ27.2.1 86 (by decide)
            have g87_τ27 : τ27.2.1 87 = τ_90.2.1 87 := hf_τ27.2.1 87 (by decide)
            have g91_τ27 : τ27.2.1 91 = τ_90.2.1 91 := hf_τ27.2.1 91 (by decide)
            have W5 : τ27.1 5 = σ.1 5 := by first | exact w5_τ27.trans W5 | omega
            have W52 : τ27.1 52 = σ.1 52 := by first | exact w52_τ27.trans W52 | omega
            have G19 : τ27.2.1 19 = σ.2.1 19 := (g19_τ27).trans G19
            have G86 : τ27.2.1 86 = σ.2.1 86 := (g86_τ27).trans G86
            have G87 : τ27.2.1 87 = σ.2.1 87 := (g87_τ27).trans G87
            have G91 : τ27.2.1 91 = σ.2.1 91 := (g91_τ27).trans G91
            have A19 : ∀ j, 0 ≤ τ27.2.1 19 j ∧ τ27.2.1 19 j ≤ 60 := fun j => hT.2 19 j
            have A65 : ∀ j, 0 ≤ τ27.2.1 65 j ∧ τ27.2.1 65 j ≤ 60000 := fun j => hT.2 65 j
            have A66 : ∀ j, 0 ≤ τ27.2.1 66 j ∧ τ27.2.1 66 j ≤ 60 := fun j => hT.2 66 j
            have A86 : ∀ j, (-1500) ≤ τ27.2.1 86 j ∧ τ27.2.1 86 j ≤ 1499 := fun j => hT.2 86 j
            have A87 : ∀ j, 0 ≤ τ27.2.1 87 j ∧ τ27.2.1 87 j ≤ 120000 := fun j => hT.2 87 j
            have A91 : ∀ j, 0 ≤ τ27.2.1 91 j ∧ τ27.2.1 91 j ≤ 60000 := fun j => hT.2 91 j
            have v5 : 0 ≤ τ27.1 5 ∧ τ27.1 5 ≤ 1500 := hT.1 5
            have v42 : 0 ≤ τ27.1 42 ∧ τ27.1 42 ≤ 40000 := hT.1 42
            have v52 : 0 ≤ τ27.1 52 ∧ τ27.1 52 ≤ 120000 := hT.1 52
            have c65 : τ27.2.1 65 = τ_10.2.1 65 := (hf_τ27.2.1 65 (by decide)).trans (by subst e_τ_90; rfl)
            have c66 : τ27.2.1 66 = τ_10.2.1 66 := (hf_τ27.2.1 66 (by decide)).trans (by subst e_τ_90; rfl)
            have c42 : τ27.1 42 = τ_10.1 42 - 1 := (hf_τ27.1 42 (by decide)).trans (by subst e_τ_90; rfl)
            have cS : sm (fun s => y_RM σ wt (τ27.2.1 65 s) (τ27.2.1 66 s)) (τ27.1 42) = sm (fun s => y_RM σ wt (τ_10.2.1 65 s) (τ_10.2.1 66 s)) (τ_10.1 42 - 1) := by rw [c65, c66, c42]
            have rp := y_RM_p p1 tp.1.1 tp.1.2 tp.2.1
            exact ih_10 _ (show (sm (fun s => y_RM σ wt (τ27.2.1 65 s) (τ27.2.1 66 s)) (τ27.1 42) : Int) < ((m_10 : Nat) : Int) from by ((first | omega | (simp only [st_s] <;> omega) | assumption | omega | fail))) hT (show τ27.1 5 = σ.1 5 from by first | exact W5 | omega) (show τ27.1 52 = σ.1 52 from by first | exact W52 | omega) G19 G86 G87 G91 (show 0 ≤ τ27.1 42 from by (first | omega | (simp only [st_s] <;> omega) | assumption | omega | fail)) (show y_SC σ wt lo hi (τ27.1 42) (τ27.2.1 65) (τ27.2.1 66) from by (first | (rw [q1_1, q1_2, q1_3]; exact y_SC_a (n := 0) (fun s a b => by omega) s19 p2.1 p2.2) | (rw [q19_1, q19_2, q19_3]; exact ca) | (rw [c65, c66, c42]; exact y_SC_p i10_2 (by omega)) | fail)) (show sm (fun s => y_RM σ wt (τ27.2.1 65 s) (τ27.2.1 66 s)) (τ27.1 42) ≤ 23400 from by (first | omega | (rw [q1_1, q1_2, q1_3]; show sm _ (0 + 1) ≤ _; rw [sw1]; omega) | fail))
        ·
          refine ⟨(show 0 ≤ x9 ∧ x9 < 1501 from by (first | omega | (simp only [st_s] <;> omega) | assumption | omega | fail)), ?_⟩
          intro x12 r_x12 e_x12
          have b_x12 : 0 ≤ x12 ∧ x12 ≤ 60 := by rw [e_x12]; exact hT.2 19 _
          rw [G19] at e_x12
          have ot := (p1 x6 tp.1.1 tp.1.2).2 (by omega)
          rw [← e_x9, ← e_x12] at ot
          refine ⟨fun c13 => ?_, fun c13 => ?_⟩
          ·
            intro x14 r_x14 e_x14
            have b_x14 : 0 ≤ x14 ∧ x14 ≤ 60 := by rw [e_x14]; exact hT.2 66 _
            refine ⟨(⟨by (first | omega | (simp only [st_s] <;> omega) | assumption | omega | fail), by (first | omega | (simp only [st_s] <;> omega) | assumption | omega | fail)⟩ : rg (x14 + 1)), ?_⟩
            replace hT := mT_a (k := 66) (j := (τ_10.1 42 - 1)) hT (show (0 : Int) ≤ (x14 + 1) ∧ (x14 + 1) ≤ 60 from by (first | omega | (simp only [st_s] <;> omega) | assumption | omega | fail))
            intro x16 r_x16 e_x16
            have b_x16 : 0 ≤ x16 ∧ x16 ≤ 120000 := by rw [e_x16]; exact hT.2 87 _
            rw [G87] at e_x16
            refine ⟨(show 0 ≤ (x16 + x7) ∧ (x16 + x7) < 120000 from by (first | omega | (simp only [st_s] <;> omega) | assumption | omega | fail)), ?_⟩
            intro x18 r_x18 e_x18
            have b_x18 : 0 ≤ x18 ∧ x18 ≤ 60000 := by rw [e_x18]; exact hT.2 91 _
            rw [G91] at e_x18
            have rm := y_RM_1 p1 tp.1.1 tp.1.2 tp.2.1 (by omega) (by rw [← e_x9, ← e_x12]; have w := tp.2.2 (by omega); omega)
            rw [← e_x16, ← e_x18] at rm
            have rk := y_RM_0 p1 rm.2.1 rm.2.2
            refine ⟨_, K_X13_enter hT (show (τ_10.1 42) < 40000 from by (first | omega | (simp only [st_s] <;> omega) | assumption | omega | fail)) (show 0 ≤ x18 ∧ x18 ≤ 60000 from by (first | omega | (simp only [st_s] <;> omega) | assumption | omega | fail)), ?_⟩
            intro τ21 hn_τ21 hf_τ21 hq
            obtain ⟨hT, q19_1, q19_2, q19_3⟩ := hq
            replace q19_1 : (τ21.1 42) = (τ_10.1 42) + 1 := q19_1
            replace q19_2 : τ21.2.1 65 = st (τ_10.2.1 65) (τ_10.1 42) x18 := q19_2
            replace q19_3 : τ21.2.1 66 = st ((st (τ_10.2.1 66) (τ_10.1 42 - 1) (x14 + 1))) (τ_10.1 42) 0 := q19_3
            have w5_τ21 : τ21.1 5 = τ_10.1 5 := hf_τ21.1 5 (by decide)
            have w52_τ21 : τ21.1 52 = τ_10.1 52 := hf_τ21.1 52 (by decide)
            have g19_τ21 : τ21.2.1 19 = τ_10.2.1 19 := hf_τ21.2.1 19 (by decide)
            have g86_τ21 : τ21.2.1 86 = τ_10.2.1 86 := hf_τ21.2.1 86 (by decide)
            have g87_τ21 : τ21.2.1 87 = τ_10.2.1 87 := hf_τ21.2.1 87 (by decide)
            have g91_τ21 : τ21.2.1 91 = τ_10.2.1 91 := hf_τ21.2.1 91 (by decide)
            have W5 : τ21.1 5 = σ.1 5 := by first | exact w5_τ21.trans W5 | omega
            have W52 : τ21.1 52 = σ.1 52 := by first | exact w52_τ21.trans W52 | omega
            have G19 : τ21.2.1 19 = σ.2.1 19 := (g19_τ21).trans G19
            have G86 : τ21.2.1 86 = σ.2.1 86 := (g86_τ21).trans G86
            have G87 : τ21.2.1 87 = σ.2.1 87 := (g87_τ21).trans G87
            have G91 : τ21.2.1 91 = σ.2.1 91 := (g91_τ21).trans G91
            have A19 : ∀ j, 0 ≤ τ21.2.1 19 j ∧ τ21.2.1 19 j ≤ 60 := fun j => hT.2 19 j
            have A65 : ∀ j, 0 ≤ τ21.2.1 65 j ∧ τ21.2.1 65 j ≤ 60000 := fun j => hT.2 65 j
            have A66 : ∀ j, 0 ≤ τ21.2.1 66 j ∧ τ21.2.1 66 j ≤ 60 := fun j => hT.2 66 j
            have A86 : ∀ j, (-1500) ≤ τ21.2.1 86 j ∧ τ21.2.1 86 j ≤ 1499 := fun j => hT.2 86 j
            have A87 : ∀ j, 0 ≤ τ21.2.1 87 j ∧ τ21.2.1 87 j ≤ 120000 := fun j => hT.2 87 j
            have A91 : ∀ j, 0 ≤ τ21.2.1 91 j ∧ τ21.2.1 91 j ≤ 60000 := fun j => hT.2 91 j
            have v5 : 0 ≤ τ21.1 5 ∧ τ21.1 5 ≤ 1500 := hT.1 5
            have v42 : 0 ≤ τ21.1 42 ∧ τ21.1 42 ≤ 40000 := hT.1 42
            have v52 : 0 ≤ τ21.1 52 ∧ τ21.1 52 ≤ 120000 := hT.1 52
            have su := y_sC_u (y_RM σ wt) (τ_10.2.1 65) (τ_10.2.1 66) (n := τ_10.1 42) (u := x14 + 1) (by omega)
            have sa := y_sC_a (y_RM σ wt) (τ_10.2.1 65) (st (τ_10.2.1 66) (τ_10.1 42 - 1) (x14 + 1)) (n := τ_10.1 42) (x := x18) i10_1
            rw [su, ← e_x6] at sa
            have cu := y_SC_u i10_2 (u := x14 + 1) (by omega) (by rw [← e_x6, ← e_x9, ← e_x12]; intro _; have w := tp.2.2 (by omega); omega)
            have ca := y_SC_a (x := x18) cu s19 rm.2.1 rm.2.2
            have e14 : x14 = x7 := by rw [e_x14, e_x7]
            have dS : sm (fun s => y_RM σ wt (τ21.2.1 65 s) (τ21.2.1 66 s)) (τ21.1 42) = sm (fun s => y_RM σ wt (τ_10.2.1 65 s) (τ_10.2.1 66 s)) (τ_10.1 42 - 1) + y_RM σ wt x6 (x14 + 1) + y_RM σ wt x18 0 := by (rw [q19_1, q19_2, q19_3]; exact sa)
            rw [e14] at dS
            exact ih_10 _ (show (sm (fun s => y_RM σ wt (τ21.2.1 65 s) (τ21.2.1 66 s)) (τ21.1 42) : Int) < ((m_10 : Nat) : Int) from by ((first | omega | (simp only [st_s] <;> omega) | assumption | omega | fail))) hT (show τ21.1 5 = σ.1 5 from by first | exact W5 | omega) (show τ21.1 52 = σ.1 52 from by first | exact W52 | omega) G19 G86 G87 G91 (show 0 ≤ τ21.1 42 from by (first | omega | (simp only [st_s] <;> omega) | assumption | omega | fail)) (show y_SC σ wt lo hi (τ21.1 42) (τ21.2.1 65) (τ21.2.1 66) from by (first | (rw [q1_1, q1_2, q1_3]; exact y_SC_a (n := 0) (fun s a b => by omega) s19 p2.1 p2.2) | (rw [q19_1, q19_2, q19_3]; exact ca) | (rw [c65, c66, c42]; exact y_SC_p i10_2 (by omega)) | fail)) (show sm (fun s => y_RM σ wt (τ21.2.1 65 s) (τ21.2.1 66 s)) (τ21.1 42) ≤ 23400 from by (first | omega | (rw [q1_1, q1_2, q1_3]; show sm _ (0 + 1) ≤ _; rw [sw1]; omega) | fail))
          ·
            refine h65 _ _ ?_
            refine ⟨(⟨by (first | omega | (simp only [st_s] <;> omega) | assumption | omega | fail), by (first | omega | (simp only [st_s] <;> omega) | assumption | omega | fail)⟩ : rg (τ_10.1 42 - 1)), ?_⟩
            replace hT := mT_v (i := 42) hT (show 0 ≤ (τ_10.1 42 - 1) ∧ (τ_10.1 42 - 1) ≤ 40000 from by (first | omega | (simp only [st_s] <;> omega) | assumption | omega | fail))
            refine ⟨fun c23 => ?_, fun c23 => ?_⟩
            ·
              obtain ⟨τ_90, e_τ_90⟩ : ∃ z : S0, z = s_v τ_10 42 (τ_10.1 42 - 1) := ⟨_, rfl⟩
              rw [← e_τ_90]
              replace hT : m_T τ_90 := by rw [e_τ_90]; exact hT
              have w5_τ_90 : τ_90.1 5 = τ_10.1 5 := by rw [e_τ_90]; rfl
              have w42_τ_90 : τ_90.1 42 = (τ_10.1 42 - 1) := by rw [e_τ_90]; rfl
              have w52_τ_90 : τ_90.1 52 = τ_10.1 52 := by rw [e_τ_90]; rfl
              have g19_τ_90 : τ_90.2.1 19 = τ_10.2.1 19 := by rw [e_τ_90]; rfl
              have g65_τ_90 : τ_90.2.1 65 = τ_10.2.1 65 := by rw [e_τ_90]; rfl
              have g66_τ_90 : τ_90.2.1 66 = τ_10.2.1 66 := by rw [e_τ_90]; rfl
              have g86_τ_90 : τ_90.2.1 86 = τ_10.2.1 86 := by rw [e_τ_90]; rfl
              have g87_τ_90 : τ_90.2.1 87 = τ_10.2.1 87 := by rw [e_τ_90]; rfl
              have g91_τ_90 : τ_90.2.1 91 = τ_10.2.1 91 := by rw [e_τ_90]; rfl
              have W5 : τ_90.1 5 = σ.1 5 := by first | exact w5_τ_90.trans W5 | omega
              have W52 : τ_90.1 52 = σ.1 52 := by first | exact w52_τ_90.trans W52 | omega
              have G19 : τ_90.2.1 19 = σ.2.1 19 := (g19_τ_90).trans G19
              have G86 : τ_90.2.1 86 = σ.2.1 86 := (g86_τ_90).trans G86
              have G87 : τ_90.2.1 87 = σ.2.1 87 := (g87_τ_90).trans G87
              have G91 : τ_90.2.1 91 = σ.2.1 91 := (g91_τ_90).trans G91
              have A19 : ∀ j, 0 ≤ τ_90.2.1 19 j ∧ τ_90.2.1 19 j ≤ 60 := fun j => hT.2 19 j
              have A65 : ∀ j, 0 ≤ τ_90.2.1 65 j ∧ τ_90.2.1 65 j ≤ 60000 := fun j => hT.2 65 j
              have A66 : ∀ j, 0 ≤ τ_90.2.1 66 j ∧ τ_90.2.1 66 j ≤ 60 := fun j => hT.2 66 j
              have A86 : ∀ j, (-1500) ≤ τ_90.2.1 86 j ∧ τ_90.2.1 86 j ≤ 1499 := fun j => hT.2 86 j
              have A87 : ∀ j, 0 ≤ τ_90.2.1 87 j ∧ τ_90.2.1 87 j ≤ 120000 := fun j => hT.2 87 j
              have A91 : ∀ j, 0 ≤ τ_90.2.1 91 j ∧ τ_90.2.1 91 j ≤ 60000 := fun j => hT.2 91 j
              have v5 : 0 ≤ τ_90.1 5 ∧ τ_90.1 5 ≤ 1500 := hT.1 5
              have v42 : 0 ≤ τ_90.1 42 ∧ τ_90.1 42 ≤ 40000 := hT.1 42
              have v52 : 0 ≤ τ_90.1 52 ∧ τ_90.1 52 ≤ 120000 := hT.1 52
              refine h90 _ _ ?_
              refine ⟨_, K_X13_putLabel hT (show 0 ≤ x9 from by (first | omega | (simp only [st_s] <;> omega) | assumption | omega | fail)) (show x9 < 1500 from by (first | omega | (simp only [st_s] <;> omega) | assumption | omega | fail)), ?_⟩
              intro τ27 hn_τ27 hf_τ27 hq
              replace hT := hq
              have w5_τ27 : τ27.1 5 = τ_90.1 5 := hf_τ27.1 5 (by decide)
              have w42_τ27 : τ27.1 42 = τ_90.1 42 := hf_τ27.1 42 (by decide)
              have w52_τ27 : τ27.1 52 = τ_90.1 52 := hf_τ27.1 52 (by decide)
              have g19_τ27 : τ27.2.1 19 = τ_90.2.1 19 := hf_τ27.2.1 19 (by decide)
              have g65_τ27 : τ27.2.1 65 = τ_90.2.1 65 := hf_τ27.2.1 65 (by decide)
              have g66_τ27 : τ27.2.1 66 = τ_90.2.1 66 := hf_τ27.2.1 66 (by decide)
              have g86_τ27 : τ27.2.1 86 = τ_90.2.1 86 := hf_τ27.2.1 86 (by decide)
              have g87_τ27 : τ27.2.1 87 = τ_90.2.1 87 := hf_τ27.2.1 87 (by decide)
              have g91_τ27 : τ27.2.1 91 = τ_90.2.1 91 := hf_τ27.2.1 91 (by decide)
              have W5 : τ27.1 5 = σ.1 5 := by first | exact w5_τ27.trans W5 | omega
              have W52 : τ27.1 52 = σ.1 52 := by first | exact w52_τ27.trans W52 | omega
              have G19 : τ27.2.1 19 = σ.2.1 19 := (g19_τ27).trans G19
              have G86 : τ27.2.1 86 = σ.2.1 86 := (g86_τ27).trans G86
              have G87 : τ27.2.1 87 = σ.2.1 87 := (g87_τ27).trans G87
              have G91 : τ27.2.1 91 = σ.2.1 91 := (g91_τ27).trans G91
              have A19 : ∀ j, 0 ≤ τ27.2.1 19 j ∧ τ27.2.1 19 j ≤ 60 := fun j => hT.2 19 j
              have A65 : ∀ j, 0 ≤ τ27.2.1 65 j ∧ τ27.2.1 65 j ≤ 60000 := fun j => hT.2 65 j
              have A66 : ∀ j, 0 ≤ τ27.2.1 66 j ∧ τ27.2.1 66 j ≤ 60 := fun j => hT.2 66 j
              have A86 : ∀ j, (-1500) ≤ τ27.2.1 86 j ∧ τ27.2.1 86 j ≤ 1499 := fun j => hT.2 86 j
              have A87 : ∀ j, 0 ≤ τ27.2.1 87 j ∧ τ27.2.1 87 j ≤ 120000 := fun j => hT.2 87 j
              have A91 : ∀ j, 0 ≤ τ27.2.1 91 j ∧ τ27.2.1 91 j ≤ 60000 := fun j => hT.2 91 j
              have v5 : 0 ≤ τ27.1 5 ∧ τ27.1 5 ≤ 1500 := hT.1 5
              have v42 : 0 ≤ τ27.1 42 ∧ τ27.1 42 ≤ 40000 := hT.1 42
              have v52 : 0 ≤ τ27.1 52 ∧ τ27.1 52 ≤ 120000 := hT.1 52
              have c65 : τ27.2.1 65 = τ_10.2.1 65 := (hf_τ27.2.1 65 (by decide)).trans (by subst e_τ_90; rfl)
              have c66 : τ27.2.1 66 = τ_10.2.1 66 := (hf_τ27.2.1 66 (by decide)).trans (by subst e_τ_90; rfl)
              have c42 : τ27.1 42 = τ_10.1 42 - 1 := (hf_τ27.1 42 (by decide)).trans (by subst e_τ_90; rfl)
              have cS : sm (fun s => y_RM σ wt (τ27.2.1 65 s) (τ27.2.1 66 s)) (τ27.1 42) = sm (fun s => y_RM σ wt (τ_10.2.1 65 s) (τ_10.2.1 66 s)) (τ_10.1 42 - 1) := by rw [c65, c66, c42]
              have rp := y_RM_p p1 tp.1.1 tp.1.2 tp.2.1
              exact ih_10 _ (show (sm (fun s => y_RM σ wt (τ27.2.1 65 s) (τ27.2.1 66 s)) (τ27.1 42) : Int) < ((m_10 : Nat) : Int) from by ((first | omega | (simp only [st_s] <;> omega) | assumption | omega | fail))) hT (show τ27.1 5 = σ.1 5 from by first | exact W5 | omega) (show τ27.1 52 = σ.1 52 from by first | exact W52 | omega) G19 G86 G87 G91 (show 0 ≤ τ27.1 42 from by (first | omega | (simp only [st_s] <;> omega) | assumption | omega | fail)) (show y_SC σ wt lo hi (τ27.1 42) (τ27.2.1 65) (τ27.2.1 66) from by (first | (rw [q1_1, q1_2, q1_3]; exact y_SC_a (n := 0) (fun s a b => by omega) s19 p2.1 p2.2) | (rw [q19_1, q19_2, q19_3]; exact ca) | (rw [c65, c66, c42]; exact y_SC_p i10_2 (by omega)) | fail)) (show sm (fun s => y_RM σ wt (τ27.2.1 65 s) (τ27.2.1 66 s)) (τ27.1 42) ≤ 23400 from by (first | omega | (rw [q1_1, q1_2, q1_3]; show sm _ (0 + 1) ≤ _; rw [sw1]; omega) | fail))
            ·
              refine ⟨(⟨by (first | omega | (simp only [st_s] <;> omega) | assumption | omega | fail), by (first | omega | (simp only [st_s] <;> omega) | assumption | omega | fail)⟩ : rg ((-1) - x9)), ?_⟩
              obtain ⟨τ_90, e_τ_90⟩ : ∃ z : S0, z = s_v τ_10 42 (τ_10.1 42 - 1) := ⟨_, rfl⟩
              rw [← e_τ_90]
              replace hT : m_T τ_90 := by rw [e_τ_90]; exact hT
              have w5_τ_90 : τ_90.1 5 = τ_10.1 5 := by rw [e_τ_90]; rfl
              have w42_τ_90 : τ_90.1 42 = (τ_10.1 42 - 1) := by rw [e_τ_90]; rfl
              have w52_τ_90 : τ_90.1 52 = τ_10.1 52 := by rw [e_τ_90]; rfl
              have g19_τ_90 : τ_90.2.1 19 = τ_10.2.1 19 := by rw [e_τ_90]; rfl
              have g65_τ_90 : τ_90.2.1 65 = τ_10.2.1 65 := by rw [e_τ_90]; rfl
              have g66_τ_90 : τ_90.2.1 66 = τ_10.2.1 66 := by rw [e_τ_90]; rfl
              have g86_τ_90 : τ_90.2.1 86 = τ_10.2.1 86 := by rw [e_τ_90]; rfl
              have g87_τ_90 : τ_90.2.1 87 = τ_10.2.1 87 := by rw [e_τ_90]; rfl
              have g91_τ_90 : τ_90.2.1 91 = τ_10.2.1 91 := by rw [e_τ_90]; rfl
              have W5 : τ_90.1 5 = σ.1 5 := by first | exact w5_τ_90.trans W5 | omega
              have W52 : τ_90.1 52 = σ.1 52 := by first | exact w52_τ_90.trans W52 | omega
              have G19 : τ_90.2.1 19 = σ.2.1 19 := (g19_τ_90).trans G19
              have G86 : τ_90.2.1 86 = σ.2.1 86 := (g86_τ_90).trans G86
              have G87 : τ_90.2.1 87 = σ.2.1 87 := (g87_τ_90).trans G87
              have G91 : τ_90.2.1 91 = σ.2.1 91 := (g91_τ_90).trans G91
              have A19 : ∀ j, 0 ≤ τ_90.2.1 19 j ∧ τ_90.2.1 19 j ≤ 60 := fun j => hT.2 19 j
              have A65 : ∀ j, 0 ≤ τ_90.2.1 65 j ∧ τ_90.2.1 65 j ≤ 60000 := fun j => hT.2 65 j
              have A66 : ∀ j, 0 ≤ τ_90.2.1 66 j ∧ τ_90.2.1 66 j ≤ 60 := fun j => hT.2 66 j
              have A86 : ∀ j, (-1500) ≤ τ_90.2.1 86 j ∧ τ_90.2.1 86 j ≤ 1499 := fun j => hT.2 86 j
              have A87 : ∀ j, 0 ≤ τ_90.2.1 87 j ∧ τ_90.2.1 87 j ≤ 120000 := fun j => hT.2 87 j
              have A91 : ∀ j, 0 ≤ τ_90.2.1 91 j ∧ τ_90.2.1 91 j ≤ 60000 := fun j => hT.2 91 j
              have v5 : 0 ≤ τ_90.1 5 ∧ τ_90.1 5 ≤ 1500 := hT.1 5
              have v42 : 0 ≤ τ_90.1 42 ∧ τ_90.1 42 ≤ 40000 := hT.1 42
              have v52 : 0 ≤ τ_90.1 52 ∧ τ_90.1 52 ≤ 120000 := hT.1 52
              refine h90 _ _ ?_
              refine ⟨_, K_X13_putLabel hT (show 0 ≤ ((-1) - x9) from by (first | omega | (simp only [st_s] <;> omega) | assumption | omega | fail)) (show ((-1) - x9) < 1500 from by (first | omega | (simp only [st_s] <;> omega) | assumption | omega | fail)), ?_⟩
              intro τ27 hn_τ27 hf_τ27 hq
              replace hT := hq
              have w5_τ27 : τ27.1 5 = τ_90.1 5 := hf_τ27.1 5 (by decide)
              have w42_τ27 : τ27.1 42 = τ_90.1 42 := hf_τ27.1 42 (by decide)
              have w52_τ27 : τ27.1 52 = τ_90.1 52 := hf_τ27.1 52 (by decide)
              have g19_τ27 : τ27.2.1 19 = τ_90.2.1 19 := hf_τ27.2.1 19 (by decide)
              have g65_τ27 : τ27.2.1 65 = τ_90.2.1 65 := hf_τ27.2.1 65 (by decide)
              have g66_τ27 : τ27.2.1 66 = τ_90.2.1 66 := hf_τ27.2.1 66 (by decide)
              have g86_τ27 : τ27.2.1 86 = τ_90.2.1 86 := hf_τ27.2.1 86 (by decide)
              have g87_τ27 : τ27.2.1 87 = τ_90.2.1 87 := hf_τ27.2.1 87 (by decide)
              have g91_τ27 : τ27.2.1 91 = τ_90.2.1 91 := hf_τ27.2.1 91 (by decide)
              have W5 : τ27.1 5 = σ.1 5 := by first | exact w5_τ27.trans W5 | omega
              have W52 : τ27.1 52 = σ.1 52 := by first | exact w52_τ27.trans W52 | omega
              have G19 : τ27.2.1 19 = σ.2.1 19 := (g19_τ27).trans G19
              have G86 : τ27.2.1 86 = σ.2.1 86 := (g86_τ27).trans G86
              have G87 : τ27.2.1 87 = σ.2.1 87 := (g87_τ27).trans G87
              have G91 : τ27.2.1 91 = σ.2.1 91 := (g91_τ27).trans G91
              have A19 : ∀ j, 0 ≤ τ27.2.1 19 j ∧ τ27.2.1 19 j ≤ 60 := fun j => hT.2 19 j
              have A65 : ∀ j, 0 ≤ τ27.2.1 65 j ∧ τ27.2.1 65 j ≤ 60000 := fun j => hT.2 65 j
              have A66 : ∀ j, 0 ≤ τ27.2.1 66 j ∧ τ27.2.1 66 j ≤ 60 := fun j => hT.2 66 j
              have A86 : ∀ j, (-1500) ≤ τ27.2.1 86 j ∧ τ27.2.1 86 j ≤ 1499 := fun j => hT.2 86 j
              have A87 : ∀ j, 0 ≤ τ27.2.1 87 j ∧ τ27.2.1 87 j ≤ 120000 := fun j => hT.2 87 j
              have A91 : ∀ j, 0 ≤ τ27.2.1 91 j ∧ τ27.2.1 91 j ≤ 60000 := fun j => hT.2 91 j
              have v5 : 0 ≤ τ27.1 5 ∧ τ27.1 5 ≤ 1500 := hT.1 5
              have v42 : 0 ≤ τ27.1 42 ∧ τ27.1 42 ≤ 40000 := hT.1 42
              have v52 : 0 ≤ τ27.1 52 ∧ τ27.1 52 ≤ 120000 := hT.1 52
              have c65 : τ27.2.1 65 = τ_10.2.1 65 := (hf_τ27.2.1 65 (by decide)).trans (by subst e_τ_90; rfl)
              have c66 : τ27.2.1 66 = τ_10.2.1 66 := (hf_τ27.2.1 66 (by decide)).trans (by subst e_τ_90; rfl)
              have c42 : τ27.1 42 = τ_10.1 42 - 1 := (hf_τ27.1 42 (by decide)).trans (by subst e_τ_90; rfl)
              have cS : sm (fun s => y_RM σ wt (τ27.2.1 65 s) (τ27.2.1 66 s)) (τ27.1 42) = sm (fun s => y_RM σ wt (τ_10.2.1 65 s) (τ_10.2.1 66 s)) (τ_10.1 42 - 1) := by rw [c65, c66, c42]
              have rp := y_RM_p p1 tp.1.1 tp.1.2 tp.2.1
              exact ih_10 _ (show (sm (fun s => y_RM σ wt (τ27.2.1 65 s) (τ27.2.1 66 s)) (τ27.1 42) : Int) < ((m_10 : Nat) : Int) from by ((first | omega | (simp only [st_s] <;> omega) | assumption | omega | fail))) hT (show τ27.1 5 = σ.1 5 from by first | exact W5 | omega) (show τ27.1 52 = σ.1 52 from by first | exact W52 | omega) G19 G86 G87 G91 (show 0 ≤ τ27.1 42 from by (first | omega | (simp only [st_s] <;> omega) | assumption | omega | fail)) (show y_SC σ wt lo hi (τ27.1 42) (τ27.2.1 65) (τ27.2.1 66) from by (first | (rw [q1_1, q1_2, q1_3]; exact y_SC_a (n := 0) (fun s a b => by omega) s19 p2.1 p2.2) | (rw [q19_1, q19_2, q19_3]; exact ca) | (rw [c65, c66, c42]; exact y_SC_p i10_2 (by omega)) | fail)) (show sm (fun s => y_RM σ wt (τ27.2.1 65 s) (τ27.2.1 66 s)) (τ27.1 42) ≤ 23400 from by (first | omega | (rw [q1_1, q1_2, q1_3]; show sm _ (0 + 1) ≤ _; rw [sw1]; omega) | fail))
  replace hT := mT_v (i := 42) hT (show (0 : Int) ≤ 0 ∧ 0 ≤ 40000 from by (first | omega | (simp only [st_s] <;> omega) | assumption | omega | fail))
  refine ⟨_, K_X13_enter hT (show ((0 : Int)) < 40000 from by (first | omega | (simp only [st_s] <;> omega) | assumption | omega | fail)) (show 0 ≤ n1 ∧ n1 ≤ 60000 from by (first | omega | (simp only [st_s] <;> omega) | assumption | omega | fail)), ?_⟩
  intro τ3 hn_τ3 hf_τ3 hq
  obtain ⟨hT, q1_1, q1_2, q1_3⟩ := hq
  replace q1_1 : (τ3.1 42) = ((0 : Int)) + 1 := q1_1
  replace q1_2 : τ3.2.1 65 = st (σ.2.1 65) ((0 : Int)) n1 := q1_2
  replace q1_3 : τ3.2.1 66 = st (σ.2.1 66) ((0 : Int)) 0 := q1_3
  have w5_τ3 : τ3.1 5 = σ.1 5 := hf_τ3.1 5 (by decide)
  have w52_τ3 : τ3.1 52 = σ.1 52 := hf_τ3.1 52 (by decide)
  have g19_τ3 : τ3.2.1 19 = σ.2.1 19 := hf_τ3.2.1 19 (by decide)
  have g86_τ3 : τ3.2.1 86 = σ.2.1 86 := hf_τ3.2.1 86 (by decide)
  have g87_τ3 : τ3.2.1 87 = σ.2.1 87 := hf_τ3.2.1 87 (by decide)
  have g91_τ3 : τ3.2.1 91 = σ.2.1 91 := hf_τ3.2.1 91 (by decide)
  have W5 : τ3.1 5 = σ.1 5 := by first | exact w5_τ3.trans W5 | omega
  have W52 : τ3.1 52 = σ.1 52 := by first | exact w52_τ3.trans W52 | omega
  have G19 : τ3.2.1 19 = σ.2.1 19 := (g19_τ3).trans G19
  have G86 : τ3.2.1 86 = σ.2.1 86 := (g86_τ3).trans G86
  have G87 : τ3.2.1 87 = σ.2.1 87 := (g87_τ3).trans G87
  have G91 : τ3.2.1 91 = σ.2.1 91 := (g91_τ3).trans G91
  have A19 : ∀ j, 0 ≤ τ3.2.1 19 j ∧ τ3.2.1 19 j ≤ 60 := fun j => hT.2 19 j
  have A65 : ∀ j, 0 ≤ τ3.2.1 65 j ∧ τ3.2.1 65 j ≤ 60000 := fun j => hT.2 65 j
  have A66 : ∀ j, 0 ≤ τ3.2.1 66 j ∧ τ3.2.1 66 j ≤ 60 := fun j => hT.2 66 j
  have A86 : ∀ j, (-1500) ≤ τ3.2.1 86 j ∧ τ3.2.1 86 j ≤ 1499 := fun j => hT.2 86 j
  have A87 : ∀ j, 0 ≤ τ3.2.1 87 j ∧ τ3.2.1 87 j ≤ 120000 := fun j => hT.2 87 j
  have A91 : ∀ j, 0 ≤ τ3.2.1 91 j ∧ τ3.2.1 91 j ≤ 60000 := fun j => hT.2 91 j
  have v5 : 0 ≤ τ3.1 5 ∧ τ3.1 5 ≤ 1500 := hT.1 5
  have v42 : 0 ≤ τ3.1 42 ∧ τ3.1 42 ≤ 40000 := hT.1 42
  have v52 : 0 ≤ τ3.1 52 ∧ τ3.1 52 ≤ 120000 := hT.1 52
  have sw1 := y_sC_a (y_RM σ wt) (σ.2.1 65) (σ.2.1 66) (n := 0) (x := n1) (Int.le_refl _)
  rw [sm_0] at sw1
  exact l_10 ((sm (fun s => y_RM σ wt (τ3.2.1 65 s) (τ3.2.1 66 s)) (τ3.1 42) : Int).toNat + 1) _ (show (sm (fun s => y_RM σ wt (τ3.2.1 65 s) (τ3.2.1 66 s)) (τ3.1 42) : Int) < (((sm (fun s => y_RM σ wt (τ3.2.1 65 s) (τ3.2.1 66 s)) (τ3.1 42) : Int).toNat + 1 : Nat) : Int) from by ((first | omega | (simp only [st_s] <;> omega) | assumption | omega | fail))) hT (show τ3.1 5 = σ.1 5 from by first | exact W5 | omega) (show τ3.1 52 = σ.1 52 from by first | exact W52 | omega) G19 G86 G87 G91 (show 0 ≤ τ3.1 42 from by (first | omega | (simp only [st_s] <;> omega) | assumption | omega | fail)) (show y_SC σ wt lo hi (τ3.1 42) (τ3.2.1 65) (τ3.2.1 66) from by (first | (rw [q1_1, q1_2, q1_3]; exact y_SC_a (n := 0) (fun s a b => by omega) s19 p2.1 p2.2) | (rw [q19_1, q19_2, q19_3]; exact ca) | (rw [c65, c66, c42]; exact y_SC_p i10_2 (by omega)) | fail)) (show sm (fun s => y_RM σ wt (τ3.2.1 65 s) (τ3.2.1 66 s)) (τ3.1 42) ≤ 23400 from by (first | omega | (rw [q1_1, q1_2, q1_3]; show sm _ (0 + 1) ≤ _; rw [sw1]; omega) | fail))
