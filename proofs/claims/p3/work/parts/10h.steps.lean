-- pure: steps of a proof, read and gone through
theorem J_pl_y {low sy sy' rows n : Int} {us sz pr : Int → Int} (h : J_pl low sy rows n us sz pr) (y : sy ≤ sy') : J_pl low sy' rows n us sz pr := ⟨h.1, h.2.1, by have := h.2.2; omega⟩
theorem sv_m (f : Int → Int) {n m : Int} (h0 : 0 ≤ n) (h : n ≤ m) : sv f n ≤ sv f m := by
  obtain ⟨d, rfl⟩ : ∃ d : Nat, m = n + (d : Int) := ⟨(m - n).toNat, by omega⟩
  induction d with
  | zero => rw [show n + ((0 : Nat) : Int) = n from by omega]; exact Int.le_refl _
  | succ d ih =>
    have := sv_u f (n := n + (d : Int)) (by omega)
    have h1 := ih (by omega)
    rw [show n + ((d + 1 : Nat) : Int) = n + (d : Int) + 1 from by omega]
    omega
theorem J_all_c {n us hu pr ru e x : Int} {kd a tx fl rk fa fs hy pa ps pq ra rc rs ca ch : Int → Int} (h : J_all n us hu pr ru kd a tx fl rk fa fs hy pa ps pq ra rc rs ca ch) (r0 : ∀ i, 0 ≤ ra i) (he : ca ru ≤ e) : J_all n us hu pr ru kd a tx fl rk fa fs hy pa ps pq ra rc rs ca (st ch e x) := by
  refine ⟨fun i i0 i1 => ?_, h.2⟩
  obtain ⟨h1, h2, h3⟩ := h.1 i i0 i1
  refine ⟨h1, h2, fun k => ?_⟩
  obtain ⟨a1, a2⟩ := h3 k
  refine ⟨a1, fun r b c => ?_⟩
  obtain ⟨b1, b2, b3⟩ := a2 r b c
  refine ⟨b1, b2, fun d d0 d1 => ?_⟩
  have := r0 i
  have := h.2 (r + 1) ru (by omega) (by omega) (Int.le_refl _)
  rw [st_n _ _ (show d ≠ e from by omega)]; exact b3 d d0 d1
theorem J_f_le {n hu pr : Int} {kd a tx fl fa fs hy pa ps pq : Int → Int} (h : J_f n hu pr kd a tx fl fa fs hy pa ps pq) : fa n + fs n ≤ hu ∧ pa n + ps n ≤ pr := h.1
set_option maxHeartbeats 1000000 in
theorem K2_X10_addStep {n1 : Int} {σ : S0} (hT : c_T σ) (p1 : -300 ≤ n1) (p2 : n1 ≤ 67035) (p3 : (σ.1 21) < 20000) : W_X10_addStep n1 σ (fun (τ : S0) => (c_T τ) ∧ ((τ.1 21) = (σ.1 21) + 1) ∧ (τ.2.1 49 = st (σ.2.1 49) (σ.1 21) n1)) := by
  have v21 : 0 ≤ σ.1 21 ∧ σ.1 21 ≤ 20000 := hT.1 21
  have v29 : 0 ≤ σ.1 29 ∧ σ.1 29 ≤ 60000 := hT.1 29
  have W29 : σ.1 29 = σ.1 29 := rfl
  unfold W_X10_addStep
  refine ⟨(show 0 ≤ σ.1 21 ∧ σ.1 21 < 20000 from by (first | omega | (simp only [st_s] <;> omega) | assumption | omega | fail)), ?_⟩
  replace hT := cT_a (k := 49) (j := (σ.1 21)) hT (show (-300 : Int) ≤ n1 ∧ n1 ≤ 67035 from by (first | omega | (simp only [st_s] <;> omega) | assumption | omega | fail))
  replace hT := cT_a (k := 50) (j := (σ.1 21)) hT (show (0 : Int) ≤ (σ.1 29) ∧ (σ.1 29) ≤ 60000 from by (first | omega | (simp only [st_s] <;> omega) | assumption | omega | fail))
  refine ⟨(⟨by (first | omega | (simp only [st_s] <;> omega) | assumption | omega | fail), by (first | omega | (simp only [st_s] <;> omega) | assumption | omega | fail)⟩ : rg (σ.1 21 + 1)), ?_⟩
  replace hT := cT_v (i := 21) hT (show 0 ≤ (σ.1 21 + 1) ∧ (σ.1 21 + 1) ≤ 20000 from by (first | omega | (simp only [st_s] <;> omega) | assumption | omega | fail))
  exact ⟨hT, (show ((σ.1 21 + 1)) = (σ.1 21) + 1 from by (first | omega | (simp only [st_s] <;> omega) | assumption | omega | fail)), (show (st (σ.2.1 49) (σ.1 21) n1) = st (σ.2.1 49) (σ.1 21) n1 from by rfl)⟩
set_option maxHeartbeats 1000000 in
theorem K_X10_endNumber {n1 : Int} {σ : S0} (hT : c_T σ) (p1 : 1 ≤ n1) (p2 : n1 ≤ 200000000) (p3 : J_sp (σ.1 24) (σ.1 21) (σ.1 23) (σ.1 22) (σ.2.1 49) (σ.2.1 51)) (p4 : (σ.1 16) + (σ.1 21) ≤ 20000) (p5 : J_f (σ.1 24) (σ.1 13) (σ.1 14) (σ.2.1 13) (σ.2.1 14) (σ.2.1 15) (σ.2.1 16) (σ.2.1 27) (σ.2.1 28) (σ.2.1 29) (σ.2.1 30) (σ.2.1 31) (σ.2.1 32)) (p6 : (σ.1 27) = 0) : W_X10_endNumber n1 σ (fun (x : Int) (τ : S0) => (c_T τ) ∧ (0 ≤ x ∧ x ≤ 19) ∧ (x = 0 → J_sp (τ.1 24) (τ.1 21) (τ.1 23) (τ.1 22) (τ.2.1 49) (τ.2.1 51)) ∧ (x = 0 → (τ.1 16) + (τ.1 21) ≤ 20000) ∧ (¬ (τ.1 27) = 0 → 1 ≤ (τ.1 21) ∧ 0 ≤ τ.2.1 49 ((τ.1 21) - 1) ∧ τ.2.1 49 ((τ.1 21) - 1) < 65536) ∧ ((τ.1 26) = 0)) := by
  have A13 : ∀ j, 0 ≤ σ.2.1 13 j ∧ σ.2.1 13 j ≤ 4 := fun j => hT.2 13 j
  have A14 : ∀ j, 0 ≤ σ.2.1 14 j ∧ σ.2.1 14 j ≤ 30000 := fun j => hT.2 14 j
  have A15 : ∀ j, 0 ≤ σ.2.1 15 j ∧ σ.2.1 15 j ≤ 999 := fun j => hT.2 15 j
  have A16 : ∀ j, (-1) ≤ σ.2.1 16 j ∧ σ.2.1 16 j ≤ 1499 := fun j => hT.2 16 j
  have A27 : ∀ j, 0 ≤ σ.2.1 27 j ∧ σ.2.1 27 j ≤ 90000 := fun j => hT.2 27 j
  have A28 : ∀ j, 0 ≤ σ.2.1 28 j ∧ σ.2.1 28 j ≤ 60 := fun j => hT.2 28 j
  have A29 : ∀ j, 0 ≤ σ.2.1 29 j ∧ σ.2.1 29 j ≤ 1499 := fun j => hT.2 29 j
  have A30 : ∀ j, 0 ≤ σ.2.1 30 j ∧ σ.2.1 30 j ≤ 20000 := fun j => hT.2 30 j
  have A31 : ∀ j, 0 ≤ σ.2.1 31 j ∧ σ.2.1 31 j ≤ 20000 := fun j => hT.2 31 j
  have A32 : ∀ j, 0 ≤ σ.2.1 32 j ∧ σ.2.1 32 j ≤ 999999 := fun j => hT.2 32 j
  have A49 : ∀ j, (-300) ≤ σ.2.1 49 j ∧ σ.2.1 49 j ≤ 67035 := fun j => hT.2 49 j
  have A51 : ∀ j, 0 ≤ σ.2.1 51 j ∧ σ.2.1 51 j ≤ 1499 := fun j => hT.2 51 j
  have v13 : 0 ≤ σ.1 13 ∧ σ.1 13 ≤ 90000 := hT.1 13
  have v14 : 0 ≤ σ.1 14 ∧ σ.1 14 ≤ 20000 := hT.1 14
  have v16 : 0 ≤ σ.1 16 ∧ σ.1 16 ≤ 20000 := hT.1 16
  have v21 : 0 ≤ σ.1 21 ∧ σ.1 21 ≤ 20000 := hT.1 21
  have v22 : 0 ≤ σ.1 22 ∧ σ.1 22 ≤ 300 := hT.1 22
  have v23 : 0 ≤ σ.1 23 ∧ σ.1 23 ≤ 300 := hT.1 23
  have v24 : 0 ≤ σ.1 24 ∧ σ.1 24 ≤ 1499 := hT.1 24
  have v26 : 0 ≤ σ.1 26 ∧ σ.1 26 ≤ 5000010 := hT.1 26
  have v27 : 0 ≤ σ.1 27 ∧ σ.1 27 ≤ 1 := hT.1 27
  have a27_24 : 0 ≤ σ.2.1 27 (σ.1 24) ∧ σ.2.1 27 (σ.1 24) ≤ 90000 := hT.2 27 _
  have a28_24 : 0 ≤ σ.2.1 28 (σ.1 24) ∧ σ.2.1 28 (σ.1 24) ≤ 60 := hT.2 28 _
  have W13 : σ.1 13 = σ.1 13 := rfl
  have W14 : σ.1 14 = σ.1 14 := rfl
  have W16 : σ.1 16 = σ.1 16 := rfl
  have W22 : σ.1 22 = σ.1 22 := rfl
  have W23 : σ.1 23 = σ.1 23 := rfl
  have W24 : σ.1 24 = σ.1 24 := rfl
  have G13 : σ.2.1 13 = σ.2.1 13 := rfl
  have G14 : σ.2.1 14 = σ.2.1 14 := rfl
  have G15 : σ.2.1 15 = σ.2.1 15 := rfl
  have G16 : σ.2.1 16 = σ.2.1 16 := rfl
  have G27 : σ.2.1 27 = σ.2.1 27 := rfl
  have G28 : σ.2.1 28 = σ.2.1 28 := rfl
  have G29 : σ.2.1 29 = σ.2.1 29 := rfl
  have G30 : σ.2.1 30 = σ.2.1 30 := rfl
  have G31 : σ.2.1 31 = σ.2.1 31 := rfl
  have G32 : σ.2.1 32 = σ.2.1 32 := rfl
  have G51 : σ.2.1 51 = σ.2.1 51 := rfl
  intro P109 h109
  have fb := J_f_le p5
  have SP : J_sp (σ.1 24) (σ.1 21) (σ.1 23) (σ.1 22) (σ.2.1 49) (σ.2.1 51) := p3
  have FRT : J_f (σ.1 24) (σ.1 13) (σ.1 14) (σ.2.1 13) (σ.2.1 14) (σ.2.1 15) (σ.2.1 16) (σ.2.1 27) (σ.2.1 28) (σ.2.1 29) (σ.2.1 30) (σ.2.1 31) (σ.2.1 32) := p5
  have FRT_0 := FRT
  have SP_0 := SP
  replace hT := cT_v (i := 26) hT (show (0 : Int) ≤ 0 ∧ 0 ≤ 5000010 from by (first | omega | (simp only [st_s] <;> omega) | assumption | omega | fail))
  refine ⟨fun c1 => ?_, fun c1 => ?_⟩
  ·
    exact ⟨hT, (show 0 ≤ 5 ∧ 5 ≤ 19 from by (first | omega | (simp only [st_s] <;> omega) | assumption | omega | fail)), (show 5 = 0 → J_sp (σ.1 24) (σ.1 21) (σ.1 23) (σ.1 22) (σ.2.1 49) (σ.2.1 51) from by (intro z; first | (exfalso; omega) | exact SP | omega)), (show 5 = 0 → (σ.1 16) + (σ.1 21) ≤ 20000 from by (intro z; first | (exfalso; omega) | omega)), (show ¬ (σ.1 27) = 0 → 1 ≤ (σ.1 21) ∧ 0 ≤ σ.2.1 49 ((σ.1 21) - 1) ∧ σ.2.1 49 ((σ.1 21) - 1) < 65536 from by (first | omega | exact AAn | fail)), (show ((0 : Int)) = 0 from by (first | omega | (simp only [st_s] <;> omega) | assumption | omega | fail))⟩
  ·
    refine ⟨_, K_X10_isFull hT (show 0 ≤ (σ.1 21) from by (first | omega | (simp only [st_s] <;> omega) | assumption | omega | fail)), ?_⟩
    intro x3 r_x3 hq
    obtain ⟨q2_1, q2_2⟩ := hq
    replace q2_1 : 0 ≤ x3 ∧ x3 ≤ 1 := q2_1
    replace q2_2 : x3 = 0 → (σ.1 16) + (σ.1 21) < 20000 := q2_2
    refine ⟨fun c5 => ?_, fun c5 => ?_⟩
    ·
      have f28 := A28 (σ.1 24)
      have f27 := A27 (σ.1 24)
      refine ⟨(show 0 ≤ σ.1 24 ∧ σ.1 24 < 1500 from by (first | omega | (simp only [st_s] <;> omega) | assumption | omega | fail)), ?_⟩
      intro x7 r_x7 e_x7
      have b_x7 : 0 ≤ x7 ∧ x7 ≤ 60 := by rw [e_x7]; exact hT.2 28 _
      refine ⟨fun c8 => ?_, fun c8 => ?_⟩
      ·
        refine ⟨(⟨by (first | omega | (simp only [st_s] <;> omega) | assumption | omega | fail), by (first | omega | (simp only [st_s] <;> omega) | assumption | omega | fail)⟩ : rg (x7 + σ.1 22)), ?_⟩
        refine ⟨fun c10 => ?_, fun c10 => ?_⟩
        ·
          refine ⟨(⟨by (first | omega | (simp only [st_s] <;> omega) | assumption | omega | fail), by (first | omega | (simp only [st_s] <;> omega) | assumption | omega | fail)⟩ : rg ((x7 + σ.1 22) + σ.1 23)), ?_⟩
          refine ⟨fun c12 => ?_, fun c12 => ?_⟩
          ·
            exact ⟨hT, (show 0 ≤ 14 ∧ 14 ≤ 19 from by (first | omega | (simp only [st_s] <;> omega) | assumption | omega | fail)), (show 14 = 0 → J_sp (σ.1 24) (σ.1 21) (σ.1 23) (σ.1 22) (σ.2.1 49) (σ.2.1 51) from by (intro z; first | (exfalso; omega) | exact SP | omega)), (show 14 = 0 → (σ.1 16) + (σ.1 21) ≤ 20000 from by (intro z; first | (exfalso; omega) | omega)), (show ¬ (σ.1 27) = 0 → 1 ≤ (σ.1 21) ∧ 0 ≤ σ.2.1 49 ((σ.1 21) - 1) ∧ σ.2.1 49 ((σ.1 21) - 1) < 65536 from by (first | omega | exact AAn | fail)), (show ((0 : Int)) = 0 from by (first | omega | (simp only [st_s] <;> omega) | assumption | omega | fail))⟩
          ·
            refine ⟨(⟨by (first | omega | (simp only [st_s] <;> omega) | assumption | omega | fail), by (first | omega | (simp only [st_s] <;> omega) | assumption | omega | fail)⟩ : rg (-1 - (((n1 - x7) - σ.1 22) - 1))), ?_⟩
            refine ⟨_, K2_X10_addStep hT (show -300 ≤ (-1 - (((n1 - x7) - σ.1 22) - 1)) from by (first | omega | (simp only [st_s] <;> omega) | assumption | omega | fail)) (show (-1 - (((n1 - x7) - σ.1 22) - 1)) ≤ 67035 from by (first | omega | (simp only [st_s] <;> omega) | assumption | omega | fail)) (show (σ.1 21) < 20000 from by (first | omega | (simp only [st_s] <;> omega) | assumption | omega | fail)), ?_⟩
            intro τ16 hn_τ16 hf_τ16 hq
            obtain ⟨hT, q14_1, q14_2⟩ := hq
            replace q14_1 : (τ16.1 21) = (σ.1 21) + 1 := q14_1
            replace q14_2 : τ16.2.1 49 = st (σ.2.1 49) (σ.1 21) (-1 - (((n1 - x7) - σ.1 22) - 1)) := q14_2
            have w13_τ16 : τ16.1 13 = σ.1 13 := hf_τ16.1 13 (by decide)
            have w14_τ16 : τ16.1 14 = σ.1 14 := hf_τ16.1 14 (by decide)
            have w16_τ16 : τ16.1 16 = σ.1 16 := hf_τ16.1 16 (by decide)
            have w22_τ16 : τ16.1 22 = σ.1 22 := hf_τ16.1 22 (by decide)
            have w23_τ16 : τ16.1 23 = σ.1 23 := hf_τ16.1 23 (by decide)
            have w24_τ16 : τ16.1 24 = σ.1 24 := hf_τ16.1 24 (by decide)
            have w26_τ16 : τ16.1 26 = 0 := hf_τ16.1 26 (by decide)
            have w27_τ16 : τ16.1 27 = σ.1 27 := hf_τ16.1 27 (by decide)
            have g13_τ16 : τ16.2.1 13 = σ.2.1 13 := hf_τ16.2.1 13 (by decide)
            have g14_τ16 : τ16.2.1 14 = σ.2.1 14 := hf_τ16.2.1 14 (by decide)
            have g15_τ16 : τ16.2.1 15 = σ.2.1 15 := hf_τ16.2.1 15 (by decide)
            have g16_τ16 : τ16.2.1 16 = σ.2.1 16 := hf_τ16.2.1 16 (by decide)
            have g27_τ16 : τ16.2.1 27 = σ.2.1 27 := hf_τ16.2.1 27 (by decide)
            have g28_τ16 : τ16.2.1 28 = σ.2.1 28 := hf_τ16.2.1 28 (by decide)
            have g29_τ16 : τ16.2.1 29 = σ.2.1 29 := hf_τ16.2.1 29 (by decide)
            have g30_τ16 : τ16.2.1 30 = σ.2.1 30 := hf_τ16.2.1 30 (by decide)
            have g31_τ16 : τ16.2.1 31 = σ.2.1 31 := hf_τ16.2.1 31 (by decide)
            have g32_τ16 : τ16.2.1 32 = σ.2.1 32 := hf_τ16.2.1 32 (by decide)
            have g51_τ16 : τ16.2.1 51 = σ.2.1 51 := hf_τ16.2.1 51 (by decide)
            have W13 : τ16.1 13 = σ.1 13 := by first | exact w13_τ16.trans W13 | omega
            have W14 : τ16.1 14 = σ.1 14 := by first | exact w14_τ16.trans W14 | omega
            have W16 : τ16.1 16 = σ.1 16 := by first | exact w16_τ16.trans W16 | omega
            have W22 : τ16.1 22 = σ.1 22 := by first | exact w22_τ16.trans W22 | omega
            have W23 : τ16.1 23 = σ.1 23 := by first | exact w23_τ16.trans W23 | omega
            have W24 : τ16.1 24 = σ.1 24 := by first | exact w24_τ16.trans W24 | omega
            have G13 : τ16.2.1 13 = σ.2.1 13 := (g13_τ16).trans G13
            have G14 : τ16.2.1 14 = σ.2.1 14 := (g14_τ16).trans G14
            have G15 : τ16.2.1 15 = σ.2.1 15 := (g15_τ16).trans G15
            have G16 : τ16.2.1 16 = σ.2.1 16 := (g16_τ16).trans G16
            have G27 : τ16.2.1 27 = σ.2.1 27 := (g27_τ16).trans G27
            have G28 : τ16.2.1 28 = σ.2.1 28 := (g28_τ16).trans G28
            have G29 : τ16.2.1 29 = σ.2.1 29 := (g29_τ16).trans G29
            have G30 : τ16.2.1 30 = σ.2.1 30 := (g30_τ16).trans G30
            have G31 : τ16.2.1 31 = σ.2.1 31 := (g31_τ16).trans G31
            have G32 : τ16.2.1 32 = σ.2.1 32 := (g32_τ16).trans G32
            have G51 : τ16.2.1 51 = σ.2.1 51 := (g51_τ16).trans G51
            have y27_24_τ16 : τ16.2.1 27 (τ16.1 24) = (σ.2.1 27) (σ.1 24) := by rw [g27_τ16, w24_τ16]
            have y28_24_τ16 : τ16.2.1 28 (τ16.1 24) = (σ.2.1 28) (σ.1 24) := by rw [g28_τ16, w24_τ16]
            have FRT : J_f (τ16.1 24) (τ16.1 13) (τ16.1 14) (τ16.2.1 13) (τ16.2.1 14) (τ16.2.1 15) (τ16.2.1 16) (τ16.2.1 27) (τ16.2.1 28) (τ16.2.1 29) (τ16.2.1 30) (τ16.2.1 31) (τ16.2.1 32) := by rw [show (J_f (τ16.1 24) (τ16.1 13) (τ16.1 14) (τ16.2.1 13) (τ16.2.1 14) (τ16.2.1 15) (τ16.2.1 16) (τ16.2.1 27) (τ16.2.1 28) (τ16.2.1 29) (τ16.2.1 30) (τ16.2.1 31) (τ16.2.1 32)) = (J_f (σ.1 24) (σ.1 13) (σ.1 14) (σ.2.1 13) (σ.2.1 14) (σ.2.1 15) (σ.2.1 16) (σ.2.1 27) (σ.2.1 28) (σ.2.1 29) (σ.2.1 30) (σ.2.1 31) (σ.2.1 32)) from by rw [w13_τ16, w14_τ16, w24_τ16, g13_τ16, g14_τ16, g15_τ16, g16_τ16, g27_τ16, g28_τ16, g29_τ16, g30_τ16, g31_τ16, g32_τ16]]; exact FRT
            have A13 : ∀ j, 0 ≤ τ16.2.1 13 j ∧ τ16.2.1 13 j ≤ 4 := fun j => hT.2 13 j
            have A14 : ∀ j, 0 ≤ τ16.2.1 14 j ∧ τ16.2.1 14 j ≤ 30000 := fun j => hT.2 14 j
            have A15 : ∀ j, 0 ≤ τ16.2.1 15 j ∧ τ16.2.1 15 j ≤ 999 := fun j => hT.2 15 j
            have A16 : ∀ j, (-1) ≤ τ16.2.1 16 j ∧ τ16.2.1 16 j ≤ 1499 := fun j => hT.2 16 j
            have A27 : ∀ j, 0 ≤ τ16.2.1 27 j ∧ τ16.2.1 27 j ≤ 90000 := fun j => hT.2 27 j
            have A28 : ∀ j, 0 ≤ τ16.2.1 28 j ∧ τ16.2.1 28 j ≤ 60 := fun j => hT.2 28 j
            have A29 : ∀ j, 0 ≤ τ16.2.1 29 j ∧ τ16.2.1 29 j ≤ 1499 := fun j => hT.2 29 j
            have A30 : ∀ j, 0 ≤ τ16.2.1 30 j ∧ τ16.2.1 30 j ≤ 20000 := fun j => hT.2 30 j
            have A31 : ∀ j, 0 ≤ τ16.2.1 31 j ∧ τ16.2.1 31 j ≤ 20000 := fun j => hT.2 31 j
            have A32 : ∀ j, 0 ≤ τ16.2.1 32 j ∧ τ16.2.1 32 j ≤ 999999 := fun j => hT.2 32 j
            have A49 : ∀ j, (-300) ≤ τ16.2.1 49 j ∧ τ16.2.1 49 j ≤ 67035 := fun j => hT.2 49 j
            have A51 : ∀ j, 0 ≤ τ16.2.1 51 j ∧ τ16.2.1 51 j ≤ 1499 := fun j => hT.2 51 j
            have v13 : 0 ≤ τ16.1 13 ∧ τ16.1 13 ≤ 90000 := hT.1 13
            have v14 : 0 ≤ τ16.1 14 ∧ τ16.1 14 ≤ 20000 := hT.1 14
            have v16 : 0 ≤ τ16.1 16 ∧ τ16.1 16 ≤ 20000 := hT.1 16
            have v21 : 0 ≤ τ16.1 21 ∧ τ16.1 21 ≤ 20000 := hT.1 21
            have v22 : 0 ≤ τ16.1 22 ∧ τ16.1 22 ≤ 300 := hT.1 22
            have v23 : 0 ≤ τ16.1 23 ∧ τ16.1 23 ≤ 300 := hT.1 23
            have v24 : 0 ≤ τ16.1 24 ∧ τ16.1 24 ≤ 1499 := hT.1 24
            have v26 : 0 ≤ τ16.1 26 ∧ τ16.1 26 ≤ 5000010 := hT.1 26
            have v27 : 0 ≤ τ16.1 27 ∧ τ16.1 27 ≤ 1 := hT.1 27
            have a27_24 : 0 ≤ τ16.2.1 27 (τ16.1 24) ∧ τ16.2.1 27 (τ16.1 24) ≤ 90000 := hT.2 27 _
            have a28_24 : 0 ≤ τ16.2.1 28 (τ16.1 24) ∧ τ16.2.1 28 (τ16.1 24) ≤ 60 := hT.2 28 _
            have SP : J_sp (τ16.1 24) (τ16.1 21) (τ16.1 23) (τ16.1 22) (τ16.2.1 49) (τ16.2.1 51) := by rw [w24_τ16, q14_1, w23_τ16, w22_τ16, q14_2, g51_τ16]; exact J_sp_a SP_0 (by omega) (Or.inl ⟨by omega, by omega⟩)
            exact ⟨hT, (show 0 ≤ 0 ∧ 0 ≤ 19 from by (first | omega | (simp only [st_s] <;> omega) | assumption | omega | fail)), (show 0 = 0 → J_sp (τ16.1 24) (τ16.1 21) (τ16.1 23) (τ16.1 22) (τ16.2.1 49) (τ16.2.1 51) from by (intro z; first | (exfalso; omega) | exact SP | omega)), (show 0 = 0 → (τ16.1 16) + (τ16.1 21) ≤ 20000 from by (intro z; first | (exfalso; omega) | omega)), (show ¬ (τ16.1 27) = 0 → 1 ≤ (τ16.1 21) ∧ 0 ≤ τ16.2.1 49 ((τ16.1 21) - 1) ∧ τ16.2.1 49 ((τ16.1 21) - 1) < 65536 from by (first | omega | exact AAn | fail)), (show (τ16.1 26) = 0 from by (first | omega | (simp only [st_s] <;> omega) | assumption | omega | fail))⟩
        ·
          refine ⟨(show 0 ≤ ((n1 - x7) - 1) ∧ ((n1 - x7) - 1) < 300 from by (first | omega | (simp only [st_s] <;> omega) | assumption | omega | fail)), ?_⟩
          intro x18 r_x18 e_x18
          have b_x18 : 0 ≤ x18 ∧ x18 ≤ 1499 := by rw [e_x18]; exact hT.2 51 _
          have lk := SP_0.2.2 (n1 - x7 - 1) (by omega) (by omega)
          refine ⟨(show 0 ≤ x18 ∧ x18 < 1500 from by (first | omega | (simp only [st_s] <;> omega) | assumption | omega | fail)), ?_⟩
          intro x20 r_x20 e_x20
          have b_x20 : 0 ≤ x20 ∧ x20 ≤ 4 := by rw [e_x20]; exact hT.2 13 _
          refine ⟨fun c21 => ?_, fun c21 => ?_⟩
          ·
            obtain ⟨τ_109, e_τ_109⟩ : ∃ z : S0, z = s_v σ 26 0 := ⟨_, rfl⟩
            rw [← e_τ_109]
            replace hT : c_T τ_109 := by rw [e_τ_109]; exact hT
            have w13_τ_109 : τ_109.1 13 = σ.1 13 := by rw [e_τ_109]; rfl
            have w14_τ_109 : τ_109.1 14 = σ.1 14 := by rw [e_τ_109]; rfl
            have w16_τ_109 : τ_109.1 16 = σ.1 16 := by rw [e_τ_109]; rfl
            have w21_τ_109 : τ_109.1 21 = σ.1 21 := by rw [e_τ_109]; rfl
            have w22_τ_109 : τ_109.1 22 = σ.1 22 := by rw [e_τ_109]; rfl
            have w23_τ_109 : τ_109.1 23 = σ.1 23 := by rw [e_τ_109]; rfl
            have w24_τ_109 : τ_109.1 24 = σ.1 24 := by rw [e_τ_109]; rfl
            have w26_τ_109 : τ_109.1 26 = 0 := by rw [e_τ_109]; rfl
            have w27_τ_109 : τ_109.1 27 = σ.1 27 := by rw [e_τ_109]; rfl
            have g13_τ_109 : τ_109.2.1 13 = σ.2.1 13 := by rw [e_τ_109]; rfl
            have g14_τ_109 : τ_109.2.1 14 = σ.2.1 14 := by rw [e_τ_109]; rfl
            have g15_τ_109 : τ_109.2.1 15 = σ.2.1 15 := by rw [e_τ_109]; rfl
            have g16_τ_109 : τ_109.2.1 16 = σ.2.1 16 := by rw [e_τ_109]; rfl
            have g27_τ_109 : τ_109.2.1 27 = σ.2.1 27 := by rw [e_τ_109]; rfl
            have g28_τ_109 : τ_109.2.1 28 = σ.2.1 28 := by rw [e_τ_109]; rfl
            have g29_τ_109 : τ_109.2.1 29 = σ.2.1 29 := by rw [e_τ_109]; rfl
            have g30_τ_109 : τ_109.2.1 30 = σ.2.1 30 := by rw [e_τ_109]; rfl
            have g31_τ_109 : τ_109.2.1 31 = σ.2.1 31 := by rw [e_τ_109]; rfl
            have g32_τ_109 : τ_109.2.1 32 = σ.2.1 32 := by rw [e_τ_109]; rfl
            have g49_τ_109 : τ_109.2.1 49 = σ.2.1 49 := by rw [e_τ_109]; rfl
            have g51_τ_109 : τ_109.2.1 51 = σ.2.1 51 := by rw [e_τ_109]; rfl
            have W13 : τ_109.1 13 = σ.1 13 := by first | exact w13_τ_109.trans W13 | omega
            have W14 : τ_109.1 14 = σ.1 14 := by first | exact w14_τ_109.trans W14 | omega
            have W16 : τ_109.1 16 = σ.1 16 := by first | exact w16_τ_109.trans W16 | omega
            have W22 : τ_109.1 22 = σ.1 22 := by first | exact w22_τ_109.trans W22 | omega
            have W23 : τ_109.1 23 = σ.1 23 := by first | exact w23_τ_109.trans W23 | omega
            have W24 : τ_109.1 24 = σ.1 24 := by first | exact w24_τ_109.trans W24 | omega
            have G13 : τ_109.2.1 13 = σ.2.1 13 := (g13_τ_109).trans G13
            have G14 : τ_109.2.1 14 = σ.2.1 14 := (g14_τ_109).trans G14
            have G15 : τ_109.2.1 15 = σ.2.1 15 := (g15_τ_109).trans G15
            have G16 : τ_109.2.1 16 = σ.2.1 16 := (g16_τ_109).trans G16
            have G27 : τ_109.2.1 27 = σ.2.1 27 := (g27_τ_109).trans G27
            have G28 : τ_109.2.1 28 = σ.2.1 28 := (g28_τ_109).trans G28
            have G29 : τ_109.2.1 29 = σ.2.1 29 := (g29_τ_109).trans G29
            have G30 : τ_109.2.1 30 = σ.2.1 30 := (g30_τ_109).trans G30
            have G31 : τ_109.2.1 31 = σ.2.1 31 := (g31_τ_109).trans G31
            have G32 : τ_109.2.1 32 = σ.2.1 32 := (g32_τ_109).trans G32
            have G51 : τ_109.2.1 51 = σ.2.1 51 := (g51_τ_109).trans G51
            have y27_24_τ_109 : τ_109.2.1 27 (τ_109.1 24) = (σ.2.1 27) (σ.1 24) := by rw [g27_τ_109, w24_τ_109]
            have y28_24_τ_109 : τ_109.2.1 28 (τ_109.1 24) = (σ.2.1 28) (σ.1 24) := by rw [g28_τ_109, w24_τ_109]
            have SP : J_sp (τ_109.1 24) (τ_109.1 21) (τ_109.1 23) (τ_109.1 22) (τ_109.2.1 49) (τ_109.2.1 51) := by rw [show (J_sp (τ_109.1 24) (τ_109.1 21) (τ_109.1 23) (τ_109.1 22) (τ_109.2.1 49) (τ_109.2.1 51)) = (J_sp (σ.1 24) (σ.1 21) (σ.1 23) (σ.1 22) (σ.2.1 49) (σ.2.1 51)) from by rw [w21_τ_109, w22_τ_109, w23_τ_109, w24_τ_109, g49_τ_109, g51_τ_109]]; exact SP
            have FRT : J_f (τ_109.1 24) (τ_109.1 13) (τ_109.1 14) (τ_109.2.1 13) (τ_109.2.1 14) (τ_109.2.1 15) (τ_109.2.1 16) (τ_109.2.1 27) (τ_109.2.1 28) (τ_109.2.1 29) (τ_109.2.1 30) (τ_109.2.1 31) (τ_109.2.1 32) := by rw [show (J_f (τ_109.1 24) (τ_109.1 13) (τ_109.1 14) (τ_109.2.1 13) (τ_109.2.1 14) (τ_109.2.1 15) (τ_109.2.1 16) (τ_109.2.1 27) (τ_109.2.1 28) (τ_109.2.1 29) (τ_109.2.1 30) (τ_109.2.1 31) (τ_109.2.1 32)) = (J_f (σ.1 24) (σ.1 13) (σ.1 14) (σ.2.1 13) (σ.2.1 14) (σ.2.1 15) (σ.2.1 16) (σ.2.1 27) (σ.2.1 28) (σ.2.1 29) (σ.2.1 30) (σ.2.1 31) (σ.2.1 32)) from by rw [w13_τ_109, w14_τ_109, w24_τ_109, g13_τ_109, g14_τ_109, g15_τ_109, g16_τ_109, g27_τ_109, g28_τ_109, g29_τ_109, g30_τ_109, g31_τ_109, g32_τ_109]]; exact FRT
            have A13 : ∀ j, 0 ≤ τ_109.2.1 13 j ∧ τ_109.2.1 13 j ≤ 4 := fun j => hT.2 13 j
            have A14 : ∀ j, 0 ≤ τ_109.2.1 14 j ∧ τ_109.2.1 14 j ≤ 30000 := fun j => hT.2 14 j
            have A15 : ∀ j, 0 ≤ τ_109.2.1 15 j ∧ τ_109.2.1 15 j ≤ 999 := fun j => hT.2 15 j
            have A16 : ∀ j, (-1) ≤ τ_109.2.1 16 j ∧ τ_109.2.1 16 j ≤ 1499 := fun j => hT.2 16 j
            have A27 : ∀ j, 0 ≤ τ_109.2.1 27 j ∧ τ_109.2.1 27 j ≤ 90000 := fun j => hT.2 27 j
            have A28 : ∀ j, 0 ≤ τ_109.2.1 28 j ∧ τ_109.2.1 28 j ≤ 60 := fun j => hT.2 28 j
            have A29 : ∀ j, 0 ≤ τ_109.2.1 29 j ∧ τ_109.2.1 29 j ≤ 1499 := fun j => hT.2 29 j
            have A30 : ∀ j, 0 ≤ τ_109.2.1 30 j ∧ τ_109.2.1 30 j ≤ 20000 := fun j => hT.2 30 j
            have A31 : ∀ j, 0 ≤ τ_109.2.1 31 j ∧ τ_109.2.1 31 j ≤ 20000 := fun j => hT.2 31 j
            have A32 : ∀ j, 0 ≤ τ_109.2.1 32 j ∧ τ_109.2.1 32 j ≤ 999999 := fun j => hT.2 32 j
            have A49 : ∀ j, (-300) ≤ τ_109.2.1 49 j ∧ τ_109.2.1 49 j ≤ 67035 := fun j => hT.2 49 j
            have A51 : ∀ j, 0 ≤ τ_109.2.1 51 j ∧ τ_109.2.1 51 j ≤ 1499 := fun j => hT.2 51 j
            have v13 : 0 ≤ τ_109.1 13 ∧ τ_109.1 13 ≤ 90000 := hT.1 13
            have v14 : 0 ≤ τ_109.1 14 ∧ τ_109.1 14 ≤ 20000 := hT.1 14
            have v16 : 0 ≤ τ_109.1 16 ∧ τ_109.1 16 ≤ 20000 := hT.1 16
            have v21 : 0 ≤ τ_109.1 21 ∧ τ_109.1 21 ≤ 20000 := hT.1 21
            have v22 : 0 ≤ τ_109.1 22 ∧ τ_109.1 22 ≤ 300 := hT.1 22
            have v23 : 0 ≤ τ_109.1 23 ∧ τ_109.1 23 ≤ 300 := hT.1 23
            have v24 : 0 ≤ τ_109.1 24 ∧ τ_109.1 24 ≤ 1499 := hT.1 24
            have v26 : 0 ≤ τ_109.1 26 ∧ τ_109.1 26 ≤ 5000010 := hT.1 26
            have v27 : 0 ≤ τ_109.1 27 ∧ τ_109.1 27 ≤ 1 := hT.1 27
            have a27_24 : 0 ≤ τ_109.2.1 27 (τ_109.1 24) ∧ τ_109.2.1 27 (τ_109.1 24) ≤ 90000 := hT.2 27 _
            have a28_24 : 0 ≤ τ_109.2.1 28 (τ_109.1 24) ∧ τ_109.2.1 28 (τ_109.1 24) ≤ 60 := hT.2 28 _
            refine h109 _ _ _ ?_
            refine ⟨(show 0 ≤ 0 ∧ 0 ≤ 1 from by (first | omega | (simp only [st_s] <;> omega) | assumption | omega | fail)), ?_⟩
            replace hT := cT_v (i := 27) hT (show (0 : Int) ≤ 0 ∧ 0 ≤ 1 from by (first | omega | (simp only [st_s] <;> omega) | assumption | omega | fail))
            refine ⟨_, K2_X10_addStep hT (show -300 ≤ x18 from by (first | omega | (simp only [st_s] <;> omega) | assumption | omega | fail)) (show x18 ≤ 67035 from by (first | omega | (simp only [st_s] <;> omega) | assumption | omega | fail)) (show (τ_109.1 21) < 20000 from by (first | omega | (simp only [st_s] <;> omega) | assumption | omega | fail)), ?_⟩
            intro τ31 hn_τ31 hf_τ31 hq
            obtain ⟨hT, q29_1, q29_2⟩ := hq
            replace q29_1 : (τ31.1 21) = (τ_109.1 21) + 1 := q29_1
            replace q29_2 : τ31.2.1 49 = st (τ_109.2.1 49) (τ_109.1 21) x18 := q29_2
            have w13_τ31 : τ31.1 13 = τ_109.1 13 := hf_τ31.1 13 (by decide)
            have w14_τ31 : τ31.1 14 = τ_109.1 14 := hf_τ31.1 14 (by decide)
            have w16_τ31 : τ31.1 16 = τ_109.1 16 := hf_τ31.1 16 (by decide)
            have w22_τ31 : τ31.1 22 = τ_109.1 22 := hf_τ31.1 22 (by decide)
            have w23_τ31 : τ31.1 23 = τ_109.1 23 := hf_τ31.1 23 (by decide)
            have w24_τ31 : τ31.1 24 = τ_109.1 24 := hf_τ31.1 24 (by decide)
            have w26_τ31 : τ31.1 26 = τ_109.1 26 := hf_τ31.1 26 (by decide)
            have w27_τ31 : τ31.1 27 = 0 := hf_τ31.1 27 (by decide)
            have g13_τ31 : τ31.2.1 13 = τ_109.2.1 13 := hf_τ31.2.1 13 (by decide)
            have g14_τ31 : τ31.2.1 14 = τ_109.2.1 14 := hf_τ31.2.1 14 (by decide)
            have g15_τ31 : τ31.2.1 15 = τ_109.2.1 15 := hf_τ31.2.1 15 (by decide)
            have g16_τ31 : τ31.2.1 16 = τ_109.2.1 16 := hf_τ31.2.1 16 (by decide)
            have g27_τ31 : τ31.2.1 27 = τ_109.2.1 27 := hf_τ31.2.1 27 (by decide)
            have g28_τ31 : τ31.2.1 28 = τ_109.2.1 28 := hf_τ31.2.1 28 (by decide)
            have g29_τ31 : τ31.2.1 29 = τ_109.2.1 29 := hf_τ31.2.1 29 (by decide)
            have g30_τ31 : τ31.2.1 30 = τ_109.2.1 30 := hf_τ31.2.1 30 (by decide)
            have g31_τ31 : τ31.2.1 31 = τ_109.2.1 31 := hf_τ31.2.1 31 (by decide)
            have g32_τ31 : τ31.2.1 32 = τ_109.2.1 32 := hf_τ31.2.1 32 (by decide)
            have g51_τ31 : τ31.2.1 51 = τ_109.2.1 51 := hf_τ31.2.1 51 (by decide)
            have W13 : τ31.1 13 = σ.1 13 := by first | exact w13_τ31.trans W13 | omega
            have W14 : τ31.1 14 = σ.1 14 := by first | exact w14_τ31.trans W14 | omega
            have W16 : τ31.1 16 = σ.1 16 := by first | exact w16_τ31.trans W16 | omega
            have W22 : τ31.1 22 = σ.1 22 := by first | exact w22_τ31.trans W22 | omega
            have W23 : τ31.1 23 = σ.1 23 := by first | exact w23_τ31.trans W23 | omega
            have W24 : τ31.1 24 = σ.1 24 := by first | exact w24_τ31.trans W24 | omega
            have G13 : τ31.2.1 13 = σ.2.1 13 := (g13_τ31).trans G13
            have G14 : τ31.2.1 14 = σ.2.1 14 := (g14_τ31).trans G14
            have G15 : τ31.2.1 15 = σ.2.1 15 := (g15_τ31).trans G15
            have G16 : τ31.2.1 16 = σ.2.1 16 := (g16_τ31).trans G16
            have G27 : τ31.2.1 27 = σ.2.1 27 := (g27_τ31).trans G27
            have G28 : τ31.2.1 28 = σ.2.1 28 := (g28_τ31).trans G28
            have G29 : τ31.2.1 29 = σ.2.1 29 := (g29_τ31).trans G29
            have G30 : τ31.2.1 30 = σ.2.1 30 := (g30_τ31).trans G30
            have G31 : τ31.2.1 31 = σ.2.1 31 := (g31_τ31).trans G31
            have G32 : τ31.2.1 32 = σ.2.1 32 := (g32_τ31).trans G32
            have G51 : τ31.2.1 51 = σ.2.1 51 := (g51_τ31).trans G51
            have y27_24_τ31 : τ31.2.1 27 (τ31.1 24) = (τ_109.2.1 27) (τ_109.1 24) := by rw [g27_τ31, w24_τ31]
            have y28_24_τ31 : τ31.2.1 28 (τ31.1 24) = (τ_109.2.1 28) (τ_109.1 24) := by rw [g28_τ31, w24_τ31]
            have FRT : J_f (τ31.1 24) (τ31.1 13) (τ31.1 14) (τ31.2.1 13) (τ31.2.1 14) (τ31.2.1 15) (τ31.2.1 16) (τ31.2.1 27) (τ31.2.1 28) (τ31.2.1 29) (τ31.2.1 30) (τ31.2.1 31) (τ31.2.1 32) := by rw [show (J_f (τ31.1 24) (τ31.1 13) (τ31.1 14) (τ31.2.1 13) (τ31.2.1 14) (τ31.2.1 15) (τ31.2.1 16) (τ31.2.1 27) (τ31.2.1 28) (τ31.2.1 29) (τ31.2.1 30) (τ31.2.1 31) (τ31.2.1 32)) = (J_f (τ_109.1 24) (τ_109.1 13) (τ_109.1 14) (τ_109.2.1 13) (τ_109.2.1 14) (τ_109.2.1 15) (τ_109.2.1 16) (τ_109.2.1 27) (τ_109.2.1 28) (τ_109.2.1 29) (τ_109.2.1 30) (τ_109.2.1 31) (τ_109.2.1 32)) from by rw [w13_τ31, w14_τ31, w24_τ31, g13_τ31, g14_τ31, g15_τ31, g16_τ31, g27_τ31, g28_τ31, g29_τ31, g30_τ31, g31_τ31, g32_τ31]]; exact FRT
            have A13 : ∀ j, 0 ≤ τ31.2.1 13 j ∧ τ31.2.1 13 j ≤ 4 := fun j => hT.2 13 j
            have A14 : ∀ j, 0 ≤ τ31.2.1 14 j ∧ τ31.2.1 14 j ≤ 30000 := fun j => hT.2 14 j
            have A15 : ∀ j, 0 ≤ τ31.2.1 15 j ∧ τ31.2.1 15 j ≤ 999 := fun j => hT.2 15 j
            have A16 : ∀ j, (-1) ≤ τ31.2.1 16 j ∧ τ31.2.1 16 j ≤ 1499 := fun j => hT.2 16 j
            have A27 : ∀ j, 0 ≤ τ31.2.1 27 j ∧ τ31.2.1 27 j ≤ 90000 := fun j => hT.2 27 j
            have A28 : ∀ j, 0 ≤ τ31.2.1 28 j ∧ τ31.2.1 28 j ≤ 60 := fun j => hT.2 28 j
            have A29 : ∀ j, 0 ≤ τ31.2.1 29 j ∧ τ31.2.1 29 j ≤ 1499 := fun j => hT.2 29 j
            have A30 : ∀ j, 0 ≤ τ31.2.1 30 j ∧ τ31.2.1 30 j ≤ 20000 := fun j => hT.2 30 j
            have A31 : ∀ j, 0 ≤ τ31.2.1 31 j ∧ τ31.2.1 31 j ≤ 20000 := fun j => hT.2 31 j
            have A32 : ∀ j, 0 ≤ τ31.2.1 32 j ∧ τ31.2.1 32 j ≤ 999999 := fun j => hT.2 32 j
            have A49 : ∀ j, (-300) ≤ τ31.2.1 49 j ∧ τ31.2.1 49 j ≤ 67035 := fun j => hT.2 49 j
            have A51 : ∀ j, 0 ≤ τ31.2.1 51 j ∧ τ31.2.1 51 j ≤ 1499 := fun j => hT.2 51 j
            have v13 : 0 ≤ τ31.1 13 ∧ τ31.1 13 ≤ 90000 := hT.1 13
            have v14 : 0 ≤ τ31.1 14 ∧ τ31.1 14 ≤ 20000 := hT.1 14
            have v16 : 0 ≤ τ31.1 16 ∧ τ31.1 16 ≤ 20000 := hT.1 16
            have v21 : 0 ≤ τ31.1 21 ∧ τ31.1 21 ≤ 20000 := hT.1 21
            have v22 : 0 ≤ τ31.1 22 ∧ τ31.1 22 ≤ 300 := hT.1 22
            have v23 : 0 ≤ τ31.1 23 ∧ τ31.1 23 ≤ 300 := hT.1 23
            have v24 : 0 ≤ τ31.1 24 ∧ τ31.1 24 ≤ 1499 := hT.1 24
            have v26 : 0 ≤ τ31.1 26 ∧ τ31.1 26 ≤ 5000010 := hT.1 26
            have v27 : 0 ≤ τ31.1 27 ∧ τ31.1 27 ≤ 1 := hT.1 27
            have a27_24 : 0 ≤ τ31.2.1 27 (τ31.1 24) ∧ τ31.2.1 27 (τ31.1 24) ≤ 90000 := hT.2 27 _
            have a28_24 : 0 ≤ τ31.2.1 28 (τ31.1 24) ∧ τ31.2.1 28 (τ31.1 24) ≤ 60 := hT.2 28 _
            have SP : J_sp (τ31.1 24) (τ31.1 21) (τ31.1 23) (τ31.1 22) (τ31.2.1 49) (τ31.2.1 51) := by rw [w24_τ31, q29_1, w23_τ31, w22_τ31, q29_2, g51_τ31, w24_τ_109, w21_τ_109, w23_τ_109, w22_τ_109, g49_τ_109, g51_τ_109]; exact J_sp_a SP_0 (by omega) (Or.inr ⟨by omega, by rw [e_x18, show n1 - x7 - 1 = n1 - x7 - 1 from rfl]; exact lk, by omega⟩)
            have AAn : ¬ τ31.1 27 = 0 → 1 ≤ τ31.1 21 ∧ 0 ≤ τ31.2.1 49 (τ31.1 21 - 1) ∧ τ31.2.1 49 (τ31.1 21 - 1) < 65536 := fun _ => by rw [q29_2, show τ31.1 21 - 1 = τ_109.1 21 from by omega, st_s]; omega
            exact ⟨hT, (show 0 ≤ 0 ∧ 0 ≤ 19 from by (first | omega | (simp only [st_s] <;> omega) | assumption | omega | fail)), (show 0 = 0 → J_sp (τ31.1 24) (τ31.1 21) (τ31.1 23) (τ31.1 22) (τ31.2.1 49) (τ31.2.1 51) from by (intro z; first | (exfalso; omega) | exact SP | omega)), (show 0 = 0 → (τ31.1 16) + (τ31.1 21) ≤ 20000 from by (intro z; first | (exfalso; omega) | omega)), (show ¬ (τ31.1 27) = 0 → 1 ≤ (τ31.1 21) ∧ 0 ≤ τ31.2.1 49 ((τ31.1 21) - 1) ∧ τ31.2.1 49 ((τ31.1 21) - 1) < 65536 from by (first | omega | exact AAn | fail)), (show (τ31.1 26) = 0 from by (first | omega | (simp only [st_s] <;> omega) | assumption | omega | fail))⟩
          ·
            obtain ⟨τ_109, e_τ_109⟩ : ∃ z : S0, z = s_v σ 26 0 := ⟨_, rfl⟩
            rw [← e_τ_109]
            replace hT : c_T τ_109 := by rw [e_τ_109]; exact hT
            have w13_τ_109 : τ_109.1 13 = σ.1 13 := by rw [e_τ_109]; rfl
            have w14_τ_109 : τ_109.1 14 = σ.1 14 := by rw [e_τ_109]; rfl
            have w16_τ_109 : τ_109.1 16 = σ.1 16 := by rw [e_τ_109]; rfl
            have w21_τ_109 : τ_109.1 21 = σ.1 21 := by rw [e_τ_109]; rfl
            have w22_τ_109 : τ_109.1 22 = σ.1 22 := by rw [e_τ_109]; rfl
            have w23_τ_109 : τ_109.1 23 = σ.1 23 := by rw [e_τ_109]; rfl
            have w24_τ_109 : τ_109.1 24 = σ.1 24 := by rw [e_τ_109]; rfl
            have w26_τ_109 : τ_109.1 26 = 0 := by rw [e_τ_109]; rfl
            have w27_τ_109 : τ_109.1 27 = σ.1 27 := by rw [e_τ_109]; rfl
            have g13_τ_109 : τ_109.2.1 13 = σ.2.1 13 := by rw [e_τ_109]; rfl
            have g14_τ_109 : τ_109.2.1 14 = σ.2.1 14 := by rw [e_τ_109]; rfl
            have g15_τ_109 : τ_109.2.1 15 = σ.2.1 15 := by rw [e_τ_109]; rfl
            have g16_τ_109 : τ_109.2.1 16 = σ.2.1 16 := by rw [e_τ_109]; rfl
            have g27_τ_109 : τ_109.2.1 27 = σ.2.1 27 := by rw [e_τ_109]; rfl
            have g28_τ_109 : τ_109.2.1 28 = σ.2.1 28 := by rw [e_τ_109]; rfl
            have g29_τ_109 : τ_109.2.1 29 = σ.2.1 29 := by rw [e_τ_109]; rfl
            have g30_τ_109 : τ_109.2.1 30 = σ.2.1 30 := by rw [e_τ_109]; rfl
            have g31_τ_109 : τ_109.2.1 31 = σ.2.1 31 := by rw [e_τ_109]; rfl
            have g32_τ_109 : τ_109.2.1 32 = σ.2.1 32 := by rw [e_τ_109]; rfl
            have g49_τ_109 : τ_109.2.1 49 = σ.2.1 49 := by rw [e_τ_109]; rfl
            have g51_τ_109 : τ_109.2.1 51 = σ.2.1 51 := by rw [e_τ_109]; rfl
            have W13 : τ_109.1 13 = σ.1 13 := by first | exact w13_τ_109.trans W13 | omega
            have W14 : τ_109.1 14 = σ.1 14 := by first | exact w14_τ_109.trans W14 | omega
            have W16 : τ_109.1 16 = σ.1 16 := by first | exact w16_τ_109.trans W16 | omega
            have W22 : τ_109.1 22 = σ.1 22 := by first | exact w22_τ_109.trans W22 | omega
            have W23 : τ_109.1 23 = σ.1 23 := by first | exact w23_τ_109.trans W23 | omega
            have W24 : τ_109.1 24 = σ.1 24 := by first | exact w24_τ_109.trans W24 | omega
            have G13 : τ_109.2.1 13 = σ.2.1 13 := (g13_τ_109).trans G13
            have G14 : τ_109.2.1 14 = σ.2.1 14 := (g14_τ_109).trans G14
            have G15 : τ_109.2.1 15 = σ.2.1 15 := (g15_τ_109).trans G15
            have G16 : τ_109.2.1 16 = σ.2.1 16 := (g16_τ_109).trans G16
            have G27 : τ_109.2.1 27 = σ.2.1 27 := (g27_τ_109).trans G27
            have G28 : τ_109.2.1 28 = σ.2.1 28 := (g28_τ_109).trans G28
            have G29 : τ_109.2.1 29 = σ.2.1 29 := (g29_τ_109).trans G29
            have G30 : τ_109.2.1 30 = σ.2.1 30 := (g30_τ_109).trans G30
            have G31 : τ_109.2.1 31 = σ.2.1 31 := (g31_τ_109).trans G31
            have G32 : τ_109.2.1 32 = σ.2.1 32 := (g32_τ_109).trans G32
            have G51 : τ_109.2.1 51 = σ.2.1 51 := (g51_τ_109).trans G51
            have y27_24_τ_109 : τ_109.2.1 27 (τ_109.1 24) = (σ.2.1 27) (σ.1 24) := by rw [g27_τ_109, w24_τ_109]
            have y28_24_τ_109 : τ_109.2.1 28 (τ_109.1 24) = (σ.2.1 28) (σ.1 24) := by rw [g28_τ_109, w24_τ_109]
            have SP : J_sp (τ_109.1 24) (τ_109.1 21) (τ_109.1 23) (τ_109.1 22) (τ_109.2.1 49) (τ_109.2.1 51) := by rw [show (J_sp (τ_109.1 24) (τ_109.1 21) (τ_109.1 23) (τ_109.1 22) (τ_109.2.1 49) (τ_109.2.1 51)) = (J_sp (σ.1 24) (σ.1 21) (σ.1 23) (σ.1 22) (σ.2.1 49) (σ.2.1 51)) from by rw [w21_τ_109, w22_τ_109, w23_τ_109, w24_τ_109, g49_τ_109, g51_τ_109]]; exact SP
            have FRT : J_f (τ_109.1 24) (τ_109.1 13) (τ_109.1 14) (τ_109.2.1 13) (τ_109.2.1 14) (τ_109.2.1 15) (τ_109.2.1 16) (τ_109.2.1 27) (τ_109.2.1 28) (τ_109.2.1 29) (τ_109.2.1 30) (τ_109.2.1 31) (τ_109.2.1 32) := by rw [show (J_f (τ_109.1 24) (τ_109.1 13) (τ_109.1 14) (τ_109.2.1 13) (τ_109.2.1 14) (τ_109.2.1 15) (τ_109.2.1 16) (τ_109.2.1 27) (τ_109.2.1 28) (τ_109.2.1 29) (τ_109.2.1 30) (τ_109.2.1 31) (τ_109.2.1 32)) = (J_f (σ.1 24) (σ.1 13) (σ.1 14) (σ.2.1 13) (σ.2.1 14) (σ.2.1 15) (σ.2.1 16) (σ.2.1 27) (σ.2.1 28) (σ.2.1 29) (σ.2.1 30) (σ.2.1 31) (σ.2.1 32)) from by rw [w13_τ_109, w14_τ_109, w24_τ_109, g13_τ_109, g14_τ_109, g15_τ_109, g16_τ_109, g27_τ_109, g28_τ_109, g29_τ_109, g30_τ_109, g31_τ_109, g32_τ_109]]; exact FRT
            have A13 : ∀ j, 0 ≤ τ_109.2.1 13 j ∧ τ_109.2.1 13 j ≤ 4 := fun j => hT.2 13 j
            have A14 : ∀ j, 0 ≤ τ_109.2.1 14 j ∧ τ_109.2.1 14 j ≤ 30000 := fun j => hT.2 14 j
            have A15 : ∀ j, 0 ≤ τ_109.2.1 15 j ∧ τ_109.2.1 15 j ≤ 999 := fun j => hT.2 15 j
            have A16 : ∀ j, (-1) ≤ τ_109.2.1 16 j ∧ τ_109.2.1 16 j ≤ 1499 := fun j => hT.2 16 j
            have A27 : ∀ j, 0 ≤ τ_109.2.1 27 j ∧ τ_109.2.1 27 j ≤ 90000 := fun j => hT.2 27 j
            have A28 : ∀ j, 0 ≤ τ_109.2.1 28 j ∧ τ_109.2.1 28 j ≤ 60 := fun j => hT.2 28 j
            have A29 : ∀ j, 0 ≤ τ_109.2.1 29 j ∧ τ_109.2.1 29 j ≤ 1499 := fun j => hT.2 29 j
            have A30 : ∀ j, 0 ≤ τ_109.2.1 30 j ∧ τ_109.2.1 30 j ≤ 20000 := fun j => hT.2 30 j
            have A31 : ∀ j, 0 ≤ τ_109.2.1 31 j ∧ τ_109.2.1 31 j ≤ 20000 := fun j => hT.2 31 j
            have A32 : ∀ j, 0 ≤ τ_109.2.1 32 j ∧ τ_109.2.1 32 j ≤ 999999 := fun j => hT.2 32 j
            have A49 : ∀ j, (-300) ≤ τ_109.2.1 49 j ∧ τ_109.2.1 49 j ≤ 67035 := fun j => hT.2 49 j
            have A51 : ∀ j, 0 ≤ τ_109.2.1 51 j ∧ τ_109.2.1 51 j ≤ 1499 := fun j => hT.2 51 j
            have v13 : 0 ≤ τ_109.1 13 ∧ τ_109.1 13 ≤ 90000 := hT.1 13
            have v14 : 0 ≤ τ_109.1 14 ∧ τ_109.1 14 ≤ 20000 := hT.1 14
            have v16 : 0 ≤ τ_109.1 16 ∧ τ_109.1 16 ≤ 20000 := hT.1 16
            have v21 : 0 ≤ τ_109.1 21 ∧ τ_109.1 21 ≤ 20000 := hT.1 21
            have v22 : 0 ≤ τ_109.1 22 ∧ τ_109.1 22 ≤ 300 := hT.1 22
            have v23 : 0 ≤ τ_109.1 23 ∧ τ_109.1 23 ≤ 300 := hT.1 23
            have v24 : 0 ≤ τ_109.1 24 ∧ τ_109.1 24 ≤ 1499 := hT.1 24
            have v26 : 0 ≤ τ_109.1 26 ∧ τ_109.1 26 ≤ 5000010 := hT.1 26
            have v27 : 0 ≤ τ_109.1 27 ∧ τ_109.1 27 ≤ 1 := hT.1 27
            have a27_24 : 0 ≤ τ_109.2.1 27 (τ_109.1 24) ∧ τ_109.2.1 27 (τ_109.1 24) ≤ 90000 := hT.2 27 _
            have a28_24 : 0 ≤ τ_109.2.1 28 (τ_109.1 24) ∧ τ_109.2.1 28 (τ_109.1 24) ≤ 60 := hT.2 28 _
            refine h109 _ _ _ ?_
            refine ⟨(show 0 ≤ 1 ∧ 1 ≤ 1 from by (first | omega | (simp only [st_s] <;> omega) | assumption | omega | fail)), ?_⟩
            replace hT := cT_v (i := 27) hT (show (0 : Int) ≤ 1 ∧ 1 ≤ 1 from by (first | omega | (simp only [st_s] <;> omega) | assumption | omega | fail))
            refine ⟨_, K2_X10_addStep hT (show -300 ≤ x18 from by (first | omega | (simp only [st_s] <;> omega) | assumption | omega | fail)) (show x18 ≤ 67035 from by (first | omega | (simp only [st_s] <;> omega) | assumption | omega | fail)) (show (τ_109.1 21) < 20000 from by (first | omega | (simp only [st_s] <;> omega) | assumption | omega | fail)), ?_⟩
            intro τ31 hn_τ31 hf_τ31 hq
            obtain ⟨hT, q29_1, q29_2⟩ := hq
            replace q29_1 : (τ31.1 21) = (τ_109.1 21) + 1 := q29_1
            replace q29_2 : τ31.2.1 49 = st (τ_109.2.1 49) (τ_109.1 21) x18 := q29_2
            have w13_τ31 : τ31.1 13 = τ_109.1 13 := hf_τ31.1 13 (by decide)
            have w14_τ31 : τ31.1 14 = τ_109.1 14 := hf_τ31.1 14 (by decide)
            have w16_τ31 : τ31.1 16 = τ_109.1 16 := hf_τ31.1 16 (by decide)
            have w22_τ31 : τ31.1 22 = τ_109.1 22 := hf_τ31.1 22 (by decide)
            have w23_τ31 : τ31.1 23 = τ_109.1 23 := hf_τ31.1 23 (by decide)
            have w24_τ31 : τ31.1 24 = τ_109.1 24 := hf_τ31.1 24 (by decide)
            have w26_τ31 : τ31.1 26 = τ_109.1 26 := hf_τ31.1 26 (by decide)
            have w27_τ31 : τ31.1 27 = 1 := hf_τ31.1 27 (by decide)
            have g13_τ31 : τ31.2.1 13 = τ_109.2.1 13 := hf_τ31.2.1 13 (by decide)
            have g14_τ31 : τ31.2.1 14 = τ_109.2.1 14 := hf_τ31.2.1 14 (by decide)
            have g15_τ31 : τ31.2.1 15 = τ_109.2.1 15 := hf_τ31.2.1 15 (by decide)
            have g16_τ31 : τ31.2.1 16 = τ_109.2.1 16 := hf_τ31.2.1 16 (by decide)
            have g27_τ31 : τ31.2.1 27 = τ_109.2.1 27 := hf_τ31.2.1 27 (by decide)
            have g28_τ31 : τ31.2.1 28 = τ_109.2.1 28 := hf_τ31.2.1 28 (by decide)
            have g29_τ31 : τ31.2.1 29 = τ_109.2.1 29 := hf_τ31.2.1 29 (by decide)
            have g30_τ31 : τ31.2.1 30 = τ_109.2.1 30 := hf_τ31.2.1 30 (by decide)
            have g31_τ31 : τ31.2.1 31 = τ_109.2.1 31 := hf_τ31.2.1 31 (by decide)
            have g32_τ31 : τ31.2.1 32 = τ_109.2.1 32 := hf_τ31.2.1 32 (by decide)
            have g51_τ31 : τ31.2.1 51 = τ_109.2.1 51 := hf_τ31.2.1 51 (by decide)
            have W13 : τ31.1 13 = σ.1 13 := by first | exact w13_τ31.trans W13 | omega
            have W14 : τ31.1 14 = σ.1 14 := by first | exact w14_τ31.trans W14 | omega
            have W16 : τ31.1 16 = σ.1 16 := by first | exact w16_τ31.trans W16 | omega
            have W22 : τ31.1 22 = σ.1 22 := by first | exact w22_τ31.trans W22 | omega
            have W23 : τ31.1 23 = σ.1 23 := by first | exact w23_τ31.trans W23 | omega
            have W24 : τ31.1 24 = σ.1 24 := by first | exact w24_τ31.trans W24 | omega
            have G13 : τ31.2.1 13 = σ.2.1 13 := (g13_τ31).trans G13
            have G14 : τ31.2.1 14 = σ.2.1 14 := (g14_τ31).trans G14
            have G15 : τ31.2.1 15 = σ.2.1 15 := (g15_τ31).trans G15
            have G16 : τ31.2.1 16 = σ.2.1 16 := (g16_τ31).trans G16
            have G27 : τ31.2.1 27 = σ.2.1 27 := (g27_τ31).trans G27
            have G28 : τ31.2.1 28 = σ.2.1 28 := (g28_τ31).trans G28
            have G29 : τ31.2.1 29 = σ.2.1 29 := (g29_τ31).trans G29
            have G30 : τ31.2.1 30 = σ.2.1 30 := (g30_τ31).trans G30
            have G31 : τ31.2.1 31 = σ.2.1 31 := (g31_τ31).trans G31
            have G32 : τ31.2.1 32 = σ.2.1 32 := (g32_τ31).trans G32
            have G51 : τ31.2.1 51 = σ.2.1 51 := (g51_τ31).trans G51
            have y27_24_τ31 : τ31.2.1 27 (τ31.1 24) = (τ_109.2.1 27) (τ_109.1 24) := by rw [g27_τ31, w24_τ31]
            have y28_24_τ31 : τ31.2.1 28 (τ31.1 24) = (τ_109.2.1 28) (τ_109.1 24) := by rw [g28_τ31, w24_τ31]
            have FRT : J_f (τ31.1 24) (τ31.1 13) (τ31.1 14) (τ31.2.1 13) (τ31.2.1 14) (τ31.2.1 15) (τ31.2.1 16) (τ31.2.1 27) (τ31.2.1 28) (τ31.2.1 29) (τ31.2.1 30) (τ31.2.1 31) (τ31.2.1 32) := by rw [show (J_f (τ31.1 24) (τ31.1 13) (τ31.1 14) (τ31.2.1 13) (τ31.2.1 14) (τ31.2.1 15) (τ31.2.1 16) (τ31.2.1 27) (τ31.2.1 28) (τ31.2.1 29) (τ31.2.1 30) (τ31.2.1 31) (τ31.2.1 32)) = (J_f (τ_109.1 24) (τ_109.1 13) (τ_109.1 14) (τ_109.2.1 13) (τ_109.2.1 14) (τ_109.2.1 15) (τ_109.2.1 16) (τ_109.2.1 27) (τ_109.2.1 28) (τ_109.2.1 29) (τ_109.2.1 30) (τ_109.2.1 31) (τ_109.2.1 32)) from by rw [w13_τ31, w14_τ31, w24_τ31, g13_τ31, g14_τ31, g15_τ31, g16_τ31, g27_τ31, g28_τ31, g29_τ31, g30_τ31, g31_τ31, g32_τ31]]; exact FRT
            have A13 : ∀ j, 0 ≤ τ31.2.1 13 j ∧ τ31.2.1 13 j ≤ 4 := fun j => hT.2 13 j
            have A14 : ∀ j, 0 ≤ τ31.2.1 14 j ∧ τ31.2.1 14 j ≤ 30000 := fun j => hT.2 14 j
            have A15 : ∀ j, 0 ≤ τ31.2.1 15 j ∧ τ31.2.1 15 j ≤ 999 := fun j => hT.2 15 j
            have A16 : ∀ j, (-1) ≤ τ31.2.1 16 j ∧ τ31.2.1 16 j ≤ 1499 := fun j => hT.2 16 j
            have A27 : ∀ j, 0 ≤ τ31.2.1 27 j ∧ τ31.2.1 27 j ≤ 90000 := fun j => hT.2 27 j
            have A28 : ∀ j, 0 ≤ τ31.2.1 28 j ∧ τ31.2.1 28 j ≤ 60 := fun j => hT.2 28 j
            have A29 : ∀ j, 0 ≤ τ31.2.1 29 j ∧ τ31.2.1 29 j ≤ 1499 := fun j => hT.2 29 j
            have A30 : ∀ j, 0 ≤ τ31.2.1 30 j ∧ τ31.2.1 30 j ≤ 20000 := fun j => hT.2 30 j
            have A31 : ∀ j, 0 ≤ τ31.2.1 31 j ∧ τ31.2.1 31 j ≤ 20000 := fun j => hT.2 31 j
            have A32 : ∀ j, 0 ≤ τ31.2.1 32 j ∧ τ31.2.1 32 j ≤ 999999 := fun j => hT.2 32 j
            have A49 : ∀ j, (-300) ≤ τ31.2.1 49 j ∧ τ31.2.1 49 j ≤ 67035 := fun j => hT.2 49 j
            have A51 : ∀ j, 0 ≤ τ31.2.1 51 j ∧ τ31.2.1 51 j ≤ 1499 := fun j => hT.2 51 j
            have v13 : 0 ≤ τ31.1 13 ∧ τ31.1 13 ≤ 90000 := hT.1 13
            have v14 : 0 ≤ τ31.1 14 ∧ τ31.1 14 ≤ 20000 := hT.1 14
            have v16 : 0 ≤ τ31.1 16 ∧ τ31.1 16 ≤ 20000 := hT.1 16
            have v21 : 0 ≤ τ31.1 21 ∧ τ31.1 21 ≤ 20000 := hT.1 21
            have v22 : 0 ≤ τ31.1 22 ∧ τ31.1 22 ≤ 300 := hT.1 22
            have v23 : 0 ≤ τ31.1 23 ∧ τ31.1 23 ≤ 300 := hT.1 23
            have v24 : 0 ≤ τ31.1 24 ∧ τ31.1 24 ≤ 1499 := hT.1 24
            have v26 : 0 ≤ τ31.1 26 ∧ τ31.1 26 ≤ 5000010 := hT.1 26
            have v27 : 0 ≤ τ31.1 27 ∧ τ31.1 27 ≤ 1 := hT.1 27
            have a27_24 : 0 ≤ τ31.2.1 27 (τ31.1 24) ∧ τ31.2.1 27 (τ31.1 24) ≤ 90000 := hT.2 27 _
            have a28_24 : 0 ≤ τ31.2.1 28 (τ31.1 24) ∧ τ31.2.1 28 (τ31.1 24) ≤ 60 := hT.2 28 _
            have SP : J_sp (τ31.1 24) (τ31.1 21) (τ31.1 23) (τ31.1 22) (τ31.2.1 49) (τ31.2.1 51) := by rw [w24_τ31, q29_1, w23_τ31, w22_τ31, q29_2, g51_τ31, w24_τ_109, w21_τ_109, w23_τ_109, w22_τ_109, g49_τ_109, g51_τ_109]; exact J_sp_a SP_0 (by omega) (Or.inr ⟨by omega, by rw [e_x18, show n1 - x7 - 1 = n1 - x7 - 1 from rfl]; exact lk, by omega⟩)
            have AAn : ¬ τ31.1 27 = 0 → 1 ≤ τ31.1 21 ∧ 0 ≤ τ31.2.1 49 (τ31.1 21 - 1) ∧ τ31.2.1 49 (τ31.1 21 - 1) < 65536 := fun _ => by rw [q29_2, show τ31.1 21 - 1 = τ_109.1 21 from by omega, st_s]; omega
            exact ⟨hT, (show 0 ≤ 0 ∧ 0 ≤ 19 from by (first | omega | (simp only [st_s] <;> omega) | assumption | omega | fail)), (show 0 = 0 → J_sp (τ31.1 24) (τ31.1 21) (τ31.1 23) (τ31.1 22) (τ31.2.1 49) (τ31.2.1 51) from by (intro z; first | (exfalso; omega) | exact SP | omega)), (show 0 = 0 → (τ31.1 16) + (τ31.1 21) ≤ 20000 from by (intro z; first | (exfalso; omega) | omega)), (show ¬ (τ31.1 27) = 0 → 1 ≤ (τ31.1 21) ∧ 0 ≤ τ31.2.1 49 ((τ31.1 21) - 1) ∧ τ31.2.1 49 ((τ31.1 21) - 1) < 65536 from by (first | omega | exact AAn | fail)), (show (τ31.1 26) = 0 from by (first | omega | (simp only [st_s] <;> omega) | assumption | omega | fail))⟩
      ·
        intro x22 r_x22 e_x22
        have b_x22 : 0 ≤ x22 ∧ x22 ≤ 90000 := by rw [e_x22]; exact hT.2 27 _
        refine ⟨(show 0 ≤ ((x22 + n1) - 1) ∧ ((x22 + n1) - 1) < 90000 from by (first | omega | (simp only [st_s] <;> omega) | assumption | omega | fail)), ?_⟩
        intro x24 r_x24 e_x24
        have b_x24 : 0 ≤ x24 ∧ x24 ≤ 1499 := by rw [e_x24]; exact hT.2 29 _
        have hk := FRT_0.2.1 (n1 - 1) (by omega) (by omega)
        refine ⟨_, K2_X10_addStep hT (show -300 ≤ x24 from by (first | omega | (simp only [st_s] <;> omega) | assumption | omega | fail)) (show x24 ≤ 67035 from by (first | omega | (simp only [st_s] <;> omega) | assumption | omega | fail)) (show (σ.1 21) < 20000 from by (first | omega | (simp only [st_s] <;> omega) | assumption | omega | fail)), ?_⟩
        intro τ27 hn_τ27 hf_τ27 hq
        obtain ⟨hT, q25_1, q25_2⟩ := hq
        replace q25_1 : (τ27.1 21) = (σ.1 21) + 1 := q25_1
        replace q25_2 : τ27.2.1 49 = st (σ.2.1 49) (σ.1 21) x24 := q25_2
        have w13_τ27 : τ27.1 13 = σ.1 13 := hf_τ27.1 13 (by decide)
        have w14_τ27 : τ27.1 14 = σ.1 14 := hf_τ27.1 14 (by decide)
        have w16_τ27 : τ27.1 16 = σ.1 16 := hf_τ27.1 16 (by decide)
        have w22_τ27 : τ27.1 22 = σ.1 22 := hf_τ27.1 22 (by decide)
        have w23_τ27 : τ27.1 23 = σ.1 23 := hf_τ27.1 23 (by decide)
        have w24_τ27 : τ27.1 24 = σ.1 24 := hf_τ27.1 24 (by decide)
        have w26_τ27 : τ27.1 26 = 0 := hf_τ27.1 26 (by decide)
        have w27_τ27 : τ27.1 27 = σ.1 27 := hf_τ27.1 27 (by decide)
        have g13_τ27 : τ27.2.1 13 = σ.2.1 13 := hf_τ27.2.1 13 (by decide)
        have g14_τ27 : τ27.2.1 14 = σ.2.1 14 := hf_τ27.2.1 14 (by decide)
        have g15_τ27 : τ27.2.1 15 = σ.2.1 15 := hf_τ27.2.1 15 (by decide)
        have g16_τ27 : τ27.2.1 16 = σ.2.1 16 := hf_τ27.2.1 16 (by decide)
        have g27_τ27 : τ27.2.1 27 = σ.2.1 27 := hf_τ27.2.1 27 (by decide)
        have g28_τ27 : τ27.2.1 28 = σ.2.1 28 := hf_τ27.2.1 28 (by decide)
        have g29_τ27 : τ27.2.1 29 = σ.2.1 29 := hf_τ27.2.1 29 (by decide)
        have g30_τ27 : τ27.2.1 30 = σ.2.1 30 := hf_τ27.2.1 30 (by decide)
        have g31_τ27 : τ27.2.1 31 = σ.2.1 31 := hf_τ27.2.1 31 (by decide)
        have g32_τ27 : τ27.2.1 32 = σ.2.1 32 := hf_τ27.2.1 32 (by decide)
        have g51_τ27 : τ27.2.1 51 = σ.2.1 51 := hf_τ27.2.1 51 (by decide)
        have W13 : τ27.1 13 = σ.1 13 := by first | exact w13_τ27.trans W13 | omega
        have W14 : τ27.1 14 = σ.1 14 := by first | exact w14_τ27.trans W14 | omega
        have W16 : τ27.1 16 = σ.1 16 := by first | exact w16_τ27.trans W16 | omega
        have W22 : τ27.1 22 = σ.1 22 := by first | exact w22_τ27.trans W22 | omega
        have W23 : τ27.1 23 = σ.1 23 := by first | exact w23_τ27.trans W23 | omega
        have W24 : τ27.1 24 = σ.1 24 := by first | exact w24_τ27.trans W24 | omega
        have G13 : τ27.2.1 13 = σ.2.1 13 := (g13_τ27).trans G13
        have G14 : τ27.2.1 14 = σ.2.1 14 := (g14_τ27).trans G14
        have G15 : τ27.2.1 15 = σ.2.1 15 := (g15_τ27).trans G15
        have G16 : τ27.2.1 16 = σ.2.1 16 := (g16_τ27).trans G16
        have G27 : τ27.2.1 27 = σ.2.1 27 := (g27_τ27).trans G27
        have G28 : τ27.2.1 28 = σ.2.1 28 := (g28_τ27).trans G28
        have G29 : τ27.2.1 29 = σ.2.1 29 := (g29_τ27).trans G29
        have G30 : τ27.2.1 30 = σ.2.1 30 := (g30_τ27).trans G30
        have G31 : τ27.2.1 31 = σ.2.1 31 := (g31_τ27).trans G31
        have G32 : τ27.2.1 32 = σ.2.1 32 := (g32_τ27).trans G32
        have G51 : τ27.2.1 51 = σ.2.1 51 := (g51_τ27).trans G51
        have y27_24_τ27 : τ27.2.1 27 (τ27.1 24) = (σ.2.1 27) (σ.1 24) := by rw [g27_τ27, w24_τ27]
        have y28_24_τ27 : τ27.2.1 28 (τ27.1 24) = (σ.2.1 28) (σ.1 24) := by rw [g28_τ27, w24_τ27]
        have FRT : J_f (τ27.1 24) (τ27.1 13) (τ27.1 14) (τ27.2.1 13) (τ27.2.1 14) (τ27.2.1 15) (τ27.2.1 16) (τ27.2.1 27) (τ27.2.1 28) (τ27.2.1 29) (τ27.2.1 30) (τ27.2.1 31) (τ27.2.1 32) := by rw [show (J_f (τ27.1 24) (τ27.1 13) (τ27.1 14) (τ27.2.1 13) (τ27.2.1 14) (τ27.2.1 15) (τ27.2.1 16) (τ27.2.1 27) (τ27.2.1 28) (τ27.2.1 29) (τ27.2.1 30) (τ27.2.1 31) (τ27.2.1 32)) = (J_f (σ.1 24) (σ.1 13) (σ.1 14) (σ.2.1 13) (σ.2.1 14) (σ.2.1 15) (σ.2.1 16) (σ.2.1 27) (σ.2.1 28) (σ.2.1 29) (σ.2.1 30) (σ.2.1 31) (σ.2.1 32)) from by rw [w13_τ27, w14_τ27, w24_τ27, g13_τ27, g14_τ27, g15_τ27, g16_τ27, g27_τ27, g28_τ27, g29_τ27, g30_τ27, g31_τ27, g32_τ27]]; exact FRT
        have A13 : ∀ j, 0 ≤ τ27.2.1 13 j ∧ τ27.2.1 13 j ≤ 4 := fun j => hT.2 13 j
        have A14 : ∀ j, 0 ≤ τ27.2.1 14 j ∧ τ27.2.1 14 j ≤ 30000 := fun j => hT.2 14 j
        have A15 : ∀ j, 0 ≤ τ27.2.1 15 j ∧ τ27.2.1 15 j ≤ 999 := fun j => hT.2 15 j
        have A16 : ∀ j, (-1) ≤ τ27.2.1 16 j ∧ τ27.2.1 16 j ≤ 1499 := fun j => hT.2 16 j
        have A27 : ∀ j, 0 ≤ τ27.2.1 27 j ∧ τ27.2.1 27 j ≤ 90000 := fun j => hT.2 27 j
        have A28 : ∀ j, 0 ≤ τ27.2.1 28 j ∧ τ27.2.1 28 j ≤ 60 := fun j => hT.2 28 j
        have A29 : ∀ j, 0 ≤ τ27.2.1 29 j ∧ τ27.2.1 29 j ≤ 1499 := fun j => hT.2 29 j
        have A30 : ∀ j, 0 ≤ τ27.2.1 30 j ∧ τ27.2.1 30 j ≤ 20000 := fun j => hT.2 30 j
        have A31 : ∀ j, 0 ≤ τ27.2.1 31 j ∧ τ27.2.1 31 j ≤ 20000 := fun j => hT.2 31 j
        have A32 : ∀ j, 0 ≤ τ27.2.1 32 j ∧ τ27.2.1 32 j ≤ 999999 := fun j => hT.2 32 j
        have A49 : ∀ j, (-300) ≤ τ27.2.1 49 j ∧ τ27.2.1 49 j ≤ 67035 := fun j => hT.2 49 j
        have A51 : ∀ j, 0 ≤ τ27.2.1 51 j ∧ τ27.2.1 51 j ≤ 1499 := fun j => hT.2 51 j
        have v13 : 0 ≤ τ27.1 13 ∧ τ27.1 13 ≤ 90000 := hT.1 13
        have v14 : 0 ≤ τ27.1 14 ∧ τ27.1 14 ≤ 20000 := hT.1 14
        have v16 : 0 ≤ τ27.1 16 ∧ τ27.1 16 ≤ 20000 := hT.1 16
        have v21 : 0 ≤ τ27.1 21 ∧ τ27.1 21 ≤ 20000 := hT.1 21
        have v22 : 0 ≤ τ27.1 22 ∧ τ27.1 22 ≤ 300 := hT.1 22
        have v23 : 0 ≤ τ27.1 23 ∧ τ27.1 23 ≤ 300 := hT.1 23
        have v24 : 0 ≤ τ27.1 24 ∧ τ27.1 24 ≤ 1499 := hT.1 24
        have v26 : 0 ≤ τ27.1 26 ∧ τ27.1 26 ≤ 5000010 := hT.1 26
        have v27 : 0 ≤ τ27.1 27 ∧ τ27.1 27 ≤ 1 := hT.1 27
        have a27_24 : 0 ≤ τ27.2.1 27 (τ27.1 24) ∧ τ27.2.1 27 (τ27.1 24) ≤ 90000 := hT.2 27 _
        have a28_24 : 0 ≤ τ27.2.1 28 (τ27.1 24) ∧ τ27.2.1 28 (τ27.1 24) ≤ 60 := hT.2 28 _
        have SP : J_sp (τ27.1 24) (τ27.1 21) (τ27.1 23) (τ27.1 22) (τ27.2.1 49) (τ27.2.1 51) := by rw [w24_τ27, q25_1, w23_τ27, w22_τ27, q25_2, g51_τ27]; exact J_sp_a SP_0 (by omega) (Or.inr ⟨by omega, by rw [e_x24, e_x22, show σ.2.1 27 (σ.1 24) + n1 - 1 = σ.2.1 27 (σ.1 24) + (n1 - 1) from by omega]; exact hk.1, by omega⟩)
        exact ⟨hT, (show 0 ≤ 0 ∧ 0 ≤ 19 from by (first | omega | (simp only [st_s] <;> omega) | assumption | omega | fail)), (show 0 = 0 → J_sp (τ27.1 24) (τ27.1 21) (τ27.1 23) (τ27.1 22) (τ27.2.1 49) (τ27.2.1 51) from by (intro z; first | (exfalso; omega) | exact SP | omega)), (show 0 = 0 → (τ27.1 16) + (τ27.1 21) ≤ 20000 from by (intro z; first | (exfalso; omega) | omega)), (show ¬ (τ27.1 27) = 0 → 1 ≤ (τ27.1 21) ∧ 0 ≤ τ27.2.1 49 ((τ27.1 21) - 1) ∧ τ27.2.1 49 ((τ27.1 21) - 1) < 65536 from by (first | omega | exact AAn | fail)), (show (τ27.1 26) = 0 from by (first | omega | (simp only [st_s] <;> omega) | assumption | omega | fail))⟩
    ·
      exact ⟨hT, (show 0 ≤ 5 ∧ 5 ≤ 19 from by (first | omega | (simp only [st_s] <;> omega) | assumption | omega | fail)), (show 5 = 0 → J_sp (σ.1 24) (σ.1 21) (σ.1 23) (σ.1 22) (σ.2.1 49) (σ.2.1 51) from by (intro z; first | (exfalso; omega) | exact SP | omega)), (show 5 = 0 → (σ.1 16) + (σ.1 21) ≤ 20000 from by (intro z; first | (exfalso; omega) | omega)), (show ¬ (σ.1 27) = 0 → 1 ≤ (σ.1 21) ∧ 0 ≤ σ.2.1 49 ((σ.1 21) - 1) ∧ σ.2.1 49 ((σ.1 21) - 1) < 65536 from by (first | omega | exact AAn | fail)), (show ((0 : Int)) = 0 from by (first | omega | (simp only [st_s] <;> omega) | assumption | omega | fail))⟩
set_option maxHeartbeats 1000000 in
theorem K_X10_save {σ : S0} (hT : c_T σ) (p1 : J_sp (σ.1 24) (σ.1 21) (σ.1 23) (σ.1 22) (σ.2.1 49) (σ.2.1 51)) (p2 : ¬ (σ.1 27) = 0 → 1 ≤ (σ.1 21) ∧ 0 ≤ σ.2.1 49 ((σ.1 21) - 1) ∧ σ.2.1 49 ((σ.1 21) - 1) < 65536) : W_X10_save σ (fun (x : Int) (τ : S0) => (c_T τ) ∧ (0 ≤ x ∧ x ≤ 19) ∧ (x = 0 → J_sp (τ.1 24) (τ.1 21) (τ.1 23) (τ.1 22) (τ.2.1 49) (τ.2.1 51)) ∧ (x = 0 → (τ.1 27) = 0)) := by
  have A49 : ∀ j, (-300) ≤ σ.2.1 49 j ∧ σ.2.1 49 j ≤ 67035 := fun j => hT.2 49 j
  have A51 : ∀ j, 0 ≤ σ.2.1 51 j ∧ σ.2.1 51 j ≤ 1499 := fun j => hT.2 51 j
  have v21 : 0 ≤ σ.1 21 ∧ σ.1 21 ≤ 20000 := hT.1 21
  have v22 : 0 ≤ σ.1 22 ∧ σ.1 22 ≤ 300 := hT.1 22
  have v23 : 0 ≤ σ.1 23 ∧ σ.1 23 ≤ 300 := hT.1 23
  have v24 : 0 ≤ σ.1 24 ∧ σ.1 24 ≤ 1499 := hT.1 24
  have v27 : 0 ≤ σ.1 27 ∧ σ.1 27 ≤ 1 := hT.1 27
  have W21 : σ.1 21 = σ.1 21 := rfl
  have W22 : σ.1 22 = σ.1 22 := rfl
  have W24 : σ.1 24 = σ.1 24 := rfl
  have G51 : σ.2.1 51 = σ.2.1 51 := rfl
  have SP : J_sp (σ.1 24) (σ.1 21) (σ.1 23) (σ.1 22) (σ.2.1 49) (σ.2.1 51) := p1
  have SP_0 := SP
  unfold W_X10_save
  refine ⟨fun c1 => ?_, fun c1 => ?_⟩
  ·
    refine ⟨fun c2 => ?_, fun c2 => ?_⟩
    ·
      replace hT := cT_v (i := 27) hT (show (0 : Int) ≤ 0 ∧ 0 ≤ 1 from by (first | omega | (simp only [st_s] <;> omega) | assumption | omega | fail))
      have aa := p2 c1
      have spm := p1.1 (σ.1 21 - 1) (by omega) (by omega)
      refine ⟨(show 0 ≤ (σ.1 21 - 1) ∧ (σ.1 21 - 1) < 20000 from by (first | omega | (simp only [st_s] <;> omega) | assumption | omega | fail)), ?_⟩
      intro x4 r_x4 e_x4
      have b_x4 : (-300) ≤ x4 ∧ x4 ≤ 67035 := by rw [e_x4]; exact hT.2 49 _
      intro x5 r_x5 h1_x5 h2_x5 h3_x5
      have SPn := J_sp_v SP_0 (x := x5) (by omega) (by omega) (by omega) (by omega)
      replace hT := cT_a (k := 49) (j := (σ.1 21 - 1)) hT (show (-300 : Int) ≤ x5 ∧ x5 ≤ 67035 from by (first | omega | (simp only [st_s] <;> omega) | assumption | omega | fail))
      refine ⟨(⟨by (first | omega | (simp only [st_s] <;> omega) | assumption | omega | fail), by (first | omega | (simp only [st_s] <;> omega) | assumption | omega | fail)⟩ : rg (σ.1 23 + 1)), ?_⟩
      replace hT := cT_v (i := 23) hT (show 0 ≤ (σ.1 23 + 1) ∧ (σ.1 23 + 1) ≤ 300 from by (first | omega | (simp only [st_s] <;> omega) | assumption | omega | fail))
      exact ⟨hT, (show 0 ≤ 0 ∧ 0 ≤ 19 from by (first | omega | (simp only [st_s] <;> omega) | assumption | omega | fail)), (show 0 = 0 → J_sp (σ.1 24) (σ.1 21) ((σ.1 23 + 1)) (σ.1 22) ((st (σ.2.1 49) (σ.1 21 - 1) x5)) (σ.2.1 51) from by (first | (intro z; exfalso; omega) | (intro _; exact SPn) | fail)), (show 0 = 0 → ((0 : Int)) = 0 from by (first | omega | (simp only [st_s] <;> omega) | assumption | omega | fail))⟩
    ·
      exact ⟨hT, (show 0 ≤ 5 ∧ 5 ≤ 19 from by (first | omega | (simp only [st_s] <;> omega) | assumption | omega | fail)), (show 5 = 0 → J_sp (σ.1 24) (σ.1 21) (σ.1 23) (σ.1 22) (σ.2.1 49) (σ.2.1 51) from by (first | (intro z; exfalso; omega) | (intro _; exact SPn) | fail)), (show 5 = 0 → (σ.1 27) = 0 from by (first | omega | (simp only [st_s] <;> omega) | assumption | omega | fail))⟩
  ·
    exact ⟨hT, (show 0 ≤ 14 ∧ 14 ≤ 19 from by (first | omega | (simp only [st_s] <;> omega) | assumption | omega | fail)), (show 14 = 0 → J_sp (σ.1 24) (σ.1 21) (σ.1 23) (σ.1 22) (σ.2.1 49) (σ.2.1 51) from by (first | (intro z; exfalso; omega) | (intro _; exact SPn) | fail)), (show 14 = 0 → (σ.1 27) = 0 from by (first | omega | (simp only [st_s] <;> omega) | assumption | omega | fail))⟩
set_option maxHeartbeats 1000000 in
theorem K_X10_letter {n1 : Int} {σ : S0} (hT : c_T σ) (p1 : 0 ≤ n1) (p2 : n1 ≤ 255) (p3 : J_sp (σ.1 24) (σ.1 21) (σ.1 23) (σ.1 22) (σ.2.1 49) (σ.2.1 51)) (p4 : (σ.1 16) + (σ.1 21) ≤ 20000) (p5 : J_f (σ.1 24) (σ.1 13) (σ.1 14) (σ.2.1 13) (σ.2.1 14) (σ.2.1 15) (σ.2.1 16) (σ.2.1 27) (σ.2.1 28) (σ.2.1 29) (σ.2.1 30) (σ.2.1 31) (σ.2.1 32)) (p6 : ¬ (σ.1 27) = 0 → 1 ≤ (σ.1 21) ∧ 0 ≤ σ.2.1 49 ((σ.1 21) - 1) ∧ σ.2.1 49 ((σ.1 21) - 1) < 65536) (p7 : (σ.1 26) ≤ 1000000) : W_X10_letter n1 σ (fun (x : Int) (τ : S0) => (c_T τ) ∧ (0 ≤ x ∧ x ≤ 19) ∧ (x = 0 → J_sp (τ.1 24) (τ.1 21) (τ.1 23) (τ.1 22) (τ.2.1 49) (τ.2.1 51)) ∧ (x = 0 → (τ.1 16) + (τ.1 21) ≤ 20000) ∧ (x = 0 → ¬ (τ.1 27) = 0 → 1 ≤ (τ.1 21) ∧ 0 ≤ τ.2.1 49 ((τ.1 21) - 1) ∧ τ.2.1 49 ((τ.1 21) - 1) < 65536) ∧ (x = 0 → (τ.1 26) ≤ 1000000)) := by
  have A13 : ∀ j, 0 ≤ σ.2.1 13 j ∧ σ.2.1 13 j ≤ 4 := fun j => hT.2 13 j
  have A14 : ∀ j, 0 ≤ σ.2.1 14 j ∧ σ.2.1 14 j ≤ 30000 := fun j => hT.2 14 j
  have A15 : ∀ j, 0 ≤ σ.2.1 15 j ∧ σ.2.1 15 j ≤ 999 := fun j => hT.2 15 j
  have A16 : ∀ j, (-1) ≤ σ.2.1 16 j ∧ σ.2.1 16 j ≤ 1499 := fun j => hT.2 16 j
  have A27 : ∀ j, 0 ≤ σ.2.1 27 j ∧ σ.2.1 27 j ≤ 90000 := fun j => hT.2 27 j
  have A28 : ∀ j, 0 ≤ σ.2.1 28 j ∧ σ.2.1 28 j ≤ 60 := fun j => hT.2 28 j
  have A29 : ∀ j, 0 ≤ σ.2.1 29 j ∧ σ.2.1 29 j ≤ 1499 := fun j => hT.2 29 j
  have A30 : ∀ j, 0 ≤ σ.2.1 30 j ∧ σ.2.1 30 j ≤ 20000 := fun j => hT.2 30 j
  have A31 : ∀ j, 0 ≤ σ.2.1 31 j ∧ σ.2.1 31 j ≤ 20000 := fun j => hT.2 31 j
  have A32 : ∀ j, 0 ≤ σ.2.1 32 j ∧ σ.2.1 32 j ≤ 999999 := fun j => hT.2 32 j
  have A49 : ∀ j, (-300) ≤ σ.2.1 49 j ∧ σ.2.1 49 j ≤ 67035 := fun j => hT.2 49 j
  have A51 : ∀ j, 0 ≤ σ.2.1 51 j ∧ σ.2.1 51 j ≤ 1499 := fun j => hT.2 51 j
  have v13 : 0 ≤ σ.1 13 ∧ σ.1 13 ≤ 90000 := hT.1 13
  have v14 : 0 ≤ σ.1 14 ∧ σ.1 14 ≤ 20000 := hT.1 14
  have v16 : 0 ≤ σ.1 16 ∧ σ.1 16 ≤ 20000 := hT.1 16
  have v21 : 0 ≤ σ.1 21 ∧ σ.1 21 ≤ 20000 := hT.1 21
  have v22 : 0 ≤ σ.1 22 ∧ σ.1 22 ≤ 300 := hT.1 22
  have v23 : 0 ≤ σ.1 23 ∧ σ.1 23 ≤ 300 := hT.1 23
  have v24 : 0 ≤ σ.1 24 ∧ σ.1 24 ≤ 1499 := hT.1 24
  have v26 : 0 ≤ σ.1 26 ∧ σ.1 26 ≤ 5000010 := hT.1 26
  have v27 : 0 ≤ σ.1 27 ∧ σ.1 27 ≤ 1 := hT.1 27
  have W13 : σ.1 13 = σ.1 13 := rfl
  have W14 : σ.1 14 = σ.1 14 := rfl
  have W16 : σ.1 16 = σ.1 16 := rfl
  have W22 : σ.1 22 = σ.1 22 := rfl
  have W24 : σ.1 24 = σ.1 24 := rfl
  have G13 : σ.2.1 13 = σ.2.1 13 := rfl
  have G14 : σ.2.1 14 = σ.2.1 14 := rfl
  have G15 : σ.2.1 15 = σ.2.1 15 := rfl
  have G16 : σ.2.1 16 = σ.2.1 16 := rfl
  have G27 : σ.2.1 27 = σ.2.1 27 := rfl
  have G28 : σ.2.1 28 = σ.2.1 28 := rfl
  have G29 : σ.2.1 29 = σ.2.1 29 := rfl
  have G30 : σ.2.1 30 = σ.2.1 30 := rfl
  have G31 : σ.2.1 31 = σ.2.1 31 := rfl
  have G32 : σ.2.1 32 = σ.2.1 32 := rfl
  have G51 : σ.2.1 51 = σ.2.1 51 := rfl
  intro P52 P96 h52 h96
  have SP : J_sp (σ.1 24) (σ.1 21) (σ.1 23) (σ.1 22) (σ.2.1 49) (σ.2.1 51) := p3
  have FRT : J_f (σ.1 24) (σ.1 13) (σ.1 14) (σ.2.1 13) (σ.2.1 14) (σ.2.1 15) (σ.2.1 16) (σ.2.1 27) (σ.2.1 28) (σ.2.1 29) (σ.2.1 30) (σ.2.1 31) (σ.2.1 32) := p5
  have FRT_0 := FRT
  have SP_0 := SP
  refine ⟨fun c1 => ?_, fun c1 => ?_⟩
  ·
    replace hT := cT_v (i := 27) hT (show (0 : Int) ≤ 0 ∧ 0 ≤ 1 from by (first | omega | (simp only [st_s] <;> omega) | assumption | omega | fail))
    refine ⟨fun c2 => ?_, fun c2 => ?_⟩
    ·
      obtain ⟨τ_52, e_τ_52⟩ : ∃ z : S0, z = s_v σ 27 0 := ⟨_, rfl⟩
      rw [← e_τ_52]
      replace hT : c_T τ_52 := by rw [e_τ_52]; exact hT
      have w13_τ_52 : τ_52.1 13 = σ.1 13 := by rw [e_τ_52]; rfl
      have w14_τ_52 : τ_52.1 14 = σ.1 14 := by rw [e_τ_52]; rfl
      have w16_τ_52 : τ_52.1 16 = σ.1 16 := by rw [e_τ_52]; rfl
      have w21_τ_52 : τ_52.1 21 = σ.1 21 := by rw [e_τ_52]; rfl
      have w22_τ_52 : τ_52.1 22 = σ.1 22 := by rw [e_τ_52]; rfl
      have w23_τ_52 : τ_52.1 23 = σ.1 23 := by rw [e_τ_52]; rfl
      have w24_τ_52 : τ_52.1 24 = σ.1 24 := by rw [e_τ_52]; rfl
      have w26_τ_52 : τ_52.1 26 = σ.1 26 := by rw [e_τ_52]; rfl
      have w27_τ_52 : τ_52.1 27 = 0 := by rw [e_τ_52]; rfl
      have g13_τ_52 : τ_52.2.1 13 = σ.2.1 13 := by rw [e_τ_52]; rfl
      have g14_τ_52 : τ_52.2.1 14 = σ.2.1 14 := by rw [e_τ_52]; rfl
      have g15_τ_52 : τ_52.2.1 15 = σ.2.1 15 := by rw [e_τ_52]; rfl
      have g16_τ_52 : τ_52.2.1 16 = σ.2.1 16 := by rw [e_τ_52]; rfl
      have g27_τ_52 : τ_52.2.1 27 = σ.2.1 27 := by rw [e_τ_52]; rfl
      have g28_τ_52 : τ_52.2.1 28 = σ.2.1 28 := by rw [e_τ_52]; rfl
      have g29_τ_52 : τ_52.2.1 29 = σ.2.1 29 := by rw [e_τ_52]; rfl
      have g30_τ_52 : τ_52.2.1 30 = σ.2.1 30 := by rw [e_τ_52]; rfl
      have g31_τ_52 : τ_52.2.1 31 = σ.2.1 31 := by rw [e_τ_52]; rfl
      have g32_τ_52 : τ_52.2.1 32 = σ.2.1 32 := by rw [e_τ_52]; rfl
      have g49_τ_52 : τ_52.2.1 49 = σ.2.1 49 := by rw [e_τ_52]; rfl
      have g51_τ_52 : τ_52.2.1 51 = σ.2.1 51 := by rw [e_τ_52]; rfl
      have W13 : τ_52.1 13 = σ.1 13 := by first | exact w13_τ_52.trans W13 | omega
      have W14 : τ_52.1 14 = σ.1 14 := by first | exact w14_τ_52.trans W14 | omega
      have W16 : τ_52.1 16 = σ.1 16 := by first | exact w16_τ_52.trans W16 | omega
      have W22 : τ_52.1 22 = σ.1 22 := by first | exact w22_τ_52.trans W22 | omega
      have W24 : τ_52.1 24 = σ.1 24 := by first | exact w24_τ_52.trans W24 | omega
      have G13 : τ_52.2.1 13 = σ.2.1 13 := (g13_τ_52).trans G13
      have G14 : τ_52.2.1 14 = σ.2.1 14 := (g14_τ_52).trans G14
      have G15 : τ_52.2.1 15 = σ.2.1 15 := (g15_τ_52).trans G15
      have G16 : τ_52.2.1 16 = σ.2.1 16 := (g16_τ_52).trans G16
      have G27 : τ_52.2.1 27 = σ.2.1 27 := (g27_τ_52).trans G27
      have G28 : τ_52.2.1 28 = σ.2.1 28 := (g28_τ_52).trans G28
      have G29 : τ_52.2.1 29 = σ.2.1 29 := (g29_τ_52).trans G29
      have G30 : τ_52.2.1 30 = σ.2.1 30 := (g30_τ_52).trans G30
      have G31 : τ_52.2.1 31 = σ.2.1 31 := (g31_τ_52).trans G31
      have G32 : τ_52.2.1 32 = σ.2.1 32 := (g32_τ_52).trans G32
      have G51 : τ_52.2.1 51 = σ.2.1 51 := (g51_τ_52).trans G51
      have SP : J_sp (τ_52.1 24) (τ_52.1 21) (τ_52.1 23) (τ_52.1 22) (τ_52.2.1 49) (τ_52.2.1 51) := by rw [show (J_sp (τ_52.1 24) (τ_52.1 21) (τ_52.1 23) (τ_52.1 22) (τ_52.2.1 49) (τ_52.2.1 51)) = (J_sp (σ.1 24) (σ.1 21) (σ.1 23) (σ.1 22) (σ.2.1 49) (σ.2.1 51)) from by rw [w21_τ_52, w22_τ_52, w23_τ_52, w24_τ_52, g49_τ_52, g51_τ_52]]; exact SP
      have FRT : J_f (τ_52.1 24) (τ_52.1 13) (τ_52.1 14) (τ_52.2.1 13) (τ_52.2.1 14) (τ_52.2.1 15) (τ_52.2.1 16) (τ_52.2.1 27) (τ_52.2.1 28) (τ_52.2.1 29) (τ_52.2.1 30) (τ_52.2.1 31) (τ_52.2.1 32) := by rw [show (J_f (τ_52.1 24) (τ_52.1 13) (τ_52.1 14) (τ_52.2.1 13) (τ_52.2.1 14) (τ_52.2.1 15) (τ_52.2.1 16) (τ_52.2.1 27) (τ_52.2.1 28) (τ_52.2.1 29) (τ_52.2.1 30) (τ_52.2.1 31) (τ_52.2.1 32)) = (J_f (σ.1 24) (σ.1 13) (σ.1 14) (σ.2.1 13) (σ.2.1 14) (σ.2.1 15) (σ.2.1 16) (σ.2.1 27) (σ.2.1 28) (σ.2.1 29) (σ.2.1 30) (σ.2.1 31) (σ.2.1 32)) from by rw [w13_τ_52, w14_τ_52, w24_τ_52, g13_τ_52, g14_τ_52, g15_τ_52, g16_τ_52, g27_τ_52, g28_τ_52, g29_τ_52, g30_τ_52, g31_τ_52, g32_τ_52]]; exact FRT
      have A13 : ∀ j, 0 ≤ τ_52.2.1 13 j ∧ τ_52.2.1 13 j ≤ 4 := fun j => hT.2 13 j
      have A14 : ∀ j, 0 ≤ τ_52.2.1 14 j ∧ τ_52.2.1 14 j ≤ 30000 := fun j => hT.2 14 j
      have A15 : ∀ j, 0 ≤ τ_52.2.1 15 j ∧ τ_52.2.1 15 j ≤ 999 := fun j => hT.2 15 j
      have A16 : ∀ j, (-1) ≤ τ_52.2.1 16 j ∧ τ_52.2.1 16 j ≤ 1499 := fun j => hT.2 16 j
      have A27 : ∀ j, 0 ≤ τ_52.2.1 27 j ∧ τ_52.2.1 27 j ≤ 90000 := fun j => hT.2 27 j
      have A28 : ∀ j, 0 ≤ τ_52.2.1 28 j ∧ τ_52.2.1 28 j ≤ 60 := fun j => hT.2 28 j
      have A29 : ∀ j, 0 ≤ τ_52.2.1 29 j ∧ τ_52.2.1 29 j ≤ 1499 := fun j => hT.2 29 j
      have A30 : ∀ j, 0 ≤ τ_52.2.1 30 j ∧ τ_52.2.1 30 j ≤ 20000 := fun j => hT.2 30 j
      have A31 : ∀ j, 0 ≤ τ_52.2.1 31 j ∧ τ_52.2.1 31 j ≤ 20000 := fun j => hT.2 31 j
      have A32 : ∀ j, 0 ≤ τ_52.2.1 32 j ∧ τ_52.2.1 32 j ≤ 999999 := fun j => hT.2 32 j
      have A49 : ∀ j, (-300) ≤ τ_52.2.1 49 j ∧ τ_52.2.1 49 j ≤ 67035 := fun j => hT.2 49 j
      have A51 : ∀ j, 0 ≤ τ_52.2.1 51 j ∧ τ_52.2.1 51 j ≤ 1499 := fun j => hT.2 51 j
      have v13 : 0 ≤ τ_52.1 13 ∧ τ_52.1 13 ≤ 90000 := hT.1 13
      have v14 : 0 ≤ τ_52.1 14 ∧ τ_52.1 14 ≤ 20000 := hT.1 14
      have v16 : 0 ≤ τ_52.1 16 ∧ τ_52.1 16 ≤ 20000 := hT.1 16
      have v21 : 0 ≤ τ_52.1 21 ∧ τ_52.1 21 ≤ 20000 := hT.1 21
      have v22 : 0 ≤ τ_52.1 22 ∧ τ_52.1 22 ≤ 300 := hT.1 22
      have v23 : 0 ≤ τ_52.1 23 ∧ τ_52.1 23 ≤ 300 := hT.1 23
      have v24 : 0 ≤ τ_52.1 24 ∧ τ_52.1 24 ≤ 1499 := hT.1 24
      have v26 : 0 ≤ τ_52.1 26 ∧ τ_52.1 26 ≤ 5000010 := hT.1 26
      have v27 : 0 ≤ τ_52.1 27 ∧ τ_52.1 27 ≤ 1 := hT.1 27
      refine h52 _ _ ?_
      refine ⟨fun c11 => ?_, fun c11 => ?_⟩
      ·
        refine h96 _ _ ?_
        refine ⟨fun c15 => ?_, fun c15 => ?_⟩
        ·
          exact ⟨hT, (show 0 ≤ 14 ∧ 14 ≤ 19 from by (first | omega | (simp only [st_s] <;> omega) | assumption | omega | fail)), (show 14 = 0 → J_sp (τ_52.1 24) (τ_52.1 21) (τ_52.1 23) (τ_52.1 22) (τ_52.2.1 49) (τ_52.2.1 51) from by (intro z; first | (exfalso; omega) | exact SP | exact q5_2 z | exact q8_2 z | omega)), (show 14 = 0 → (τ_52.1 16) + (τ_52.1 21) ≤ 20000 from by (intro z; first | (exfalso; omega) | exact q5_3 z | omega)), (show 14 = 0 → ¬ (τ_52.1 27) = 0 → 1 ≤ (τ_52.1 21) ∧ 0 ≤ τ_52.2.1 49 ((τ_52.1 21) - 1) ∧ τ_52.2.1 49 ((τ_52.1 21) - 1) < 65536 from by (intro z; first | (exfalso; omega) | exact q5_4 | (have := q8_3 z; omega) | omega)), (show 14 = 0 → (τ_52.1 26) ≤ 1000000 from by (intro z; first | (exfalso; omega) | omega))⟩
        ·
          refine ⟨fun c16 => ?_, fun c16 => ?_⟩
          ·
            exact ⟨hT, (show 0 ≤ 14 ∧ 14 ≤ 19 from by (first | omega | (simp only [st_s] <;> omega) | assumption | omega | fail)), (show 14 = 0 → J_sp (τ_52.1 24) (τ_52.1 21) (τ_52.1 23) (τ_52.1 22) (τ_52.2.1 49) (τ_52.2.1 51) from by (intro z; first | (exfalso; omega) | exact SP | exact q5_2 z | exact q8_2 z | omega)), (show 14 = 0 → (τ_52.1 16) + (τ_52.1 21) ≤ 20000 from by (intro z; first | (exfalso; omega) | exact q5_3 z | omega)), (show 14 = 0 → ¬ (τ_52.1 27) = 0 → 1 ≤ (τ_52.1 21) ∧ 0 ≤ τ_52.2.1 49 ((τ_52.1 21) - 1) ∧ τ_52.2.1 49 ((τ_52.1 21) - 1) < 65536 from by (intro z; first | (exfalso; omega) | exact q5_4 | (have := q8_3 z; omega) | omega)), (show 14 = 0 → (τ_52.1 26) ≤ 1000000 from by (intro z; first | (exfalso; omega) | omega))⟩
          ·
            replace hT := cT_v (i := 28) hT (show (0 : Int) ≤ 1 ∧ 1 ≤ 1 from by (first | omega | (simp only [st_s] <;> omega) | assumption | omega | fail))
            exact ⟨hT, (show 0 ≤ 0 ∧ 0 ≤ 19 from by (first | omega | (simp only [st_s] <;> omega) | assumption | omega | fail)), (show 0 = 0 → J_sp (τ_52.1 24) (τ_52.1 21) (τ_52.1 23) (τ_52.1 22) (τ_52.2.1 49) (τ_52.2.1 51) from by (intro z; first | (exfalso; omega) | exact SP | exact q5_2 z | exact q8_2 z | omega)), (show 0 = 0 → (τ_52.1 16) + (τ_52.1 21) ≤ 20000 from by (intro z; first | (exfalso; omega) | exact q5_3 z | omega)), (show 0 = 0 → ¬ (τ_52.1 27) = 0 → 1 ≤ (τ_52.1 21) ∧ 0 ≤ τ_52.2.1 49 ((τ_52.1 21) - 1) ∧ τ_52.2.1 49 ((τ_52.1 21) - 1) < 65536 from by (intro z; first | (exfalso; omega) | exact q5_4 | (have := q8_3 z; omega) | omega)), (show 0 = 0 → (τ_52.1 26) ≤ 1000000 from by (intro z; first | (exfalso; omega) | omega))⟩
      ·
        refine ⟨fun c12 => ?_, fun c12 => ?_⟩
        ·
          refine h96 _ _ ?_
          refine ⟨fun c15 => ?_, fun c15 => ?_⟩
          ·
            exact ⟨hT, (show 0 ≤ 14 ∧ 14 ≤ 19 from by (first | omega | (simp only [st_s] <;> omega) | assumption | omega | fail)), (show 14 = 0 → J_sp (τ_52.1 24) (τ_52.1 21) (τ_52.1 23) (τ_52.1 22) (τ_52.2.1 49) (τ_52.2.1 51) from by (intro z; first | (exfalso; omega) | exact SP | exact q5_2 z | exact q8_2 z | omega)), (show 14 = 0 → (τ_52.1 16) + (τ_52.1 21) ≤ 20000 from by (intro z; first | (exfalso; omega) | exact q5_3 z | omega)), (show 14 = 0 → ¬ (τ_52.1 27) = 0 → 1 ≤ (τ_52.1 21) ∧ 0 ≤ τ_52.2.1 49 ((τ_52.1 21) - 1) ∧ τ_52.2.1 49 ((τ_52.1 21) - 1) < 65536 from by (intro z; first | (exfalso; omega) | exact q5_4 | (have := q8_3 z; omega) | omega)), (show 14 = 0 → (τ_52.1 26) ≤ 1000000 from by (intro z; first | (exfalso; omega) | omega))⟩
          ·
            refine ⟨fun c16 => ?_, fun c16 => ?_⟩
            ·
              exact ⟨hT, (show 0 ≤ 14 ∧ 14 ≤ 19 from by (first | omega | (simp only [st_s] <;> omega) | assumption | omega | fail)), (show 14 = 0 → J_sp (τ_52.1 24) (τ_52.1 21) (τ_52.1 23) (τ_52.1 22) (τ_52.2.1 49) (τ_52.2.1 51) from by (intro z; first | (exfalso; omega) | exact SP | exact q5_2 z | exact q8_2 z | omega)), (show 14 = 0 → (τ_52.1 16) + (τ_52.1 21) ≤ 20000 from by (intro z; first | (exfalso; omega) | exact q5_3 z | omega)), (show 14 = 0 → ¬ (τ_52.1 27) = 0 → 1 ≤ (τ_52.1 21) ∧ 0 ≤ τ_52.2.1 49 ((τ_52.1 21) - 1) ∧ τ_52.2.1 49 ((τ_52.1 21) - 1) < 65536 from by (intro z; first | (exfalso; omega) | exact q5_4 | (have := q8_3 z; omega) | omega)), (show 14 = 0 → (τ_52.1 26) ≤ 1000000 from by (intro z; first | (exfalso; omega) | omega))⟩
            ·
              replace hT := cT_v (i := 28) hT (show (0 : Int) ≤ 1 ∧ 1 ≤ 1 from by (first | omega | (simp only [st_s] <;> omega) | assumption | omega | fail))
              exact ⟨hT, (show 0 ≤ 0 ∧ 0 ≤ 19 from by (first | omega | (simp only [st_s] <;> omega) | assumption | omega | fail)), (show 0 = 0 → J_sp (τ_52.1 24) (τ_52.1 21) (τ_52.1 23) (τ_52.1 22) (τ_52.2.1 49) (τ_52.2.1 51) from by (intro z; first | (exfalso; omega) | exact SP | exact q5_2 z | exact q8_2 z | omega)), (show 0 = 0 → (τ_52.1 16) + (τ_52.1 21) ≤ 20000 from by (intro z; first | (exfalso; omega) | exact q5_3 z | omega)), (show 0 = 0 → ¬ (τ_52.1 27) = 0 → 1 ≤ (τ_52.1 21) ∧ 0 ≤ τ_52.2.1 49 ((τ_52.1 21) - 1) ∧ τ_52.2.1 49 ((τ_52.1 21) - 1) < 65536 from by (intro z; first | (exfalso; omega) | exact q5_4 | (have := q8_3 z; omega) | omega)), (show 0 = 0 → (τ_52.1 26) ≤ 1000000 from by (intro z; first | (exfalso; omega) | omega))⟩
        ·
          refine ⟨(⟨by (first | omega | (simp only [st_s] <;> omega) | assumption | omega | fail), by (first | omega | (simp only [st_s] <;> omega) | assumption | omega | fail)⟩ : rg ((((τ_52.1 26 * 5) + n1) - 85) + 1)), ?_⟩
          replace hT := cT_v (i := 26) hT (show 0 ≤ ((((τ_52.1 26 * 5) + n1) - 85) + 1) ∧ ((((τ_52.1 26 * 5) + n1) - 85) + 1) ≤ 5000010 from by (first | omega | (simp only [st_s] <;> omega) | assumption | omega | fail))
          refine ⟨fun c14 => ?_, fun c14 => ?_⟩
          ·
            exact ⟨hT, (show 0 ≤ 0 ∧ 0 ≤ 19 from by (first | omega | (simp only [st_s] <;> omega) | assumption | omega | fail)), (show 0 = 0 → J_sp (τ_52.1 24) (τ_52.1 21) (τ_52.1 23) (τ_52.1 22) (τ_52.2.1 49) (τ_52.2.1 51) from by (intro z; first | (exfalso; omega) | exact SP | exact q5_2 z | exact q8_2 z | omega)), (show 0 = 0 → (τ_52.1 16) + (τ_52.1 21) ≤ 20000 from by (intro z; first | (exfalso; omega) | exact q5_3 z | omega)), (show 0 = 0 → ¬ (τ_52.1 27) = 0 → 1 ≤ (τ_52.1 21) ∧ 0 ≤ τ_52.2.1 49 ((τ_52.1 21) - 1) ∧ τ_52.2.1 49 ((τ_52.1 21) - 1) < 65536 from by (intro z; first | (exfalso; omega) | exact q5_4 | (have := q8_3 z; omega) | omega)), (show 0 = 0 → (((((τ_52.1 26 * 5) + n1) - 85) + 1)) ≤ 1000000 from by (intro z; first | (exfalso; omega) | omega))⟩
          ·
            exact ⟨hT, (show 0 ≤ 5 ∧ 5 ≤ 19 from by (first | omega | (simp only [st_s] <;> omega) | assumption | omega | fail)), (show 5 = 0 → J_sp (τ_52.1 24) (τ_52.1 21) (τ_52.1 23) (τ_52.1 22) (τ_52.2.1 49) (τ_52.2.1 51) from by (intro z; first | (exfalso; omega) | exact SP | exact q5_2 z | exact q8_2 z | omega)), (show 5 = 0 → (τ_52.1 16) + (τ_52.1 21) ≤ 20000 from by (intro z; first | (exfalso; omega) | exact q5_3 z | omega)), (show 5 = 0 → ¬ (τ_52.1 27) = 0 → 1 ≤ (τ_52.1 21) ∧ 0 ≤ τ_52.2.1 49 ((τ_52.1 21) - 1) ∧ τ_52.2.1 49 ((τ_52.1 21) - 1) < 65536 from by (intro z; first | (exfalso; omega) | exact q5_4 | (have := q8_3 z; omega) | omega)), (show 5 = 0 → (((((τ_52.1 26 * 5) + n1) - 85) + 1)) ≤ 1000000 from by (intro z; first | (exfalso; omega) | omega))⟩
    ·
      refine ⟨fun c3 => ?_, fun c3 => ?_⟩
      ·
        obtain ⟨τ_52, e_τ_52⟩ : ∃ z : S0, z = s_v σ 27 0 := ⟨_, rfl⟩
        rw [← e_τ_52]
        replace hT : c_T τ_52 := by rw [e_τ_52]; exact hT
        have w13_τ_52 : τ_52.1 13 = σ.1 13 := by rw [e_τ_52]; rfl
        have w14_τ_52 : τ_52.1 14 = σ.1 14 := by rw [e_τ_52]; rfl
        have w16_τ_52 : τ_52.1 16 = σ.1 16 := by rw [e_τ_52]; rfl
        have w21_τ_52 : τ_52.1 21 = σ.1 21 := by rw [e_τ_52]; rfl
        have w22_τ_52 : τ_52.1 22 = σ.1 22 := by rw [e_τ_52]; rfl
        have w23_τ_52 : τ_52.1 23 = σ.1 23 := by rw [e_τ_52]; rfl
        have w24_τ_52 : τ_52.1 24 = σ.1 24 := by rw [e_τ_52]; rfl
        have w26_τ_52 : τ_52.1 26 = σ.1 26 := by rw [e_τ_52]; rfl
        have w27_τ_52 : τ_52.1 27 = 0 := by rw [e_τ_52]; rfl
        have g13_τ_52 : τ_52.2.1 13 = σ.2.1 13 := by rw [e_τ_52]; rfl
        have g14_τ_52 : τ_52.2.1 14 = σ.2.1 14 := by rw [e_τ_52]; rfl
        have g15_τ_52 : τ_52.2.1 15 = σ.2.1 15 := by rw [e_τ_52]; rfl
        have g16_τ_52 : τ_52.2.1 16 = σ.2.1 16 := by rw [e_τ_52]; rfl
        have g27_τ_52 : τ_52.2.1 27 = σ.2.1 27 := by rw [e_τ_52]; rfl
        have g28_τ_52 : τ_52.2.1 28 = σ.2.1 28 := by rw [e_τ_52]; rfl
        have g29_τ_52 : τ_52.2.1 29 = σ.2.1 29 := by rw [e_τ_52]; rfl
        have g30_τ_52 : τ_52.2.1 30 = σ.2.1 30 := by rw [e_τ_52]; rfl
        have g31_τ_52 : τ_52.2.1 31 = σ.2.1 31 := by rw [e_τ_52]; rfl
        have g32_τ_52 : τ_52.2.1 32 = σ.2.1 32 := by rw [e_τ_52]; rfl
        have g49_τ_52 : τ_52.2.1 49 = σ.2.1 49 := by rw [e_τ_52]; rfl
        have g51_τ_52 : τ_52.2.1 51 = σ.2.1 51 := by rw [e_τ_52]; rfl
        have W13 : τ_52.1 13 = σ.1 13 := by first | exact w13_τ_52.trans W13 | omega
        have W14 : τ_52.1 14 = σ.1 14 := by first | exact w14_τ_52.trans W14 | omega
        have W16 : τ_52.1 16 = σ.1 16 := by first | exact w16_τ_52.trans W16 | omega
        have W22 : τ_52.1 22 = σ.1 22 := by first | exact w22_τ_52.trans W22 | omega
        have W24 : τ_52.1 24 = σ.1 24 := by first | exact w24_τ_52.trans W24 | omega
        have G13 : τ_52.2.1 13 = σ.2.1 13 := (g13_τ_52).trans G13
        have G14 : τ_52.2.1 14 = σ.2.1 14 := (g14_τ_52).trans G14
        have G15 : τ_52.2.1 15 = σ.2.1 15 := (g15_τ_52).trans G15
        have G16 : τ_52.2.1 16 = σ.2.1 16 := (g16_τ_52).trans G16
        have G27 : τ_52.2.1 27 = σ.2.1 27 := (g27_τ_52).trans G27
        have G28 : τ_52.2.1 28 = σ.2.1 28 := (g28_τ_52).trans G28
        have G29 : τ_52.2.1 29 = σ.2.1 29 := (g29_τ_52).trans G29
        have G30 : τ_52.2.1 30 = σ.2.1 30 := (g30_τ_52).trans G30
        have G31 : τ_52.2.1 31 = σ.2.1 31 := (g31_τ_52).trans G31
        have G32 : τ_52.2.1 32 = σ.2.1 32 := (g32_τ_52).trans G32
        have G51 : τ_52.2.1 51 = σ.2.1 51 := (g51_τ_52).trans G51
        have SP : J_sp (τ_52.1 24) (τ_52.1 21) (τ_52.1 23) (τ_52.1 22) (τ_52.2.1 49) (τ_52.2.1 51) := by rw [show (J_sp (τ_52.1 24) (τ_52.1 21) (τ_52.1 23) (τ_52.1 22) (τ_52.2.1 49) (τ_52.2.1 51)) = (J_sp (σ.1 24) (σ.1 21) (σ.1 23) (σ.1 22) (σ.2.1 49) (σ.2.1 51)) from by rw [w21_τ_52, w22_τ_52, w23_τ_52, w24_τ_52, g49_τ_52, g51_τ_52]]; exact SP
        have FRT : J_f (τ_52.1 24) (τ_52.1 13) (τ_52.1 14) (τ_52.2.1 13) (τ_52.2.1 14) (τ_52.2.1 15) (τ_52.2.1 16) (τ_52.2.1 27) (τ_52.2.1 28) (τ_52.2.1 29) (τ_52.2.1 30) (τ_52.2.1 31) (τ_52.2.1 32) := by rw [show (J_f (τ_52.1 24) (τ_52.1 13) (τ_52.1 14) (τ_52.2.1 13) (τ_52.2.1 14) (τ_52.2.1 15) (τ_52.2.1 16) (τ_52.2.1 27) (τ_52.2.1 28) (τ_52.2.1 29) (τ_52.2.1 30) (τ_52.2.1 31) (τ_52.2.1 32)) = (J_f (σ.1 24) (σ.1 13) (σ.1 14) (σ.2.1 13) (σ.2.1 14) (σ.2.1 15) (σ.2.1 16) (σ.2.1 27) (σ.2.1 28) (σ.2.1 29) (σ.2.1 30) (σ.2.1 31) (σ.2.1 32)) from by rw [w13_τ_52, w14_τ_52, w24_τ_52, g13_τ_52, g14_τ_52, g15_τ_52, g16_τ_52, g27_τ_52, g28_τ_52, g29_τ_52, g30_τ_52, g31_τ_52, g32_τ_52]]; exact FRT
        have A13 : ∀ j, 0 ≤ τ_52.2.1 13 j ∧ τ_52.2.1 13 j ≤ 4 := fun j => hT.2 13 j
        have A14 : ∀ j, 0 ≤ τ_52.2.1 14 j ∧ τ_52.2.1 14 j ≤ 30000 := fun j => hT.2 14 j
        have A15 : ∀ j, 0 ≤ τ_52.2.1 15 j ∧ τ_52.2.1 15 j ≤ 999 := fun j => hT.2 15 j
        have A16 : ∀ j, (-1) ≤ τ_52.2.1 16 j ∧ τ_52.2.1 16 j ≤ 1499 := fun j => hT.2 16 j
        have A27 : ∀ j, 0 ≤ τ_52.2.1 27 j ∧ τ_52.2.1 27 j ≤ 90000 := fun j => hT.2 27 j
        have A28 : ∀ j, 0 ≤ τ_52.2.1 28 j ∧ τ_52.2.1 28 j ≤ 60 := fun j => hT.2 28 j
        have A29 : ∀ j, 0 ≤ τ_52.2.1 29 j ∧ τ_52.2.1 29 j ≤ 1499 := fun j => hT.2 29 j
        have A30 : ∀ j, 0 ≤ τ_52.2.1 30 j ∧ τ_52.2.1 30 j ≤ 20000 := fun j => hT.2 30 j
        have A31 : ∀ j, 0 ≤ τ_52.2.1 31 j ∧ τ_52.2.1 31 j ≤ 20000 := fun j => hT.2 31 j
        have A32 : ∀ j, 0 ≤ τ_52.2.1 32 j ∧ τ_52.2.1 32 j ≤ 999999 := fun j => hT.2 32 j
        have A49 : ∀ j, (-300) ≤ τ_52.2.1 49 j ∧ τ_52.2.1 49 j ≤ 67035 := fun j => hT.2 49 j
        have A51 : ∀ j, 0 ≤ τ_52.2.1 51 j ∧ τ_52.2.1 51 j ≤ 1499 := fun j => hT.2 51 j
        have v13 : 0 ≤ τ_52.1 13 ∧ τ_52.1 13 ≤ 90000 := hT.1 13
        have v14 : 0 ≤ τ_52.1 14 ∧ τ_52.1 14 ≤ 20000 := hT.1 14
        have v16 : 0 ≤ τ_52.1 16 ∧ τ_52.1 16 ≤ 20000 := hT.1 16
        have v21 : 0 ≤ τ_52.1 21 ∧ τ_52.1 21 ≤ 20000 := hT.1 21
        have v22 : 0 ≤ τ_52.1 22 ∧ τ_52.1 22 ≤ 300 := hT.1 22
        have v23 : 0 ≤ τ_52.1 23 ∧ τ_52.1 23 ≤ 300 := hT.1 23
        have v24 : 0 ≤ τ_52.1 24 ∧ τ_52.1 24 ≤ 1499 := hT.1 24
        have v26 : 0 ≤ τ_52.1 26 ∧ τ_52.1 26 ≤ 5000010 := hT.1 26
        have v27 : 0 ≤ τ_52.1 27 ∧ τ_52.1 27 ≤ 1 := hT.1 27
        refine h52 _ _ ?_
        refine ⟨fun c11 => ?_, fun c11 => ?_⟩
        ·
          refine h96 _ _ ?_
          refine ⟨fun c15 => ?_, fun c15 => ?_⟩
          ·
            exact ⟨hT, (show 0 ≤ 14 ∧ 14 ≤ 19 from by (first | omega | (simp only [st_s] <;> omega) | assumption | omega | fail)), (show 14 = 0 → J_sp (τ_52.1 24) (τ_52.1 21) (τ_52.1 23) (τ_52.1 22) (τ_52.2.1 49) (τ_52.2.1 51) from by (intro z; first | (exfalso; omega) | exact SP | exact q5_2 z | exact q8_2 z | omega)), (show 14 = 0 → (τ_52.1 16) + (τ_52.1 21) ≤ 20000 from by (intro z; first | (exfalso; omega) | exact q5_3 z | omega)), (show 14 = 0 → ¬ (τ_52.1 27) = 0 → 1 ≤ (τ_52.1 21) ∧ 0 ≤ τ_52.2.1 49 ((τ_52.1 21) - 1) ∧ τ_52.2.1 49 ((τ_52.1 21) - 1) < 65536 from by (intro z; first | (exfalso; omega) | exact q5_4 | (have := q8_3 z; omega) | omega)), (show 14 = 0 → (τ_52.1 26) ≤ 1000000 from by (intro z; first | (exfalso; omega) | omega))⟩
          ·
            refine ⟨fun c16 => ?_, fun c16 => ?_⟩
            ·
              exact ⟨hT, (show 0 ≤ 14 ∧ 14 ≤ 19 from by (first | omega | (simp only [st_s] <;> omega) | assumption | omega | fail)), (show 14 = 0 → J_sp (τ_52.1 24) (τ_52.1 21) (τ_52.1 23) (τ_52.1 22) (τ_52.2.1 49) (τ_52.2.1 51) from by (intro z; first | (exfalso; omega) | exact SP | exact q5_2 z | exact q8_2 z | omega)), (show 14 = 0 → (τ_52.1 16) + (τ_52.1 21) ≤ 20000 from by (intro z; first | (exfalso; omega) | exact q5_3 z | omega)), (show 14 = 0 → ¬ (τ_52.1 27) = 0 → 1 ≤ (τ_52.1 21) ∧ 0 ≤ τ_52.2.1 49 ((τ_52.1 21) - 1) ∧ τ_52.2.1 49 ((τ_52.1 21) - 1) < 65536 from by (intro z; first | (exfalso; omega) | exact q5_4 | (have := q8_3 z; omega) | omega)), (show 14 = 0 → (τ_52.1 26) ≤ 1000000 from by (intro z; first | (exfalso; omega) | omega))⟩
            ·
              replace hT := cT_v (i := 28) hT (show (0 : Int) ≤ 1 ∧ 1 ≤ 1 from by (first | omega | (simp only [st_s] <;> omega) | assumption | omega | fail))
              exact ⟨hT, (show 0 ≤ 0 ∧ 0 ≤ 19 from by (first | omega | (simp only [st_s] <;> omega) | assumption | omega | fail)), (show 0 = 0 → J_sp (τ_52.1 24) (τ_52.1 21) (τ_52.1 23) (τ_52.1 22) (τ_52.2.1 49) (τ_52.2.1 51) from by (intro z; first | (exfalso; omega) | exact SP | exact q5_2 z | exact q8_2 z | omega)), (show 0 = 0 → (τ_52.1 16) + (τ_52.1 21) ≤ 20000 from by (intro z; first | (exfalso; omega) | exact q5_3 z | omega)), (show 0 = 0 → ¬ (τ_52.1 27) = 0 → 1 ≤ (τ_52.1 21) ∧ 0 ≤ τ_52.2.1 49 ((τ_52.1 21) - 1) ∧ τ_52.2.1 49 ((τ_52.1 21) - 1) < 65536 from by (intro z; first | (exfalso; omega) | exact q5_4 | (have := q8_3 z; omega) | omega)), (show 0 = 0 → (τ_52.1 26) ≤ 1000000 from by (intro z; first | (exfalso; omega) | omega))⟩
        ·
          refine ⟨fun c12 => ?_, fun c12 => ?_⟩
          ·
            refine h96 _ _ ?_
            refine ⟨fun c15 => ?_, fun c15 => ?_⟩
            ·
              exact ⟨hT, (show 0 ≤ 14 ∧ 14 ≤ 19 from by (first | omega | (simp only [st_s] <;> omega) | assumption | omega | fail)), (show 14 = 0 → J_sp (τ_52.1 24) (τ_52.1 21) (τ_52.1 23) (τ_52.1 22) (τ_52.2.1 49) (τ_52.2.1 51) from by (intro z; first | (exfalso; omega) | exact SP | exact q5_2 z | exact q8_2 z | omega)), (show 14 = 0 → (τ_52.1 16) + (τ_52.1 21) ≤ 20000 from by (intro z; first | (exfalso; omega) | exact q5_3 z | omega)), (show 14 = 0 → ¬ (τ_52.1 27) = 0 → 1 ≤ (τ_52.1 21) ∧ 0 ≤ τ_52.2.1 49 ((τ_52.1 21) - 1) ∧ τ_52.2.1 49 ((τ_52.1 21) - 1) < 65536 from by (intro z; first | (exfalso; omega) | exact q5_4 | (have := q8_3 z; omega) | omega)), (show 14 = 0 → (τ_52.1 26) ≤ 1000000 from by (intro z; first | (exfalso; omega) | omega))⟩
            ·
              refine ⟨fun c16 => ?_, fun c16 => ?_⟩
              ·
                exact ⟨hT, (show 0 ≤ 14 ∧ 14 ≤ 19 from by (first | omega | (simp only [st_s] <;> omega) | assumption | omega | fail)), (show 14 = 0 → J_sp (τ_52.1 24) (τ_52.1 21) (τ_52.1 23) (τ_52.1 22) (τ_52.2.1 49) (τ_52.2.1 51) from by (intro z; first | (exfalso; omega) | exact SP | exact q5_2 z | exact q8_2 z | omega)), (show 14 = 0 → (τ_52.1 16) + (τ_52.1 21) ≤ 20000 from by (intro z; first | (exfalso; omega) | exact q5_3 z | omega)), (show 14 = 0 → ¬ (τ_52.1 27) = 0 → 1 ≤ (τ_52.1 21) ∧ 0 ≤ τ_52.2.1 49 ((τ_52.1 21) - 1) ∧ τ_52.2.1 49 ((τ_52.1 21) - 1) < 65536 from by (intro z; first | (exfalso; omega) | exact q5_4 | (have := q8_3 z; omega) | omega)), (show 14 = 0 → (τ_52.1 26) ≤ 1000000 from by (intro z; first | (exfalso; omega) | omega))⟩
              ·
                replace hT := cT_v (i := 28) hT (show (0 : Int) ≤ 1 ∧ 1 ≤ 1 from by (first | omega | (simp only [st_s] <;> omega) | assumption | omega | fail))
                exact ⟨hT, (show 0 ≤ 0 ∧ 0 ≤ 19 from by (first | omega | (simp only [st_s] <;> omega) | assumption | omega | fail)), (show 0 = 0 → J_sp (τ_52.1 24) (τ_52.1 21) (τ_52.1 23) (τ_52.1 22) (τ_52.2.1 49) (τ_52.2.1 51) from by (intro z; first | (exfalso; omega) | exact SP | exact q5_2 z | exact q8_2 z | omega)), (show 0 = 0 → (τ_52.1 16) + (τ_52.1 21) ≤ 20000 from by (intro z; first | (exfalso; omega) | exact q5_3 z | omega)), (show 0 = 0 → ¬ (τ_52.1 27) = 0 → 1 ≤ (τ_52.1 21) ∧ 0 ≤ τ_52.2.1 49 ((τ_52.1 21) - 1) ∧ τ_52.2.1 49 ((τ_52.1 21) - 1) < 65536 from by (intro z; first | (exfalso; omega) | exact q5_4 | (have := q8_3 z; omega) | omega)), (show 0 = 0 → (τ_52.1 26) ≤ 1000000 from by (intro z; first | (exfalso; omega) | omega))⟩
          ·
            refine ⟨(⟨by (first | omega | (simp only [st_s] <;> omega) | assumption | omega | fail), by (first | omega | (simp only [st_s] <;> omega) | assumption | omega | fail)⟩ : rg ((((τ_52.1 26 * 5) + n1) - 85) + 1)), ?_⟩
            replace hT := cT_v (i := 26) hT (show 0 ≤ ((((τ_52.1 26 * 5) + n1) - 85) + 1) ∧ ((((τ_52.1 26 * 5) + n1) - 85) + 1) ≤ 5000010 from by (first | omega | (simp only [st_s] <;> omega) | assumption | omega | fail))
            refine ⟨fun c14 => ?_, fun c14 => ?_⟩
            ·
              exact ⟨hT, (show 0 ≤ 0 ∧ 0 ≤ 19 from by (first | omega | (simp only [st_s] <;> omega) | assumption | omega | fail)), (show 0 = 0 → J_sp (τ_52.1 24) (τ_52.1 21) (τ_52.1 23) (τ_52.1 22) (τ_52.2.1 49) (τ_52.2.1 51) from by (intro z; first | (exfalso; omega) | exact SP | exact q5_2 z | exact q8_2 z | omega)), (show 0 = 0 → (τ_52.1 16) + (τ_52.1 21) ≤ 20000 from by (intro z; first | (exfalso; omega) | exact q5_3 z | omega)), (show 0 = 0 → ¬ (τ_52.1 27) = 0 → 1 ≤ (τ_52.1 21) ∧ 0 ≤ τ_52.2.1 49 ((τ_52.1 21) - 1) ∧ τ_52.2.1 49 ((τ_52.1 21) - 1) < 65536 from by (intro z; first | (exfalso; omega) | exact q5_4 | (have := q8_3 z; omega) | omega)), (show 0 = 0 → (((((τ_52.1 26 * 5) + n1) - 85) + 1)) ≤ 1000000 from by (intro z; first | (exfalso; omega) | omega))⟩
            ·
              exact ⟨hT, (show 0 ≤ 5 ∧ 5 ≤ 19 from by (first | omega | (simp only [st_s] <;> omega) | assumption | omega | fail)), (show 5 = 0 → J_sp (τ_52.1 24) (τ_52.1 21) (τ_52.1 23) (τ_52.1 22) (τ_52.2.1 49) (τ_52.2.1 51) from by (intro z; first | (exfalso; omega) | exact SP | exact q5_2 z | exact q8_2 z | omega)), (show 5 = 0 → (τ_52.1 16) + (τ_52.1 21) ≤ 20000 from by (intro z; first | (exfalso; omega) | exact q5_3 z | omega)), (show 5 = 0 → ¬ (τ_52.1 27) = 0 → 1 ≤ (τ_52.1 21) ∧ 0 ≤ τ_52.2.1 49 ((τ_52.1 21) - 1) ∧ τ_52.2.1 49 ((τ_52.1 21) - 1) < 65536 from by (intro z; first | (exfalso; omega) | exact q5_4 | (have := q8_3 z; omega) | omega)), (show 5 = 0 → (((((τ_52.1 26 * 5) + n1) - 85) + 1)) ≤ 1000000 from by (intro z; first | (exfalso; omega) | omega))⟩
      ·
        refine ⟨(⟨by (first | omega | (simp only [st_s] <;> omega) | assumption | omega | fail), by (first | omega | (simp only [st_s] <;> omega) | assumption | omega | fail)⟩ : rg ((((σ.1 26 * 20) + n1) - 65) + 1)), ?_⟩
        refine ⟨_, K_X10_endNumber hT (show 1 ≤ ((((σ.1 26 * 20) + n1) - 65) + 1) from by (first | omega | (simp only [st_s] <;> omega) | assumption | omega | fail)) (show ((((σ.1 26 * 20) + n1) - 65) + 1) ≤ 200000000 from by (first | omega | (simp only [st_s] <;> omega) | assumption | omega | fail)) (show J_sp (σ.1 24) (σ.1 21) (σ.1 23) (σ.1 22) (σ.2.1 49) (σ.2.1 51) from SP) (show (σ.1 16) + (σ.1 21) ≤ 20000 from by (first | omega | (simp only [st_s] <;> omega) | assumption | omega | fail)) (show J_f (σ.1 24) (σ.1 13) (σ.1 14) (σ.2.1 13) (σ.2.1 14) (σ.2.1 15) (σ.2.1 16) (σ.2.1 27) (σ.2.1 28) (σ.2.1 29) (σ.2.1 30) (σ.2.1 31) (σ.2.1 32) from FRT) (show ((0 : Int)) = 0 from by (first | omega | (simp only [st_s] <;> omega) | assumption | omega | fail)), ?_⟩
        intro x6 τ7 r_x6 hn_τ7 hf_τ7 hq
        obtain ⟨hT, q5_1, q5_2, q5_3, q5_4, q5_5⟩ := hq
        replace q5_1 : 0 ≤ x6 ∧ x6 ≤ 19 := q5_1
        replace q5_2 : x6 = 0 → J_sp (τ7.1 24) (τ7.1 21) (τ7.1 23) (τ7.1 22) (τ7.2.1 49) (τ7.2.1 51) := q5_2
        replace q5_3 : x6 = 0 → (τ7.1 16) + (τ7.1 21) ≤ 20000 := q5_3
        replace q5_4 : ¬ (τ7.1 27) = 0 → 1 ≤ (τ7.1 21) ∧ 0 ≤ τ7.2.1 49 ((τ7.1 21) - 1) ∧ τ7.2.1 49 ((τ7.1 21) - 1) < 65536 := q5_4
        replace q5_5 : (τ7.1 26) = 0 := q5_5
        have w13_τ7 : τ7.1 13 = σ.1 13 := hf_τ7.1 13 (by decide)
        have w14_τ7 : τ7.1 14 = σ.1 14 := hf_τ7.1 14 (by decide)
        have w16_τ7 : τ7.1 16 = σ.1 16 := hf_τ7.1 16 (by decide)
        have w22_τ7 : τ7.1 22 = σ.1 22 := hf_τ7.1 22 (by decide)
        have w23_τ7 : τ7.1 23 = σ.1 23 := hf_τ7.1 23 (by decide)
        have w24_τ7 : τ7.1 24 = σ.1 24 := hf_τ7.1 24 (by decide)
        have g13_τ7 : τ7.2.1 13 = σ.2.1 13 := hf_τ7.2.1 13 (by decide)
        have g14_τ7 : τ7.2.1 14 = σ.2.1 14 := hf_τ7.2.1 14 (by decide)
        have g15_τ7 : τ7.2.1 15 = σ.2.1 15 := hf_τ7.2.1 15 (by decide)
        have g16_τ7 : τ7.2.1 16 = σ.2.1 16 := hf_τ7.2.1 16 (by decide)
        have g27_τ7 : τ7.2.1 27 = σ.2.1 27 := hf_τ7.2.1 27 (by decide)
        have g28_τ7 : τ7.2.1 28 = σ.2.1 28 := hf_τ7.2.1 28 (by decide)
        have g29_τ7 : τ7.2.1 29 = σ.2.1 29 := hf_τ7.2.1 29 (by decide)
        have g30_τ7 : τ7.2.1 30 = σ.2.1 30 := hf_τ7.2.1 30 (by decide)
        have g31_τ7 : τ7.2.1 31 = σ.2.1 31 := hf_τ7.2.1 31 (by decide)
        have g32_τ7 : τ7.2.1 32 = σ.2.1 32 := hf_τ7.2.1 32 (by decide)
        have g51_τ7 : τ7.2.1 51 = σ.2.1 51 := hf_τ7.2.1 51 (by decide)
        have W13 : τ7.1 13 = σ.1 13 := by first | exact w13_τ7.trans W13 | omega
        have W14 : τ7.1 14 = σ.1 14 := by first | exact w14_τ7.trans W14 | omega
        have W16 : τ7.1 16 = σ.1 16 := by first | exact w16_τ7.trans W16 | omega
        have W22 : τ7.1 22 = σ.1 22 := by first | exact w22_τ7.trans W22 | omega
        have W24 : τ7.1 24 = σ.1 24 := by first | exact w24_τ7.trans W24 | omega
        have G13 : τ7.2.1 13 = σ.2.1 13 := (g13_τ7).trans G13
        have G14 : τ7.2.1 14 = σ.2.1 14 := (g14_τ7).trans G14
        have G15 : τ7.2.1 15 = σ.2.1 15 := (g15_τ7).trans G15
        have G16 : τ7.2.1 16 = σ.2.1 16 := (g16_τ7).trans G16
        have G27 : τ7.2.1 27 = σ.2.1 27 := (g27_τ7).trans G27
        have G28 : τ7.2.1 28 = σ.2.1 28 := (g28_τ7).trans G28
        have G29 : τ7.2.1 29 = σ.2.1 29 := (g29_τ7).trans G29
        have G30 : τ7.2.1 30 = σ.2.1 30 := (g30_τ7).trans G30
        have G31 : τ7.2.1 31 = σ.2.1 31 := (g31_τ7).trans G31
        have G32 : τ7.2.1 32 = σ.2.1 32 := (g32_τ7).trans G32
        have G51 : τ7.2.1 51 = σ.2.1 51 := (g51_τ7).trans G51
        have FRT : J_f (τ7.1 24) (τ7.1 13) (τ7.1 14) (τ7.2.1 13) (τ7.2.1 14) (τ7.2.1 15) (τ7.2.1 16) (τ7.2.1 27) (τ7.2.1 28) (τ7.2.1 29) (τ7.2.1 30) (τ7.2.1 31) (τ7.2.1 32) := by rw [show (J_f (τ7.1 24) (τ7.1 13) (τ7.1 14) (τ7.2.1 13) (τ7.2.1 14) (τ7.2.1 15) (τ7.2.1 16) (τ7.2.1 27) (τ7.2.1 28) (τ7.2.1 29) (τ7.2.1 30) (τ7.2.1 31) (τ7.2.1 32)) = (J_f (σ.1 24) (σ.1 13) (σ.1 14) (σ.2.1 13) (σ.2.1 14) (σ.2.1 15) (σ.2.1 16) (σ.2.1 27) (σ.2.1 28) (σ.2.1 29) (σ.2.1 30) (σ.2.1 31) (σ.2.1 32)) from by rw [w13_τ7, w14_τ7, w24_τ7, g13_τ7, g14_τ7, g15_τ7, g16_τ7, g27_τ7, g28_τ7, g29_τ7, g30_τ7, g31_τ7, g32_τ7]]; exact FRT
        have A13 : ∀ j, 0 ≤ τ7.2.1 13 j ∧ τ7.2.1 13 j ≤ 4 := fun j => hT.2 13 j
        have A14 : ∀ j, 0 ≤ τ7.2.1 14 j ∧ τ7.2.1 14 j ≤ 30000 := fun j => hT.2 14 j
        have A15 : ∀ j, 0 ≤ τ7.2.1 15 j ∧ τ7.2.1 15 j ≤ 999 := fun j => hT.2 15 j
        have A16 : ∀ j, (-1) ≤ τ7.2.1 16 j ∧ τ7.2.1 16 j ≤ 1499 := fun j => hT.2 16 j
        have A27 : ∀ j, 0 ≤ τ7.2.1 27 j ∧ τ7.2.1 27 j ≤ 90000 := fun j => hT.2 27 j
        have A28 : ∀ j, 0 ≤ τ7.2.1 28 j ∧ τ7.2.1 28 j ≤ 60 := fun j => hT.2 28 j
        have A29 : ∀ j, 0 ≤ τ7.2.1 29 j ∧ τ7.2.1 29 j ≤ 1499 := fun j => hT.2 29 j
        have A30 : ∀ j, 0 ≤ τ7.2.1 30 j ∧ τ7.2.1 30 j ≤ 20000 := fun j => hT.2 30 j
        have A31 : ∀ j, 0 ≤ τ7.2.1 31 j ∧ τ7.2.1 31 j ≤ 20000 := fun j => hT.2 31 j
        have A32 : ∀ j, 0 ≤ τ7.2.1 32 j ∧ τ7.2.1 32 j ≤ 999999 := fun j => hT.2 32 j
        have A49 : ∀ j, (-300) ≤ τ7.2.1 49 j ∧ τ7.2.1 49 j ≤ 67035 := fun j => hT.2 49 j
        have A51 : ∀ j, 0 ≤ τ7.2.1 51 j ∧ τ7.2.1 51 j ≤ 1499 := fun j => hT.2 51 j
        have v13 : 0 ≤ τ7.1 13 ∧ τ7.1 13 ≤ 90000 := hT.1 13
        have v14 : 0 ≤ τ7.1 14 ∧ τ7.1 14 ≤ 20000 := hT.1 14
        have v16 : 0 ≤ τ7.1 16 ∧ τ7.1 16 ≤ 20000 := hT.1 16
        have v21 : 0 ≤ τ7.1 21 ∧ τ7.1 21 ≤ 20000 := hT.1 21
        have v22 : 0 ≤ τ7.1 22 ∧ τ7.1 22 ≤ 300 := hT.1 22
        have v23 : 0 ≤ τ7.1 23 ∧ τ7.1 23 ≤ 300 := hT.1 23
        have v24 : 0 ≤ τ7.1 24 ∧ τ7.1 24 ≤ 1499 := hT.1 24
        have v26 : 0 ≤ τ7.1 26 ∧ τ7.1 26 ≤ 5000010 := hT.1 26
        have v27 : 0 ≤ τ7.1 27 ∧ τ7.1 27 ≤ 1 := hT.1 27
        exact ⟨hT, (show 0 ≤ x6 ∧ x6 ≤ 19 from by (first | omega | (simp only [st_s] <;> omega) | assumption | omega | fail)), (show x6 = 0 → J_sp (τ7.1 24) (τ7.1 21) (τ7.1 23) (τ7.1 22) (τ7.2.1 49) (τ7.2.1 51) from by (intro z; first | (exfalso; omega) | exact SP | exact q5_2 z | exact q8_2 z | omega)), (show x6 = 0 → (τ7.1 16) + (τ7.1 21) ≤ 20000 from by (intro z; first | (exfalso; omega) | exact q5_3 z | omega)), (show x6 = 0 → ¬ (τ7.1 27) = 0 → 1 ≤ (τ7.1 21) ∧ 0 ≤ τ7.2.1 49 ((τ7.1 21) - 1) ∧ τ7.2.1 49 ((τ7.1 21) - 1) < 65536 from by (intro z; first | (exfalso; omega) | exact q5_4 | (have := q8_3 z; omega) | omega)), (show x6 = 0 → (τ7.1 26) ≤ 1000000 from by (intro z; first | (exfalso; omega) | omega))⟩
  ·
    refine ⟨_, K_X10_save hT (show J_sp (σ.1 24) (σ.1 21) (σ.1 23) (σ.1 22) (σ.2.1 49) (σ.2.1 51) from SP) (show ¬ (σ.1 27) = 0 → 1 ≤ (σ.1 21) ∧ 0 ≤ σ.2.1 49 ((σ.1 21) - 1) ∧ σ.2.1 49 ((σ.1 21) - 1) < 65536 from by (first | omega | (simp only [st_s] <;> omega) | assumption | omega | fail)), ?_⟩
    intro x9 τ10 r_x9 hn_τ10 hf_τ10 hq
    obtain ⟨hT, q8_1, q8_2, q8_3⟩ := hq
    replace q8_1 : 0 ≤ x9 ∧ x9 ≤ 19 := q8_1
    replace q8_2 : x9 = 0 → J_sp (τ10.1 24) (τ10.1 21) (τ10.1 23) (τ10.1 22) (τ10.2.1 49) (τ10.2.1 51) := q8_2
    replace q8_3 : x9 = 0 → (τ10.1 27) = 0 := q8_3
    have w13_τ10 : τ10.1 13 = σ.1 13 := hf_τ10.1 13 (by decide)
    have w14_τ10 : τ10.1 14 = σ.1 14 := hf_τ10.1 14 (by decide)
    have w16_τ10 : τ10.1 16 = σ.1 16 := hf_τ10.1 16 (by decide)
    have w21_τ10 : τ10.1 21 = σ.1 21 := hf_τ10.1 21 (by decide)
    have w22_τ10 : τ10.1 22 = σ.1 22 := hf_τ10.1 22 (by decide)
    have w24_τ10 : τ10.1 24 = σ.1 24 := hf_τ10.1 24 (by decide)
    have w26_τ10 : τ10.1 26 = σ.1 26 := hf_τ10.1 26 (by decide)
    have g13_τ10 : τ10.2.1 13 = σ.2.1 13 := hf_τ10.2.1 13 (by decide)
    have g14_τ10 : τ10.2.1 14 = σ.2.1 14 := hf_τ10.2.1 14 (by decide)
    have g15_τ10 : τ10.2.1 15 = σ.2.1 15 := hf_τ10.2.1 15 (by decide)
    have g16_τ10 : τ10.2.1 16 = σ.2.1 16 := hf_τ10.2.1 16 (by decide)
    have g27_τ10 : τ10.2.1 27 = σ.2.1 27 := hf_τ10.2.1 27 (by decide)
    have g28_τ10 : τ10.2.1 28 = σ.2.1 28 := hf_τ10.2.1 28 (by decide)
    have g29_τ10 : τ10.2.1 29 = σ.2.1 29 := hf_τ10.2.1 29 (by decide)
    have g30_τ10 : τ10.2.1 30 = σ.2.1 30 := hf_τ10.2.1 30 (by decide)
    have g31_τ10 : τ10.2.1 31 = σ.2.1 31 := hf_τ10.2.1 31 (by decide)
    have g32_τ10 : τ10.2.1 32 = σ.2.1 32 := hf_τ10.2.1 32 (by decide)
    have g51_τ10 : τ10.2.1 51 = σ.2.1 51 := hf_τ10.2.1 51 (by decide)
    have W13 : τ10.1 13 = σ.1 13 := by first | exact w13_τ10.trans W13 | omega
    have W14 : τ10.1 14 = σ.1 14 := by first | exact w14_τ10.trans W14 | omega
    have W16 : τ10.1 16 = σ.1 16 := by first | exact w16_τ10.trans W16 | omega
    have W22 : τ10.1 22 = σ.1 22 := by first | exact w22_τ10.trans W22 | omega
    have W24 : τ10.1 24 = σ.1 24 := by first | exact w24_τ10.trans W24 | omega
    have G13 : τ10.2.1 13 = σ.2.1 13 := (g13_τ10).trans G13
    have G14 : τ10.2.1 14 = σ.2.1 14 := (g14_τ10).trans G14
    have G15 : τ10.2.1 15 = σ.2.1 15 := (g15_τ10).trans G15
    have G16 : τ10.2.1 16 = σ.2.1 16 := (g16_τ10).trans G16
    have G27 : τ10.2.1 27 = σ.2.1 27 := (g27_τ10).trans G27
    have G28 : τ10.2.1 28 = σ.2.1 28 := (g28_τ10).trans G28
    have G29 : τ10.2.1 29 = σ.2.1 29 := (g29_τ10).trans G29
    have G30 : τ10.2.1 30 = σ.2.1 30 := (g30_τ10).trans G30
    have G31 : τ10.2.1 31 = σ.2.1 31 := (g31_τ10).trans G31
    have G32 : τ10.2.1 32 = σ.2.1 32 := (g32_τ10).trans G32
    have G51 : τ10.2.1 51 = σ.2.1 51 := (g51_τ10).trans G51
    have FRT : J_f (τ10.1 24) (τ10.1 13) (τ10.1 14) (τ10.2.1 13) (τ10.2.1 14) (τ10.2.1 15) (τ10.2.1 16) (τ10.2.1 27) (τ10.2.1 28) (τ10.2.1 29) (τ10.2.1 30) (τ10.2.1 31) (τ10.2.1 32) := by rw [show (J_f (τ10.1 24) (τ10.1 13) (τ10.1 14) (τ10.2.1 13) (τ10.2.1 14) (τ10.2.1 15) (τ10.2.1 16) (τ10.2.1 27) (τ10.2.1 28) (τ10.2.1 29) (τ10.2.1 30) (τ10.2.1 31) (τ10.2.1 32)) = (J_f (σ.1 24) (σ.1 13) (σ.1 14) (σ.2.1 13) (σ.2.1 14) (σ.2.1 15) (σ.2.1 16) (σ.2.1 27) (σ.2.1 28) (σ.2.1 29) (σ.2.1 30) (σ.2.1 31) (σ.2.1 32)) from by rw [w13_τ10, w14_τ10, w24_τ10, g13_τ10, g14_τ10, g15_τ10, g16_τ10, g27_τ10, g28_τ10, g29_τ10, g30_τ10, g31_τ10, g32_τ10]]; exact FRT
    have A13 : ∀ j, 0 ≤ τ10.2.1 13 j ∧ τ10.2.1 13 j ≤ 4 := fun j => hT.2 13 j
    have A14 : ∀ j, 0 ≤ τ10.2.1 14 j ∧ τ10.2.1 14 j ≤ 30000 := fun j => hT.2 14 j
    have A15 : ∀ j, 0 ≤ τ10.2.1 15 j ∧ τ10.2.1 15 j ≤ 999 := fun j => hT.2 15 j
    have A16 : ∀ j, (-1) ≤ τ10.2.1 16 j ∧ τ10.2.1 16 j ≤ 1499 := fun j => hT.2 16 j
    have A27 : ∀ j, 0 ≤ τ10.2.1 27 j ∧ τ10.2.1 27 j ≤ 90000 := fun j => hT.2 27 j
    have A28 : ∀ j, 0 ≤ τ10.2.1 28 j ∧ τ10.2.1 28 j ≤ 60 := fun j => hT.2 28 j
    have A29 : ∀ j, 0 ≤ τ10.2.1 29 j ∧ τ10.2.1 29 j ≤ 1499 := fun j => hT.2 29 j
    have A30 : ∀ j, 0 ≤ τ10.2.1 30 j ∧ τ10.2.1 30 j ≤ 20000 := fun j => hT.2 30 j
    have A31 : ∀ j, 0 ≤ τ10.2.1 31 j ∧ τ10.2.1 31 j ≤ 20000 := fun j => hT.2 31 j
    have A32 : ∀ j, 0 ≤ τ10.2.1 32 j ∧ τ10.2.1 32 j ≤ 999999 := fun j => hT.2 32 j
    have A49 : ∀ j, (-300) ≤ τ10.2.1 49 j ∧ τ10.2.1 49 j ≤ 67035 := fun j => hT.2 49 j
    have A51 : ∀ j, 0 ≤ τ10.2.1 51 j ∧ τ10.2.1 51 j ≤ 1499 := fun j => hT.2 51 j
    have v13 : 0 ≤ τ10.1 13 ∧ τ10.1 13 ≤ 90000 := hT.1 13
    have v14 : 0 ≤ τ10.1 14 ∧ τ10.1 14 ≤ 20000 := hT.1 14
    have v16 : 0 ≤ τ10.1 16 ∧ τ10.1 16 ≤ 20000 := hT.1 16
    have v21 : 0 ≤ τ10.1 21 ∧ τ10.1 21 ≤ 20000 := hT.1 21
    have v22 : 0 ≤ τ10.1 22 ∧ τ10.1 22 ≤ 300 := hT.1 22
    have v23 : 0 ≤ τ10.1 23 ∧ τ10.1 23 ≤ 300 := hT.1 23
    have v24 : 0 ≤ τ10.1 24 ∧ τ10.1 24 ≤ 1499 := hT.1 24
    have v26 : 0 ≤ τ10.1 26 ∧ τ10.1 26 ≤ 5000010 := hT.1 26
    have v27 : 0 ≤ τ10.1 27 ∧ τ10.1 27 ≤ 1 := hT.1 27
    exact ⟨hT, (show 0 ≤ x9 ∧ x9 ≤ 19 from by (first | omega | (simp only [st_s] <;> omega) | assumption | omega | fail)), (show x9 = 0 → J_sp (τ10.1 24) (τ10.1 21) (τ10.1 23) (τ10.1 22) (τ10.2.1 49) (τ10.2.1 51) from by (intro z; first | (exfalso; omega) | exact SP | exact q5_2 z | exact q8_2 z | omega)), (show x9 = 0 → (τ10.1 16) + (τ10.1 21) ≤ 20000 from by (intro z; first | (exfalso; omega) | exact q5_3 z | omega)), (show x9 = 0 → ¬ (τ10.1 27) = 0 → 1 ≤ (τ10.1 21) ∧ 0 ≤ τ10.2.1 49 ((τ10.1 21) - 1) ∧ τ10.2.1 49 ((τ10.1 21) - 1) < 65536 from by (intro z; first | (exfalso; omega) | exact q5_4 | (have := q8_3 z; omega) | omega)), (show x9 = 0 → (τ10.1 26) ≤ 1000000 from by (intro z; first | (exfalso; omega) | omega))⟩
set_option maxHeartbeats 1000000 in
theorem K_X10_letters_q13 {n2 : Int} {n3 : Int} {σ : S0} (hT : c_T σ) (p1 : 0 ≤ n2) (p2 : 0 ≤ n3) (p3 : n2 + n3 ≤ 60000) (p4 : J_sp (σ.1 24) (σ.1 21) (σ.1 23) (σ.1 22) (σ.2.1 49) (σ.2.1 51)) (p5 : (σ.1 16) + (σ.1 21) ≤ 20000) (p6 : J_f (σ.1 24) (σ.1 13) (σ.1 14) (σ.2.1 13) (σ.2.1 14) (σ.2.1 15) (σ.2.1 16) (σ.2.1 27) (σ.2.1 28) (σ.2.1 29) (σ.2.1 30) (σ.2.1 31) (σ.2.1 32)) (p7 : ¬ (σ.1 27) = 0 → 1 ≤ (σ.1 21) ∧ 0 ≤ σ.2.1 49 ((σ.1 21) - 1) ∧ σ.2.1 49 ((σ.1 21) - 1) < 65536) (p8 : (σ.1 26) ≤ 1000000) : W_X10_letters_q13 n2 n3 σ (fun (x : Int) (τ : S0) => (c_T τ) ∧ (0 ≤ x ∧ x ≤ 19) ∧ (x = 0 → J_sp (τ.1 24) (τ.1 21) (τ.1 23) (τ.1 22) (τ.2.1 49) (τ.2.1 51)) ∧ (x = 0 → (τ.1 16) + (τ.1 21) ≤ 20000) ∧ (x = 0 → ¬ (τ.1 27) = 0 → 1 ≤ (τ.1 21) ∧ 0 ≤ τ.2.1 49 ((τ.1 21) - 1) ∧ τ.2.1 49 ((τ.1 21) - 1) < 65536) ∧ (x = 0 → (τ.1 26) ≤ 1000000)) := by
  have A0 : ∀ j, 0 ≤ σ.2.1 0 j ∧ σ.2.1 0 j ≤ 255 := fun j => hT.2 0 j
  have A13 : ∀ j, 0 ≤ σ.2.1 13 j ∧ σ.2.1 13 j ≤ 4 := fun j => hT.2 13 j
  have A14 : ∀ j, 0 ≤ σ.2.1 14 j ∧ σ.2.1 14 j ≤ 30000 := fun j => hT.2 14 j
  have A15 : ∀ j, 0 ≤ σ.2.1 15 j ∧ σ.2.1 15 j ≤ 999 := fun j => hT.2 15 j
  have A16 : ∀ j, (-1) ≤ σ.2.1 16 j ∧ σ.2.1 16 j ≤ 1499 := fun j => hT.2 16 j
  have A27 : ∀ j, 0 ≤ σ.2.1 27 j ∧ σ.2.1 27 j ≤ 90000 := fun j => hT.2 27 j
  have A28 : ∀ j, 0 ≤ σ.2.1 28 j ∧ σ.2.1 28 j ≤ 60 := fun j => hT.2 28 j
  have A29 : ∀ j, 0 ≤ σ.2.1 29 j ∧ σ.2.1 29 j ≤ 1499 := fun j => hT.2 29 j
  have A30 : ∀ j, 0 ≤ σ.2.1 30 j ∧ σ.2.1 30 j ≤ 20000 := fun j => hT.2 30 j
  have A31 : ∀ j, 0 ≤ σ.2.1 31 j ∧ σ.2.1 31 j ≤ 20000 := fun j => hT.2 31 j
  have A32 : ∀ j, 0 ≤ σ.2.1 32 j ∧ σ.2.1 32 j ≤ 999999 := fun j => hT.2 32 j
  have A49 : ∀ j, (-300) ≤ σ.2.1 49 j ∧ σ.2.1 49 j ≤ 67035 := fun j => hT.2 49 j
  have A51 : ∀ j, 0 ≤ σ.2.1 51 j ∧ σ.2.1 51 j ≤ 1499 := fun j => hT.2 51 j
  have v13 : 0 ≤ σ.1 13 ∧ σ.1 13 ≤ 90000 := hT.1 13
  have v14 : 0 ≤ σ.1 14 ∧ σ.1 14 ≤ 20000 := hT.1 14
  have v16 : 0 ≤ σ.1 16 ∧ σ.1 16 ≤ 20000 := hT.1 16
  have v21 : 0 ≤ σ.1 21 ∧ σ.1 21 ≤ 20000 := hT.1 21
  have v22 : 0 ≤ σ.1 22 ∧ σ.1 22 ≤ 300 := hT.1 22
  have v23 : 0 ≤ σ.1 23 ∧ σ.1 23 ≤ 300 := hT.1 23
  have v24 : 0 ≤ σ.1 24 ∧ σ.1 24 ≤ 1499 := hT.1 24
  have v26 : 0 ≤ σ.1 26 ∧ σ.1 26 ≤ 5000010 := hT.1 26
  have v27 : 0 ≤ σ.1 27 ∧ σ.1 27 ≤ 1 := hT.1 27
  have W13 : σ.1 13 = σ.1 13 := rfl
  have W14 : σ.1 14 = σ.1 14 := rfl
  have W16 : σ.1 16 = σ.1 16 := rfl
  have W22 : σ.1 22 = σ.1 22 := rfl
  have W24 : σ.1 24 = σ.1 24 := rfl
  have G0 : σ.2.1 0 = σ.2.1 0 := rfl
  have G13 : σ.2.1 13 = σ.2.1 13 := rfl
  have G14 : σ.2.1 14 = σ.2.1 14 := rfl
  have G15 : σ.2.1 15 = σ.2.1 15 := rfl
  have G16 : σ.2.1 16 = σ.2.1 16 := rfl
  have G27 : σ.2.1 27 = σ.2.1 27 := rfl
  have G28 : σ.2.1 28 = σ.2.1 28 := rfl
  have G29 : σ.2.1 29 = σ.2.1 29 := rfl
  have G30 : σ.2.1 30 = σ.2.1 30 := rfl
  have G31 : σ.2.1 31 = σ.2.1 31 := rfl
  have G32 : σ.2.1 32 = σ.2.1 32 := rfl
  have G51 : σ.2.1 51 = σ.2.1 51 := rfl
  intro P6 h6
  have SP : J_sp (σ.1 24) (σ.1 21) (σ.1 23) (σ.1 22) (σ.2.1 49) (σ.2.1 51) := p4
  have FRT : J_f (σ.1 24) (σ.1 13) (σ.1 14) (σ.2.1 13) (σ.2.1 14) (σ.2.1 15) (σ.2.1 16) (σ.2.1 27) (σ.2.1 28) (σ.2.1 29) (σ.2.1 30) (σ.2.1 31) (σ.2.1 32) := p6
  have FRT_0 := FRT
  have SP_0 := SP
  have l_6 : ∀ (m_6 : Nat) (u4_6 : Int) (u5_6 : Int) (τ_6 : S0), 60001 - u5_6 < (m_6 : Int) → (c_T τ_6) → (τ_6.1 13 = σ.1 13) → (τ_6.1 14 = σ.1 14) → (τ_6.1 16 = σ.1 16) → (τ_6.1 22 = σ.1 22) → (τ_6.1 24 = σ.1 24) → (τ_6.2.1 0 = σ.2.1 0) → (τ_6.2.1 13 = σ.2.1 13) → (τ_6.2.1 14 = σ.2.1 14) → (τ_6.2.1 15 = σ.2.1 15) → (τ_6.2.1 16 = σ.2.1 16) → (τ_6.2.1 27 = σ.2.1 27) → (τ_6.2.1 28 = σ.2.1 28) → (τ_6.2.1 29 = σ.2.1 29) → (τ_6.2.1 30 = σ.2.1 30) → (τ_6.2.1 31 = σ.2.1 31) → (τ_6.2.1 32 = σ.2.1 32) → (τ_6.2.1 51 = σ.2.1 51) → (n2 ≤ u5_6) → (u5_6 ≤ n2 + n3) → (0 ≤ u4_6 ∧ u4_6 ≤ 19) → (u4_6 = 0 → J_sp (τ_6.1 24) (τ_6.1 21) (τ_6.1 23) (τ_6.1 22) (τ_6.2.1 49) (τ_6.2.1 51)) → (u4_6 = 0 → (τ_6.1 16) + (τ_6.1 21) ≤ 20000) → (u4_6 = 0 → ¬ (τ_6.1 27) = 0 → 1 ≤ (τ_6.1 21) ∧ 0 ≤ τ_6.2.1 49 ((τ_6.1 21) - 1) ∧ τ_6.2.1 49 ((τ_6.1 21) - 1) < 65536) → (u4_6 = 0 → (τ_6.1 26) ≤ 1000000) → P6 n2 n3 u4_6 u5_6 τ_6 := by
    intro m_6
    induction m_6 with
    | zero =>
      intro u4_6 u5_6 τ_6 hm hT W13 W14 W16 W22 W24 G0 G13 G14 G15 G16 G27 G28 G29 G30 G31 G32 G51 i6_1 i6_2 i6_3 i6_4 i6_5 i6_6 i6_7
      have A0 : ∀ j, 0 ≤ τ_6.2.1 0 j ∧ τ_6.2.1 0 j ≤ 255 := fun j => hT.2 0 j
      have A13 : ∀ j, 0 ≤ τ_6.2.1 13 j ∧ τ_6.2.1 13 j ≤ 4 := fun j => hT.2 13 j
      have A14 : ∀ j, 0 ≤ τ_6.2.1 14 j ∧ τ_6.2.1 14 j ≤ 30000 := fun j => hT.2 14 j
      have A15 : ∀ j, 0 ≤ τ_6.2.1 15 j ∧ τ_6.2.1 15 j ≤ 999 := fun j => hT.2 15 j
      have A16 : ∀ j, (-1) ≤ τ_6.2.1 16 j ∧ τ_6.2.1 16 j ≤ 1499 := fun j => hT.2 16 j
      have A27 : ∀ j, 0 ≤ τ_6.2.1 27 j ∧ τ_6.2.1 27 j ≤ 90000 := fun j => hT.2 27 j
      have A28 : ∀ j, 0 ≤ τ_6.2.1 28 j ∧ τ_6.2.1 28 j ≤ 60 := fun j => hT.2 28 j
      have A29 : ∀ j, 0 ≤ τ_6.2.1 29 j ∧ τ_6.2.1 29 j ≤ 1499 := fun j => hT.2 29 j
      have A30 : ∀ j, 0 ≤ τ_6.2.1 30 j ∧ τ_6.2.1 30 j ≤ 20000 := fun j => hT.2 30 j
      have A31 : ∀ j, 0 ≤ τ_6.2.1 31 j ∧ τ_6.2.1 31 j ≤ 20000 := fun j => hT.2 31 j
      have A32 : ∀ j, 0 ≤ τ_6.2.1 32 j ∧ τ_6.2.1 32 j ≤ 999999 := fun j => hT.2 32 j
      have A49 : ∀ j, (-300) ≤ τ_6.2.1 49 j ∧ τ_6.2.1 49 j ≤ 67035 := fun j => hT.2 49 j
      have A51 : ∀ j, 0 ≤ τ_6.2.1 51 j ∧ τ_6.2.1 51 j ≤ 1499 := fun j => hT.2 51 j
      have v13 : 0 ≤ τ_6.1 13 ∧ τ_6.1 13 ≤ 90000 := hT.1 13
      have v14 : 0 ≤ τ_6.1 14 ∧ τ_6.1 14 ≤ 20000 := hT.1 14
      have v16 : 0 ≤ τ_6.1 16 ∧ τ_6.1 16 ≤ 20000 := hT.1 16
      have v21 : 0 ≤ τ_6.1 21 ∧ τ_6.1 21 ≤ 20000 := hT.1 21
      have v22 : 0 ≤ τ_6.1 22 ∧ τ_6.1 22 ≤ 300 := hT.1 22
      have v23 : 0 ≤ τ_6.1 23 ∧ τ_6.1 23 ≤ 300 := hT.1 23
      have v24 : 0 ≤ τ_6.1 24 ∧ τ_6.1 24 ≤ 1499 := hT.1 24
      have v26 : 0 ≤ τ_6.1 26 ∧ τ_6.1 26 ≤ 5000010 := hT.1 26
      have v27 : 0 ≤ τ_6.1 27 ∧ τ_6.1 27 ≤ 1 := hT.1 27
      exfalso; (first | omega | (simp only [st_s] <;> omega) | assumption | omega | fail)
    | succ m_6 ih_6 =>
      intro u4_6 u5_6 τ_6 hm_6 hT W13 W14 W16 W22 W24 G0 G13 G14 G15 G16 G27 G28 G29 G30 G31 G32 G51 i6_1 i6_2 i6_3 i6_4 i6_5 i6_6 i6_7
      have A0 : ∀ j, 0 ≤ τ_6.2.1 0 j ∧ τ_6.2.1 0 j ≤ 255 := fun j => hT.2 0 j
      have A13 : ∀ j, 0 ≤ τ_6.2.1 13 j ∧ τ_6.2.1 13 j ≤ 4 := fun j => hT.2 13 j
      have A14 : ∀ j, 0 ≤ τ_6.2.1 14 j ∧ τ_6.2.1 14 j ≤ 30000 := fun j => hT.2 14 j
      have A15 : ∀ j, 0 ≤ τ_6.2.1 15 j ∧ τ_6.2.1 15 j ≤ 999 := fun j => hT.2 15 j
      have A16 : ∀ j, (-1) ≤ τ_6.2.1 16 j ∧ τ_6.2.1 16 j ≤ 1499 := fun j => hT.2 16 j
      have A27 : ∀ j, 0 ≤ τ_6.2.1 27 j ∧ τ_6.2.1 27 j ≤ 90000 := fun j => hT.2 27 j
      have A28 : ∀ j, 0 ≤ τ_6.2.1 28 j ∧ τ_6.2.1 28 j ≤ 60 := fun j => hT.2 28 j
      have A29 : ∀ j, 0 ≤ τ_6.2.1 29 j ∧ τ_6.2.1 29 j ≤ 1499 := fun j => hT.2 29 j
      have A30 : ∀ j, 0 ≤ τ_6.2.1 30 j ∧ τ_6.2.1 30 j ≤ 20000 := fun j => hT.2 30 j
      have A31 : ∀ j, 0 ≤ τ_6.2.1 31 j ∧ τ_6.2.1 31 j ≤ 20000 := fun j => hT.2 31 j
      have A32 : ∀ j, 0 ≤ τ_6.2.1 32 j ∧ τ_6.2.1 32 j ≤ 999999 := fun j => hT.2 32 j
      have A49 : ∀ j, (-300) ≤ τ_6.2.1 49 j ∧ τ_6.2.1 49 j ≤ 67035 := fun j => hT.2 49 j
      have A51 : ∀ j, 0 ≤ τ_6.2.1 51 j ∧ τ_6.2.1 51 j ≤ 1499 := fun j => hT.2 51 j
      have v13 : 0 ≤ τ_6.1 13 ∧ τ_6.1 13 ≤ 90000 := hT.1 13
      have v14 : 0 ≤ τ_6.1 14 ∧ τ_6.1 14 ≤ 20000 := hT.1 14
      have v16 : 0 ≤ τ_6.1 16 ∧ τ_6.1 16 ≤ 20000 := hT.1 16
      have v21 : 0 ≤ τ_6.1 21 ∧ τ_6.1 21 ≤ 20000 := hT.1 21
      have v22 : 0 ≤ τ_6.1 22 ∧ τ_6.1 22 ≤ 300 := hT.1 22
      have v23 : 0 ≤ τ_6.1 23 ∧ τ_6.1 23 ≤ 300 := hT.1 23
      have v24 : 0 ≤ τ_6.1 24 ∧ τ_6.1 24 ≤ 1499 := hT.1 24
      have v26 : 0 ≤ τ_6.1 26 ∧ τ_6.1 26 ≤ 5000010 := hT.1 26
      have v27 : 0 ≤ τ_6.1 27 ∧ τ_6.1 27 ≤ 1 := hT.1 27
      have FRT : J_f (τ_6.1 24) (τ_6.1 13) (τ_6.1 14) (τ_6.2.1 13) (τ_6.2.1 14) (τ_6.2.1 15) (τ_6.2.1 16) (τ_6.2.1 27) (τ_6.2.1 28) (τ_6.2.1 29) (τ_6.2.1 30) (τ_6.2.1 31) (τ_6.2.1 32) := by rw [show (J_f (τ_6.1 24) (τ_6.1 13) (τ_6.1 14) (τ_6.2.1 13) (τ_6.2.1 14) (τ_6.2.1 15) (τ_6.2.1 16) (τ_6.2.1 27) (τ_6.2.1 28) (τ_6.2.1 29) (τ_6.2.1 30) (τ_6.2.1 31) (τ_6.2.1 32)) = (J_f (σ.1 24) (σ.1 13) (σ.1 14) (σ.2.1 13) (σ.2.1 14) (σ.2.1 15) (σ.2.1 16) (σ.2.1 27) (σ.2.1 28) (σ.2.1 29) (σ.2.1 30) (σ.2.1 31) (σ.2.1 32)) from by rw [W13, W14, W24, G13, G14, G15, G16, G27, G28, G29, G30, G31, G32]]; exact FRT_0
      refine h6 n2 n3 u4_6 u5_6 τ_6 ?_
      refine ⟨(⟨by (first | omega | (simp only [st_s] <;> omega) | assumption | omega | fail), by (first | omega | (simp only [st_s] <;> omega) | assumption | omega | fail)⟩ : rg (n2 + n3)), ?_⟩
      refine ⟨fun c2 => ?_, fun c2 => ?_⟩
      ·
        exact ⟨hT, (show 0 ≤ u4_6 ∧ u4_6 ≤ 19 from by (first | omega | (simp only [st_s] <;> omega) | assumption | omega | fail)), (show u4_6 = 0 → J_sp (τ_6.1 24) (τ_6.1 21) (τ_6.1 23) (τ_6.1 22) (τ_6.2.1 49) (τ_6.2.1 51) from by (intro z; exact i6_4 (by omega))), (show u4_6 = 0 → (τ_6.1 16) + (τ_6.1 21) ≤ 20000 from by (intro z; exact i6_5 (by omega))), (show u4_6 = 0 → ¬ (τ_6.1 27) = 0 → 1 ≤ (τ_6.1 21) ∧ 0 ≤ τ_6.2.1 49 ((τ_6.1 21) - 1) ∧ τ_6.2.1 49 ((τ_6.1 21) - 1) < 65536 from by (intro z; exact i6_6 (by omega))), (show u4_6 = 0 → (τ_6.1 26) ≤ 1000000 from by (intro z; exact i6_7 (by omega)))⟩
      ·
        refine ⟨fun c3 => ?_, fun c3 => ?_⟩
        ·
          exact ⟨hT, (show 0 ≤ u4_6 ∧ u4_6 ≤ 19 from by (first | omega | (simp only [st_s] <;> omega) | assumption | omega | fail)), (show u4_6 = 0 → J_sp (τ_6.1 24) (τ_6.1 21) (τ_6.1 23) (τ_6.1 22) (τ_6.2.1 49) (τ_6.2.1 51) from by (intro z; exact i6_4 (by omega))), (show u4_6 = 0 → (τ_6.1 16) + (τ_6.1 21) ≤ 20000 from by (intro z; exact i6_5 (by omega))), (show u4_6 = 0 → ¬ (τ_6.1 27) = 0 → 1 ≤ (τ_6.1 21) ∧ 0 ≤ τ_6.2.1 49 ((τ_6.1 21) - 1) ∧ τ_6.2.1 49 ((τ_6.1 21) - 1) < 65536 from by (intro z; exact i6_6 (by omega))), (show u4_6 = 0 → (τ_6.1 26) ≤ 1000000 from by (intro z; exact i6_7 (by omega)))⟩
        ·
          replace hT := cT_v (i := 29) hT (show 0 ≤ u5_6 ∧ u5_6 ≤ 60000 from by (first | omega | (simp only [st_s] <;> omega) | assumption | omega | fail))
          refine ⟨(show 0 ≤ u5_6 ∧ u5_6 < 60000 from by (first | omega | (simp only [st_s] <;> omega) | assumption | omega | fail)), ?_⟩
          intro x5 r_x5 e_x5
          have b_x5 : 0 ≤ x5 ∧ x5 ≤ 255 := by rw [e_x5]; exact hT.2 0 _
          refine ⟨_, K_X10_letter hT (show 0 ≤ x5 from by (first | omega | (simp only [st_s] <;> omega) | assumption | omega | fail)) (show x5 ≤ 255 from by (first | omega | (simp only [st_s] <;> omega) | assumption | omega | fail)) (show J_sp (τ_6.1 24) (τ_6.1 21) (τ_6.1 23) (τ_6.1 22) (τ_6.2.1 49) (τ_6.2.1 51) from by exact i6_4 (by omega)) (show (τ_6.1 16) + (τ_6.1 21) ≤ 20000 from by exact i6_5 (by omega)) (show J_f (τ_6.1 24) (τ_6.1 13) (τ_6.1 14) (τ_6.2.1 13) (τ_6.2.1 14) (τ_6.2.1 15) (τ_6.2.1 16) (τ_6.2.1 27) (τ_6.2.1 28) (τ_6.2.1 29) (τ_6.2.1 30) (τ_6.2.1 31) (τ_6.2.1 32) from FRT) (show ¬ (τ_6.1 27) = 0 → 1 ≤ (τ_6.1 21) ∧ 0 ≤ τ_6.2.1 49 ((τ_6.1 21) - 1) ∧ τ_6.2.1 49 ((τ_6.1 21) - 1) < 65536 from by exact i6_6 (by omega)) (show (τ_6.1 26) ≤ 1000000 from by exact i6_7 (by omega)), ?_⟩
          intro x7 τ8 r_x7 hn_τ8 hf_τ8 hq
          obtain ⟨hT, q6_1, q6_2, q6_3, q6_4, q6_5⟩ := hq
          replace q6_1 : 0 ≤ x7 ∧ x7 ≤ 19 := q6_1
          replace q6_2 : x7 = 0 → J_sp (τ8.1 24) (τ8.1 21) (τ8.1 23) (τ8.1 22) (τ8.2.1 49) (τ8.2.1 51) := q6_2
          replace q6_3 : x7 = 0 → (τ8.1 16) + (τ8.1 21) ≤ 20000 := q6_3
          replace q6_4 : x7 = 0 → ¬ (τ8.1 27) = 0 → 1 ≤ (τ8.1 21) ∧ 0 ≤ τ8.2.1 49 ((τ8.1 21) - 1) ∧ τ8.2.1 49 ((τ8.1 21) - 1) < 65536 := q6_4
          replace q6_5 : x7 = 0 → (τ8.1 26) ≤ 1000000 := q6_5
          have w13_τ8 : τ8.1 13 = τ_6.1 13 := hf_τ8.1 13 (by decide)
          have w14_τ8 : τ8.1 14 = τ_6.1 14 := hf_τ8.1 14 (by decide)
          have w16_τ8 : τ8.1 16 = τ_6.1 16 := hf_τ8.1 16 (by decide)
          have w22_τ8 : τ8.1 22 = τ_6.1 22 := hf_τ8.1 22 (by decide)
          have w24_τ8 : τ8.1 24 = τ_6.1 24 := hf_τ8.1 24 (by decide)
          have g0_τ8 : τ8.2.1 0 = τ_6.2.1 0 := hf_τ8.2.1 0 (by decide)
          have g13_τ8 : τ8.2.1 13 = τ_6.2.1 13 := hf_τ8.2.1 13 (by decide)
          have g14_τ8 : τ8.2.1 14 = τ_6.2.1 14 := hf_τ8.2.1 14 (by decide)
          have g15_τ8 : τ8.2.1 15 = τ_6.2.1 15 := hf_τ8.2.1 15 (by decide)
          have g16_τ8 : τ8.2.1 16 = τ_6.2.1 16 := hf_τ8.2.1 16 (by decide)
          have g27_τ8 : τ8.2.1 27 = τ_6.2.1 27 := hf_τ8.2.1 27 (by decide)
          have g28_τ8 : τ8.2.1 28 = τ_6.2.1 28 := hf_τ8.2.1 28 (by decide)
          have g29_τ8 : τ8.2.1 29 = τ_6.2.1 29 := hf_τ8.2.1 29 (by decide)
          have g30_τ8 : τ8.2.1 30 = τ_6.2.1 30 := hf_τ8.2.1 30 (by decide)
          have g31_τ8 : τ8.2.1 31 = τ_6.2.1 31 := hf_τ8.2.1 31 (by decide)
          have g32_τ8 : τ8.2.1 32 = τ_6.2.1 32 := hf_τ8.2.1 32 (by decide)
          have g51_τ8 : τ8.2.1 51 = τ_6.2.1 51 := hf_τ8.2.1 51 (by decide)
          have W13 : τ8.1 13 = σ.1 13 := by first | exact w13_τ8.trans W13 | omega
          have W14 : τ8.1 14 = σ.1 14 := by first | exact w14_τ8.trans W14 | omega
          have W16 : τ8.1 16 = σ.1 16 := by first | exact w16_τ8.trans W16 | omega
          have W22 : τ8.1 22 = σ.1 22 := by first | exact w22_τ8.trans W22 | omega
          have W24 : τ8.1 24 = σ.1 24 := by first | exact w24_τ8.trans W24 | omega
          have G0 : τ8.2.1 0 = σ.2.1 0 := (g0_τ8).trans G0
          have G13 : τ8.2.1 13 = σ.2.1 13 := (g13_τ8).trans G13
          have G14 : τ8.2.1 14 = σ.2.1 14 := (g14_τ8).trans G14
          have G15 : τ8.2.1 15 = σ.2.1 15 := (g15_τ8).trans G15
          have G16 : τ8.2.1 16 = σ.2.1 16 := (g16_τ8).trans G16
          have G27 : τ8.2.1 27 = σ.2.1 27 := (g27_τ8).trans G27
          have G28 : τ8.2.1 28 = σ.2.1 28 := (g28_τ8).trans G28
          have G29 : τ8.2.1 29 = σ.2.1 29 := (g29_τ8).trans G29
          have G30 : τ8.2.1 30 = σ.2.1 30 := (g30_τ8).trans G30
          have G31 : τ8.2.1 31 = σ.2.1 31 := (g31_τ8).trans G31
          have G32 : τ8.2.1 32 = σ.2.1 32 := (g32_τ8).trans G32
          have G51 : τ8.2.1 51 = σ.2.1 51 := (g51_τ8).trans G51
          have FRT : J_f (τ8.1 24) (τ8.1 13) (τ8.1 14) (τ8.2.1 13) (τ8.2.1 14) (τ8.2.1 15) (τ8.2.1 16) (τ8.2.1 27) (τ8.2.1 28) (τ8.2.1 29) (τ8.2.1 30) (τ8.2.1 31) (τ8.2.1 32) := by rw [show (J_f (τ8.1 24) (τ8.1 13) (τ8.1 14) (τ8.2.1 13) (τ8.2.1 14) (τ8.2.1 15) (τ8.2.1 16) (τ8.2.1 27) (τ8.2.1 28) (τ8.2.1 29) (τ8.2.1 30) (τ8.2.1 31) (τ8.2.1 32)) = (J_f (τ_6.1 24) (τ_6.1 13) (τ_6.1 14) (τ_6.2.1 13) (τ_6.2.1 14) (τ_6.2.1 15) (τ_6.2.1 16) (τ_6.2.1 27) (τ_6.2.1 28) (τ_6.2.1 29) (τ_6.2.1 30) (τ_6.2.1 31) (τ_6.2.1 32)) from by rw [w13_τ8, w14_τ8, w24_τ8, g13_τ8, g14_τ8, g15_τ8, g16_τ8, g27_τ8, g28_τ8, g29_τ8, g30_τ8, g31_τ8, g32_τ8]]; exact FRT
          have A0 : ∀ j, 0 ≤ τ8.2.1 0 j ∧ τ8.2.1 0 j ≤ 255 := fun j => hT.2 0 j
          have A13 : ∀ j, 0 ≤ τ8.2.1 13 j ∧ τ8.2.1 13 j ≤ 4 := fun j => hT.2 13 j
          have A14 : ∀ j, 0 ≤ τ8.2.1 14 j ∧ τ8.2.1 14 j ≤ 30000 := fun j => hT.2 14 j
          have A15 : ∀ j, 0 ≤ τ8.2.1 15 j ∧ τ8.2.1 15 j ≤ 999 := fun j => hT.2 15 j
          have A16 : ∀ j, (-1) ≤ τ8.2.1 16 j ∧ τ8.2.1 16 j ≤ 1499 := fun j => hT.2 16 j
          have A27 : ∀ j, 0 ≤ τ8.2.1 27 j ∧ τ8.2.1 27 j ≤ 90000 := fun j => hT.2 27 j
          have A28 : ∀ j, 0 ≤ τ8.2.1 28 j ∧ τ8.2.1 28 j ≤ 60 := fun j => hT.2 28 j
          have A29 : ∀ j, 0 ≤ τ8.2.1 29 j ∧ τ8.2.1 29 j ≤ 1499 := fun j => hT.2 29 j
          have A30 : ∀ j, 0 ≤ τ8.2.1 30 j ∧ τ8.2.1 30 j ≤ 20000 := fun j => hT.2 30 j
          have A31 : ∀ j, 0 ≤ τ8.2.1 31 j ∧ τ8.2.1 31 j ≤ 20000 := fun j => hT.2 31 j
          have A32 : ∀ j, 0 ≤ τ8.2.1 32 j ∧ τ8.2.1 32 j ≤ 999999 := fun j => hT.2 32 j
          have A49 : ∀ j, (-300) ≤ τ8.2.1 49 j ∧ τ8.2.1 49 j ≤ 67035 := fun j => hT.2 49 j
          have A51 : ∀ j, 0 ≤ τ8.2.1 51 j ∧ τ8.2.1 51 j ≤ 1499 := fun j => hT.2 51 j
          have v13 : 0 ≤ τ8.1 13 ∧ τ8.1 13 ≤ 90000 := hT.1 13
          have v14 : 0 ≤ τ8.1 14 ∧ τ8.1 14 ≤ 20000 := hT.1 14
          have v16 : 0 ≤ τ8.1 16 ∧ τ8.1 16 ≤ 20000 := hT.1 16
          have v21 : 0 ≤ τ8.1 21 ∧ τ8.1 21 ≤ 20000 := hT.1 21
          have v22 : 0 ≤ τ8.1 22 ∧ τ8.1 22 ≤ 300 := hT.1 22
          have v23 : 0 ≤ τ8.1 23 ∧ τ8.1 23 ≤ 300 := hT.1 23
          have v24 : 0 ≤ τ8.1 24 ∧ τ8.1 24 ≤ 1499 := hT.1 24
          have v26 : 0 ≤ τ8.1 26 ∧ τ8.1 26 ≤ 5000010 := hT.1 26
          have v27 : 0 ≤ τ8.1 27 ∧ τ8.1 27 ≤ 1 := hT.1 27
          refine ⟨(⟨by (first | omega | (simp only [st_s] <;> omega) | assumption | omega | fail), by (first | omega | (simp only [st_s] <;> omega) | assumption | omega | fail)⟩ : rg (u5_6 + 1)), ?_⟩
          exact ih_6 _ _ _ (show (60001 - (u5_6 + 1) : Int) < ((m_6 : Nat) : Int) from by ((first | omega | (simp only [st_s] <;> omega) | assumption | omega | fail))) hT (show τ8.1 13 = σ.1 13 from by first | exact W13 | omega) (show τ8.1 14 = σ.1 14 from by first | exact W14 | omega) (show τ8.1 16 = σ.1 16 from by first | exact W16 | omega) (show τ8.1 22 = σ.1 22 from by first | exact W22 | omega) (show τ8.1 24 = σ.1 24 from by first | exact W24 | omega) G0 G13 G14 G15 G16 G27 G28 G29 G30 G31 G32 G51 (show n2 ≤ (u5_6 + 1) from by (first | omega | (simp only [st_s] <;> omega) | assumption | omega | fail)) (show (u5_6 + 1) ≤ n2 + n3 from by (first | omega | (simp only [st_s] <;> omega) | assumption | omega | fail)) (show 0 ≤ x7 ∧ x7 ≤ 19 from by (first | omega | (simp only [st_s] <;> omega) | assumption | omega | fail)) (show x7 = 0 → J_sp (τ8.1 24) (τ8.1 21) (τ8.1 23) (τ8.1 22) (τ8.2.1 49) (τ8.2.1 51) from by (first | exact fun _ => SP | exact q6_2 | fail)) (show x7 = 0 → (τ8.1 16) + (τ8.1 21) ≤ 20000 from by (first | omega | exact q6_3 | fail)) (show x7 = 0 → ¬ (τ8.1 27) = 0 → 1 ≤ (τ8.1 21) ∧ 0 ≤ τ8.2.1 49 ((τ8.1 21) - 1) ∧ τ8.2.1 49 ((τ8.1 21) - 1) < 65536 from by (first | omega | exact q6_4 | fail)) (show x7 = 0 → (τ8.1 26) ≤ 1000000 from by (first | omega | exact q6_5 | fail))
  exact l_6 ((60001 - n2 : Int).toNat + 1) _ _ _ (show (60001 - n2 : Int) < (((60001 - n2 : Int).toNat + 1 : Nat) : Int) from by ((first | omega | (simp only [st_s] <;> omega) | assumption | omega | fail))) hT (show σ.1 13 = σ.1 13 from by first | exact W13 | omega) (show σ.1 14 = σ.1 14 from by first | exact W14 | omega) (show σ.1 16 = σ.1 16 from by first | exact W16 | omega) (show σ.1 22 = σ.1 22 from by first | exact W22 | omega) (show σ.1 24 = σ.1 24 from by first | exact W24 | omega) G0 G13 G14 G15 G16 G27 G28 G29 G30 G31 G32 G51 (show n2 ≤ n2 from by (first | omega | (simp only [st_s] <;> omega) | assumption | omega | fail)) (show n2 ≤ n2 + n3 from by (first | omega | (simp only [st_s] <;> omega) | assumption | omega | fail)) (show 0 ≤ 0 ∧ 0 ≤ 19 from by (first | omega | (simp only [st_s] <;> omega) | assumption | omega | fail)) (show 0 = 0 → J_sp (σ.1 24) (σ.1 21) (σ.1 23) (σ.1 22) (σ.2.1 49) (σ.2.1 51) from by (first | exact fun _ => SP | exact q6_2 | fail)) (show 0 = 0 → (σ.1 16) + (σ.1 21) ≤ 20000 from by (first | omega | exact q6_3 | fail)) (show 0 = 0 → ¬ (σ.1 27) = 0 → 1 ≤ (σ.1 21) ∧ 0 ≤ σ.2.1 49 ((σ.1 21) - 1) ∧ σ.2.1 49 ((σ.1 21) - 1) < 65536 from by (first | omega | exact q6_4 | fail)) (show 0 = 0 → (σ.1 26) ≤ 1000000 from by (first | omega | exact q6_5 | fail))
set_option maxHeartbeats 1000000 in
theorem K_X10_listLabel_q13 {n2 : Int} {n3 : Int} {n4 : Int} {σ : S0} (hT : c_T σ) (p1 : 0 ≤ n2) (p2 : 0 ≤ n3) (p3 : n2 + n3 ≤ 60000) (p4 : n2 < 60000) (p5 : -1 ≤ n4) (p6 : n4 < 1500) (p7 : 0 ≤ n4 → ∀ k : Int, 0 ≤ k → k < n3 → j_lc (σ.2.1 0 (n2 + k))) (p8 : J_sp (σ.1 24) (σ.1 21) (σ.1 23) (σ.1 22) (σ.2.1 49) (σ.2.1 51)) (p9 : J_f (σ.1 24) (σ.1 13) (σ.1 14) (σ.2.1 13) (σ.2.1 14) (σ.2.1 15) (σ.2.1 16) (σ.2.1 27) (σ.2.1 28) (σ.2.1 29) (σ.2.1 30) (σ.2.1 31) (σ.2.1 32)) : W_X10_listLabel_q13 n2 n3 n4 σ (fun (x : Int) (τ : S0) => (c_T τ) ∧ (0 ≤ x ∧ x ≤ 19) ∧ (x = 0 → J_sp (τ.1 24) (τ.1 21) (τ.1 23) (τ.1 22) (τ.2.1 49) (τ.2.1 51))) := by
  have A0 : ∀ j, 0 ≤ σ.2.1 0 j ∧ σ.2.1 0 j ≤ 255 := fun j => hT.2 0 j
  have A13 : ∀ j, 0 ≤ σ.2.1 13 j ∧ σ.2.1 13 j ≤ 4 := fun j => hT.2 13 j
  have A14 : ∀ j, 0 ≤ σ.2.1 14 j ∧ σ.2.1 14 j ≤ 30000 := fun j => hT.2 14 j
  have A15 : ∀ j, 0 ≤ σ.2.1 15 j ∧ σ.2.1 15 j ≤ 999 := fun j => hT.2 15 j
  have A16 : ∀ j, (-1) ≤ σ.2.1 16 j ∧ σ.2.1 16 j ≤ 1499 := fun j => hT.2 16 j
  have A27 : ∀ j, 0 ≤ σ.2.1 27 j ∧ σ.2.1 27 j ≤ 90000 := fun j => hT.2 27 j
  have A28 : ∀ j, 0 ≤ σ.2.1 28 j ∧ σ.2.1 28 j ≤ 60 := fun j => hT.2 28 j
  have A29 : ∀ j, 0 ≤ σ.2.1 29 j ∧ σ.2.1 29 j ≤ 1499 := fun j => hT.2 29 j
  have A30 : ∀ j, 0 ≤ σ.2.1 30 j ∧ σ.2.1 30 j ≤ 20000 := fun j => hT.2 30 j
  have A31 : ∀ j, 0 ≤ σ.2.1 31 j ∧ σ.2.1 31 j ≤ 20000 := fun j => hT.2 31 j
  have A32 : ∀ j, 0 ≤ σ.2.1 32 j ∧ σ.2.1 32 j ≤ 999999 := fun j => hT.2 32 j
  have A49 : ∀ j, (-300) ≤ σ.2.1 49 j ∧ σ.2.1 49 j ≤ 67035 := fun j => hT.2 49 j
  have A51 : ∀ j, 0 ≤ σ.2.1 51 j ∧ σ.2.1 51 j ≤ 1499 := fun j => hT.2 51 j
  have v13 : 0 ≤ σ.1 13 ∧ σ.1 13 ≤ 90000 := hT.1 13
  have v14 : 0 ≤ σ.1 14 ∧ σ.1 14 ≤ 20000 := hT.1 14
  have v21 : 0 ≤ σ.1 21 ∧ σ.1 21 ≤ 20000 := hT.1 21
  have v22 : 0 ≤ σ.1 22 ∧ σ.1 22 ≤ 300 := hT.1 22
  have v23 : 0 ≤ σ.1 23 ∧ σ.1 23 ≤ 300 := hT.1 23
  have v24 : 0 ≤ σ.1 24 ∧ σ.1 24 ≤ 1499 := hT.1 24
  have W13 : σ.1 13 = σ.1 13 := rfl
  have W14 : σ.1 14 = σ.1 14 := rfl
  have W21 : σ.1 21 = σ.1 21 := rfl
  have W23 : σ.1 23 = σ.1 23 := rfl
  have W24 : σ.1 24 = σ.1 24 := rfl
  have G0 : σ.2.1 0 = σ.2.1 0 := rfl
  have G13 : σ.2.1 13 = σ.2.1 13 := rfl
  have G14 : σ.2.1 14 = σ.2.1 14 := rfl
  have G15 : σ.2.1 15 = σ.2.1 15 := rfl
  have G16 : σ.2.1 16 = σ.2.1 16 := rfl
  have G27 : σ.2.1 27 = σ.2.1 27 := rfl
  have G28 : σ.2.1 28 = σ.2.1 28 := rfl
  have G29 : σ.2.1 29 = σ.2.1 29 := rfl
  have G30 : σ.2.1 30 = σ.2.1 30 := rfl
  have G31 : σ.2.1 31 = σ.2.1 31 := rfl
  have G32 : σ.2.1 32 = σ.2.1 32 := rfl
  have G49 : σ.2.1 49 = σ.2.1 49 := rfl
  intro P39 h39
  have fb := J_f_le p9
  have SP : J_sp (σ.1 24) (σ.1 21) (σ.1 23) (σ.1 22) (σ.2.1 49) (σ.2.1 51) := p8
  have FRT : J_f (σ.1 24) (σ.1 13) (σ.1 14) (σ.2.1 13) (σ.2.1 14) (σ.2.1 15) (σ.2.1 16) (σ.2.1 27) (σ.2.1 28) (σ.2.1 29) (σ.2.1 30) (σ.2.1 31) (σ.2.1 32) := p9
  have FRT_0 := FRT
  have SP_0 := SP
  refine ⟨_, K_X10_isOne_q13 hT (show 0 ≤ n2 from by (first | omega | (simp only [st_s] <;> omega) | assumption | omega | fail)) (show n2 < 60000 from by (first | omega | (simp only [st_s] <;> omega) | assumption | omega | fail)), ?_⟩
  intro x2 r_x2 hq
  have q1_1 := hq
  replace q1_1 : 0 ≤ x2 ∧ x2 ≤ 1 := q1_1
  refine ⟨fun c4 => ?_, fun c4 => ?_⟩
  ·
    refine ⟨fun c5 => ?_, fun c5 => ?_⟩
    ·
      refine h39 _ _ ?_
      refine ⟨_, K_X10_isUsable hT (show -1 ≤ n4 from by (first | omega | (simp only [st_s] <;> omega) | assumption | omega | fail)) (show n4 < 1500 from by (first | omega | (simp only [st_s] <;> omega) | assumption | omega | fail)), ?_⟩
      intro x11 r_x11 hq
      obtain ⟨q10_1, q10_2⟩ := hq
      replace q10_1 : 0 ≤ x11 ∧ x11 ≤ 1 := q10_1
      replace q10_2 : ¬ x11 = 0 → 0 ≤ n4 ∧ n4 < (σ.1 24) := q10_2
      refine ⟨fun c13 => ?_, fun c13 => ?_⟩
      ·
        refine ⟨_, K_X0_placeInFrame hT (show 0 ≤ (σ.1 24) from by (first | omega | (simp only [st_s] <;> omega) | assumption | omega | fail)) (show (σ.1 24) < 1500 from by (first | omega | (simp only [st_s] <;> omega) | assumption | omega | fail)) (show σ.2.1 27 (σ.1 24) + σ.2.1 28 (σ.1 24) ≤ 90000 from by (first | omega | (simp only [st_s] <;> omega) | assumption | omega | fail)), ?_⟩
        intro x15 r_x15 hq
        obtain ⟨q14_1, q14_2⟩ := hq
        replace q14_1 : -1 ≤ x15 ∧ x15 < 60 := q14_1
        replace q14_2 : 0 ≤ x15 → x15 < σ.2.1 28 (σ.1 24) := q14_2
        refine ⟨fun c17 => ?_, fun c17 => ?_⟩
        ·
          exact ⟨hT, (show 0 ≤ 14 ∧ 14 ≤ 19 from by (first | omega | (simp only [st_s] <;> omega) | assumption | omega | fail)), (show 14 = 0 → J_sp (σ.1 24) (σ.1 21) (σ.1 23) (σ.1 22) (σ.2.1 49) (σ.2.1 51) from by (intro z; first | (exfalso; omega) | exact SP | exact J_sp_l SP (by omega) | omega))⟩
        ·
          have lc : ¬ σ.1 22 = 300 := by first | assumption | exact fun z => q6_3 (p7 (by omega)) c9
          refine ⟨_, K_X10_isListed hT, ?_⟩
          intro x19 r_x19 hq
          have q18_1 := hq
          replace q18_1 : 0 ≤ x19 ∧ x19 ≤ 1 := q18_1
          refine ⟨fun c21 => ?_, fun c21 => ?_⟩
          ·
            refine ⟨(show 0 ≤ σ.1 22 ∧ σ.1 22 < 300 from by (first | omega | (simp only [st_s] <;> omega) | assumption | omega | fail)), ?_⟩
            replace hT := cT_a (k := 51) (j := (σ.1 22)) hT (show (0 : Int) ≤ n4 ∧ n4 ≤ 1499 from by (first | omega | (simp only [st_s] <;> omega) | assumption | omega | fail))
            refine ⟨(⟨by (first | omega | (simp only [st_s] <;> omega) | assumption | omega | fail), by (first | omega | (simp only [st_s] <;> omega) | assumption | omega | fail)⟩ : rg (σ.1 22 + 1)), ?_⟩
            replace hT := cT_v (i := 22) hT (show 0 ≤ (σ.1 22 + 1) ∧ (σ.1 22 + 1) ≤ 300 from by (first | omega | (simp only [st_s] <;> omega) | assumption | omega | fail))
            exact ⟨hT, (show 0 ≤ 0 ∧ 0 ≤ 19 from by (first | omega | (simp only [st_s] <;> omega) | assumption | omega | fail)), (show 0 = 0 → J_sp (σ.1 24) (σ.1 21) (σ.1 23) ((σ.1 22 + 1)) (σ.2.1 49) ((st (σ.2.1 51) (σ.1 22) n4)) from by (intro z; first | (exfalso; omega) | exact SP | exact J_sp_l SP (by omega) | omega))⟩
          ·
            exact ⟨hT, (show 0 ≤ 14 ∧ 14 ≤ 19 from by (first | omega | (simp only [st_s] <;> omega) | assumption | omega | fail)), (show 14 = 0 → J_sp (σ.1 24) (σ.1 21) (σ.1 23) (σ.1 22) (σ.2.1 49) (σ.2.1 51) from by (intro z; first | (exfalso; omega) | exact SP | exact J_sp_l SP (by omega) | omega))⟩
      ·
        exact ⟨hT, (show 0 ≤ 13 ∧ 13 ≤ 19 from by (first | omega | (simp only [st_s] <;> omega) | assumption | omega | fail)), (show 13 = 0 → J_sp (σ.1 24) (σ.1 21) (σ.1 23) (σ.1 22) (σ.2.1 49) (σ.2.1 51) from by (intro z; first | (exfalso; omega) | exact SP | exact J_sp_l SP (by omega) | omega))⟩
    ·
      refine ⟨_, K2_X12_isLabel_q13 hT (show 0 ≤ n2 from by (first | omega | (simp only [st_s] <;> omega) | assumption | omega | fail)) (show 0 ≤ n3 from by (first | omega | (simp only [st_s] <;> omega) | assumption | omega | fail)) (show n2 + n3 ≤ 60000 from by (first | omega | (simp only [st_s] <;> omega) | assumption | omega | fail)), ?_⟩
      intro x7 r_x7 hq
      obtain ⟨q6_1, q6_2, q6_3⟩ := hq
      replace q6_1 : 0 ≤ x7 ∧ x7 ≤ 1 := q6_1
      replace q6_2 : ¬ x7 = 0 → ∀ k : Int, 0 ≤ k → k < n3 → j_lc (σ.2.1 0 (n2 + k)) := q6_2
      replace q6_3 : (∀ k : Int, 0 ≤ k → k < n3 → j_lc (σ.2.1 0 (n2 + k))) → ¬ x7 = 0 := q6_3
      refine ⟨fun c9 => ?_, fun c9 => ?_⟩
      ·
        refine h39 _ _ ?_
        refine ⟨_, K_X10_isUsable hT (show -1 ≤ n4 from by (first | omega | (simp only [st_s] <;> omega) | assumption | omega | fail)) (show n4 < 1500 from by (first | omega | (simp only [st_s] <;> omega) | assumption | omega | fail)), ?_⟩
        intro x11 r_x11 hq
        obtain ⟨q10_1, q10_2⟩ := hq
        replace q10_1 : 0 ≤ x11 ∧ x11 ≤ 1 := q10_1
        replace q10_2 : ¬ x11 = 0 → 0 ≤ n4 ∧ n4 < (σ.1 24) := q10_2
        refine ⟨fun c13 => ?_, fun c13 => ?_⟩
        ·
          refine ⟨_, K_X0_placeInFrame hT (show 0 ≤ (σ.1 24) from by (first | omega | (simp only [st_s] <;> omega) | assumption | omega | fail)) (show (σ.1 24) < 1500 from by (first | omega | (simp only [st_s] <;> omega) | assumption | omega | fail)) (show σ.2.1 27 (σ.1 24) + σ.2.1 28 (σ.1 24) ≤ 90000 from by (first | omega | (simp only [st_s] <;> omega) | assumption | omega | fail)), ?_⟩
          intro x15 r_x15 hq
          obtain ⟨q14_1, q14_2⟩ := hq
          replace q14_1 : -1 ≤ x15 ∧ x15 < 60 := q14_1
          replace q14_2 : 0 ≤ x15 → x15 < σ.2.1 28 (σ.1 24) := q14_2
          refine ⟨fun c17 => ?_, fun c17 => ?_⟩
          ·
            exact ⟨hT, (show 0 ≤ 14 ∧ 14 ≤ 19 from by (first | omega | (simp only [st_s] <;> omega) | assumption | omega | fail)), (show 14 = 0 → J_sp (σ.1 24) (σ.1 21) (σ.1 23) (σ.1 22) (σ.2.1 49) (σ.2.1 51) from by (intro z; first | (exfalso; omega) | exact SP | exact J_sp_l SP (by omega) | omega))⟩
          ·
            have lc : ¬ σ.1 22 = 300 := by first | assumption | exact fun z => q6_3 (p7 (by omega)) c9
            refine ⟨_, K_X10_isListed hT, ?_⟩
            intro x19 r_x19 hq
            have q18_1 := hq
            replace q18_1 : 0 ≤ x19 ∧ x19 ≤ 1 := q18_1
            refine ⟨fun c21 => ?_, fun c21 => ?_⟩
            ·
              refine ⟨(show 0 ≤ σ.1 22 ∧ σ.1 22 < 300 from by (first | omega | (simp only [st_s] <;> omega) | assumption | omega | fail)), ?_⟩
              replace hT := cT_a (k := 51) (j := (σ.1 22)) hT (show (0 : Int) ≤ n4 ∧ n4 ≤ 1499 from by (first | omega | (simp only [st_s] <;> omega) | assumption | omega | fail))
              refine ⟨(⟨by (first | omega | (simp only [st_s] <;> omega) | assumption | omega | fail), by (first | omega | (simp only [st_s] <;> omega) | assumption | omega | fail)⟩ : rg (σ.1 22 + 1)), ?_⟩
              replace hT := cT_v (i := 22) hT (show 0 ≤ (σ.1 22 + 1) ∧ (σ.1 22 + 1) ≤ 300 from by (first | omega | (simp only [st_s] <;> omega) | assumption | omega | fail))
              exact ⟨hT, (show 0 ≤ 0 ∧ 0 ≤ 19 from by (first | omega | (simp only [st_s] <;> omega) | assumption | omega | fail)), (show 0 = 0 → J_sp (σ.1 24) (σ.1 21) (σ.1 23) ((σ.1 22 + 1)) (σ.2.1 49) ((st (σ.2.1 51) (σ.1 22) n4)) from by (intro z; first | (exfalso; omega) | exact SP | exact J_sp_l SP (by omega) | omega))⟩
            ·
              exact ⟨hT, (show 0 ≤ 14 ∧ 14 ≤ 19 from by (first | omega | (simp only [st_s] <;> omega) | assumption | omega | fail)), (show 14 = 0 → J_sp (σ.1 24) (σ.1 21) (σ.1 23) (σ.1 22) (σ.2.1 49) (σ.2.1 51) from by (intro z; first | (exfalso; omega) | exact SP | exact J_sp_l SP (by omega) | omega))⟩
        ·
          exact ⟨hT, (show 0 ≤ 13 ∧ 13 ≤ 19 from by (first | omega | (simp only [st_s] <;> omega) | assumption | omega | fail)), (show 13 = 0 → J_sp (σ.1 24) (σ.1 21) (σ.1 23) (σ.1 22) (σ.2.1 49) (σ.2.1 51) from by (intro z; first | (exfalso; omega) | exact SP | exact J_sp_l SP (by omega) | omega))⟩
      ·
        exact ⟨hT, (show 0 ≤ 5 ∧ 5 ≤ 19 from by (first | omega | (simp only [st_s] <;> omega) | assumption | omega | fail)), (show 5 = 0 → J_sp (σ.1 24) (σ.1 21) (σ.1 23) (σ.1 22) (σ.2.1 49) (σ.2.1 51) from by (intro z; first | (exfalso; omega) | exact SP | exact J_sp_l SP (by omega) | omega))⟩
  ·
    replace hT := cT_v (i := 25) hT (show (0 : Int) ≤ 3 ∧ 3 ≤ 3 from by (first | omega | (simp only [st_s] <;> omega) | assumption | omega | fail))
    exact ⟨hT, (show 0 ≤ 0 ∧ 0 ≤ 19 from by (first | omega | (simp only [st_s] <;> omega) | assumption | omega | fail)), (show 0 = 0 → J_sp (σ.1 24) (σ.1 21) (σ.1 23) (σ.1 22) (σ.2.1 49) (σ.2.1 51) from by (intro z; first | (exfalso; omega) | exact SP | exact J_sp_l SP (by omega) | omega))⟩
set_option maxHeartbeats 1000000 in
theorem K_X10_plainStep_q13 {n2 : Int} {n3 : Int} {n4 : Int} {σ : S0} (hT : c_T σ) (p1 : 0 ≤ n2) (p2 : 0 ≤ n3) (p3 : n2 + n3 ≤ 60000) (p4 : n2 < 60000) (p5 : -1 ≤ n4) (p6 : n4 < 1500) (p7 : 0 ≤ n4 → ∀ k : Int, 0 ≤ k → k < n3 → j_lc (σ.2.1 0 (n2 + k))) (p8 : J_sp (σ.1 24) (σ.1 21) (σ.1 23) (σ.1 22) (σ.2.1 49) (σ.2.1 51)) (p9 : (σ.1 16) + (σ.1 21) ≤ 20000) (p10 : (σ.1 27) = 0) : W_X10_plainStep_q13 n2 n3 n4 σ (fun (x : Int) (τ : S0) => (c_T τ) ∧ (0 ≤ x ∧ x ≤ 19) ∧ (x = 0 → J_sp (τ.1 24) (τ.1 21) (τ.1 23) (τ.1 22) (τ.2.1 49) (τ.2.1 51)) ∧ (x = 0 → (τ.1 16) + (τ.1 21) ≤ 20000)) := by
  have A0 : ∀ j, 0 ≤ σ.2.1 0 j ∧ σ.2.1 0 j ≤ 255 := fun j => hT.2 0 j
  have A49 : ∀ j, (-300) ≤ σ.2.1 49 j ∧ σ.2.1 49 j ≤ 67035 := fun j => hT.2 49 j
  have A51 : ∀ j, 0 ≤ σ.2.1 51 j ∧ σ.2.1 51 j ≤ 1499 := fun j => hT.2 51 j
  have v16 : 0 ≤ σ.1 16 ∧ σ.1 16 ≤ 20000 := hT.1 16
  have v21 : 0 ≤ σ.1 21 ∧ σ.1 21 ≤ 20000 := hT.1 21
  have v22 : 0 ≤ σ.1 22 ∧ σ.1 22 ≤ 300 := hT.1 22
  have v23 : 0 ≤ σ.1 23 ∧ σ.1 23 ≤ 300 := hT.1 23
  have v24 : 0 ≤ σ.1 24 ∧ σ.1 24 ≤ 1499 := hT.1 24
  have v27 : 0 ≤ σ.1 27 ∧ σ.1 27 ≤ 1 := hT.1 27
  have W16 : σ.1 16 = σ.1 16 := rfl
  have W22 : σ.1 22 = σ.1 22 := rfl
  have W23 : σ.1 23 = σ.1 23 := rfl
  have W24 : σ.1 24 = σ.1 24 := rfl
  have W27 : σ.1 27 = σ.1 27 := rfl
  have G0 : σ.2.1 0 = σ.2.1 0 := rfl
  have G51 : σ.2.1 51 = σ.2.1 51 := rfl
  intro P36 h36
  have SP : J_sp (σ.1 24) (σ.1 21) (σ.1 23) (σ.1 22) (σ.2.1 49) (σ.2.1 51) := p8
  have SP_0 := SP
  refine ⟨_, K_X10_isOne_q13 hT (show 0 ≤ n2 from by (first | omega | (simp only [st_s] <;> omega) | assumption | omega | fail)) (show n2 < 60000 from by (first | omega | (simp only [st_s] <;> omega) | assumption | omega | fail)), ?_⟩
  intro x2 r_x2 hq
  have q1_1 := hq
  replace q1_1 : 0 ≤ x2 ∧ x2 ≤ 1 := q1_1
  refine ⟨fun c4 => ?_, fun c4 => ?_⟩
  ·
    refine ⟨_, K_X10_isFull hT (show 0 ≤ (σ.1 21) from by (first | omega | (simp only [st_s] <;> omega) | assumption | omega | fail)), ?_⟩
    intro x6 r_x6 hq
    obtain ⟨q5_1, q5_2⟩ := hq
    replace q5_1 : 0 ≤ x6 ∧ x6 ≤ 1 := q5_1
    replace q5_2 : x6 = 0 → (σ.1 16) + (σ.1 21) < 20000 := q5_2
    refine ⟨fun c8 => ?_, fun c8 => ?_⟩
    ·
      refine h36 _ _ ?_
      refine ⟨_, K_X10_isUsable hT (show -1 ≤ n4 from by (first | omega | (simp only [st_s] <;> omega) | assumption | omega | fail)) (show n4 < 1500 from by (first | omega | (simp only [st_s] <;> omega) | assumption | omega | fail)), ?_⟩
      intro x14 r_x14 hq
      obtain ⟨q13_1, q13_2⟩ := hq
      replace q13_1 : 0 ≤ x14 ∧ x14 ≤ 1 := q13_1
      replace q13_2 : ¬ x14 = 0 → 0 ≤ n4 ∧ n4 < (σ.1 24) := q13_2
      refine ⟨fun c16 => ?_, fun c16 => ?_⟩
      ·
        have sq6 : σ.1 16 + σ.1 21 < 20000 := by first | exact q5_2 c8 | (exfalso; exact q9_3 (p7 (by omega)) c12)
        refine ⟨_, K2_X10_addStep hT (show -300 ≤ n4 from by (first | omega | (simp only [st_s] <;> omega) | assumption | omega | fail)) (show n4 ≤ 67035 from by (first | omega | (simp only [st_s] <;> omega) | assumption | omega | fail)) (show (σ.1 21) < 20000 from by (first | omega | (simp only [st_s] <;> omega) | assumption | omega | fail)), ?_⟩
        intro τ19 hn_τ19 hf_τ19 hq
        obtain ⟨hT, q17_1, q17_2⟩ := hq
        replace q17_1 : (τ19.1 21) = (σ.1 21) + 1 := q17_1
        replace q17_2 : τ19.2.1 49 = st (σ.2.1 49) (σ.1 21) n4 := q17_2
        have w16_τ19 : τ19.1 16 = σ.1 16 := hf_τ19.1 16 (by decide)
        have w22_τ19 : τ19.1 22 = σ.1 22 := hf_τ19.1 22 (by decide)
        have w23_τ19 : τ19.1 23 = σ.1 23 := hf_τ19.1 23 (by decide)
        have w24_τ19 : τ19.1 24 = σ.1 24 := hf_τ19.1 24 (by decide)
        have w27_τ19 : τ19.1 27 = σ.1 27 := hf_τ19.1 27 (by decide)
        have g0_τ19 : τ19.2.1 0 = σ.2.1 0 := hf_τ19.2.1 0 (by decide)
        have g51_τ19 : τ19.2.1 51 = σ.2.1 51 := hf_τ19.2.1 51 (by decide)
        have W16 : τ19.1 16 = σ.1 16 := by first | exact w16_τ19.trans W16 | omega
        have W22 : τ19.1 22 = σ.1 22 := by first | exact w22_τ19.trans W22 | omega
        have W23 : τ19.1 23 = σ.1 23 := by first | exact w23_τ19.trans W23 | omega
        have W24 : τ19.1 24 = σ.1 24 := by first | exact w24_τ19.trans W24 | omega
        have W27 : τ19.1 27 = σ.1 27 := by first | exact w27_τ19.trans W27 | omega
        have G0 : τ19.2.1 0 = σ.2.1 0 := (g0_τ19).trans G0
        have G51 : τ19.2.1 51 = σ.2.1 51 := (g51_τ19).trans G51
        have A0 : ∀ j, 0 ≤ τ19.2.1 0 j ∧ τ19.2.1 0 j ≤ 255 := fun j => hT.2 0 j
        have A49 : ∀ j, (-300) ≤ τ19.2.1 49 j ∧ τ19.2.1 49 j ≤ 67035 := fun j => hT.2 49 j
        have A51 : ∀ j, 0 ≤ τ19.2.1 51 j ∧ τ19.2.1 51 j ≤ 1499 := fun j => hT.2 51 j
        have v16 : 0 ≤ τ19.1 16 ∧ τ19.1 16 ≤ 20000 := hT.1 16
        have v21 : 0 ≤ τ19.1 21 ∧ τ19.1 21 ≤ 20000 := hT.1 21
        have v22 : 0 ≤ τ19.1 22 ∧ τ19.1 22 ≤ 300 := hT.1 22
        have v23 : 0 ≤ τ19.1 23 ∧ τ19.1 23 ≤ 300 := hT.1 23
        have v24 : 0 ≤ τ19.1 24 ∧ τ19.1 24 ≤ 1499 := hT.1 24
        have v27 : 0 ≤ τ19.1 27 ∧ τ19.1 27 ≤ 1 := hT.1 27
        have SP : J_sp (τ19.1 24) (τ19.1 21) (τ19.1 23) (τ19.1 22) (τ19.2.1 49) (τ19.2.1 51) := by rw [w24_τ19, q17_1, w23_τ19, w22_τ19, q17_2, g51_τ19]; exact J_sp_a SP (by omega) (Or.inr ⟨by omega, by omega, by omega⟩)
        exact ⟨hT, (show 0 ≤ 0 ∧ 0 ≤ 19 from by (first | omega | (simp only [st_s] <;> omega) | assumption | omega | fail)), (show 0 = 0 → J_sp (τ19.1 24) (τ19.1 21) (τ19.1 23) (τ19.1 22) (τ19.2.1 49) (τ19.2.1 51) from by (intro z; first | (exfalso; omega) | exact SP | omega)), (show 0 = 0 → (τ19.1 16) + (τ19.1 21) ≤ 20000 from by (intro z; first | (exfalso; omega) | omega))⟩
      ·
        exact ⟨hT, (show 0 ≤ 13 ∧ 13 ≤ 19 from by (first | omega | (simp only [st_s] <;> omega) | assumption | omega | fail)), (show 13 = 0 → J_sp (σ.1 24) (σ.1 21) (σ.1 23) (σ.1 22) (σ.2.1 49) (σ.2.1 51) from by (intro z; first | (exfalso; omega) | exact SP | omega)), (show 13 = 0 → (σ.1 16) + (σ.1 21) ≤ 20000 from by (intro z; first | (exfalso; omega) | omega))⟩
    ·
      refine ⟨_, K2_X12_isLabel_q13 hT (show 0 ≤ n2 from by (first | omega | (simp only [st_s] <;> omega) | assumption | omega | fail)) (show 0 ≤ n3 from by (first | omega | (simp only [st_s] <;> omega) | assumption | omega | fail)) (show n2 + n3 ≤ 60000 from by (first | omega | (simp only [st_s] <;> omega) | assumption | omega | fail)), ?_⟩
      intro x10 r_x10 hq
      obtain ⟨q9_1, q9_2, q9_3⟩ := hq
      replace q9_1 : 0 ≤ x10 ∧ x10 ≤ 1 := q9_1
      replace q9_2 : ¬ x10 = 0 → ∀ k : Int, 0 ≤ k → k < n3 → j_lc (σ.2.1 0 (n2 + k)) := q9_2
      replace q9_3 : (∀ k : Int, 0 ≤ k → k < n3 → j_lc (σ.2.1 0 (n2 + k))) → ¬ x10 = 0 := q9_3
      refine ⟨fun c12 => ?_, fun c12 => ?_⟩
      ·
        refine h36 _ _ ?_
        refine ⟨_, K_X10_isUsable hT (show -1 ≤ n4 from by (first | omega | (simp only [st_s] <;> omega) | assumption | omega | fail)) (show n4 < 1500 from by (first | omega | (simp only [st_s] <;> omega) | assumption | omega | fail)), ?_⟩
        intro x14 r_x14 hq
        obtain ⟨q13_1, q13_2⟩ := hq
        replace q13_1 : 0 ≤ x14 ∧ x14 ≤ 1 := q13_1
        replace q13_2 : ¬ x14 = 0 → 0 ≤ n4 ∧ n4 < (σ.1 24) := q13_2
        refine ⟨fun c16 => ?_, fun c16 => ?_⟩
        ·
          have sq6 : σ.1 16 + σ.1 21 < 20000 := by first | exact q5_2 c8 | (exfalso; exact q9_3 (p7 (by omega)) c12)
          refine ⟨_, K2_X10_addStep hT (show -300 ≤ n4 from by (first | omega | (simp only [st_s] <;> omega) | assumption | omega | fail)) (show n4 ≤ 67035 from by (first | omega | (simp only [st_s] <;> omega) | assumption | omega | fail)) (show (σ.1 21) < 20000 from by (first | omega | (simp only [st_s] <;> omega) | assumption | omega | fail)), ?_⟩
          intro τ19 hn_τ19 hf_τ19 hq
          obtain ⟨hT, q17_1, q17_2⟩ := hq
          replace q17_1 : (τ19.1 21) = (σ.1 21) + 1 := q17_1
          replace q17_2 : τ19.2.1 49 = st (σ.2.1 49) (σ.1 21) n4 := q17_2
          have w16_τ19 : τ19.1 16 = σ.1 16 := hf_τ19.1 16 (by decide)
          have w22_τ19 : τ19.1 22 = σ.1 22 := hf_τ19.1 22 (by decide)
          have w23_τ19 : τ19.1 23 = σ.1 23 := hf_τ19.1 23 (by decide)
          have w24_τ19 : τ19.1 24 = σ.1 24 := hf_τ19.1 24 (by decide)
          have w27_τ19 : τ19.1 27 = σ.1 27 := hf_τ19.1 27 (by decide)
          have g0_τ19 : τ19.2.1 0 = σ.2.1 0 := hf_τ19.2.1 0 (by decide)
          have g51_τ19 : τ19.2.1 51 = σ.2.1 51 := hf_τ19.2.1 51 (by decide)
          have W16 : τ19.1 16 = σ.1 16 := by first | exact w16_τ19.trans W16 | omega
          have W22 : τ19.1 22 = σ.1 22 := by first | exact w22_τ19.trans W22 | omega
          have W23 : τ19.1 23 = σ.1 23 := by first | exact w23_τ19.trans W23 | omega
          have W24 : τ19.1 24 = σ.1 24 := by first | exact w24_τ19.trans W24 | omega
          have W27 : τ19.1 27 = σ.1 27 := by first | exact w27_τ19.trans W27 | omega
          have G0 : τ19.2.1 0 = σ.2.1 0 := (g0_τ19).trans G0
          have G51 : τ19.2.1 51 = σ.2.1 51 := (g51_τ19).trans G51
          have A0 : ∀ j, 0 ≤ τ19.2.1 0 j ∧ τ19.2.1 0 j ≤ 255 := fun j => hT.2 0 j
          have A49 : ∀ j, (-300) ≤ τ19.2.1 49 j ∧ τ19.2.1 49 j ≤ 67035 := fun j => hT.2 49 j
          have A51 : ∀ j, 0 ≤ τ19.2.1 51 j ∧ τ19.2.1 51 j ≤ 1499 := fun j => hT.2 51 j
          have v16 : 0 ≤ τ19.1 16 ∧ τ19.1 16 ≤ 20000 := hT.1 16
          have v21 : 0 ≤ τ19.1 21 ∧ τ19.1 21 ≤ 20000 := hT.1 21
          have v22 : 0 ≤ τ19.1 22 ∧ τ19.1 22 ≤ 300 := hT.1 22
          have v23 : 0 ≤ τ19.1 23 ∧ τ19.1 23 ≤ 300 := hT.1 23
          have v24 : 0 ≤ τ19.1 24 ∧ τ19.1 24 ≤ 1499 := hT.1 24
          have v27 : 0 ≤ τ19.1 27 ∧ τ19.1 27 ≤ 1 := hT.1 27
          have SP : J_sp (τ19.1 24) (τ19.1 21) (τ19.1 23) (τ19.1 22) (τ19.2.1 49) (τ19.2.1 51) := by rw [w24_τ19, q17_1, w23_τ19, w22_τ19, q17_2, g51_τ19]; exact J_sp_a SP (by omega) (Or.inr ⟨by omega, by omega, by omega⟩)
          exact ⟨hT, (show 0 ≤ 0 ∧ 0 ≤ 19 from by (first | omega | (simp only [st_s] <;> omega) | assumption | omega | fail)), (show 0 = 0 → J_sp (τ19.1 24) (τ19.1 21) (τ19.1 23) (τ19.1 22) (τ19.2.1 49) (τ19.2.1 51) from by (intro z; first | (exfalso; omega) | exact SP | omega)), (show 0 = 0 → (τ19.1 16) + (τ19.1 21) ≤ 20000 from by (intro z; first | (exfalso; omega) | omega))⟩
        ·
          exact ⟨hT, (show 0 ≤ 13 ∧ 13 ≤ 19 from by (first | omega | (simp only [st_s] <;> omega) | assumption | omega | fail)), (show 13 = 0 → J_sp (σ.1 24) (σ.1 21) (σ.1 23) (σ.1 22) (σ.2.1 49) (σ.2.1 51) from by (intro z; first | (exfalso; omega) | exact SP | omega)), (show 13 = 0 → (σ.1 16) + (σ.1 21) ≤ 20000 from by (intro z; first | (exfalso; omega) | omega))⟩
      ·
        exact ⟨hT, (show 0 ≤ 5 ∧ 5 ≤ 19 from by (first | omega | (simp only [st_s] <;> omega) | assumption | omega | fail)), (show 5 = 0 → J_sp (σ.1 24) (σ.1 21) (σ.1 23) (σ.1 22) (σ.2.1 49) (σ.2.1 51) from by (intro z; first | (exfalso; omega) | exact SP | omega)), (show 5 = 0 → (σ.1 16) + (σ.1 21) ≤ 20000 from by (intro z; first | (exfalso; omega) | omega))⟩
  ·
    replace hT := cT_v (i := 28) hT (show (0 : Int) ≤ 1 ∧ 1 ≤ 1 from by (first | omega | (simp only [st_s] <;> omega) | assumption | omega | fail))
    exact ⟨hT, (show 0 ≤ 0 ∧ 0 ≤ 19 from by (first | omega | (simp only [st_s] <;> omega) | assumption | omega | fail)), (show 0 = 0 → J_sp (σ.1 24) (σ.1 21) (σ.1 23) (σ.1 22) (σ.2.1 49) (σ.2.1 51) from by (intro z; first | (exfalso; omega) | exact SP | omega)), (show 0 = 0 → (σ.1 16) + (σ.1 21) ≤ 20000 from by (intro z; first | (exfalso; omega) | omega))⟩
set_option maxHeartbeats 1000000 in
theorem K_X10_word_q13 {n2 : Int} {n3 : Int} {n4 : Int} {σ : S0} (hT : c_T σ) (p1 : 0 ≤ n2) (p2 : 0 ≤ n3) (p3 : n2 + n3 ≤ 60000) (p4 : n2 < 60000) (p5 : -1 ≤ n4) (p6 : n4 < 1500) (p7 : 0 ≤ n4 → ∀ k : Int, 0 ≤ k → k < n3 → j_lc (σ.2.1 0 (n2 + k))) (p8 : J_sp (σ.1 24) (σ.1 21) (σ.1 23) (σ.1 22) (σ.2.1 49) (σ.2.1 51)) (p9 : (σ.1 16) + (σ.1 21) ≤ 20000) (p10 : J_f (σ.1 24) (σ.1 13) (σ.1 14) (σ.2.1 13) (σ.2.1 14) (σ.2.1 15) (σ.2.1 16) (σ.2.1 27) (σ.2.1 28) (σ.2.1 29) (σ.2.1 30) (σ.2.1 31) (σ.2.1 32)) (p11 : ¬ (σ.1 27) = 0 → 1 ≤ (σ.1 21) ∧ 0 ≤ σ.2.1 49 ((σ.1 21) - 1) ∧ σ.2.1 49 ((σ.1 21) - 1) < 65536) (p12 : (σ.1 26) ≤ 1000000) (p13 : (σ.1 25) ≤ 2 → (σ.1 27) = 0) : W_X10_word_q13 n2 n3 n4 σ (fun (x : Int) (τ : S0) => (c_T τ) ∧ (0 ≤ x ∧ x ≤ 19) ∧ (x = 0 → J_sp (τ.1 24) (τ.1 21) (τ.1 23) (τ.1 22) (τ.2.1 49) (τ.2.1 51)) ∧ (x = 0 → (τ.1 16) + (τ.1 21) ≤ 20000) ∧ (x = 0 → ¬ (τ.1 27) = 0 → 1 ≤ (τ.1 21) ∧ 0 ≤ τ.2.1 49 ((τ.1 21) - 1) ∧ τ.2.1 49 ((τ.1 21) - 1) < 65536) ∧ (x = 0 → (τ.1 26) ≤ 1000000) ∧ (x = 0 → (τ.1 25) ≤ 2 → (τ.1 27) = 0)) := by
  have A0 : ∀ j, 0 ≤ σ.2.1 0 j ∧ σ.2.1 0 j ≤ 255 := fun j => hT.2 0 j
  have A13 : ∀ j, 0 ≤ σ.2.1 13 j ∧ σ.2.1 13 j ≤ 4 := fun j => hT.2 13 j
  have A14 : ∀ j, 0 ≤ σ.2.1 14 j ∧ σ.2.1 14 j ≤ 30000 := fun j => hT.2 14 j
  have A15 : ∀ j, 0 ≤ σ.2.1 15 j ∧ σ.2.1 15 j ≤ 999 := fun j => hT.2 15 j
  have A16 : ∀ j, (-1) ≤ σ.2.1 16 j ∧ σ.2.1 16 j ≤ 1499 := fun j => hT.2 16 j
  have A27 : ∀ j, 0 ≤ σ.2.1 27 j ∧ σ.2.1 27 j ≤ 90000 := fun j => hT.2 27 j
  have A28 : ∀ j, 0 ≤ σ.2.1 28 j ∧ σ.2.1 28 j ≤ 60 := fun j => hT.2 28 j
  have A29 : ∀ j, 0 ≤ σ.2.1 29 j ∧ σ.2.1 29 j ≤ 1499 := fun j => hT.2 29 j
  have A30 : ∀ j, 0 ≤ σ.2.1 30 j ∧ σ.2.1 30 j ≤ 20000 := fun j => hT.2 30 j
  have A31 : ∀ j, 0 ≤ σ.2.1 31 j ∧ σ.2.1 31 j ≤ 20000 := fun j => hT.2 31 j
  have A32 : ∀ j, 0 ≤ σ.2.1 32 j ∧ σ.2.1 32 j ≤ 999999 := fun j => hT.2 32 j
  have A49 : ∀ j, (-300) ≤ σ.2.1 49 j ∧ σ.2.1 49 j ≤ 67035 := fun j => hT.2 49 j
  have A51 : ∀ j, 0 ≤ σ.2.1 51 j ∧ σ.2.1 51 j ≤ 1499 := fun j => hT.2 51 j
  have v13 : 0 ≤ σ.1 13 ∧ σ.1 13 ≤ 90000 := hT.1 13
  have v14 : 0 ≤ σ.1 14 ∧ σ.1 14 ≤ 20000 := hT.1 14
  have v16 : 0 ≤ σ.1 16 ∧ σ.1 16 ≤ 20000 := hT.1 16
  have v21 : 0 ≤ σ.1 21 ∧ σ.1 21 ≤ 20000 := hT.1 21
  have v22 : 0 ≤ σ.1 22 ∧ σ.1 22 ≤ 300 := hT.1 22
  have v23 : 0 ≤ σ.1 23 ∧ σ.1 23 ≤ 300 := hT.1 23
  have v24 : 0 ≤ σ.1 24 ∧ σ.1 24 ≤ 1499 := hT.1 24
  have v25 : 0 ≤ σ.1 25 ∧ σ.1 25 ≤ 3 := hT.1 25
  have v26 : 0 ≤ σ.1 26 ∧ σ.1 26 ≤ 5000010 := hT.1 26
  have v27 : 0 ≤ σ.1 27 ∧ σ.1 27 ≤ 1 := hT.1 27
  have W13 : σ.1 13 = σ.1 13 := rfl
  have W14 : σ.1 14 = σ.1 14 := rfl
  have W16 : σ.1 16 = σ.1 16 := rfl
  have W24 : σ.1 24 = σ.1 24 := rfl
  have G0 : σ.2.1 0 = σ.2.1 0 := rfl
  have G13 : σ.2.1 13 = σ.2.1 13 := rfl
  have G14 : σ.2.1 14 = σ.2.1 14 := rfl
  have G15 : σ.2.1 15 = σ.2.1 15 := rfl
  have G16 : σ.2.1 16 = σ.2.1 16 := rfl
  have G27 : σ.2.1 27 = σ.2.1 27 := rfl
  have G28 : σ.2.1 28 = σ.2.1 28 := rfl
  have G29 : σ.2.1 29 = σ.2.1 29 := rfl
  have G30 : σ.2.1 30 = σ.2.1 30 := rfl
  have G31 : σ.2.1 31 = σ.2.1 31 := rfl
  have G32 : σ.2.1 32 = σ.2.1 32 := rfl
  intro P29 P42 h29 h42
  have SP : J_sp (σ.1 24) (σ.1 21) (σ.1 23) (σ.1 22) (σ.2.1 49) (σ.2.1 51) := p8
  have FRT : J_f (σ.1 24) (σ.1 13) (σ.1 14) (σ.2.1 13) (σ.2.1 14) (σ.2.1 15) (σ.2.1 16) (σ.2.1 27) (σ.2.1 28) (σ.2.1 29) (σ.2.1 30) (σ.2.1 31) (σ.2.1 32) := p10
  have FRT_0 := FRT
  have SP_0 := SP
  have l_42 : ∀ (τ_42 : S0), (c_T τ_42) → (τ_42.1 13 = σ.1 13) → (τ_42.1 14 = σ.1 14) → (τ_42.1 16 = σ.1 16) → (τ_42.1 24 = σ.1 24) → (τ_42.2.1 0 = σ.2.1 0) → (τ_42.2.1 13 = σ.2.1 13) → (τ_42.2.1 14 = σ.2.1 14) → (τ_42.2.1 15 = σ.2.1 15) → (τ_42.2.1 16 = σ.2.1 16) → (τ_42.2.1 27 = σ.2.1 27) → (τ_42.2.1 28 = σ.2.1 28) → (τ_42.2.1 29 = σ.2.1 29) → (τ_42.2.1 30 = σ.2.1 30) → (τ_42.2.1 31 = σ.2.1 31) → (τ_42.2.1 32 = σ.2.1 32) → (J_sp (τ_42.1 24) (τ_42.1 21) (τ_42.1 23) (τ_42.1 22) (τ_42.2.1 49) (τ_42.2.1 51)) → ((τ_42.1 16) + (τ_42.1 21) ≤ 20000) → (¬ (τ_42.1 27) = 0 → 1 ≤ (τ_42.1 21) ∧ 0 ≤ τ_42.2.1 49 ((τ_42.1 21) - 1) ∧ τ_42.2.1 49 ((τ_42.1 21) - 1) < 65536) → ((τ_42.1 26) ≤ 1000000) → ((τ_42.1 25) ≤ 2 → (τ_42.1 27) = 0) → (¬ (τ_42.1 25) = 0) → P42 n2 n3 n4 τ_42 := by
    intro τ_42 hT W13 W14 W16 W24 G0 G13 G14 G15 G16 G27 G28 G29 G30 G31 G32 i42_1 i42_2 i42_3 i42_4 i42_5 i42_6
    have A0 : ∀ j, 0 ≤ τ_42.2.1 0 j ∧ τ_42.2.1 0 j ≤ 255 := fun j => hT.2 0 j
    have A13 : ∀ j, 0 ≤ τ_42.2.1 13 j ∧ τ_42.2.1 13 j ≤ 4 := fun j => hT.2 13 j
    have A14 : ∀ j, 0 ≤ τ_42.2.1 14 j ∧ τ_42.2.1 14 j ≤ 30000 := fun j => hT.2 14 j
    have A15 : ∀ j, 0 ≤ τ_42.2.1 15 j ∧ τ_42.2.1 15 j ≤ 999 := fun j => hT.2 15 j
    have A16 : ∀ j, (-1) ≤ τ_42.2.1 16 j ∧ τ_42.2.1 16 j ≤ 1499 := fun j => hT.2 16 j
    have A27 : ∀ j, 0 ≤ τ_42.2.1 27 j ∧ τ_42.2.1 27 j ≤ 90000 := fun j => hT.2 27 j
    have A28 : ∀ j, 0 ≤ τ_42.2.1 28 j ∧ τ_42.2.1 28 j ≤ 60 := fun j => hT.2 28 j
    have A29 : ∀ j, 0 ≤ τ_42.2.1 29 j ∧ τ_42.2.1 29 j ≤ 1499 := fun j => hT.2 29 j
    have A30 : ∀ j, 0 ≤ τ_42.2.1 30 j ∧ τ_42.2.1 30 j ≤ 20000 := fun j => hT.2 30 j
    have A31 : ∀ j, 0 ≤ τ_42.2.1 31 j ∧ τ_42.2.1 31 j ≤ 20000 := fun j => hT.2 31 j
    have A32 : ∀ j, 0 ≤ τ_42.2.1 32 j ∧ τ_42.2.1 32 j ≤ 999999 := fun j => hT.2 32 j
    have A49 : ∀ j, (-300) ≤ τ_42.2.1 49 j ∧ τ_42.2.1 49 j ≤ 67035 := fun j => hT.2 49 j
    have A51 : ∀ j, 0 ≤ τ_42.2.1 51 j ∧ τ_42.2.1 51 j ≤ 1499 := fun j => hT.2 51 j
    have v13 : 0 ≤ τ_42.1 13 ∧ τ_42.1 13 ≤ 90000 := hT.1 13
    have v14 : 0 ≤ τ_42.1 14 ∧ τ_42.1 14 ≤ 20000 := hT.1 14
    have v16 : 0 ≤ τ_42.1 16 ∧ τ_42.1 16 ≤ 20000 := hT.1 16
    have v21 : 0 ≤ τ_42.1 21 ∧ τ_42.1 21 ≤ 20000 := hT.1 21
    have v22 : 0 ≤ τ_42.1 22 ∧ τ_42.1 22 ≤ 300 := hT.1 22
    have v23 : 0 ≤ τ_42.1 23 ∧ τ_42.1 23 ≤ 300 := hT.1 23
    have v24 : 0 ≤ τ_42.1 24 ∧ τ_42.1 24 ≤ 1499 := hT.1 24
    have v25 : 0 ≤ τ_42.1 25 ∧ τ_42.1 25 ≤ 3 := hT.1 25
    have v26 : 0 ≤ τ_42.1 26 ∧ τ_42.1 26 ≤ 5000010 := hT.1 26
    have v27 : 0 ≤ τ_42.1 27 ∧ τ_42.1 27 ≤ 1 := hT.1 27
    have SP : J_sp (τ_42.1 24) (τ_42.1 21) (τ_42.1 23) (τ_42.1 22) (τ_42.2.1 49) (τ_42.2.1 51) := i42_1
    have FRT : J_f (τ_42.1 24) (τ_42.1 13) (τ_42.1 14) (τ_42.2.1 13) (τ_42.2.1 14) (τ_42.2.1 15) (τ_42.2.1 16) (τ_42.2.1 27) (τ_42.2.1 28) (τ_42.2.1 29) (τ_42.2.1 30) (τ_42.2.1 31) (τ_42.2.1 32) := by rw [show (J_f (τ_42.1 24) (τ_42.1 13) (τ_42.1 14) (τ_42.2.1 13) (τ_42.2.1 14) (τ_42.2.1 15) (τ_42.2.1 16) (τ_42.2.1 27) (τ_42.2.1 28) (τ_42.2.1 29) (τ_42.2.1 30) (τ_42.2.1 31) (τ_42.2.1 32)) = (J_f (σ.1 24) (σ.1 13) (σ.1 14) (σ.2.1 13) (σ.2.1 14) (σ.2.1 15) (σ.2.1 16) (σ.2.1 27) (σ.2.1 28) (σ.2.1 29) (σ.2.1 30) (σ.2.1 31) (σ.2.1 32)) from by rw [W13, W14, W24, G13, G14, G15, G16, G27, G28, G29, G30, G31, G32]]; exact FRT_0
    refine h42 n2 n3 n4 τ_42 ?_
    refine ⟨fun c6 => ?_, fun c6 => ?_⟩
    ·
      refine ⟨fun c7 => ?_, fun c7 => ?_⟩
      ·
        refine ⟨_, K_X10_letters_q13 hT (show 0 ≤ n2 from by (first | omega | (simp only [st_s] <;> omega) | assumption | omega | fail)) (show 0 ≤ n3 from by (first | omega | (simp only [st_s] <;> omega) | assumption | omega | fail)) (show n2 + n3 ≤ 60000 from by (first | omega | (simp only [st_s] <;> omega) | assumption | omega | fail)) (show J_sp (τ_42.1 24) (τ_42.1 21) (τ_42.1 23) (τ_42.1 22) (τ_42.2.1 49) (τ_42.2.1 51) from SP) (show (τ_42.1 16) + (τ_42.1 21) ≤ 20000 from by (first | omega | (simp only [st_s] <;> omega) | assumption | omega | fail)) (show J_f (τ_42.1 24) (τ_42.1 13) (τ_42.1 14) (τ_42.2.1 13) (τ_42.2.1 14) (τ_42.2.1 15) (τ_42.2.1 16) (τ_42.2.1 27) (τ_42.2.1 28) (τ_42.2.1 29) (τ_42.2.1 30) (τ_42.2.1 31) (τ_42.2.1 32) from FRT) (show ¬ (τ_42.1 27) = 0 → 1 ≤ (τ_42.1 21) ∧ 0 ≤ τ_42.2.1 49 ((τ_42.1 21) - 1) ∧ τ_42.2.1 49 ((τ_42.1 21) - 1) < 65536 from by (first | omega | (simp only [st_s] <;> omega) | assumption | omega | fail)) (show (τ_42.1 26) ≤ 1000000 from by (first | omega | (simp only [st_s] <;> omega) | assumption | omega | fail)), ?_⟩
        intro x9 τ10 r_x9 hn_τ10 hf_τ10 hq
        obtain ⟨hT, q8_1, q8_2, q8_3, q8_4, q8_5⟩ := hq
        replace q8_1 : 0 ≤ x9 ∧ x9 ≤ 19 := q8_1
        replace q8_2 : x9 = 0 → J_sp (τ10.1 24) (τ10.1 21) (τ10.1 23) (τ10.1 22) (τ10.2.1 49) (τ10.2.1 51) := q8_2
        replace q8_3 : x9 = 0 → (τ10.1 16) + (τ10.1 21) ≤ 20000 := q8_3
        replace q8_4 : x9 = 0 → ¬ (τ10.1 27) = 0 → 1 ≤ (τ10.1 21) ∧ 0 ≤ τ10.2.1 49 ((τ10.1 21) - 1) ∧ τ10.2.1 49 ((τ10.1 21) - 1) < 65536 := q8_4
        replace q8_5 : x9 = 0 → (τ10.1 26) ≤ 1000000 := q8_5
        have w13_τ10 : τ10.1 13 = τ_42.1 13 := hf_τ10.1 13 (by decide)
        have w14_τ10 : τ10.1 14 = τ_42.1 14 := hf_τ10.1 14 (by decide)
        have w16_τ10 : τ10.1 16 = τ_42.1 16 := hf_τ10.1 16 (by decide)
        have w22_τ10 : τ10.1 22 = τ_42.1 22 := hf_τ10.1 22 (by decide)
        have w24_τ10 : τ10.1 24 = τ_42.1 24 := hf_τ10.1 24 (by decide)
        have w25_τ10 : τ10.1 25 = τ_42.1 25 := hf_τ10.1 25 (by decide)
        have g0_τ10 : τ10.2.1 0 = τ_42.2.1 0 := hf_τ10.2.1 0 (by decide)
        have g13_τ10 : τ10.2.1 13 = τ_42.2.1 13 := hf_τ10.2.1 13 (by decide)
        have g14_τ10 : τ10.2.1 14 = τ_42.2.1 14 := hf_τ10.2.1 14 (by decide)
        have g15_τ10 : τ10.2.1 15 = τ_42.2.1 15 := hf_τ10.2.1 15 (by decide)
        have g16_τ10 : τ10.2.1 16 = τ_42.2.1 16 := hf_τ10.2.1 16 (by decide)
        have g27_τ10 : τ10.2.1 27 = τ_42.2.1 27 := hf_τ10.2.1 27 (by decide)
        have g28_τ10 : τ10.2.1 28 = τ_42.2.1 28 := hf_τ10.2.1 28 (by decide)
        have g29_τ10 : τ10.2.1 29 = τ_42.2.1 29 := hf_τ10.2.1 29 (by decide)
        have g30_τ10 : τ10.2.1 30 = τ_42.2.1 30 := hf_τ10.2.1 30 (by decide)
        have g31_τ10 : τ10.2.1 31 = τ_42.2.1 31 := hf_τ10.2.1 31 (by decide)
        have g32_τ10 : τ10.2.1 32 = τ_42.2.1 32 := hf_τ10.2.1 32 (by decide)
        have g51_τ10 : τ10.2.1 51 = τ_42.2.1 51 := hf_τ10.2.1 51 (by decide)
        have W13 : τ10.1 13 = σ.1 13 := by first | exact w13_τ10.trans W13 | omega
        have W14 : τ10.1 14 = σ.1 14 := by first | exact w14_τ10.trans W14 | omega
        have W16 : τ10.1 16 = σ.1 16 := by first | exact w16_τ10.trans W16 | omega
        have W24 : τ10.1 24 = σ.1 24 := by first | exact w24_τ10.trans W24 | omega
        have G0 : τ10.2.1 0 = σ.2.1 0 := (g0_τ10).trans G0
        have G13 : τ10.2.1 13 = σ.2.1 13 := (g13_τ10).trans G13
        have G14 : τ10.2.1 14 = σ.2.1 14 := (g14_τ10).trans G14
        have G15 : τ10.2.1 15 = σ.2.1 15 := (g15_τ10).trans G15
        have G16 : τ10.2.1 16 = σ.2.1 16 := (g16_τ10).trans G16
        have G27 : τ10.2.1 27 = σ.2.1 27 := (g27_τ10).trans G27
        have G28 : τ10.2.1 28 = σ.2.1 28 := (g28_τ10).trans G28
        have G29 : τ10.2.1 29 = σ.2.1 29 := (g29_τ10).trans G29
        have G30 : τ10.2.1 30 = σ.2.1 30 := (g30_τ10).trans G30
        have G31 : τ10.2.1 31 = σ.2.1 31 := (g31_τ10).trans G31
        have G32 : τ10.2.1 32 = σ.2.1 32 := (g32_τ10).trans G32
        have FRT : J_f (τ10.1 24) (τ10.1 13) (τ10.1 14) (τ10.2.1 13) (τ10.2.1 14) (τ10.2.1 15) (τ10.2.1 16) (τ10.2.1 27) (τ10.2.1 28) (τ10.2.1 29) (τ10.2.1 30) (τ10.2.1 31) (τ10.2.1 32) := by rw [show (J_f (τ10.1 24) (τ10.1 13) (τ10.1 14) (τ10.2.1 13) (τ10.2.1 14) (τ10.2.1 15) (τ10.2.1 16) (τ10.2.1 27) (τ10.2.1 28) (τ10.2.1 29) (τ10.2.1 30) (τ10.2.1 31) (τ10.2.1 32)) = (J_f (τ_42.1 24) (τ_42.1 13) (τ_42.1 14) (τ_42.2.1 13) (τ_42.2.1 14) (τ_42.2.1 15) (τ_42.2.1 16) (τ_42.2.1 27) (τ_42.2.1 28) (τ_42.2.1 29) (τ_42.2.1 30) (τ_42.2.1 31) (τ_42.2.1 32)) from by rw [w13_τ10, w14_τ10, w24_τ10, g13_τ10, g14_τ10, g15_τ10, g16_τ10, g27_τ10, g28_τ10, g29_τ10, g30_τ10, g31_τ10, g32_τ10]]; exact FRT
        have A0 : ∀ j, 0 ≤ τ10.2.1 0 j ∧ τ10.2.1 0 j ≤ 255 := fun j => hT.2 0 j
        have A13 : ∀ j, 0 ≤ τ10.2.1 13 j ∧ τ10.2.1 13 j ≤ 4 := fun j => hT.2 13 j
        have A14 : ∀ j, 0 ≤ τ10.2.1 14 j ∧ τ10.2.1 14 j ≤ 30000 := fun j => hT.2 14 j
        have A15 : ∀ j, 0 ≤ τ10.2.1 15 j ∧ τ10.2.1 15 j ≤ 999 := fun j => hT.2 15 j
        have A16 : ∀ j, (-1) ≤ τ10.2.1 16 j ∧ τ10.2.1 16 j ≤ 1499 := fun j => hT.2 16 j
        have A27 : ∀ j, 0 ≤ τ10.2.1 27 j ∧ τ10.2.1 27 j ≤ 90000 := fun j => hT.2 27 j
        have A28 : ∀ j, 0 ≤ τ10.2.1 28 j ∧ τ10.2.1 28 j ≤ 60 := fun j => hT.2 28 j
        have A29 : ∀ j, 0 ≤ τ10.2.1 29 j ∧ τ10.2.1 29 j ≤ 1499 := fun j => hT.2 29 j
        have A30 : ∀ j, 0 ≤ τ10.2.1 30 j ∧ τ10.2.1 30 j ≤ 20000 := fun j => hT.2 30 j
        have A31 : ∀ j, 0 ≤ τ10.2.1 31 j ∧ τ10.2.1 31 j ≤ 20000 := fun j => hT.2 31 j
        have A32 : ∀ j, 0 ≤ τ10.2.1 32 j ∧ τ10.2.1 32 j ≤ 999999 := fun j => hT.2 32 j
        have A49 : ∀ j, (-300) ≤ τ10.2.1 49 j ∧ τ10.2.1 49 j ≤ 67035 := fun j => hT.2 49 j
        have A51 : ∀ j, 0 ≤ τ10.2.1 51 j ∧ τ10.2.1 51 j ≤ 1499 := fun j => hT.2 51 j
        have v13 : 0 ≤ τ10.1 13 ∧ τ10.1 13 ≤ 90000 := hT.1 13
        have v14 : 0 ≤ τ10.1 14 ∧ τ10.1 14 ≤ 20000 := hT.1 14
        have v16 : 0 ≤ τ10.1 16 ∧ τ10.1 16 ≤ 20000 := hT.1 16
        have v21 : 0 ≤ τ10.1 21 ∧ τ10.1 21 ≤ 20000 := hT.1 21
        have v22 : 0 ≤ τ10.1 22 ∧ τ10.1 22 ≤ 300 := hT.1 22
        have v23 : 0 ≤ τ10.1 23 ∧ τ10.1 23 ≤ 300 := hT.1 23
        have v24 : 0 ≤ τ10.1 24 ∧ τ10.1 24 ≤ 1499 := hT.1 24
        have v25 : 0 ≤ τ10.1 25 ∧ τ10.1 25 ≤ 3 := hT.1 25
        have v26 : 0 ≤ τ10.1 26 ∧ τ10.1 26 ≤ 5000010 := hT.1 26
        have v27 : 0 ≤ τ10.1 27 ∧ τ10.1 27 ≤ 1 := hT.1 27
        exact ⟨hT, (show 0 ≤ x9 ∧ x9 ≤ 19 from by (first | omega | (simp only [st_s] <;> omega) | assumption | omega | fail)), (show x9 = 0 → J_sp (τ10.1 24) (τ10.1 21) (τ10.1 23) (τ10.1 22) (τ10.2.1 49) (τ10.2.1 51) from by (intro z; first | (exfalso; omega) | exact SP | exact q8_2 z | exact q11_2 z | exact q14_2 z | omega)), (show x9 = 0 → (τ10.1 16) + (τ10.1 21) ≤ 20000 from by (intro z; first | (exfalso; omega) | exact q8_3 z | exact q14_3 z | omega)), (show x9 = 0 → ¬ (τ10.1 27) = 0 → 1 ≤ (τ10.1 21) ∧ 0 ≤ τ10.2.1 49 ((τ10.1 21) - 1) ∧ τ10.2.1 49 ((τ10.1 21) - 1) < 65536 from by (intro z; first | (exfalso; omega) | exact q8_4 z | omega)), (show x9 = 0 → (τ10.1 26) ≤ 1000000 from by (intro z; first | (exfalso; omega) | exact q8_5 z | omega)), (show x9 = 0 → (τ10.1 25) ≤ 2 → (τ10.1 27) = 0 from by (intro z; first | (exfalso; omega) | omega))⟩
      ·
        refine ⟨_, K_X10_listLabel_q13 hT (show 0 ≤ n2 from by (first | omega | (simp only [st_s] <;> omega) | assumption | omega | fail)) (show 0 ≤ n3 from by (first | omega | (simp only [st_s] <;> omega) | assumption | omega | fail)) (show n2 + n3 ≤ 60000 from by (first | omega | (simp only [st_s] <;> omega) | assumption | omega | fail)) (show n2 < 60000 from by (first | omega | (simp only [st_s] <;> omega) | assumption | omega | fail)) (show -1 ≤ n4 from by (first | omega | (simp only [st_s] <;> omega) | assumption | omega | fail)) (show n4 < 1500 from by (first | omega | (simp only [st_s] <;> omega) | assumption | omega | fail)) (show 0 ≤ n4 → ∀ k : Int, 0 ≤ k → k < n3 → j_lc (τ_42.2.1 0 (n2 + k)) from by (rw [G0]; exact p7)) (show J_sp (τ_42.1 24) (τ_42.1 21) (τ_42.1 23) (τ_42.1 22) (τ_42.2.1 49) (τ_42.2.1 51) from SP) (show J_f (τ_42.1 24) (τ_42.1 13) (τ_42.1 14) (τ_42.2.1 13) (τ_42.2.1 14) (τ_42.2.1 15) (τ_42.2.1 16) (τ_42.2.1 27) (τ_42.2.1 28) (τ_42.2.1 29) (τ_42.2.1 30) (τ_42.2.1 31) (τ_42.2.1 32) from FRT), ?_⟩
        intro x12 τ13 r_x12 hn_τ13 hf_τ13 hq
        obtain ⟨hT, q11_1, q11_2⟩ := hq
        replace q11_1 : 0 ≤ x12 ∧ x12 ≤ 19 := q11_1
        replace q11_2 : x12 = 0 → J_sp (τ13.1 24) (τ13.1 21) (τ13.1 23) (τ13.1 22) (τ13.2.1 49) (τ13.2.1 51) := q11_2
        have w13_τ13 : τ13.1 13 = τ_42.1 13 := hf_τ13.1 13 (by decide)
        have w14_τ13 : τ13.1 14 = τ_42.1 14 := hf_τ13.1 14 (by decide)
        have w16_τ13 : τ13.1 16 = τ_42.1 16 := hf_τ13.1 16 (by decide)
        have w21_τ13 : τ13.1 21 = τ_42.1 21 := hf_τ13.1 21 (by decide)
        have w23_τ13 : τ13.1 23 = τ_42.1 23 := hf_τ13.1 23 (by decide)
        have w24_τ13 : τ13.1 24 = τ_42.1 24 := hf_τ13.1 24 (by decide)
        have w26_τ13 : τ13.1 26 = τ_42.1 26 := hf_τ13.1 26 (by decide)
        have w27_τ13 : τ13.1 27 = τ_42.1 27 := hf_τ13.1 27 (by decide)
        have g0_τ13 : τ13.2.1 0 = τ_42.2.1 0 := hf_τ13.2.1 0 (by decide)
        have g13_τ13 : τ13.2.1 13 = τ_42.2.1 13 := hf_τ13.2.1 13 (by decide)
        have g14_τ13 : τ13.2.1 14 = τ_42.2.1 14 := hf_τ13.2.1 14 (by decide)
        have g15_τ13 : τ13.2.1 15 = τ_42.2.1 15 := hf_τ13.2.1 15 (by decide)
        have g16_τ13 : τ13.2.1 16 = τ_42.2.1 16 := hf_τ13.2.1 16 (by decide)
        have g27_τ13 : τ13.2.1 27 = τ_42.2.1 27 := hf_τ13.2.1 27 (by decide)
        have g28_τ13 : τ13.2.1 28 = τ_42.2.1 28 := hf_τ13.2.1 28 (by decide)
        have g29_τ13 : τ13.2.1 29 = τ_42.2.1 29 := hf_τ13.2.1 29 (by decide)
        have g30_τ13 : τ13.2.1 30 = τ_42.2.1 30 := hf_τ13.2.1 30 (by decide)
        have g31_τ13 : τ13.2.1 31 = τ_42.2.1 31 := hf_τ13.2.1 31 (by decide)
        have g32_τ13 : τ13.2.1 32 = τ_42.2.1 32 := hf_τ13.2.1 32 (by decide)
        have g49_τ13 : τ13.2.1 49 = τ_42.2.1 49 := hf_τ13.2.1 49 (by decide)
        have W13 : τ13.1 13 = σ.1 13 := by first | exact w13_τ13.trans W13 | omega
        have W14 : τ13.1 14 = σ.1 14 := by first | exact w14_τ13.trans W14 | omega
        have W16 : τ13.1 16 = σ.1 16 := by first | exact w16_τ13.trans W16 | omega
        have W24 : τ13.1 24 = σ.1 24 := by first | exact w24_τ13.trans W24 | omega
        have G0 : τ13.2.1 0 = σ.2.1 0 := (g0_τ13).trans G0
        have G13 : τ13.2.1 13 = σ.2.1 13 := (g13_τ13).trans G13
        have G14 : τ13.2.1 14 = σ.2.1 14 := (g14_τ13).trans G14
        have G15 : τ13.2.1 15 = σ.2.1 15 := (g15_τ13).trans G15
        have G16 : τ13.2.1 16 = σ.2.1 16 := (g16_τ13).trans G16
        have G27 : τ13.2.1 27 = σ.2.1 27 := (g27_τ13).trans G27
        have G28 : τ13.2.1 28 = σ.2.1 28 := (g28_τ13).trans G28
        have G29 : τ13.2.1 29 = σ.2.1 29 := (g29_τ13).trans G29
        have G30 : τ13.2.1 30 = σ.2.1 30 := (g30_τ13).trans G30
        have G31 : τ13.2.1 31 = σ.2.1 31 := (g31_τ13).trans G31
        have G32 : τ13.2.1 32 = σ.2.1 32 := (g32_τ13).trans G32
        have FRT : J_f (τ13.1 24) (τ13.1 13) (τ13.1 14) (τ13.2.1 13) (τ13.2.1 14) (τ13.2.1 15) (τ13.2.1 16) (τ13.2.1 27) (τ13.2.1 28) (τ13.2.1 29) (τ13.2.1 30) (τ13.2.1 31) (τ13.2.1 32) := by rw [show (J_f (τ13.1 24) (τ13.1 13) (τ13.1 14) (τ13.2.1 13) (τ13.2.1 14) (τ13.2.1 15) (τ13.2.1 16) (τ13.2.1 27) (τ13.2.1 28) (τ13.2.1 29) (τ13.2.1 30) (τ13.2.1 31) (τ13.2.1 32)) = (J_f (τ_42.1 24) (τ_42.1 13) (τ_42.1 14) (τ_42.2.1 13) (τ_42.2.1 14) (τ_42.2.1 15) (τ_42.2.1 16) (τ_42.2.1 27) (τ_42.2.1 28) (τ_42.2.1 29) (τ_42.2.1 30) (τ_42.2.1 31) (τ_42.2.1 32)) from by rw [w13_τ13, w14_τ13, w24_τ13, g13_τ13, g14_τ13, g15_τ13, g16_τ13, g27_τ13, g28_τ13, g29_τ13, g30_τ13, g31_τ13, g32_τ13]]; exact FRT
        have A0 : ∀ j, 0 ≤ τ13.2.1 0 j ∧ τ13.2.1 0 j ≤ 255 := fun j => hT.2 0 j
        have A13 : ∀ j, 0 ≤ τ13.2.1 13 j ∧ τ13.2.1 13 j ≤ 4 := fun j => hT.2 13 j
        have A14 : ∀ j, 0 ≤ τ13.2.1 14 j ∧ τ13.2.1 14 j ≤ 30000 := fun j => hT.2 14 j
        have A15 : ∀ j, 0 ≤ τ13.2.1 15 j ∧ τ13.2.1 15 j ≤ 999 := fun j => hT.2 15 j
        have A16 : ∀ j, (-1) ≤ τ13.2.1 16 j ∧ τ13.2.1 16 j ≤ 1499 := fun j => hT.2 16 j
        have A27 : ∀ j, 0 ≤ τ13.2.1 27 j ∧ τ13.2.1 27 j ≤ 90000 := fun j => hT.2 27 j
        have A28 : ∀ j, 0 ≤ τ13.2.1 28 j ∧ τ13.2.1 28 j ≤ 60 := fun j => hT.2 28 j
        have A29 : ∀ j, 0 ≤ τ13.2.1 29 j ∧ τ13.2.1 29 j ≤ 1499 := fun j => hT.2 29 j
        have A30 : ∀ j, 0 ≤ τ13.2.1 30 j ∧ τ13.2.1 30 j ≤ 20000 := fun j => hT.2 30 j
        have A31 : ∀ j, 0 ≤ τ13.2.1 31 j ∧ τ13.2.1 31 j ≤ 20000 := fun j => hT.2 31 j
        have A32 : ∀ j, 0 ≤ τ13.2.1 32 j ∧ τ13.2.1 32 j ≤ 999999 := fun j => hT.2 32 j
        have A49 : ∀ j, (-300) ≤ τ13.2.1 49 j ∧ τ13.2.1 49 j ≤ 67035 := fun j => hT.2 49 j
        have A51 : ∀ j, 0 ≤ τ13.2.1 51 j ∧ τ13.2.1 51 j ≤ 1499 := fun j => hT.2 51 j
        have v13 : 0 ≤ τ13.1 13 ∧ τ13.1 13 ≤ 90000 := hT.1 13
        have v14 : 0 ≤ τ13.1 14 ∧ τ13.1 14 ≤ 20000 := hT.1 14
        have v16 : 0 ≤ τ13.1 16 ∧ τ13.1 16 ≤ 20000 := hT.1 16
        have v21 : 0 ≤ τ13.1 21 ∧ τ13.1 21 ≤ 20000 := hT.1 21
        have v22 : 0 ≤ τ13.1 22 ∧ τ13.1 22 ≤ 300 := hT.1 22
        have v23 : 0 ≤ τ13.1 23 ∧ τ13.1 23 ≤ 300 := hT.1 23
        have v24 : 0 ≤ τ13.1 24 ∧ τ13.1 24 ≤ 1499 := hT.1 24
        have v25 : 0 ≤ τ13.1 25 ∧ τ13.1 25 ≤ 3 := hT.1 25
        have v26 : 0 ≤ τ13.1 26 ∧ τ13.1 26 ≤ 5000010 := hT.1 26
        have v27 : 0 ≤ τ13.1 27 ∧ τ13.1 27 ≤ 1 := hT.1 27
        exact ⟨hT, (show 0 ≤ x12 ∧ x12 ≤ 19 from by (first | omega | (simp only [st_s] <;> omega) | assumption | omega | fail)), (show x12 = 0 → J_sp (τ13.1 24) (τ13.1 21) (τ13.1 23) (τ13.1 22) (τ13.2.1 49) (τ13.2.1 51) from by (intro z; first | (exfalso; omega) | exact SP | exact q8_2 z | exact q11_2 z | exact q14_2 z | omega)), (show x12 = 0 → (τ13.1 16) + (τ13.1 21) ≤ 20000 from by (intro z; first | (exfalso; omega) | exact q8_3 z | exact q14_3 z | omega)), (show x12 = 0 → ¬ (τ13.1 27) = 0 → 1 ≤ (τ13.1 21) ∧ 0 ≤ τ13.2.1 49 ((τ13.1 21) - 1) ∧ τ13.2.1 49 ((τ13.1 21) - 1) < 65536 from by (intro z; first | (exfalso; omega) | exact q8_4 z | omega)), (show x12 = 0 → (τ13.1 26) ≤ 1000000 from by (intro z; first | (exfalso; omega) | exact q8_5 z | omega)), (show x12 = 0 → (τ13.1 25) ≤ 2 → (τ13.1 27) = 0 from by (intro z; first | (exfalso; omega) | omega))⟩
    ·
      refine ⟨_, K_X10_plainStep_q13 hT (show 0 ≤ n2 from by (first | omega | (simp only [st_s] <;> omega) | assumption | omega | fail)) (show 0 ≤ n3 from by (first | omega | (simp only [st_s] <;> omega) | assumption | omega | fail)) (show n2 + n3 ≤ 60000 from by (first | omega | (simp only [st_s] <;> omega) | assumption | omega | fail)) (show n2 < 60000 from by (first | omega | (simp only [st_s] <;> omega) | assumption | omega | fail)) (show -1 ≤ n4 from by (first | omega | (simp only [st_s] <;> omega) | assumption | omega | fail)) (show n4 < 1500 from by (first | omega | (simp only [st_s] <;> omega) | assumption | omega | fail)) (show 0 ≤ n4 → ∀ k : Int, 0 ≤ k → k < n3 → j_lc (τ_42.2.1 0 (n2 + k)) from by (rw [G0]; exact p7)) (show J_sp (τ_42.1 24) (τ_42.1 21) (τ_42.1 23) (τ_42.1 22) (τ_42.2.1 49) (τ_42.2.1 51) from SP) (show (τ_42.1 16) + (τ_42.1 21) ≤ 20000 from by (first | omega | (simp only [st_s] <;> omega) | assumption | omega | fail)) (show (τ_42.1 27) = 0 from by (first | omega | (simp only [st_s] <;> omega) | assumption | omega | fail)), ?_⟩
      intro x15 τ16 r_x15 hn_τ16 hf_τ16 hq
      obtain ⟨hT, q14_1, q14_2, q14_3⟩ := hq
      replace q14_1 : 0 ≤ x15 ∧ x15 ≤ 19 := q14_1
      replace q14_2 : x15 = 0 → J_sp (τ16.1 24) (τ16.1 21) (τ16.1 23) (τ16.1 22) (τ16.2.1 49) (τ16.2.1 51) := q14_2
      replace q14_3 : x15 = 0 → (τ16.1 16) + (τ16.1 21) ≤ 20000 := q14_3
      have w13_τ16 : τ16.1 13 = τ_42.1 13 := hf_τ16.1 13 (by decide)
      have w14_τ16 : τ16.1 14 = τ_42.1 14 := hf_τ16.1 14 (by decide)
      have w16_τ16 : τ16.1 16 = τ_42.1 16 := hf_τ16.1 16 (by decide)
      have w22_τ16 : τ16.1 22 = τ_42.1 22 := hf_τ16.1 22 (by decide)
      have w23_τ16 : τ16.1 23 = τ_42.1 23 := hf_τ16.1 23 (by decide)
      have w24_τ16 : τ16.1 24 = τ_42.1 24 := hf_τ16.1 24 (by decide)
      have w25_τ16 : τ16.1 25 = τ_42.1 25 := hf_τ16.1 25 (by decide)
      have w26_τ16 : τ16.1 26 = τ_42.1 26 := hf_τ16.1 26 (by decide)
      have w27_τ16 : τ16.1 27 = τ_42.1 27 := hf_τ16.1 27 (by decide)
      have g0_τ16 : τ16.2.1 0 = τ_42.2.1 0 := hf_τ16.2.1 0 (by decide)
      have g13_τ16 : τ16.2.1 13 = τ_42.2.1 13 := hf_τ16.2.1 13 (by decide)
      have g14_τ16 : τ16.2.1 14 = τ_42.2.1 14 := hf_τ16.2.1 14 (by decide)
      have g15_τ16 : τ16.2.1 15 = τ_42.2.1 15 := hf_τ16.2.1 15 (by decide)
      have g16_τ16 : τ16.2.1 16 = τ_42.2.1 16 := hf_τ16.2.1 16 (by decide)
      have g27_τ16 : τ16.2.1 27 = τ_42.2.1 27 := hf_τ16.2.1 27 (by decide)
      have g28_τ16 : τ16.2.1 28 = τ_42.2.1 28 := hf_τ16.2.1 28 (by decide)
      have g29_τ16 : τ16.2.1 29 = τ_42.2.1 29 := hf_τ16.2.1 29 (by decide)
      have g30_τ16 : τ16.2.1 30 = τ_42.2.1 30 := hf_τ16.2.1 30 (by decide)
      have g31_τ16 : τ16.2.1 31 = τ_42.2.1 31 := hf_τ16.2.1 31 (by decide)
      have g32_τ16 : τ16.2.1 32 = τ_42.2.1 32 := hf_τ16.2.1 32 (by decide)
      have g51_τ16 : τ16.2.1 51 = τ_42.2.1 51 := hf_τ16.2.1 51 (by decide)
      have W13 : τ16.1 13 = σ.1 13 := by first | exact w13_τ16.trans W13 | omega
      have W14 : τ16.1 14 = σ.1 14 := by first | exact w14_τ16.trans W14 | omega
      have W16 : τ16.1 16 = σ.1 16 := by first | exact w16_τ16.trans W16 | omega
      have W24 : τ16.1 24 = σ.1 24 := by first | exact w24_τ16.trans W24 | omega
      have G0 : τ16.2.1 0 = σ.2.1 0 := (g0_τ16).trans G0
      have G13 : τ16.2.1 13 = σ.2.1 13 := (g13_τ16).trans G13
      have G14 : τ16.2.1 14 = σ.2.1 14 := (g14_τ16).trans G14
      have G15 : τ16.2.1 15 = σ.2.1 15 := (g15_τ16).trans G15
      have G16 : τ16.2.1 16 = σ.2.1 16 := (g16_τ16).trans G16
      have G27 : τ16.2.1 27 = σ.2.1 27 := (g27_τ16).trans G27
      have G28 : τ16.2.1 28 = σ.2.1 28 := (g28_τ16).trans G28
      have G29 : τ16.2.1 29 = σ.2.1 29 := (g29_τ16).trans G29
      have G30 : τ16.2.1 30 = σ.2.1 30 := (g30_τ16).trans G30
      have G31 : τ16.2.1 31 = σ.2.1 31 := (g31_τ16).trans G31
      have G32 : τ16.2.1 32 = σ.2.1 32 := (g32_τ16).trans G32
      have FRT : J_f (τ16.1 24) (τ16.1 13) (τ16.1 14) (τ16.2.1 13) (τ16.2.1 14) (τ16.2.1 15) (τ16.2.1 16) (τ16.2.1 27) (τ16.2.1 28) (τ16.2.1 29) (τ16.2.1 30) (τ16.2.1 31) (τ16.2.1 32) := by rw [show (J_f (τ16.1 24) (τ16.1 13) (τ16.1 14) (τ16.2.1 13) (τ16.2.1 14) (τ16.2.1 15) (τ16.2.1 16) (τ16.2.1 27) (τ16.2.1 28) (τ16.2.1 29) (τ16.2.1 30) (τ16.2.1 31) (τ16.2.1 32)) = (J_f (τ_42.1 24) (τ_42.1 13) (τ_42.1 14) (τ_42.2.1 13) (τ_42.2.1 14) (τ_42.2.1 15) (τ_42.2.1 16) (τ_42.2.1 27) (τ_42.2.1 28) (τ_42.2.1 29) (τ_42.2.1 30) (τ_42.2.1 31) (τ_42.2.1 32)) from by rw [w13_τ16, w14_τ16, w24_τ16, g13_τ16, g14_τ16, g15_τ16, g16_τ16, g27_τ16, g28_τ16, g29_τ16, g30_τ16, g31_τ16, g32_τ16]]; exact FRT
      have A0 : ∀ j, 0 ≤ τ16.2.1 0 j ∧ τ16.2.1 0 j ≤ 255 := fun j => hT.2 0 j
      have A13 : ∀ j, 0 ≤ τ16.2.1 13 j ∧ τ16.2.1 13 j ≤ 4 := fun j => hT.2 13 j
      have A14 : ∀ j, 0 ≤ τ16.2.1 14 j ∧ τ16.2.1 14 j ≤ 30000 := fun j => hT.2 14 j
      have A15 : ∀ j, 0 ≤ τ16.2.1 15 j ∧ τ16.2.1 15 j ≤ 999 := fun j => hT.2 15 j
      have A16 : ∀ j, (-1) ≤ τ16.2.1 16 j ∧ τ16.2.1 16 j ≤ 1499 := fun j => hT.2 16 j
      have A27 : ∀ j, 0 ≤ τ16.2.1 27 j ∧ τ16.2.1 27 j ≤ 90000 := fun j => hT.2 27 j
      have A28 : ∀ j, 0 ≤ τ16.2.1 28 j ∧ τ16.2.1 28 j ≤ 60 := fun j => hT.2 28 j
      have A29 : ∀ j, 0 ≤ τ16.2.1 29 j ∧ τ16.2.1 29 j ≤ 1499 := fun j => hT.2 29 j
      have A30 : ∀ j, 0 ≤ τ16.2.1 30 j ∧ τ16.2.1 30 j ≤ 20000 := fun j => hT.2 30 j
      have A31 : ∀ j, 0 ≤ τ16.2.1 31 j ∧ τ16.2.1 31 j ≤ 20000 := fun j => hT.2 31 j
      have A32 : ∀ j, 0 ≤ τ16.2.1 32 j ∧ τ16.2.1 32 j ≤ 999999 := fun j => hT.2 32 j
      have A49 : ∀ j, (-300) ≤ τ16.2.1 49 j ∧ τ16.2.1 49 j ≤ 67035 := fun j => hT.2 49 j
      have A51 : ∀ j, 0 ≤ τ16.2.1 51 j ∧ τ16.2.1 51 j ≤ 1499 := fun j => hT.2 51 j
      have v13 : 0 ≤ τ16.1 13 ∧ τ16.1 13 ≤ 90000 := hT.1 13
      have v14 : 0 ≤ τ16.1 14 ∧ τ16.1 14 ≤ 20000 := hT.1 14
      have v16 : 0 ≤ τ16.1 16 ∧ τ16.1 16 ≤ 20000 := hT.1 16
      have v21 : 0 ≤ τ16.1 21 ∧ τ16.1 21 ≤ 20000 := hT.1 21
      have v22 : 0 ≤ τ16.1 22 ∧ τ16.1 22 ≤ 300 := hT.1 22
      have v23 : 0 ≤ τ16.1 23 ∧ τ16.1 23 ≤ 300 := hT.1 23
      have v24 : 0 ≤ τ16.1 24 ∧ τ16.1 24 ≤ 1499 := hT.1 24
      have v25 : 0 ≤ τ16.1 25 ∧ τ16.1 25 ≤ 3 := hT.1 25
      have v26 : 0 ≤ τ16.1 26 ∧ τ16.1 26 ≤ 5000010 := hT.1 26
      have v27 : 0 ≤ τ16.1 27 ∧ τ16.1 27 ≤ 1 := hT.1 27
      exact ⟨hT, (show 0 ≤ x15 ∧ x15 ≤ 19 from by (first | omega | (simp only [st_s] <;> omega) | assumption | omega | fail)), (show x15 = 0 → J_sp (τ16.1 24) (τ16.1 21) (τ16.1 23) (τ16.1 22) (τ16.2.1 49) (τ16.2.1 51) from by (intro z; first | (exfalso; omega) | exact SP | exact q8_2 z | exact q11_2 z | exact q14_2 z | omega)), (show x15 = 0 → (τ16.1 16) + (τ16.1 21) ≤ 20000 from by (intro z; first | (exfalso; omega) | exact q8_3 z | exact q14_3 z | omega)), (show x15 = 0 → ¬ (τ16.1 27) = 0 → 1 ≤ (τ16.1 21) ∧ 0 ≤ τ16.2.1 49 ((τ16.1 21) - 1) ∧ τ16.2.1 49 ((τ16.1 21) - 1) < 65536 from by (intro z; first | (exfalso; omega) | exact q8_4 z | omega)), (show x15 = 0 → (τ16.1 26) ≤ 1000000 from by (intro z; first | (exfalso; omega) | exact q8_5 z | omega)), (show x15 = 0 → (τ16.1 25) ≤ 2 → (τ16.1 27) = 0 from by (intro z; first | (exfalso; omega) | omega))⟩
  replace hT := cT_v (i := 29) hT (show 0 ≤ n2 ∧ n2 ≤ 60000 from by (first | omega | (simp only [st_s] <;> omega) | assumption | omega | fail))
  refine ⟨fun c1 => ?_, fun c1 => ?_⟩
  ·
    exact l_42 _ hT (show σ.1 13 = σ.1 13 from by first | exact W13 | omega) (show σ.1 14 = σ.1 14 from by first | exact W14 | omega) (show σ.1 16 = σ.1 16 from by first | exact W16 | omega) (show σ.1 24 = σ.1 24 from by first | exact W24 | omega) G0 G13 G14 G15 G16 G27 G28 G29 G30 G31 G32 (show J_sp (σ.1 24) (σ.1 21) (σ.1 23) (σ.1 22) (σ.2.1 49) (σ.2.1 51) from SP) (show (σ.1 16) + (σ.1 21) ≤ 20000 from by (first | omega | (simp only [st_s] <;> omega) | assumption | omega | fail)) (show ¬ (σ.1 27) = 0 → 1 ≤ (σ.1 21) ∧ 0 ≤ σ.2.1 49 ((σ.1 21) - 1) ∧ σ.2.1 49 ((σ.1 21) - 1) < 65536 from by (first | omega | (simp only [st_s] <;> omega) | assumption | omega | fail)) (show (σ.1 26) ≤ 1000000 from by (first | omega | (simp only [st_s] <;> omega) | assumption | omega | fail)) (show (σ.1 25) ≤ 2 → (σ.1 27) = 0 from by (first | omega | (simp only [st_s] <;> omega) | assumption | omega | fail)) (show ¬ (σ.1 25) = 0 from by (first | omega | (simp only [st_s] <;> omega) | assumption | omega | fail))
  ·
    refine ⟨_, K_X10_isOne_q13 hT (show 0 ≤ n2 from by (first | omega | (simp only [st_s] <;> omega) | assumption | omega | fail)) (show n2 < 60000 from by (first | omega | (simp only [st_s] <;> omega) | assumption | omega | fail)), ?_⟩
    intro x3 r_x3 hq
    have q2_1 := hq
    replace q2_1 : 0 ≤ x3 ∧ x3 ≤ 1 := q2_1
    refine ⟨fun c5 => ?_, fun c5 => ?_⟩
    ·
      obtain ⟨τ_29, e_τ_29⟩ : ∃ z : S0, z = s_v σ 29 n2 := ⟨_, rfl⟩
      rw [← e_τ_29]
      replace hT : c_T τ_29 := by rw [e_τ_29]; exact hT
      have w13_τ_29 : τ_29.1 13 = σ.1 13 := by rw [e_τ_29]; rfl
      have w14_τ_29 : τ_29.1 14 = σ.1 14 := by rw [e_τ_29]; rfl
      have w16_τ_29 : τ_29.1 16 = σ.1 16 := by rw [e_τ_29]; rfl
      have w21_τ_29 : τ_29.1 21 = σ.1 21 := by rw [e_τ_29]; rfl
      have w22_τ_29 : τ_29.1 22 = σ.1 22 := by rw [e_τ_29]; rfl
      have w23_τ_29 : τ_29.1 23 = σ.1 23 := by rw [e_τ_29]; rfl
      have w24_τ_29 : τ_29.1 24 = σ.1 24 := by rw [e_τ_29]; rfl
      have w25_τ_29 : τ_29.1 25 = σ.1 25 := by rw [e_τ_29]; rfl
      have w26_τ_29 : τ_29.1 26 = σ.1 26 := by rw [e_τ_29]; rfl
      have w27_τ_29 : τ_29.1 27 = σ.1 27 := by rw [e_τ_29]; rfl
      have g0_τ_29 : τ_29.2.1 0 = σ.2.1 0 := by rw [e_τ_29]; rfl
      have g13_τ_29 : τ_29.2.1 13 = σ.2.1 13 := by rw [e_τ_29]; rfl
      have g14_τ_29 : τ_29.2.1 14 = σ.2.1 14 := by rw [e_τ_29]; rfl
      have g15_τ_29 : τ_29.2.1 15 = σ.2.1 15 := by rw [e_τ_29]; rfl
      have g16_τ_29 : τ_29.2.1 16 = σ.2.1 16 := by rw [e_τ_29]; rfl
      have g27_τ_29 : τ_29.2.1 27 = σ.2.1 27 := by rw [e_τ_29]; rfl
      have g28_τ_29 : τ_29.2.1 28 = σ.2.1 28 := by rw [e_τ_29]; rfl
      have g29_τ_29 : τ_29.2.1 29 = σ.2.1 29 := by rw [e_τ_29]; rfl
      have g30_τ_29 : τ_29.2.1 30 = σ.2.1 30 := by rw [e_τ_29]; rfl
      have g31_τ_29 : τ_29.2.1 31 = σ.2.1 31 := by rw [e_τ_29]; rfl
      have g32_τ_29 : τ_29.2.1 32 = σ.2.1 32 := by rw [e_τ_29]; rfl
      have g49_τ_29 : τ_29.2.1 49 = σ.2.1 49 := by rw [e_τ_29]; rfl
      have g51_τ_29 : τ_29.2.1 51 = σ.2.1 51 := by rw [e_τ_29]; rfl
      have W13 : τ_29.1 13 = σ.1 13 := by first | exact w13_τ_29.trans W13 | omega
      have W14 : τ_29.1 14 = σ.1 14 := by first | exact w14_τ_29.trans W14 | omega
      have W16 : τ_29.1 16 = σ.1 16 := by first | exact w16_τ_29.trans W16 | omega
      have W24 : τ_29.1 24 = σ.1 24 := by first | exact w24_τ_29.trans W24 | omega
      have G0 : τ_29.2.1 0 = σ.2.1 0 := (g0_τ_29).trans G0
      have G13 : τ_29.2.1 13 = σ.2.1 13 := (g13_τ_29).trans G13
      have G14 : τ_29.2.1 14 = σ.2.1 14 := (g14_τ_29).trans G14
      have G15 : τ_29.2.1 15 = σ.2.1 15 := (g15_τ_29).trans G15
      have G16 : τ_29.2.1 16 = σ.2.1 16 := (g16_τ_29).trans G16
      have G27 : τ_29.2.1 27 = σ.2.1 27 := (g27_τ_29).trans G27
      have G28 : τ_29.2.1 28 = σ.2.1 28 := (g28_τ_29).trans G28
      have G29 : τ_29.2.1 29 = σ.2.1 29 := (g29_τ_29).trans G29
      have G30 : τ_29.2.1 30 = σ.2.1 30 := (g30_τ_29).trans G30
      have G31 : τ_29.2.1 31 = σ.2.1 31 := (g31_τ_29).trans G31
      have G32 : τ_29.2.1 32 = σ.2.1 32 := (g32_τ_29).trans G32
      have SP : J_sp (τ_29.1 24) (τ_29.1 21) (τ_29.1 23) (τ_29.1 22) (τ_29.2.1 49) (τ_29.2.1 51) := by rw [show (J_sp (τ_29.1 24) (τ_29.1 21) (τ_29.1 23) (τ_29.1 22) (τ_29.2.1 49) (τ_29.2.1 51)) = (J_sp (σ.1 24) (σ.1 21) (σ.1 23) (σ.1 22) (σ.2.1 49) (σ.2.1 51)) from by rw [w21_τ_29, w22_τ_29, w23_τ_29, w24_τ_29, g49_τ_29, g51_τ_29]]; exact SP
      have FRT : J_f (τ_29.1 24) (τ_29.1 13) (τ_29.1 14) (τ_29.2.1 13) (τ_29.2.1 14) (τ_29.2.1 15) (τ_29.2.1 16) (τ_29.2.1 27) (τ_29.2.1 28) (τ_29.2.1 29) (τ_29.2.1 30) (τ_29.2.1 31) (τ_29.2.1 32) := by rw [show (J_f (τ_29.1 24) (τ_29.1 13) (τ_29.1 14) (τ_29.2.1 13) (τ_29.2.1 14) (τ_29.2.1 15) (τ_29.2.1 16) (τ_29.2.1 27) (τ_29.2.1 28) (τ_29.2.1 29) (τ_29.2.1 30) (τ_29.2.1 31) (τ_29.2.1 32)) = (J_f (σ.1 24) (σ.1 13) (σ.1 14) (σ.2.1 13) (σ.2.1 14) (σ.2.1 15) (σ.2.1 16) (σ.2.1 27) (σ.2.1 28) (σ.2.1 29) (σ.2.1 30) (σ.2.1 31) (σ.2.1 32)) from by rw [w13_τ_29, w14_τ_29, w24_τ_29, g13_τ_29, g14_τ_29, g15_τ_29, g16_τ_29, g27_τ_29, g28_τ_29, g29_τ_29, g30_τ_29, g31_τ_29, g32_τ_29]]; exact FRT
      have A0 : ∀ j, 0 ≤ τ_29.2.1 0 j ∧ τ_29.2.1 0 j ≤ 255 := fun j => hT.2 0 j
      have A13 : ∀ j, 0 ≤ τ_29.2.1 13 j ∧ τ_29.2.1 13 j ≤ 4 := fun j => hT.2 13 j
      have A14 : ∀ j, 0 ≤ τ_29.2.1 14 j ∧ τ_29.2.1 14 j ≤ 30000 := fun j => hT.2 14 j
      have A15 : ∀ j, 0 ≤ τ_29.2.1 15 j ∧ τ_29.2.1 15 j ≤ 999 := fun j => hT.2 15 j
      have A16 : ∀ j, (-1) ≤ τ_29.2.1 16 j ∧ τ_29.2.1 16 j ≤ 1499 := fun j => hT.2 16 j
      have A27 : ∀ j, 0 ≤ τ_29.2.1 27 j ∧ τ_29.2.1 27 j ≤ 90000 := fun j => hT.2 27 j
      have A28 : ∀ j, 0 ≤ τ_29.2.1 28 j ∧ τ_29.2.1 28 j ≤ 60 := fun j => hT.2 28 j
      have A29 : ∀ j, 0 ≤ τ_29.2.1 29 j ∧ τ_29.2.1 29 j ≤ 1499 := fun j => hT.2 29 j
      have A30 : ∀ j, 0 ≤ τ_29.2.1 30 j ∧ τ_29.2.1 30 j ≤ 20000 := fun j => hT.2 30 j
      have A31 : ∀ j, 0 ≤ τ_29.2.1 31 j ∧ τ_29.2.1 31 j ≤ 20000 := fun j => hT.2 31 j
      have A32 : ∀ j, 0 ≤ τ_29.2.1 32 j ∧ τ_29.2.1 32 j ≤ 999999 := fun j => hT.2 32 j
      have A49 : ∀ j, (-300) ≤ τ_29.2.1 49 j ∧ τ_29.2.1 49 j ≤ 67035 := fun j => hT.2 49 j
      have A51 : ∀ j, 0 ≤ τ_29.2.1 51 j ∧ τ_29.2.1 51 j ≤ 1499 := fun j => hT.2 51 j
      have v13 : 0 ≤ τ_29.1 13 ∧ τ_29.1 13 ≤ 90000 := hT.1 13
      have v14 : 0 ≤ τ_29.1 14 ∧ τ_29.1 14 ≤ 20000 := hT.1 14
      have v16 : 0 ≤ τ_29.1 16 ∧ τ_29.1 16 ≤ 20000 := hT.1 16
      have v21 : 0 ≤ τ_29.1 21 ∧ τ_29.1 21 ≤ 20000 := hT.1 21
      have v22 : 0 ≤ τ_29.1 22 ∧ τ_29.1 22 ≤ 300 := hT.1 22
      have v23 : 0 ≤ τ_29.1 23 ∧ τ_29.1 23 ≤ 300 := hT.1 23
      have v24 : 0 ≤ τ_29.1 24 ∧ τ_29.1 24 ≤ 1499 := hT.1 24
      have v25 : 0 ≤ τ_29.1 25 ∧ τ_29.1 25 ≤ 3 := hT.1 25
      have v26 : 0 ≤ τ_29.1 26 ∧ τ_29.1 26 ≤ 5000010 := hT.1 26
      have v27 : 0 ≤ τ_29.1 27 ∧ τ_29.1 27 ≤ 1 := hT.1 27
      refine h29 _ _ _ _ _ ?_
      replace hT := cT_v (i := 25) hT (show (0 : Int) ≤ 1 ∧ 1 ≤ 3 from by (first | omega | (simp only [st_s] <;> omega) | assumption | omega | fail))
      refine ⟨fun c17 => ?_, fun c17 => ?_⟩
      ·
        exact l_42 _ hT (show τ_29.1 13 = σ.1 13 from by first | exact W13 | omega) (show τ_29.1 14 = σ.1 14 from by first | exact W14 | omega) (show τ_29.1 16 = σ.1 16 from by first | exact W16 | omega) (show τ_29.1 24 = σ.1 24 from by first | exact W24 | omega) G0 G13 G14 G15 G16 G27 G28 G29 G30 G31 G32 (show J_sp (τ_29.1 24) (τ_29.1 21) (τ_29.1 23) (τ_29.1 22) (τ_29.2.1 49) (τ_29.2.1 51) from SP) (show (τ_29.1 16) + (τ_29.1 21) ≤ 20000 from by (first | omega | (simp only [st_s] <;> omega) | assumption | omega | fail)) (show ¬ (τ_29.1 27) = 0 → 1 ≤ (τ_29.1 21) ∧ 0 ≤ τ_29.2.1 49 ((τ_29.1 21) - 1) ∧ τ_29.2.1 49 ((τ_29.1 21) - 1) < 65536 from by (first | omega | (simp only [st_s] <;> omega) | assumption | omega | fail)) (show (τ_29.1 26) ≤ 1000000 from by (first | omega | (simp only [st_s] <;> omega) | assumption | omega | fail)) (show (1) ≤ 2 → (τ_29.1 27) = 0 from by (first | omega | (simp only [st_s] <;> omega) | assumption | omega | fail)) (show ¬ (1) = 0 from by (first | omega | (simp only [st_s] <;> omega) | assumption | omega | fail))
      ·
        exact ⟨hT, (show 0 ≤ 0 ∧ 0 ≤ 19 from by (first | omega | (simp only [st_s] <;> omega) | assumption | omega | fail)), (show 0 = 0 → J_sp (τ_29.1 24) (τ_29.1 21) (τ_29.1 23) (τ_29.1 22) (τ_29.2.1 49) (τ_29.2.1 51) from by (intro z; first | (exfalso; omega) | exact SP | exact q8_2 z | exact q11_2 z | exact q14_2 z | omega)), (show 0 = 0 → (τ_29.1 16) + (τ_29.1 21) ≤ 20000 from by (intro z; first | (exfalso; omega) | exact q8_3 z | exact q14_3 z | omega)), (show 0 = 0 → ¬ (τ_29.1 27) = 0 → 1 ≤ (τ_29.1 21) ∧ 0 ≤ τ_29.2.1 49 ((τ_29.1 21) - 1) ∧ τ_29.2.1 49 ((τ_29.1 21) - 1) < 65536 from by (intro z; first | (exfalso; omega) | exact q8_4 z | omega)), (show 0 = 0 → (τ_29.1 26) ≤ 1000000 from by (intro z; first | (exfalso; omega) | exact q8_5 z | omega)), (show 0 = 0 → (1) ≤ 2 → (τ_29.1 27) = 0 from by (intro z; first | (exfalso; omega) | omega))⟩
    ·
      obtain ⟨τ_29, e_τ_29⟩ : ∃ z : S0, z = s_v σ 29 n2 := ⟨_, rfl⟩
      rw [← e_τ_29]
      replace hT : c_T τ_29 := by rw [e_τ_29]; exact hT
      have w13_τ_29 : τ_29.1 13 = σ.1 13 := by rw [e_τ_29]; rfl
      have w14_τ_29 : τ_29.1 14 = σ.1 14 := by rw [e_τ_29]; rfl
      have w16_τ_29 : τ_29.1 16 = σ.1 16 := by rw [e_τ_29]; rfl
      have w21_τ_29 : τ_29.1 21 = σ.1 21 := by rw [e_τ_29]; rfl
      have w22_τ_29 : τ_29.1 22 = σ.1 22 := by rw [e_τ_29]; rfl
      have w23_τ_29 : τ_29.1 23 = σ.1 23 := by rw [e_τ_29]; rfl
      have w24_τ_29 : τ_29.1 24 = σ.1 24 := by rw [e_τ_29]; rfl
      have w25_τ_29 : τ_29.1 25 = σ.1 25 := by rw [e_τ_29]; rfl
      have w26_τ_29 : τ_29.1 26 = σ.1 26 := by rw [e_τ_29]; rfl
      have w27_τ_29 : τ_29.1 27 = σ.1 27 := by rw [e_τ_29]; rfl
      have g0_τ_29 : τ_29.2.1 0 = σ.2.1 0 := by rw [e_τ_29]; rfl
      have g13_τ_29 : τ_29.2.1 13 = σ.2.1 13 := by rw [e_τ_29]; rfl
      have g14_τ_29 : τ_29.2.1 14 = σ.2.1 14 := by rw [e_τ_29]; rfl
      have g15_τ_29 : τ_29.2.1 15 = σ.2.1 15 := by rw [e_τ_29]; rfl
      have g16_τ_29 : τ_29.2.1 16 = σ.2.1 16 := by rw [e_τ_29]; rfl
      have g27_τ_29 : τ_29.2.1 27 = σ.2.1 27 := by rw [e_τ_29]; rfl
      have g28_τ_29 : τ_29.2.1 28 = σ.2.1 28 := by rw [e_τ_29]; rfl
      have g29_τ_29 : τ_29.2.1 29 = σ.2.1 29 := by rw [e_τ_29]; rfl
      have g30_τ_29 : τ_29.2.1 30 = σ.2.1 30 := by rw [e_τ_29]; rfl
      have g31_τ_29 : τ_29.2.1 31 = σ.2.1 31 := by rw [e_τ_29]; rfl
      have g32_τ_29 : τ_29.2.1 32 = σ.2.1 32 := by rw [e_τ_29]; rfl
      have g49_τ_29 : τ_29.2.1 49 = σ.2.1 49 := by rw [e_τ_29]; rfl
      have g51_τ_29 : τ_29.2.1 51 = σ.2.1 51 := by rw [e_τ_29]; rfl
      have W13 : τ_29.1 13 = σ.1 13 := by first | exact w13_τ_29.trans W13 | omega
      have W14 : τ_29.1 14 = σ.1 14 := by first | exact w14_τ_29.trans W14 | omega
      have W16 : τ_29.1 16 = σ.1 16 := by first | exact w16_τ_29.trans W16 | omega
      have W24 : τ_29.1 24 = σ.1 24 := by first | exact w24_τ_29.trans W24 | omega
      have G0 : τ_29.2.1 0 = σ.2.1 0 := (g0_τ_29).trans G0
      have G13 : τ_29.2.1 13 = σ.2.1 13 := (g13_τ_29).trans G13
      have G14 : τ_29.2.1 14 = σ.2.1 14 := (g14_τ_29).trans G14
      have G15 : τ_29.2.1 15 = σ.2.1 15 := (g15_τ_29).trans G15
      have G16 : τ_29.2.1 16 = σ.2.1 16 := (g16_τ_29).trans G16
      have G27 : τ_29.2.1 27 = σ.2.1 27 := (g27_τ_29).trans G27
      have G28 : τ_29.2.1 28 = σ.2.1 28 := (g28_τ_29).trans G28
      have G29 : τ_29.2.1 29 = σ.2.1 29 := (g29_τ_29).trans G29
      have G30 : τ_29.2.1 30 = σ.2.1 30 := (g30_τ_29).trans G30
      have G31 : τ_29.2.1 31 = σ.2.1 31 := (g31_τ_29).trans G31
      have G32 : τ_29.2.1 32 = σ.2.1 32 := (g32_τ_29).trans G32
      have SP : J_sp (τ_29.1 24) (τ_29.1 21) (τ_29.1 23) (τ_29.1 22) (τ_29.2.1 49) (τ_29.2.1 51) := by rw [show (J_sp (τ_29.1 24) (τ_29.1 21) (τ_29.1 23) (τ_29.1 22) (τ_29.2.1 49) (τ_29.2.1 51)) = (J_sp (σ.1 24) (σ.1 21) (σ.1 23) (σ.1 22) (σ.2.1 49) (σ.2.1 51)) from by rw [w21_τ_29, w22_τ_29, w23_τ_29, w24_τ_29, g49_τ_29, g51_τ_29]]; exact SP
      have FRT : J_f (τ_29.1 24) (τ_29.1 13) (τ_29.1 14) (τ_29.2.1 13) (τ_29.2.1 14) (τ_29.2.1 15) (τ_29.2.1 16) (τ_29.2.1 27) (τ_29.2.1 28) (τ_29.2.1 29) (τ_29.2.1 30) (τ_29.2.1 31) (τ_29.2.1 32) := by rw [show (J_f (τ_29.1 24) (τ_29.1 13) (τ_29.1 14) (τ_29.2.1 13) (τ_29.2.1 14) (τ_29.2.1 15) (τ_29.2.1 16) (τ_29.2.1 27) (τ_29.2.1 28) (τ_29.2.1 29) (τ_29.2.1 30) (τ_29.2.1 31) (τ_29.2.1 32)) = (J_f (σ.1 24) (σ.1 13) (σ.1 14) (σ.2.1 13) (σ.2.1 14) (σ.2.1 15) (σ.2.1 16) (σ.2.1 27) (σ.2.1 28) (σ.2.1 29) (σ.2.1 30) (σ.2.1 31) (σ.2.1 32)) from by rw [w13_τ_29, w14_τ_29, w24_τ_29, g13_τ_29, g14_τ_29, g15_τ_29, g16_τ_29, g27_τ_29, g28_τ_29, g29_τ_29, g30_τ_29, g31_τ_29, g32_τ_29]]; exact FRT
      have A0 : ∀ j, 0 ≤ τ_29.2.1 0 j ∧ τ_29.2.1 0 j ≤ 255 := fun j => hT.2 0 j
      have A13 : ∀ j, 0 ≤ τ_29.2.1 13 j ∧ τ_29.2.1 13 j ≤ 4 := fun j => hT.2 13 j
      have A14 : ∀ j, 0 ≤ τ_29.2.1 14 j ∧ τ_29.2.1 14 j ≤ 30000 := fun j => hT.2 14 j
      have A15 : ∀ j, 0 ≤ τ_29.2.1 15 j ∧ τ_29.2.1 15 j ≤ 999 := fun j => hT.2 15 j
      have A16 : ∀ j, (-1) ≤ τ_29.2.1 16 j ∧ τ_29.2.1 16 j ≤ 1499 := fun j => hT.2 16 j
      have A27 : ∀ j, 0 ≤ τ_29.2.1 27 j ∧ τ_29.2.1 27 j ≤ 90000 := fun j => hT.2 27 j
      have A28 : ∀ j, 0 ≤ τ_29.2.1 28 j ∧ τ_29.2.1 28 j ≤ 60 := fun j => hT.2 28 j
      have A29 : ∀ j, 0 ≤ τ_29.2.1 29 j ∧ τ_29.2.1 29 j ≤ 1499 := fun j => hT.2 29 j
      have A30 : ∀ j, 0 ≤ τ_29.2.1 30 j ∧ τ_29.2.1 30 j ≤ 20000 := fun j => hT.2 30 j
      have A31 : ∀ j, 0 ≤ τ_29.2.1 31 j ∧ τ_29.2.1 31 j ≤ 20000 := fun j => hT.2 31 j
      have A32 : ∀ j, 0 ≤ τ_29.2.1 32 j ∧ τ_29.2.1 32 j ≤ 999999 := fun j => hT.2 32 j
      have A49 : ∀ j, (-300) ≤ τ_29.2.1 49 j ∧ τ_29.2.1 49 j ≤ 67035 := fun j => hT.2 49 j
      have A51 : ∀ j, 0 ≤ τ_29.2.1 51 j ∧ τ_29.2.1 51 j ≤ 1499 := fun j => hT.2 51 j
      have v13 : 0 ≤ τ_29.1 13 ∧ τ_29.1 13 ≤ 90000 := hT.1 13
      have v14 : 0 ≤ τ_29.1 14 ∧ τ_29.1 14 ≤ 20000 := hT.1 14
      have v16 : 0 ≤ τ_29.1 16 ∧ τ_29.1 16 ≤ 20000 := hT.1 16
      have v21 : 0 ≤ τ_29.1 21 ∧ τ_29.1 21 ≤ 20000 := hT.1 21
      have v22 : 0 ≤ τ_29.1 22 ∧ τ_29.1 22 ≤ 300 := hT.1 22
      have v23 : 0 ≤ τ_29.1 23 ∧ τ_29.1 23 ≤ 300 := hT.1 23
      have v24 : 0 ≤ τ_29.1 24 ∧ τ_29.1 24 ≤ 1499 := hT.1 24
      have v25 : 0 ≤ τ_29.1 25 ∧ τ_29.1 25 ≤ 3 := hT.1 25
      have v26 : 0 ≤ τ_29.1 26 ∧ τ_29.1 26 ≤ 5000010 := hT.1 26
      have v27 : 0 ≤ τ_29.1 27 ∧ τ_29.1 27 ≤ 1 := hT.1 27
      refine h29 _ _ _ _ _ ?_
      replace hT := cT_v (i := 25) hT (show (0 : Int) ≤ 2 ∧ 2 ≤ 3 from by (first | omega | (simp only [st_s] <;> omega) | assumption | omega | fail))
      refine ⟨fun c17 => ?_, fun c17 => ?_⟩
      ·
        exact l_42 _ hT (show τ_29.1 13 = σ.1 13 from by first | exact W13 | omega) (show τ_29.1 14 = σ.1 14 from by first | exact W14 | omega) (show τ_29.1 16 = σ.1 16 from by first | exact W16 | omega) (show τ_29.1 24 = σ.1 24 from by first | exact W24 | omega) G0 G13 G14 G15 G16 G27 G28 G29 G30 G31 G32 (show J_sp (τ_29.1 24) (τ_29.1 21) (τ_29.1 23) (τ_29.1 22) (τ_29.2.1 49) (τ_29.2.1 51) from SP) (show (τ_29.1 16) + (τ_29.1 21) ≤ 20000 from by (first | omega | (simp only [st_s] <;> omega) | assumption | omega | fail)) (show ¬ (τ_29.1 27) = 0 → 1 ≤ (τ_29.1 21) ∧ 0 ≤ τ_29.2.1 49 ((τ_29.1 21) - 1) ∧ τ_29.2.1 49 ((τ_29.1 21) - 1) < 65536 from by (first | omega | (simp only [st_s] <;> omega) | assumption | omega | fail)) (show (τ_29.1 26) ≤ 1000000 from by (first | omega | (simp only [st_s] <;> omega) | assumption | omega | fail)) (show (2) ≤ 2 → (τ_29.1 27) = 0 from by (first | omega | (simp only [st_s] <;> omega) | assumption | omega | fail)) (show ¬ (2) = 0 from by (first | omega | (simp only [st_s] <;> omega) | assumption | omega | fail))
      ·
        exact ⟨hT, (show 0 ≤ 0 ∧ 0 ≤ 19 from by (first | omega | (simp only [st_s] <;> omega) | assumption | omega | fail)), (show 0 = 0 → J_sp (τ_29.1 24) (τ_29.1 21) (τ_29.1 23) (τ_29.1 22) (τ_29.2.1 49) (τ_29.2.1 51) from by (intro z; first | (exfalso; omega) | exact SP | exact q8_2 z | exact q11_2 z | exact q14_2 z | omega)), (show 0 = 0 → (τ_29.1 16) + (τ_29.1 21) ≤ 20000 from by (intro z; first | (exfalso; omega) | exact q8_3 z | exact q14_3 z | omega)), (show 0 = 0 → ¬ (τ_29.1 27) = 0 → 1 ≤ (τ_29.1 21) ∧ 0 ≤ τ_29.2.1 49 ((τ_29.1 21) - 1) ∧ τ_29.2.1 49 ((τ_29.1 21) - 1) < 65536 from by (intro z; first | (exfalso; omega) | exact q8_4 z | omega)), (show 0 = 0 → (τ_29.1 26) ≤ 1000000 from by (intro z; first | (exfalso; omega) | exact q8_5 z | omega)), (show 0 = 0 → (2) ≤ 2 → (τ_29.1 27) = 0 from by (intro z; first | (exfalso; omega) | omega))⟩
set_option maxHeartbeats 1000000 in
theorem K2_X10_begin {n1 : Int} {σ : S0} (hT : c_T σ) (p1 : 0 ≤ n1) (p2 : n1 < 1500) : W_X10_begin n1 σ (fun (τ : S0) => (c_T τ) ∧ ((τ.1 21) = 0) ∧ ((τ.1 24) = n1) ∧ ((τ.1 25) = 0) ∧ ((τ.1 22) = 0) ∧ ((τ.1 23) = 0) ∧ ((τ.1 26) = 0) ∧ ((τ.1 27) = 0)) := by
  have v21 : 0 ≤ σ.1 21 ∧ σ.1 21 ≤ 20000 := hT.1 21
  have v22 : 0 ≤ σ.1 22 ∧ σ.1 22 ≤ 300 := hT.1 22
  have v23 : 0 ≤ σ.1 23 ∧ σ.1 23 ≤ 300 := hT.1 23
  have v24 : 0 ≤ σ.1 24 ∧ σ.1 24 ≤ 1499 := hT.1 24
  have v25 : 0 ≤ σ.1 25 ∧ σ.1 25 ≤ 3 := hT.1 25
  have v26 : 0 ≤ σ.1 26 ∧ σ.1 26 ≤ 5000010 := hT.1 26
  have v27 : 0 ≤ σ.1 27 ∧ σ.1 27 ≤ 1 := hT.1 27
  unfold W_X10_begin
  replace hT := cT_v (i := 24) hT (show 0 ≤ n1 ∧ n1 ≤ 1499 from by (first | omega | (simp only [st_s] <;> omega) | assumption | omega | fail))
  replace hT := cT_v (i := 25) hT (show (0 : Int) ≤ 0 ∧ 0 ≤ 3 from by (first | omega | (simp only [st_s] <;> omega) | assumption | omega | fail))
  replace hT := cT_v (i := 21) hT (show (0 : Int) ≤ 0 ∧ 0 ≤ 20000 from by (first | omega | (simp only [st_s] <;> omega) | assumption | omega | fail))
  replace hT := cT_v (i := 22) hT (show (0 : Int) ≤ 0 ∧ 0 ≤ 300 from by (first | omega | (simp only [st_s] <;> omega) | assumption | omega | fail))
  replace hT := cT_v (i := 23) hT (show (0 : Int) ≤ 0 ∧ 0 ≤ 300 from by (first | omega | (simp only [st_s] <;> omega) | assumption | omega | fail))
  replace hT := cT_v (i := 26) hT (show (0 : Int) ≤ 0 ∧ 0 ≤ 5000010 from by (first | omega | (simp only [st_s] <;> omega) | assumption | omega | fail))
  replace hT := cT_v (i := 27) hT (show (0 : Int) ≤ 0 ∧ 0 ≤ 1 from by (first | omega | (simp only [st_s] <;> omega) | assumption | omega | fail))
  replace hT := cT_v (i := 28) hT (show (0 : Int) ≤ 0 ∧ 0 ≤ 1 from by (first | omega | (simp only [st_s] <;> omega) | assumption | omega | fail))
  exact ⟨hT, (show ((0 : Int)) = 0 from by (first | omega | (simp only [st_s] <;> omega) | assumption | omega | fail)), (show (n1) = n1 from by (first | omega | (simp only [st_s] <;> omega) | assumption | omega | fail)), (show ((0 : Int)) = 0 from by (first | omega | (simp only [st_s] <;> omega) | assumption | omega | fail)), (show ((0 : Int)) = 0 from by (first | omega | (simp only [st_s] <;> omega) | assumption | omega | fail)), (show ((0 : Int)) = 0 from by (first | omega | (simp only [st_s] <;> omega) | assumption | omega | fail)), (show ((0 : Int)) = 0 from by (first | omega | (simp only [st_s] <;> omega) | assumption | omega | fail)), (show ((0 : Int)) = 0 from by (first | omega | (simp only [st_s] <;> omega) | assumption | omega | fail))⟩
set_option maxHeartbeats 1000000 in
theorem K2_X10_putAgain {n1 : Int} {σ : S0} (hT : c_T σ) (p1 : 0 ≤ n1) (p2 : n1 < 20000) (p3 : 0 ≤ (σ.1 31) ∧ (σ.1 31) ≤ 40000) (p4 : 0 ≤ σ.2.1 41 n1) : W_X10_putAgain n1 σ (fun (x : Int) (τ : S0) => (c_T τ) ∧ (0 ≤ x ∧ x ≤ 19) ∧ (x = 0 → (τ.1 31) = (σ.1 31) + σ.2.1 41 n1 ∧ (τ.1 31) ≤ 40000 ∧ (τ.1 30) = (σ.1 30) + 1 ∧ τ.2.1 52 = st (σ.2.1 52) (σ.1 30) n1)) := by
  have A41 : ∀ j, (-2) ≤ σ.2.1 41 j ∧ σ.2.1 41 j ≤ 1000 := fun j => hT.2 41 j
  have A52 : ∀ j, 0 ≤ σ.2.1 52 j ∧ σ.2.1 52 j ≤ 19999 := fun j => hT.2 52 j
  have v30 : 0 ≤ σ.1 30 ∧ σ.1 30 ≤ 200 := hT.1 30
  have v31 : (-2147483648) ≤ σ.1 31 ∧ σ.1 31 ≤ 2147483647 := hT.1 31
  have G41 : σ.2.1 41 = σ.2.1 41 := rfl
  have s41 := A41 n1
  unfold W_X10_putAgain
  refine ⟨(show 0 ≤ n1 ∧ n1 < 20000 from by (first | omega | (simp only [st_s] <;> omega) | assumption | omega | fail)), ?_⟩
  intro x2 r_x2 e_x2
  have b_x2 : (-2) ≤ x2 ∧ x2 ≤ 1000 := by rw [e_x2]; exact hT.2 41 _
  refine ⟨(⟨by (first | omega | (simp only [st_s] <;> omega) | assumption | omega | fail), by (first | omega | (simp only [st_s] <;> omega) | assumption | omega | fail)⟩ : rg (σ.1 31 + x2)), ?_⟩
  replace hT := cT_v (i := 31) hT (show (-2147483648) ≤ (σ.1 31 + x2) ∧ (σ.1 31 + x2) ≤ 2147483647 from by (first | omega | (simp only [st_s] <;> omega) | assumption | omega | fail))
  refine ⟨fun c4 => ?_, fun c4 => ?_⟩
  ·
    exact ⟨hT, (show 0 ≤ 5 ∧ 5 ≤ 19 from by (first | omega | (simp only [st_s] <;> omega) | assumption | omega | fail)), (show 5 = 0 → ((σ.1 31 + x2)) = (σ.1 31) + σ.2.1 41 n1 ∧ ((σ.1 31 + x2)) ≤ 40000 ∧ (σ.1 30) = (σ.1 30) + 1 ∧ σ.2.1 52 = st (σ.2.1 52) (σ.1 30) n1 from by (first | (intro z; exfalso; omega) | exact fun _ => ⟨by omega, by omega, rfl, rfl⟩ | fail))⟩
  ·
    refine ⟨fun c5 => ?_, fun c5 => ?_⟩
    ·
      refine ⟨(show 0 ≤ σ.1 30 ∧ σ.1 30 < 200 from by (first | omega | (simp only [st_s] <;> omega) | assumption | omega | fail)), ?_⟩
      replace hT := cT_a (k := 52) (j := (σ.1 30)) hT (show (0 : Int) ≤ n1 ∧ n1 ≤ 19999 from by (first | omega | (simp only [st_s] <;> omega) | assumption | omega | fail))
      refine ⟨(⟨by (first | omega | (simp only [st_s] <;> omega) | assumption | omega | fail), by (first | omega | (simp only [st_s] <;> omega) | assumption | omega | fail)⟩ : rg (σ.1 30 + 1)), ?_⟩
      replace hT := cT_v (i := 30) hT (show 0 ≤ (σ.1 30 + 1) ∧ (σ.1 30 + 1) ≤ 200 from by (first | omega | (simp only [st_s] <;> omega) | assumption | omega | fail))
      exact ⟨hT, (show 0 ≤ 0 ∧ 0 ≤ 19 from by (first | omega | (simp only [st_s] <;> omega) | assumption | omega | fail)), (show 0 = 0 → ((σ.1 31 + x2)) = (σ.1 31) + σ.2.1 41 n1 ∧ ((σ.1 31 + x2)) ≤ 40000 ∧ ((σ.1 30 + 1)) = (σ.1 30) + 1 ∧ (st (σ.2.1 52) (σ.1 30) n1) = st (σ.2.1 52) (σ.1 30) n1 from by (first | (intro z; exfalso; omega) | exact fun _ => ⟨by omega, by omega, rfl, rfl⟩ | fail))⟩
    ·
      exact ⟨hT, (show 0 ≤ 5 ∧ 5 ≤ 19 from by (first | omega | (simp only [st_s] <;> omega) | assumption | omega | fail)), (show 5 = 0 → ((σ.1 31 + x2)) = (σ.1 31) + σ.2.1 41 n1 ∧ ((σ.1 31 + x2)) ≤ 40000 ∧ (σ.1 30) = (σ.1 30) + 1 ∧ σ.2.1 52 = st (σ.2.1 52) (σ.1 30) n1 from by (first | (intro z; exfalso; omega) | exact fun _ => ⟨by omega, by omega, rfl, rfl⟩ | fail))⟩
set_option maxHeartbeats 1000000 in
theorem K_X10_putNew {n1 : Int} {σ : S0} (hT : c_T σ) (p1 : 0 ≤ n1 ∧ n1 ≤ 1) (p2 : (σ.1 32) < 20000) (p3 : ¬ n1 = 0 → (σ.1 23) < 300) (p4 : 0 ≤ (σ.1 31) ∧ (σ.1 31) ≤ 40000) (p5 : J_bt (σ.1 19) (σ.2.1 43)) (p6 : J_dt (σ.1 17) (σ.1 18) (σ.1 32) (σ.2.1 39) (σ.2.1 40) (σ.2.1 41)) (p7 : J_pl (σ.1 17) (σ.1 31) (σ.1 32) (σ.1 30) (σ.2.1 42) (σ.2.1 41) (σ.2.1 52)) (p8 : J_sv (σ.1 32) (σ.1 23) (σ.2.1 42) (σ.2.1 53)) : W_X10_putNew n1 σ (fun (x : Int) (τ : S0) => (c_T τ) ∧ (0 ≤ x ∧ x ≤ 19) ∧ (x = 0 → 0 ≤ (τ.1 31) ∧ (τ.1 31) ≤ 40000) ∧ (x = 0 → J_dt (τ.1 17) (τ.1 18) (τ.1 32) (τ.2.1 39) (τ.2.1 40) (τ.2.1 41)) ∧ (x = 0 → J_pl (τ.1 17) (τ.1 31) (τ.1 32) (τ.1 30) (τ.2.1 42) (τ.2.1 41) (τ.2.1 52)) ∧ (x = 0 → J_sv (τ.1 32) (τ.1 23) (τ.2.1 42) (τ.2.1 53)) ∧ (x = 0 → (τ.1 32) = (σ.1 32) + 1 ∧ (τ.1 30) = (σ.1 30) + 1 ∧ (τ.1 23) = (σ.1 23) + n1)) := by
  have A39 : ∀ j, 0 ≤ σ.2.1 39 j ∧ σ.2.1 39 j ≤ 1060 := fun j => hT.2 39 j
  have A40 : ∀ j, 0 ≤ σ.2.1 40 j ∧ σ.2.1 40 j ≤ 42000 := fun j => hT.2 40 j
  have A41 : ∀ j, (-2) ≤ σ.2.1 41 j ∧ σ.2.1 41 j ≤ 1000 := fun j => hT.2 41 j
  have A42 : ∀ j, (-2147483648) ≤ σ.2.1 42 j ∧ σ.2.1 42 j ≤ 2147483647 := fun j => hT.2 42 j
  have A43 : ∀ j, 0 ≤ σ.2.1 43 j ∧ σ.2.1 43 j ≤ 1060 := fun j => hT.2 43 j
  have A52 : ∀ j, 0 ≤ σ.2.1 52 j ∧ σ.2.1 52 j ≤ 19999 := fun j => hT.2 52 j
  have A53 : ∀ j, 0 ≤ σ.2.1 53 j ∧ σ.2.1 53 j ≤ 19999 := fun j => hT.2 53 j
  have v17 : 0 ≤ σ.1 17 ∧ σ.1 17 ≤ 42000 := hT.1 17
  have v18 : 0 ≤ σ.1 18 ∧ σ.1 18 ≤ 42000 := hT.1 18
  have v19 : 0 ≤ σ.1 19 ∧ σ.1 19 ≤ 1000 := hT.1 19
  have v23 : 0 ≤ σ.1 23 ∧ σ.1 23 ≤ 300 := hT.1 23
  have v30 : 0 ≤ σ.1 30 ∧ σ.1 30 ≤ 200 := hT.1 30
  have v31 : (-2147483648) ≤ σ.1 31 ∧ σ.1 31 ≤ 2147483647 := hT.1 31
  have v32 : 0 ≤ σ.1 32 ∧ σ.1 32 ≤ 20000 := hT.1 32
  have a41_32 : (-2) ≤ σ.2.1 41 (σ.1 32) ∧ σ.2.1 41 (σ.1 32) ≤ 1000 := hT.2 41 _
  have a42_32 : (-2147483648) ≤ σ.2.1 42 (σ.1 32) ∧ σ.2.1 42 (σ.1 32) ≤ 2147483647 := hT.2 42 _
  have W19 : σ.1 19 = σ.1 19 := rfl
  have G43 : σ.2.1 43 = σ.2.1 43 := rfl
  have bs := hT.1 19
  have DT : J_dt (σ.1 17) (σ.1 18) (σ.1 32) (σ.2.1 39) (σ.2.1 40) (σ.2.1 41) := p6
  have PL : J_pl (σ.1 17) (σ.1 31) (σ.1 32) (σ.1 30) (σ.2.1 42) (σ.2.1 41) (σ.2.1 52) := p7
  have SV : J_sv (σ.1 32) (σ.1 23) (σ.2.1 42) (σ.2.1 53) := p8
  have DT_0 := DT
  have PL_0 := PL
  have SV_0 := SV
  unfold W_X10_putNew
  refine ⟨_, K_X6_put hT (show 0 ≤ (σ.1 32) from by (first | omega | (simp only [st_s] <;> omega) | assumption | omega | fail)) (show (σ.1 32) < 20000 from by (first | omega | (simp only [st_s] <;> omega) | assumption | omega | fail)) (show 0 ≤ n1 ∧ n1 ≤ 1 from by (first | omega | (simp only [st_s] <;> omega) | assumption | omega | fail)), ?_⟩
  intro x2 τ3 r_x2 hn_τ3 hf_τ3 hq
  obtain ⟨hT, q1_1, q1_2, q1_3, q1_4, q1_5, q1_6⟩ := hq
  replace q1_1 : 0 ≤ x2 ∧ x2 ≤ 1 := q1_1
  replace q1_2 : x2 = 0 → (τ3.1 17) = (σ.1 17) ∧ (τ3.1 18) = (σ.1 18) := q1_2
  replace q1_3 : ¬ x2 = 0 → (σ.1 17) + (σ.1 19) ≤ (σ.1 18) := q1_3
  replace q1_4 : ¬ x2 = 0 → n1 = 0 → (τ3.1 17) = (σ.1 17) + (σ.1 19) ∧ (τ3.1 18) = (σ.1 18) ∧ τ3.2.1 40 = st (σ.2.1 40) (σ.1 32) (σ.1 17) ∧ τ3.2.1 39 = c_py (σ.2.1 43) (σ.2.1 39) 0 (σ.1 17) (σ.1 19) := q1_4
  replace q1_5 : ¬ x2 = 0 → ¬ n1 = 0 → (τ3.1 17) = (σ.1 17) ∧ (τ3.1 18) = (σ.1 18) - (σ.1 19) ∧ τ3.2.1 40 = st (st (σ.2.1 40) (σ.1 32) (σ.1 17)) (σ.1 32) ((σ.1 18) - (σ.1 19)) ∧ τ3.2.1 39 = c_py (σ.2.1 43) (σ.2.1 39) 0 ((σ.1 18) - (σ.1 19)) (σ.1 19) := q1_5
  replace q1_6 : ¬ x2 = 0 → τ3.2.1 41 = st (σ.2.1 41) (σ.1 32) (σ.1 19) ∧ τ3.2.1 42 = st (σ.2.1 42) (σ.1 32) (1 + n1) := q1_6
  have w19_τ3 : τ3.1 19 = σ.1 19 := hf_τ3.1 19 (by decide)
  have w23_τ3 : τ3.1 23 = σ.1 23 := hf_τ3.1 23 (by decide)
  have w30_τ3 : τ3.1 30 = σ.1 30 := hf_τ3.1 30 (by decide)
  have w31_τ3 : τ3.1 31 = σ.1 31 := hf_τ3.1 31 (by decide)
  have w32_τ3 : τ3.1 32 = σ.1 32 := hf_τ3.1 32 (by decide)
  have g43_τ3 : τ3.2.1 43 = σ.2.1 43 := hf_τ3.2.1 43 (by decide)
  have g52_τ3 : τ3.2.1 52 = σ.2.1 52 := hf_τ3.2.1 52 (by decide)
  have g53_τ3 : τ3.2.1 53 = σ.2.1 53 := hf_τ3.2.1 53 (by decide)
  have W19 : τ3.1 19 = σ.1 19 := by first | exact w19_τ3.trans W19 | omega
  have G43 : τ3.2.1 43 = σ.2.1 43 := (g43_τ3).trans G43
  have A39 : ∀ j, 0 ≤ τ3.2.1 39 j ∧ τ3.2.1 39 j ≤ 1060 := fun j => hT.2 39 j
  have A40 : ∀ j, 0 ≤ τ3.2.1 40 j ∧ τ3.2.1 40 j ≤ 42000 := fun j => hT.2 40 j
  have A41 : ∀ j, (-2) ≤ τ3.2.1 41 j ∧ τ3.2.1 41 j ≤ 1000 := fun j => hT.2 41 j
  have A42 : ∀ j, (-2147483648) ≤ τ3.2.1 42 j ∧ τ3.2.1 42 j ≤ 2147483647 := fun j => hT.2 42 j
  have A43 : ∀ j, 0 ≤ τ3.2.1 43 j ∧ τ3.2.1 43 j ≤ 1060 := fun j => hT.2 43 j
  have A52 : ∀ j, 0 ≤ τ3.2.1 52 j ∧ τ3.2.1 52 j ≤ 19999 := fun j => hT.2 52 j
  have A53 : ∀ j, 0 ≤ τ3.2.1 53 j ∧ τ3.2.1 53 j ≤ 19999 := fun j => hT.2 53 j
  have v17 : 0 ≤ τ3.1 17 ∧ τ3.1 17 ≤ 42000 := hT.1 17
  have v18 : 0 ≤ τ3.1 18 ∧ τ3.1 18 ≤ 42000 := hT.1 18
  have v19 : 0 ≤ τ3.1 19 ∧ τ3.1 19 ≤ 1000 := hT.1 19
  have v23 : 0 ≤ τ3.1 23 ∧ τ3.1 23 ≤ 300 := hT.1 23
  have v30 : 0 ≤ τ3.1 30 ∧ τ3.1 30 ≤ 200 := hT.1 30
  have v31 : (-2147483648) ≤ τ3.1 31 ∧ τ3.1 31 ≤ 2147483647 := hT.1 31
  have v32 : 0 ≤ τ3.1 32 ∧ τ3.1 32 ≤ 20000 := hT.1 32
  have a41_32 : (-2) ≤ τ3.2.1 41 (τ3.1 32) ∧ τ3.2.1 41 (τ3.1 32) ≤ 1000 := hT.2 41 _
  have a42_32 : (-2147483648) ≤ τ3.2.1 42 (τ3.1 32) ∧ τ3.2.1 42 (τ3.1 32) ≤ 2147483647 := hT.2 42 _
  refine ⟨fun c4 => ?_, fun c4 => ?_⟩
  ·
    refine ⟨(⟨by (first | omega | (simp only [st_s] <;> omega) | assumption | omega | fail), by (first | omega | (simp only [st_s] <;> omega) | assumption | omega | fail)⟩ : rg (τ3.1 32 + 1)), ?_⟩
    replace hT := cT_v (i := 32) hT (show 0 ≤ (τ3.1 32 + 1) ∧ (τ3.1 32 + 1) ≤ 20000 from by (first | omega | (simp only [st_s] <;> omega) | assumption | omega | fail))
    refine ⟨(⟨by (first | omega | (simp only [st_s] <;> omega) | assumption | omega | fail), by (first | omega | (simp only [st_s] <;> omega) | assumption | omega | fail)⟩ : rg (σ.1 32)), ?_⟩
    obtain ⟨es, eu⟩ := q1_6 c4
    have hl := q1_3 c4
    have szn : τ3.2.1 41 (σ.1 32) = σ.1 19 := by rw [es, st_s]
    have usn : τ3.2.1 42 (σ.1 32) = 1 + n1 := by rw [eu, st_s]
    have DTn : J_dt (τ3.1 17) (τ3.1 18) (σ.1 32 + 1) (τ3.2.1 39) (τ3.2.1 40) (τ3.2.1 41) := by by_cases z : n1 = 0; (obtain ⟨a1, a2, a3, a4⟩ := q1_4 c4 z; rw [a1, a2, a3, a4, es]; exact J_dt_l DT_0 (by omega) (by omega) hl (by omega) p5); (obtain ⟨a1, a2, a3, a4⟩ := q1_5 c4 z; rw [a1, a2, a3, a4, es]; exact J_dt_h DT_0 (by omega) (by omega) hl (by omega) p5)
    have PLm := J_pl_n (x := 1 + n1) (y := σ.1 19) PL_0
    rw [← es, ← eu] at PLm
    have SVm := J_sv_n (x := 1 + n1) SV_0
    rw [← eu] at SVm
    have jw := j_w_u (τ3.2.1 42) (τ3.2.1 41) (σ.1 32)
    have lo : τ3.1 17 = σ.1 17 + j_w (τ3.2.1 42) (τ3.2.1 41) (σ.1 32) := by by_cases z : n1 = 0; (have := (q1_4 c4 z).1; omega); (have := (q1_5 c4 z).1; omega)
    refine ⟨_, K2_X10_putAgain hT (show 0 ≤ (σ.1 32) from by (first | omega | (simp only [st_s] <;> omega) | assumption | omega | fail)) (show (σ.1 32) < 20000 from by (first | omega | (simp only [st_s] <;> omega) | assumption | omega | fail)) (show 0 ≤ (τ3.1 31) ∧ (τ3.1 31) ≤ 40000 from by (first | omega | (simp only [st_s] <;> omega) | assumption | omega | fail)) (show 0 ≤ τ3.2.1 41 (σ.1 32) from by (rw [szn]; omega)), ?_⟩
    intro x8 τ9 r_x8 hn_τ9 hf_τ9 hq
    obtain ⟨hT, q7_1, q7_2⟩ := hq
    replace q7_1 : 0 ≤ x8 ∧ x8 ≤ 19 := q7_1
    replace q7_2 : x8 = 0 → (τ9.1 31) = (τ3.1 31) + τ3.2.1 41 (σ.1 32) ∧ (τ9.1 31) ≤ 40000 ∧ (τ9.1 30) = (τ3.1 30) + 1 ∧ τ9.2.1 52 = st (τ3.2.1 52) (τ3.1 30) (σ.1 32) := q7_2
    have w17_τ9 : τ9.1 17 = τ3.1 17 := hf_τ9.1 17 (by decide)
    have w18_τ9 : τ9.1 18 = τ3.1 18 := hf_τ9.1 18 (by decide)
    have w19_τ9 : τ9.1 19 = τ3.1 19 := hf_τ9.1 19 (by decide)
    have w23_τ9 : τ9.1 23 = τ3.1 23 := hf_τ9.1 23 (by decide)
    have w32_τ9 : τ9.1 32 = (τ3.1 32 + 1) := hf_τ9.1 32 (by decide)
    have g39_τ9 : τ9.2.1 39 = τ3.2.1 39 := hf_τ9.2.1 39 (by decide)
    have g40_τ9 : τ9.2.1 40 = τ3.2.1 40 := hf_τ9.2.1 40 (by decide)
    have g41_τ9 : τ9.2.1 41 = τ3.2.1 41 := hf_τ9.2.1 41 (by decide)
    have g42_τ9 : τ9.2.1 42 = τ3.2.1 42 := hf_τ9.2.1 42 (by decide)
    have g43_τ9 : τ9.2.1 43 = τ3.2.1 43 := hf_τ9.2.1 43 (by decide)
    have g53_τ9 : τ9.2.1 53 = τ3.2.1 53 := hf_τ9.2.1 53 (by decide)
    have W19 : τ9.1 19 = σ.1 19 := by first | exact w19_τ9.trans W19 | omega
    have G43 : τ9.2.1 43 = σ.2.1 43 := (g43_τ9).trans G43
    have y41_32_τ9 : τ9.2.1 41 (τ9.1 32) = (τ3.2.1 41) (τ3.1 32 + 1) := by rw [g41_τ9, w32_τ9]
    have y42_32_τ9 : τ9.2.1 42 (τ9.1 32) = (τ3.2.1 42) (τ3.1 32 + 1) := by rw [g42_τ9, w32_τ9]
    have A39 : ∀ j, 0 ≤ τ9.2.1 39 j ∧ τ9.2.1 39 j ≤ 1060 := fun j => hT.2 39 j
    have A40 : ∀ j, 0 ≤ τ9.2.1 40 j ∧ τ9.2.1 40 j ≤ 42000 := fun j => hT.2 40 j
    have A41 : ∀ j, (-2) ≤ τ9.2.1 41 j ∧ τ9.2.1 41 j ≤ 1000 := fun j => hT.2 41 j
    have A42 : ∀ j, (-2147483648) ≤ τ9.2.1 42 j ∧ τ9.2.1 42 j ≤ 2147483647 := fun j => hT.2 42 j
    have A43 : ∀ j, 0 ≤ τ9.2.1 43 j ∧ τ9.2.1 43 j ≤ 1060 := fun j => hT.2 43 j
    have A52 : ∀ j, 0 ≤ τ9.2.1 52 j ∧ τ9.2.1 52 j ≤ 19999 := fun j => hT.2 52 j
    have A53 : ∀ j, 0 ≤ τ9.2.1 53 j ∧ τ9.2.1 53 j ≤ 19999 := fun j => hT.2 53 j
    have v17 : 0 ≤ τ9.1 17 ∧ τ9.1 17 ≤ 42000 := hT.1 17
    have v18 : 0 ≤ τ9.1 18 ∧ τ9.1 18 ≤ 42000 := hT.1 18
    have v19 : 0 ≤ τ9.1 19 ∧ τ9.1 19 ≤ 1000 := hT.1 19
    have v23 : 0 ≤ τ9.1 23 ∧ τ9.1 23 ≤ 300 := hT.1 23
    have v30 : 0 ≤ τ9.1 30 ∧ τ9.1 30 ≤ 200 := hT.1 30
    have v31 : (-2147483648) ≤ τ9.1 31 ∧ τ9.1 31 ≤ 2147483647 := hT.1 31
    have v32 : 0 ≤ τ9.1 32 ∧ τ9.1 32 ≤ 20000 := hT.1 32
    have a41_32 : (-2) ≤ τ9.2.1 41 (τ9.1 32) ∧ τ9.2.1 41 (τ9.1 32) ≤ 1000 := hT.2 41 _
    have a42_32 : (-2147483648) ≤ τ9.2.1 42 (τ9.1 32) ∧ τ9.2.1 42 (τ9.1 32) ≤ 2147483647 := hT.2 42 _
    have PLp := fun z : x8 = 0 => J_pl_p PLm (r := σ.1 32) (by omega) (by omega)
    have q7z := q7_2
    refine ⟨fun c10 => ?_, fun c10 => ?_⟩
    ·
      exact ⟨hT, (show 0 ≤ x8 ∧ x8 ≤ 19 from by (first | omega | (simp only [st_s] <;> omega) | assumption | omega | fail)), (show x8 = 0 → 0 ≤ (τ9.1 31) ∧ (τ9.1 31) ≤ 40000 from by (intro z; first | (exfalso; omega) | (have y := q7_2 (by omega); omega) | omega)), (show x8 = 0 → J_dt (τ9.1 17) (τ9.1 18) (τ9.1 32) (τ9.2.1 39) (τ9.2.1 40) (τ9.2.1 41) from by (first | (intro z; exfalso; omega) | (intro z; rw [w17_τ9, w18_τ9, show τ9.1 32 = σ.1 32 + 1 from by omega, g39_τ9, g40_τ9, g41_τ9]; exact DTn) | fail)), (show x8 = 0 → J_pl (τ9.1 17) (τ9.1 31) (τ9.1 32) (τ9.1 30) (τ9.2.1 42) (τ9.2.1 41) (τ9.2.1 52) from by (first | (intro z; exfalso; omega) | (intro z; have y := q7_2 (by omega); have pp := PLp (by omega); rw [w17_τ9, show τ9.1 32 = σ.1 32 + 1 from by omega, g41_τ9, g42_τ9, y.2.2.1, y.2.2.2, w30_τ3, g52_τ3, lo]; refine J_pl_y pp ?_; omega) | fail)), (show x8 = 0 → J_sv (τ9.1 32) (τ9.1 23) (τ9.2.1 42) (τ9.2.1 53) from by (first | (intro z; exfalso; omega) | (intro z; rw [show τ9.1 32 = σ.1 32 + 1 from by omega, w23_τ9, g42_τ9, g53_τ9, w23_τ3, g53_τ3]; first | exact SVm | exact J_sv_a SVm (by omega) (by rw [usn]; omega)) | fail)), (show x8 = 0 → (τ9.1 32) = (σ.1 32) + 1 ∧ (τ9.1 30) = (σ.1 30) + 1 ∧ (τ9.1 23) = (σ.1 23) + n1 from by (intro z; first | (exfalso; omega) | (have y := q7_2 (by omega); omega) | omega))⟩
    ·
      refine ⟨fun c11 => ?_, fun c11 => ?_⟩
      ·
        refine ⟨(show 0 ≤ τ9.1 23 ∧ τ9.1 23 < 300 from by (first | omega | (simp only [st_s] <;> omega) | assumption | omega | fail)), ?_⟩
        replace hT := cT_a (k := 53) (j := (τ9.1 23)) hT (show (0 : Int) ≤ (σ.1 32) ∧ (σ.1 32) ≤ 19999 from by (first | omega | (simp only [st_s] <;> omega) | assumption | omega | fail))
        refine ⟨(⟨by (first | omega | (simp only [st_s] <;> omega) | assumption | omega | fail), by (first | omega | (simp only [st_s] <;> omega) | assumption | omega | fail)⟩ : rg (τ9.1 23 + 1)), ?_⟩
        replace hT := cT_v (i := 23) hT (show 0 ≤ (τ9.1 23 + 1) ∧ (τ9.1 23 + 1) ≤ 300 from by (first | omega | (simp only [st_s] <;> omega) | assumption | omega | fail))
        refine ⟨(show 0 ≤ σ.1 32 ∧ σ.1 32 < 20000 from by (first | omega | (simp only [st_s] <;> omega) | assumption | omega | fail)), ?_⟩
        intro x15 r_x15 e_x15
        have b_x15 : (-2) ≤ x15 ∧ x15 ≤ 1000 := by rw [e_x15]; exact hT.2 41 _
        have x15e : x15 = σ.1 19 := by rw [e_x15, g41_τ9]; exact szn
        refine ⟨(⟨by (first | omega | (simp only [st_s] <;> omega) | assumption | omega | fail), by (first | omega | (simp only [st_s] <;> omega) | assumption | omega | fail)⟩ : rg (τ9.1 31 + x15)), ?_⟩
        replace hT := cT_v (i := 31) hT (show (-2147483648) ≤ (τ9.1 31 + x15) ∧ (τ9.1 31 + x15) ≤ 2147483647 from by (first | omega | (simp only [st_s] <;> omega) | assumption | omega | fail))
        refine ⟨fun c17 => ?_, fun c17 => ?_⟩
        ·
          exact ⟨hT, (show 0 ≤ 0 ∧ 0 ≤ 19 from by (first | omega | (simp only [st_s] <;> omega) | assumption | omega | fail)), (show 0 = 0 → 0 ≤ ((τ9.1 31 + x15)) ∧ ((τ9.1 31 + x15)) ≤ 40000 from by (intro z; first | (exfalso; omega) | (have y := q7_2 (by omega); omega) | omega)), (show 0 = 0 → J_dt (τ9.1 17) (τ9.1 18) (τ9.1 32) (τ9.2.1 39) (τ9.2.1 40) (τ9.2.1 41) from by (first | (intro z; exfalso; omega) | (intro z; rw [w17_τ9, w18_τ9, show τ9.1 32 = σ.1 32 + 1 from by omega, g39_τ9, g40_τ9, g41_τ9]; exact DTn) | fail)), (show 0 = 0 → J_pl (τ9.1 17) ((τ9.1 31 + x15)) (τ9.1 32) (τ9.1 30) (τ9.2.1 42) (τ9.2.1 41) (τ9.2.1 52) from by (first | (intro z; exfalso; omega) | (intro z; have y := q7_2 (by omega); have pp := PLp (by omega); rw [w17_τ9, show τ9.1 32 = σ.1 32 + 1 from by omega, g41_τ9, g42_τ9, y.2.2.1, y.2.2.2, w30_τ3, g52_τ3, lo]; refine J_pl_y pp ?_; omega) | fail)), (show 0 = 0 → J_sv (τ9.1 32) ((τ9.1 23 + 1)) (τ9.2.1 42) ((st (τ9.2.1 53) (τ9.1 23) (σ.1 32))) from by (first | (intro z; exfalso; omega) | (intro z; rw [show τ9.1 32 = σ.1 32 + 1 from by omega, w23_τ9, g42_τ9, g53_τ9, w23_τ3, g53_τ3]; first | exact SVm | exact J_sv_a SVm (by omega) (by rw [usn]; omega)) | fail)), (show 0 = 0 → (τ9.1 32) = (σ.1 32) + 1 ∧ (τ9.1 30) = (σ.1 30) + 1 ∧ ((τ9.1 23 + 1)) = (σ.1 23) + n1 from by (intro z; first | (exfalso; omega) | (have y := q7_2 (by omega); omega) | omega))⟩
        ·
          exact ⟨hT, (show 0 ≤ 5 ∧ 5 ≤ 19 from by (first | omega | (simp only [st_s] <;> omega) | assumption | omega | fail)), (show 5 = 0 → 0 ≤ ((τ9.1 31 + x15)) ∧ ((τ9.1 31 + x15)) ≤ 40000 from by (intro z; first | (exfalso; omega) | (have y := q7_2 (by omega); omega) | omega)), (show 5 = 0 → J_dt (τ9.1 17) (τ9.1 18) (τ9.1 32) (τ9.2.1 39) (τ9.2.1 40) (τ9.2.1 41) from by (first | (intro z; exfalso; omega) | (intro z; rw [w17_τ9, w18_τ9, show τ9.1 32 = σ.1 32 + 1 from by omega, g39_τ9, g40_τ9, g41_τ9]; exact DTn) | fail)), (show 5 = 0 → J_pl (τ9.1 17) ((τ9.1 31 + x15)) (τ9.1 32) (τ9.1 30) (τ9.2.1 42) (τ9.2.1 41) (τ9.2.1 52) from by (first | (intro z; exfalso; omega) | (intro z; have y := q7_2 (by omega); have pp := PLp (by omega); rw [w17_τ9, show τ9.1 32 = σ.1 32 + 1 from by omega, g41_τ9, g42_τ9, y.2.2.1, y.2.2.2, w30_τ3, g52_τ3, lo]; refine J_pl_y pp ?_; omega) | fail)), (show 5 = 0 → J_sv (τ9.1 32) ((τ9.1 23 + 1)) (τ9.2.1 42) ((st (τ9.2.1 53) (τ9.1 23) (σ.1 32))) from by (first | (intro z; exfalso; omega) | (intro z; rw [show τ9.1 32 = σ.1 32 + 1 from by omega, w23_τ9, g42_τ9, g53_τ9, w23_τ3, g53_τ3]; first | exact SVm | exact J_sv_a SVm (by omega) (by rw [usn]; omega)) | fail)), (show 5 = 0 → (τ9.1 32) = (σ.1 32) + 1 ∧ (τ9.1 30) = (σ.1 30) + 1 ∧ ((τ9.1 23 + 1)) = (σ.1 23) + n1 from by (intro z; first | (exfalso; omega) | (have y := q7_2 (by omega); omega) | omega))⟩
      ·
        exact ⟨hT, (show 0 ≤ x8 ∧ x8 ≤ 19 from by (first | omega | (simp only [st_s] <;> omega) | assumption | omega | fail)), (show x8 = 0 → 0 ≤ (τ9.1 31) ∧ (τ9.1 31) ≤ 40000 from by (intro z; first | (exfalso; omega) | (have y := q7_2 (by omega); omega) | omega)), (show x8 = 0 → J_dt (τ9.1 17) (τ9.1 18) (τ9.1 32) (τ9.2.1 39) (τ9.2.1 40) (τ9.2.1 41) from by (first | (intro z; exfalso; omega) | (intro z; rw [w17_τ9, w18_τ9, show τ9.1 32 = σ.1 32 + 1 from by omega, g39_τ9, g40_τ9, g41_τ9]; exact DTn) | fail)), (show x8 = 0 → J_pl (τ9.1 17) (τ9.1 31) (τ9.1 32) (τ9.1 30) (τ9.2.1 42) (τ9.2.1 41) (τ9.2.1 52) from by (first | (intro z; exfalso; omega) | (intro z; have y := q7_2 (by omega); have pp := PLp (by omega); rw [w17_τ9, show τ9.1 32 = σ.1 32 + 1 from by omega, g41_τ9, g42_τ9, y.2.2.1, y.2.2.2, w30_τ3, g52_τ3, lo]; refine J_pl_y pp ?_; omega) | fail)), (show x8 = 0 → J_sv (τ9.1 32) (τ9.1 23) (τ9.2.1 42) (τ9.2.1 53) from by (first | (intro z; exfalso; omega) | (intro z; rw [show τ9.1 32 = σ.1 32 + 1 from by omega, w23_τ9, g42_τ9, g53_τ9, w23_τ3, g53_τ3]; first | exact SVm | exact J_sv_a SVm (by omega) (by rw [usn]; omega)) | fail)), (show x8 = 0 → (τ9.1 32) = (σ.1 32) + 1 ∧ (τ9.1 30) = (σ.1 30) + 1 ∧ (τ9.1 23) = (σ.1 23) + n1 from by (intro z; first | (exfalso; omega) | (have y := q7_2 (by omega); omega) | omega))⟩
  ·
    exact ⟨hT, (show 0 ≤ 5 ∧ 5 ≤ 19 from by (first | omega | (simp only [st_s] <;> omega) | assumption | omega | fail)), (show 5 = 0 → 0 ≤ (τ3.1 31) ∧ (τ3.1 31) ≤ 40000 from by (intro z; first | (exfalso; omega) | (have y := q7_2 (by omega); omega) | omega)), (show 5 = 0 → J_dt (τ3.1 17) (τ3.1 18) (τ3.1 32) (τ3.2.1 39) (τ3.2.1 40) (τ3.2.1 41) from by (first | (intro z; exfalso; omega) | (intro z; rw [w17_τ9, w18_τ9, show τ9.1 32 = σ.1 32 + 1 from by omega, g39_τ9, g40_τ9, g41_τ9]; exact DTn) | fail)), (show 5 = 0 → J_pl (τ3.1 17) (τ3.1 31) (τ3.1 32) (τ3.1 30) (τ3.2.1 42) (τ3.2.1 41) (τ3.2.1 52) from by (first | (intro z; exfalso; omega) | (intro z; have y := q7_2 (by omega); have pp := PLp (by omega); rw [w17_τ9, show τ9.1 32 = σ.1 32 + 1 from by omega, g41_τ9, g42_τ9, y.2.2.1, y.2.2.2, w30_τ3, g52_τ3, lo]; refine J_pl_y pp ?_; omega) | fail)), (show 5 = 0 → J_sv (τ3.1 32) (τ3.1 23) (τ3.2.1 42) (τ3.2.1 53) from by (first | (intro z; exfalso; omega) | (intro z; rw [show τ9.1 32 = σ.1 32 + 1 from by omega, w23_τ9, g42_τ9, g53_τ9, w23_τ3, g53_τ3]; first | exact SVm | exact J_sv_a SVm (by omega) (by rw [usn]; omega)) | fail)), (show 5 = 0 → (τ3.1 32) = (σ.1 32) + 1 ∧ (τ3.1 30) = (σ.1 30) + 1 ∧ (τ3.1 23) = (σ.1 23) + n1 from by (intro z; first | (exfalso; omega) | (have y := q7_2 (by omega); omega) | omega))⟩
set_option maxHeartbeats 1000000 in
theorem K_X10_noteRests {σ : S0} (hT : c_T σ) (p1 : J_sp (σ.1 24) (σ.1 21) (σ.1 23) (σ.1 22) (σ.2.1 49) (σ.2.1 51)) (p2 : (σ.1 16) + (σ.1 21) ≤ 20000) : W_X10_noteRests σ (fun (τ : S0) => (c_T τ) ∧ ((τ.1 16) = (σ.1 16) + (σ.1 21))) := by
  have A49 : ∀ j, (-300) ≤ σ.2.1 49 j ∧ σ.2.1 49 j ≤ 67035 := fun j => hT.2 49 j
  have A51 : ∀ j, 0 ≤ σ.2.1 51 j ∧ σ.2.1 51 j ≤ 1499 := fun j => hT.2 51 j
  have v16 : 0 ≤ σ.1 16 ∧ σ.1 16 ≤ 20000 := hT.1 16
  have v21 : 0 ≤ σ.1 21 ∧ σ.1 21 ≤ 20000 := hT.1 21
  have v22 : 0 ≤ σ.1 22 ∧ σ.1 22 ≤ 300 := hT.1 22
  have v23 : 0 ≤ σ.1 23 ∧ σ.1 23 ≤ 300 := hT.1 23
  have v24 : 0 ≤ σ.1 24 ∧ σ.1 24 ≤ 1499 := hT.1 24
  have W21 : σ.1 21 = σ.1 21 := rfl
  have W22 : σ.1 22 = σ.1 22 := rfl
  have W23 : σ.1 23 = σ.1 23 := rfl
  have W24 : σ.1 24 = σ.1 24 := rfl
  have G49 : σ.2.1 49 = σ.2.1 49 := rfl
  have G51 : σ.2.1 51 = σ.2.1 51 := rfl
  intro P2 h2
  have SP : J_sp (σ.1 24) (σ.1 21) (σ.1 23) (σ.1 22) (σ.2.1 49) (σ.2.1 51) := p1
  have SP_0 := SP
  have l_2 : ∀ (m_2 : Nat) (u1_2 : Int) (τ_2 : S0), 20001 - u1_2 < (m_2 : Int) → (c_T τ_2) → (τ_2.1 21 = σ.1 21) → (τ_2.1 22 = σ.1 22) → (τ_2.1 23 = σ.1 23) → (τ_2.1 24 = σ.1 24) → (τ_2.2.1 49 = σ.2.1 49) → (τ_2.2.1 51 = σ.2.1 51) → (0 ≤ u1_2) → (u1_2 ≤ 20000) → ((τ_2.1 16) = (σ.1 16)) → P2 u1_2 τ_2 := by
    intro m_2
    induction m_2 with
    | zero =>
      intro u1_2 τ_2 hm hT W21 W22 W23 W24 G49 G51 i2_1 i2_2 i2_3
      have A49 : ∀ j, (-300) ≤ τ_2.2.1 49 j ∧ τ_2.2.1 49 j ≤ 67035 := fun j => hT.2 49 j
      have A51 : ∀ j, 0 ≤ τ_2.2.1 51 j ∧ τ_2.2.1 51 j ≤ 1499 := fun j => hT.2 51 j
      have v16 : 0 ≤ τ_2.1 16 ∧ τ_2.1 16 ≤ 20000 := hT.1 16
      have v21 : 0 ≤ τ_2.1 21 ∧ τ_2.1 21 ≤ 20000 := hT.1 21
      have v22 : 0 ≤ τ_2.1 22 ∧ τ_2.1 22 ≤ 300 := hT.1 22
      have v23 : 0 ≤ τ_2.1 23 ∧ τ_2.1 23 ≤ 300 := hT.1 23
      have v24 : 0 ≤ τ_2.1 24 ∧ τ_2.1 24 ≤ 1499 := hT.1 24
      exfalso; (first | omega | (simp only [st_s] <;> omega) | assumption | omega | fail)
    | succ m_2 ih_2 =>
      intro u1_2 τ_2 hm_2 hT W21 W22 W23 W24 G49 G51 i2_1 i2_2 i2_3
      have A49 : ∀ j, (-300) ≤ τ_2.2.1 49 j ∧ τ_2.2.1 49 j ≤ 67035 := fun j => hT.2 49 j
      have A51 : ∀ j, 0 ≤ τ_2.2.1 51 j ∧ τ_2.2.1 51 j ≤ 1499 := fun j => hT.2 51 j
      have v16 : 0 ≤ τ_2.1 16 ∧ τ_2.1 16 ≤ 20000 := hT.1 16
      have v21 : 0 ≤ τ_2.1 21 ∧ τ_2.1 21 ≤ 20000 := hT.1 21
      have v22 : 0 ≤ τ_2.1 22 ∧ τ_2.1 22 ≤ 300 := hT.1 22
      have v23 : 0 ≤ τ_2.1 23 ∧ τ_2.1 23 ≤ 300 := hT.1 23
      have v24 : 0 ≤ τ_2.1 24 ∧ τ_2.1 24 ≤ 1499 := hT.1 24
      have SP : J_sp (τ_2.1 24) (τ_2.1 21) (τ_2.1 23) (τ_2.1 22) (τ_2.2.1 49) (τ_2.2.1 51) := by rw [show (J_sp (τ_2.1 24) (τ_2.1 21) (τ_2.1 23) (τ_2.1 22) (τ_2.2.1 49) (τ_2.2.1 51)) = (J_sp (σ.1 24) (σ.1 21) (σ.1 23) (σ.1 22) (σ.2.1 49) (σ.2.1 51)) from by rw [W21, W22, W23, W24, G49, G51]]; exact SP_0
      refine h2 u1_2 τ_2 ?_
      refine ⟨fun c1 => ?_, fun c1 => ?_⟩
      ·
        refine ⟨(⟨by (first | omega | (simp only [st_s] <;> omega) | assumption | omega | fail), by (first | omega | (simp only [st_s] <;> omega) | assumption | omega | fail)⟩ : rg (τ_2.1 16 + τ_2.1 21)), ?_⟩
        replace hT := cT_v (i := 16) hT (show 0 ≤ (τ_2.1 16 + τ_2.1 21) ∧ (τ_2.1 16 + τ_2.1 21) ≤ 20000 from by (first | omega | (simp only [st_s] <;> omega) | assumption | omega | fail))
        exact ⟨hT, (show ((τ_2.1 16 + τ_2.1 21)) = (σ.1 16) + (σ.1 21) from by (first | omega | (simp only [st_s] <;> omega) | assumption | omega | fail))⟩
      ·
        refine ⟨(show 0 ≤ u1_2 ∧ u1_2 < 20000 from by (first | omega | (simp only [st_s] <;> omega) | assumption | omega | fail)), ?_⟩
        intro x4 r_x4 e_x4
        have b_x4 : (-300) ≤ x4 ∧ x4 ≤ 67035 := by rw [e_x4]; exact hT.2 49 _
        intro x5 r_x5 e_x5
        have b_x5 : (-300) ≤ x5 ∧ x5 ≤ 67035 := by rw [e_x5]; exact hT.2 49 _
        have sp := SP_0.1 u1_2 (by omega) (by omega)
        rw [← G49, ← e_x5] at sp
        refine ⟨fun c6 => ?_, fun c6 => ?_⟩
        ·
          refine ⟨(⟨by (first | omega | (simp only [st_s] <;> omega) | assumption | omega | fail), by (first | omega | (simp only [st_s] <;> omega) | assumption | omega | fail)⟩ : rg (u1_2 + 1)), ?_⟩
          exact ih_2 _ _ (show (20001 - (u1_2 + 1) : Int) < ((m_2 : Nat) : Int) from by ((first | omega | (simp only [st_s] <;> omega) | assumption | omega | fail))) hT (show τ_2.1 21 = σ.1 21 from by first | exact W21 | omega) (show τ_2.1 22 = σ.1 22 from by first | exact W22 | omega) (show τ_2.1 23 = σ.1 23 from by first | exact W23 | omega) (show τ_2.1 24 = σ.1 24 from by first | exact W24 | omega) G49 G51 (show 0 ≤ (u1_2 + 1) from by (first | omega | (simp only [st_s] <;> omega) | assumption | omega | fail)) (show (u1_2 + 1) ≤ 20000 from by (first | omega | (simp only [st_s] <;> omega) | assumption | omega | fail)) (show (τ_2.1 16) = (σ.1 16) from by (first | omega | (simp only [st_s] <;> omega) | assumption | omega | fail))
        ·
          refine ⟨(show 0 ≤ (x4 % 65536) ∧ (x4 % 65536) < 1500 from by (first | omega | (simp only [st_s] <;> omega) | assumption | omega | fail)), ?_⟩
          intro x9 r_x9 e_x9
          have b_x9 : 0 ≤ x9 ∧ x9 ≤ 4 := by rw [e_x9]; exact hT.2 13 _
          refine ⟨fun c10 => ?_, fun c10 => ?_⟩
          ·
            refine ⟨(⟨by (first | omega | (simp only [st_s] <;> omega) | assumption | omega | fail), by (first | omega | (simp only [st_s] <;> omega) | assumption | omega | fail)⟩ : rg (u1_2 + 1)), ?_⟩
            exact ih_2 _ _ (show (20001 - (u1_2 + 1) : Int) < ((m_2 : Nat) : Int) from by ((first | omega | (simp only [st_s] <;> omega) | assumption | omega | fail))) hT (show τ_2.1 21 = σ.1 21 from by first | exact W21 | omega) (show τ_2.1 22 = σ.1 22 from by first | exact W22 | omega) (show τ_2.1 23 = σ.1 23 from by first | exact W23 | omega) (show τ_2.1 24 = σ.1 24 from by first | exact W24 | omega) G49 G51 (show 0 ≤ (u1_2 + 1) from by (first | omega | (simp only [st_s] <;> omega) | assumption | omega | fail)) (show (u1_2 + 1) ≤ 20000 from by (first | omega | (simp only [st_s] <;> omega) | assumption | omega | fail)) (show (τ_2.1 16) = (σ.1 16) from by (first | omega | (simp only [st_s] <;> omega) | assumption | omega | fail))
          ·
            refine ⟨_, K_X0_restsOn hT (show 0 ≤ (τ_2.1 24) from by (first | omega | (simp only [st_s] <;> omega) | assumption | omega | fail)) (show (τ_2.1 24) < 1500 from by (first | omega | (simp only [st_s] <;> omega) | assumption | omega | fail)) (show 0 ≤ (x4 % 65536) from by (first | omega | (simp only [st_s] <;> omega) | assumption | omega | fail)) (show (x4 % 65536) < 1500 from by (first | omega | (simp only [st_s] <;> omega) | assumption | omega | fail)), ?_⟩
            intro x13 r_x13 hq
            have q12_1 := hq
            replace q12_1 : 0 ≤ x13 ∧ x13 ≤ 1 := q12_1
            refine ⟨fun c15 => ?_, fun c15 => ?_⟩
            ·
              refine ⟨(⟨by (first | omega | (simp only [st_s] <;> omega) | assumption | omega | fail), by (first | omega | (simp only [st_s] <;> omega) | assumption | omega | fail)⟩ : rg (u1_2 + 1)), ?_⟩
              exact ih_2 _ _ (show (20001 - (u1_2 + 1) : Int) < ((m_2 : Nat) : Int) from by ((first | omega | (simp only [st_s] <;> omega) | assumption | omega | fail))) hT (show τ_2.1 21 = σ.1 21 from by first | exact W21 | omega) (show τ_2.1 22 = σ.1 22 from by first | exact W22 | omega) (show τ_2.1 23 = σ.1 23 from by first | exact W23 | omega) (show τ_2.1 24 = σ.1 24 from by first | exact W24 | omega) G49 G51 (show 0 ≤ (u1_2 + 1) from by (first | omega | (simp only [st_s] <;> omega) | assumption | omega | fail)) (show (u1_2 + 1) ≤ 20000 from by (first | omega | (simp only [st_s] <;> omega) | assumption | omega | fail)) (show (τ_2.1 16) = (σ.1 16) from by (first | omega | (simp only [st_s] <;> omega) | assumption | omega | fail))
            ·
              refine ⟨_, K_X0_addRest hT (show 0 ≤ (τ_2.1 24) from by (first | omega | (simp only [st_s] <;> omega) | assumption | omega | fail)) (show (τ_2.1 24) < 1500 from by (first | omega | (simp only [st_s] <;> omega) | assumption | omega | fail)) (show 0 ≤ (x4 % 65536) from by (first | omega | (simp only [st_s] <;> omega) | assumption | omega | fail)) (show (x4 % 65536) < 1500 from by (first | omega | (simp only [st_s] <;> omega) | assumption | omega | fail)), ?_⟩
              intro τ19 hn_τ19 hf_τ19 hq
              replace hT := hq
              have w16_τ19 : τ19.1 16 = τ_2.1 16 := hf_τ19.1 16 (by decide)
              have w21_τ19 : τ19.1 21 = τ_2.1 21 := hf_τ19.1 21 (by decide)
              have w22_τ19 : τ19.1 22 = τ_2.1 22 := hf_τ19.1 22 (by decide)
              have w23_τ19 : τ19.1 23 = τ_2.1 23 := hf_τ19.1 23 (by decide)
              have w24_τ19 : τ19.1 24 = τ_2.1 24 := hf_τ19.1 24 (by decide)
              have g49_τ19 : τ19.2.1 49 = τ_2.2.1 49 := hf_τ19.2.1 49 (by decide)
              have g51_τ19 : τ19.2.1 51 = τ_2.2.1 51 := hf_τ19.2.1 51 (by decide)
              have W21 : τ19.1 21 = σ.1 21 := by first | exact w21_τ19.trans W21 | omega
              have W22 : τ19.1 22 = σ.1 22 := by first | exact w22_τ19.trans W22 | omega
              have W23 : τ19.1 23 = σ.1 23 := by first | exact w23_τ19.trans W23 | omega
              have W24 : τ19.1 24 = σ.1 24 := by first | exact w24_τ19.trans W24 | omega
              have G49 : τ19.2.1 49 = σ.2.1 49 := (g49_τ19).trans G49
              have G51 : τ19.2.1 51 = σ.2.1 51 := (g51_τ19).trans G51
              have SP : J_sp (τ19.1 24) (τ19.1 21) (τ19.1 23) (τ19.1 22) (τ19.2.1 49) (τ19.2.1 51) := by rw [show (J_sp (τ19.1 24) (τ19.1 21) (τ19.1 23) (τ19.1 22) (τ19.2.1 49) (τ19.2.1 51)) = (J_sp (τ_2.1 24) (τ_2.1 21) (τ_2.1 23) (τ_2.1 22) (τ_2.2.1 49) (τ_2.2.1 51)) from by rw [w21_τ19, w22_τ19, w23_τ19, w24_τ19, g49_τ19, g51_τ19]]; exact SP
              have A49 : ∀ j, (-300) ≤ τ19.2.1 49 j ∧ τ19.2.1 49 j ≤ 67035 := fun j => hT.2 49 j
              have A51 : ∀ j, 0 ≤ τ19.2.1 51 j ∧ τ19.2.1 51 j ≤ 1499 := fun j => hT.2 51 j
              have v16 : 0 ≤ τ19.1 16 ∧ τ19.1 16 ≤ 20000 := hT.1 16
              have v21 : 0 ≤ τ19.1 21 ∧ τ19.1 21 ≤ 20000 := hT.1 21
              have v22 : 0 ≤ τ19.1 22 ∧ τ19.1 22 ≤ 300 := hT.1 22
              have v23 : 0 ≤ τ19.1 23 ∧ τ19.1 23 ≤ 300 := hT.1 23
              have v24 : 0 ≤ τ19.1 24 ∧ τ19.1 24 ≤ 1499 := hT.1 24
              refine ⟨(⟨by (first | omega | (simp only [st_s] <;> omega) | assumption | omega | fail), by (first | omega | (simp only [st_s] <;> omega) | assumption | omega | fail)⟩ : rg (u1_2 + 1)), ?_⟩
              exact ih_2 _ _ (show (20001 - (u1_2 + 1) : Int) < ((m_2 : Nat) : Int) from by ((first | omega | (simp only [st_s] <;> omega) | assumption | omega | fail))) hT (show τ19.1 21 = σ.1 21 from by first | exact W21 | omega) (show τ19.1 22 = σ.1 22 from by first | exact W22 | omega) (show τ19.1 23 = σ.1 23 from by first | exact W23 | omega) (show τ19.1 24 = σ.1 24 from by first | exact W24 | omega) G49 G51 (show 0 ≤ (u1_2 + 1) from by (first | omega | (simp only [st_s] <;> omega) | assumption | omega | fail)) (show (u1_2 + 1) ≤ 20000 from by (first | omega | (simp only [st_s] <;> omega) | assumption | omega | fail)) (show (τ19.1 16) = (σ.1 16) from by (first | omega | (simp only [st_s] <;> omega) | assumption | omega | fail))
  exact l_2 ((20001 - 0 : Int).toNat + 1) _ _ (show (20001 - 0 : Int) < (((20001 - 0 : Int).toNat + 1 : Nat) : Int) from by ((first | omega | (simp only [st_s] <;> omega) | assumption | omega | fail))) hT (show σ.1 21 = σ.1 21 from by first | exact W21 | omega) (show σ.1 22 = σ.1 22 from by first | exact W22 | omega) (show σ.1 23 = σ.1 23 from by first | exact W23 | omega) (show σ.1 24 = σ.1 24 from by first | exact W24 | omega) G49 G51 (show 0 ≤ 0 from by (first | omega | (simp only [st_s] <;> omega) | assumption | omega | fail)) (show 0 ≤ 20000 from by (first | omega | (simp only [st_s] <;> omega) | assumption | omega | fail)) (show (σ.1 16) = (σ.1 16) from by (first | omega | (simp only [st_s] <;> omega) | assumption | omega | fail))
